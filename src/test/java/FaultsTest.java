/** The texts and their FAULTS: promises 2 to 5, and what a text with a FAULT leaves as it is. */
public final class FaultsTest {
    private static int wrong = 0;

    public static void main(String[] args) {
        tokens();
        syntax();
        endOfText();
        roomOfSorts();
        roomOfTokens();
        roomInLaws();
        firstPlaceCounts();
        twice();
        names();
        numbers();
        whatAFaultLeaves();
        whatATextBegins();
        System.out.println(wrong == 0 ? "all faults are as due" : wrong + " answers are not as due");
        if (wrong != 0) {
            System.exit(1);
        }
    }

    private static void due(String what, long got, long want) {
        if (got != want) {
            wrong++;
            System.out.println(what + " answered " + got + ", due is " + want);
        }
    }

    private static int read(KnockerFaces faces, String text) {
        int[] n = new int[5];
        int padded = (text.length() + 19) / 20 * 20;
        for (int i = 0; i < padded; i++) {
            int sign = i < text.length() ? text.charAt(i) : ' ';
            n[i % 20 / 4] = n[i % 20 / 4] << 8 | sign;
            if (i % 20 == 19) {
                faces.feed(n[0], n[1], n[2], n[3], n[4]);
            }
        }
        faces.back(padded - text.length());
        due("bytes fed of " + text, faces.count(8), text.length());
        return faces.read();
    }

    private static void fault(String text, int number, int place) {
        KnockerFaces faces = new KnockerFaces();
        due("read of " + text, read(faces, text), number);
        due("place of " + text, faces.place(), place);
        due("tape behind " + text, faces.count(8), 0);
    }

    private static void good(String text) {
        fault(text, 0, -1);
    }

    private static String repeat(String text, int n) {
        return text.repeat(n);
    }

    private static void tokens() {
        good("");
        good(" \t\r\n");
        good("door a 1 2 3 4;");
        good("door\ta\n1\r2 3 4\t;\n");
        good("doora 1 2 3 4;".replace("doora", "door a"));
        good("door abcdefgh 0001 0 99 0099;");
        good("door a1 2 3 4;caller b5 6 7 8;");
        good("near 0;near 396;wind 0;wind 100;seed 0;seed 9999;");
        good("gives=1;wears=0;pays=(apart+part)*lifts-idle/day;gives=face+unlike*which/rubbed;");
        good("gives=if 1<2 then 3 else 4;");
        fault("door abcdefghi 1 2 3 4;", 1, 5);
        fault("door a 00001 2 3 4;", 1, 7);
        fault("seed 10000;", 1, 5);
        fault("door A 1 2 3 4;", 1, 5);
        fault("door a 1 2 3 4.", 1, 14);
        fault("door a 1 2 3 4;.", 1, 15);
        fault("gives = 1 > 2;", 1, 10);
        fault("\u00e9", 1, 0);
        fault("\u0000", 1, 0);
        fault("door a 1 2 3 4;\u000b", 1, 15);
        fault("gives = 1 % 2;", 1, 10);
    }

    private static void syntax() {
        fault("doora 1 2 3 4;", 1, 0);
        fault(";", 1, 0);
        fault("door a 1 2 3 4;;", 1, 15);
        fault("door 1 2 3 4;", 1, 5);
        fault("door a 1 2 3;", 1, 12);
        fault("door a 1 2 3 4 5;", 1, 15);
        fault("door if 1 2 3 4;", 1, 5);
        fault("door door 1 2 3 4;", 1, 5);
        fault("door rubbed 1 2 3 4;", 1, 5);
        fault("caller near 1 2 3 4;", 1, 7);
        fault("a", 1, 0);
        fault("gives 1;", 1, 6);
        fault("gives = ;", 1, 8);
        fault("gives = -1;", 1, 8);
        fault("gives = 1 +;", 1, 11);
        fault("gives = 1 2;", 1, 10);
        fault("gives = x;", 1, 8);
        fault("gives = (1;", 1, 10);
        fault("gives = 1);", 1, 9);
        fault("gives = ();", 1, 9);
        fault("gives = (1<2);", 1, 10);
        fault("gives = 1 < 2;", 1, 10);
        fault("gives = if 1 then 2 else 3;", 1, 13);
        fault("gives = if 1 < 2 then 3;", 1, 23);
        fault("gives = if 1 < 2 < 3 then 3 else 4;", 1, 17);
        fault("gives = if 1 < 2 then if 1 < 2 then 3 else 4 else 5;", 1, 22);
        fault("gives = 1 + if 1 < 2 then 3 else 4;", 1, 12);
        fault("gives = 1 else 2;", 1, 10);
        fault("wind = 1;", 1, 5);
        fault("wind x;", 1, 5);
        fault("round a b 1;", 1, 11);
        fault("round a 1 1;", 1, 8);
    }

    private static void endOfText() {
        fault("door", 1, 4);
        fault("door a 1 2 3 4", 1, 14);
        fault("door a 1 2 3 4  \n ", 1, 18);
        fault("gives = if 1 < 2 then 3 else", 1, 28);
        fault("gives = (((1)", 1, 13);
        fault("wind ", 1, 5);
    }

    private static void roomOfSorts() {
        String doors = "door a 1 1 1 1;door b 1 1 1 1;door c 1 1 1 1;door d 1 1 1 1;door e 1 1 1 1;door f 1 1 1 1;";
        good(doors);
        fault(doors + " door g 1 1 1 1;", 2, doors.length() + 1);
        fault(doors + "door", 2, doors.length());
        String callers = "caller a 1 1 1 1;caller b 1 1 1 1;caller c 1 1 1 1;caller d 1 1 1 1;caller e 1 1 1 1;";
        good(callers);
        fault(callers + "caller f 1 1 1 1;", 2, callers.length());
        String rounds = "door a 1 1 1 1;caller b 1 1 1 1;" + repeat("round b a 1 0;", 10);
        good(rounds);
        fault(rounds + "round b a 1 0;", 2, rounds.length());
        good(repeat("wind 1;near 2;seed 3;gives = 1;", 20));
    }

    private static void roomOfTokens() {
        // 133 times 3 tokens are 399; "wind 1;" begins with the 400th
        String much = repeat("wind 1;", 133);
        good(much);
        fault(much + "wind 1;", 2, much.length() + 5);
        fault(much + "wind", 1, much.length() + 4);
        fault(much + "wind ;", 1, much.length() + 5);
        fault(much + "wind 12345", 1, much.length() + 5);
        // 4 + 2 * 198 tokens are 400
        String sum = "gives=1" + repeat("+1", 198) + ";";
        good(sum);
        fault(sum + "wind 1;", 2, sum.length());
        fault(sum + ";", 1, sum.length());
        fault(sum + "E", 1, sum.length());
        good(sum + "   ");
        fault("gives=1" + repeat("+1", 199) + ";", 2, 7 + 2 * 198 + 1);
        // a fault of the third to fifth sort counts only if there is none of the first two
        fault("near 397;" + repeat("wind 1;", 133), 2, 9 + 7 * 132 + 5);
    }

    private static void roomInLaws() {
        String arm = "if 1 < 2 then 3 else ";
        good("gives = " + repeat(arm, 4) + "5;");
        fault("gives = " + repeat(arm, 5) + "5;", 2, 8 + 4 * arm.length());
        good("gives = " + repeat(arm, 4) + "5; wears = " + repeat(arm, 4) + "5;");
        good("gives = " + repeat("(", 6) + "1" + repeat(")", 6) + ";");
        fault("gives = " + repeat("(", 7) + "1" + repeat(")", 7) + ";", 2, 14);
        good("gives = (1)+(1)+(1)+(1)+(1)+(1)+(1)*((1)+(1));");
        fault("gives = (1)+" + repeat("(", 7), 2, 18);
        fault("gives = " + repeat("(", 6) + "x", 1, 14);
    }

    private static void firstPlaceCounts() {
        String doors = repeat("door a 1 1 1 1;", 6);
        fault(doors + "door", 2, doors.length());
        fault(doors + "door x 1;", 2, doors.length());
        fault(doors + "x door", 1, doors.length());
        fault("door a 100 1 1 1; x", 1, 18);
        fault("door a 100 1 1 1; door a 1 1 1 1;", 5, 7);
        fault("door a 1 1 1 1; door a 100 1 1 1;", 3, 21);
        fault("round a b 0 0;", 4, 6);
    }

    private static void twice() {
        fault("door a 1 1 1 1; door a 1 1 1 1;", 3, 21);
        fault("door a 1 1 1 1; caller a 1 1 1 1;", 3, 23);
        fault("caller a 1 1 1 1; caller b 1 1 1 1; caller a 1 1 1 1;", 3, 43);
        fault("caller a 1 1 1 1; door a 1 1 1 1;", 3, 23);
        good("door a 1 1 1 1; caller aa 1 1 1 1;");
    }

    private static void names() {
        String two = "door a 1 1 1 1; caller b 1 1 1 1; ";
        good(two + "round b a 1 0;");
        fault(two + "round a b 1 0;", 4, two.length() + 6);
        fault(two + "round b b 1 0;", 4, two.length() + 8);
        fault(two + "round c a 1 0;", 4, two.length() + 6);
        fault("door a 1 1 1 1; round b a 1 0; caller b 1 1 1 1;", 4, 22);
        fault("caller b 1 1 1 1; round b a 1 0; door a 1 1 1 1;", 4, 26);
    }

    private static void numbers() {
        fault("door a 100 1 1 1;", 5, 7);
        fault("door a 99 99 99 100;", 5, 16);
        fault("caller a 1 9999 1 1;", 5, 11);
        String two = "door a 0 0 0 0; caller b 99 99 99 99; ";
        good(two + "round b a 30 29;");
        fault(two + "round b a 0 0;", 5, two.length() + 10);
        fault(two + "round b a 31 0;", 5, two.length() + 10);
        fault(two + "round b a 30 30;", 5, two.length() + 13);
        fault("wind 101;", 5, 5);
        fault("near 397;", 5, 5);
        good("gives = 9999;");
    }

    private static void whatAFaultLeaves() {
        KnockerFaces faces = new KnockerFaces();
        due("place of a new object", faces.place(), -1);
        due("first text", read(faces, "door a 10 20 30 40; caller b 50 50 50 50; round b a 2 1; near 95;"), 0);
        due("lift", faces.lift(0, 0) ? 1 : 0, 1);
        due("days", faces.days(2), 2);
        due("keep", faces.keep(0, false) ? 1 : 0, 1);
        due("tell", faces.tell(0, 0, 1), 0);
        due("hold", faces.hold(1) ? 1 : 0, 1);
        due("faulty text", read(faces, "door a 1 1 1 1; near 397;"), 5);
        due("place", faces.place(), 21);
        due("doors stay", faces.count(0), 1);
        due("callers stay", faces.count(1), 1);
        due("day stays", faces.count(3), 2);
        due("kept stays", faces.count(7), 0);
        due("face stays", faces.door(0, 0), 12);
        due("near stays", faces.door(0, 8), 0);
        due("undone ones stay", faces.count(9), 3);
        due("told ones stay", faces.count(10), 1);
        due("slots stay", faces.count(11), 1);
        due("good text", read(faces, ""), 0);
        due("place without a fault", faces.place(), -1);
    }

    private static void whatATextBegins() {
        KnockerFaces faces = new KnockerFaces();
        read(faces, "door a 10 20 30 40; caller b 50 50 50 50; round b a 2 1; wind 100; near 90; seed 5; gives = 7; pays = 9; wears = 1;");
        faces.lift(0, 0);
        faces.polish(0);
        faces.days(3);
        faces.keep(0, false);
        faces.tell(0, 0, 1);
        faces.hold(0);
        due("next text", read(faces, "door x 50 50 50 50; caller y 91 50 50 50; round y x 3 0;"), 0);
        due("the day", faces.count(3), 0);
        due("all kept", faces.count(7), 1);
        due("nothing undone", faces.undo() ? 1 : 0, 0);
        due("nothing told", faces.count(10), 0);
        due("no slots", faces.count(11), 0);
        due("nothing held", faces.restore(0) ? 1 : 0, 0);
        due("first face", faces.door(0, 0), 50);
        due("lifts", faces.door(0, 4), 0);
        due("idle", faces.door(0, 5), 0);
        due("rubbed", faces.door(0, 6), 0);
        due("money", faces.door(0, 7), 0);
        due("caller's lifts", faces.caller(0, 4), 0);
        due("near is 40 again", faces.door(0, 8), -2);
        due("no wind again", faces.count(12), 0);
        due("gives 1 again", faces.tells(0, 0, 0), 1);
        due("pays 1 again", faces.tells(0, 0, 4), 1);
        due("wears 0 again", faces.lift(0, 0) && faces.days(1) == 1 ? faces.door(0, 0) : -1, 52);
        due("last of its sort", read(faces, "door x 50 50 50 50; caller y 91 50 50 50; near 1; near 41; gives = 3; gives = if 1 < 1 then 4 else 5;"), 0);
        due("the last near", faces.door(0, 8), 0);
        due("the last law", faces.tells(0, 0, 0), 5);
    }
}
