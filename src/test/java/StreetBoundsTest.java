/** The bounds of laws, lifts, days and things done: part II of the terms, and promises 6 to 16. */
public final class StreetBoundsTest {
    private static final int NONE = Bounds.NONE;
    private static final int NOBODY = Bounds.NOBODY;
    private static final int MIN = Bounds.MIN;
    private static final int MAX = Bounds.MAX;

    /** Two doors, three callers, two rounds. */
    private static final String STREET = "door a 10 20 30 40; door b 50 50 50 50;"
            + "caller x 10 20 30 50; caller y 90 90 90 90; caller z 50 50 50 40;"
            + "round x b 2 1; round y a 3 0; gives = 10; wears = 1; pays = unlike / 10;";

    /** The least int of 32 bits, as a law can tell it. */
    private static final String LEAST = "8192*8192*32";

    public static void main(String[] args) throws Exception {
        Bounds.runAll(StreetBoundsTest.class);
    }

    private static void sentence(String section, String words) {
        Bounds.sentence(section, words);
    }

    private static void due(String call, long got, long want) {
        Bounds.due(call, got, want);
    }

    private static void due(String call, boolean got, boolean want) {
        Bounds.due(call, got, want);
    }

    private static void face(KnockerFaces faces, int door, int... parts) {
        Bounds.face(faces, door, parts);
    }

    private static KnockerFaces of(String text) {
        return Bounds.of(text);
    }

    // ---- II: laws

    /** What GIVES tells of part 0 of a door that is 99 apart from the caller there, all in all. */
    private static int gives(String law) {
        return of("door a 0 0 0 0; caller x 99 0 0 0; gives = " + law + ";").tells(0, 0, 0);
    }

    private static int pays(String law) {
        return of("door a 0 0 0 0; caller x 99 0 0 0; pays = " + law + ";").tells(0, 0, 4);
    }

    /** What wears off on day 0 of a door that a caller has made 99 at part 0, from 0. */
    private static int wears(String law) {
        KnockerFaces faces = of("door a 0 0 0 0; caller x 99 0 0 0; gives = apart; wears = " + law + ";");
        faces.lift(0, 0);
        faces.days(1);
        return 99 - faces.door(0, 0);
    }

    private static void tells(String law, int want) {
        due("gives = " + law, gives(law), want);
        due("pays = " + law, pays(law), want);
        due("wears = " + law, wears(law), want);
    }

    static void daysAreCountedOn() {
        sentence("II", "DAYS are counted on.");
        KnockerFaces faces = of(STREET);
        due("days(60)", faces.days(60), 60);
        due("days(1)", faces.days(1), 61);
        due("days(0)", faces.days(0), 61);
        for (int i = 1; i <= 450; i++) {
            due("days(60)", faces.days(60), 61 + 60 * i);
        }
    }

    static void theFirstIfThatHolds() {
        sentence("II", "LAWS: the E of the first if that holds (one less than the other), else the last one;");
        tells("if 1 < 2 then 3 else if 1 < 2 then 4 else 5", 3);
        tells("if 2 < 1 then 3 else if 1 < 2 then 4 else 5", 4);
        tells("if 2 < 1 then 3 else if 2 < 1 then 4 else 5", 5);
        tells("if 2 < 2 then 3 else 5", 5);
        tells("if 1 < 2 then 3 else 5", 3);
        tells("if 0 - 1 < 0 then 3 else 5", 3);
        tells("if 0 < 0 - 1 then 3 else 5", 5);
        tells("if " + LEAST + " - 1 < " + LEAST + " then 3 else 5", 5);
        tells("if " + LEAST + " < " + LEAST + " - 1 then 3 else 5", 3);
    }

    static void intsWrap() {
        sentence("II", "ints of 32 bits that wrap");
        tells("if " + LEAST + " < 0 then 3 else 5", 3);
        tells("if " + LEAST + " - 1 < 0 then 3 else 5", 5);
        tells("if " + LEAST + " - 1 + 1 < 0 then 3 else 5", 3);
        tells("if 0 - " + LEAST + " < 0 then 3 else 5", 3);
        tells(LEAST + " * 2 + 7", 7);
        // 9999 * 9999 * 9999 is 999700029999, in 32 bits -1027349969
        tells("9999*9999*9999/9999/2000", 0);
        tells("0 - 9999*9999*9999/9999/2000", 51);
        tells("if " + LEAST + " / (0 - 1) < 0 then 3 else 5", 3);
    }

    static void roundedTowards0() {
        sentence("II", "/ rounded towards 0;");
        tells("7 / 2", 3);
        tells("10 + (0 - 7) / 2", 7);
        tells("10 + 7 / (0 - 2)", 7);
        tells("10 + (0 - 7) / (0 - 2)", 13);
        tells("10 + (0 - 1) / 2", 10);
        tells("1 / 2 * 2 + 9", 9);
        tells("100 / 5 / 2", 10);
    }

    static void dividedBy0() {
        sentence("II", "a LAW in which something that is looked at is divided by 0 is 0.");
        tells("9 / 0", 0);
        tells("0 / 0", 0);
        tells("9 + 9 / (3 - 3)", 0);
        tells("9 + 0 * (9 / 0)", 0);
        tells("if 9 / 0 < 5 then 9 else 9", 0);
        tells("if 5 < 9 / 0 then 9 else 9", 0);
        tells("if 1 < 2 then 9 / 0 else 9", 0);
        tells("if 2 < 1 then 9 else 9 / 0", 0);
        tells("if 2 < 1 then 9 else if 1 / 0 < 1 then 9 else 9", 0);
        // not looked at
        tells("if 1 < 2 then 9 else 9 / 0", 9);
        tells("if 2 < 1 then 9 / 0 else 9", 9);
        tells("if 1 < 2 then 9 else if 1 / 0 < 1 then 8 else 7", 9);
        tells("if 2 < 1 then 9 / 0 else if 2 < 1 then 8 / 0 else if 1 < 2 then 6 else 5 / 0", 6);
    }

    static void varPart() {
        sentence("II", "Of a DOOR and a PART: part: its number 0 .. 3 (PAYS: 0)");
        KnockerFaces faces = of("door a 0 0 0 0; caller x 99 99 99 99; gives = part + 5; pays = part + 5; wears = part + 1;");
        for (int part = 0; part < 4; part++) {
            due("gives of " + part, faces.tells(0, 0, part), 5 + part);
        }
        due("pays", faces.tells(0, 0, 4), 5);
        faces.lift(0, 0);
        faces.days(1);
        face(faces, 0, 4, 4, 4, 4);
    }

    static void varFace() {
        sentence("II", "face: what it is (PAYS: 0)");
        KnockerFaces faces = of("door a 0 1 20 99; caller x 99 99 99 0; gives = face; pays = face + 5; wears = face / 20;");
        due("gives of 0", faces.tells(0, 0, 0), 0);
        due("gives of 1", faces.tells(0, 0, 1), 1);
        due("gives of 2", faces.tells(0, 0, 2), 20);
        due("gives of 3", faces.tells(0, 0, 3), 99);
        due("pays", faces.tells(0, 0, 4), 5);
        faces.lift(0, 0);
        face(faces, 0, 0, 2, 40, 0);
        faces.days(1);
        face(faces, 0, 0, 2, 38, 0);
    }

    static void varLifts() {
        sentence("II", "lifts: how often the DOOR was lifted so far");
        KnockerFaces faces = of("door a 0 0 0 0; door b 0 0 0 0; caller x 99 0 0 0; caller y 99 0 0 0; gives = lifts; pays = lifts; wears = lifts;");
        faces.lift(0, 0);
        due("the first lift gives nothing", faces.door(0, 0), 0);
        faces.lift(0, 1);
        due("the second lift, by another", faces.door(0, 0), 1);
        faces.lift(0, 0);
        due("the third lift", faces.door(0, 0), 3);
        due("paid", faces.door(0, 7), 0 + 1 + 2);
        due("of another door", faces.tells(1, 0, 0), 0);
        faces.lift(0, 0);
        faces.days(1);
        due("what wears off: today's lifts count", faces.door(0, 0), 6 - 4);
    }

    static void varIdle() {
        sentence("II", "idle: for how many days on end, ahead of this one, it was not");
        KnockerFaces faces = of("door a 0 0 0 0; caller x 99 0 0 0; gives = idle + 10; pays = idle; wears = idle;");
        due("day 0", faces.tells(0, 0, 4), 0);
        faces.days(3);
        due("day 3", faces.tells(0, 0, 4), 3);
        faces.lift(0, 0);
        due("lifted today, still", faces.tells(0, 0, 4), 3);
        due("given", faces.door(0, 0), 13);
        faces.days(1);
        due("worn off by 3", faces.door(0, 0), 10);
        due("the day behind", faces.tells(0, 0, 4), 0);
        faces.days(1);
        due("worn off by 0", faces.door(0, 0), 10);
        due("a day more", faces.tells(0, 0, 4), 1);
        faces.days(1);
        due("worn off by 1", faces.door(0, 0), 9);
        Bounds.days(faces, 998);
        due("1000 days", faces.tells(0, 0, 0), 99);
        KnockerFaces big = of("door a 0 0 0 0; caller x 99 0 0 0; gives = idle - 950;");
        Bounds.days(big, 998);
        due("998 days", big.tells(0, 0, 0), 48);
        big.days(1);
        due("999 days", big.tells(0, 0, 0), 49);
        big.days(1);
        due("1000 days", big.tells(0, 0, 0), 49);
    }

    static void varRubbedAndDay() {
        sentence("II", "rubbed: how often it was polished; day;");
        KnockerFaces faces = of("door a 0 0 0 0; door b 0 0 0 0; caller x 99 0 0 0; gives = rubbed; pays = day; wears = rubbed;");
        due("rubbed", faces.tells(0, 0, 0), 0);
        faces.polish(0);
        faces.polish(0);
        due("rubbed", faces.tells(0, 0, 0), 2);
        due("another door", faces.tells(1, 0, 0), 0);
        due("day", faces.tells(0, 0, 4), 0);
        faces.days(7);
        due("day", faces.tells(0, 0, 4), 7);
        faces.lift(0, 0);
        faces.lift(0, 0);
        due("given", faces.door(0, 0), 4);
        faces.days(1);
        due("worn off", faces.door(0, 0), 2);
        KnockerFaces day = of("door a 0 0 0 0; caller x 99 0 0 0; gives = apart; wears = day;");
        day.lift(0, 0);
        day.days(4);
        due("0, 1, 2, 3 worn off", day.door(0, 0), 99 - 6);
    }

    static void varsOfGivesAndPays() {
        sentence("II", "GIVES, PAYS: apart: how much the PART and the CALLER's differ (PAYS: 0); unlike: how much all four do, added;"
                + " which: the CALLER's number;");
        String town = "door a 0 99 50 50; caller w 0 0 0 0; caller x 99 0 60 50;";
        KnockerFaces apart = of(town + "gives = apart / 2; pays = apart + 5;");
        due("apart, up", apart.tells(0, 1, 0), 49);
        due("apart, down", apart.tells(0, 1, 1), 49);
        due("apart", apart.tells(0, 1, 2), 5);
        due("apart 0", apart.tells(0, 1, 3), 0);
        due("apart, pays", apart.tells(0, 1, 4), 5);
        KnockerFaces unlike = of(town + "gives = unlike - 200; pays = unlike - 200;");
        due("unlike", unlike.tells(0, 1, 0), 8);
        due("unlike, pays", unlike.tells(0, 1, 4), 8);
        KnockerFaces which = of(town + "gives = which + 7; pays = which + 7;");
        due("which 0", which.tells(0, 0, 1), 7);
        due("which 1", which.tells(0, 1, 1), 8);
        due("which 0, pays", which.tells(0, 0, 4), 7);
        due("which 1, pays", which.tells(0, 1, 4), 8);
        due("unlike 396", of("door a 0 0 0 0; caller x 99 99 99 99; gives = unlike - 350;").tells(0, 0, 0), 46);
    }

    static void varsOfWears() {
        sentence("II", "WEARS: apart: how much the PART and that of the FIRST face differ; unlike: all four, added; which: the DOOR's number.");
        String town = "door w 0 0 0 0; door a 10 10 10 10; caller x 20 4 10 13; gives = apart; wears = ";
        KnockerFaces apart = of(town + "apart / 2;");
        apart.lift(1, 0);
        apart.days(1);
        face(apart, 1, 15, 7, 10, 12);
        KnockerFaces unlike = of(town + "unlike - 17;");
        unlike.lift(1, 0);
        unlike.days(1);
        face(unlike, 1, 18, 6, 10, 11);
        KnockerFaces which = of(town + "which * 2;");
        which.lift(1, 0);
        which.lift(0, 0);
        which.days(1);
        face(which, 1, 18, 6, 10, 11);
        face(which, 0, 20, 4, 10, 13);
    }

    static void givesHeldToApart() {
        sentence("II", "GIVES, WEARS, held to 0 .. apart;");
        due("more than apart", gives("100"), 99);
        due("apart", gives("99"), 99);
        due("one less", gives("98"), 98);
        due("below 0", gives("0 - 1"), 0);
        due("the least int", gives(LEAST), 0);
        due("the most", gives(LEAST + " - 1"), 99);
        due("wears more than apart", wears("100"), 99);
        due("wears apart", wears("99"), 99);
        due("wears one less", wears("98"), 98);
        due("wears below 0", wears("0 - 1"), 0);
        due("wears the least int", wears(LEAST), 0);
        KnockerFaces faces = of("door a 50 50 50 50; caller x 51 49 50 99; gives = 9; wears = 9;");
        faces.lift(0, 0);
        face(faces, 0, 51, 49, 50, 59);
        faces.lift(0, 0);
        faces.days(1);
        face(faces, 0, 50, 50, 50, 59);
    }

    static void paysHeldTo99() {
        sentence("II", "PAYS, held to 0 .. 99.");
        due("99", pays("99"), 99);
        due("100", pays("100"), 99);
        due("the most", pays(LEAST + " - 1"), 99);
        due("0", pays("0"), 0);
        due("below 0", pays("0 - 1"), 0);
        due("the least int", pays(LEAST), 0);
        KnockerFaces faces = of("door a 0 0 0 0; caller x 0 0 0 0; pays = 100 - 101 * lifts;");
        faces.lift(0, 0);
        due("paid 99", faces.door(0, 7), 99);
        faces.lift(0, 0);
        due("paid 0", faces.door(0, 7), 99);
    }

    // ---- II: lots, lifts and days

    static void lots() {
        sentence("II", "LOT n of a SEED and a which: h is the SEED; for each of 151, which: h becomes (h and it, each bit of which is in"
                + " just one) times 1103515245 and 12345 more, then h and h moved 15 bits down (zeros come in), likewise; the rest of h,"
                + " moved 1 bit down likewise, by n (32 bits that wrap).");
        for (int seed : new int[] {0, 1, 2, 7, 151, 4096, 9998, 9999}) {
            KnockerFaces faces = of("door a 99 99 99 99; door b 99 99 99 99; wind 50; seed " + seed + ";");
            int[][] parts = {{99, 99, 99, 99}, {99, 99, 99, 99}};
            for (int day = 0; day < 40; day++) {
                boolean wind = Bounds.lot(100, seed, 16 * day) < 50;
                due("wind by seed " + seed + " on day " + day, faces.count(12), wind ? 1 : 0);
                faces.days(1);
                for (int door = 0; door < 2 && wind; door++) {
                    parts[door][Bounds.lot(4, seed, 16 * day + 1 + door)]--;
                }
            }
            face(faces, 0, parts[0]);
            face(faces, 1, parts[1]);
        }
    }

    static void aCallerPays() {
        sentence("II", "A LIFT of a DOOR by a CALLER: the CALLER pays to the house what PAYS tells (999,999 at most, each house);");
        KnockerFaces faces = of("door a 0 0 0 0; door b 0 0 0 0; caller x 0 0 0 0; pays = 98;" + "round x a 1 0;".repeat(10));
        Bounds.days(faces, 1020);
        due("10200 lifts", faces.door(0, 7), 999600);
        for (int i = 1; i <= 4; i++) {
            faces.lift(0, 0);
            due("by hand", faces.door(0, 7), 999600 + 98 * i);
        }
        faces.lift(0, 0);
        due("at most", faces.door(0, 7), 999999);
        faces.lift(0, 0);
        due("at most", faces.door(0, 7), 999999);
        due("it was lifted", faces.door(0, 4), 10206);
        faces.days(1);
        due("at most", faces.door(0, 7), 999999);
        faces.lift(1, 0);
        due("each house", faces.door(1, 7), 98);
        due("all houses", faces.count(6), 999999 + 98);
    }

    static void allFourByHowItWas() {
        sentence("II", "each PART goes by what GIVES tells to the CALLER's, all four by how it was ahead of it;");
        KnockerFaces faces = of("door a 0 80 40 39; caller x 40 40 40 40; gives = unlike / 9; pays = unlike;");
        faces.lift(0, 0);
        face(faces, 0, 9, 71, 40, 40);
        due("paid by how it was", faces.door(0, 7), 81);
        faces.lift(0, 0);
        face(faces, 0, 15, 65, 40, 40);
        due("paid by how it was", faces.door(0, 7), 81 + 62);
    }

    static void liftedOnceMore() {
        sentence("II", "it was lifted once more.");
        KnockerFaces faces = of(STREET);
        for (int i = 1; i <= 20; i++) {
            faces.lift(0, i % 3);
            due("door(0, 4)", faces.door(0, 4), i);
            due("door(1, 4)", faces.door(1, 4), 0);
        }
    }

    static void roundsThatAreDue() {
        sentence("II", "A DAY: each ROUND that is kept and due (the day is FROM, or a multiple of EVERY behind it)");
        int[][] rounds = {{1, 0}, {1, 29}, {30, 0}, {30, 29}, {5, 12}, {7, 3}};
        for (int[] round : rounds) {
            KnockerFaces faces = of("door a 0 0 0 0; caller x 0 0 0 0; round x a " + round[0] + " " + round[1] + ";");
            int lifts = 0;
            for (int day = 0; day < 125; day++) {
                boolean due = day == round[1] || day > round[1] && (day - round[1]) % round[0] == 0;
                due("due on day " + day, faces.round(0, 5), due ? 1 : 0);
                faces.days(1);
                lifts += due ? 1 : 0;
                due("lifts behind day " + day, faces.door(0, 4), lifts);
            }
        }
        KnockerFaces faces = of("door a 0 0 0 0; caller x 0 0 0 0; round x a 1 0;");
        faces.keep(0, false);
        faces.days(5);
        due("given up", faces.door(0, 4), 0);
        faces.keep(0, true);
        faces.days(5);
        due("kept again", faces.door(0, 4), 5);
    }

    static void roundsInOrder() {
        sentence("II", "in order, is a LIFT, one behind the other;");
        String town = "door a 10 10 10 10; caller x 50 10 10 10; caller y 10 10 10 10; gives = 15; pays = apart + unlike;";
        KnockerFaces faces = of(town + "round x a 1 0; round y a 1 0;");
        faces.days(1);
        face(faces, 0, 10, 10, 10, 10);
        due("paid", faces.door(0, 7), 40 + 15);
        faces = of(town + "round y a 1 0; round x a 1 0;");
        faces.days(1);
        face(faces, 0, 25, 10, 10, 10);
        due("paid", faces.door(0, 7), 0 + 40);
    }

    static void ifThereIsWind() {
        sentence("II", "then, if there is WIND (LOT 100 of the SEED and 16 * the day is less than that)");
        for (int day : new int[] {0, 1, 2, 59, 60, 999, 20000}) {
            int lot = Bounds.lot(100, 5, 16 * day);
            KnockerFaces less = of("door a 99 99 99 99; seed 5; wind " + (lot + 1) + ";");
            Bounds.days(less, day);
            due("less than that, day " + day, less.count(12), 1);
            KnockerFaces not = of("door a 99 99 99 99; seed 5; wind " + lot + ";");
            Bounds.days(not, day);
            due("not less, day " + day, not.count(12), 0);
        }
        KnockerFaces always = of("door a 99 99 99 99; wind 100;");
        always.days(60);
        due("wind 100: every day", always.door(0, 9), 60);
        KnockerFaces never = of("door a 99 99 99 99; wind 0;");
        for (int i = 0; i < 100; i++) {
            never.days(60);
        }
        due("wind 0: on no day", never.door(0, 9), 0);
    }

    static void thePartThatIsLess() {
        sentence("II", "of each DOOR the PART LOT 4 of the SEED and 16 * the day and 1 and the DOOR's number is 1 less (0 at least);");
        String doors = "";
        for (char name = 'a'; name <= 'f'; name++) {
            doors += "door " + name + " 9 9 9 9;";
        }
        for (int seed = 0; seed < 30; seed++) {
            KnockerFaces faces = of(doors + "wind 100; seed " + seed + ";");
            faces.days(1);
            for (int door = 0; door < 6; door++) {
                for (int part = 0; part < 4; part++) {
                    due("seed " + seed, faces.door(door, part), Bounds.lot(4, seed, 1 + door) == part ? 8 : 9);
                }
            }
        }
        KnockerFaces none = of("door a 0 0 0 0; door b 1 1 1 1; wind 100;");
        none.days(60);
        face(none, 0, 0, 0, 0, 0);
        face(none, 1, 0, 0, 0, 0);
        // behind the lifts, ahead of what wears off
        String town = "door a 10 10 10 10; caller x 20 20 20 20; round x a 1 0; gives = apart; wind 100;";
        KnockerFaces lifted = of(town);
        lifted.days(1);
        due("behind the lifts", lifted.unlike(0, 0), 1);
        KnockerFaces worn = of(town + "wears = apart;");
        worn.days(1);
        face(worn, 0, 10, 10, 10, 10);
    }

    static void whatWearsOff() {
        sentence("II", "then each PART of each DOOR goes by what WEARS tells back to the FIRST face's, all four by how it was ahead of it;");
        KnockerFaces faces = of("door a 50 50 50 50; door b 1 1 1 1; caller x 60 40 50 51; gives = apart; wears = unlike / 4;");
        faces.lift(0, 0);
        faces.lift(1, 0);
        faces.days(1);
        face(faces, 0, 55, 45, 50, 50);
        int off = 59 + 39 + 49 + 50;
        face(faces, 1, 60 - off / 4, 1, 50 - off / 4, 51 - off / 4);
    }

    static void idle() {
        sentence("II", "DOORS lifted today (by hand, too) are idle 0, others a day more (999 at most).");
        KnockerFaces faces = of("door a 1 1 1 1; door b 1 1 1 1; door c 1 1 1 1; caller x 1 1 1 1; round x b 1 0;");
        faces.days(5);
        due("others", faces.door(0, 5), 5);
        due("on a round", faces.door(1, 5), 0);
        faces.lift(0, 0);
        due("until the day is over", faces.door(0, 5), 5);
        faces.polish(2);
        faces.file(2, 0);
        faces.days(1);
        due("by hand", faces.door(0, 5), 0);
        due("polished and filed only", faces.door(2, 5), 6);
        faces.days(1);
        due("the lift of a day counts for that day", faces.door(0, 5), 1);
        Bounds.days(faces, 992);
        due("999 days", faces.door(2, 5), 999);
        due("993 days", faces.door(0, 5), 993);
        faces.days(1);
        due("at most", faces.door(2, 5), 999);
        faces.days(60);
        due("at most", faces.door(0, 5), 999);
        faces.lift(0, 0);
        faces.days(1);
        due("lifted", faces.door(0, 5), 0);
    }

    static void theNextDay() {
        sentence("II", "It is the next day.");
        KnockerFaces faces = of(STREET);
        for (int day = 1; day < 50; day++) {
            due("days(1)", faces.days(1), day);
            due("count(3)", faces.count(3), day);
        }
    }

    static void unlikeAdded() {
        sentence("II", "UNLIKE of a DOOR and a CALLER: how much all four PARTS differ, added.");
        KnockerFaces faces = of("door a 0 99 0 99; door b 5 5 5 5; caller x 99 0 99 0; caller y 0 99 0 99; caller z 4 6 5 5;");
        due("most", faces.unlike(0, 0), 396);
        due("least", faces.unlike(0, 1), 0);
        due("both ways", faces.unlike(1, 2), 2);
    }

    static void knownByTheFirst() {
        sentence("II", "A DOOR is KNOWN by the CALLER to whom it is least UNLIKE, of alike ones the first");
        String door = "door a 50 50 50 50; near 40;";
        due("the least", of(door + "caller x 52 50 50 50; caller y 50 51 50 50; caller z 50 50 48 50;").door(0, 8), 1);
        due("of alike ones the first", of(door + "caller x 53 50 50 50; caller y 50 48 50 50; caller z 51 51 50 50;").door(0, 8), 1);
        due("all alike", of(door + "caller x 50 50 50 50; caller y 50 50 50 50;").door(0, 8), 0);
        due("the last one", of(door + FOUR_FAR + "caller e 50 50 50 49;").door(0, 8), 4);
    }

    private static final String FOUR_FAR = "caller p 52 50 50 50; caller q 52 50 50 50; caller r 52 50 50 50; caller s 52 50 50 50;";

    static void nearOrLess() {
        sentence("II", "if that is NEAR or less; else by nobody.");
        String two = "door a 0 0 0 0; caller x 10 10 10 10; near ";
        due("39", of(two + "39;").door(0, 8), NOBODY);
        due("40", of(two + "40;").door(0, 8), 0);
        due("41", of(two + "41;").door(0, 8), 0);
        due("0, just like", of("door a 1 1 1 1; caller x 1 1 1 1; near 0;").door(0, 8), 0);
        due("0, one off", of("door a 1 1 1 1; caller x 1 1 1 0; near 0;").door(0, 8), NOBODY);
        due("396", of("door a 0 0 0 0; caller x 99 99 99 99; near 396;").door(0, 8), 0);
        due("395", of("door a 0 0 0 0; caller x 99 99 99 99; near 395;").door(0, 8), NOBODY);
        due("no callers", of("door a 0 0 0 0; near 396;").door(0, 8), NOBODY);
    }

    static void halfRoundedDown() {
        sentence("II", "By hand: a LIFT; a DOOR is POLISHED: each PART goes half of what it differs, rounded down, back to the FIRST face's;");
        KnockerFaces faces = of("door a 0 99 50 50; caller x 99 0 53 48; gives = apart;");
        faces.lift(0, 0);
        faces.polish(0);
        face(faces, 0, 50, 49, 52, 49);
        faces.polish(0);
        face(faces, 0, 25, 74, 51, 49);
        faces.polish(0);
        face(faces, 0, 13, 86, 51, 49);
        for (int i = 0; i < 4; i++) {
            faces.polish(0);
        }
        face(faces, 0, 1, 98, 51, 49);
        faces.polish(0);
        face(faces, 0, 1, 98, 51, 49);
    }

    static void filedAndGivenUp() {
        sentence("II", "a PART is FILED: 0; a ROUND is given up, or kept again; DAYS go by.");
        KnockerFaces faces = of(STREET);
        faces.file(0, 1);
        face(faces, 0, 10, 0, 30, 40);
        due("the first face stays", faces.door(0, 9), 20);
        faces.keep(1, false);
        faces.days(1);
        due("given up", faces.door(0, 4), 0);
        face(faces, 0, 10, 1, 30, 40);
        faces.keep(1, true);
        faces.days(3);
        due("kept again", faces.door(0, 4), 1);
    }

    // ---- promises 6 to 10

    static void p6Door() {
        sentence("Promise 6", "Of a DOOR: what 0 .. 3 its PARTS, 4 how often lifted so far, 5 idle, 6 how often POLISHED, 7 what the house has,"
                + " 8 by whom KNOWN (-2: nobody), 9 how much its PARTS differ from the FIRST face's, added.");
        KnockerFaces faces = of(STREET);
        faces.days(1);
        faces.lift(1, 1);
        faces.lift(1, 1);
        faces.polish(1);
        int[] due = {60, 60, 60, 60, 2, 1, 1, 16 + 12, NOBODY, 40};
        for (int what = 0; what <= 9; what++) {
            due("door(1, " + what + ")", faces.door(1, what), due[what]);
        }
        int[] other = {19, 29, 39, 49, 1, 0, 0, 26, 0, 36};
        for (int what = 0; what <= 9; what++) {
            due("door(0, " + what + ")", faces.door(0, what), other[what]);
        }
    }

    static void p6Others() {
        sentence("Promise 6", "NONE for others.");
        KnockerFaces faces = of(STREET);
        for (int what : Bounds.none(10)) {
            due("door(0, " + what + ")", faces.door(0, what), NONE);
        }
        for (int door : Bounds.none(2)) {
            due("door(" + door + ", 0)", faces.door(door, 0), NONE);
            due("door(" + door + ", 8)", faces.door(door, 8), NONE);
        }
        due("no doors", new KnockerFaces().door(0, 8), NONE);
    }

    static void p7Caller() {
        sentence("Promise 7", "Of a CALLER: what 0 .. 3 their PARTS, 4 how often they lifted any DOOR so far, 5 DOORS that are KNOWN by them (bits).");
        KnockerFaces faces = of("door a 1 1 1 1; door b 90 90 90 90; door c 1 1 1 1; door d 1 1 1 1; door e 1 1 1 1; door f 2 1 1 1;"
                + "caller x 0 1 2 3; caller y 90 99 90 90; round x b 1 0; round x c 2 0;");
        for (int part = 0; part < 4; part++) {
            due("part " + part, faces.caller(0, part), part);
        }
        due("doors of x", faces.caller(0, 5), 61);
        due("doors of y", faces.caller(1, 5), 2);
        faces.lift(0, 0);
        faces.lift(1, 0);
        faces.lift(1, 1);
        faces.days(3);
        due("lifts of x", faces.caller(0, 4), 2 + 3 + 2);
        due("lifts of y", faces.caller(1, 4), 1);
    }

    static void p7Others() {
        sentence("Promise 7", "NONE for others.");
        KnockerFaces faces = of(STREET);
        for (int what : Bounds.none(6)) {
            due("caller(0, " + what + ")", faces.caller(0, what), NONE);
        }
        for (int caller : Bounds.none(3)) {
            due("caller(" + caller + ", 0)", faces.caller(caller, 0), NONE);
            due("caller(" + caller + ", 5)", faces.caller(caller, 5), NONE);
        }
    }

    static void p8Round() {
        sentence("Promise 8", "Of a ROUND: what 0 CALLER, 1 DOOR, 2 EVERY, 3 FROM, 4: 1 kept, 0 given up, 5: 1 due today (kept or not), else 0.");
        KnockerFaces faces = of("door a 1 1 1 1; door b 1 1 1 1; caller x 1 1 1 1; caller y 1 1 1 1; round y b 30 29; round x b 1 0;");
        int[] first = {1, 1, 30, 29, 1, 0};
        int[] second = {0, 1, 1, 0, 1, 1};
        for (int what = 0; what < 6; what++) {
            due("round(0, " + what + ")", faces.round(0, what), first[what]);
            due("round(1, " + what + ")", faces.round(1, what), second[what]);
        }
        faces.keep(1, false);
        due("given up", faces.round(1, 4), 0);
        due("due, kept or not", faces.round(1, 5), 1);
        due("the other is kept", faces.round(0, 4), 1);
        faces.days(29);
        due("due on day 29", faces.round(0, 5), 1);
        faces.days(1);
        due("not on day 30", faces.round(0, 5), 0);
        faces.days(29);
        due("due on day 59", faces.round(0, 5), 1);
    }

    static void p8Others() {
        sentence("Promise 8", "NONE for others.");
        KnockerFaces faces = of(STREET);
        for (int what : Bounds.none(6)) {
            due("round(0, " + what + ")", faces.round(0, what), NONE);
        }
        for (int round : Bounds.none(2)) {
            due("round(" + round + ", 0)", faces.round(round, 0), NONE);
            due("round(" + round + ", 4)", faces.round(round, 4), NONE);
            due("round(" + round + ", 5)", faces.round(round, 5), NONE);
        }
    }

    static void p9Unlike() {
        sentence("Promise 9", "UNLIKE; NONE: no such ones.");
        KnockerFaces faces = of(STREET);
        due("unlike(1, 2)", faces.unlike(1, 2), 10);
        for (int door : Bounds.none(2)) {
            due("unlike(" + door + ", 0)", faces.unlike(door, 0), NONE);
        }
        for (int caller : Bounds.none(3)) {
            due("unlike(0, " + caller + ")", faces.unlike(0, caller), NONE);
        }
        due("no callers", of("door a 1 1 1 1;").unlike(0, 0), NONE);
        due("no doors", of("caller a 1 1 1 1;").unlike(0, 0), NONE);
    }

    static void p10Tells() {
        sentence("Promise 10", "What a LAW tells now: what 0 .. 3 GIVES of that PART, 4 PAYS;");
        KnockerFaces faces = of("door a 0 0 0 0; caller x 99 99 99 99; gives = 10 * part + day; pays = 50 + day;");
        for (int day = 0; day < 3; day++) {
            for (int part = 0; part < 4; part++) {
                due("gives of " + part, faces.tells(0, 0, part), 10 * part + day);
            }
            due("pays", faces.tells(0, 0, 4), 50 + day);
            faces.days(1);
        }
        due("nothing happens", faces.count(5), 0);
    }

    static void p10NoSuchOnes() {
        sentence("Promise 10", "NONE: no such ones.");
        KnockerFaces faces = of(STREET);
        for (int door : Bounds.none(2)) {
            due("tells(" + door + ", 0, 0)", faces.tells(door, 0, 0), NONE);
            due("tells(" + door + ", 0, 4)", faces.tells(door, 0, 4), NONE);
        }
        for (int caller : Bounds.none(3)) {
            due("tells(0, " + caller + ", 0)", faces.tells(0, caller, 0), NONE);
            due("tells(0, " + caller + ", 4)", faces.tells(0, caller, 4), NONE);
        }
        for (int what : Bounds.none(5)) {
            due("tells(0, 0, " + what + ")", faces.tells(0, 0, what), NONE);
        }
    }

    // ---- promises 11 to 16

    static void p11Lift() {
        sentence("Promise 11", "A LIFT: true;");
        KnockerFaces faces = of(STREET);
        due("lift(1, 2)", faces.lift(1, 2), true);
        face(faces, 1, 50, 50, 50, 40);
        due("a lift that moves nothing", faces.lift(1, 2), true);
        due("lifted", faces.door(1, 4), 2);
        due("things done", faces.count(9), 2);
    }

    static void p11NoSuchOnes() {
        sentence("Promise 11", "false, and nothing happens: no such ones.");
        KnockerFaces faces = of(STREET);
        String before = Bounds.all(faces);
        for (int door : Bounds.none(2)) {
            due("lift(" + door + ", 0)", faces.lift(door, 0), false);
        }
        for (int caller : Bounds.none(3)) {
            due("lift(0, " + caller + ")", faces.lift(0, caller), false);
        }
        Bounds.same("lift", faces, before);
        due("no callers", of("door a 1 1 1 1;").lift(0, 0), false);
        due("no doors", of("caller a 1 1 1 1;").lift(0, 0), false);
    }

    static void p12Polish() {
        sentence("Promise 12", "POLISHED: true; false, and nothing happens: no such DOOR.");
        KnockerFaces faces = of(STREET);
        String before = Bounds.all(faces);
        for (int door : Bounds.none(2)) {
            due("polish(" + door + ")", faces.polish(door), false);
        }
        Bounds.same("polish", faces, before);
        due("polish of a first face", faces.polish(1), true);
        due("rubbed", faces.door(1, 6), 1);
        due("a thing done", faces.count(9), 1);
        due("no doors", new KnockerFaces().polish(0), false);
    }

    static void p13File() {
        sentence("Promise 13", "FILED: true; false, and nothing happens: it is 0, no such ones.");
        KnockerFaces faces = of("door a 0 1 99 50; door b 1 1 1 1;");
        String before = Bounds.all(faces);
        due("it is 0", faces.file(0, 0), false);
        for (int door : Bounds.none(2)) {
            due("file(" + door + ", 1)", faces.file(door, 1), false);
        }
        for (int part : Bounds.none(4)) {
            due("file(0, " + part + ")", faces.file(0, part), false);
        }
        Bounds.same("file", faces, before);
        due("file of 1", faces.file(0, 1), true);
        due("file of 99", faces.file(0, 2), true);
        face(faces, 0, 0, 0, 0, 50);
        due("again", faces.file(0, 1), false);
        due("the last part", faces.file(1, 3), true);
        due("things done", faces.count(9), 3);
    }

    static void p14Keep() {
        sentence("Promise 14", "Kept, or given up: true; false, and nothing happens: it is so, no such ROUND.");
        KnockerFaces faces = of("door a 1 1 1 1; caller x 1 1 1 1;" + "round x a 1 0;".repeat(10));
        String before = Bounds.all(faces);
        for (int round : Bounds.none(10)) {
            due("keep(" + round + ", true)", faces.keep(round, true), false);
            due("keep(" + round + ", false)", faces.keep(round, false), false);
        }
        for (int round = 0; round < 10; round++) {
            due("it is kept", faces.keep(round, true), false);
        }
        Bounds.same("keep", faces, before);
        due("the first", faces.keep(0, false), true);
        due("the last", faces.keep(9, false), true);
        due("kept ones", faces.count(7), 1023 - 1 - 512);
        due("it is given up", faces.keep(9, false), false);
        due("things done", faces.count(9), 2);
        due("kept again", faces.keep(0, true), true);
        due("it is kept", faces.keep(0, true), false);
        due("things done", faces.count(9), 3);
        due("no rounds", of("door a 1 1 1 1;").keep(0, false), false);
    }

    static void p15Days() {
        sentence("Promise 15", "n DAYS (0 .. 60; 0 is no thing done) go by: which it is;");
        KnockerFaces faces = of(STREET);
        String before = Bounds.all(faces);
        due("days(0)", faces.days(0), 0);
        Bounds.same("days(0)", faces, before);
        due("days(1)", faces.days(1), 1);
        due("a thing done", faces.count(9), 1);
        due("days(60)", faces.days(60), 61);
        due("one thing more", faces.count(9), 2);
        due("days(0)", faces.days(0), 61);
        due("no thing done", faces.count(9), 2);
        due("days(59)", faces.days(59), 120);
    }

    static void p15NoSuchN() {
        sentence("Promise 15", "NONE, and nothing happens: no such n.");
        KnockerFaces faces = of(STREET);
        faces.days(3);
        String before = Bounds.all(faces);
        for (int n : new int[] {61, 62, 120, MAX, -1, -60, MIN}) {
            due("days(" + n + ")", faces.days(n), NONE);
        }
        Bounds.same("days", faces, before);
    }

    static void p16Undo() {
        sentence("Promise 16", "The last thing done (lift, polish, file, keep, days) is undone: true;");
        KnockerFaces faces = of(STREET + "wind 50; seed 3;");
        String[] seen = new String[6];
        for (int i = 0; i < 5; i++) {
            seen[i] = withoutCounts(faces);
            due("it is done", doThing(faces, i), true);
        }
        for (int i = 4; i >= 0; i--) {
            due("undo of thing " + i, faces.undo(), true);
            due("as ahead of thing " + i, withoutCounts(faces).equals(seen[i]), true);
            due("things left", faces.count(9), i);
        }
        due("no more", faces.undo(), false);
        // a lift by hand that is undone was not today
        faces.lift(1, 1);
        faces.undo();
        faces.days(1);
        due("idle", faces.door(1, 5), 1);
        // and one by hand that stays, while days are undone, is
        KnockerFaces lifted = of("door a 1 1 1 1; caller x 1 1 1 1;");
        lifted.days(2);
        lifted.lift(0, 0);
        lifted.days(1);
        lifted.undo();
        due("idle as it was", lifted.door(0, 5), 2);
        lifted.days(1);
        due("idle", lifted.door(0, 5), 0);
    }

    private static boolean doThing(KnockerFaces faces, int thing) {
        switch (thing) {
            case 0:
                return faces.lift(0, 1);
            case 1:
                return faces.polish(0);
            case 2:
                return faces.file(0, 0);
            case 3:
                return faces.keep(0, false);
            default:
                return faces.days(60) == 60;
        }
    }

    /** What can be seen, but for how many things can be undone. */
    private static String withoutCounts(KnockerFaces faces) {
        String[] seen = Bounds.all(faces).split(" ");
        seen[9] = "-";
        return String.join(" ", seen);
    }

    static void p16TheLast40() {
        sentence("Promise 16", "false: there is none (the last 40 can be).");
        for (int things : new int[] {0, 1, 39, 40, 41, 79, 80, 81, 121}) {
            KnockerFaces faces = of("door a 1 1 1 1;");
            for (int i = 0; i < things; i++) {
                faces.polish(0);
                due("things to undo", faces.count(9), Math.min(i + 1, 40));
            }
            int left = Math.min(things, 40);
            for (int i = 1; i <= left; i++) {
                due("undo", faces.undo(), true);
                due("rubbed", faces.door(0, 6), things - i);
            }
            due("there is none", faces.undo(), false);
            due("nothing happened", faces.door(0, 6), things - left);
        }
        KnockerFaces faces = new KnockerFaces();
        due("of a new one", faces.undo(), false);
        // what was undone makes room again
        faces = of("door a 1 1 1 1;");
        for (int i = 0; i < 45; i++) {
            faces.polish(0);
        }
        for (int i = 0; i < 10; i++) {
            faces.undo();
        }
        for (int i = 0; i < 7; i++) {
            faces.polish(0);
        }
        due("30 and 7", faces.count(9), 37);
        for (int i = 0; i < 37; i++) {
            due("undo", faces.undo(), true);
        }
        due("no more", faces.undo(), false);
        due("rubbed", faces.door(0, 6), 5);
    }
}
