import java.util.ArrayList;
import java.util.Arrays;
import java.util.List;

/** The bounds of texts: part I of the document's terms, and promises 1 to 5. Each test quotes the sentence it holds. */
public final class TextBoundsTest {
    private static final int NONE = Bounds.NONE;
    private static final int MIN = Bounds.MIN;
    private static final int MAX = Bounds.MAX;

    private static final String BEGINS = "door caller round gives wears pays wind near seed";
    private static final String VARS = "apart part lifts idle day face unlike which rubbed";
    private static final String WORDS = BEGINS + " if then else " + VARS;
    private static final String UNITS = "7 ( " + VARS;
    private static final String SIGNS = "; = + - * / < ( )";
    private static final String NO_TOKENS = "abcdefghi 12345 . > Z";
    private static final String JOINS = "+ - * /";

    private static final String SIX_DOORS = "door a 1 1 1 1;door b 2 2 2 2;door c 3 3 3 3;door d 4 4 4 4;door e 5 5 5 5;door f 6 6 6 6;";
    private static final String FIVE_CALLERS = "caller v 1 1 1 1;caller w 2 2 2 2;caller x 3 3 3 3;caller y 4 4 4 4;caller z 5 5 5 5;";
    private static final String TWO = "door a 1 1 1 1;caller z 1 1 1 1;";
    private static final String ARM = "if 1<2 then 3 else ";

    public static void main(String[] args) throws Exception {
        Bounds.runAll(TextBoundsTest.class);
    }

    private static void sentence(String section, String words) {
        Bounds.sentence(section, words);
    }

    private static void due(String call, long got, long want) {
        Bounds.due(call, got, want);
    }

    private static void due(String call, boolean got, boolean want) {
        Bounds.due(call, got, want);
    }

    private static void fault(String text, int number, int place) {
        Bounds.fault(text, number, place);
    }

    private static void good(String text) {
        Bounds.good(text);
    }

    private static KnockerFaces of(String text) {
        return Bounds.of(text);
    }

    // ---- what an object is used for

    static void atMost512Calls() {
        sentence("What it is", "An object is used for at most 512 calls after it has been made");
        KnockerFaces faces = new KnockerFaces();
        for (int call = 1; call <= 512; call++) {
            due("call " + call, faces.days(60), 60 * call);
        }
    }

    // ---- I: tokens

    static void textOf2000Bytes() {
        sentence("I", "A TEXT has 2,000 bytes at most.");
        good(" ".repeat(1993) + "near 1;");
        fault(" ".repeat(1999) + "x", 1, 1999);
        fault(" ".repeat(1994) + "near 1", 1, 2000);
        KnockerFaces faces = new KnockerFaces();
        Bounds.feed(faces, " ".repeat(1994) + "near 1");
        due("feed of a ; that does not come", faces.feed(0x3b202020, 0, 0, 0, 0), NONE);
        due("read", faces.read(), 1);
        due("place", faces.place(), 2000);
    }

    static void theLongestToken() {
        sentence("I", "TOKENS, the longest that can be");
        good("door doora 1 2 3 4;");
        fault("doora 1 2 3 4;", 1, 0);
        fault("caller ab 123 4 5;", 1, 17);
        fault("gives = ifapart<1then2else3;", 1, 8);
        due("caller(0, 0)", of("caller ab 12 3 4 5;").caller(0, 0), 12);
    }

    static void blanksBetweenOrNot() {
        sentence("I", "with blanks (9, 10, 13, 32) between or not");
        for (int sign = 0; sign < 256; sign++) {
            String text = "wind" + (char) sign + "1;";
            boolean blank = sign == 9 || sign == 10 || sign == 13 || sign == 32;
            if (blank || sign >= '0' && sign <= '9') {
                good(text);
            } else {
                fault(text, 1, sign >= 'a' && sign <= 'z' ? 0 : 4);
            }
        }
        good("door a1 2 3 4;caller b5 6 7 8;round b a1 0;gives=if(1)<2then(apart)else 4;wind1;");
        good("\n\r\t  door \t\t a \n\n 1 \r 2 \r\n 3 \t 4 \n ; \t\r\n ");
    }

    static void namesOfLetters() {
        sentence("I", "NAMES (letters a .. z");
        for (int sign = 0; sign < 256; sign++) {
            String text = "door " + (char) sign + " 1 2 3 4;";
            if (sign >= 'a' && sign <= 'z') {
                good(text);
            } else {
                fault(text, 1, sign == 9 || sign == 10 || sign == 13 || sign == 32 ? 7 : 5);
            }
        }
    }

    static void namesOfEightLetters() {
        sentence("I", "8 at most, none");
        good("door abcdefgh 1 2 3 4; door zzzzzzzz 1 2 3 4;");
        fault("door abcdefghi 1 2 3 4;", 1, 5);
        fault("door " + "a".repeat(16) + " 1 2 3 4;", 1, 5);
        fault("door " + "z".repeat(1900) + " 1 2 3 4;", 1, 5);
        good("door aaaaaaaa 1 1 1 1; door aaaaaaab 1 1 1 1; door baaaaaaa 1 1 1 1; door aaaaaaa 1 1 1 1; caller a 1 1 1 1;");
    }

    static void wordsAreNoNames() {
        sentence("I", "none of the words in quotes)");
        for (String word : WORDS.split(" ")) {
            fault("door " + word + " 1 2 3 4;", 1, 5);
            fault("caller " + word + " 1 2 3 4;", 1, 7);
            fault(TWO + "round z " + word + " 1 2;", 1, TWO.length() + 8);
            good("door " + word + "x 1 2 3 4;");
            good("door x" + word + " 1 2 3 4;");
            good("door " + word.substring(0, word.length() - 1) + " 1 2 3 4;");
        }
    }

    static void intsOfOneToFourDigits() {
        sentence("I", "INTS (1 to 4 digits)");
        for (String number : "0 9 10 99 100 999 1000 9999 00 000 0000 0009 0396".split(" ")) {
            good("seed " + number + ";");
        }
        for (String number : "00000 00001 10000 99999 4294967296 18446744073709551616".split(" ")) {
            fault("seed " + number + ";", 1, 5);
        }
        due("0009", of("caller a 0009 1 1 1;").caller(0, 0), 9);
    }

    static void signs() {
        sentence("I", "SIGNS ; = + - * / < ( ) .");
        good("gives=(1+2-3)*4/5;wears=if(1)<2then 3else 4;");
        for (int sign = 0; sign < 256; sign++) {
            String text = "gives = 1 " + (char) sign + " 1;";
            if (sign != 0 && "+-*/".indexOf(sign) >= 0) {
                good(text);
            } else {
                fault(text, 1, sign == 9 || sign == 10 || sign == 13 || sign == 32 || sign == ';' ? 12 : 10);
            }
        }
    }

    static void allElseIsNoToken() {
        sentence("I", "A longer one, all else, is no TOKEN.");
        for (int sign = 0; sign < 256; sign++) {
            if (sign < 128 && (Character.isLetterOrDigit(sign) && !Character.isUpperCase(sign) || "\t\n\r ;=+-*/<()".indexOf(sign) >= 0)) {
                continue;
            }
            fault("" + (char) sign, 1, 0);
            fault("wind 1; " + (char) sign, 1, 8);
            fault("wind " + (char) sign + "1;", 1, 5);
            fault("door a" + (char) sign + "b 1 1 1 1;", 1, 6);
        }
        fault("wind 1; abcdefghi", 1, 8);
        fault("wind 1; 12345", 1, 8);
    }

    // ---- I: the grammar

    private static List<String> words(String... texts) {
        List<String> words = new ArrayList<>();
        for (String text : texts) {
            words.addAll(Arrays.asList(text.split(" ")));
        }
        return words;
    }

    /** Behind that beginning just these tokens go on: all others, and what is none, are SYNTAX at their place. */
    private static void goesOn(String begin, String... allowed) {
        List<String> fits = words(allowed);
        for (String token : words(WORDS, SIGNS, NO_TOKENS, "zz 7")) {
            String text = begin + token;
            if (!fits.contains(token)) {
                fault(text, 1, begin.length());
                continue;
            }
            KnockerFaces faces = new KnockerFaces();
            int number = Bounds.read(faces, text);
            due("place in '" + text + "'", faces.place(), number == 0 ? NONE : text.length());
            due("fault of '" + text + "'", number, token.equals(";") ? 0 : 1);
        }
    }

    static void textsOfTells() {
        sentence("I", "text: {TELL}.");
        good("");
        good(" ");
        goesOn("", BEGINS);
        goesOn("near 1; ", BEGINS);
        goesOn("near 1; near 1; ", BEGINS);
    }

    private static void fourInts(String begin) {
        goesOn(begin, "7");
        goesOn(begin + "1 ", "7");
        goesOn(begin + "1 2 ", "7");
        goesOn(begin + "1 2 3 ", "7");
        goesOn(begin + "1 2 3 4 ", ";");
    }

    static void tellOfADoor() {
        sentence("I", "TELL: 'door' NAME INT INT INT INT ';'");
        goesOn("door ", "zz");
        fourInts("door a ");
    }

    static void tellOfACaller() {
        sentence("I", "| 'caller' NAME INT INT INT INT ';'");
        goesOn("caller ", "zz");
        fourInts("caller a ");
    }

    static void tellOfARound() {
        sentence("I", "| 'round' NAME NAME INT INT ';'");
        goesOn(TWO + "round ", "zz");
        goesOn(TWO + "round z ", "zz");
        goesOn(TWO + "round z a ", "7");
        goesOn(TWO + "round z a 1 ", "7");
        goesOn(TWO + "round z a 1 2 ", ";");
    }

    static void tellOfALaw() {
        sentence("I", "| ('gives' | 'wears' | 'pays') LAW ';'");
        for (String law : "gives wears pays".split(" ")) {
            goesOn(law + " ", "=");
            goesOn(law + " = ", "if", UNITS);
            goesOn(law + " = 1 ", JOINS, ";");
        }
    }

    static void tellOfASetting() {
        sentence("I", "| 'wind' INT ';' | 'near' INT ';' | 'seed' INT ';'.");
        for (String setting : "wind near seed".split(" ")) {
            goesOn(setting + " ", "7");
            goesOn(setting + " 1 ", ";");
        }
    }

    static void lawWithIfs() {
        sentence("I", "LAW: '=' {'if' E '<' E 'then' E 'else'} E.");
        String begin = "gives = ";
        for (int ifs = 0; ifs < 3; ifs++) {
            goesOn(begin, "if", UNITS);
            goesOn(begin + "if ", UNITS);
            goesOn(begin + "if 1 ", JOINS, "<");
            goesOn(begin + "if 1 < ", UNITS);
            goesOn(begin + "if 1 < 2 ", JOINS, "then");
            goesOn(begin + "if 1 < 2 then ", UNITS);
            goesOn(begin + "if 1 < 2 then 3 ", JOINS, "else");
            begin = begin + "if 1 < 2 then 3 else ";
            goesOn(begin + "4 ", JOINS, ";");
        }
    }

    static void sumsAndProducts() {
        sentence("I", "E: PART {('+' | '-') PART}. PART: UNIT {('*' | '/') UNIT}.");
        String begin = "gives = 1 ";
        for (String join : "+ - * / / * - + +".split(" ")) {
            goesOn(begin, JOINS, ";");
            begin = begin + join + " ";
            goesOn(begin, UNITS);
            begin = begin + "2 ";
        }
    }

    static void units() {
        sentence("I", "UNIT: INT | VAR | '(' E ')'.");
        goesOn("gives = ( ", UNITS);
        goesOn("gives = ( 1 ", JOINS, ")");
        goesOn("gives = ( 1 + ( ", UNITS);
        goesOn("gives = ( 1 + ( 2 ", JOINS, ")");
        goesOn("gives = ( 1 + ( 2 ) ", JOINS, ")");
        goesOn("gives = ( 1 + ( 2 ) ) ", JOINS, ";");
        goesOn("gives = if ( 1 ", JOINS, ")");
        goesOn("gives = if ( 1 ) ", JOINS, "<");
    }

    static void vars() {
        sentence("I", "VAR: 'apart' | 'part' | 'lifts' | 'idle' | 'day' | 'face' | 'unlike' | 'which' | 'rubbed'.");
        for (String word : VARS.split(" ")) {
            good("gives = " + word + "; wears = " + word + "; pays = if " + word + " < 1 then (" + word + ") else 1 / " + word + ";");
            goesOn("gives = " + word + " ", JOINS, ";");
        }
    }

    // ---- I: the sorts

    static void sixDoors() {
        sentence("I", "DOORS, 6 at most");
        due("doors", of(SIX_DOORS).count(0), 6);
        due("last door", of(SIX_DOORS).door(5, 3), 6);
        fault(SIX_DOORS + "door g 1 1 1 1;", 2, SIX_DOORS.length());
        good(SIX_DOORS + FIVE_CALLERS);
    }

    static void fiveCallers() {
        sentence("I", "CALLERS, 5 at most");
        due("callers", of(FIVE_CALLERS).count(1), 5);
        due("last caller", of(FIVE_CALLERS).caller(4, 3), 5);
        fault(FIVE_CALLERS + "caller g 1 1 1 1;", 2, FIVE_CALLERS.length());
    }

    static void partsOfAFace() {
        sentence("I", "(each: a NAME, four PARTS of a face 0 .. 99)");
        for (String sort : new String[] {"door", "caller"}) {
            for (int part = 0; part < 4; part++) {
                String ahead = sort + " a " + "5 ".repeat(part);
                String behind = " 5".repeat(3 - part) + ";";
                good(ahead + "0" + behind);
                good(ahead + "99" + behind);
                good(ahead + "0099" + behind);
                fault(ahead + "100" + behind, 5, ahead.length());
                fault(ahead + "9999" + behind, 5, ahead.length());
            }
        }
    }

    static void numberedAsTheyStand() {
        sentence("I", "numbered each from 0 on as they stand");
        KnockerFaces faces = of("caller z 9 9 9 9; door y 1 2 3 4; caller b 8 8 8 8; door a 5 6 7 8; caller aa 1 7 7 7;");
        due("caller 0", faces.caller(0, 0), 9);
        due("caller 1", faces.caller(1, 0), 8);
        due("caller 2", faces.caller(2, 1), 7);
        Bounds.face(faces, 0, 1, 2, 3, 4);
        Bounds.face(faces, 1, 5, 6, 7, 8);
        due("no door 2", faces.door(2, 0), NONE);
        due("no caller 3", faces.caller(3, 0), NONE);
    }

    static void theFirstFace() {
        sentence("I", "a DOOR's FIRST face is that.");
        KnockerFaces faces = of("door a 0 99 1 98; caller b 99 0 98 1; gives = apart; wears = apart;");
        due("as the first face", faces.door(0, 9), 0);
        faces.lift(0, 0);
        due("off the first face", faces.door(0, 9), 99 + 99 + 97 + 97);
        faces.days(1);
        Bounds.face(faces, 0, 0, 99, 1, 98);
    }

    static void tenRounds() {
        sentence("I", "ROUNDS, 10 at most, numbered likewise");
        StringBuilder text = new StringBuilder(TWO);
        for (int round = 0; round < 10; round++) {
            text.append("round z a ").append(round + 1).append(' ').append(2 * round).append(';');
        }
        KnockerFaces faces = of(text.toString());
        due("rounds", faces.count(2), 10);
        for (int round = 0; round < 10; round++) {
            due("every of " + round, faces.round(round, 2), round + 1);
            due("from of " + round, faces.round(round, 3), 2 * round);
        }
        fault(text + "round z a 1 0;", 2, text.length());
    }

    static void roundOfACallerAndADoor() {
        sentence("I", "(a CALLER, a DOOR,");
        KnockerFaces faces = of(SIX_DOORS + FIVE_CALLERS + "round z a 1 0; round v f 1 0;");
        due("caller", faces.round(0, 0), 4);
        due("door", faces.round(0, 1), 0);
        due("caller", faces.round(1, 0), 0);
        due("door", faces.round(1, 1), 5);
    }

    static void everyHowManyDays() {
        sentence("I", "EVERY how many days 1 .. 30");
        int place = TWO.length() + 10;
        good(TWO + "round z a 1 0;");
        good(TWO + "round z a 30 0;");
        fault(TWO + "round z a 0 0;", 5, place);
        fault(TWO + "round z a 0000 0;", 5, place);
        fault(TWO + "round z a 31 0;", 5, place);
        fault(TWO + "round z a 9999 0;", 5, place);
    }

    static void fromWhichDayOn() {
        sentence("I", "FROM which day on 0 .. 29)");
        int place = TWO.length() + 12;
        good(TWO + "round z a 1 0;");
        good(TWO + "round z a 1 29;");
        fault(TWO + "round z a 1 30;", 5, place);
        fault(TWO + "round z a 1 9999;", 5, place);
    }

    static void lawsIfNotTold() {
        sentence("I", "LAWS: GIVES (1), WEARS (0), PAYS (1), if not told; the last one.");
        KnockerFaces faces = of("door a 10 10 10 10; caller z 50 50 50 50;");
        due("gives", faces.tells(0, 0, 0), 1);
        due("pays", faces.tells(0, 0, 4), 1);
        faces.lift(0, 0);
        faces.days(1);
        Bounds.face(faces, 0, 11, 11, 11, 11);
        String told = "door a 10 10 10 10; caller z 50 50 50 50; gives = 2; pays = 3; wears = 4; gives = 5; pays = 6; wears = 2;";
        faces = of(told);
        due("the last gives", faces.tells(0, 0, 0), 5);
        due("the last pays", faces.tells(0, 0, 4), 6);
        faces.lift(0, 0);
        faces.days(1);
        Bounds.face(faces, 0, 13, 13, 13, 13);
        // the last one alone: nothing of a longer one ahead of it is left
        due("a shorter one", of("door a 1 1 1 1; caller z 9 9 9 9; gives = " + ARM.repeat(4) + "4; gives = 5;").tells(0, 0, 0), 5);
    }

    static void windOnHowManyDays() {
        sentence("I", "WIND: on how many of 100 days 0 .. 100 (0)");
        good("wind 0;");
        good("wind 100;");
        fault("wind 101;", 5, 5);
        fault("wind 9999;", 5, 5);
        due("the last one", of("wind 0; wind 100;").count(12), 1);
        due("the last one", of("wind 100; wind 0;").count(12), 0);
        // of seed 0, LOT 100 is 0 on these days, which the least wind is enough for
        for (int day : new int[] {254, 352, 512}) {
            due("LOT 100 of day " + day, Bounds.lot(100, 0, 16 * day), 0);
            due("wind 1 on day " + day, windOn("wind 1;", day), 1);
            due("wind 0 on day " + day, windOn("wind 0;", day), 0);
            due("not told, on day " + day, windOn("", day), 0);
        }
    }

    private static int windOn(String text, int day) {
        KnockerFaces faces = of(text);
        Bounds.days(faces, day);
        return faces.count(12);
    }

    static void nearHowMuch() {
        sentence("I", "NEAR 0 .. 396 (40)");
        good("near 0;");
        good("near 396;");
        fault("near 397;", 5, 5);
        fault("near 9999;", 5, 5);
        due("40 if not told", of("door a 0 0 0 0; caller z 40 0 0 0;").door(0, 8), 0);
        due("40 if not told", of("door a 0 0 0 0; caller z 41 0 0 0;").door(0, 8), -2);
        due("the last one", of("door a 0 0 0 0; caller z 41 0 0 0; near 0; near 41;").door(0, 8), 0);
        due("the last one", of("door a 0 0 0 0; caller z 41 0 0 0; near 41; near 0;").door(0, 8), -2);
    }

    static void seedWhich() {
        sentence("I", "SEED 0 .. 9999 (0): the last one.");
        good("seed 0;");
        good("seed 9999;");
        for (int seed = 0; seed < 10000; seed += 1111) {
            int lot = Bounds.lot(100, seed, 0);
            due("wind by seed " + seed, of("seed 1; seed " + seed + "; wind " + (lot + 1) + ";").count(12), 1);
            due("no wind by seed " + seed, of("seed 1; seed " + seed + "; wind " + lot + ";").count(12), 0);
        }
        int lot = Bounds.lot(100, 0, 0);
        due("wind, no seed told", of("wind " + (lot + 1) + ";").count(12), 1);
        due("no wind, no seed told", of("wind " + lot + ";").count(12), 0);
    }

    // ---- I: the FAULTS

    static void theFirstByItsPlace() {
        sentence("I", "FAULTS of a text, the first by its place (a byte; the text's end: its length)");
        fault("x y", 1, 0);
        fault(" x", 1, 1);
        fault(SIX_DOORS + "door x !", 2, SIX_DOORS.length());
        fault("! " + SIX_DOORS + "door x 1 1 1 1;", 1, 0);
        fault(SIX_DOORS + FIVE_CALLERS + "caller a 1 1 1 1; door a 1 1 1 1;", 2, SIX_DOORS.length() + FIVE_CALLERS.length());
        fault("gives = " + "(".repeat(7) + "1 !", 2, 14);
        fault("gives = ! " + "(".repeat(7), 1, 8);
        fault("wind", 1, 4);
        fault("wind ", 1, 5);
        fault("wind 1 \n", 1, 8);
    }

    static void ofOnePlaceTheLeast() {
        sentence("I", "of one place the least");
        String much = "wind 1;".repeat(133);
        // the 401st TOKEN: of one that no text goes on with SYNTAX is told, else ROOM
        fault(much + "wind 1;", 2, much.length() + 5);
        fault(much + "wind 1", 2, much.length() + 5);
        fault(much + "wind wind", 1, much.length() + 5);
        fault(much + "wind !", 1, much.length() + 5);
        fault(much + "wind 12345", 1, much.length() + 5);
        fault(much + "wind ", 1, much.length() + 5);
    }

    static void syntax() {
        sentence("I", "1 SYNTAX: a TOKEN, or what is none, with which no text goes on.");
        fault("door a 1 2 3 ; door b 1 1 1 1;", 1, 13);
        fault("door a 1 2 3 4 5;", 1, 15);
        fault("door a 1 2 3 . 4;", 1, 13);
        fault("door a 100 0 0 0; door a 1 2 3 4", 1, 32);
        fault(";", 1, 0);
    }

    static void roomFor400Tokens() {
        sentence("I", "2 ROOM: a 401st TOKEN");
        String law = "gives=1" + "+1".repeat(198) + ";";
        good(law);
        good(law + " \n ");
        fault(law + "wind 1;", 2, law.length());
        fault(law + "  wind 1;", 2, law.length() + 2);
        fault("gives=1" + "+1".repeat(199) + ";", 2, 7 + 2 * 198 + 1);
        // without a TOKEN more the text's end is no 401st one
        fault("gives=1" + "+1".repeat(198) + "+", 1, 7 + 2 * 198 + 1);
        KnockerFaces faces = of("door a 0 0 0 0;caller b 99 99 99 99;gives=(1" + "+1".repeat(10) + ")" + "-1+1".repeat(90) + ";");
        due("a long law", faces.tells(0, 0, 0), 11);
    }

    static void roomForASort() {
        sentence("I", "one more of a sort than told (at its first TOKEN)");
        fault(SIX_DOORS + "  door g 1 1 1 1;", 2, SIX_DOORS.length() + 2);
        fault(FIVE_CALLERS + "\ncaller g 1 1 1 1;", 2, FIVE_CALLERS.length() + 1);
        String rounds = TWO + "round z a 1 0;".repeat(10);
        fault(rounds + " round z a 1 0;", 2, rounds.length() + 1);
        fault(SIX_DOORS + FIVE_CALLERS + "round v a 1 0; door g 1 1 1 1;", 2, SIX_DOORS.length() + FIVE_CALLERS.length() + 15);
        // what may be told again and again is no sort of which there are so many
        good("gives=1;wears=1;pays=1;wind 1;near 1;seed 1;".repeat(15));
    }

    static void roomForFourIfs() {
        sentence("I", "a 5th if of a LAW (at it)");
        for (String law : "gives wears pays".split(" ")) {
            String begin = law + " = ";
            good(begin + ARM.repeat(4) + "5;");
            fault(begin + ARM.repeat(5) + "5;", 2, begin.length() + 4 * ARM.length());
        }
        good("gives = " + ARM.repeat(4) + "5; gives = " + ARM.repeat(4) + "5; wears = " + ARM.repeat(4) + "5; pays = " + ARM.repeat(4) + "5;");
        due("the fourth if", of("door a 0 0 0 0; caller b 99 0 0 0; gives = " + "if 2<1 then 3 else ".repeat(3) + "if 1<2 then 4 else 5;").tells(0, 0, 0), 4);
        due("behind four", of("door a 0 0 0 0; caller b 99 0 0 0; gives = " + "if 2<1 then 3 else ".repeat(4) + "5;").tells(0, 0, 0), 5);
    }

    static void roomForSixBrackets() {
        sentence("I", "a 7th ( within one another (at it).");
        good("gives = ((((((1))))));");
        fault("gives = (((((((1)))))));", 2, 14);
        fault("gives = ((((((1)+(((", 2, 18);
        good("gives = " + "(1)+".repeat(20) + "(((((1)+(2)))));");
        good("gives = if ((((((1)))))) < ((((((2)))))) then ((((((3)))))) else ((((((4))))));");
        fault("gives = if 1 < 2 then (((((((3))))))) else 4;", 2, 28);
        String deep = "1+2*(1+2*(1+2*(1+2*(1+2*(1+2*(1+2*0))))))";
        due("six within one another", of("door a 0 0 0 0; caller b 99 0 0 0; pays = " + deep + " - 100;").tells(0, 0, 4), 27);
        String arm = "if " + deep + " < " + deep + " then 1 else ";
        due("behind four ifs, too", of("door a 0 0 0 0; caller b 99 0 0 0; pays = " + arm.repeat(3) + deep + " - 100;").tells(0, 0, 4), 27);
        due("behind four ifs, too", of("door a 0 0 0 0; caller b 99 0 0 0; pays = " + "if 1<1 then 1 else ".repeat(4) + deep + " - 100;").tells(0, 0, 4), 27);
    }

    static void slipsIfThereIsNone() {
        sentence("I", "If there is none, likewise:");
        // SYNTAX and ROOM anywhere behind are told ahead of them
        fault("door a 1 1 1 1; door a 1 1 1 1; !", 1, 32);
        fault("round q r 1 1; " + SIX_DOORS + "door g 1 1 1 1;", 2, 15 + SIX_DOORS.length());
        fault("near 397; gives = (((((((1)))))));", 2, 24);
        // among themselves the first by its place
        fault("near 397; round q r 1 1;", 5, 5);
        fault("round q r 1 1; near 397;", 4, 6);
        fault("door a 100 1 1 1; caller a 1 1 1 1;", 5, 7);
        fault("door a 1 1 1 1; caller a 100 1 1 1;", 3, 23);
    }

    static void aNameToldTwice() {
        sentence("I", "3 TWICE: a NAME told already (of DOORS and CALLERS together).");
        fault("door a 1 1 1 1; door a 1 1 1 1;", 3, 21);
        fault("door a 1 1 1 1; caller a 1 1 1 1;", 3, 23);
        fault("caller a 1 1 1 1; caller a 1 1 1 1;", 3, 25);
        fault("caller a 1 1 1 1; door a 1 1 1 1;", 3, 23);
        fault(SIX_DOORS + "caller f 1 1 1 1;", 3, SIX_DOORS.length() + 7);
        fault(FIVE_CALLERS + "door z 1 1 1 1;", 3, FIVE_CALLERS.length() + 5);
        fault("door abcdefgh 1 1 1 1; door abcdefgh 1 1 1 1;", 3, 28);
        good("door abcdefgh 1 1 1 1; door abcdefgg 1 1 1 1;");
        // the names of the text ahead are told no more
        KnockerFaces faces = of("door a 1 1 1 1;");
        due("the same text again", Bounds.read(faces, "door a 1 1 1 1;"), 0);
        due("a text with a fault", Bounds.read(faces, "door b 100 1 1 1;"), 5);
        due("its name again", Bounds.read(faces, "door b 1 1 1 1;"), 0);
    }

    static void aNameNotToldAhead() {
        sentence("I", "4 NAME: (at it) no such CALLER, DOOR told ahead");
        int begin = TWO.length();
        good(TWO + "round z a 1 0;");
        fault(TWO + "round q a 1 0;", 4, begin + 6);
        fault(TWO + "round z q 1 0;", 4, begin + 8);
        fault(TWO + "round a z 1 0;", 4, begin + 6);
        fault(TWO + "round z z 1 0;", 4, begin + 8);
        fault(TWO + "round a a 1 0;", 4, begin + 6);
        fault("round z a 1 0;" + TWO, 4, 6);
        fault("caller z 1 1 1 1; round z a 1 0; door a 1 1 1 1;", 4, 26);
        fault("door a 1 1 1 1; round z a 1 0; caller z 1 1 1 1;", 4, 22);
        // those of the text ahead are none of this one
        KnockerFaces faces = of(TWO);
        due("only a round", Bounds.read(faces, "round z a 1 0;"), 4);
        due("place", faces.place(), 6);
    }

    static void aNameToldMoreThanOnce() {
        sentence("I", "(a NAME told more than once is that of the first one of the sort).");
        // such a text has TWICE, at an earlier place; the round finds a caller and a door of that name
        fault("door a 1 1 1 1; caller a 1 1 1 1; round a a 1 0;", 3, 23);
        fault("door a 1 1 1 1; caller a 1 1 1 1; round a a 0 0;", 3, 23);
    }

    static void aWrongNumber() {
        sentence("I", "5 WRONG (at the INT): a number not as told above.");
        fault("door a 1 1 1 100;", 5, 13);
        fault("caller a  100 1 1 1;", 5, 10);
        fault(TWO + "round z a 31 30;", 5, TWO.length() + 10);
        fault(TWO + "round z a 30 30;", 5, TWO.length() + 13);
        fault("wind\t101;", 5, 5);
        fault("near  397;", 5, 6);
        good("gives = 9999; wears = 9999; pays = 9999; seed 9999;");
    }

    static void aTextWithAFaultChangesNothing() {
        sentence("I", "A text with a FAULT changes nothing but the tape;");
        String[] faulty = {"!", SIX_DOORS + "door g 1 1 1 1;", "door a 1 1 1 1; door a 1 1 1 1;", "round b a 1 0;", "near 397;",
            "near 0; wind 100; seed 9; gives = 99; wears = 0; pays = 5; door q 1 1 1 1; near 397;"};
        for (String text : faulty) {
            KnockerFaces faces = busy();
            int gives = faces.tells(0, 0, 0);
            int then = faces.then(0, 9, 0);
            String before = withoutPlace(faces);
            due("a fault of '" + text + "'", Bounds.read(faces, text) > 0, true);
            due("the tape", faces.count(8), 0);
            due("all is as it was", withoutPlace(faces).equals(before), true);
            due("gives", faces.tells(0, 0, 0), gives);
            due("then", faces.then(0, 9, 0), then);
            due("who", faces.who(1, 1), 1);
            due("undo", faces.undo(), true);
            due("restore", faces.restore(1), true);
        }
    }

    private static String withoutPlace(KnockerFaces faces) {
        return Bounds.all(faces).replaceFirst("-?\\d+ door", "door");
    }

    static void aTextInPlaceOfTheOneAhead() {
        sentence("I", "else it is in place of the one ahead: day 0, FIRST faces, all ROUNDS kept;");
        KnockerFaces faces = busy();
        due("read", Bounds.read(faces, TWO + "round z a 1 3; round z a 2 3;"), 0);
        due("day", faces.count(3), 0);
        Bounds.face(faces, 0, 1, 1, 1, 1);
        due("off the first face", faces.door(0, 9), 0);
        due("rounds kept", faces.count(7), 3);
        for (int what = 4; what <= 7; what++) {
            due("door(0, " + what + ")", faces.door(0, what), 0);
        }
        due("caller(0, 4)", faces.caller(0, 4), 0);
        faces = busy();
        due("read", Bounds.read(faces, "door a 1 1 1 1; door b 1 1 1 1; caller z 42 1 1 1;"), 0);
        due("gives 1 again", faces.tells(0, 0, 0), 1);
        due("pays 1 again", faces.tells(0, 0, 4), 1);
        due("near 40 again", faces.door(0, 8), -2);
        due("no wind again", faces.count(12), 0);
        faces.lift(1, 0);
        faces.days(1);
        due("wears 0 again", faces.door(1, 0), 2);
        due("near 40 again", faces.door(1, 8), 0);
        due("lifted today in the text ahead only", faces.door(0, 5), 1);
        int lot = Bounds.lot(100, 0, 0);
        due("read", Bounds.read(faces, "seed 3;"), 0);
        due("read", Bounds.read(faces, "wind " + lot + ";"), 0);
        due("seed 0 again", faces.count(12), 0);
        due("read", Bounds.read(faces, "seed 3; wind 100;"), 0);
        due("read", Bounds.read(faces, "wind " + (lot + 1) + ";"), 0);
        due("seed 0 again", faces.count(12), 1);
        faces = busy();
        due("read of nothing", faces.read(), 0);
        for (int what = 0; what <= 16; what++) {
            due("count(" + what + ")", faces.count(what), 0);
        }
    }

    static void aTextLeavesNothingToUndo() {
        sentence("I", "nothing can be undone, nothing is TOLD, SLOTS hold nothing.");
        KnockerFaces faces = busy();
        due("things to undo", faces.count(9) > 0 && faces.count(10) > 0 && faces.count(11) == 3, true);
        due("read", Bounds.read(faces, TWO), 0);
        due("count(9)", faces.count(9), 0);
        due("undo", faces.undo(), false);
        due("count(10)", faces.count(10), 0);
        due("who(1, 0)", faces.who(1, 0), NONE);
        due("forget", faces.forget(), 0);
        due("count(11)", faces.count(11), 0);
        for (int slot = 0; slot < 3; slot++) {
            due("restore(" + slot + ")", faces.restore(slot), false);
        }
    }

    /** An object with which much was done. */
    private static KnockerFaces busy() {
        KnockerFaces faces = of("door a 10 20 30 40; door b 1 1 1 1; caller c 50 50 50 50; round c a 2 1;"
                + "wind 100; gives = 9; wears = 2; pays = 3; near 396; seed 5;");
        faces.lift(0, 0);
        faces.polish(0);
        faces.file(1, 0);
        faces.days(9);
        faces.lift(0, 0);
        faces.keep(0, false);
        faces.tell(0, 0, 1);
        for (int slot = 0; slot < 3; slot++) {
            faces.hold(slot);
        }
        return faces;
    }

    // ---- promises 1 to 5

    static void p1NewObject() {
        sentence("Promise 1", "No DOORS, no CALLERS.");
        KnockerFaces faces = new KnockerFaces();
        for (int what = 0; what <= 16; what++) {
            due("count(" + what + ")", faces.count(what), 0);
        }
        due("door(0, 0)", faces.door(0, 0), NONE);
        due("caller(0, 0)", faces.caller(0, 0), NONE);
        due("round(0, 0)", faces.round(0, 0), NONE);
        due("place", faces.place(), NONE);
        due("another object", of(TWO).count(0) + new KnockerFaces().count(0), 1);
    }

    static void p2TwentyBytes() {
        sentence("Promise 2", "Twenty bytes, the highest of a first, come behind the tape: how many it has.");
        KnockerFaces faces = new KnockerFaces();
        due("feed", faces.feed(0x6e656172, 0x20333937, 0x3b202020, 0x20202020, 0x20202020), 20);
        due("feed", faces.feed(MIN, MAX, -1, 0, 1), 40);
        due("back", faces.back(20), 20);
        due("read", faces.read(), 5);
        due("place", faces.place(), 5);
        // a byte of each number stands where it is due: "near 1;" behind 0 to 19 blanks, then what is no TOKEN
        for (int at = 0; at < 20; at++) {
            KnockerFaces one = new KnockerFaces();
            int[] n = {0x20202020, 0x20202020, 0x20202020, 0x20202020, 0x20202020};
            n[at / 4] ^= (0x20 ^ 0xff) << 24 - 8 * (at % 4);
            due("feed", one.feed(n[0], n[1], n[2], n[3], n[4]), 20);
            due("read", one.read(), 1);
            due("place", one.place(), at);
        }
    }

    static void p2NoMoreThan2000() {
        sentence("Promise 2", "NONE, and nothing comes, if it would have more than 2,000.");
        KnockerFaces faces = new KnockerFaces();
        for (int i = 1; i <= 100; i++) {
            due("feed", faces.feed(0x20202020, 0x20202020, 0x20202020, 0x20202020, 0x20202020), 20 * i);
        }
        due("feed of 2001 to 2020", faces.feed(0, 0, 0, 0, 0), NONE);
        due("bytes", faces.count(8), 2000);
        due("back", faces.back(1), 1999);
        due("feed of 2000 to 2019", faces.feed(0, 0, 0, 0, 0), NONE);
        due("bytes", faces.count(8), 1999);
        due("back", faces.back(18), 1981);
        due("feed of 1982 to 2001", faces.feed(0, 0, 0, 0, 0), NONE);
        due("back", faces.back(1), 1980);
        due("feed of 1981 to 2000", faces.feed(0x20202020, 0x20202020, 0x20202020, 0x20202020, 0x20202020), 2000);
        due("nothing came", faces.read(), 0);
    }

    static void p3TheLastBytesGo() {
        sentence("Promise 3", "The last n bytes of the tape go: how many it has.");
        KnockerFaces faces = new KnockerFaces();
        due("back of nothing", faces.back(0), 0);
        Bounds.feed(faces, "near 1;!!");
        due("back", faces.back(0), 9);
        due("back", faces.back(1), 8);
        due("back", faces.back(1), 7);
        due("read", faces.read(), 0);
        Bounds.feed(faces, "!!near 1;");
        due("back of all", faces.back(9), 0);
        due("read", faces.read(), 0);
    }

    static void p3NotSoMany() {
        sentence("Promise 3", "NONE, and nothing goes, if it has not so many, or n is below 0.");
        KnockerFaces faces = new KnockerFaces();
        due("back(1) of nothing", faces.back(1), NONE);
        faces.feed(0, 0, 0, 0, 0);
        for (int n : new int[] {21, 2000, MAX, -1, -20, MIN}) {
            due("back(" + n + ")", faces.back(n), NONE);
            due("bytes", faces.count(8), 20);
        }
        due("back(20)", faces.back(20), 0);
        due("back(1)", faces.back(1), NONE);
    }

    static void p4TheTapeIsEmptyThen() {
        sentence("Promise 4", "The tape, which is empty then, is read: 0, or the number of its FAULT.");
        KnockerFaces faces = new KnockerFaces();
        String[] texts = {"", "!", SIX_DOORS + "door g 1 1 1 1;", "door a 1 1 1 1; door a 1 1 1 1;", "round a b 1 1;", "near 397;"};
        for (int number = 0; number < texts.length; number++) {
            due("read", Bounds.read(faces, texts[number]), number);
            due("bytes", faces.count(8), 0);
            due("back", faces.back(1), NONE);
        }
        // nothing of a longer text ahead is read again
        due("a long text", Bounds.read(faces, SIX_DOORS), 0);
        due("a short one", Bounds.read(faces, "near 1"), 1);
        due("its end", faces.place(), 6);
        due("nothing", faces.read(), 0);
        due("doors", faces.count(0), 0);
    }

    static void p5PlaceOfTheLatest() {
        sentence("Promise 5", "The byte of the latest read()'s FAULT; NONE without.");
        KnockerFaces faces = new KnockerFaces();
        due("without a read", faces.place(), NONE);
        Bounds.read(faces, "!");
        due("the first byte", faces.place(), 0);
        due("the same again", faces.place(), 0);
        faces.feed(0, 0, 0, 0, 0);
        faces.back(20);
        faces.days(1);
        due("until the next read", faces.place(), 0);
        Bounds.read(faces, "near 397;");
        due("the latest", faces.place(), 5);
        Bounds.read(faces, " ".repeat(1999) + "!");
        due("the last byte", faces.place(), 1999);
        Bounds.read(faces, "near 1;");
        due("without a fault", faces.place(), NONE);
    }
}
