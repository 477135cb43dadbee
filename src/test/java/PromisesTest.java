/** Each promise by hand: ordinary inputs, the edges that the document names, and wrong inputs. */
public final class PromisesTest {
    private static final int NONE = -1;
    private static final int MIN = Integer.MIN_VALUE;
    private static final int MAX = Integer.MAX_VALUE;

    /** Two doors, three callers, two rounds; PARTS go 10 towards a caller's, 1 back, a caller pays unlike / 10. */
    private static final String STREET = "door red 10 20 30 40; door blue 50 50 50 50;"
            + "caller ann 10 20 30 50; caller bob 90 90 90 90; caller cid 50 50 50 40;"
            + "round ann blue 2 1; round bob red 3 0;"
            + "gives = 10; wears = 1; pays = unlike / 10; near 40;";

    private static int wrong = 0;
    private static String promise = "";

    public static void main(String[] args) {
        newObject();
        feedAndBack();
        doorAndCaller();
        round();
        unlikeAndTells();
        laws();
        lawsVariables();
        lift();
        moneyHasAnEnd();
        polish();
        file();
        keep();
        days();
        wind();
        idle();
        undo();
        lifts();
        towards();
        without();
        twins();
        paired();
        changes();
        rubs();
        when();
        alone();
        confused();
        nearest();
        same();
        shift();
        calls();
        richest();
        flat();
        then();
        busy();
        year();
        tellAndForget();
        whoAndAsk();
        holdAndRestore();
        count();
        System.out.println(wrong == 0 ? "all promises hold" : wrong + " answers are not as due");
        if (wrong != 0) {
            System.exit(1);
        }
    }

    // ---- helpers

    private static void due(String what, long got, long want) {
        if (got != want) {
            wrong++;
            System.out.println(promise + ": " + what + " answered " + got + ", due is " + want);
        }
    }

    private static void due(String what, boolean got, boolean want) {
        due(what, got ? 1 : 0, want ? 1 : 0);
    }

    private static KnockerFaces of(String text) {
        KnockerFaces faces = new KnockerFaces();
        feed(faces, text);
        due("read of " + text, faces.read(), 0);
        return faces;
    }

    private static void feed(KnockerFaces faces, String text) {
        int[] n = new int[5];
        int padded = (text.length() + 19) / 20 * 20;
        for (int i = 0; i < padded; i++) {
            n[i % 20 / 4] = n[i % 20 / 4] << 8 | (i < text.length() ? text.charAt(i) : 0);
            if (i % 20 == 19) {
                faces.feed(n[0], n[1], n[2], n[3], n[4]);
            }
        }
        faces.back(padded - text.length());
    }

    private static void face(KnockerFaces faces, int door, int a, int b, int c, int d) {
        due("part 0 of door " + door, faces.door(door, 0), a);
        due("part 1 of door " + door, faces.door(door, 1), b);
        due("part 2 of door " + door, faces.door(door, 2), c);
        due("part 3 of door " + door, faces.door(door, 3), d);
    }

    // ---- the promises

    private static void newObject() {
        promise = "1 new object";
        KnockerFaces faces = new KnockerFaces();
        for (int what = 0; what <= 16; what++) {
            due("count " + what, faces.count(what), 0);
        }
        due("paired", faces.paired(NONE), 0);
        due("place", faces.place(), NONE);
        due("undo", faces.undo(), false);
        due("days", faces.days(60), 60);
        due("hold", faces.hold(0), true);
        due("days", faces.days(1), 61);
        due("restore", faces.restore(0), true);
        due("day", faces.count(3), 60);
    }

    private static void feedAndBack() {
        promise = "2 feed, 3 back";
        KnockerFaces faces = new KnockerFaces();
        due("back of nothing", faces.back(0), 0);
        due("back of one too many", faces.back(1), NONE);
        for (int i = 1; i <= 100; i++) {
            due("feed", faces.feed(i, -i, MIN, MAX, 0), 20 * i);
        }
        due("feed at the end", faces.feed(0, 0, 0, 0, 0), NONE);
        due("bytes", faces.count(8), 2000);
        due("back 1", faces.back(1), 1999);
        due("feed beyond the end", faces.feed(0, 0, 0, 0, 0), NONE);
        due("bytes", faces.count(8), 1999);
        due("back 19", faces.back(19), 1980);
        due("feed up to the end", faces.feed(0, 0, 0, 0, 0), 2000);
        due("back -1", faces.back(-1), NONE);
        due("back MIN", faces.back(MIN), NONE);
        due("back 2001", faces.back(2001), NONE);
        due("back MAX", faces.back(MAX), NONE);
        due("back all", faces.back(2000), 0);
        // "near 397;" with the highest byte first, then blanks: the fault's place tells the order
        due("feed", faces.feed(0x6e656172, 0x20333937, 0x3b202020, 0x20202020, 0x20202020), 20);
        due("read", faces.read(), 5);
        due("place", faces.place(), 5);
        due("bytes behind read", faces.count(8), 0);
    }

    private static void doorAndCaller() {
        promise = "6 door, 7 caller";
        KnockerFaces faces = of(STREET);
        face(faces, 0, 10, 20, 30, 40);
        face(faces, 1, 50, 50, 50, 50);
        due("known", faces.door(0, 8), 0);
        due("known", faces.door(1, 8), 2);
        due("off first", faces.door(1, 9), 0);
        faces.lift(1, 1);
        face(faces, 1, 60, 60, 60, 60);
        due("lifted", faces.door(1, 4), 1);
        due("money", faces.door(1, 7), 16);
        due("off first", faces.door(1, 9), 40);
        due("known by nobody", faces.door(1, 8), -2);
        due("polish", faces.polish(1), true);
        due("rubbed", faces.door(1, 6), 1);
        due("idle", faces.door(0, 5), 0);
        due("what 10", faces.door(0, 10), NONE);
        due("what -1", faces.door(0, -1), NONE);
        due("door 2", faces.door(2, 0), NONE);
        due("door -1", faces.door(-1, 0), NONE);
        due("door MAX", faces.door(MAX, MIN), NONE);
        due("part of a caller", faces.caller(0, 3), 50);
        due("part of a caller", faces.caller(2, 0), 50);
        due("lifts of a caller", faces.caller(1, 4), 1);
        due("lifts of another", faces.caller(0, 4), 0);
        due("doors of a caller", faces.caller(0, 5), 1);
        due("doors of a caller", faces.caller(1, 5), 0);
        due("what 6", faces.caller(0, 6), NONE);
        due("what -1", faces.caller(0, -1), NONE);
        due("caller 3", faces.caller(3, 0), NONE);
        due("caller -1", faces.caller(-1, 0), NONE);
        // of alike ones the first; NEAR itself is near
        KnockerFaces alike = of("door a 10 10 10 10; caller x 11 10 10 10; caller y 10 9 10 10; near 1;");
        due("the first", alike.door(0, 8), 0);
        KnockerFaces far = of("door a 10 10 10 10; caller x 12 10 10 10; caller y 10 10 10 11; near 0;");
        due("nobody", far.door(0, 8), -2);
        due("nobody", of("door a 1 1 1 1;").door(0, 8), -2);
    }

    private static void round() {
        promise = "8 round";
        KnockerFaces faces = of(STREET);
        int[] first = {0, 1, 2, 1, 1, 0};
        int[] second = {1, 0, 3, 0, 1, 1};
        for (int what = 0; what < 6; what++) {
            due("round 0, " + what, faces.round(0, what), first[what]);
            due("round 1, " + what, faces.round(1, what), second[what]);
        }
        faces.keep(1, false);
        due("given up", faces.round(1, 4), 0);
        due("due, kept or not", faces.round(1, 5), 1);
        faces.days(3);
        due("a multiple behind FROM", faces.round(0, 5), 1);
        due("a multiple behind FROM", faces.round(1, 5), 1);
        due("what 6", faces.round(0, 6), NONE);
        due("what -1", faces.round(0, -1), NONE);
        due("round 2", faces.round(2, 0), NONE);
        due("round -1", faces.round(-1, 0), NONE);
        KnockerFaces late = of("door a 1 1 1 1; caller b 1 1 1 1; round b a 5 12;");
        late.days(2);
        due("ahead of FROM", late.round(0, 5), 0);
        late.days(10);
        due("at FROM", late.round(0, 5), 1);
    }

    private static void unlikeAndTells() {
        promise = "9 unlike, 10 tells";
        KnockerFaces faces = of(STREET);
        due("unlike", faces.unlike(0, 0), 10);
        due("unlike", faces.unlike(1, 1), 160);
        due("unlike", faces.unlike(0, 1), 260);
        due("no door", faces.unlike(2, 0), NONE);
        due("no caller", faces.unlike(0, 3), NONE);
        due("below 0", faces.unlike(-1, -1), NONE);
        due("gives 10", faces.tells(0, 1, 0), 10);
        due("gives, held to apart", faces.tells(0, 0, 0), 0);
        due("gives 10", faces.tells(0, 0, 3), 10);
        due("pays", faces.tells(0, 1, 4), 26);
        due("what 5", faces.tells(0, 1, 5), NONE);
        due("what -1", faces.tells(0, 1, -1), NONE);
        due("no door", faces.tells(2, 1, 0), NONE);
        due("no caller", faces.tells(0, 3, 0), NONE);
    }

    private static int gives(String law) {
        return of("door a 0 10 20 30; caller x 1 1 1 1; caller b 99 50 20 5; gives = " + law + ";").tells(0, 1, 0);
    }

    private static int pays(String law) {
        return of("door a 0 10 20 30; caller x 1 1 1 1; caller b 99 50 20 5; pays = " + law + ";").tells(0, 1, 4);
    }

    private static void laws() {
        promise = "II laws";
        due("plain", gives("7"), 7);
        due("times first", gives("2 + 3 * 4"), 14);
        due("from the left", gives("20 - 5 - 3"), 12);
        due("from the left", gives("100 / 5 / 2"), 10);
        due("from the left", gives("100 / 5 * 2"), 40);
        due("brackets", gives("(2 + 3) * 4"), 20);
        due("held to apart", gives("100"), 99);
        due("held to 0", gives("1 - 2"), 0);
        due("held to 99", pays("100"), 99);
        due("held to 0", pays("0 - 5"), 0);
        due("towards 0", gives("(0 - 7) / 2 + 10"), 7);
        due("towards 0", gives("7 / (0 - 2) + 10"), 7);
        due("the first if that holds", gives("if 2 < 1 then 3 else if 1 < 2 then 4 else if 1 < 3 then 5 else 6"), 4);
        due("not less", gives("if 2 < 2 then 3 else 6"), 6);
        due("less, below 0", gives("if 0 - 1 < 0 then 3 else 6"), 3);
        due("by 0", gives("5 / 0"), 0);
        due("by 0 within", gives("50 + 5 / (3 - 3)"), 0);
        due("by 0 in an if", gives("if 1 / 0 < 5 then 3 else 4"), 0);
        due("by 0 in an if, behind <", gives("if 1 < 5 / 0 then 3 else 4"), 0);
        due("by 0 in what is not looked at", gives("if 1 < 2 then 3 else 4 / 0"), 3);
        due("by 0 in what is not looked at", gives("if 2 < 1 then 3 / 0 else 4"), 4);
        due("by 0 in an if that is not looked at", gives("if 1 < 2 then 3 else if 1 / 0 < 2 then 4 else 5"), 3);
        due("times 0 does not help", gives("50 + 0 * (5 / 0)"), 0);
        // 9999 * 9999 * 22 is 2199560022, that is -2095407274 in 32 bits
        due("wraps", gives("if 9999 * 9999 * 22 < 0 then 1 else 2"), 1);
        due("wraps", gives("0 - 9999 * 9999 * 22 / 9999 / 9999"), 20);
        due("wraps", gives("if 9999 * 9999 * 21 < 0 then 1 else 2"), 2);
        // 8192 * 8192 * 32 is 2^31, the least int: by -1 it is itself
        due("the least int by -1", gives("if 8192 * 8192 * 32 / (0 - 1) < 0 then 1 else 2"), 1);
        due("the least int less 1", gives("if 8192 * 8192 * 32 - 1 < 0 then 1 else 2"), 2);
        due("deep", gives("100-1*(1+2*(1+2*(1+2*(1+2*(1+2*(1+2*0))))))"), 37);
        due("deep in an if", gives("if 1+2*(1+2*(1+2*(1+2*(1+2*(1+2*(1+2*3)))))) < 1+2*(1+2*(1+2*(1+2*(1+2*(1+2*(1+2*4)))))) then 5 else 6"), 5);
    }

    private static int pick(String law, int door, int caller, int part) {
        KnockerFaces faces = of("door a 0 0 0 0; door b 20 40 60 80; caller x 99 99 99 99; caller y 0 99 50 90; caller z 99 0 0 0; gives = "
                + law + "; pays = " + law + ";");
        faces.polish(1);
        faces.polish(1);
        faces.days(3);
        faces.days(2);
        faces.lift(0, 0);
        return faces.tells(door, caller, part);
    }

    private static void lawsVariables() {
        promise = "II variables";
        due("apart", pick("apart", 1, 1, 0), 20);
        due("apart", pick("apart / 2", 1, 1, 1), 29);
        due("apart, pays", pick("apart + 5", 1, 1, 4), 5);
        due("part", pick("part", 1, 1, 3), 3);
        due("part", pick("part + 1", 1, 1, 0), 1);
        due("part, pays", pick("part + 5", 1, 1, 4), 5);
        due("lifts", pick("lifts", 0, 0, 1), 1);
        due("lifts", pick("lifts", 1, 0, 1), 0);
        due("lifts, pays", pick("lifts", 0, 0, 4), 1);
        due("idle", pick("idle", 1, 1, 0), 5);
        due("idle, pays", pick("idle", 1, 1, 4), 5);
        due("day", pick("day", 1, 1, 0), 5);
        due("day, pays", pick("day", 1, 1, 4), 5);
        due("face", pick("face", 1, 0, 0), 20);
        due("face", pick("face / 2", 1, 0, 1), 20);
        due("face, pays", pick("face + 5", 1, 1, 4), 5);
        due("unlike", pick("unlike / 9", 1, 1, 0), (20 + 59 + 10 + 10) / 9);
        due("unlike, pays", pick("unlike", 1, 1, 4), 20 + 59 + 10 + 10);
        due("which", pick("which", 1, 2, 0), 2);
        due("which, pays", pick("which", 1, 2, 4), 2);
        due("rubbed", pick("rubbed", 1, 1, 0), 2);
        due("rubbed, pays", pick("rubbed", 1, 1, 4), 2);
        due("rubbed of another", pick("rubbed", 0, 0, 0), 0);
        // WEARS: apart and unlike are from the FIRST face, which is the door's number
        wears("apart / 3", 1, 47, 47, 41);
        wears("unlike / 6", 1, 47, 47, 40);
        wears("which", 1, 49, 49, 40);
        wears("which", 0, 50, 50, 41);
        wears("lifts + 1", 1, 48, 48, 40);
        wears("day + 1", 1, 47, 47, 40);
        wears("rubbed + 5", 1, 44, 44, 40);
        wears("face / 10", 1, 45, 45, 40);
        wears("part + 1", 1, 49, 48, 40);
        // idle is ahead of today: 3 on the day of the lift, then 0, then 1
        KnockerFaces idle = of("door a 40 40 40 40; caller x 50 40 40 40; gives = apart; wears = idle;");
        idle.days(3);
        idle.lift(0, 0);
        idle.days(1);
        due("wears idle", idle.door(0, 0), 47);
        idle.days(1);
        due("wears idle", idle.door(0, 0), 47);
        idle.days(1);
        due("wears idle", idle.door(0, 0), 46);
    }

    /** Of a door that was polished, and on day 2 lifted to 50, 50, 41, 40 from 40 each: what a day leaves of it. */
    private static void wears(String law, int door, int a, int b, int c) {
        KnockerFaces faces = of("door a 40 40 40 40; door b 40 40 40 40; caller x 50 50 41 40; gives = apart; wears = " + law + ";");
        faces.polish(door);
        faces.days(2);
        faces.lift(door, 0);
        faces.days(1);
        face(faces, door, a, b, c, 40);
    }

    private static void lift() {
        promise = "11 lift";
        KnockerFaces faces = of(STREET);
        due("no door", faces.lift(2, 0), false);
        due("no caller", faces.lift(0, 3), false);
        due("below 0", faces.lift(-1, 0), false);
        due("below 0", faces.lift(0, -1), false);
        due("nothing done", faces.count(9), 0);
        due("lift", faces.lift(0, 1), true);
        face(faces, 0, 20, 30, 40, 50);
        due("money by unlike ahead of it", faces.door(0, 7), 26);
        due("lift", faces.lift(0, 0), true);
        face(faces, 0, 10, 20, 30, 50);
        due("money", faces.door(0, 7), 26 + 3);
        due("lifted", faces.door(0, 4), 2);
        due("lifts", faces.count(5), 2);
        due("idle stays today", faces.door(0, 5), 0);
        // all four go by how the face was ahead of the lift
        KnockerFaces all = of("door a 0 0 0 0; caller b 40 40 40 40; gives = unlike / 16;");
        all.lift(0, 0);
        face(all, 0, 10, 10, 10, 10);
        all.lift(0, 0);
        face(all, 0, 17, 17, 17, 17);
        // the payment goes by the lifts ahead of this one, the gift too
        KnockerFaces more = of("door a 0 0 0 0; caller b 40 40 40 40; gives = lifts; pays = lifts + 1;");
        more.lift(0, 0);
        face(more, 0, 0, 0, 0, 0);
        due("money", more.door(0, 7), 1);
        more.lift(0, 0);
        face(more, 0, 1, 1, 1, 1);
        due("money", more.door(0, 7), 3);
    }

    private static void moneyHasAnEnd() {
        promise = "II money";
        KnockerFaces faces = of("door a 0 0 0 0; door z 0 0 0 0; caller b 40 40 40 40; pays = 99;" + "round b a 1 0;".repeat(10));
        for (int i = 0; i < 16; i++) {
            faces.days(60);
        }
        due("money", faces.door(0, 7), 16 * 60 * 10 * 99);
        due("money then", faces.then(0, 60, 5), 999999);
        due("richest", faces.richest(60, 1), 999999);
        faces.days(60);
        due("money", faces.door(0, 7), 999999);
        faces.lift(0, 0);
        due("money", faces.door(0, 7), 999999);
        due("the other house", faces.door(1, 7), 0);
        faces.lift(1, 0);
        due("all houses", faces.count(6), 999999 + 99);
        due("lifts", faces.count(5), 17 * 600 + 2);
    }

    private static void polish() {
        promise = "12 polish";
        KnockerFaces faces = of("door a 50 50 50 50; caller b 57 42 51 50; gives = apart;");
        due("no door", faces.polish(1), false);
        due("no door", faces.polish(-1), false);
        due("nothing done", faces.count(9), 0);
        faces.lift(0, 0);
        due("polish", faces.polish(0), true);
        face(faces, 0, 54, 46, 51, 50);
        due("polish", faces.polish(0), true);
        face(faces, 0, 52, 48, 51, 50);
        due("rubbed", faces.door(0, 6), 2);
        due("polished at all", faces.count(16), 2);
        KnockerFaces same = of("door a 50 50 50 50;");
        due("polish of a first face", same.polish(0), true);
        due("rubbed", same.door(0, 6), 1);
        due("a thing done", same.count(9), 1);
    }

    private static void file() {
        promise = "13 file";
        KnockerFaces faces = of("door a 50 0 50 99;");
        due("file", faces.file(0, 0), true);
        face(faces, 0, 0, 0, 50, 99);
        due("again", faces.file(0, 0), false);
        due("it is 0", faces.file(0, 1), false);
        due("file", faces.file(0, 3), true);
        due("part 4", faces.file(0, 4), false);
        due("part -1", faces.file(0, -1), false);
        due("no door", faces.file(1, 0), false);
        due("no door", faces.file(-1, 0), false);
        due("things done", faces.count(9), 2);
    }

    private static void keep() {
        promise = "14 keep";
        KnockerFaces faces = of(STREET);
        due("it is so", faces.keep(0, true), false);
        due("give up", faces.keep(0, false), true);
        due("bits", faces.count(7), 2);
        due("it is so", faces.keep(0, false), false);
        due("things done", faces.count(9), 1);
        faces.days(2);
        due("not lifted", faces.door(1, 4), 0);
        due("keep", faces.keep(0, true), true);
        faces.days(2);
        due("lifted on day 3", faces.door(1, 4), 1);
        due("no round", faces.keep(2, true), false);
        due("no round", faces.keep(-1, false), false);
        due("no round", faces.keep(32, false), false);
    }

    private static void days() {
        promise = "15 days";
        KnockerFaces faces = of(STREET);
        due("0", faces.days(0), 0);
        due("nothing done", faces.count(9), 0);
        due("-1", faces.days(-1), NONE);
        due("61", faces.days(61), NONE);
        due("day", faces.count(3), 0);
        // day 0: bob lifts red: 20 30 40 50, then 1 back
        due("1", faces.days(1), 1);
        face(faces, 0, 19, 29, 39, 49);
        face(faces, 1, 50, 50, 50, 50);
        due("a thing done", faces.count(9), 1);
        // day 1: ann lifts blue: 40 40 40 50, then 1 back; red 1 back
        due("1", faces.days(1), 2);
        face(faces, 0, 18, 28, 38, 48);
        face(faces, 1, 41, 41, 41, 50);
        due("lifts of ann", faces.caller(0, 4), 1);
        due("lifts of bob", faces.caller(1, 4), 1);
        due("money of blue", faces.door(1, 7), 9);
        due("60", faces.days(60), 62);
        // rounds in order, one behind the other: the second looks at what the first has left
        KnockerFaces two = of("door a 10 10 10 10; caller b 50 10 10 10; caller c 10 10 10 10; gives = 15; round b a 1 0; round c a 1 0;");
        two.days(1);
        face(two, 0, 10, 10, 10, 10);
        KnockerFaces turned = of("door a 10 10 10 10; caller b 50 10 10 10; caller c 10 10 10 10; gives = 15; round c a 1 0; round b a 1 0;");
        turned.days(1);
        face(turned, 0, 25, 10, 10, 10);
        // what wears off goes by how the face was ahead of it, all four
        KnockerFaces wears = of("door a 10 10 10 10; caller b 20 20 10 10; gives = 10; wears = unlike / 4;");
        wears.lift(0, 0);
        wears.days(1);
        face(wears, 0, 15, 15, 10, 10);
    }

    private static void wind() {
        promise = "II wind";
        // of seed 7: LOT 100 is 88, 45, 66, 39, .. on days 0 to 3; door 0's part is 0 on day 1, 1 on day 3; door 1's 3 and 0
        KnockerFaces faces = of("door a 10 10 10 10; door b 0 10 10 10; wind 46; seed 7;");
        due("no wind on day 0", faces.count(12), 0);
        faces.days(1);
        face(faces, 0, 10, 10, 10, 10);
        due("wind on day 1", faces.count(12), 1);
        faces.days(1);
        face(faces, 0, 9, 10, 10, 10);
        face(faces, 1, 0, 10, 10, 9);
        due("no wind on day 2", faces.count(12), 0);
        faces.days(2);
        face(faces, 0, 9, 9, 10, 10);
        face(faces, 1, 0, 10, 10, 9);
        KnockerFaces less = of("door a 10 10 10 10; wind 45; seed 7;");
        less.days(1);
        due("45 is not less than 45", less.count(12), 0);
        // the wind is ahead of what wears off
        KnockerFaces wears = of("door a 10 10 10 10; wind 46; seed 7; wears = 1;");
        wears.days(2);
        face(wears, 0, 10, 10, 10, 10);
        due("wind 0 never", of("door a 1 1 1 1;").count(12), 0);
        KnockerFaces never = of("door a 90 90 90 90;");
        for (int i = 0; i < 10; i++) {
            never.days(60);
        }
        face(never, 0, 90, 90, 90, 90);
        // of seed 0, which is that of a text that tells none, LOT 100 is 42 on day 0
        due("seed 0", of("door a 1 1 1 1; wind 43;").count(12), 1);
        due("seed 0", of("door a 1 1 1 1; wind 42;").count(12), 0);
        due("wind 100 always", of("door a 1 1 1 1; wind 100;").count(12), 1);
    }

    private static void idle() {
        promise = "II idle";
        KnockerFaces faces = of("door a 1 1 1 1; door b 1 1 1 1; caller c 1 1 1 1; round c b 2 0; pays = idle;");
        faces.days(1);
        due("idle", faces.door(0, 5), 1);
        due("lifted", faces.door(1, 5), 0);
        due("bits", faces.count(15), 1);
        faces.days(1);
        due("idle", faces.door(0, 5), 2);
        due("idle", faces.door(1, 5), 1);
        faces.lift(0, 0);
        due("idle until the day is over", faces.door(0, 5), 2);
        faces.lift(0, 0);
        due("paid by idle, both times", faces.door(0, 7), 4);
        faces.days(1);
        due("lifted by hand", faces.door(0, 5), 0);
        due("lifted on its round", faces.door(1, 5), 0);
        for (int i = 0; i < 17; i++) {
            faces.days(60);
        }
        due("999 at most", faces.door(0, 5), 999);
    }

    private static void undo() {
        promise = "16 undo";
        KnockerFaces faces = of(STREET);
        due("nothing", faces.undo(), false);
        faces.lift(0, 1);
        faces.polish(0);
        faces.file(0, 0);
        faces.keep(0, false);
        faces.days(5);
        due("five", faces.count(9), 5);
        due("days", faces.undo(), true);
        due("day", faces.count(3), 0);
        due("lifts", faces.count(5), 1);
        due("idle", faces.door(1, 5), 0);
        due("keep", faces.undo(), true);
        due("kept", faces.count(7), 3);
        due("file", faces.undo(), true);
        face(faces, 0, 15, 25, 35, 45);
        due("polish", faces.undo(), true);
        face(faces, 0, 20, 30, 40, 50);
        due("rubbed", faces.door(0, 6), 0);
        due("lift", faces.undo(), true);
        face(faces, 0, 10, 20, 30, 40);
        due("money", faces.door(0, 7), 0);
        due("caller's lifts", faces.caller(1, 4), 0);
        due("nothing", faces.undo(), false);
        // a lift that was undone was not made today
        faces.lift(1, 1);
        faces.undo();
        faces.days(1);
        due("idle", faces.door(1, 5), 1);
        faces.undo();
        for (int i = 0; i < 45; i++) {
            faces.polish(1);
        }
        due("the last 40", faces.count(9), 40);
        for (int i = 0; i < 40; i++) {
            due("undo", faces.undo(), true);
        }
        due("no more", faces.undo(), false);
        due("rubbed", faces.door(1, 6), 5);
    }

    private static void lifts() {
        promise = "17 lifts";
        String text = "door a 10 10 10 10; caller x 10 10 10 14; caller y 20 10 10 10; caller z 30 30 30 30; gives = 5; near 4;";
        KnockerFaces faces = of(text);
        due("now", faces.lifts(0, 0, NONE), 0);
        due("not so many", faces.lifts(0, 0, 0), NONE);
        due("by two", faces.lifts(0, 1, NONE), 2);
        due("first", faces.lifts(0, 1, 0), 1);
        due("second", faces.lifts(0, 1, 1), 1);
        due("not so many", faces.lifts(0, 1, 2), NONE);
        due("by four", faces.lifts(0, 2, NONE), 4);
        due("fourth", faces.lifts(0, 2, 3), 2);
        due("i 4", faces.lifts(0, 1, 4), NONE);
        due("i -2", faces.lifts(0, 1, -2), NONE);
        due("no door", faces.lifts(1, 0, NONE), NONE);
        due("no caller", faces.lifts(0, 3, NONE), NONE);
        KnockerFaces never = of("door a 10 10 10 10; caller x 99 99 99 99; near 4;");
        due("not by four", never.lifts(0, 0, NONE), -2);
        due("not by four, i 0", never.lifts(0, 0, 0), -2);
        due("not by four, i 3", never.lifts(0, 0, 3), -2);
        due("not by four, i 4", never.lifts(0, 0, 4), NONE);
        // the lowest caller first: x gives part 0 alone, y part 1 alone, and z, whose face it is to be, nothing
        KnockerFaces lowest = of("door a 10 10 10 10; caller z 20 20 10 10; caller x 20 0 0 0; caller y 0 20 0 0;"
                + "gives = if (part + 1 - which) * (part + 1 - which) < 1 then 10 else 0; near 0;");
        due("by two", lowest.lifts(0, 0, NONE), 2);
        due("first", lowest.lifts(0, 0, 0), 1);
        due("second", lowest.lifts(0, 0, 1), 2);
        due("nothing happens", lowest.count(5) + lowest.count(9) + lowest.count(6), 0);
        face(lowest, 0, 10, 10, 10, 10);
        // each lift counts for the next one
        KnockerFaces counted = of("door a 0 0 0 0; caller x 6 0 0 0; gives = lifts; near 0;");
        due("0 and 1 and 2 and 3", counted.lifts(0, 0, NONE), 4);
        counted.lift(0, 0);
        due("1 and 2 and 3", counted.lifts(0, 0, NONE), 3);
    }

    private static void towards() {
        promise = "18 towards";
        KnockerFaces faces = of("door a 10 10 10 10; caller x 50 50 10 10; caller y 50 10 10 10; caller z 50 50 10 10; gives = if which < 1 then 1 else 9;");
        due("who", faces.towards(0, 0, 0), 2);
        due("how much", faces.towards(0, 0, 1), 62);
        due("who", faces.towards(0, 1, 0), 1);
        due("how much", faces.towards(0, 1, 1), 31);
        due("of alike ones the first", of(STREET + "gives = 0;").towards(1, 0, 0), 0);
        due("what 2", faces.towards(0, 0, 2), NONE);
        due("what -1", faces.towards(0, 0, -1), NONE);
        due("no door", faces.towards(1, 0, 0), NONE);
        due("no caller", faces.towards(0, 3, 0), NONE);
        due("nothing happens", faces.door(0, 0), 10);
    }

    private static void without() {
        promise = "19 without";
        KnockerFaces faces = of("door a 10 10 10 10; caller x 10 10 10 10; caller y 30 10 10 10; round y a 1 0; round x a 1 0; gives = if which < 1 then 4 else 5; near 9; wind 100;");
        // both: +5 -4 a day; without y: x's; without x: y's behind 4 days, nobody's at 20 (both 10 away)
        due("without y", faces.without(0, 60), 0);
        due("without x in 1", faces.without(1, 1), 0);
        due("without x in 2", faces.without(1, 2), -2);
        due("without x in 3", faces.without(1, 3), 1);
        due("it is not given up", faces.count(7), 3);
        due("n 0", faces.without(0, 0), NONE);
        due("n 61", faces.without(0, 61), NONE);
        due("n -1", faces.without(0, -1), NONE);
        due("no round", faces.without(2, 1), NONE);
        due("no round", faces.without(-1, 1), NONE);
        faces.keep(1, false);
        due("given up already", faces.without(1, 3), 1);
        due("the other is given up too", faces.without(0, 3), 0);
    }

    private static void twins() {
        promise = "20 twins";
        KnockerFaces faces = of("door a 10 10 10 10; door b 20 20 20 20; door c 29 20 20 20; door d 1 10 10 10;");
        due("the first two of alike ones", faces.twins(0), 3);
        due("how much", faces.twins(1), 9);
        faces.file(0, 0);
        due("the two", faces.twins(0), 3);
        due("how much", faces.twins(1), 1);
        faces.file(0, 1);
        due("the two", faces.twins(0), 12);
        due("what 2", faces.twins(2), NONE);
        due("what -1", faces.twins(-1), NONE);
        KnockerFaces one = of("door a 10 10 10 10;");
        due("not two", one.twins(0), -2);
        due("not two", one.twins(1), -2);
        due("what 2", one.twins(2), NONE);
    }

    private static void paired() {
        promise = "21 paired";
        KnockerFaces faces = of("door a 10 0 0 0; door b 12 0 0 0; door c 30 0 0 0; caller x 11 0 0 0; caller y 10 0 0 0;");
        due("how much", faces.paired(NONE), 1);
        due("a", faces.paired(0), 1);
        due("b", faces.paired(1), 0);
        due("c", faces.paired(2), -2);
        due("no door", faces.paired(3), NONE);
        due("no door", faces.paired(-2), NONE);
        KnockerFaces alike = of("door a 5 0 0 0; door b 5 0 0 0; door c 5 0 0 0; caller x 1 0 0 0; caller y 9 0 0 0;");
        due("how much", alike.paired(NONE), 8);
        due("the lowest first", alike.paired(0), 0);
        due("then the next", alike.paired(1), 1);
        due("nobody behind all", alike.paired(2), -2);
        // as many pairs as can be, however far
        KnockerFaces far = of("door a 0 0 0 0; door b 99 99 99 99; caller x 0 0 0 0; caller y 0 0 0 0;");
        due("how much", far.paired(NONE), 396);
        due("a", far.paired(0), 0);
        due("b", far.paired(1), 1);
        due("no callers", of("door a 1 1 1 1;").paired(NONE), 0);
        due("no callers", of("door a 1 1 1 1;").paired(0), -2);
        KnockerFaces all = of("door a 0 0 0 0; door b 0 0 0 0; door c 0 0 0 0; door d 0 0 0 0; door e 0 0 0 0; door f 99 99 99 99;"
                + "caller v 99 99 99 99; caller w 99 99 99 99; caller x 99 99 99 99; caller y 99 99 99 99; caller z 99 99 99 99;");
        due("four far ones", all.paired(NONE), 4 * 396);
        due("a", all.paired(0), 0);
        due("d", all.paired(3), 3);
        due("e", all.paired(4), -2);
        due("f", all.paired(5), 4);
    }

    private static void changes() {
        promise = "22 changes";
        String text = "door a 10 10 10 10; caller x 10 10 10 10; caller y 30 10 10 10; round y a 2 1; gives = 5; near 9; wind 100; seed 3;";
        KnockerFaces faces = of(text);
        // lifted on days 1, 3, 5: 15, 20, 25; nobody's at 20, without the wind
        due("nobody behind 4 days", faces.changes(0), 4);
        KnockerFaces calm = of(text + "wind 0;");
        calm.days(4);
        due("nobody now", calm.door(0, 8), -2);
        due("somebody behind 2 days", calm.changes(0), 2);
        due("never", of("door a 1 1 1 1; caller x 1 1 1 1;").changes(0), -2);
        due("no door", faces.changes(1), NONE);
        due("no door", faces.changes(-1), NONE);
        KnockerFaces sixty = of("door a 0 0 0 0; caller x 0 0 0 0; caller y 60 0 0 0; round y a 1 0; near 59;");
        due("the first is nearest until 30", sixty.changes(0), 31);
        KnockerFaces last = of("door a 0 0 0 0; caller y 99 0 0 0; round y a 1 0; near 39;");
        due("behind 60", last.changes(0), 60);
        KnockerFaces late = of("door a 0 0 0 0; caller y 99 0 0 0; round y a 1 0; near 38;");
        due("behind 61", late.changes(0), -2);
    }

    private static void rubs() {
        promise = "23 rubs";
        KnockerFaces faces = of("door a 0 0 0 0; caller x 80 0 0 0; caller y 0 0 0 0; gives = apart; near 40;");
        due("known by y, always", faces.rubs(0), -2);
        faces.lift(0, 0);
        // 80 and 40 are x's, who is the first of alike ones; 20 is y's
        due("behind two", faces.rubs(0), 2);
        KnockerFaces nobody = of("door a 0 0 0 0; caller x 80 0 0 0; gives = apart; near 39;");
        due("nobody now", nobody.rubs(0), -2);
        nobody.lift(0, 0);
        due("nobody's behind one", nobody.rubs(0), 1);
        due("nothing happens", nobody.door(0, 6), 0);
        due("no door", faces.rubs(1), NONE);
        due("no door", faces.rubs(-1), NONE);
    }

    private static void when() {
        promise = "24 when";
        KnockerFaces faces = of("door a 10 10 10 10; caller x 10 10 10 10; caller y 30 10 10 10; round y a 2 1; gives = 5; near 9; wind 100;");
        due("now", faces.when(0, 0), 0);
        due("25 behind 6 days", faces.when(0, 1), 6);
        faces.keep(0, false);
        due("not", faces.when(0, 1), -2);
        due("no door", faces.when(1, 0), NONE);
        due("no caller", faces.when(0, 2), NONE);
        KnockerFaces last = of("door a 0 0 0 0; caller y 99 0 0 0; round y a 1 0; near 39;");
        due("behind 60", last.when(0, 0), 60);
        due("behind 61", of("door a 0 0 0 0; caller y 99 0 0 0; round y a 1 0; near 38;").when(0, 0), -2);
    }

    private static void alone() {
        promise = "25 alone";
        KnockerFaces faces = of("door a 0 0 0 0; caller x 0 0 0 0; caller y 60 0 0 0; near 0;");
        due("now", faces.alone(0, 0), 0);
        due("behind 60", faces.alone(0, 1), 60);
        due("behind 61", of("door a 0 0 0 0; caller y 61 0 0 0; near 0;").alone(0, 0), -2);
        due("nothing happens", faces.count(5), 0);
        due("no door", faces.alone(1, 0), NONE);
        due("no caller", faces.alone(0, 2), NONE);
        due("lifts count", of("door a 0 0 0 0; caller y 6 0 0 0; gives = lifts; near 0;").alone(0, 0), 4);
    }

    private static void confused() {
        promise = "26 confused";
        KnockerFaces faces = of("caller a 10 10 10 10; caller b 20 20 20 20; caller c 29 20 20 20; caller d 1 10 10 10;");
        due("the first two of alike ones", faces.confused(0), 3);
        due("how much", faces.confused(1), 9);
        due("what 2", faces.confused(2), NONE);
        due("what -1", faces.confused(-1), NONE);
        due("not two", of("caller a 1 1 1 1;").confused(1), -2);
        due("two", of("caller a 1 1 1 1; caller b 1 2 3 4;").confused(1), 6);
    }

    private static void nearest() {
        promise = "27 nearest";
        KnockerFaces faces = of("door a 10 20 30 40; caller x 0 25 40 0; caller y 20 15 29 0;");
        due("of alike ones the first", faces.nearest(0, 0), 0);
        due("of alike ones the first", faces.nearest(0, 1), 0);
        due("y", faces.nearest(0, 2), 1);
        due("part 4", faces.nearest(0, 4), NONE);
        due("part -1", faces.nearest(0, -1), NONE);
        due("no door", faces.nearest(1, 0), NONE);
        due("no callers", of("door a 1 1 1 1;").nearest(0, 0), -2);
        due("no callers, part 4", of("door a 1 1 1 1;").nearest(0, 4), NONE);
    }

    private static void same() {
        promise = "28 same";
        KnockerFaces faces = of("door a 1 2 3 4; caller x 1 0 0 4; caller y 0 2 3 0; caller z 1 2 3 4;");
        due("0 and 3", faces.same(0, 0), 9);
        due("1 and 2", faces.same(0, 1), 6);
        due("all", faces.same(0, 2), 15);
        due("no door", faces.same(1, 0), NONE);
        due("no caller", faces.same(0, 3), NONE);
    }

    private static void shift() {
        promise = "29 shift";
        KnockerFaces faces = of("door a 10 10 10 10; caller y 30 5 10 10; round y a 2 1; gives = 4; wind 100;");
        due("0", faces.shift(0, 0), 0);
        due("1", faces.shift(0, 1), 0);
        due("2", faces.shift(0, 2), 8);
        due("4", faces.shift(0, 4), 13);
        due("60", faces.shift(0, 60), 25);
        due("61", faces.shift(0, 61), NONE);
        due("-1", faces.shift(0, -1), NONE);
        due("no door", faces.shift(1, 0), NONE);
        faces.lift(0, 0);
        due("from now", faces.shift(0, 2), 5);
    }

    private static void calls() {
        promise = "30 calls";
        KnockerFaces faces = of("door a 1 1 1 1; door b 1 1 1 1; caller x 1 1 1 1; caller y 1 1 1 1; round x a 2 1; round y a 3 0; round y b 30 29;");
        due("day 0", faces.calls(0, 1), 1);
        due("days 0 to 5", faces.calls(0, 6), 5);
        due("days 0 to 28", faces.calls(1, 29), 0);
        due("days 0 to 29", faces.calls(1, 30), 1);
        due("days 0 to 59", faces.calls(1, 60), 2);
        due("n 0", faces.calls(0, 0), NONE);
        due("n 61", faces.calls(0, 61), NONE);
        due("no door", faces.calls(2, 1), NONE);
        faces.days(1);
        due("days 1 to 3", faces.calls(0, 3), 3);
        faces.keep(1, false);
        due("given up", faces.calls(0, 3), 2);
    }

    private static void richest() {
        promise = "31 richest";
        KnockerFaces faces = of("door a 1 1 1 1; door b 1 1 1 1; caller x 1 1 1 1; caller y 1 1 1 1; round x a 1 0; round y b 2 1; pays = 2 * which + 2;");
        due("now, the first", faces.richest(0, 0), 0);
        due("now", faces.richest(0, 1), 0);
        due("1", faces.richest(1, 0), 0);
        due("2: 4 and 4", faces.richest(2, 0), 0);
        due("2", faces.richest(2, 1), 4);
        faces.lift(1, 0);
        due("2: 4 and 6", faces.richest(2, 0), 1);
        due("2", faces.richest(2, 1), 6);
        due("n 61", faces.richest(61, 0), NONE);
        due("n -1", faces.richest(-1, 0), NONE);
        due("what 2", faces.richest(1, 2), NONE);
        due("no doors", of("").richest(1, 1), -2);
        due("no doors, n 61", of("").richest(61, 1), NONE);
    }

    private static void flat() {
        promise = "32 flat";
        KnockerFaces faces = of("door a 10 10 10 10; door b 5 5 5 5; door c 7 7 7 7;");
        due("the first", faces.flat(0), 0);
        faces.file(0, 0);
        faces.file(1, 0);
        due("c", faces.flat(0), 2);
        faces.file(2, 0);
        due("b", faces.flat(0), 1);
        due("how much", faces.flat(1), 5);
        due("what 2", faces.flat(2), NONE);
        due("what -1", faces.flat(-1), NONE);
        due("no doors", of("").flat(0), -2);
        due("no doors", of("").flat(1), -2);
    }

    private static void then() {
        promise = "33 then";
        KnockerFaces faces = of("door a 10 10 10 10; caller y 30 10 10 10; round y a 1 0; gives = 5; near 16; wind 46; seed 7; pays = 3;");
        // the wind of day 1 takes 1 of part 0
        due("part 0 now", faces.then(0, 0, 0), 10);
        due("part 0 in 1", faces.then(0, 1, 0), 15);
        due("part 0 in 2", faces.then(0, 2, 0), 19);
        due("part 1 in 4", faces.then(0, 4, 1), 9);
        due("part 3 in 4", faces.then(0, 4, 3), 10);
        due("known now", faces.then(0, 0, 4), -2);
        due("known in 1", faces.then(0, 1, 4), 0);
        due("money in 4", faces.then(0, 4, 5), 12);
        due("n 61", faces.then(0, 61, 0), NONE);
        due("n -1", faces.then(0, -1, 0), NONE);
        due("what 6", faces.then(0, 1, 6), NONE);
        due("what -1", faces.then(0, 1, -1), NONE);
        due("no door", faces.then(1, 1, 0), NONE);
        due("nothing happens", faces.count(3) + faces.count(5), 0);
        int part = faces.then(0, 60, 2);
        faces.days(60);
        due("it is so then", faces.door(0, 2), part);
    }

    private static void busy() {
        promise = "34 busy";
        KnockerFaces faces = of("door a 1 1 1 1; caller x 1 1 1 1; caller y 1 1 1 1; round x a 2 1; round y a 3 0;");
        due("day 0", faces.busy(1, 0), 1);
        due("days 0 and 1: one each", faces.busy(2, 0), 0);
        due("how many", faces.busy(2, 1), 1);
        due("days 0 to 5", faces.busy(6, 0), 0);
        due("how many", faces.busy(6, 1), 3);
        faces.keep(0, false);
        due("given up", faces.busy(6, 0), 1);
        due("how many", faces.busy(6, 1), 2);
        due("n 0", faces.busy(0, 0), NONE);
        due("n 60", faces.busy(60, 1), 20);
        due("n 61", faces.busy(61, 0), NONE);
        due("what 2", faces.busy(1, 2), NONE);
        due("no callers", of("").busy(1, 0), -2);
        due("no callers", of("").busy(1, 1), -2);
        due("no lifts", of("caller x 1 1 1 1;").busy(1, 0), 0);
        due("no lifts", of("caller x 1 1 1 1;").busy(1, 1), 0);
    }

    private static void year() {
        promise = "35 year";
        // LOT 100 on day 0, by seeds 7 to 11: 88, 57, 9, 74, 35
        KnockerFaces faces = of("door a 10 10 10 10; caller x 10 10 10 10; wind 58; seed 7; near 0;");
        due("seed 7: no wind", faces.year(0, 0, 1, 1), 1);
        due("seeds 7, 8", faces.year(0, 0, 1, 2), 1);
        due("seeds 7 to 9", faces.year(0, 0, 1, 3), 1);
        due("seeds 7 to 10", faces.year(0, 0, 1, 4), 2);
        due("seeds 7 to 11", faces.year(0, 0, 1, 5), 2);
        due("now", faces.year(0, 0, 0, 20), 20);
        due("n 61", faces.year(0, 0, 61, 1), NONE);
        due("n -1", faces.year(0, 0, -1, 1), NONE);
        due("s 0", faces.year(0, 0, 1, 0), NONE);
        due("s 21", faces.year(0, 0, 1, 21), NONE);
        due("no door", faces.year(1, 0, 1, 1), NONE);
        due("no caller", faces.year(0, 1, 1, 1), NONE);
        due("n 60", of("door a 10 10 10 10; caller x 10 10 10 10;").year(0, 0, 60, 3), 3);
        due("the last seed and on", of("door a 10 10 10 10; caller x 10 10 10 10; seed 9999;").year(0, 0, 9, 20), 20);
    }

    private static void tellAndForget() {
        promise = "36 tell, 37 forget";
        KnockerFaces faces = of(STREET);
        due("part 4", faces.tell(0, 4, 0), NONE);
        due("part -1", faces.tell(0, -1, 0), NONE);
        due("way 2", faces.tell(0, 0, 2), NONE);
        due("way -2", faces.tell(0, 0, -2), NONE);
        due("no door", faces.tell(2, 0, 0), NONE);
        due("nothing told", faces.forget(), 0);
        for (int i = 0; i < 20; i++) {
            due("told", faces.tell(i % 2, i % 4, i % 3 - 1), i);
        }
        due("20 are there", faces.tell(0, 0, 0), NONE);
        due("told ones", faces.count(10), 20);
        due("nothing done", faces.count(9), 0);
        due("forget", faces.forget(), 20);
        due("told ones", faces.count(10), 0);
        due("told", faces.tell(0, 0, 0), 0);
    }

    private static void whoAndAsk() {
        promise = "38 who, 39 ask";
        KnockerFaces faces = of("door a 10 10 10 10; door b 20 20 20 20; caller x 15 10 5 10; caller y 15 10 10 10; caller z 25 15 10 10; near 0;");
        due("all", faces.who(0, 0), 3);
        due("all", faces.who(0, 1), 7);
        due("a's part 1: two and one; part 2: one and two; b's part 0: two and one", faces.ask(0), 1);
        due("tell", faces.tell(0, 0, 1), 0);
        due("all still", faces.who(1, 1), 7);
        due("tell", faces.tell(0, 1, 0), 1);
        due("x and y", faces.who(2, 1), 3);
        due("two", faces.who(2, 0), 2);
        due("ask a's part 2", faces.ask(2), 2);
        due("tell", faces.tell(0, 2, -1), 2);
        due("x", faces.who(3, 1), 1);
        due("one is left, whatever is asked", faces.ask(3), 0);
        due("tell", faces.tell(1, 0, 1), 3);
        due("none", faces.who(4, 0), 0);
        due("none is left", faces.ask(4), -2);
        due("first ones still", faces.who(2, 1), 3);
        due("k 5", faces.who(5, 0), NONE);
        due("k -1", faces.who(-1, 0), NONE);
        due("what 2", faces.who(0, 2), NONE);
        due("k 5", faces.ask(5), NONE);
        due("k -1", faces.ask(-1), NONE);
        KnockerFaces other = of("door a 10 10 10 10; door b 20 20 20 20; caller x 30 30 30 30; caller y 30 30 30 15;");
        due("the door, then the part", other.ask(0), 13);
        KnockerFaces never = of("door a 10 10 10 10; caller x 30 30 30 30; gives = 0;");
        never.tell(0, 0, 1);
        due("no lift gives anything", never.who(1, 0), 0);
        due("no doors", of("caller x 1 1 1 1;").ask(0), -2);
        due("no doors, all callers", of("caller x 1 1 1 1;").who(0, 0), 1);
        due("no callers", of("door a 1 1 1 1;").ask(0), -2);
        // a LIFT now: the face that the door has when it is looked at
        KnockerFaces now = of("door a 10 10 10 10; caller x 12 10 10 10; caller y 30 10 10 10; gives = 5;");
        now.tell(0, 0, 1);
        due("both", now.who(1, 1), 3);
        now.lift(0, 1);
        due("y alone", now.who(1, 1), 2);
    }

    private static void holdAndRestore() {
        promise = "40 hold, 41 restore";
        KnockerFaces faces = of(STREET);
        due("slot 3", faces.hold(3), false);
        due("slot -1", faces.hold(-1), false);
        due("slot 3", faces.restore(3), false);
        due("slot -1", faces.restore(-1), false);
        due("nothing is held", faces.restore(0), false);
        faces.lift(1, 1);
        faces.keep(0, false);
        faces.days(2);
        due("hold", faces.hold(2), true);
        due("held", faces.count(11), 1);
        int part = faces.door(1, 0);
        int money = faces.count(6);
        faces.days(7);
        faces.polish(1);
        faces.keep(0, true);
        faces.tell(0, 0, 1);
        faces.feed(0, 0, 0, 0, 0);
        due("restore", faces.restore(2), true);
        due("part", faces.door(1, 0), part);
        due("money", faces.count(6), money);
        due("day", faces.count(3), 2);
        due("kept", faces.count(7), 2);
        due("rubbed", faces.count(16), 0);
        due("caller's lifts", faces.caller(1, 4), 2);
        due("told stays", faces.count(10), 1);
        due("tape stays", faces.count(8), 20);
        due("nothing can be undone", faces.undo(), false);
        due("it stays there", faces.count(11), 1);
        faces.days(1);
        due("again", faces.restore(2), true);
        due("day", faces.count(3), 2);
        due("hold another", faces.hold(0), true);
        due("hold over it", faces.hold(2), true);
        due("held", faces.count(11), 2);
        // a door that was lifted today is held as such
        KnockerFaces today = of("door a 1 1 1 1; caller b 9 9 9 9;");
        today.lift(0, 0);
        today.hold(1);
        today.days(1);
        today.restore(1);
        today.days(1);
        due("idle", today.door(0, 5), 0);
    }

    private static void count() {
        promise = "42 count";
        KnockerFaces faces = of(STREET);
        due("doors", faces.count(0), 2);
        due("callers", faces.count(1), 3);
        due("rounds", faces.count(2), 2);
        due("day", faces.count(3), 0);
        due("known", faces.count(4), 3);
        due("kept", faces.count(7), 3);
        due("unlike callers", faces.count(13), 2);
        due("first faces", faces.count(14), 3);
        due("idle", faces.count(15), 0);
        faces.lift(1, 1);
        due("known", faces.count(4), 1);
        due("lifts", faces.count(5), 1);
        due("money", faces.count(6), 16);
        due("undone", faces.count(9), 1);
        due("unlike callers", faces.count(13), 1);
        due("first faces", faces.count(14), 1);
        faces.polish(0);
        faces.polish(1);
        due("polished", faces.count(16), 2);
        faces.days(1);
        due("idle", faces.count(15), 0);
        faces.days(1);
        due("idle", faces.count(15), 1);
        due("17", faces.count(17), NONE);
        due("-1", faces.count(-1), NONE);
        due("MIN", faces.count(MIN), NONE);
        due("MAX", faces.count(MAX), NONE);
        due("one caller of two doors", of("door a 1 1 1 1; door b 1 1 1 1; caller x 1 1 1 1;").count(13), 1);
    }
}
