/** The bounds of what is told, held and counted: part IV of the terms, and promises 36 to 42. */
public final class ToldBoundsTest {
    private static final int NONE = Bounds.NONE;
    private static final int NOBODY = Bounds.NOBODY;

    private static final String STREET = "door a 10 10 10 10; door b 20 20 20 20;"
            + "caller x 15 10 5 10; caller y 15 10 10 10; caller z 25 15 10 10; near 0;";

    public static void main(String[] args) throws Exception {
        Bounds.runAll(ToldBoundsTest.class);
    }

    private static void sentence(String section, String words) {
        Bounds.sentence(section, words);
    }

    private static void due(String call, long got, long want) {
        Bounds.due(call, got, want);
    }

    private static void due(String call, boolean got, boolean want) {
        Bounds.due(call, got, want);
    }

    private static KnockerFaces of(String text) {
        return Bounds.of(text);
    }

    // ---- IV, promises 36 to 39

    static void aLiftNow() {
        sentence("IV", "TOLD: that a LIFT now of a DOOR by a CALLER unknown makes a PART less, as it is, or more (-1, 0, 1);");
        // of part 0: x makes it less, y leaves it as it is, z makes it more
        String town = "door a 50 50 50 50; caller x 49 50 50 50; caller y 50 50 50 50; caller z 51 50 50 50;";
        for (int way = -1; way <= 1; way++) {
            KnockerFaces faces = of(town);
            due("tell", faces.tell(0, 0, way), 0);
            due("who makes it go " + way, faces.who(1, 1), 1 << way + 1);
            KnockerFaces nothing = of(town + "gives = 0;");
            nothing.tell(0, 0, way);
            due("no lift makes it other", nothing.who(1, 1), way == 0 ? 7 : 0);
        }
        // now: as it would be when it is looked at
        KnockerFaces now = of("door a 10 10 10 10; caller x 12 10 10 10; caller y 30 10 10 10; gives = 5;");
        now.tell(0, 0, 1);
        due("both", now.who(1, 1), 3);
        now.lift(0, 1);
        due("y alone", now.who(1, 1), 2);
        now.undo();
        due("both again", now.who(1, 1), 3);
    }

    static void twentyAtMost() {
        sentence("IV", "20 at most, numbered from 0 on; KNOWN by k: the first k.");
        KnockerFaces faces = of(STREET);
        for (int i = 0; i < 20; i++) {
            due("its number", faces.tell(0, 0, i < 19 ? 1 : -1), i);
        }
        due("20 are there", faces.tell(0, 0, 1), NONE);
        for (int k = 0; k < 20; k++) {
            due("by " + k, faces.who(k, 1), 7);
        }
        due("by 20", faces.who(20, 1), 0);
        due("by 21", faces.who(21, 1), NONE);
    }

    static void who() {
        sentence("IV", "WHO: CALLERS of whom all that is KNOWN is so: how many; which (bits).");
        KnockerFaces faces = of(STREET);
        faces.tell(0, 0, 1);
        faces.tell(0, 1, 0);
        faces.tell(0, 2, -1);
        faces.tell(0, 2, 0);
        int[] which = {7, 7, 3, 1, 0};
        for (int k = 0; k <= 4; k++) {
            due("which, by " + k, faces.who(k, 1), which[k]);
            due("how many, by " + k, faces.who(k, 0), Integer.bitCount(which[k]));
        }
        KnockerFaces doors = of("door a 10 10 10 10; door b 20 20 20 20; caller x 15 15 15 15; caller y 25 25 25 9;");
        doors.tell(1, 2, 1);
        doors.tell(0, 3, -1);
        due("b's part 2", doors.who(1, 1), 2);
        due("a's part 3", doors.who(2, 1), 2);
        doors.forget();
        doors.tell(0, 2, 1);
        doors.tell(1, 3, -1);
        doors.tell(1, 0, -1);
        due("a's part 2", doors.who(1, 1), 3);
        due("b's part 3", doors.who(2, 1), 3);
        due("b's part 0", doors.who(3, 1), 1);
        due("five", of("door a 1 1 1 1; caller v 1 1 1 1; caller w 1 1 1 1; caller x 1 1 1 1; caller y 1 1 1 1; caller z 1 1 1 1;").who(0, 1), 31);
    }

    static void ask() {
        sentence("IV", "ASK: the DOOR, then the PART, of which, once it is told, fewest are left, at worst; of alike ones the first.");
        KnockerFaces faces = of(STREET);
        // a's part 0: all three; part 1: two and one; part 2: one and two; b's part 0: two and one
        due("of alike ones the first", faces.ask(0), 1);
        faces.tell(0, 1, 0);
        due("x and y: a's part 2", faces.ask(1), 2);
        faces.tell(0, 2, 0);
        due("y alone: whatever is asked", faces.ask(2), 0);
        KnockerFaces second = of("door a 10 10 10 10; door b 20 20 20 20; caller x 30 30 30 30; caller y 30 30 30 15;");
        due("the door, then the part", second.ask(0), 13);
        // at worst: part 0 leaves 1, 1 or 3 of five; part 3 leaves 2, 2 or 1
        KnockerFaces worst = of("door a 50 50 50 50; caller v 40 50 50 40; caller w 50 50 50 40; caller x 60 50 50 50; caller y 60 50 50 60; caller z 60 50 50 60;");
        due("at worst", worst.ask(0), 3);
        KnockerFaces ways = of("door a 50 50 50 50; caller v 60 40 50 50; caller w 60 50 50 50; caller x 60 60 50 50;");
        due("less, as it is, more", ways.ask(0), 1);
        KnockerFaces last = of("door a 1 1 1 1; door b 1 1 1 1; door c 1 1 1 1; door d 1 1 1 1; door e 1 1 1 1; door f 5 5 5 5; caller x 9 9 9 9; caller y 9 9 9 3;");
        due("the last one of all", last.ask(0), 53);
        KnockerFaces alike = of("door a 1 1 1 1; caller v 9 9 9 9; caller w 9 9 9 9; caller x 9 9 9 9; caller y 9 9 9 9; caller z 9 9 9 9;");
        due("five that can't be told apart", alike.ask(0), 0);
    }

    static void p36Tell() {
        sentence("Promise 36", "It is TOLD: its number;");
        KnockerFaces faces = of(STREET);
        due("the first", faces.tell(0, 0, -1), 0);
        due("the last door and part", faces.tell(1, 3, 1), 1);
        due("told ones", faces.count(10), 2);
        due("no thing done", faces.count(9), 0);
        due("nothing to undo", faces.undo(), false);
        faces.forget();
        due("from 0 on again", faces.tell(0, 0, 0), 0);
    }

    static void p36NoSuchOnes() {
        sentence("Promise 36", "NONE, and nothing happens: 20 are there, no such ones.");
        KnockerFaces faces = of(STREET);
        faces.tell(0, 0, 1);
        for (int door : Bounds.none(2)) {
            due("tell(" + door + ", 0, 0)", faces.tell(door, 0, 0), NONE);
        }
        for (int part : Bounds.none(4)) {
            due("tell(0, " + part + ", 0)", faces.tell(0, part, 0), NONE);
        }
        for (int way : new int[] {-2, Bounds.MIN, 2, 3, Bounds.MAX}) {
            due("tell(0, 0, " + way + ")", faces.tell(0, 0, way), NONE);
        }
        due("nothing happened", faces.count(10), 1);
        due("who", faces.who(1, 1), 7);
        for (int i = 1; i < 20; i++) {
            due("tell", faces.tell(0, 0, 1), i);
        }
        due("20 are there", faces.tell(0, 0, -1), NONE);
        due("nothing happened", faces.count(10), 20);
        due("who", faces.who(20, 1), 7);
        due("no doors", of("caller x 1 1 1 1;").tell(0, 0, 0), NONE);
    }

    static void p37Forget() {
        sentence("Promise 37", "All that was TOLD is forgotten: how many there were.");
        KnockerFaces faces = of(STREET);
        due("nothing", faces.forget(), 0);
        faces.tell(0, 0, -1);
        due("one", faces.forget(), 1);
        due("nothing any more", faces.forget(), 0);
        due("who(1, 0)", faces.who(1, 0), NONE);
        for (int i = 0; i < 25; i++) {
            faces.tell(0, 0, 1);
        }
        due("twenty", faces.forget(), 20);
        due("count(10)", faces.count(10), 0);
        due("ask(1)", faces.ask(1), NONE);
    }

    static void p38Who() {
        sentence("Promise 38", "WHO, as KNOWN by k: what 0 how many, 1 which (bits); NONE: no such ones.");
        KnockerFaces faces = of(STREET);
        faces.tell(0, 1, 1);
        due("how many", faces.who(1, 0), 1);
        due("which", faces.who(1, 1), 4);
        due("by none", faces.who(0, 0), 3);
        for (int k : Bounds.none(2)) {
            due("who(" + k + ", 0)", faces.who(k, 0), NONE);
        }
        for (int what : Bounds.none(2)) {
            due("who(1, " + what + ")", faces.who(1, what), NONE);
        }
        due("no callers", new KnockerFaces().who(0, 0), 0);
        due("no callers", new KnockerFaces().who(0, 1), 0);
        due("no callers, k 1", new KnockerFaces().who(1, 0), NONE);
    }

    static void p39Ask() {
        sentence("Promise 39", "ASK, as KNOWN by k (10 * the DOOR + the PART); -2: none is left, no DOORS; NONE: no such k.");
        KnockerFaces faces = of(STREET);
        faces.tell(0, 0, -1);
        due("by none", faces.ask(0), 1);
        due("none is left", faces.ask(1), NOBODY);
        for (int k : Bounds.none(2)) {
            due("ask(" + k + ")", faces.ask(k), NONE);
        }
        due("no doors", of("caller x 1 1 1 1;").ask(0), NOBODY);
        due("no doors, k 1", of("caller x 1 1 1 1;").ask(1), NONE);
        due("no callers", of("door a 1 1 1 1;").ask(0), NOBODY);
        due("neither", new KnockerFaces().ask(0), NOBODY);
    }

    // ---- promises 40 and 41

    private static final String HELD = "door a 10 20 30 40; door b 50 50 50 50; caller x 99 99 99 99; caller y 0 0 0 0;"
            + "round x a 2 1; round y b 1 0; gives = 7; wears = 1; wind 40; seed 8;";

    private static KnockerFaces used() {
        KnockerFaces faces = of(HELD);
        faces.days(3);
        faces.lift(0, 1);
        faces.polish(1);
        faces.file(1, 2);
        faces.keep(0, false);
        return faces;
    }

    /** What goes on, without what can be undone, what is TOLD, the tape and the slots. */
    private static String goingOn(KnockerFaces faces) {
        String[] seen = Bounds.all(faces).split(" ");
        for (int what = 8; what <= 11; what++) {
            seen[what] = "-";
        }
        return String.join(" ", seen);
    }

    static void p40AllThatGoesOn() {
        sentence("Promise 40", "All that goes on (not what is TOLD, nor the tape) is held in a SLOT (0 .. 2): true;");
        for (int slot = 0; slot < 3; slot++) {
            KnockerFaces faces = used();
            String held = goingOn(faces);
            due("hold(" + slot + ")", faces.hold(slot), true);
            due("slots", faces.count(11), 1);
            due("what can be undone stays", faces.count(9), 5);
            faces.days(9);
            faces.keep(0, true);
            faces.lift(1, 0);
            faces.polish(0);
            faces.tell(0, 0, 1);
            faces.feed(0, 0, 0, 0, 0);
            due("restore(" + slot + ")", faces.restore(slot), true);
            due("all is as it was held", goingOn(faces).equals(held), true);
            due("not what is told", faces.count(10), 1);
            due("nor the tape", faces.count(8), 20);
            // it goes on just as it would have: the lift of that day, idle days, the wind
            KnockerFaces twin = used();
            twin.days(60);
            faces.days(60);
            due("it goes on", goingOn(faces).equals(goingOn(twin)), true);
        }
        KnockerFaces over = used();
        over.hold(1);
        over.days(1);
        over.hold(1);
        due("one slot", over.count(11), 1);
        over.days(1);
        over.restore(1);
        due("the later one", over.count(3), 4);
        KnockerFaces fresh = new KnockerFaces();
        due("of a new one", fresh.hold(0), true);
        due("slots", fresh.count(11), 1);
    }

    static void p40NoSuchSlot() {
        sentence("Promise 40", "false: no such one.");
        KnockerFaces faces = used();
        String before = Bounds.all(faces);
        for (int slot : Bounds.none(3)) {
            due("hold(" + slot + ")", faces.hold(slot), false);
        }
        Bounds.same("hold", faces, before);
        for (int slot = 0; slot < 3; slot++) {
            due("nothing is held", faces.restore(slot), false);
        }
    }

    static void p41GoesOnFromASlot() {
        sentence("Promise 41", "It goes on from what a SLOT holds (that stays there; nothing can be undone then): true;");
        KnockerFaces faces = used();
        String held = goingOn(faces);
        faces.hold(0);
        faces.days(5);
        faces.hold(2);
        due("restore", faces.restore(0), true);
        due("nothing can be undone", faces.count(9), 0);
        due("undo", faces.undo(), false);
        due("it stays there", faces.count(11), 2);
        faces.days(7);
        due("undo of what came then", faces.undo(), true);
        due("no more", faces.undo(), false);
        due("as held", goingOn(faces).equals(held), true);
        due("the other one", faces.restore(2), true);
        due("day", faces.count(3), 8);
        due("again", faces.restore(0), true);
        due("as held", goingOn(faces).equals(held), true);
    }

    static void p41NothingIsHeld() {
        sentence("Promise 41", "false, and nothing happens: no such one, nothing is held.");
        KnockerFaces faces = used();
        faces.hold(1);
        faces.tell(0, 0, 0);
        faces.days(1);
        String before = Bounds.all(faces);
        for (int slot : Bounds.none(3)) {
            due("restore(" + slot + ")", faces.restore(slot), false);
        }
        due("nothing in 0", faces.restore(0), false);
        due("nothing in 2", faces.restore(2), false);
        Bounds.same("restore", faces, before);
        due("undo", faces.undo(), true);
        due("of a new one", new KnockerFaces().restore(0), false);
    }

    // ---- promise 42

    static void p42HowManyThereAre() {
        sentence("Promise 42", "0 DOORS, 1 CALLERS, 2 ROUNDS, 3 the day,");
        KnockerFaces faces = of("door a 1 1 1 1; door b 1 1 1 1; door c 1 1 1 1; door d 1 1 1 1; door e 1 1 1 1; door f 1 1 1 1;"
                + "caller v 1 1 1 1; caller w 1 1 1 1; caller x 1 1 1 1; caller y 1 1 1 1; caller z 1 1 1 1;" + "round v a 1 0;".repeat(10));
        due("doors", faces.count(0), 6);
        due("callers", faces.count(1), 5);
        due("rounds", faces.count(2), 10);
        due("the day", faces.count(3), 0);
        faces.days(60);
        due("the day", faces.count(3), 60);
        faces.keep(0, false);
        due("rounds, kept or not", faces.count(2), 10);
        for (int what = 0; what < 4; what++) {
            due("of a new one", new KnockerFaces().count(what), 0);
        }
    }

    static void p42KnownBySomebody() {
        sentence("Promise 42", "4 DOORS that are KNOWN by somebody (bits), 5 LIFTS so far, 6 what all houses have, 7 ROUNDS that are kept (bits),");
        KnockerFaces faces = of("door a 1 1 1 1; door b 90 1 1 1; door c 1 1 1 1; door d 90 90 1 1; door e 1 1 1 1; door f 1 1 1 9;"
                + "caller x 1 1 1 1; caller y 90 90 1 1; round x a 1 0; round y b 1 0; round x c 1 0; near 8; pays = 9; gives = 0;");
        due("known ones", faces.count(4), 1 + 4 + 8 + 16 + 32);
        due("lifts", faces.count(5), 0);
        due("houses", faces.count(6), 0);
        due("kept ones", faces.count(7), 7);
        faces.lift(5, 1);
        faces.days(2);
        due("lifts", faces.count(5), 7);
        due("houses", faces.count(6), 63);
        faces.keep(1, false);
        due("kept ones", faces.count(7), 5);
        faces.undo();
        faces.undo();
        faces.undo();
        due("lifts undone", faces.count(5), 0);
        due("houses", faces.count(6), 0);
    }

    static void p42BytesAndThingsDone() {
        sentence("Promise 42", "8 bytes on the tape, 9 things that can be undone, 10 TOLD ones, 11 SLOTS that hold something,");
        KnockerFaces faces = of(STREET);
        for (int i = 1; i <= 100; i++) {
            faces.feed(0, 0, 0, 0, 0);
        }
        due("bytes", faces.count(8), 2000);
        faces.back(1999);
        due("bytes", faces.count(8), 1);
        faces.back(1);
        for (int i = 1; i <= 41; i++) {
            faces.lift(0, 0);
            due("things done", faces.count(9), Math.min(i, 40));
        }
        for (int i = 1; i <= 21; i++) {
            faces.tell(0, 0, 1);
            due("told ones", faces.count(10), Math.min(i, 20));
        }
        int[] slots = {2, 2, 0, 1, 3};
        int[] held = {1, 1, 2, 3, 3};
        for (int i = 0; i < slots.length; i++) {
            faces.hold(slots[i]);
            due("slots", faces.count(11), held[i]);
        }
    }

    static void p42WindToday() {
        sentence("Promise 42", "12: 1 WIND today, else 0,");
        KnockerFaces faces = of("wind 50; seed 77;");
        for (int day = 0; day < 100; day++) {
            due("day " + day, faces.count(12), Bounds.lot(100, 77, 16 * day) < 50 ? 1 : 0);
            faces.days(1);
        }
        due("of a new one", new KnockerFaces().count(12), 0);
        due("wind 0", of("wind 0;").count(12), 0);
        due("wind 100", of("wind 100;").count(12), 1);
    }

    static void p42UnlikeCallers() {
        sentence("Promise 42", "13 how many unlike CALLERS DOORS are KNOWN by,");
        String callers = "caller x 1 1 1 1; caller y 90 90 90 90; caller z 90 90 90 90;";
        due("no doors", of(callers).count(13), 0);
        due("one, twice", of(callers + "door a 1 1 1 1; door b 2 2 2 2;").count(13), 1);
        due("two", of(callers + "door a 1 1 1 1; door b 90 90 90 90; door c 89 90 90 90;").count(13), 2);
        due("nobody", of(callers + "door a 50 50 50 50;").count(13), 0);
        due("no callers", of("door a 50 50 50 50;").count(13), 0);
        due("five", of("door a 0 0 0 0; door b 20 20 20 20; door c 40 40 40 40; door d 60 60 60 60; door e 80 80 80 80; door f 81 80 80 80;"
                + "caller v 80 80 80 80; caller w 60 60 60 60; caller x 40 40 40 40; caller y 20 20 20 20; caller z 0 0 0 0;").count(13), 5);
    }

    static void p42AsTheFirstFace() {
        sentence("Promise 42", "14 DOORS whose PARTS are all as the FIRST face's (bits), 15 DOORS that are idle for a day or more (bits),"
                + " 16 how often any was POLISHED so far.");
        KnockerFaces faces = of("door a 1 1 1 1; door b 2 2 2 2; door c 3 3 3 3; door d 4 4 4 4; door e 5 5 5 5; door f 6 6 6 6; caller x 1 1 1 1; round x f 2 0;");
        due("all as they were", faces.count(14), 63);
        faces.file(0, 3);
        faces.lift(1, 0);
        faces.file(5, 0);
        due("three are not", faces.count(14), 4 + 8 + 16);
        due("idle on the first day", faces.count(15), 0);
        faces.days(1);
        due("idle for a day", faces.count(15), 1 + 4 + 8 + 16);
        faces.days(1);
        due("idle for a day or two", faces.count(15), 63);
        due("never polished", faces.count(16), 0);
        faces.polish(0);
        faces.polish(5);
        faces.polish(0);
        due("polished", faces.count(16), 3);
    }

    static void p42Others() {
        sentence("Promise 42", "NONE for others.");
        KnockerFaces faces = of(STREET);
        for (int what : Bounds.none(17)) {
            due("count(" + what + ")", faces.count(what), NONE);
            due("count(" + what + ") of a new one", new KnockerFaces().count(what), NONE);
        }
    }
}
