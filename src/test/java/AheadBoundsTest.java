import java.util.ArrayList;
import java.util.List;

/** The bounds of what would be: part III of the terms, and promises 17 to 35. */
public final class AheadBoundsTest {
    private static final int NONE = Bounds.NONE;
    private static final int NOBODY = Bounds.NOBODY;
    private static final int MIN = Bounds.MIN;
    private static final int MAX = Bounds.MAX;

    /** Two doors, three callers, three rounds, all that laws can look at. */
    private static final String STREET = "door a 10 20 30 40; door b 50 50 50 50;"
            + "caller x 10 20 30 50; caller y 90 90 90 90; caller z 50 50 50 40;"
            + "round x b 2 1; round y a 3 0; round z a 4 2;"
            + "gives = (apart + lifts + idle) / 3; wears = apart / 8 + rubbed; pays = unlike / 10 + day; near 60; seed 4;";

    /** A door whose part 0 is n behind n days, and a caller who knows it from the day on that near tells. */
    private static final String CLIMB = "door a 0 0 0 0; caller y 99 0 0 0; round y a 1 0;";

    public static void main(String[] args) throws Exception {
        Bounds.runAll(AheadBoundsTest.class);
    }

    private static void sentence(String section, String words) {
        Bounds.sentence(section, words);
    }

    private static void due(String call, long got, long want) {
        Bounds.due(call, got, want);
    }

    private static void due(String call, boolean got, boolean want) {
        Bounds.due(call, got, want);
    }

    private static KnockerFaces of(String text) {
        return Bounds.of(text);
    }

    // ---- III: nothing happens, and where there is wind

    /** What all calls tell of what would be, but for those that go by the wind. */
    private static List<Integer> calmAnswers(KnockerFaces faces) {
        List<Integer> answers = new ArrayList<>();
        for (int door = 0; door < 2; door++) {
            for (int caller = 0; caller < 3; caller++) {
                answers.add(faces.lifts(door, caller, NONE));
                answers.add(faces.lifts(door, caller, 0));
                answers.add(faces.towards(door, caller, 0));
                answers.add(faces.towards(door, caller, 1));
                answers.add(faces.when(door, caller));
                answers.add(faces.alone(door, caller));
                answers.add(faces.same(door, caller));
            }
            answers.add(faces.paired(door));
            answers.add(faces.changes(door));
            answers.add(faces.rubs(door));
            answers.add(faces.nearest(door, 2));
            answers.add(faces.shift(door, 60));
            answers.add(faces.calls(door, 60));
        }
        for (int what = 0; what < 2; what++) {
            answers.add(faces.twins(what));
            answers.add(faces.confused(what));
            answers.add(faces.richest(60, what));
            answers.add(faces.flat(what));
            answers.add(faces.busy(60, what));
        }
        for (int round = 0; round < 3; round++) {
            answers.add(faces.without(round, 60));
        }
        answers.add(faces.paired(NONE));
        return answers;
    }

    static void nothingHappens() {
        sentence("III", "What would be (nothing happens;");
        KnockerFaces faces = of(STREET + "wind 50;");
        faces.days(4);
        faces.lift(1, 1);
        faces.polish(0);
        faces.tell(0, 0, 1);
        faces.hold(2);
        faces.feed(0, 0, 0, 0, 0);
        String before = Bounds.all(faces);
        List<Integer> first = calmAnswers(faces);
        first.add(faces.then(0, 60, 4) + faces.then(1, 60, 0) + faces.year(0, 0, 60, 20));
        Bounds.same("what would be", faces, before);
        List<Integer> second = calmAnswers(faces);
        second.add(faces.then(0, 60, 4) + faces.then(1, 60, 0) + faces.year(0, 0, 60, 20));
        due("the same answers again", first.equals(second), true);
        due("undo of the polishing", faces.undo(), true);
        due("rubbed", faces.door(0, 6), 0);
    }

    static void whereThereIsWind() {
        sentence("III", "WIND in IN n DAYS and YEAR alone).");
        KnockerFaces calm = of(STREET);
        KnockerFaces windy = of(STREET + "wind 100;");
        List<Integer> without = calmAnswers(calm);
        List<Integer> with = calmAnswers(windy);
        for (int i = 0; i < without.size(); i++) {
            due("answer " + i + " with wind", with.get(i), without.get(i));
        }
        // where it would show: each of these would be another one by a wind that blows every day
        KnockerFaces still = of("door a 50 50 50 50; caller x 50 50 50 50; caller y 49 49 49 49; round x a 30 29; round x a 30 29; gives = 0; near 30; wind 100; pays = unlike;");
        due("changes", still.changes(0), NOBODY);
        due("when", still.when(0, 1), NOBODY);
        due("without", still.without(0, 60), 0);
        due("shift", still.shift(0, 60), 0);
        due("richest", still.richest(60, 1), 0);
        due("then", still.then(0, 60, 4), NOBODY);
        due("then, the house", still.then(0, 60, 5) > 0, true);
        due("year", still.year(0, 0, 60, 20), 0);
        due("year, now", still.year(0, 0, 0, 20), 20);
    }

    // ---- LIFTS, promise 17

    static void fewestLifts() {
        sentence("III", "LIFTS for a DOOR and a CALLER: the fewest LIFTS now (0 .. 4), one behind the other, by any, behind which it is KNOWN by that one;");
        for (int lifts = 0; lifts <= 6; lifts++) {
            KnockerFaces faces = of("door a 0 0 0 0; caller x " + lifts + " 0 0 0; near 0;");
            due("lifts", faces.lifts(0, 0, NONE), lifts <= 4 ? lifts : NOBODY);
        }
        // by any: z is known behind lifts by x and y alone, who move a part each
        KnockerFaces any = of("door a 10 10 10 10; caller z 20 20 10 10; caller x 20 0 0 0; caller y 0 20 0 0;"
                + "gives = if (part + 1 - which) * (part + 1 - which) < 1 then 10 else 0; near 0;");
        due("by two others", any.lifts(0, 0, NONE), 2);
        due("the first", any.lifts(0, 0, 0), 1);
        due("the second", any.lifts(0, 0, 1), 2);
        // one behind the other: each counts for the next one; 0 and 1 and 2 and 3
        KnockerFaces counted = of("door a 0 0 0 0; caller x 6 0 0 0; gives = lifts; near 0;");
        due("each counts", counted.lifts(0, 0, NONE), 4);
        KnockerFaces other = of("door a 0 0 0 0; caller x 6 0 0 0; caller y 0 9 0 0; gives = lifts; near 0;");
        due("each on its way alone counts", other.lifts(0, 0, NONE), 4);
        other.lift(0, 0);
        due("those that were count, too", other.lifts(0, 0, NONE), 3);
        // KNOWN, not near alone: x is nearer, or as near and ahead
        KnockerFaces nearer = of("door a 0 0 0 0; caller x 10 0 0 0; caller y 10 0 0 0; gives = 5; near 40;");
        due("x is ahead", nearer.lifts(0, 1, NONE), NOBODY);
    }

    static void theLowestCallerFirst() {
        sentence("III", "of as many those by the lowest CALLER first, then the next one.");
        KnockerFaces alike = of("door a 0 0 0 0; caller x 8 0 0 0; caller y 8 0 0 0; caller z 8 0 0 0; gives = 2; near 0;");
        for (int i = 0; i < 4; i++) {
            due("of alike ones the lowest", alike.lifts(0, 0, i), 0);
        }
        // p's face is reached by u and p, by p and u, and by p and p
        KnockerFaces order = of("door a 0 0 0 0; caller u 9 0 0 0; caller v 0 9 0 0; caller p 2 1 0 0; near 0;"
                + "gives = if which < 1 then 1 - part else 1;");
        due("two lifts", order.lifts(0, 2, NONE), 2);
        due("the lowest first", order.lifts(0, 2, 0), 0);
        due("then the next one", order.lifts(0, 2, 1), 2);
        // t's face is reached by u, u and v, and by v, v and u
        KnockerFaces three = of("door a 0 0 0 0; caller t 3 3 0 0; caller u 9 0 0 0; caller v 0 9 0 0; near 0;"
                + "gives = if which < 1 then 0 else 3;");
        due("three lifts", three.lifts(0, 0, NONE), 3);
        due("the lowest first", three.lifts(0, 0, 0), 1);
        due("then the next one", three.lifts(0, 0, 1), 1);
        due("then the next one", three.lifts(0, 0, 2), 2);
    }

    static void p17HowMany() {
        sentence("Promise 17", "LIFTS: how many (i NONE), else the i-th CALLER;");
        KnockerFaces faces = of("door a 10 10 10 10; caller x 10 10 10 14; caller y 20 10 10 10; caller z 30 30 30 30; gives = 5; near 4;");
        due("now", faces.lifts(0, 0, NONE), 0);
        due("by two", faces.lifts(0, 1, NONE), 2);
        due("the first", faces.lifts(0, 1, 0), 1);
        due("the second", faces.lifts(0, 1, 1), 1);
        due("by four", faces.lifts(0, 2, NONE), 4);
        for (int i = 0; i < 4; i++) {
            due("lifts(0, 2, " + i + ")", faces.lifts(0, 2, i), 2);
        }
        KnockerFaces one = of("door a 0 0 0 0; caller x 4 0 0 0; near 0;");
        due("by the only one there is", one.lifts(0, 0, NONE), 4);
        for (int i = 0; i < 4; i++) {
            due("lifts(0, 0, " + i + ")", one.lifts(0, 0, i), 0);
        }
    }

    static void p17NotByFour() {
        sentence("Promise 17", "-2: not by four (i NONE or not);");
        KnockerFaces faces = of("door a 0 0 0 0; caller x 5 0 0 0; near 0;");
        for (int i = NONE; i < 4; i++) {
            due("lifts(0, 0, " + i + ")", faces.lifts(0, 0, i), NOBODY);
        }
        String five = "caller v 9 9 9 9; caller w 9 9 9 8; caller x 9 9 8 8; caller y 9 8 8 8; caller z 8 8 8 8;";
        KnockerFaces many = of("door a 0 0 0 0;" + five + "near 0;");
        for (int caller = 0; caller < 5; caller++) {
            due("by five callers", many.lifts(0, caller, NONE), NOBODY);
        }
        // the last of all that are tried: four lifts by the last caller
        KnockerFaces last = of("door a 0 0 0 0; caller v 99 0 0 0; caller w 99 0 0 0; caller x 99 0 0 0; caller y 99 0 0 0; caller z 0 4 0 0; near 0;");
        due("by the last", last.lifts(0, 4, NONE), 4);
        for (int i = 0; i < 4; i++) {
            due("lifts(0, 4, " + i + ")", last.lifts(0, 4, i), 4);
        }
    }

    static void p17NoSuchOnes() {
        sentence("Promise 17", "NONE: no such ones (i 0 .. 3), not so many.");
        KnockerFaces faces = of("door a 0 0 0 0; caller x 2 0 0 0; caller y 99 99 99 99; near 0;");
        due("two", faces.lifts(0, 0, NONE), 2);
        due("not so many", faces.lifts(0, 0, 2), NONE);
        due("not so many", faces.lifts(0, 0, 3), NONE);
        for (int i : new int[] {4, 5, MAX, -2, -3, MIN}) {
            due("lifts(0, 0, " + i + ")", faces.lifts(0, 0, i), NONE);
            due("lifts(0, 1, " + i + ")", faces.lifts(0, 1, i), NONE);
        }
        for (int door : Bounds.none(1)) {
            due("lifts(" + door + ", 0, NONE)", faces.lifts(door, 0, NONE), NONE);
        }
        for (int caller : Bounds.none(2)) {
            due("lifts(0, " + caller + ", NONE)", faces.lifts(0, caller, NONE), NONE);
        }
        due("no callers", of("door a 1 1 1 1;").lifts(0, 0, NONE), NONE);
        KnockerFaces now = of("door a 1 1 1 1; caller x 1 1 1 1;");
        due("none are due", now.lifts(0, 0, NONE), 0);
        due("not so many", now.lifts(0, 0, 0), NONE);
    }

    // ---- TOWARDS, promise 18

    static void towards() {
        sentence("III", "TOWARDS of a DOOR and a CALLER: the CALLER by whose LIFT now it is least UNLIKE to that one, of alike ones the first; how much.");
        KnockerFaces faces = of("door a 10 10 10 10; caller x 50 50 10 10; caller y 50 10 10 10; caller z 50 50 10 10; caller w 50 50 10 10; gives = if which < 1 then 1 else 9;");
        due("of alike ones the first", faces.towards(0, 0, 0), 2);
        due("how much", faces.towards(0, 0, 1), 62);
        due("y", faces.towards(0, 1, 0), 1);
        due("how much", faces.towards(0, 1, 1), 31);
        KnockerFaces none = of("door a 10 10 10 10; caller x 50 50 10 10; caller y 50 10 10 10; gives = 0;");
        due("all alike: the first", none.towards(0, 1, 0), 0);
        due("how much", none.towards(0, 1, 1), 40);
        KnockerFaces there = of("door a 10 10 10 10; caller x 0 10 10 10; caller y 10 10 10 10; gives = 1;");
        due("the one it is like", there.towards(0, 1, 0), 1);
        due("0", there.towards(0, 1, 1), 0);
        // the higher a CALLER's number, the more their LIFT gives: none but those that there are
        KnockerFaces last = of("door a 50 50 50 50; caller x 0 0 0 0; caller y 0 0 0 0; gives = which;");
        due("the last one", last.towards(0, 0, 0), 1);
        due("how much", last.towards(0, 0, 1), 196);
    }

    static void p18Towards() {
        sentence("Promise 18", "TOWARDS: what 0 who, 1 how much; NONE: no such ones.");
        KnockerFaces faces = of(STREET);
        due("who", faces.towards(0, 1, 0), 1);
        due("how much", faces.towards(0, 1, 1), 260 - 26 - 23 - 20 - 16);
        for (int door : Bounds.none(2)) {
            due("towards(" + door + ", 0, 0)", faces.towards(door, 0, 0), NONE);
        }
        for (int caller : Bounds.none(3)) {
            due("towards(0, " + caller + ", 1)", faces.towards(0, caller, 1), NONE);
        }
        for (int what : Bounds.none(2)) {
            due("towards(0, 0, " + what + ")", faces.towards(0, 0, what), NONE);
        }
    }

    // ---- WITHOUT, promise 19

    static void without() {
        sentence("III", "WITHOUT a ROUND in n DAYS (1 .. 60): by whom its DOOR is KNOWN then, were it given up now.");
        String town = "door w 99 0 0 0; door a 0 0 0 0; caller y 99 0 0 0; round y a 1 0; round y w 1 0; round y a 1 0; near 39;";
        KnockerFaces faces = of(town);
        due("with both, in 30", faces.then(1, 30, 4), 0);
        due("without one, in 1", faces.without(0, 1), NOBODY);
        due("without one, in 30", faces.without(0, 30), NOBODY);
        due("without one, in 59", faces.without(0, 59), NOBODY);
        due("without one, in 60", faces.without(2, 60), 0);
        due("its door", faces.without(1, 1), 0);
        due("it is not given up", faces.count(7), 7);
        faces.keep(0, false);
        due("the other is given up already", faces.without(2, 60), NOBODY);
        due("it is given up already", faces.without(0, 60), 0);
    }

    static void p19Without() {
        sentence("Promise 19", "WITHOUT (-2: nobody); NONE: no such ones.");
        KnockerFaces faces = of(CLIMB);
        due("nobody", faces.without(0, 1), NOBODY);
        due("nobody", faces.without(0, 60), NOBODY);
        for (int n : new int[] {0, -1, MIN, 61, MAX}) {
            due("without(0, " + n + ")", faces.without(0, n), NONE);
        }
        for (int round : Bounds.none(1)) {
            due("without(" + round + ", 1)", faces.without(round, 1), NONE);
        }
        due("no rounds", of("door a 1 1 1 1;").without(0, 1), NONE);
    }

    // ---- TWINS and CONFUSED, promises 20 and 26

    static void twins() {
        sentence("III", "TWINS: the two DOORS whose PARTS differ least, added, of alike ones the first; how much.");
        KnockerFaces faces = of("door a 10 10 10 10; door b 20 20 20 20; door c 29 20 20 20; door d 1 10 10 10;");
        due("0 and 3 ahead of 1 and 2", faces.twins(0), 3);
        due("how much", faces.twins(1), 9);
        faces.file(0, 1);
        due("1 and 2", faces.twins(0), 12);
        faces.lift(0, 0);
        due("by what they are now", faces.twins(1), 9);
        KnockerFaces six = of("door a 0 0 0 0; door b 9 0 0 0; door c 0 9 0 0; door d 0 0 9 0; door e 0 0 0 50; door f 0 0 0 51;");
        due("the last two", six.twins(0), 45);
        due("how much", six.twins(1), 1);
        KnockerFaces all = of("door a 7 7 7 7; door b 7 7 7 7; door c 7 7 7 7;");
        due("all alike", all.twins(0), 1);
        due("how much", all.twins(1), 0);
        due("most", of("door a 0 0 0 0; door b 99 99 99 99;").twins(1), 396);
    }

    static void p20Twins() {
        sentence("Promise 20", "TWINS: what 0 the two (10 * the lesser + the other), 1 how much; -2: there are not two.");
        KnockerFaces two = of("door a 1 1 1 1; door b 2 2 2 2;");
        due("the two", two.twins(0), 1);
        due("how much", two.twins(1), 4);
        KnockerFaces one = of("door a 1 1 1 1; caller x 1 1 1 1; caller y 1 1 1 1;");
        due("one", one.twins(0), NOBODY);
        due("one", one.twins(1), NOBODY);
        due("no door", new KnockerFaces().twins(0), NOBODY);
        due("no door", new KnockerFaces().twins(1), NOBODY);
    }

    static void p20Others() {
        sentence("Promise 20", "NONE for others.");
        KnockerFaces two = of("door a 1 1 1 1; door b 2 2 2 2;");
        for (int what : Bounds.none(2)) {
            due("twins(" + what + ")", two.twins(what), NONE);
            due("twins(" + what + ") of none", new KnockerFaces().twins(what), NONE);
        }
    }

    static void confused() {
        sentence("III", "CONFUSED: the two CALLERS whose PARTS differ least, added, of alike ones the first; how much.");
        KnockerFaces faces = of("caller a 10 10 10 10; caller b 20 20 20 20; caller c 29 20 20 20; caller d 1 10 10 10;");
        due("0 and 3 ahead of 1 and 2", faces.confused(0), 3);
        due("how much", faces.confused(1), 9);
        KnockerFaces five = of("caller a 0 0 0 0; caller b 9 0 0 0; caller c 0 9 0 0; caller d 0 0 0 50; caller e 0 0 0 51;");
        due("the last two", five.confused(0), 34);
        due("how much", five.confused(1), 1);
        due("all alike", of("caller a 1 1 1 1; caller b 1 1 1 1; caller c 1 1 1 1;").confused(0), 1);
        due("most", of("caller a 0 99 0 99; caller b 99 0 99 0;").confused(1), 396);
    }

    static void p26Confused() {
        sentence("Promise 26", "CONFUSED: what 0 the two (10 * the lesser + the other), 1 how much; -2: there are not two.");
        KnockerFaces two = of("caller a 1 1 1 1; caller b 2 2 2 2;");
        due("the two", two.confused(0), 1);
        due("how much", two.confused(1), 4);
        KnockerFaces one = of("caller a 1 1 1 1; door x 1 1 1 1; door y 1 1 1 1;");
        due("one", one.confused(0), NOBODY);
        due("one", one.confused(1), NOBODY);
        due("no caller", new KnockerFaces().confused(0), NOBODY);
        due("no caller", new KnockerFaces().confused(1), NOBODY);
    }

    static void p26Others() {
        sentence("Promise 26", "NONE for others.");
        KnockerFaces two = of("caller a 1 1 1 1; caller b 2 2 2 2;");
        for (int what : Bounds.none(2)) {
            due("confused(" + what + ")", two.confused(what), NONE);
            due("confused(" + what + ") of none", new KnockerFaces().confused(what), NONE);
        }
    }

    // ---- PAIRED, promise 21

    static void asManyPairsAsCanBe() {
        sentence("III", "PAIRED: each DOOR to one CALLER at most, each CALLER to one DOOR at most, as many pairs as can be, so that UNLIKE, added, is least: how much;");
        KnockerFaces far = of("door a 0 0 0 0; door b 99 99 99 99; caller x 0 0 0 0; caller y 0 0 0 0;");
        due("however far", far.paired(NONE), 396);
        KnockerFaces swap = of("door a 10 0 0 0; door b 12 0 0 0; door c 30 0 0 0; caller x 11 0 0 0; caller y 10 0 0 0;");
        due("the least", swap.paired(NONE), 1);
        due("more callers than doors", of("door a 5 0 0 0; caller x 9 0 0 0; caller y 6 0 0 0; caller z 0 0 0 0;").paired(NONE), 1);
        KnockerFaces most = of("door a 0 0 0 0; door b 0 0 0 0; door c 0 0 0 0; door d 0 0 0 0; door e 0 0 0 0; door f 0 0 0 0;"
                + "caller v 99 99 99 99; caller w 99 99 99 99; caller x 99 99 99 99; caller y 99 99 99 99; caller z 99 99 99 99;");
        due("five pairs of 396", most.paired(NONE), 5 * 396);
        due("the sixth door", most.paired(5), NOBODY);
        // by what the faces are now
        swap.file(2, 0);
        due("now", swap.paired(NONE), 1);
        swap.file(0, 0);
        due("now", swap.paired(NONE), 11);
    }

    static void theLowestCallerForTheFirstDoor() {
        sentence("III", "to whom, of alike ones the lowest CALLER for the first DOOR, nobody behind all, then for the next one.");
        KnockerFaces alike = of("door a 5 0 0 0; door b 5 0 0 0; door c 5 0 0 0; caller x 1 0 0 0; caller y 9 0 0 0;");
        due("a", alike.paired(0), 0);
        due("b", alike.paired(1), 1);
        due("c: nobody behind all", alike.paired(2), NOBODY);
        KnockerFaces better = of("door a 5 0 0 0; door b 6 0 0 0; door c 5 0 0 0; caller x 5 0 0 0; caller y 5 0 0 0;");
        due("a", better.paired(0), 0);
        due("b is dearer", better.paired(1), NOBODY);
        due("c", better.paired(2), 1);
        KnockerFaces cross = of("door a 0 0 0 0; door b 10 0 0 0; caller x 5 0 0 0; caller y 5 0 0 0;");
        due("both ways alike: a", cross.paired(0), 0);
        due("b", cross.paired(1), 1);
        KnockerFaces second = of("door a 0 0 0 0; door b 0 0 0 0; caller x 9 0 0 0; caller y 3 0 0 0; caller z 3 0 0 0; caller w 3 0 0 0;");
        due("a: y", second.paired(0), 1);
        due("b: the next one", second.paired(1), 2);
        KnockerFaces later = of("door a 50 0 0 0; door b 40 0 0 0; door c 0 0 0 0; caller x 0 0 0 0;");
        due("a: nobody", later.paired(0), NOBODY);
        due("b: nobody", later.paired(1), NOBODY);
        due("c: x, though others were looked at ahead of it", later.paired(2), 0);
    }

    static void p21Paired() {
        sentence("Promise 21", "PAIRED: how much (i NONE), else to whom the i-th DOOR (-2: nobody); NONE: no such DOOR.");
        KnockerFaces faces = of(STREET);
        due("how much", faces.paired(NONE), 20);
        due("a", faces.paired(0), 0);
        due("b", faces.paired(1), 2);
        for (int door : Bounds.none(2)) {
            if (door != NONE) {
                due("paired(" + door + ")", faces.paired(door), NONE);
            }
        }
        KnockerFaces doors = of("door a 1 1 1 1;");
        due("no callers: no pairs", doors.paired(NONE), 0);
        due("no callers: nobody", doors.paired(0), NOBODY);
        KnockerFaces callers = of("caller a 1 1 1 1;");
        due("no doors: no pairs", callers.paired(NONE), 0);
        due("no doors", callers.paired(0), NONE);
        // nothing is left of what was found in the text ahead
        KnockerFaces again = of("door a 9 9 9 9; door b 50 50 50 50; caller x 0 0 0 0;");
        due("a and x", again.paired(NONE), 36);
        due("read", Bounds.read(again, "door a 1 1 1 1;"), 0);
        due("no pairs", again.paired(NONE), 0);
        due("read", again.read(), 0);
        due("no pairs", again.paired(NONE), 0);
    }

    // ---- CHANGES, RUBS, WHEN, ALONE, promises 22 to 25

    static void changes() {
        sentence("III", "CHANGES of a DOOR: behind how many DAYS (1 .. 60) it is KNOWN by another one, or nobody, than now.");
        due("behind 1", of(CLIMB + "near 98;").changes(0), 1);
        due("behind 59", of(CLIMB + "near 40;").changes(0), 59);
        due("behind 60", of(CLIMB + "near 39;").changes(0), 60);
        due("behind 61", of(CLIMB + "near 38;").changes(0), NOBODY);
        due("by another one", of(CLIMB + "caller x 0 0 0 0; near 98;").changes(0), 50);
        due("by nobody", of(CLIMB + "caller x 0 0 0 0; near 9;").changes(0), 10);
        KnockerFaces soon = of(CLIMB + "caller x 0 0 0 0; near 9;");
        soon.days(9);
        due("tomorrow", soon.changes(0), 1);
        soon.days(1);
        due("nobody for 80 days", soon.changes(0), NOBODY);
        Bounds.days(soon, 30);
        due("from nobody", soon.changes(0), 50);
    }

    static void p22Changes() {
        sentence("Promise 22", "CHANGES; -2: not; NONE: no such DOOR.");
        due("known by one, always", of("door a 1 1 1 1; caller x 1 1 1 1;").changes(0), NOBODY);
        due("known by nobody, always", of("door a 1 1 1 1;").changes(0), NOBODY);
        KnockerFaces faces = of(STREET);
        for (int door : Bounds.none(2)) {
            due("changes(" + door + ")", faces.changes(door), NONE);
        }
    }

    static void rubs() {
        sentence("III", "RUBS of a DOOR: how often (0 .. 10) it must be POLISHED on end, now, so that it is KNOWN by nobody, or by another one than now.");
        // 99, then 50, 25, 13, 7, 4, 2, 1, where it stays: of x, whose part is 99, it is 0, 49, 74, 86, 92, 95, 97, 98 away
        int[] away = {0, 49, 74, 86, 92, 95, 97, 98};
        for (int n = 1; n < away.length; n++) {
            KnockerFaces faces = of("door a 0 0 0 0; caller x 99 0 0 0; gives = apart; near " + away[n - 1] + ";");
            faces.lift(0, 0);
            due("nobody behind " + n, faces.rubs(0), n);
        }
        KnockerFaces other = of("door a 0 0 0 0; caller x 80 0 0 0; caller y 0 0 0 0; gives = apart; near 396;");
        other.lift(0, 0);
        due("40 is x's, the first of alike ones; 20 is y's", other.rubs(0), 2);
        due("nothing happens", other.door(0, 6), 0);
        other.polish(0);
        due("now", other.rubs(0), 1);
    }

    static void p23Rubs() {
        sentence("Promise 23", "RUBS; -2: not by ten, KNOWN by nobody now; NONE: no such DOOR.");
        KnockerFaces stays = of("door a 0 0 0 0; caller x 99 0 0 0; gives = apart; near 98;");
        stays.lift(0, 0);
        due("not by ten", stays.rubs(0), NOBODY);
        due("known by one, always", of("door a 1 1 1 1; caller x 1 1 1 1;").rubs(0), NOBODY);
        KnockerFaces between = of("door a 0 0 0 0; caller x 40 0 0 0; caller y 80 0 0 0; gives = 70; near 9;");
        between.lift(0, 1);
        due("known by nobody now", between.door(0, 8), NOBODY);
        due("though behind one it is known", between.rubs(0), NOBODY);
        due("no callers", of("door a 1 1 1 1;").rubs(0), NOBODY);
        KnockerFaces faces = of(STREET);
        for (int door : Bounds.none(2)) {
            due("rubs(" + door + ")", faces.rubs(door), NONE);
        }
    }

    static void when() {
        sentence("III", "WHEN of a DOOR and a CALLER: behind how many DAYS (0 .. 60; 0: now) it is KNOWN by that one.");
        due("now", of(CLIMB + "near 99;").when(0, 0), 0);
        due("behind 1", of(CLIMB + "near 98;").when(0, 0), 1);
        due("behind 59", of(CLIMB + "near 40;").when(0, 0), 59);
        due("behind 60", of(CLIMB + "near 39;").when(0, 0), 60);
        due("behind 61", of(CLIMB + "near 38;").when(0, 0), NOBODY);
        due("once another is farther", of(CLIMB + "caller x 0 0 0 0; near 99;").when(0, 0), 50);
        due("that other", of(CLIMB + "caller x 0 0 0 0; near 99;").when(0, 1), 0);
    }

    static void p24When() {
        sentence("Promise 24", "WHEN; -2: not; NONE: no such ones.");
        KnockerFaces faces = of(CLIMB + "near 0;");
        due("not", faces.when(0, 0), NOBODY);
        for (int none : Bounds.none(1)) {
            due("when(" + none + ", 0)", faces.when(none, 0), NONE);
            due("when(0, " + none + ")", faces.when(0, none), NONE);
        }
    }

    static void alone() {
        sentence("III", "ALONE: behind how many LIFTS now (0 .. 60) by that CALLER alone.");
        String town = "door a 0 0 0 0; caller y 99 0 0 0; near ";
        due("none", of(town + "99;").alone(0, 0), 0);
        due("1", of(town + "98;").alone(0, 0), 1);
        due("59", of(town + "40;").alone(0, 0), 59);
        due("60", of(town + "39;").alone(0, 0), 60);
        due("61", of(town + "38;").alone(0, 0), NOBODY);
        due("each counts", of("door a 0 0 0 0; caller y 6 0 0 0; gives = lifts; near 0;").alone(0, 0), 4);
        KnockerFaces idle = of("door a 0 0 0 0; caller y 40 0 0 0; gives = idle; near 0;");
        idle.days(10);
        due("all on one day", idle.alone(0, 0), 4);
    }

    static void p25Alone() {
        sentence("Promise 25", "ALONE; -2: not; NONE: no such ones.");
        KnockerFaces faces = of("door a 0 0 0 0; caller y 99 0 0 0; gives = 0;");
        due("not", faces.alone(0, 0), NOBODY);
        for (int none : Bounds.none(1)) {
            due("alone(" + none + ", 0)", faces.alone(none, 0), NONE);
            due("alone(0, " + none + ")", faces.alone(0, none), NONE);
        }
    }

    // ---- NEAREST, SAME, SHIFT, CALLS, promises 27 to 30

    static void nearest() {
        sentence("III", "NEAREST of a PART of a DOOR: the CALLER whose PART differs least from it, of alike ones the first.");
        KnockerFaces faces = of("door a 10 20 30 40; caller x 0 26 40 0; caller y 20 15 29 0; caller z 11 15 31 99;");
        due("z", faces.nearest(0, 0), 2);
        due("y and z: the first", faces.nearest(0, 1), 1);
        due("below and above: the first", faces.nearest(0, 2), 1);
        due("x and y: the first", faces.nearest(0, 3), 0);
    }

    static void p27Nearest() {
        sentence("Promise 27", "NEAREST; -2: no CALLERS; NONE: no such ones.");
        KnockerFaces faces = of(STREET);
        due("b's part 0", faces.nearest(1, 0), 2);
        for (int door : Bounds.none(2)) {
            due("nearest(" + door + ", 0)", faces.nearest(door, 0), NONE);
        }
        for (int part : Bounds.none(4)) {
            due("nearest(0, " + part + ")", faces.nearest(0, part), NONE);
            due("nearest(0, " + part + "), no callers", of("door a 1 1 1 1;").nearest(0, part), NONE);
        }
        due("no callers", of("door a 1 1 1 1;").nearest(0, 3), NOBODY);
        due("no callers, no such door", of("door a 1 1 1 1;").nearest(1, 3), NONE);
    }

    static void same() {
        sentence("III", "SAME of a DOOR and a CALLER: PARTS that are alike.");
        KnockerFaces faces = of("door a 1 2 3 4; caller x 1 0 0 4; caller y 0 2 3 0; caller z 1 2 3 4; caller w 4 3 2 1;");
        due("0 and 3", faces.same(0, 0), 9);
        due("1 and 2", faces.same(0, 1), 6);
        due("all", faces.same(0, 2), 15);
        due("none", faces.same(0, 3), 0);
        faces.file(0, 1);
        due("now", faces.same(0, 0), 11);
    }

    static void p28Same() {
        sentence("Promise 28", "SAME (bits); NONE: no such ones.");
        KnockerFaces faces = of(STREET);
        due("bits", faces.same(0, 0), 7);
        for (int door : Bounds.none(2)) {
            due("same(" + door + ", 0)", faces.same(door, 0), NONE);
        }
        for (int caller : Bounds.none(3)) {
            due("same(0, " + caller + ")", faces.same(0, caller), NONE);
        }
    }

    static void shift() {
        sentence("III", "SHIFT of a DOOR in n DAYS (0 .. 60, no WIND): how much its PARTS differ from now, added.");
        KnockerFaces faces = of(CLIMB + "wind 100;");
        due("0", faces.shift(0, 0), 0);
        due("1", faces.shift(0, 1), 1);
        due("60", faces.shift(0, 60), 60);
        KnockerFaces both = of("door a 10 10 10 10; caller y 30 5 10 10; round y a 2 1; gives = 4;");
        due("less and more, added", both.shift(0, 4), 8 + 5);
        both.lift(0, 0);
        due("from now", both.shift(0, 2), 5);
    }

    static void p29Shift() {
        sentence("Promise 29", "SHIFT; NONE: no such ones.");
        KnockerFaces faces = of(CLIMB);
        for (int n : new int[] {-1, MIN, 61, MAX}) {
            due("shift(0, " + n + ")", faces.shift(0, n), NONE);
        }
        for (int door : Bounds.none(1)) {
            due("shift(" + door + ", 0)", faces.shift(door, 0), NONE);
        }
    }

    static void calls() {
        sentence("III", "CALLS at a DOOR for n days (1 .. 60), this one the first: LIFTS due there.");
        KnockerFaces faces = of("door a 1 1 1 1; door b 1 1 1 1; caller x 1 1 1 1; caller y 1 1 1 1; round x a 2 1; round y a 3 0; round y b 30 29;");
        due("day 0", faces.calls(0, 1), 1);
        due("days 0 and 1", faces.calls(0, 2), 2);
        due("days 0 to 5", faces.calls(0, 6), 5);
        due("days 0 to 28", faces.calls(1, 29), 0);
        due("days 0 to 29", faces.calls(1, 30), 1);
        due("days 0 to 58", faces.calls(1, 59), 1);
        due("days 0 to 59", faces.calls(1, 60), 2);
        faces.days(29);
        due("this one the first", faces.calls(1, 1), 1);
        faces.days(1);
        due("day 30", faces.calls(1, 1), 0);
        faces.keep(2, false);
        due("a round that is given up is no lift", faces.calls(1, 60), 0);
        due("ten rounds", of("door a 1 1 1 1; caller x 1 1 1 1;" + "round x a 1 0;".repeat(10)).calls(0, 60), 600);
        // a lift by hand was, it is not due
        KnockerFaces hand = of("door a 1 1 1 1; caller x 1 1 1 1;");
        hand.lift(0, 0);
        due("by hand", hand.calls(0, 60), 0);
    }

    static void p30Calls() {
        sentence("Promise 30", "CALLS; NONE: no such ones.");
        KnockerFaces faces = of(CLIMB);
        for (int n : new int[] {0, -1, MIN, 61, MAX}) {
            due("calls(0, " + n + ")", faces.calls(0, n), NONE);
        }
        for (int door : Bounds.none(1)) {
            due("calls(" + door + ", 1)", faces.calls(door, 1), NONE);
        }
    }

    // ---- RICHEST, FLAT, promises 31 and 32

    static void richest() {
        sentence("III", "RICHEST in n DAYS (0 .. 60, no WIND): which house has most, of alike ones the first; how much.");
        KnockerFaces faces = of("door w 1 1 1 1; door a 1 1 1 1; door b 1 1 1 1; caller x 1 1 1 1; caller y 1 1 1 1; round x a 1 0; round y b 2 1; pays = 2 * which + 2;");
        due("now: all have 0", faces.richest(0, 0), 0);
        due("now", faces.richest(0, 1), 0);
        due("in 1", faces.richest(1, 0), 1);
        due("in 1", faces.richest(1, 1), 2);
        due("in 2: 4 and 4", faces.richest(2, 0), 1);
        due("in 60: 120 and 120", faces.richest(60, 0), 1);
        due("in 60", faces.richest(60, 1), 120);
        faces.lift(2, 0);
        due("in 60: 120 and 122", faces.richest(60, 0), 2);
        due("in 60", faces.richest(60, 1), 122);
        // the wind would make the door more unlike, and the caller pay more
        due("no wind", of("door a 9 9 9 9; caller x 9 9 9 9; round x a 1 0; gives = 0; pays = unlike; wind 100;").richest(60, 1), 0);
    }

    static void p31Richest() {
        sentence("Promise 31", "RICHEST: what 0 which, 1 how much; -2: no DOORS; NONE: no such ones.");
        KnockerFaces none = of("caller x 1 1 1 1;");
        for (int n : new int[] {0, 60}) {
            due("no doors", none.richest(n, 0), NOBODY);
            due("no doors", none.richest(n, 1), NOBODY);
        }
        KnockerFaces faces = of(STREET);
        for (int n : new int[] {-1, MIN, 61, MAX}) {
            due("richest(" + n + ", 0)", faces.richest(n, 0), NONE);
            due("richest(" + n + ", 0), no doors", none.richest(n, 0), NONE);
        }
        for (int what : Bounds.none(2)) {
            due("richest(1, " + what + ")", faces.richest(1, what), NONE);
            due("richest(1, " + what + "), no doors", none.richest(1, what), NONE);
        }
    }

    static void flat() {
        sentence("III", "FLAT: of which DOOR the PARTS differ least from the FIRST face's, added, of alike ones the first; how much.");
        KnockerFaces faces = of("door a 10 10 10 10; door b 5 5 5 5; door c 5 9 9 9;");
        due("all as they were", faces.flat(0), 0);
        due("how much", faces.flat(1), 0);
        faces.file(0, 0);
        due("b", faces.flat(0), 1);
        faces.file(1, 0);
        due("c", faces.flat(0), 2);
        faces.file(2, 0);
        due("b and c: the first", faces.flat(0), 1);
        due("how much", faces.flat(1), 5);
        faces.file(1, 3);
        due("c", faces.flat(0), 2);
    }

    static void p32Flat() {
        sentence("Promise 32", "FLAT: what 0 which, 1 how much; -2: no DOORS.");
        due("no doors", new KnockerFaces().flat(0), NOBODY);
        due("no doors", of("caller a 1 1 1 1;").flat(1), NOBODY);
        KnockerFaces one = of("door a 99 99 99 99;");
        for (int part = 0; part < 4; part++) {
            one.file(0, part);
        }
        due("which", one.flat(0), 0);
        due("how much", one.flat(1), 396);
    }

    static void p32Others() {
        sentence("Promise 32", "NONE for others.");
        KnockerFaces faces = of(STREET);
        for (int what : Bounds.none(2)) {
            due("flat(" + what + ")", faces.flat(what), NONE);
            due("flat(" + what + "), no doors", new KnockerFaces().flat(what), NONE);
        }
    }

    // ---- IN n DAYS, BUSY, YEAR, promises 33 to 35

    static void inNDays() {
        sentence("III", "IN n DAYS (0 .. 60; with WIND): a PART of a DOOR; by whom it is KNOWN; what the house has.");
        for (int n : new int[] {0, 1, 2, 59, 60}) {
            KnockerFaces faces = of(STREET + "wind 60;");
            faces.days(4);
            faces.lift(1, 1);
            int[] then = new int[12];
            for (int i = 0; i < 12; i++) {
                then[i] = faces.then(i / 6, n, i % 6);
            }
            faces.days(n);
            for (int i = 0; i < 12; i++) {
                int what = i % 6 < 4 ? i % 6 : i % 6 == 4 ? 8 : 7;
                due("in " + n + " days, " + i, then[i], faces.door(i / 6, what));
            }
        }
        // lifted by hand today: idle 0 tomorrow
        KnockerFaces today = of("door a 0 0 0 0; caller x 99 0 0 0; round x a 30 7; gives = idle;");
        today.days(5);
        today.lift(0, 0);
        due("5 and 1", today.then(0, 3, 0), 5 + 1);
        int lost = 0;
        KnockerFaces windy = of("door a 99 99 99 99; wind 100;");
        for (int part = 0; part < 4; part++) {
            lost += 99 - windy.then(0, 60, part);
        }
        due("with wind", lost, 60);
    }

    static void p33Then() {
        sentence("Promise 33", "IN n DAYS of a DOOR: what 0 .. 3 its PARTS, 4 by whom KNOWN (-2: nobody), 5 what the house has; NONE: no such ones.");
        KnockerFaces faces = of("door a 0 10 20 30; caller y 99 10 20 30; round y a 1 0; near 39; pays = 3;");
        int[] now = {0, 10, 20, 30, NOBODY, 0};
        int[] last = {60, 10, 20, 30, 0, 180};
        for (int what = 0; what < 6; what++) {
            due("then(0, 0, " + what + ")", faces.then(0, 0, what), now[what]);
            due("then(0, 60, " + what + ")", faces.then(0, 60, what), last[what]);
        }
        due("nobody in 59", faces.then(0, 59, 4), NOBODY);
        for (int n : new int[] {-1, MIN, 61, MAX}) {
            due("then(0, " + n + ", 0)", faces.then(0, n, 0), NONE);
        }
        for (int what : Bounds.none(6)) {
            due("then(0, 1, " + what + ")", faces.then(0, 1, what), NONE);
        }
        for (int door : Bounds.none(1)) {
            due("then(" + door + ", 1, 0)", faces.then(door, 1, 0), NONE);
        }
    }

    static void busy() {
        sentence("III", "BUSY of n days (1 .. 60), this one the first: the CALLER with most LIFTS due in them, of alike ones the first; how many.");
        KnockerFaces faces = of("door a 1 1 1 1; door b 1 1 1 1; caller w 1 1 1 1; caller x 1 1 1 1; caller y 1 1 1 1; round x a 2 1; round y b 3 0; round y a 30 29;");
        due("day 0", faces.busy(1, 0), 2);
        due("days 0 and 1: x and y", faces.busy(2, 0), 1);
        due("how many", faces.busy(2, 1), 1);
        due("days 0 to 59", faces.busy(60, 0), 1);
        due("how many", faces.busy(60, 1), 30);
        faces.keep(0, false);
        due("a round that is given up is no lift", faces.busy(60, 0), 2);
        due("at all doors", faces.busy(60, 1), 20 + 2);
        due("at all doors", faces.busy(29, 1), 10);
        faces.days(29);
        due("this one the first", faces.busy(1, 1), 1);
        faces.keep(1, false);
        faces.keep(2, false);
        due("no lifts: the first", faces.busy(60, 0), 0);
        due("no lifts", faces.busy(60, 1), 0);
        due("ten rounds", of("door a 1 1 1 1; caller x 1 1 1 1;" + "round x a 1 0;".repeat(10)).busy(60, 1), 600);
    }

    static void p34Busy() {
        sentence("Promise 34", "BUSY: what 0 who, 1 how many; -2: no CALLERS; NONE: no such ones.");
        KnockerFaces none = of("door a 1 1 1 1;");
        for (int n : new int[] {1, 60}) {
            due("no callers", none.busy(n, 0), NOBODY);
            due("no callers", none.busy(n, 1), NOBODY);
        }
        KnockerFaces faces = of(STREET);
        for (int n : new int[] {0, -1, MIN, 61, MAX}) {
            due("busy(" + n + ", 0)", faces.busy(n, 0), NONE);
            due("busy(" + n + ", 0), no callers", none.busy(n, 0), NONE);
        }
        for (int what : Bounds.none(2)) {
            due("busy(1, " + what + ")", faces.busy(1, what), NONE);
            due("busy(1, " + what + "), no callers", none.busy(1, what), NONE);
        }
    }

    static void year() {
        sentence("III", "YEAR by s SEEDS (1 .. 20) from the text's SEED on: in how many of them a DOOR is KNOWN by a CALLER in n DAYS (0 .. 60).");
        // a wind on day 0 makes it another face
        for (int seed : new int[] {0, 7, 9980, 9990, 9999}) {
            KnockerFaces faces = of("door a 9 9 9 9; caller x 9 9 9 9; near 0; wind 50; seed " + seed + ";");
            int calm = 0;
            for (int s = 1; s <= 20; s++) {
                calm += Bounds.lot(100, seed + s - 1, 0) < 50 ? 0 : 1;
                due("seed " + seed + ", " + s + " seeds", faces.year(0, 0, 1, s), calm);
            }
        }
        KnockerFaces[] bySeed = new KnockerFaces[20];
        for (int i = 0; i < 20; i++) {
            bySeed[i] = of(STREET + "wind 70; near 110; seed " + (100 + i) + ";");
        }
        for (int n : new int[] {0, 1, 30, 59, 60}) {
            for (int caller = 0; caller < 3; caller++) {
                int known = 0;
                for (int s = 1; s <= 20; s++) {
                    known += bySeed[s - 1].then(0, n, 4) == caller ? 1 : 0;
                    due("in " + n + " days by " + s + " seeds", bySeed[0].year(0, caller, n, s), known);
                }
            }
        }
    }

    static void p35Year() {
        sentence("Promise 35", "YEAR; NONE: no such ones.");
        KnockerFaces faces = of(STREET + "wind 100;");
        due("now, one seed", faces.year(0, 0, 0, 1), 1);
        due("now, twenty", faces.year(0, 0, 0, 20), 20);
        for (int n : new int[] {-1, MIN, 61, MAX}) {
            due("year(0, 0, " + n + ", 1)", faces.year(0, 0, n, 1), NONE);
        }
        for (int s : new int[] {0, -1, MIN, 21, MAX}) {
            due("year(0, 0, 1, " + s + ")", faces.year(0, 0, 1, s), NONE);
        }
        for (int door : Bounds.none(2)) {
            due("year(" + door + ", 0, 1, 1)", faces.year(door, 0, 1, 1), NONE);
        }
        for (int caller : Bounds.none(3)) {
            due("year(0, " + caller + ", 1, 1)", faces.year(0, caller, 1, 1), NONE);
        }
    }
}
