import java.lang.management.ManagementFactory;

/** All calls of a run live in one room: a new object is small, and no call makes anything. */
public final class RoomTest {
    private static final long MOST_BYTES_OF_AN_OBJECT = 64_000;
    private static final long MOST_BYTES_OF_ALL_CALLS = 16_000;

    private static final String TEXT = "door a 1 2 3 4;door b 9 8 7 6;door c 5 5 5 5;door d 50 60 70 80;door e 99 99 99 99;door f 0 0 0 0;"
            + "caller v 99 0 99 0;caller w 0 99 0 99;caller x 50 50 50 50;caller y 20 30 40 50;caller z 90 80 70 60;"
            + "round v a 1 0;round w b 1 0;round x a 1 0;round y c 2 1;round z d 1 0;round v e 1 0;"
            + "gives = if lifts < 3 then apart / 9 + 1 else unlike / 40 + 1;wears = apart / 7;pays = which;near 3;wind 50;";

    public static void main(String[] args) {
        com.sun.management.ThreadMXBean counter = (com.sun.management.ThreadMXBean) ManagementFactory.getThreadMXBean();
        long thread = Thread.currentThread().getId();
        int[] tape = packed(TEXT);
        use(new KnockerFaces(), tape, 0);
        long start = counter.getThreadAllocatedBytes(thread);
        KnockerFaces faces = new KnockerFaces();
        long made = counter.getThreadAllocatedBytes(thread);
        int calls = 0;
        int seen = 0;
        for (int turn = 0; calls < 512; turn++) {
            seen ^= use(faces, tape, turn);
            calls += 80;
        }
        long used = counter.getThreadAllocatedBytes(thread);
        System.out.println("an object: " + (made - start) + " bytes, its calls: " + (used - made) + " bytes (" + seen + ")");
        if (made - start > MOST_BYTES_OF_AN_OBJECT || used - made > MOST_BYTES_OF_ALL_CALLS) {
            System.out.println("that is too much");
            System.exit(1);
        }
    }

    private static int[] packed(String text) {
        int[] numbers = new int[(text.length() + 19) / 20 * 5];
        for (int i = 0; i < 4 * numbers.length; i++) {
            numbers[i / 4] = numbers[i / 4] << 8 | (i < text.length() ? text.charAt(i) : ' ');
        }
        return numbers;
    }

    private static int use(KnockerFaces faces, int[] tape, int turn) {
        for (int i = 0; i < tape.length; i += 5) {
            faces.feed(tape[i], tape[i + 1], tape[i + 2], tape[i + 3], tape[i + 4]);
        }
        int sum = faces.read() + faces.place();
        int door = turn % 6;
        int caller = turn % 5;
        sum += bit(faces.lift(door, caller)) + bit(faces.polish(door)) + bit(faces.file(door, 1)) + bit(faces.keep(turn % 6, false));
        sum += faces.days(60) + bit(faces.undo()) + bit(faces.hold(1)) + bit(faces.restore(1));
        sum += faces.lifts(door, caller, -1) + faces.lifts(door, caller, 2) + faces.towards(door, caller, 0) + faces.without(0, 60);
        sum += faces.twins(0) + faces.paired(-1) + faces.paired(door) + faces.changes(door) + faces.rubs(door);
        sum += faces.when(door, caller) + faces.alone(door, caller) + faces.confused(1) + faces.nearest(door, 2);
        sum += faces.same(door, caller) + faces.shift(door, 60) + faces.calls(door, 60) + faces.richest(60, 1) + faces.flat(1);
        sum += faces.then(door, 60, 4) + faces.busy(60, 0) + faces.year(door, caller, 60, 20);
        sum += faces.tell(door, 0, 1) + faces.who(1, 1) + faces.ask(0) + faces.forget() + faces.back(0);
        for (int what = 0; what <= 17; what++) {
            sum += faces.count(what) + faces.door(door, what) + faces.caller(caller, what) + faces.round(1, what);
        }
        return sum + faces.unlike(door, caller) + faces.tells(door, caller, 4);
    }

    private static int bit(boolean on) {
        return on ? 1 : 0;
    }
}
