import java.lang.reflect.InvocationTargetException;
import java.lang.reflect.Method;
import java.util.ArrayList;
import java.util.Comparator;
import java.util.List;
import java.util.Map;

/**
 * What the tests of the document's bounds share. Each test first names the sentence that it holds, which must stand
 * in the document just so; then it compares answers with those that are due.
 */
final class Bounds {
    static final int NONE = -1;
    static final int NOBODY = -2;
    static final int MIN = Integer.MIN_VALUE;
    static final int MAX = Integer.MAX_VALUE;

    private static final Map<String, String> DOCUMENT = Document.sections();

    private static String test = "";
    private static String sentence = "";
    private static int compared = 0;
    private static int wrong = 0;

    private Bounds() {
    }

    // ---- running the tests of a class

    /** Runs every method without parameters but main, so that none is forgotten. */
    static void runAll(Class<?> tests) throws ReflectiveOperationException {
        int run = 0;
        for (Method method : testsOf(tests)) {
            test = method.getName();
            sentence = "";
            compared = 0;
            runOne(method);
            complainIf(sentence.isEmpty(), "names no sentence");
            complainIf(compared == 0, "compares nothing");
            run++;
        }
        System.out.println(run + " sentences, " + wrong + " answers that are not as due");
        if (wrong != 0) {
            System.exit(1);
        }
    }

    private static List<Method> testsOf(Class<?> tests) {
        List<Method> found = new ArrayList<>();
        for (Method method : tests.getDeclaredMethods()) {
            if (method.getParameterCount() == 0 && method.getReturnType() == void.class && !method.isSynthetic()) {
                method.setAccessible(true);
                found.add(method);
            }
        }
        found.sort(Comparator.comparing(Method::getName));
        return found;
    }

    private static void runOne(Method method) throws IllegalAccessException {
        try {
            method.invoke(null);
        } catch (InvocationTargetException e) {
            complainIf(true, "a call threw " + e.getCause());
        }
    }

    private static void complainIf(boolean bad, String what) {
        if (bad) {
            wrong++;
            System.out.println(test + " (" + sentence + "): " + what);
        }
    }

    // ---- what a test says

    /** The sentence that the test holds, and the section of the document where it stands. */
    static void sentence(String section, String words) {
        sentence = section + ": " + words;
        complainIf(!DOCUMENT.getOrDefault(section, "").contains(words), "no such sentence in the document");
    }

    static void due(String call, long got, long want) {
        compared++;
        complainIf(got != want, call + " answered " + got + ", due is " + want);
    }

    static void due(String call, boolean got, boolean want) {
        compared++;
        complainIf(got != want, call + " answered " + got + ", due is " + want);
    }

    static void face(KnockerFaces faces, int door, int... parts) {
        for (int part = 0; part < 4; part++) {
            due("door(" + door + ", " + part + ")", faces.door(door, part), parts[part]);
        }
    }

    /** All that calls without a choice can see; what is TOLD, held and on the tape only as counts. */
    static String all(KnockerFaces faces) {
        StringBuilder seen = new StringBuilder();
        for (int what = 0; what <= 16; what++) {
            seen.append(faces.count(what)).append(' ');
        }
        seen.append(faces.place());
        for (int door = 0; door < faces.count(0); door++) {
            seen.append(" door");
            for (int what = 0; what <= 9; what++) {
                seen.append(' ').append(faces.door(door, what));
            }
        }
        for (int caller = 0; caller < faces.count(1); caller++) {
            seen.append(" caller ").append(faces.caller(caller, 4));
        }
        for (int round = 0; round < faces.count(2); round++) {
            seen.append(" round ").append(faces.round(round, 4)).append(' ').append(faces.round(round, 5));
        }
        return seen.toString();
    }

    static void same(String what, KnockerFaces faces, String before) {
        compared++;
        String now = all(faces);
        complainIf(!now.equals(before), what + " changed\n  " + before + "\nto\n  " + now);
    }

    // ---- texts

    static KnockerFaces of(String text) {
        KnockerFaces faces = new KnockerFaces();
        due("read of " + text, read(faces, text), 0);
        return faces;
    }

    static void feed(KnockerFaces faces, String text) {
        int[] n = new int[5];
        int padded = (text.length() + 19) / 20 * 20;
        for (int i = 0; i < padded; i++) {
            n[i % 20 / 4] = n[i % 20 / 4] << 8 | (i < text.length() ? text.charAt(i) : ' ');
            if (i % 20 == 19) {
                faces.feed(n[0], n[1], n[2], n[3], n[4]);
            }
        }
        faces.back(padded - text.length());
    }

    static int read(KnockerFaces faces, String text) {
        feed(faces, text);
        return faces.read();
    }

    static void fault(String text, int number, int place) {
        KnockerFaces faces = new KnockerFaces();
        due("read of '" + text + "'", read(faces, text), number);
        due("place in '" + text + "'", faces.place(), place);
    }

    static void good(String text) {
        fault(text, 0, NONE);
    }

    // ---- the document's numbers, told once more

    /** LOT n of a SEED and a which, in longs of which 32 bits are kept. */
    static int lot(int n, int seed, int which) {
        long h = seed;
        for (long one : new long[] {151, which}) {
            h = (h ^ one) * 1103515245L + 12345L & 0xffffffffL;
            h ^= h >> 15;
        }
        return (int) ((h >> 1) % n);
    }

    /** Numbers that are none of count things, numbered from 0 on. */
    static int[] none(int count) {
        return new int[] {-1, -2, -32, MIN, MIN + count, count, count + 1, 32, 256 + count, MAX};
    }

    static void days(KnockerFaces faces, int n) {
        for (int left = n; left > 0; left -= 60) {
            faces.days(Math.min(left, 60));
        }
    }
}
