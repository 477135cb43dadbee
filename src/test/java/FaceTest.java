import java.lang.reflect.Constructor;
import java.lang.reflect.Field;
import java.lang.reflect.Method;
import java.lang.reflect.Modifier;
import java.nio.file.Files;
import java.nio.file.Path;
import java.util.ArrayList;
import java.util.List;
import java.util.Set;
import java.util.TreeSet;
import java.util.regex.Matcher;
import java.util.regex.Pattern;

/** The public face, as the document has it, and those rules of LANGUAGE.md that a text search can see. */
public final class FaceTest {
    private static final String[] FACE = {
        "int feed(int,int,int,int,int)", "int back(int)", "int read()", "int place()", "int door(int,int)",
        "int caller(int,int)", "int round(int,int)", "int unlike(int,int)", "int tells(int,int,int)",
        "boolean lift(int,int)", "boolean polish(int)", "boolean file(int,int)", "boolean keep(int,boolean)",
        "int days(int)", "boolean undo()", "int lifts(int,int,int)", "int towards(int,int,int)",
        "int without(int,int)", "int twins(int)", "int paired(int)", "int changes(int)", "int rubs(int)",
        "int when(int,int)", "int alone(int,int)", "int confused(int)", "int nearest(int,int)",
        "int same(int,int)", "int shift(int,int)", "int calls(int,int)", "int richest(int,int)",
        "int flat(int)", "int then(int,int,int)", "int busy(int,int)", "int year(int,int,int,int)",
        "int tell(int,int,int)", "int forget()", "int who(int,int)", "int ask(int)", "boolean hold(int)",
        "boolean restore(int)", "int count(int)",
    };

    private static int wrong = 0;

    public static void main(String[] args) throws Exception {
        checkClass();
        checkMethods();
        checkFields();
        checkInside();
        checkSource(Files.readString(Path.of("src/main/java/KnockerFaces.java")));
        System.out.println(wrong == 0 ? "the face is as due" : wrong + " things are not as due");
        if (wrong != 0) {
            System.exit(1);
        }
    }

    private static void check(boolean good, String what) {
        if (!good) {
            wrong++;
            System.out.println("not as due: " + what);
        }
    }

    private static void checkClass() {
        int modifiers = KnockerFaces.class.getModifiers();
        check(Modifier.isPublic(modifiers) && Modifier.isFinal(modifiers), "the class is public and final");
        Constructor<?>[] made = KnockerFaces.class.getDeclaredConstructors();
        check(made.length == 1 && made[0].getParameterCount() == 0 && Modifier.isPublic(made[0].getModifiers()),
                "one public constructor without parameters");
    }

    private static void checkMethods() {
        Set<String> due = new TreeSet<>(List.of(FACE));
        Set<String> found = new TreeSet<>();
        Set<String> publicNames = new TreeSet<>();
        List<String> otherNames = new ArrayList<>();
        for (Method method : KnockerFaces.class.getDeclaredMethods()) {
            if (Modifier.isPublic(method.getModifiers())) {
                found.add(signature(method));
                publicNames.add(method.getName());
            } else {
                check(Modifier.isPrivate(method.getModifiers()), method + " is private");
                otherNames.add(method.getName());
            }
        }
        check(found.equals(due), "the public methods: " + found);
        otherNames.retainAll(publicNames);
        check(otherNames.isEmpty(), "private methods with a public one's name: " + otherNames);
    }

    private static String signature(Method method) {
        StringBuilder text = new StringBuilder();
        text.append(method.getReturnType().getName()).append(' ').append(method.getName()).append('(');
        for (int i = 0; i < method.getParameterCount(); i++) {
            text.append(i == 0 ? "" : ",").append(method.getParameterTypes()[i].getName());
        }
        return text.append(')').toString();
    }

    private static void checkFields() {
        for (Field field : KnockerFaces.class.getDeclaredFields()) {
            boolean isNone = field.getName().equals("NONE");
            check(isNone == Modifier.isPublic(field.getModifiers()), "public or not: " + field);
            check(isNone || Modifier.isPrivate(field.getModifiers()), "private: " + field);
            check(!Modifier.isStatic(field.getModifiers()) || Modifier.isFinal(field.getModifiers()), "final: " + field);
        }
        check(KnockerFaces.NONE == -1, "NONE is -1");
    }

    private static void checkInside() {
        Class<?>[] inside = KnockerFaces.class.getDeclaredClasses();
        check(inside.length + 1 <= 12, "at most twelve classes");
        for (Class<?> one : inside) {
            check(Modifier.isStatic(one.getModifiers()), one + " is static");
            int fields = 0;
            for (Field field : one.getDeclaredFields()) {
                boolean fixed = Modifier.isStatic(field.getModifiers());
                check(!fixed || Modifier.isFinal(field.getModifiers()), "final: " + field);
                fields += fixed ? 0 : 1;
            }
            check(fields <= 20, one + " has at most twenty fields");
            for (Method method : one.getDeclaredMethods()) {
                check(method.getParameterCount() <= 7, method + " has at most seven parameters");
            }
        }
    }

    private static void checkSource(String source) {
        String code = source.replaceAll("(?s)/\\*.*?\\*/", "").replaceAll("//[^\n]*", "")
                .replaceAll("\"[^\"\n]*\"", "\"\"").replaceAll("'[^'\n]*'", "0");
        String[] banned = {
            "throw", "throws", "try", "catch", "synchronized", "assert", "import", "package", "hashCode",
            "toString", "Exact", "->", "::", "random", "System.(?!arraycopy)", "\"\"\\s*\\+", "\\+\\s*\"\"",
        };
        for (String one : banned) {
            String pattern = Character.isLetter(one.charAt(0)) ? "\\b" + one : one;
            pattern = Character.isLetter(one.charAt(one.length() - 1)) ? pattern + "\\b" : pattern;
            Matcher matcher = Pattern.compile(pattern).matcher(code);
            check(!matcher.find(), "the source is without " + one);
        }
        check(source.chars().allMatch(sign -> sign < 128), "the source is plain ASCII");
    }
}
