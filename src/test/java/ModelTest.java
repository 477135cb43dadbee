import java.util.ArrayDeque;
import java.util.ArrayList;
import java.util.Deque;
import java.util.HashSet;
import java.util.List;
import java.util.Random;
import java.util.Set;
import java.util.function.IntUnaryOperator;
import java.util.regex.Matcher;
import java.util.regex.Pattern;

/**
 * Runs of calls by chance (by fixed seeds) on the class and on a plain second writing of the document, which
 * copies whole worlds, tries all that can be and takes no short cut.
 */
public final class ModelTest {
    private static final int RUNS = 250;
    private static final int CALLS = 512;

    public static void main(String[] args) {
        int wrong = 0;
        int[] texts = new int[6];
        int runs = args.length > 0 ? Integer.parseInt(args[0]) : RUNS;
        int first = args.length > 1 ? Integer.parseInt(args[1]) : 0;
        for (int run = first; run < first + runs && wrong < 10; run++) {
            wrong += new Run(run, texts).go();
        }
        StringBuilder seen = new StringBuilder("texts by fault:");
        for (int i = 0; i < texts.length; i++) {
            seen.append(' ').append(i).append(": ").append(texts[i]);
            if (texts[i] == 0 && runs >= RUNS) {
                wrong++;
                System.out.println("no text had fault " + i);
            }
        }
        System.out.println(seen);
        System.out.println(wrong == 0 ? "class and model agree" : wrong + " runs are not as due");
        if (wrong != 0) {
            System.exit(1);
        }
    }

    // ---- one run

    private static final class Run {
        final int number;
        final int[] texts;
        final Random chance;
        final KnockerFaces real = new KnockerFaces();
        final Model model = new Model();
        final StringBuilder log = new StringBuilder();
        int left = CALLS;
        boolean bad = false;

        Run(int number, int[] texts) {
            this.number = number;
            this.texts = texts;
            chance = new Random(number * 7919L + 17);
        }

        int go() {
            giveText();
            while (left > 0 && !bad) {
                if (chance.nextInt(60) == 0) {
                    giveText();
                } else {
                    anyCall();
                }
            }
            if (bad) {
                System.out.println("run " + number + "\n" + log);
            }
            return bad ? 1 : 0;
        }

        void due(String call, long got, long want) {
            left--;
            log.append(call).append(" -> ").append(got).append('\n');
            if (got != want && !bad) {
                bad = true;
                log.append("  due is ").append(want).append('\n');
            }
        }

        void giveText() {
            String text = new Texts(chance).any();
            log.append("TEXT ").append(text.replace('\n', '~')).append('\n');
            int calls = (text.length() + 19) / 20;
            if (left < calls + 4) {
                left = 0;
                return;
            }
            if (model.tape.length() > 0) {
                int n = model.tape.length();
                due("back " + n, real.back(n), model.back(n));
            }
            StringBuilder padded = new StringBuilder(text);
            while (padded.length() % 20 != 0) {
                padded.append((char) chance.nextInt(256));
            }
            for (int i = 0; i < padded.length(); i += 20) {
                int[] n = new int[5];
                for (int j = 0; j < 20; j++) {
                    n[j / 4] = n[j / 4] << 8 | padded.charAt(i + j) & 255;
                }
                due("feed", real.feed(n[0], n[1], n[2], n[3], n[4]), model.feed(n));
            }
            int extra = padded.length() - text.length();
            due("back " + extra, real.back(extra), model.back(extra));
            int fault = model.read();
            texts[fault]++;
            due("read", real.read(), fault);
            due("place", real.place(), model.place);
        }

        int around(int count) {
            return chance.nextInt(12) == 0 ? chance.nextInt(count + 4) - 2 : chance.nextInt(Math.max(1, count));
        }

        int odd(int usual) {
            int[] odd = {-1, -2, Integer.MIN_VALUE, Integer.MAX_VALUE, 60, 61, 1 << 30, 20, 21, 0, 1};
            return chance.nextInt(25) == 0 ? odd[chance.nextInt(odd.length)] : usual;
        }

        int span() {
            int most = chance.nextInt(4) == 0 ? 61 : 9;
            return odd(chance.nextInt(most));
        }

        int aDoor() {
            return odd(around(model.town.doors.size()));
        }

        int aCaller() {
            return odd(around(model.town.callers.size()));
        }

        int aRound() {
            return odd(around(model.town.rounds.size()));
        }

        int bit(boolean b) {
            return b ? 1 : 0;
        }

        void anyCall() {
            int d = aDoor();
            int c = aCaller();
            int r = aRound();
            int n = span();
            int what = odd(chance.nextInt(2));
            String a = d + " " + c + " " + r + " " + n + " " + what;
            switch (chance.nextInt(46)) {
                case 0: case 1: due("lift " + a, bit(real.lift(d, c)), bit(model.lift(d, c))); break;
                case 2: due("polish " + a, bit(real.polish(d)), bit(model.polish(d))); break;
                case 3: int p = around(4); due("file " + d + " " + p, bit(real.file(d, p)), bit(model.file(d, p))); break;
                case 4: boolean on = chance.nextBoolean(); due("keep " + r + on, bit(real.keep(r, on)), bit(model.keep(r, on))); break;
                case 5: case 6: case 7: due("days " + n, real.days(n), model.days(n)); break;
                case 8: case 9: due("undo", bit(real.undo()), bit(model.undo())); break;
                case 10: what = around(10); due("door " + d + " " + what, real.door(d, what), model.door(d, what)); break;
                case 11: what = around(6); due("caller " + c + " " + what, real.caller(c, what), model.caller(c, what)); break;
                case 12: what = around(6); due("round " + r + " " + what, real.round(r, what), model.round(r, what)); break;
                case 13: due("unlike " + a, real.unlike(d, c), model.unlike(d, c)); break;
                case 14: what = around(5); due("tells " + d + " " + c + " " + what, real.tells(d, c, what), model.tells(d, c, what)); break;
                case 15: case 16: int i = around(5) - 1; due("lifts " + d + " " + c + " " + i, real.lifts(d, c, i), model.lifts(d, c, i)); break;
                case 17: due("towards " + a, real.towards(d, c, what), model.towards(d, c, what)); break;
                case 18: due("without " + a, real.without(r, n), model.without(r, n)); break;
                case 19: due("twins " + what, real.twins(what), model.twins(what)); break;
                case 20: case 21: int j = around(7) - 1; due("paired " + j, real.paired(j), model.paired(j)); break;
                case 22: due("changes " + d, real.changes(d), model.changes(d)); break;
                case 23: due("rubs " + d, real.rubs(d), model.rubs(d)); break;
                case 24: due("when " + a, real.when(d, c), model.when(d, c)); break;
                case 25: due("alone " + a, real.alone(d, c), model.alone(d, c)); break;
                case 26: due("confused " + what, real.confused(what), model.confused(what)); break;
                case 27: p = around(4); due("nearest " + d + " " + p, real.nearest(d, p), model.nearest(d, p)); break;
                case 28: due("same " + a, real.same(d, c), model.same(d, c)); break;
                case 29: due("shift " + a, real.shift(d, n), model.shift(d, n)); break;
                case 30: due("calls " + a, real.calls(d, n), model.calls(d, n)); break;
                case 31: due("richest " + a, real.richest(n, what), model.richest(n, what)); break;
                case 32: due("flat " + what, real.flat(what), model.flat(what)); break;
                case 33: case 34: what = around(6); due("then " + d + " " + n + " " + what, real.then(d, n, what), model.then(d, n, what)); break;
                case 35: due("busy " + a, real.busy(n, what), model.busy(n, what)); break;
                case 36: int s = odd(1 + chance.nextInt(5)); due("year " + a + " " + s, real.year(d, c, n, s), model.year(d, c, n, s)); break;
                case 37: case 38: int way = around(3) - 1; p = around(4); due("tell " + d + " " + p + " " + way, real.tell(d, p, way), model.tell(d, p, way)); break;
                case 39: if (chance.nextInt(4) == 0) { due("forget", real.forget(), model.forget()); } break;
                case 40: int k = around(model.told.size() + 1); due("who " + k + " " + what, real.who(k, what), model.who(k, what)); break;
                case 41: k = around(model.told.size() + 1); due("ask " + k, real.ask(k), model.ask(k)); break;
                case 42: int slot = around(3); due("hold " + slot, bit(real.hold(slot)), bit(model.hold(slot))); break;
                case 43: slot = around(3); due("restore " + slot, bit(real.restore(slot)), bit(model.restore(slot))); break;
                default: what = around(17); due("count " + what, real.count(what), model.count(what)); break;
            }
        }
    }

    // ---- texts by chance

    private static final class Texts {
        static final String[] VARS = {"apart", "part", "lifts", "idle", "day", "face", "unlike", "which", "rubbed"};
        static final String[] ODD = {"door", ";", "if", "x", "12345", "abcdefghi", "(", ")", "<", "=", "7", "E", ".", "then", "else", "\u00e9", "9999", "apart", "", "wind 101;", "near 397;", "((((((1))))))"};
        final Random chance;

        Texts(Random chance) {
            this.chance = chance;
        }

        String any() {
            StringBuilder text = new StringBuilder();
            int doors = chance.nextInt(chance.nextInt(20) == 0 ? 8 : 7);
            int callers = chance.nextInt(chance.nextInt(20) == 0 ? 7 : 6);
            int rounds = doors == 0 || callers == 0 ? 0 : chance.nextInt(chance.nextInt(20) == 0 ? 12 : 11);
            int close = chance.nextBoolean() ? 100 : 25;
            for (int i = 0; i < doors; i++) {
                text.append("door ").append(name(chance.nextInt(120) == 0 ? "c" : "d", i)).append(face(close));
            }
            for (int i = 0; i < callers; i++) {
                text.append("caller ").append(name("c", i)).append(face(close));
            }
            for (int i = 0; i < rounds; i++) {
                int every = 1 + chance.nextInt(chance.nextInt(100) == 0 ? 32 : chance.nextBoolean() ? 30 : 4);
                int from = chance.nextInt(chance.nextInt(100) == 0 ? 32 : chance.nextBoolean() ? 30 : 3);
                text.append("round ").append(name("c", chance.nextInt(chance.nextInt(90) == 0 ? 7 : callers))).append(' ')
                        .append(name("d", chance.nextInt(chance.nextInt(90) == 0 ? 7 : doors))).append(' ')
                        .append(every).append(' ').append(from).append(";");
            }
            for (int i = chance.nextInt(5); i > 0; i--) {
                text.append(new String[] {"gives", "wears", "pays"}[chance.nextInt(3)]).append(" = ").append(law()).append(";\n");
            }
            if (chance.nextBoolean()) {
                text.append("near ").append(chance.nextInt(chance.nextBoolean() ? 397 : 60)).append(';');
            }
            if (chance.nextBoolean()) {
                text.append("wind ").append(chance.nextInt(102)).append("; seed ").append(chance.nextInt(10000)).append(" ;");
            }
            return text.length() > 2000 ? "" : harmed(text);
        }

        String harmed(StringBuilder text) {
            for (int i = chance.nextInt(4) == 0 ? 1 + chance.nextInt(2) : 0; i > 0; i--) {
                int at = chance.nextInt(text.length() + 1);
                if (chance.nextBoolean() && at < text.length()) {
                    text.deleteCharAt(at);
                } else {
                    text.insert(at, ODD[chance.nextInt(ODD.length)]);
                }
            }
            return text.length() > 2000 ? "" : text.toString();
        }

        String name(String letter, int i) {
            return letter + (char) ('a' + i);
        }

        String face(int below) {
            StringBuilder text = new StringBuilder();
            for (int i = 0; i < 4; i++) {
                text.append(' ').append(chance.nextInt(chance.nextInt(400) == 0 ? 110 : below));
            }
            return text.append(";").toString();
        }

        String law() {
            StringBuilder text = new StringBuilder();
            for (int i = chance.nextInt(3) == 0 ? chance.nextInt(chance.nextInt(6) == 0 ? 6 : 3) : 0; i > 0; i--) {
                text.append("if ").append(sum(1)).append(" < ").append(sum(1)).append(" then ").append(sum(2)).append(" else ");
            }
            return text.append(sum(chance.nextInt(30) == 0 ? 7 : 2)).toString();
        }

        String sum(int deep) {
            StringBuilder text = new StringBuilder(unit(deep));
            for (int i = chance.nextInt(3); i > 0; i--) {
                text.append(chance.nextBoolean() ? " " : "").append("+-*/".charAt(chance.nextInt(4))).append(unit(deep));
            }
            return text.toString();
        }

        String unit(int deep) {
            if (deep > 0 && chance.nextInt(deep > 2 ? 2 : 4) == 0) {
                return "(" + sum(deep - 1) + ")";
            }
            return chance.nextInt(3) > 0 ? VARS[chance.nextInt(VARS.length)] : "" + chance.nextInt(chance.nextInt(5) == 0 ? 10000 : 12);
        }
    }

    // ---- the document, written a second time

    private static final class Fault extends RuntimeException {
        private static final long serialVersionUID = 1L;
        final int number;
        final int place;

        Fault(int number, int place) {
            super("fault " + number + " at " + place);
            this.number = number;
            this.place = place;
        }
    }

    private static final class ByZero extends RuntimeException {
        private static final long serialVersionUID = 1L;
    }

    private interface Expr {
        int of(View view);
    }

    private record View(int apart, int part, int lifts, int idle, int day, int face, int unlike, int which, int rubbed) {
        int get(String name) {
            switch (name) {
                case "apart": return apart;
                case "part": return part;
                case "lifts": return lifts;
                case "idle": return idle;
                case "day": return day;
                case "face": return face;
                case "unlike": return unlike;
                case "which": return which;
                default: return rubbed;
            }
        }
    }

    private record Arm(Expr left, Expr right, Expr then) { }

    private record Rule(List<Arm> arms, Expr last) {
        int tells(View view) {
            try {
                for (Arm arm : arms) {
                    if (arm.left.of(view) < arm.right.of(view)) {
                        return arm.then.of(view);
                    }
                }
                return last.of(view);
            } catch (ByZero e) {
                return 0;
            }
        }
    }

    private record Face(String name, int[] parts) { }

    private record Round(int caller, int door, int every, int from) {
        boolean due(int day) {
            for (int at = from; at <= day; at += every) {
                if (at == day) {
                    return true;
                }
            }
            return false;
        }
    }

    private static final class Plan {
        final List<Face> doors = new ArrayList<>();
        final List<Face> callers = new ArrayList<>();
        final List<Round> rounds = new ArrayList<>();
        Rule gives = new Rule(List.of(), view -> 1);
        Rule wears = new Rule(List.of(), view -> 0);
        Rule pays = new Rule(List.of(), view -> 1);
        int wind = 0;
        int near = 40;
        int seed = 0;
    }

    private record Token(String text, int place, char sort) { }

    /** Sorts of tokens: n a name, i an int, w a word or sign, e the end, x none. */
    private static final class Parser {
        static final Set<String> WORDS = Set.of("door", "caller", "round", "gives", "wears", "pays", "wind", "near", "seed", "if",
                "then", "else", "apart", "part", "lifts", "idle", "day", "face", "unlike", "which", "rubbed");
        static final Set<String> VARS = Set.of(Texts.VARS);
        static final Pattern PIECE = Pattern.compile("[\\t\\n\\r ]+|[a-z]+|[0-9]+|(?s).");
        final List<Token> tokens = new ArrayList<>();
        final Plan plan = new Plan();
        final List<Fault> later = new ArrayList<>();
        int at = 0;

        Parser(String text) {
            Matcher pieces = PIECE.matcher(text);
            while (pieces.find()) {
                String piece = pieces.group();
                if (!piece.isBlank() || !"\t\n\r ".contains(piece.substring(0, 1))) {
                    tokens.add(new Token(piece, pieces.start(), sort(piece)));
                }
            }
            tokens.add(new Token("", text.length(), 'e'));
        }

        static char sort(String piece) {
            if (piece.matches("[a-z]+")) {
                return piece.length() > 8 ? 'x' : WORDS.contains(piece) ? 'w' : 'n';
            }
            if (piece.matches("[0-9]+")) {
                return piece.length() > 4 ? 'x' : 'i';
            }
            return piece.matches("[;=+\\-*/<()]") ? 'w' : 'x';
        }

        Token now() {
            return tokens.get(at);
        }

        boolean is(String text) {
            return now().sort == 'w' && now().text.equals(text);
        }

        Token go(boolean fits) {
            if (!fits) {
                throw new Fault(1, now().place);
            }
            if (at >= 400) {
                throw new Fault(2, now().place);
            }
            return tokens.get(at++);
        }

        void full(boolean full) {
            if (full) {
                throw new Fault(2, now().place);
            }
        }

        Plan parse() {
            while (now().sort != 'e') {
                tell();
                go(is(";"));
            }
            for (Fault fault : later) {
                throw fault;
            }
            return plan;
        }

        int number(int least, int most) {
            Token token = go(now().sort == 'i');
            int value = Integer.parseInt(token.text);
            if (value < least || value > most) {
                later.add(new Fault(5, token.place));
            }
            return value;
        }

        Face face() {
            Token name = go(now().sort == 'n');
            if (find(plan.doors, name.text) >= 0 || find(plan.callers, name.text) >= 0) {
                later.add(new Fault(3, name.place));
            }
            return new Face(name.text, new int[] {number(0, 99), number(0, 99), number(0, 99), number(0, 99)});
        }

        static int find(List<Face> faces, String name) {
            for (int i = 0; i < faces.size(); i++) {
                if (faces.get(i).name.equals(name)) {
                    return i;
                }
            }
            return -1;
        }

        int known(List<Face> faces) {
            Token name = go(now().sort == 'n');
            int found = find(faces, name.text);
            if (found < 0) {
                later.add(new Fault(4, name.place));
            }
            return found;
        }

        void tell() {
            String word = now().sort == 'w' ? now().text : "";
            switch (word) {
                case "door": full(plan.doors.size() == 6); go(true); plan.doors.add(face()); break;
                case "caller": full(plan.callers.size() == 5); go(true); plan.callers.add(face()); break;
                case "round":
                    full(plan.rounds.size() == 10);
                    go(true);
                    plan.rounds.add(new Round(known(plan.callers), known(plan.doors), number(1, 30), number(0, 29)));
                    break;
                case "gives": go(true); plan.gives = law(); break;
                case "wears": go(true); plan.wears = law(); break;
                case "pays": go(true); plan.pays = law(); break;
                case "wind": go(true); plan.wind = number(0, 100); break;
                case "near": go(true); plan.near = number(0, 396); break;
                case "seed": go(true); plan.seed = number(0, 9999); break;
                default: go(false);
            }
        }

        Rule law() {
            go(is("="));
            List<Arm> arms = new ArrayList<>();
            while (is("if")) {
                full(arms.size() == 4);
                go(true);
                Expr left = sum(0);
                go(is("<"));
                Expr right = sum(0);
                go(is("then"));
                Expr then = sum(0);
                go(is("else"));
                arms.add(new Arm(left, right, then));
            }
            return new Rule(arms, sum(0));
        }

        Expr sum(int deep) {
            Expr all = product(deep);
            while (is("+") || is("-")) {
                boolean plus = go(true).text.equals("+");
                Expr left = all;
                Expr right = product(deep);
                all = view -> plus ? left.of(view) + right.of(view) : left.of(view) - right.of(view);
            }
            return all;
        }

        Expr product(int deep) {
            Expr all = unit(deep);
            while (is("*") || is("/")) {
                boolean times = go(true).text.equals("*");
                Expr left = all;
                Expr right = unit(deep);
                all = view -> times ? left.of(view) * right.of(view) : divided(left.of(view), right.of(view));
            }
            return all;
        }

        static int divided(int left, int right) {
            if (right == 0) {
                throw new ByZero();
            }
            return (int) ((long) left / right);
        }

        Expr unit(int deep) {
            Token token = now();
            if (token.sort == 'i') {
                int value = Integer.parseInt(go(true).text);
                return view -> value;
            }
            if (token.sort == 'w' && VARS.contains(token.text)) {
                String name = go(true).text;
                return view -> view.get(name);
            }
            if (is("(")) {
                full(deep == 6);
                go(true);
                Expr inside = sum(deep + 1);
                go(is(")"));
                return inside;
            }
            go(false);
            return view -> 0;
        }
    }

    private static final class World {
        int[][] face = new int[0][];
        int[] lifts = new int[0];
        int[] idle = new int[0];
        int[] rubbed = new int[0];
        int[] money = new int[0];
        boolean[] today = new boolean[0];
        int[] by = new int[0];
        boolean[] kept = new boolean[0];
        int day = 0;

        static World of(Plan plan) {
            World world = new World();
            int doors = plan.doors.size();
            world.face = new int[doors][];
            for (int i = 0; i < doors; i++) {
                world.face[i] = plan.doors.get(i).parts.clone();
            }
            world.lifts = new int[doors];
            world.idle = new int[doors];
            world.rubbed = new int[doors];
            world.money = new int[doors];
            world.today = new boolean[doors];
            world.by = new int[plan.callers.size()];
            world.kept = new boolean[plan.rounds.size()];
            java.util.Arrays.fill(world.kept, true);
            return world;
        }

        World copy() {
            World world = new World();
            world.face = new int[face.length][];
            for (int i = 0; i < face.length; i++) {
                world.face[i] = face[i].clone();
            }
            world.lifts = lifts.clone();
            world.idle = idle.clone();
            world.rubbed = rubbed.clone();
            world.money = money.clone();
            world.today = today.clone();
            world.by = by.clone();
            world.kept = kept.clone();
            world.day = day;
            return world;
        }
    }

    private static final class Model {
        String tape = "";
        int place = -1;
        Plan town = new Plan();
        World world = new World();
        final Deque<World> past = new ArrayDeque<>();
        final World[] slots = new World[3];
        final List<int[]> told = new ArrayList<>();

        // the tape

        int feed(int[] n) {
            if (tape.length() + 20 > 2000) {
                return -1;
            }
            StringBuilder more = new StringBuilder(tape);
            for (int one : n) {
                more.append((char) (one >> 24 & 255)).append((char) (one >> 16 & 255)).append((char) (one >> 8 & 255)).append((char) (one & 255));
            }
            tape = more.toString();
            return tape.length();
        }

        int back(int n) {
            if (n < 0 || n > tape.length()) {
                return -1;
            }
            tape = tape.substring(0, tape.length() - n);
            return tape.length();
        }

        int read() {
            String text = tape;
            tape = "";
            place = -1;
            try {
                town = new Parser(text).parse();
            } catch (Fault fault) {
                place = fault.place;
                return fault.number;
            }
            world = World.of(town);
            past.clear();
            told.clear();
            java.util.Arrays.fill(slots, null);
            return 0;
        }

        // the laws

        boolean noDoor(int door) {
            return door < 0 || door >= town.doors.size();
        }

        boolean noCaller(int caller) {
            return caller < 0 || caller >= town.callers.size();
        }

        boolean none(int door, int caller) {
            return noDoor(door) || noCaller(caller);
        }

        boolean noRound(int round) {
            return round < 0 || round >= town.rounds.size();
        }

        static int off(int[] a, int[] b) {
            int sum = 0;
            for (int i = 0; i < 4; i++) {
                sum += Math.abs(a[i] - b[i]);
            }
            return sum;
        }

        int[] look(int caller) {
            return town.callers.get(caller).parts;
        }

        int[] first(int door) {
            return town.doors.get(door).parts;
        }

        static int held(int value, int most) {
            return value < 0 ? 0 : value > most ? most : value;
        }

        int[] moved(World w, int door, Rule rule, int[] goal, int which) {
            int[] old = w.face[door];
            int[] next = new int[4];
            for (int p = 0; p < 4; p++) {
                int apart = Math.abs(old[p] - goal[p]);
                View view = new View(apart, p, w.lifts[door], w.idle[door], w.day, old[p], off(old, goal), which, w.rubbed[door]);
                int step = held(rule.tells(view), apart);
                next[p] = old[p] < goal[p] ? old[p] + step : old[p] - step;
            }
            return next;
        }

        int pay(World w, int door, int caller) {
            View view = new View(0, 0, w.lifts[door], w.idle[door], w.day, 0, off(w.face[door], look(caller)), caller, w.rubbed[door]);
            return held(town.pays.tells(view), 99);
        }

        void liftIn(World w, int door, int caller) {
            w.money[door] = Math.min(999999, w.money[door] + pay(w, door, caller));
            w.face[door] = moved(w, door, town.gives, look(caller), caller);
            w.lifts[door]++;
            w.by[caller]++;
            w.today[door] = true;
        }

        static long lot(int n, int seed, int which) {
            long h = seed & 0xffffffffL;
            for (long it : new long[] {151, which & 0xffffffffL}) {
                h = ((h ^ it) * 1103515245L + 12345L) & 0xffffffffL;
                h = h ^ (h >> 15);
            }
            return (h >> 1) % n;
        }

        boolean windy(int seed, int day) {
            return lot(100, seed, 16 * day) < town.wind;
        }

        void dayIn(World w, boolean wind, int seed) {
            for (int r = 0; r < town.rounds.size(); r++) {
                Round round = town.rounds.get(r);
                if (w.kept[r] && round.due(w.day)) {
                    liftIn(w, round.door, round.caller);
                }
            }
            for (int d = 0; d < town.doors.size(); d++) {
                if (wind && windy(seed, w.day)) {
                    int p = (int) lot(4, seed, 16 * w.day + 1 + d);
                    w.face[d][p] = Math.max(0, w.face[d][p] - 1);
                }
            }
            for (int d = 0; d < town.doors.size(); d++) {
                w.face[d] = moved(w, d, town.wears, first(d), d);
                w.idle[d] = w.today[d] ? 0 : Math.min(999, w.idle[d] + 1);
                w.today[d] = false;
            }
            w.day++;
        }

        int known(World w, int door) {
            int best = -2;
            for (int c = town.callers.size() - 1; c >= 0; c--) {
                int far = off(w.face[door], look(c));
                if (far <= town.near && (best == -2 || far <= off(w.face[door], look(best)))) {
                    best = c;
                }
            }
            return best;
        }

        void polishIn(World w, int door) {
            for (int p = 0; p < 4; p++) {
                int far = Math.abs(w.face[door][p] - first(door)[p]) / 2;
                w.face[door][p] += w.face[door][p] < first(door)[p] ? far : -far;
            }
            w.rubbed[door]++;
        }

        World after(int n, boolean wind, int seed, int without) {
            World w = world.copy();
            if (without >= 0) {
                w.kept[without] = false;
            }
            for (int i = 0; i < n; i++) {
                dayIn(w, wind, seed);
            }
            return w;
        }

        // what is

        int bits(int count, IntUnaryOperator one) {
            int bits = 0;
            for (int i = 0; i < count; i++) {
                bits += one.applyAsInt(i) << i;
            }
            return bits;
        }

        int door(int d, int what) {
            if (noDoor(d) || what < 0 || what > 9) {
                return -1;
            }
            int[] all = {world.face[d][0], world.face[d][1], world.face[d][2], world.face[d][3], world.lifts[d],
                world.idle[d], world.rubbed[d], world.money[d], known(world, d), off(world.face[d], first(d))};
            return all[what];
        }

        int caller(int c, int what) {
            if (noCaller(c) || what < 0 || what > 5) {
                return -1;
            }
            int doors = bits(town.doors.size(), d -> known(world, d) == c ? 1 : 0);
            return what < 4 ? look(c)[what] : what == 4 ? world.by[c] : doors;
        }

        int round(int r, int what) {
            if (noRound(r) || what < 0 || what > 5) {
                return -1;
            }
            Round round = town.rounds.get(r);
            int[] all = {round.caller, round.door, round.every, round.from, world.kept[r] ? 1 : 0, round.due(world.day) ? 1 : 0};
            return all[what];
        }

        int unlike(int d, int c) {
            return none(d, c) ? -1 : off(world.face[d], look(c));
        }

        int tells(int d, int c, int what) {
            if (none(d, c) || what < 0 || what > 4) {
                return -1;
            }
            return what == 4 ? pay(world, d, c) : Math.abs(moved(world, d, town.gives, look(c), c)[what] - world.face[d][what]);
        }

        // what is done

        void keepPast() {
            past.addLast(world.copy());
            if (past.size() > 40) {
                past.removeFirst();
            }
        }

        boolean lift(int d, int c) {
            if (none(d, c)) {
                return false;
            }
            keepPast();
            liftIn(world, d, c);
            return true;
        }

        boolean polish(int d) {
            if (noDoor(d)) {
                return false;
            }
            keepPast();
            polishIn(world, d);
            return true;
        }

        boolean file(int d, int p) {
            if (noDoor(d) || p < 0 || p > 3 || world.face[d][p] == 0) {
                return false;
            }
            keepPast();
            world.face[d][p] = 0;
            return true;
        }

        boolean keep(int r, boolean on) {
            if (noRound(r) || world.kept[r] == on) {
                return false;
            }
            keepPast();
            world.kept[r] = on;
            return true;
        }

        int days(int n) {
            if (n < 0 || n > 60) {
                return -1;
            }
            if (n > 0) {
                keepPast();
                world = after(n, true, town.seed, -1);
            }
            return world.day;
        }

        boolean undo() {
            if (past.isEmpty()) {
                return false;
            }
            world = past.removeLast();
            return true;
        }

        // what would be

        List<Integer> path(World w, int d, int c, int more) {
            if (more == 0) {
                return known(w, d) == c ? new ArrayList<>() : null;
            }
            for (int by = 0; by < town.callers.size(); by++) {
                World next = w.copy();
                liftIn(next, d, by);
                List<Integer> rest = path(next, d, c, more - 1);
                if (rest != null) {
                    rest.add(0, by);
                    return rest;
                }
            }
            return null;
        }

        int lifts(int d, int c, int i) {
            if (none(d, c) || i < -1 || i > 3) {
                return -1;
            }
            for (int n = 0; n <= 4; n++) {
                List<Integer> found = path(world, d, c, n);
                if (found != null) {
                    return i == -1 ? n : i < n ? found.get(i) : -1;
                }
            }
            return -2;
        }

        /** The first of the least (and how much), -2 if there is none. */
        int pick(int what, int count, IntUnaryOperator worth) {
            if (what != 0 && what != 1) {
                return -1;
            }
            int best = -2;
            for (int i = count - 1; i >= 0; i--) {
                if (best == -2 || worth.applyAsInt(i) <= worth.applyAsInt(best)) {
                    best = i;
                }
            }
            return best == -2 || what == 0 ? best : worth.applyAsInt(best);
        }

        int towards(int d, int c, int what) {
            if (none(d, c)) {
                return -1;
            }
            return pick(what, town.callers.size(), by -> {
                World w = world.copy();
                liftIn(w, d, by);
                return off(w.face[d], look(c));
            });
        }

        int without(int r, int n) {
            return noRound(r) || n < 1 || n > 60 ? -1 : known(after(n, false, 0, r), town.rounds.get(r).door);
        }

        int closest(List<int[]> faces, int what) {
            if (what != 0 && what != 1) {
                return -1;
            }
            int least = Integer.MAX_VALUE;
            for (int a = 0; a < faces.size(); a++) {
                for (int b = a + 1; b < faces.size(); b++) {
                    least = Math.min(least, off(faces.get(a), faces.get(b)));
                }
            }
            for (int two = 0; two < 100; two++) {
                int a = two / 10;
                int b = two % 10;
                if (a < b && b < faces.size() && off(faces.get(a), faces.get(b)) == least) {
                    return what == 0 ? two : least;
                }
            }
            return -2;
        }

        int twins(int what) {
            return closest(List.of(world.face), what);
        }

        int confused(int what) {
            List<int[]> faces = new ArrayList<>();
            for (Face face : town.callers) {
                faces.add(face.parts);
            }
            return closest(faces, what);
        }

        int[] bestPairs;
        int bestCount;
        int bestSum;

        /** Tries all in the order that ties are broken by: only a better one comes in place of an earlier. */
        void tryPairs(int d, int[] to, int count, int sum) {
            if (d == to.length) {
                if (bestPairs == null || count > bestCount || count == bestCount && sum < bestSum) {
                    bestPairs = to.clone();
                    bestCount = count;
                    bestSum = sum;
                }
                return;
            }
            for (int c = 0; c < town.callers.size(); c++) {
                boolean free = true;
                for (int e = 0; e < d; e++) {
                    free &= to[e] != c;
                }
                if (free) {
                    to[d] = c;
                    tryPairs(d + 1, to, count + 1, sum + off(world.face[d], look(c)));
                }
            }
            to[d] = -2;
            tryPairs(d + 1, to, count, sum);
        }

        int paired(int i) {
            if (i < -1 || i >= town.doors.size()) {
                return -1;
            }
            bestPairs = null;
            tryPairs(0, new int[town.doors.size()], 0, 0);
            return i == -1 ? bestSum : bestPairs[i];
        }

        int changes(int d) {
            if (noDoor(d)) {
                return -1;
            }
            for (int n = 1; n <= 60; n++) {
                if (known(after(n, false, 0, -1), d) != known(world, d)) {
                    return n;
                }
            }
            return -2;
        }

        int rubs(int d) {
            if (noDoor(d)) {
                return -1;
            }
            World w = world.copy();
            if (known(w, d) == -2) {
                return -2;
            }
            for (int n = 0; n <= 10; n++) {
                if (known(w, d) != known(world, d)) {
                    return n;
                }
                polishIn(w, d);
            }
            return -2;
        }

        int when(int d, int c) {
            if (none(d, c)) {
                return -1;
            }
            for (int n = 0; n <= 60; n++) {
                if (known(after(n, false, 0, -1), d) == c) {
                    return n;
                }
            }
            return -2;
        }

        int alone(int d, int c) {
            if (none(d, c)) {
                return -1;
            }
            World w = world.copy();
            for (int n = 0; n <= 60; n++) {
                if (known(w, d) == c) {
                    return n;
                }
                liftIn(w, d, c);
            }
            return -2;
        }

        int nearest(int d, int p) {
            if (noDoor(d) || p < 0 || p > 3) {
                return -1;
            }
            return pick(0, town.callers.size(), c -> Math.abs(look(c)[p] - world.face[d][p]));
        }

        int same(int d, int c) {
            return none(d, c) ? -1 : bits(4, p -> look(c)[p] == world.face[d][p] ? 1 : 0);
        }

        int shift(int d, int n) {
            return noDoor(d) || n < 0 || n > 60 ? -1 : off(after(n, false, 0, -1).face[d], world.face[d]);
        }

        int calls(int d, int n) {
            if (noDoor(d) || n < 1 || n > 60) {
                return -1;
            }
            return after(n, false, 0, -1).lifts[d] - world.lifts[d];
        }

        int busy(int n, int what) {
            if (n < 1 || n > 60 || what != 0 && what != 1) {
                return -1;
            }
            World then = after(n, false, 0, -1);
            int best = pick(0, town.callers.size(), c -> world.by[c] - then.by[c]);
            return best == -2 || what == 0 ? best : then.by[best] - world.by[best];
        }

        int richest(int n, int what) {
            if (n < 0 || n > 60 || what != 0 && what != 1) {
                return -1;
            }
            World then = after(n, false, 0, -1);
            int best = pick(0, town.doors.size(), d -> -then.money[d]);
            return best == -2 || what == 0 ? best : then.money[best];
        }

        int flat(int what) {
            return pick(what, town.doors.size(), d -> off(world.face[d], first(d)));
        }

        int then(int d, int n, int what) {
            if (noDoor(d) || n < 0 || n > 60 || what < 0 || what > 5) {
                return -1;
            }
            World then = after(n, true, town.seed, -1);
            return what < 4 ? then.face[d][what] : what == 4 ? known(then, d) : then.money[d];
        }

        int year(int d, int c, int n, int s) {
            if (none(d, c) || n < 0 || n > 60 || s < 1 || s > 20) {
                return -1;
            }
            int hits = 0;
            for (int seed = town.seed; seed < town.seed + s; seed++) {
                hits += known(after(n, true, seed, -1), d) == c ? 1 : 0;
            }
            return hits;
        }

        // what is told

        int tell(int d, int p, int way) {
            if (noDoor(d) || p < 0 || p > 3 || way < -1 || way > 1 || told.size() == 20) {
                return -1;
            }
            told.add(new int[] {d, p, way});
            return told.size() - 1;
        }

        int forget() {
            int size = told.size();
            told.clear();
            return size;
        }

        int wayOf(int d, int p, int c) {
            World w = world.copy();
            liftIn(w, d, c);
            return Integer.compare(w.face[d][p], world.face[d][p]);
        }

        Set<Integer> left(int k) {
            Set<Integer> left = new HashSet<>();
            for (int c = 0; c < town.callers.size(); c++) {
                left.add(c);
                for (int[] one : told.subList(0, k)) {
                    if (wayOf(one[0], one[1], c) != one[2]) {
                        left.remove(c);
                    }
                }
            }
            return left;
        }

        int who(int k, int what) {
            if (k < 0 || k > told.size() || what != 0 && what != 1) {
                return -1;
            }
            Set<Integer> left = left(k);
            return what == 0 ? left.size() : bits(5, c -> left.contains(c) ? 1 : 0);
        }

        int ask(int k) {
            if (k < 0 || k > told.size()) {
                return -1;
            }
            Set<Integer> left = left(k);
            if (left.isEmpty()) {
                return -2;
            }
            int best = pick(0, 4 * town.doors.size(), both -> {
                int[] tally = new int[3];
                for (int c : left) {
                    tally[1 + wayOf(both / 4, both % 4, c)]++;
                }
                return Math.max(tally[0], Math.max(tally[1], tally[2]));
            });
            return best == -2 ? -2 : 10 * (best / 4) + best % 4;
        }

        // what is held

        boolean hold(int slot) {
            if (slot < 0 || slot > 2) {
                return false;
            }
            slots[slot] = world.copy();
            return true;
        }

        boolean restore(int slot) {
            if (slot < 0 || slot > 2 || slots[slot] == null) {
                return false;
            }
            world = slots[slot].copy();
            past.clear();
            return true;
        }

        int count(int what) {
            int doors = town.doors.size();
            Set<Integer> by = new HashSet<>();
            int held = 0;
            for (int d = 0; d < doors; d++) {
                by.add(known(world, d));
            }
            by.remove(-2);
            for (World slot : slots) {
                held += slot == null ? 0 : 1;
            }
            switch (what) {
                case 0: return doors;
                case 1: return town.callers.size();
                case 2: return town.rounds.size();
                case 3: return world.day;
                case 4: return bits(doors, d -> known(world, d) == -2 ? 0 : 1);
                case 5: return java.util.Arrays.stream(world.lifts).sum();
                case 6: return java.util.Arrays.stream(world.money).sum();
                case 7: return bits(town.rounds.size(), r -> world.kept[r] ? 1 : 0);
                case 8: return tape.length();
                case 9: return past.size();
                case 10: return told.size();
                case 11: return held;
                case 12: return windy(town.seed, world.day) ? 1 : 0;
                case 13: return by.size();
                case 14: return bits(doors, d -> off(world.face[d], first(d)) == 0 ? 1 : 0);
                case 15: return bits(doors, d -> world.idle[d] >= 1 ? 1 : 0);
                case 16: return java.util.Arrays.stream(world.rubbed).sum();
                default: return -1;
            }
        }
    }
}
