/**
 * Door knockers that take on the faces of whoever lifts them.
 *
 * What each call answers and changes is told by the project's document, as promises 1 to 42; the
 * words in capitals in the comments here are the document's terms.
 */
public final class KnockerFaces {
    public static final int NONE = -1;

    /** Answered for "nobody", "not" and "there are not so many"; the document tells which. */
    private static final int NOBODY = -2;

    private static final int PARTS = 4;
    private static final int MOST_DOORS = 6;
    private static final int MOST_CALLERS = 5;
    private static final int MOST_ROUNDS = 10;
    private static final int MOST_TOLD = 20;
    private static final int MOST_DAYS = 60;
    private static final int MOST_SEEDS = 20;
    private static final int MOST_RUBS = 10;
    private static final int MOST_IDLE = 999;
    private static final int MOST_MONEY = 999999;
    private static final int MOST_PAY = 99;

    private final Tape tape;
    private final Town town;
    private final Town draft;
    private final Reader reader;
    private final Street street;
    private final Memory memory;
    private final Mover mover;
    private final Ahead ahead;
    private final Pairs pairs;
    private final Told told;

    public KnockerFaces() {
        tape = new Tape();
        town = new Town();
        draft = new Town();
        reader = new Reader(tape, draft);
        street = new Street();
        memory = new Memory();
        mover = new Mover(town);
        ahead = new Ahead(town, street, mover);
        pairs = new Pairs(town, street);
        told = new Told(town, street, mover);
    }

    // ---- the tape and its text

    public int feed(int a, int b, int c, int d, int e) {
        if (!tape.hasRoomFor(20)) {
            return NONE;
        }
        tape.addFour(a);
        tape.addFour(b);
        tape.addFour(c);
        tape.addFour(d);
        tape.addFour(e);
        return tape.length;
    }

    public int back(int n) {
        if (n < 0 || n > tape.length) {
            return NONE;
        }
        tape.length -= n;
        return tape.length;
    }

    public int read() {
        reader.readWhole();
        tape.length = 0;
        if (reader.fault == 0) {
            town.become(draft);
            street.begin(town);
            memory.forgetAll();
            told.size = 0;
        }
        return reader.fault;
    }

    public int place() {
        return reader.place;
    }

    // ---- what is

    public int door(int door, int what) {
        if (!town.hasDoor(door)) {
            return NONE;
        }
        Knocker knocker = street.knockers[door];
        switch (what) {
            case 0:
            case 1:
            case 2:
            case 3:
                return knocker.parts[what];
            case 4:
                return knocker.lifted;
            case 5:
                return knocker.idle;
            case 6:
                return knocker.rubbed;
            case 7:
                return knocker.money;
            case 8:
                return town.knownBy(knocker.parts);
            case 9:
                return street.offFirst(door, town);
            default:
                return NONE;
        }
    }

    public int caller(int caller, int what) {
        if (!town.hasCaller(caller)) {
            return NONE;
        }
        if (what >= 0 && what < PARTS) {
            return town.looks[PARTS * caller + what];
        }
        if (what == 4) {
            return street.liftsBy[caller];
        }
        return what == 5 ? doorsKnownBy(caller) : NONE;
    }

    public int round(int round, int what) {
        if (!town.hasRound(round)) {
            return NONE;
        }
        switch (what) {
            case 0:
                return town.roundCaller[round];
            case 1:
                return town.roundDoor[round];
            case 2:
                return town.every[round];
            case 3:
                return town.from[round];
            case 4:
                return street.kept >> round & 1;
            case 5:
                return town.isDue(round, street.day) ? 1 : 0;
            default:
                return NONE;
        }
    }

    public int unlike(int door, int caller) {
        if (!town.hasBoth(door, caller)) {
            return NONE;
        }
        return town.unlikeTo(street.knockers[door].parts, caller);
    }

    public int tells(int door, int caller, int what) {
        if (!town.hasBoth(door, caller) || what < 0 || what > PARTS) {
            return NONE;
        }
        Knocker knocker = street.knockers[door];
        if (what == PARTS) {
            return mover.payOf(knocker, caller, street.day);
        }
        return mover.stepOf(town.gives, knocker, town.looks, caller, what, street.day);
    }

    // ---- what is done

    public boolean lift(int door, int caller) {
        if (!town.hasBoth(door, caller)) {
            return false;
        }
        memory.remember(street);
        mover.liftBy(street.knockers[door], caller, street.day);
        street.liftsBy[caller]++;
        return true;
    }

    public boolean polish(int door) {
        if (!town.hasDoor(door)) {
            return false;
        }
        memory.remember(street);
        mover.rub(street.knockers[door], door);
        return true;
    }

    public boolean file(int door, int part) {
        if (!town.hasDoor(door) || !isPart(part) || street.knockers[door].parts[part] == 0) {
            return false;
        }
        memory.remember(street);
        street.knockers[door].parts[part] = 0;
        return true;
    }

    public boolean keep(int round, boolean on) {
        if (!town.hasRound(round) || (street.kept >> round & 1) == (on ? 1 : 0)) {
            return false;
        }
        memory.remember(street);
        street.kept ^= 1 << round;
        return true;
    }

    public int days(int n) {
        if (n < 0 || n > MOST_DAYS) {
            return NONE;
        }
        if (n > 0) {
            memory.remember(street);
        }
        for (int i = 0; i < n; i++) {
            passOneDay();
        }
        return street.day;
    }

    public boolean undo() {
        return memory.takeBack(street);
    }

    // ---- what would be

    public int lifts(int door, int caller, int i) {
        if (!town.hasBoth(door, caller) || i < NONE || i >= Ahead.MOST_LEVELS) {
            return NONE;
        }
        int node = ahead.nodeKnownBy(door, caller);
        if (node < 0) {
            return NOBODY;
        }
        return i == NONE ? ahead.levelOf(node) : ahead.callerOnPath(node, i);
    }

    public int towards(int door, int caller, int what) {
        if (!town.hasBoth(door, caller) || !isPick(what)) {
            return NONE;
        }
        int best = NOBODY;
        int least = 0;
        for (int by = 0; by < town.callers; by++) {
            int far = ahead.unlikeBehindLift(door, by, caller);
            if (best < 0 || far < least) {
                best = by;
                least = far;
            }
        }
        return what == 0 ? best : least;
    }

    public int without(int round, int n) {
        if (!town.hasRound(round) || n < 1 || n > MOST_DAYS) {
            return NONE;
        }
        int kept = street.kept & ~(1 << round);
        return town.knownBy(ahead.after(town.roundDoor[round], n, kept, NONE).parts);
    }

    public int twins(int what) {
        if (!isPick(what)) {
            return NONE;
        }
        return closestTwo(street.facesInRow(), town.doors, what);
    }

    public int paired(int i) {
        if (i != NONE && !town.hasDoor(i)) {
            return NONE;
        }
        pairs.findBest();
        return i == NONE ? pairs.leastSum() : pairs.partnerOf(i);
    }

    public int changes(int door) {
        if (!town.hasDoor(door)) {
            return NONE;
        }
        return ahead.firstDay(door, town.knownBy(street.knockers[door].parts), false);
    }

    public int rubs(int door) {
        return town.hasDoor(door) ? ahead.rubsToChange(door) : NONE;
    }

    public int when(int door, int caller) {
        return town.hasBoth(door, caller) ? ahead.firstDay(door, caller, true) : NONE;
    }

    public int alone(int door, int caller) {
        return town.hasBoth(door, caller) ? ahead.liftsAlone(door, caller) : NONE;
    }

    public int confused(int what) {
        return isPick(what) ? closestTwo(town.looks, town.callers, what) : NONE;
    }

    public int nearest(int door, int part) {
        if (!town.hasDoor(door) || !isPart(part)) {
            return NONE;
        }
        int mine = street.knockers[door].parts[part];
        int best = NOBODY;
        int least = 0;
        for (int caller = 0; caller < town.callers; caller++) {
            int far = Math.abs(mine - town.looks[PARTS * caller + part]);
            if (best < 0 || far < least) {
                best = caller;
                least = far;
            }
        }
        return best;
    }

    public int same(int door, int caller) {
        if (!town.hasBoth(door, caller)) {
            return NONE;
        }
        int bits = 0;
        for (int part = 0; part < PARTS; part++) {
            if (street.knockers[door].parts[part] == town.looks[PARTS * caller + part]) {
                bits |= 1 << part;
            }
        }
        return bits;
    }

    public int shift(int door, int n) {
        if (!town.hasDoor(door) || n < 0 || n > MOST_DAYS) {
            return NONE;
        }
        int[] then = ahead.after(door, n, street.kept, NONE).parts;
        return Town.difference(then, 0, street.knockers[door].parts, 0);
    }

    public int calls(int door, int n) {
        if (!town.hasDoor(door) || n < 1 || n > MOST_DAYS) {
            return NONE;
        }
        int sum = 0;
        for (int round = 0; round < town.rounds; round++) {
            if (town.roundDoor[round] == door) {
                sum += liftsDue(round, n);
            }
        }
        return sum;
    }

    public int richest(int n, int what) {
        if (n < 0 || n > MOST_DAYS || !isPick(what)) {
            return NONE;
        }
        int best = NOBODY;
        int most = NOBODY;
        for (int door = 0; door < town.doors; door++) {
            int money = ahead.after(door, n, street.kept, NONE).money;
            if (money > most) {
                best = door;
                most = money;
            }
        }
        return what == 0 ? best : most;
    }

    public int flat(int what) {
        if (!isPick(what)) {
            return NONE;
        }
        int best = NOBODY;
        int least = NOBODY;
        for (int door = 0; door < town.doors; door++) {
            int far = street.offFirst(door, town);
            if (best < 0 || far < least) {
                best = door;
                least = far;
            }
        }
        return what == 0 ? best : least;
    }

    public int then(int door, int n, int what) {
        if (!town.hasDoor(door) || n < 0 || n > MOST_DAYS || what < 0 || what > 5) {
            return NONE;
        }
        Knocker knocker = ahead.after(door, n, street.kept, town.seed);
        if (what < PARTS) {
            return knocker.parts[what];
        }
        return what == 4 ? town.knownBy(knocker.parts) : knocker.money;
    }

    public int busy(int n, int what) {
        if (n < 1 || n > MOST_DAYS || !isPick(what)) {
            return NONE;
        }
        int best = NOBODY;
        int most = NOBODY;
        for (int caller = 0; caller < town.callers; caller++) {
            int due = liftsDueBy(caller, n);
            if (due > most) {
                best = caller;
                most = due;
            }
        }
        return what == 0 ? best : most;
    }

    public int year(int door, int caller, int n, int s) {
        if (!town.hasBoth(door, caller) || n < 0 || n > MOST_DAYS || s < 1 || s > MOST_SEEDS) {
            return NONE;
        }
        int hits = 0;
        for (int i = 0; i < s; i++) {
            Knocker knocker = ahead.after(door, n, street.kept, town.seed + i);
            if (town.knownBy(knocker.parts) == caller) {
                hits++;
            }
        }
        return hits;
    }

    // ---- what is told

    public int tell(int door, int part, int way) {
        if (!town.hasDoor(door) || !isPart(part) || way < -1 || way > 1) {
            return NONE;
        }
        return told.note(door, part, way);
    }

    public int forget() {
        int size = told.size;
        told.size = 0;
        return size;
    }

    public int who(int k, int what) {
        if (k < 0 || k > told.size || !isPick(what)) {
            return NONE;
        }
        int left = told.suspects(k);
        return what == 0 ? Integer.bitCount(left) : left;
    }

    public int ask(int k) {
        return k < 0 || k > told.size ? NONE : told.bestQuestion(k);
    }

    // ---- what is held

    public boolean hold(int slot) {
        if (!Memory.hasSlot(slot)) {
            return false;
        }
        memory.putInSlot(slot, street);
        return true;
    }

    public boolean restore(int slot) {
        return Memory.hasSlot(slot) && memory.takeFromSlot(slot, street);
    }

    public int count(int what) {
        switch (what) {
            case 0:
                return town.doors;
            case 1:
                return town.callers;
            case 2:
                return town.rounds;
            case 3:
                return street.day;
            case 7:
                return street.kept;
            case 8:
                return tape.length;
            case 9:
                return memory.size;
            case 10:
                return told.size;
            case 11:
                return Integer.bitCount(memory.slotsInUse);
            case 12:
                return town.hasWind(town.seed, street.day) ? 1 : 0;
            case 13:
                return Integer.bitCount(callersKnown());
            default:
                return countOverDoors(what);
        }
    }

    // ---- helpers of the calls

    private static boolean isPart(int part) {
        return part >= 0 && part < PARTS;
    }

    /** Whether it asks for one of "which one" (0) and "how much" (1). */
    private static boolean isPick(int what) {
        return what == 0 || what == 1;
    }

    private void passOneDay() {
        for (int round = 0; round < town.rounds; round++) {
            if (town.comes(round, street.day, street.kept)) {
                street.liftsBy[town.roundCaller[round]]++;
            }
        }
        for (int door = 0; door < town.doors; door++) {
            mover.passDay(street.knockers[door], door, street.day, street.kept, town.seed);
        }
        street.day++;
    }

    private int liftsDue(int round, int n) {
        int due = 0;
        for (int i = 0; i < n; i++) {
            if (town.comes(round, street.day + i, street.kept)) {
                due++;
            }
        }
        return due;
    }

    private int liftsDueBy(int caller, int n) {
        int due = 0;
        for (int round = 0; round < town.rounds; round++) {
            if (town.roundCaller[round] == caller) {
                due += liftsDue(round, n);
            }
        }
        return due;
    }

    private int doorsKnownBy(int caller) {
        int bits = 0;
        for (int door = 0; door < town.doors; door++) {
            if (town.knownBy(street.knockers[door].parts) == caller) {
                bits |= 1 << door;
            }
        }
        return bits;
    }

    private int callersKnown() {
        int bits = 0;
        for (int door = 0; door < town.doors; door++) {
            int caller = town.knownBy(street.knockers[door].parts);
            if (caller >= 0) {
                bits |= 1 << caller;
            }
        }
        return bits;
    }

    private int countOverDoors(int what) {
        int sum = 0;
        for (int door = 0; door < town.doors; door++) {
            sum += shareOfDoor(door, what);
        }
        return what == 4 || what == 5 || what == 6 || what >= 14 && what <= 16 ? sum : NONE;
    }

    private int shareOfDoor(int door, int what) {
        Knocker knocker = street.knockers[door];
        switch (what) {
            case 4:
                return town.knownBy(knocker.parts) >= 0 ? 1 << door : 0;
            case 5:
                return knocker.lifted;
            case 6:
                return knocker.money;
            case 14:
                return street.offFirst(door, town) == 0 ? 1 << door : 0;
            case 15:
                return knocker.idle > 0 ? 1 << door : 0;
            case 16:
                return knocker.rubbed;
            default:
                return 0;
        }
    }

    private static int closestTwo(int[] faces, int count, int what) {
        int best = NOBODY;
        int least = NOBODY;
        for (int lesser = 0; lesser < count; lesser++) {
            for (int other = lesser + 1; other < count; other++) {
                int far = Town.difference(faces, lesser, faces, other);
                if (best < 0 || far < least) {
                    best = 10 * lesser + other;
                    least = far;
                }
            }
        }
        return what == 0 ? best : least;
    }

    // ---- the classes inside

    /** The bytes that were fed, and the TOKENS that they make. */
    private static final class Tape {
        static final int MOST_BYTES = 2000;
        static final int MOST_TOKENS = 400;

        static final int END = 0;
        static final int NO_TOKEN = 1;
        static final int NAME = 2;
        static final int INT = 3;

        /** A sign's kind is its byte; the words' kinds, in the order of WORDS, lie behind those. */
        static final int DOOR = 256;
        static final int CALLER = 257;
        static final int ROUND = 258;
        static final int GIVES = 259;
        static final int WEARS = 260;
        static final int PAYS = 261;
        static final int WIND = 262;
        static final int NEAR = 263;
        static final int SEED = 264;
        static final int IF = 265;
        static final int THEN = 266;
        static final int ELSE = 267;
        static final int FIRST_VAR = 268;
        static final int LAST_VAR = 276;

        private static final String SIGNS = ";=+-*/<()";
        private static final String WORDS = "door caller round gives wears pays wind near seed if then else apart part lifts idle day face unlike which rubbed";
        private static final int MOST_LETTERS = 8;
        private static final int MOST_DIGITS = 4;

        int length;
        private final byte[] bytes;
        private final long[] words;
        /** One more than a text may have: ROOM is told at the token that is one too many. */
        private final int[] kinds;
        private final int[] places;
        private final long[] values;
        private int at;
        private int kind;
        private long value;

        Tape() {
            bytes = new byte[MOST_BYTES];
            words = codesOfWords();
            kinds = new int[MOST_TOKENS + 1];
            places = new int[MOST_TOKENS + 1];
            values = new long[MOST_TOKENS + 1];
        }

        private static long[] codesOfWords() {
            long[] codes = new long[LAST_VAR - DOOR + 1];
            int word = 0;
            for (int i = 0; i < WORDS.length() && word < codes.length; i++) {
                char letter = WORDS.charAt(i);
                if (letter == ' ') {
                    word++;
                } else {
                    codes[word] = withLetter(codes[word], letter);
                }
            }
            return codes;
        }

        /** Names are kept as numbers, so that no text has to be made for them. */
        private static long withLetter(long code, int letter) {
            return 27 * code + (letter - 'a' + 1);
        }

        boolean hasRoomFor(int more) {
            return length + more <= MOST_BYTES;
        }

        void addFour(int number) {
            for (int down = 24; down >= 0; down -= 8) {
                if (length >= 0 && length < bytes.length) {
                    bytes[length] = (byte) (number >>> down);
                    length++;
                }
            }
        }

        int kindAt(int token) {
            return token >= 0 && token < kinds.length ? kinds[token] : NO_TOKEN;
        }

        int placeAt(int token) {
            return token >= 0 && token < places.length ? places[token] : length;
        }

        long valueAt(int token) {
            return token >= 0 && token < values.length ? values[token] : 0;
        }

        /** Finds the tokens, up to the END, to what is none, or to one more than a text may have. */
        void cut() {
            at = 0;
            kind = NAME;
            for (int i = 0; i < kinds.length && kind != END && kind != NO_TOKEN; i++) {
                skipBlanks();
                places[i] = at;
                cutOne();
                kinds[i] = kind;
                values[i] = value;
            }
        }

        private int byteAt(int place) {
            return place >= 0 && place < length && place < bytes.length ? bytes[place] & 255 : NONE;
        }

        private void skipBlanks() {
            while (at < length && isBlank(byteAt(at))) {
                at++;
            }
        }

        private void cutOne() {
            int first = byteAt(at);
            value = 0;
            if (first == NONE) {
                kind = END;
            } else if (isLetter(first)) {
                cutWord();
            } else if (isDigit(first)) {
                cutNumber();
            } else {
                kind = SIGNS.indexOf((char) first) >= 0 ? first : NO_TOKEN;
                at++;
            }
        }

        private void cutWord() {
            int start = at;
            while (at < length && isLetter(byteAt(at))) {
                value = withLetter(value, byteAt(at));
                at++;
            }
            kind = at - start > MOST_LETTERS ? NO_TOKEN : NAME;
            for (int i = 0; i < words.length && kind == NAME; i++) {
                if (words[i] == value) {
                    kind = DOOR + i;
                }
            }
        }

        private void cutNumber() {
            int start = at;
            while (at < length && isDigit(byteAt(at))) {
                value = 10 * value + (byteAt(at) - '0');
                at++;
            }
            kind = at - start > MOST_DIGITS ? NO_TOKEN : INT;
        }

        private static boolean isBlank(int sign) {
            return sign == 9 || sign == 10 || sign == 13 || sign == 32;
        }

        private static boolean isLetter(int sign) {
            return sign >= 'a' && sign <= 'z';
        }

        private static boolean isDigit(int sign) {
            return sign >= '0' && sign <= '9';
        }
    }

    /** Reads the tape's text into a draft of a town, or finds its FAULT. */
    private static final class Reader {
        private static final int SYNTAX = 1;
        private static final int ROOM = 2;
        private static final int TWICE = 3;
        private static final int UNKNOWN = 4;
        private static final int WRONG = 5;
        private static final int MOST_IFS = 4;
        private static final int MOST_NESTED = 6;

        int fault;
        int place;
        private final Tape tape;
        private final Town draft;
        private int at;
        private int kind;
        /** The first fault of those that count only where there is no SYNTAX and no ROOM. */
        private int slip;
        private int slipPlace;

        Reader(Tape tape, Town draft) {
            this.tape = tape;
            this.draft = draft;
            place = NONE;
        }

        void readWhole() {
            draft.clear();
            tape.cut();
            at = 0;
            kind = tape.kindAt(0);
            fault = 0;
            slip = 0;
            slipPlace = NONE;
            for (int i = 0; i <= Tape.MOST_TOKENS && fault == 0 && kind != Tape.END; i++) {
                readTell();
            }
            place = fault == 0 ? slipPlace : tape.placeAt(at);
            fault = fault == 0 ? slip : fault;
        }

        private void fail(int number) {
            if (fault == 0) {
                fault = number;
            }
        }

        private void noteSlip(int number) {
            if (slip == 0) {
                slip = number;
                slipPlace = tape.placeAt(at);
            }
        }

        /** Goes behind the token, if it is of the kind that is due. Behind a fault nothing is taken. */
        private void take(int due) {
            if (fault != 0) {
                return;
            }
            if (kind != due) {
                fault = SYNTAX;
            } else if (at >= Tape.MOST_TOKENS) {
                fault = ROOM;
            } else {
                at++;
                kind = at >= 0 && at < tape.kinds.length ? tape.kinds[at] : Tape.NO_TOKEN;
            }
        }

        private void readTell() {
            switch (kind) {
                case Tape.DOOR:
                    readDoor();
                    break;
                case Tape.CALLER:
                    readCaller();
                    break;
                case Tape.ROUND:
                    readRound();
                    break;
                case Tape.GIVES:
                    readLaw(draft.gives);
                    break;
                case Tape.WEARS:
                    readLaw(draft.wears);
                    break;
                case Tape.PAYS:
                    readLaw(draft.pays);
                    break;
                case Tape.WIND:
                    draft.wind = readSetting(100);
                    break;
                case Tape.NEAR:
                    draft.near = readSetting(396);
                    break;
                case Tape.SEED:
                    draft.seed = readSetting(9999);
                    break;
                default:
                    fail(SYNTAX);
            }
            take(';');
        }

        private void readDoor() {
            int door = draft.doors;
            if (door >= MOST_DOORS) {
                fail(ROOM);
                return;
            }
            take(Tape.DOOR);
            draft.doorNames[door] = readNewName();
            readFace(draft.first, door);
            draft.doors = door + 1;
        }

        private void readCaller() {
            int caller = draft.callers;
            if (caller >= MOST_CALLERS) {
                fail(ROOM);
                return;
            }
            take(Tape.CALLER);
            draft.callerNames[caller] = readNewName();
            readFace(draft.looks, caller);
            draft.callers = caller + 1;
        }

        private void readRound() {
            int round = draft.rounds;
            if (round >= MOST_ROUNDS) {
                fail(ROOM);
                return;
            }
            take(Tape.ROUND);
            draft.roundCaller[round] = readKnownName(draft.callerNames, draft.callers);
            draft.roundDoor[round] = readKnownName(draft.doorNames, draft.doors);
            draft.every[round] = readNumber(1, 30);
            draft.from[round] = readNumber(0, 29);
            draft.rounds = round + 1;
        }

        private int readSetting(int most) {
            take(kind);
            return readNumber(0, most);
        }

        private void readFace(int[] faces, int row) {
            for (int part = 0; part < PARTS; part++) {
                int number = readNumber(0, 99);
                if (PARTS * row + part < faces.length) {
                    faces[PARTS * row + part] = number;
                }
            }
        }

        private int readNumber(int least, int most) {
            int number = (int) tape.valueAt(at);
            if (kind == Tape.INT && (number < least || number > most)) {
                noteSlip(WRONG);
            }
            take(Tape.INT);
            return number;
        }

        private long readNewName() {
            long name = tape.valueAt(at);
            if (Town.rowOf(name, draft.doorNames, draft.doors) >= 0
                    || Town.rowOf(name, draft.callerNames, draft.callers) >= 0) {
                noteSlip(TWICE);
            }
            take(Tape.NAME);
            return name;
        }

        /** A slip leaves row 0 behind, which is never looked at: the draft is dropped then. */
        private int readKnownName(long[] names, int count) {
            int row = Town.rowOf(tape.valueAt(at), names, count);
            if (row < 0) {
                noteSlip(UNKNOWN);
            }
            take(Tape.NAME);
            return row < 0 ? 0 : row;
        }

        private void readLaw(Law law) {
            take(kind);
            take('=');
            law.clear();
            for (int ifs = 0; ifs <= MOST_IFS && fault == 0 && kind == Tape.IF; ifs++) {
                if (ifs == MOST_IFS) {
                    fail(ROOM);
                }
                take(Tape.IF);
                readSum(law, 0);
                take('<');
                readSum(law, 0);
                take(Tape.THEN);
                int jump = law.length;
                law.put(Law.UNLESS, 0);
                readSum(law, 0);
                take(Tape.ELSE);
                law.put(Law.ANSWER, 0);
                law.aim(jump, law.length);
            }
            readSum(law, 0);
            law.put(Law.ANSWER, 0);
        }

        private void readSum(Law law, int nested) {
            readProduct(law, nested);
            for (int i = 0; i < Tape.MOST_TOKENS && fault == 0 && (kind == '+' || kind == '-'); i++) {
                int sign = kind;
                take(sign);
                readProduct(law, nested);
                law.put(sign == '+' ? Law.ADD : Law.SUBTRACT, 0);
            }
        }

        private void readProduct(Law law, int nested) {
            readUnit(law, nested);
            for (int i = 0; i < Tape.MOST_TOKENS && fault == 0 && (kind == '*' || kind == '/'); i++) {
                int sign = kind;
                take(sign);
                readUnit(law, nested);
                law.put(sign == '*' ? Law.MULTIPLY : Law.DIVIDE, 0);
            }
        }

        private void readUnit(Law law, int nested) {
            int unit = kind;
            if (fault != 0) {
                return;
            }
            if (unit == Tape.INT) {
                law.put(Law.NUMBER, (int) tape.valueAt(at));
                take(unit);
            } else if (unit >= Tape.FIRST_VAR && unit <= Tape.LAST_VAR) {
                law.put(Law.VAR, unit - Tape.FIRST_VAR);
                take(unit);
            } else if (unit != '(') {
                fail(SYNTAX);
            } else if (nested >= MOST_NESTED) {
                fail(ROOM);
            } else {
                take('(');
                readSum(law, nested + 1);
                take(')');
            }
        }
    }

    /** A LAW, as steps that put numbers on a stack and join the topmost two. */
    private static final class Law {
        static final int NUMBER = 0;
        static final int VAR = 1;
        static final int ADD = 2;
        static final int SUBTRACT = 3;
        static final int MULTIPLY = 4;
        static final int DIVIDE = 5;
        /** Goes on elsewhere, unless the one below the topmost is less than that. */
        static final int UNLESS = 6;
        static final int ANSWER = 7;

        /** Six ( within one another leave at most 16 numbers waiting. */
        private static final int MOST_WAITING = 20;

        int length;
        private final int[] steps;
        private final int[] stack;

        Law() {
            steps = new int[Tape.MOST_TOKENS + 1];
            stack = new int[MOST_WAITING];
        }

        void clear() {
            length = 0;
        }

        void put(int kind, int number) {
            if (length < steps.length) {
                steps[length] = number << 3 | kind;
                length++;
            }
        }

        /** Tells a step that was put already where to go on. */
        void aim(int step, int target) {
            if (step >= 0 && step < length) {
                steps[step] = target << 3 | UNLESS;
            }
        }

        void become(Law other) {
            length = other.length;
            System.arraycopy(other.steps, 0, steps, 0, length);
        }

        /** What it tells, given the VARs; not held to anything yet. */
        int worth(int[] vars) {
            int top = 0;
            int at = 0;
            for (int i = 0; i < length && at < length; i++) {
                int kind = steps[at] & 7;
                int number = steps[at] >> 3;
                at++;
                if (kind == ANSWER) {
                    return top > 0 ? stack[top - 1] : 0;
                }
                if (kind == NUMBER || kind == VAR) {
                    if (top >= stack.length) {
                        return 0;
                    }
                    stack[top] = kind == NUMBER ? number : valueOf(vars, number);
                    top++;
                    continue;
                }
                if (top < 2) {
                    return 0;
                }
                int right = stack[top - 1];
                int left = stack[top - 2];
                if (kind == DIVIDE && right == 0) {
                    return 0;
                }
                if (kind == UNLESS) {
                    top -= 2;
                    at = left < right ? at : number;
                } else {
                    top--;
                    stack[top - 1] = joined(kind, left, right);
                }
            }
            return 0;
        }

        private static int valueOf(int[] vars, int number) {
            return number >= 0 && number < vars.length ? vars[number] : 0;
        }

        private static int joined(int kind, int left, int right) {
            switch (kind) {
                case ADD:
                    return left + right;
                case SUBTRACT:
                    return left - right;
                case MULTIPLY:
                    return left * right;
                default:
                    return right == 0 ? 0 : left / right;
            }
        }
    }

    /** What a text tells: it stays as it is until the next text. */
    private static final class Town {
        int doors;
        int callers;
        int rounds;
        int wind;
        int near;
        int seed;
        final long[] doorNames;
        final long[] callerNames;
        /** Faces stand in rows of four PARTS: those of a DOOR, or of a CALLER, from 4 * its number on. */
        final int[] first;
        final int[] looks;
        final int[] roundCaller;
        final int[] roundDoor;
        final int[] every;
        final int[] from;
        final Law gives;
        final Law wears;
        final Law pays;

        Town() {
            doorNames = new long[MOST_DOORS];
            callerNames = new long[MOST_CALLERS];
            first = new int[PARTS * MOST_DOORS];
            looks = new int[PARTS * MOST_CALLERS];
            roundCaller = new int[MOST_ROUNDS];
            roundDoor = new int[MOST_ROUNDS];
            every = new int[MOST_ROUNDS];
            from = new int[MOST_ROUNDS];
            gives = new Law();
            wears = new Law();
            pays = new Law();
            clear();
        }

        void clear() {
            doors = 0;
            callers = 0;
            rounds = 0;
            wind = 0;
            near = 40;
            seed = 0;
            setLaw(gives, 1);
            setLaw(wears, 0);
            setLaw(pays, 1);
        }

        private static void setLaw(Law law, int number) {
            law.clear();
            law.put(Law.NUMBER, number);
            law.put(Law.ANSWER, 0);
        }

        /** Takes on all but the names: those are looked up in the draft alone, while a text is read. */
        void become(Town other) {
            doors = other.doors;
            callers = other.callers;
            rounds = other.rounds;
            wind = other.wind;
            near = other.near;
            seed = other.seed;
            System.arraycopy(other.first, 0, first, 0, PARTS * MOST_DOORS);
            System.arraycopy(other.looks, 0, looks, 0, PARTS * MOST_CALLERS);
            System.arraycopy(other.roundCaller, 0, roundCaller, 0, MOST_ROUNDS);
            System.arraycopy(other.roundDoor, 0, roundDoor, 0, MOST_ROUNDS);
            System.arraycopy(other.every, 0, every, 0, MOST_ROUNDS);
            System.arraycopy(other.from, 0, from, 0, MOST_ROUNDS);
            gives.become(other.gives);
            wears.become(other.wears);
            pays.become(other.pays);
        }

        static int rowOf(long name, long[] names, int count) {
            for (int row = 0; row < count && row < names.length; row++) {
                if (names[row] == name) {
                    return row;
                }
            }
            return NONE;
        }

        boolean hasDoor(int door) {
            return door >= 0 && door < doors;
        }

        boolean hasCaller(int caller) {
            return caller >= 0 && caller < callers;
        }

        boolean hasBoth(int door, int caller) {
            return hasDoor(door) && hasCaller(caller);
        }

        boolean hasRound(int round) {
            return round >= 0 && round < rounds;
        }

        boolean isDue(int round, int day) {
            int behind = day - from[round];
            return every[round] > 0 && behind >= 0 && behind % every[round] == 0;
        }

        /** Whether a ROUND, if it is among those that are kept, is a LIFT on that day. */
        boolean comes(int round, int day, int kept) {
            return (kept >> round & 1) == 1 && isDue(round, day);
        }

        boolean hasWind(int windSeed, int day) {
            return lot(100, windSeed, 16 * day) < wind;
        }

        /** LOT n of a SEED and a which. */
        static int lot(int n, int windSeed, int which) {
            int h = mixed(mixed(windSeed, 151), which);
            return n > 0 ? (h >>> 1) % n : 0;
        }

        private static int mixed(int h, int number) {
            int product = (h ^ number) * 1103515245 + 12345;
            return product ^ product >>> 15;
        }

        /** How much two rows of PARTS differ, added. */
        static int difference(int[] faces, int row, int[] others, int otherRow) {
            int sum = 0;
            for (int part = 0; part < PARTS; part++) {
                int mine = PARTS * row + part;
                int theirs = PARTS * otherRow + part;
                if (mine >= 0 && mine < faces.length && theirs >= 0 && theirs < others.length) {
                    sum += Math.abs(faces[mine] - others[theirs]);
                }
            }
            return sum;
        }

        int unlikeTo(int[] parts, int caller) {
            return difference(parts, 0, looks, caller);
        }

        /** The CALLER by whom a face is KNOWN, or NOBODY. */
        int knownBy(int[] parts) {
            int best = NOBODY;
            int least = near;
            for (int caller = 0; caller < callers; caller++) {
                int far = unlikeTo(parts, caller);
                if (far < least || best == NOBODY && far == least) {
                    best = caller;
                    least = far;
                }
            }
            return best;
        }
    }

    /** A DOOR as it is, or as it would be. */
    private static final class Knocker {
        static final int CELLS = PARTS + 5;

        final int[] parts;
        int lifted;
        int idle;
        int rubbed;
        int money;
        boolean liftedToday;

        Knocker() {
            parts = new int[PARTS];
        }

        void begin(int[] faces, int row) {
            for (int part = 0; part < PARTS; part++) {
                int cell = PARTS * row + part;
                parts[part] = cell >= 0 && cell < faces.length ? faces[cell] : 0;
            }
            lifted = 0;
            idle = 0;
            rubbed = 0;
            money = 0;
            liftedToday = false;
        }

        void become(Knocker other) {
            System.arraycopy(other.parts, 0, parts, 0, PARTS);
            lifted = other.lifted;
            idle = other.idle;
            rubbed = other.rubbed;
            money = other.money;
            liftedToday = other.liftedToday;
        }

        void save(int[] cells, int start) {
            if (start < 0 || start > cells.length - CELLS) {
                return;
            }
            System.arraycopy(parts, 0, cells, start, PARTS);
            cells[start + PARTS] = lifted;
            cells[start + PARTS + 1] = idle;
            cells[start + PARTS + 2] = rubbed;
            cells[start + PARTS + 3] = money;
            cells[start + PARTS + 4] = liftedToday ? 1 : 0;
        }

        void load(int[] cells, int start) {
            if (start < 0 || start > cells.length - CELLS) {
                return;
            }
            System.arraycopy(cells, start, parts, 0, PARTS);
            lifted = cells[start + PARTS];
            idle = cells[start + PARTS + 1];
            rubbed = cells[start + PARTS + 2];
            money = cells[start + PARTS + 3];
            liftedToday = cells[start + PARTS + 4] == 1;
        }
    }

    /** All that goes on. */
    private static final class Street {
        static final int CELLS = MOST_DOORS * Knocker.CELLS + MOST_CALLERS + 2;

        final Knocker[] knockers;
        final int[] liftsBy;
        /** The ROUNDS that are kept, as bits. */
        int kept;
        int day;
        private final int[] faces;

        Street() {
            knockers = new Knocker[MOST_DOORS];
            for (int door = 0; door < MOST_DOORS; door++) {
                knockers[door] = new Knocker();
            }
            liftsBy = new int[MOST_CALLERS];
            faces = new int[PARTS * MOST_DOORS];
        }

        void begin(Town town) {
            for (int door = 0; door < MOST_DOORS; door++) {
                knockers[door].begin(town.first, door);
            }
            for (int caller = 0; caller < MOST_CALLERS; caller++) {
                liftsBy[caller] = 0;
            }
            kept = (1 << town.rounds) - 1;
            day = 0;
        }

        int offFirst(int door, Town town) {
            return Town.difference(knockers[door].parts, 0, town.first, door);
        }

        /** The faces of all DOORS, one row each. */
        int[] facesInRow() {
            for (int door = 0; door < MOST_DOORS; door++) {
                System.arraycopy(knockers[door].parts, 0, faces, PARTS * door, PARTS);
            }
            return faces;
        }

        void save(int[] cells, int start) {
            if (start < 0 || start > cells.length - CELLS) {
                return;
            }
            for (int door = 0; door < MOST_DOORS; door++) {
                knockers[door].save(cells, start + door * Knocker.CELLS);
            }
            int behind = start + MOST_DOORS * Knocker.CELLS;
            System.arraycopy(liftsBy, 0, cells, behind, MOST_CALLERS);
            cells[behind + MOST_CALLERS] = kept;
            cells[behind + MOST_CALLERS + 1] = day;
        }

        void load(int[] cells, int start) {
            if (start < 0 || start > cells.length - CELLS) {
                return;
            }
            for (int door = 0; door < MOST_DOORS; door++) {
                knockers[door].load(cells, start + door * Knocker.CELLS);
            }
            int behind = start + MOST_DOORS * Knocker.CELLS;
            System.arraycopy(cells, behind, liftsBy, 0, MOST_CALLERS);
            kept = cells[behind + MOST_CALLERS];
            day = cells[behind + MOST_CALLERS + 1];
        }
    }

    /** What was: the last things done, in a ring, and the SLOTS. */
    private static final class Memory {
        private static final int MOST_UNDONE = 40;
        private static final int SLOTS = 3;

        /** How many things can be undone. */
        int size;
        /** The SLOTS that hold something, as bits. */
        int slotsInUse;
        private int next;
        private final int[] ring;
        private final int[] shelf;

        Memory() {
            ring = new int[MOST_UNDONE * Street.CELLS];
            shelf = new int[SLOTS * Street.CELLS];
        }

        static boolean hasSlot(int slot) {
            return slot >= 0 && slot < SLOTS;
        }

        void forgetAll() {
            size = 0;
            slotsInUse = 0;
        }

        void remember(Street street) {
            street.save(ring, next * Street.CELLS);
            next = (next + 1) % MOST_UNDONE;
            size = Math.min(size + 1, MOST_UNDONE);
        }

        boolean takeBack(Street street) {
            if (size == 0) {
                return false;
            }
            next = (next + MOST_UNDONE - 1) % MOST_UNDONE;
            size--;
            street.load(ring, next * Street.CELLS);
            return true;
        }

        void putInSlot(int slot, Street street) {
            street.save(shelf, slot * Street.CELLS);
            slotsInUse |= 1 << slot;
        }

        boolean takeFromSlot(int slot, Street street) {
            if ((slotsInUse >> slot & 1) == 0) {
                return false;
            }
            street.load(shelf, slot * Street.CELLS);
            size = 0;
            return true;
        }
    }

    /** Moves a DOOR's face. No DOOR moves another one's, so each goes through its days by itself. */
    private static final class Mover {
        /** The VARs, in the order of the words. */
        private static final int APART = 0;
        private static final int PART = 1;
        private static final int LIFTS = 2;
        private static final int IDLE = 3;
        private static final int DAY = 4;
        private static final int FACE = 5;
        private static final int UNLIKE = 6;
        private static final int WHICH = 7;
        private static final int RUBBED = 8;

        private final Town town;
        private final int[] vars;
        private final int[] moves;

        Mover(Town town) {
            this.town = town;
            vars = new int[Tape.LAST_VAR - Tape.FIRST_VAR + 1];
            moves = new int[PARTS];
        }

        private void look(Knocker knocker, int which, int unlike, int day) {
            vars[LIFTS] = knocker.lifted;
            vars[IDLE] = knocker.idle;
            vars[RUBBED] = knocker.rubbed;
            vars[DAY] = day;
            vars[UNLIKE] = unlike;
            vars[WHICH] = which;
        }

        /** What PAYS tells. */
        int payOf(Knocker knocker, int caller, int day) {
            look(knocker, caller, town.unlikeTo(knocker.parts, caller), day);
            vars[APART] = 0;
            vars[PART] = 0;
            vars[FACE] = 0;
            return Math.max(0, Math.min(MOST_PAY, town.pays.worth(vars)));
        }

        /** What GIVES (goals: all CALLERS' faces) or WEARS (all FIRST faces) tells of a PART. */
        int stepOf(Law law, Knocker knocker, int[] goals, int which, int part, int day) {
            int apart = Math.abs(knocker.parts[part] - goals[PARTS * which + part]);
            if (apart == 0) {
                return 0;
            }
            look(knocker, which, Town.difference(knocker.parts, 0, goals, which), day);
            vars[APART] = apart;
            vars[PART] = part;
            vars[FACE] = knocker.parts[part];
            return Math.max(0, Math.min(apart, law.worth(vars)));
        }

        private void moveBy(Law law, Knocker knocker, int[] goals, int which, int day) {
            for (int part = 0; part < PARTS; part++) {
                int step = stepOf(law, knocker, goals, which, part, day);
                boolean up = knocker.parts[part] < goals[PARTS * which + part];
                moves[part] = up ? step : -step;
            }
            for (int part = 0; part < PARTS; part++) {
                knocker.parts[part] += moves[part];
            }
        }

        void liftBy(Knocker knocker, int caller, int day) {
            int pay = payOf(knocker, caller, day);
            knocker.money = Math.min(MOST_MONEY, knocker.money + pay);
            moveBy(town.gives, knocker, town.looks, caller, day);
            knocker.lifted++;
            knocker.liftedToday = true;
        }

        void rub(Knocker knocker, int door) {
            for (int part = 0; part < PARTS; part++) {
                int off = town.first[PARTS * door + part] - knocker.parts[part];
                knocker.parts[part] += off / 2;
            }
            knocker.rubbed++;
        }

        /** A DAY of one DOOR; windSeed NONE: there is no WIND. */
        void passDay(Knocker knocker, int door, int day, int kept, int windSeed) {
            for (int round = 0; round < town.rounds; round++) {
                if (town.roundDoor[round] == door && town.comes(round, day, kept)) {
                    liftBy(knocker, town.roundCaller[round], day);
                }
            }
            if (windSeed != NONE && town.hasWind(windSeed, day)) {
                int part = Town.lot(PARTS, windSeed, 16 * day + 1 + door);
                knocker.parts[part] = Math.max(0, knocker.parts[part] - 1);
            }
            moveBy(town.wears, knocker, town.first, door, day);
            knocker.idle = knocker.liftedToday ? 0 : Math.min(MOST_IDLE, knocker.idle + 1);
            knocker.liftedToday = false;
        }
    }

    /** What would be: a DOOR is tried out on a copy, so that nothing happens. */
    private static final class Ahead {
        /** LIFTS are looked for in a tree of so many levels below its root. */
        static final int MOST_LEVELS = 4;
        /** Nodes that have others below them: 1 + 5 + 25 + 125. */
        private static final int MOST_INNER_NODES = 156;
        private static final int MOST_ALONE = 60;

        private final Town town;
        private final Street street;
        private final Mover mover;
        private final Knocker trial;
        private final int[] tree;

        Ahead(Town town, Street street, Mover mover) {
            this.town = town;
            this.street = street;
            this.mover = mover;
            trial = new Knocker();
            tree = new int[PARTS * MOST_INNER_NODES];
        }

        /** A DOOR in n DAYS, if those ROUNDS are kept; windSeed NONE: without WIND. */
        Knocker after(int door, int n, int kept, int windSeed) {
            trial.become(street.knockers[door]);
            for (int i = 0; i < n; i++) {
                mover.passDay(trial, door, street.day + i, kept, windSeed);
            }
            return trial;
        }

        /** Behind how many DAYS a DOOR is first KNOWN by that one (or, if not so, by another one). */
        int firstDay(int door, int who, boolean so) {
            trial.become(street.knockers[door]);
            for (int n = 0; n <= MOST_DAYS; n++) {
                if ((town.knownBy(trial.parts) == who) == so) {
                    return n;
                }
                mover.passDay(trial, door, street.day + n, street.kept, NONE);
            }
            return NOBODY;
        }

        int rubsToChange(int door) {
            trial.become(street.knockers[door]);
            int now = town.knownBy(trial.parts);
            for (int n = 1; n <= MOST_RUBS && now != NOBODY; n++) {
                mover.rub(trial, door);
                if (town.knownBy(trial.parts) != now) {
                    return n;
                }
            }
            return NOBODY;
        }

        int liftsAlone(int door, int caller) {
            trial.become(street.knockers[door]);
            for (int n = 0; n <= MOST_ALONE; n++) {
                if (town.knownBy(trial.parts) == caller) {
                    return n;
                }
                mover.liftBy(trial, caller, street.day);
            }
            return NOBODY;
        }

        int unlikeBehindLift(int door, int by, int caller) {
            trial.become(street.knockers[door]);
            mover.liftBy(trial, by, street.day);
            return town.unlikeTo(trial.parts, caller);
        }

        /**
         * The node behind whose LIFTS a DOOR is KNOWN by a CALLER, or NOBODY. Node 0 is the DOOR now;
         * the LIFT by caller c of node i leads to node i * callers + c + 1. So the nodes' order is
         * that of fewest LIFTS, then of the lowest CALLER first, and the first that is found is due.
         */
        int nodeKnownBy(int door, int caller) {
            int callers = town.callers;
            trial.become(street.knockers[door]);
            if (callers < 1 || town.knownBy(trial.parts) == caller) {
                return callers < 1 ? NOBODY : 0;
            }
            System.arraycopy(trial.parts, 0, tree, 0, PARTS);
            int nodes = nodesAbove(MOST_LEVELS + 1);
            for (int node = 1; node < nodes; node++) {
                int above = (node - 1) / callers;
                System.arraycopy(tree, PARTS * above, trial.parts, 0, PARTS);
                trial.lifted = street.knockers[door].lifted + levelOf(above);
                mover.liftBy(trial, (node - 1) % callers, street.day);
                if (town.knownBy(trial.parts) == caller) {
                    return node;
                }
                if (PARTS * node < tree.length) {
                    System.arraycopy(trial.parts, 0, tree, PARTS * node, PARTS);
                }
            }
            return NOBODY;
        }

        private int nodesAbove(int level) {
            int nodes = 0;
            int wide = 1;
            for (int i = 0; i < level; i++) {
                nodes += wide;
                wide *= town.callers;
            }
            return nodes;
        }

        int levelOf(int node) {
            int level = 0;
            int at = node;
            while (at > 0 && level < MOST_LEVELS && town.callers > 0) {
                at = (at - 1) / town.callers;
                level++;
            }
            return level;
        }

        /** The CALLER of the i-th LIFT on the way to a node, or NONE. */
        int callerOnPath(int node, int i) {
            int ups = levelOf(node) - 1 - i;
            if (ups < 0 || town.callers < 1) {
                return NONE;
            }
            int at = node;
            for (int up = 0; up < ups; up++) {
                at = (at - 1) / town.callers;
            }
            return at > 0 ? (at - 1) % town.callers : NONE;
        }
    }

    /** DOORS and CALLERS, paired best. */
    private static final class Pairs {
        private static final int SETS = 1 << MOST_CALLERS;
        /** More than all UNLIKE, added: a pair more is worth any sum. */
        private static final int LEFT_OUT = 10000;

        private final Town town;
        private final Street street;
        /** Of the DOORS from one on, and the set of CALLERS that are taken: the least sum. */
        private final int[] least;

        Pairs(Town town, Street street) {
            this.town = town;
            this.street = street;
            least = new int[(MOST_DOORS + 1) * SETS];
        }

        void findBest() {
            for (int taken = 0; taken < SETS; taken++) {
                least[town.doors * SETS + taken] = 0;
            }
            for (int door = town.doors - 1; door >= 0; door--) {
                for (int taken = 0; taken < SETS; taken++) {
                    least[door * SETS + taken] = leastFrom(door, taken);
                }
            }
        }

        private int leastFrom(int door, int taken) {
            int best = sumWith(door, taken, NOBODY);
            for (int caller = 0; caller < town.callers; caller++) {
                if ((taken >> caller & 1) == 0) {
                    best = Math.min(best, sumWith(door, taken, caller));
                }
            }
            return best;
        }

        private int sumWith(int door, int taken, int caller) {
            int next = (door + 1) * SETS;
            if (caller < 0) {
                return LEFT_OUT + least[next + taken];
            }
            int far = town.unlikeTo(street.knockers[door].parts, caller);
            return far + least[next + (taken | 1 << caller)];
        }

        int leastSum() {
            return least[0] % LEFT_OUT;
        }

        int partnerOf(int wanted) {
            int taken = 0;
            int partner = NOBODY;
            for (int door = 0; door <= wanted && door < town.doors; door++) {
                partner = partnerAmongFree(door, taken);
                taken |= partner < 0 ? 0 : 1 << partner;
            }
            return partner;
        }

        private int partnerAmongFree(int door, int taken) {
            for (int caller = 0; caller < town.callers; caller++) {
                boolean free = (taken >> caller & 1) == 0;
                if (free && sumWith(door, taken, caller) == least[door * SETS + taken]) {
                    return caller;
                }
            }
            return NOBODY;
        }
    }

    /** What is TOLD of a CALLER unknown, looked at as LIFTS would be now. */
    private static final class Told {
        int size;
        private final Town town;
        private final Street street;
        private final Mover mover;
        private final int[] doors;
        private final int[] parts;
        private final int[] ways;
        private final int[] tally;

        Told(Town town, Street street, Mover mover) {
            this.town = town;
            this.street = street;
            this.mover = mover;
            doors = new int[MOST_TOLD];
            parts = new int[MOST_TOLD];
            ways = new int[MOST_TOLD];
            tally = new int[3];
        }

        int note(int door, int part, int way) {
            if (size < 0 || size >= MOST_TOLD) {
                return NONE;
            }
            doors[size] = door;
            parts[size] = part;
            ways[size] = way;
            size++;
            return size - 1;
        }

        /** Whether a LIFT now makes a PART less, as it is, or more: -1, 0, 1. */
        private int wayOf(int door, int part, int caller) {
            Knocker knocker = street.knockers[door];
            if (mover.stepOf(town.gives, knocker, town.looks, caller, part, street.day) == 0) {
                return 0;
            }
            return knocker.parts[part] < town.looks[PARTS * caller + part] ? 1 : -1;
        }

        /** The CALLERS, as bits, of whom the first k are so. */
        int suspects(int k) {
            int bits = 0;
            for (int caller = 0; caller < town.callers; caller++) {
                boolean fits = true;
                for (int i = 0; i < k && i < size && fits; i++) {
                    fits = wayOf(doors[i], parts[i], caller) == ways[i];
                }
                bits |= fits ? 1 << caller : 0;
            }
            return bits;
        }

        int bestQuestion(int k) {
            int left = suspects(k);
            int best = NOBODY;
            int fewest = MOST_CALLERS + 1;
            for (int door = 0; door < town.doors && left != 0; door++) {
                for (int part = 0; part < PARTS; part++) {
                    int worst = mostLeft(door, part, left);
                    if (worst < fewest) {
                        best = 10 * door + part;
                        fewest = worst;
                    }
                }
            }
            return best;
        }

        /** How many are left at worst, once it is told which way a PART goes. */
        private int mostLeft(int door, int part, int left) {
            tally[0] = 0;
            tally[1] = 0;
            tally[2] = 0;
            for (int caller = 0; caller < town.callers; caller++) {
                if ((left >> caller & 1) == 1) {
                    tally[wayOf(door, part, caller) + 1]++;
                }
            }
            return Math.max(tally[0], Math.max(tally[1], tally[2]));
        }
    }
}
