/**
 * Two cards on a salver: people who keep codes told as texts, and their quarrels hour by hour.
 * The document that this class follows is ../shared/DOC.md; the words in capitals there are the
 * words of the comments here.
 *
 * <p>All rows are made in constructors and used again: no call makes an object.
 */
public final class TwoCards {
    /** None. */
    public static final int NONE = -1;

    private static final int NEVER = -2;

    private static final int MOST_PEOPLE = 12;
    private static final int MOST_CODES = 6;
    private static final int MOST_QUARRELS = 24;
    private static final int MOST_IMAGES = 4;
    private static final int MOST_BYTES = 400;
    private static final int MOST_CLAUSES = 14;
    private static final int MOST_MENDED = 6;
    private static final int MOST_OWED = 15;
    private static final int MOST_HOURS = 8;
    private static final int MOST_DONE = MOST_HOURS + 1;

    /** Sorts of CLAUSES, in the order of their words in the reader's list. */
    private static final int SLIGHT = 0;
    private static final int TAKE_BACK = 1;
    private static final int MAY_REFUSE = 2;
    private static final int ASK_FROM = 3;
    private static final int HOURS_AT_FIRST = 4;
    private static final int MUST_FROM = 5;

    /** KINDS of slights, and as many MEANS of taking back. */
    private static final int KINDS = 4;

    private static final int BY_MEANS = 4;
    private static final int ASK = 8;
    private static final int REFUSE = 9;
    private static final int WAIT = 10;
    private static final int MOVES = 11;

    private static final int PEACE = 1;
    private static final int FIELD = 2;
    private static final int REFUSED = 3;
    private static final int LET_LIE = 4;
    private static final int OUTCOMES = 20;
    private static final int FIELD_OUTCOME = 4 * FIELD;

    /** How many STATES that go on there are for one AFFAIR: HOURS left, asked or not, what is owed. */
    private static final int SPOTS = 4096;

    private final Tape tape = new Tape();
    private final Code[] codes = new Code[MOST_CODES];
    private final Code blank = new Code();
    private final Reader reader = new Reader();
    private final Book book = new Book();
    private final Book[] images = new Book[MOST_IMAGES];
    private final Sight sight = new Sight();
    private final Affair affair = new Affair();
    private final Game play = new Game();
    private final Walk walk = new Walk();
    private int codeCount;

    public TwoCards() {
        for (int i = 0; i < MOST_CODES; i++) {
            codes[i] = new Code();
        }
        for (int i = 0; i < MOST_IMAGES; i++) {
            images[i] = new Book();
        }
    }

    public int person(int age, int rank, int house) {
        if (!isWithin(age, 0, 99) || !isWithin(rank, 0, 9) || !isWithin(house, 0, 9)) {
            return NONE;
        }
        return book.addPerson(age, rank, house);
    }

    public boolean debt(int person, int other, boolean is) {
        if (!areTwo(person, other) || book.isOwing(person, other) == is) {
            return false;
        }
        book.setOwing(person, other, is);
        return true;
    }

    public int feed(int a, int b, int c, int d, int e) {
        if (tape.length + 20 > MOST_BYTES) {
            return NONE;
        }
        tape.add(a);
        tape.add(b);
        tape.add(c);
        tape.add(d);
        tape.add(e);
        return tape.length;
    }

    public int end(int n) {
        if (!isWithin(n, 0, tape.length)) {
            return NONE;
        }
        tape.length = n;
        return n;
    }

    public int code() {
        if (codeCount >= MOST_CODES) {
            return NONE;
        }
        int fault = reader.read(tape, codes[codeCount]);
        tape.length = 0;
        if (fault != 0) {
            return -2 - fault;
        }
        codeCount++;
        return codeCount - 1;
    }

    public boolean keeps(int person, int code) {
        if (!book.hasPerson(person) || code != NONE && !hasCode(code)) {
            return false;
        }
        book.setCode(person, code);
        return true;
    }

    public int told(int code, int what) {
        if (!hasCode(code)) {
            return NONE;
        }
        Code it = codeAt(code);
        switch (what) {
            case 0: return it.ask;
            case 1: return it.hours;
            case 2: return it.must;
            case 3: return it.clauses;
            default: return NONE;
        }
    }

    public int weighs(int code, int person, int other, int ladies, int owed, int mine, int gone, int what) {
        if (!hasCode(code) || !areTwo(person, other) || !isWithin(ladies, 0, 9)) {
            return NONE;
        }
        if (!isWithin(owed, 0, MOST_OWED) || !isWithin(mine, 0, MOST_OWED) || !isWithin(gone, 0, MOST_HOURS)) {
            return NONE;
        }
        sight.turnTo(book, person, other, ladies);
        sight.setHour(owed, mine, gone);
        if (isWithin(what, 0, 2 * KINDS - 1)) {
            return codeAt(code).weight(what, sight);
        }
        if (what == 2 * KINDS) {
            return codeAt(code).letsRefuse(sight) ? 1 : 0;
        }
        return NONE;
    }

    public int quarrel(int first, int second, int ladies, int kind) {
        if (!areTwo(first, second) || !isWithin(ladies, 0, 9) || !isWithin(kind, 0, KINDS - 1)) {
            return NONE;
        }
        if (!hasCode(book.codeOf(first)) || !hasCode(book.codeOf(second))) {
            return NONE;
        }
        int number = book.addQuarrel(first, second, ladies);
        Quarrel it = book.quarrelAt(number);
        if (it == null) {
            return NONE;
        }
        study(it);
        it.add(kind, affair.open(kind, true));
        return number;
    }

    public int state(int quarrel, int what) {
        Quarrel it = book.quarrelAt(quarrel);
        if (it == null) {
            return NONE;
        }
        int now = it.now();
        switch (what) {
            case 0: return State.ending(now);
            case 1: return State.less(now);
            case 2: return State.owed(now, 0);
            case 3: return State.owed(now, 1);
            case 4: return State.ending(now) == 0 ? State.turn(now) : NONE;
            case 5: return State.asked(now) - 1;
            case 6: return State.left(now);
            case 7: return it.done;
            default: return NONE;
        }
    }

    public int may(int quarrel) {
        Quarrel it = book.quarrelAt(quarrel);
        if (it == null) {
            return NONE;
        }
        study(it);
        int now = it.now();
        int bits = 0;
        for (int move = 0; move < MOVES; move++) {
            if (affair.allows(now, move)) {
                bits |= 1 << move;
            }
        }
        return bits;
    }

    public int move(int quarrel, int move) {
        Quarrel it = book.quarrelAt(quarrel);
        if (it == null) {
            return NONE;
        }
        study(it);
        int now = it.now();
        if (!affair.allows(now, move)) {
            return NONE;
        }
        it.add(move, affair.after(now, move, true));
        return State.ending(it.now());
    }

    public int history(int quarrel, int k) {
        Quarrel it = book.quarrelAt(quarrel);
        if (it == null) {
            return NONE;
        }
        return it.moveAt(k);
    }

    public int ends(int quarrel) {
        Quarrel it = book.quarrelAt(quarrel);
        if (it == null) {
            return NONE;
        }
        study(it);
        walk.go(affair, it.now());
        return walk.outcomes();
    }

    public long ways(int quarrel, int outcome) {
        Quarrel it = book.quarrelAt(quarrel);
        if (it == null || !isWithin(outcome, 0, OUTCOMES - 1)) {
            return NONE;
        }
        study(it);
        walk.go(affair, it.now());
        return walk.waysTo(outcome);
    }

    public int brief(int quarrel, int outcome, int k) {
        Quarrel it = book.quarrelAt(quarrel);
        if (it == null || !isWithin(outcome, 0, OUTCOMES - 1) || k < NONE) {
            return NONE;
        }
        study(it);
        walk.go(affair, it.now());
        if (walk.waysTo(outcome) == 0) {
            return NEVER;
        }
        int fewest = walk.fewestTo(outcome);
        if (k == NONE) {
            return fewest;
        }
        return k < fewest ? walk.moveTo(outcome, fewest - 1 - k) : NONE;
    }

    public int must(int quarrel) {
        Quarrel it = book.quarrelAt(quarrel);
        if (it == null) {
            return NONE;
        }
        return mustMeet(it.now()) ? 1 : 0;
    }

    public int late(int quarrel) {
        Quarrel it = book.quarrelAt(quarrel);
        if (it == null) {
            return NONE;
        }
        for (int i = 0; i < it.done; i++) {
            if (mustMeet(it.stateAt(i))) {
                return i + 1;
            }
        }
        return NEVER;
    }

    public int game(int quarrel, int what) {
        Quarrel it = book.quarrelAt(quarrel);
        if (it == null || !isWithin(what, 0, 1)) {
            return NONE;
        }
        study(it);
        int now = it.now();
        play.begin();
        if (what == 0) {
            return play.outcomeFrom(affair, now);
        }
        return State.ending(now) == 0 ? play.moveFrom(affair, now) : NONE;
    }

    public int otherwise(int quarrel, int k, int move) {
        Quarrel it = book.quarrelAt(quarrel);
        if (it == null || k < 1 || k >= it.done || !isWithin(move, 0, MOVES - 1)) {
            return NONE;
        }
        study(it);
        int then = it.stateAt(k - 1);
        if (!affair.allows(then, move)) {
            return NEVER;
        }
        int state = affair.after(then, move, true);
        for (int i = k + 1; i < it.done && affair.allows(state, it.moveAt(i)); i++) {
            state = affair.after(state, it.moveAt(i), true);
        }
        play.begin();
        return play.outcomeFrom(affair, state);
    }

    public int doubt(int quarrel, int unsure) {
        Quarrel it = book.quarrelAt(quarrel);
        if (it == null || !isWithin(unsure, 0, (1 << it.done) - 1)) {
            return NONE;
        }
        study(it);
        play.begin();
        int open = unsure & it.spoken();
        int bits = 0;
        for (int unheard = 0; unheard <= open; unheard++) {
            if ((unheard & ~open) == 0) {
                bits |= 1 << play.outcomeFrom(affair, affair.heard(it, unheard));
            }
        }
        return bits;
    }

    public int hangs(int quarrel) {
        Quarrel it = book.quarrelAt(quarrel);
        if (it == null) {
            return NONE;
        }
        study(it);
        play.begin();
        int allHeard = play.outcomeFrom(affair, affair.heard(it, 0));
        int spoken = it.spoken();
        int bits = 0;
        for (int i = 0; i < it.done; i++) {
            int unheard = spoken & 1 << i;
            if (unheard != 0 && play.outcomeFrom(affair, affair.heard(it, unheard)) != allHeard) {
                bits |= unheard;
            }
        }
        return bits;
    }

    public int thinks(int quarrel, int who, int what) {
        Quarrel it = book.quarrelAt(quarrel);
        if (it == null || !isWithin(who, 0, 1) || !isWithin(what, 0, 1)) {
            return NONE;
        }
        study(it);
        return State.owed(affair.reckoned(it, who), what);
    }

    public int waits(int quarrel) {
        Quarrel it = book.quarrelAt(quarrel);
        if (it == null) {
            return NONE;
        }
        return book.waitedFor(quarrel);
    }

    public int ring(int quarrel) {
        Quarrel it = book.quarrelAt(quarrel);
        if (it == null) {
            return NONE;
        }
        return book.isInRing(quarrel) ? 1 : 0;
    }

    public int first(int person) {
        if (!book.hasPerson(person)) {
            return NONE;
        }
        return book.takenFirst(person);
    }

    public int harsh(int code, int first, int second, int ladies) {
        if (!hasCode(code) || !areTwo(first, second) || !isWithin(ladies, 0, 9)) {
            return NONE;
        }
        affair.set(book, first, second, ladies, codeAt(code), codeAt(code));
        play.begin();
        int bits = 0;
        for (int kind = 0; kind < KINDS; kind++) {
            if (play.outcomeFrom(affair, affair.open(kind, true)) == FIELD_OUTCOME) {
                bits |= 1 << kind;
            }
        }
        return bits;
    }

    public int mend(int code, int first, int second, int ladies, int kind) {
        if (!hasCode(code) || !areTwo(first, second) || !isWithin(ladies, 0, 9) || !isWithin(kind, 0, KINDS - 1)) {
            return NONE;
        }
        Code it = codeAt(code);
        affair.set(book, first, second, ladies, it, it);
        int sets = 1 << it.countOfBacks(MOST_MENDED);
        for (int size = 0; size <= MOST_MENDED; size++) {
            for (int set = 0; set < sets; set++) {
                if (Integer.bitCount(set) == size) {
                    affair.raised = it.backClauses(set);
                    play.begin();
                    if (play.outcomeFrom(affair, affair.open(kind, true)) != FIELD_OUTCOME) {
                        return set;
                    }
                }
            }
        }
        return NEVER;
    }

    public int image(int k) {
        if (!isWithin(k, 0, MOST_IMAGES - 1)) {
            return NONE;
        }
        images[k].copy(book);
        images[k].isMade = true;
        return book.quarrelCount;
    }

    public int back(int k) {
        if (!isWithin(k, 0, MOST_IMAGES - 1) || !images[k].isMade) {
            return NONE;
        }
        book.copy(images[k]);
        return book.quarrelCount;
    }

    public int count(int what) {
        switch (what) {
            case 0: return book.peopleCount;
            case 1: return codeCount;
            case 2: return book.quarrelCount;
            case 3: return book.goingOn();
            case 4: return tape.length;
            default: return NONE;
        }
    }

    private static boolean isWithin(int number, int least, int most) {
        return number >= least && number <= most;
    }

    private boolean areTwo(int person, int other) {
        return person != other && book.hasPerson(person) && book.hasPerson(other);
    }

    private boolean hasCode(int code) {
        return code >= 0 && code < codeCount;
    }

    private Code codeAt(int code) {
        return code >= 0 && code < MOST_CODES ? codes[code] : blank;
    }

    /** Debts change, so an affair is looked at anew for every call. */
    private void study(Quarrel it) {
        affair.set(book, it.first, it.second, it.ladies, codeAt(it.firstCode), codeAt(it.secondCode));
    }

    /**
     * A quarrel that goes on can always end elsewhere: who is asked may refuse, and where nobody has
     * asked both may wait till no hour is left. So it must come to the field only where it is there.
     */
    private static boolean mustMeet(int state) {
        return State.ending(state) == FIELD;
    }

    /** The bytes that are told before they are a code. */
    private static final class Tape {
        /** What byteAt answers behind the last byte. */
        static final int END = -1;

        private final int[] bytes = new int[MOST_BYTES];
        int length;

        void add(int number) {
            for (int shift = 24; shift >= 0 && length < MOST_BYTES; shift -= 8) {
                bytes[length] = number >> shift & 255;
                length++;
            }
        }

        int byteAt(int place) {
            return place >= 0 && place < length && place < MOST_BYTES ? bytes[place] : END;
        }
    }

    /** What the words of a test stand for: of him, of the other one, of the hour. */
    private static final class Sight {
        private static final int WORDS = 10;

        private final int[] values = new int[WORDS];

        void turnTo(Book book, int him, int other, int ladies) {
            values[0] = book.ageOf(him);
            values[1] = book.rankOf(him);
            values[2] = book.ageOf(other);
            values[3] = book.rankOf(other);
            values[4] = book.houseOf(him) == book.houseOf(other) ? 1 : 0;
            values[5] = book.isOwing(him, other) ? 1 : 0;
            values[6] = ladies;
        }

        void setHour(int owed, int mine, int gone) {
            values[7] = owed;
            values[8] = mine;
            values[9] = gone;
        }

        int valueOf(int word) {
            return word >= 0 && word < WORDS ? values[word] : 0;
        }
    }

    /** A code that was read: its clauses, and their tests as steps that work on a stack. */
    private static final class Code {
        /** A step below this pushes the number that it is. */
        static final int WORD = 10000;
        /** A step from WORD up to here pushes what a word stands for; from here on it is a sign. */
        static final int SIGN = 20000;
        static final int PLUS = SIGN;
        static final int MINUS = SIGN + 1;
        static final int BELOW = SIGN + 2;
        static final int AT_MOST = SIGN + 3;
        static final int EQUAL = SIGN + 4;
        static final int AT_LEAST = SIGN + 5;
        static final int ABOVE = SIGN + 6;
        static final int NOT = SIGN + 7;
        static final int AND = SIGN + 8;
        static final int OR = SIGN + 9;

        /** No text of 400 bytes has so many signs and words in its tests. */
        private static final int MOST_STEPS = 256;
        /** Ten brackets deep, two sides of or, and, of a sum each: far below this. */
        private static final int MOST_STACKED = 64;

        private final int[] sorts = new int[MOST_CLAUSES];
        private final int[] kinds = new int[MOST_CLAUSES];
        private final int[] numbers = new int[MOST_CLAUSES];
        private final int[] starts = new int[MOST_CLAUSES];
        private final int[] stops = new int[MOST_CLAUSES];
        private final int[] steps = new int[MOST_STEPS];
        private final int[] stack = new int[MOST_STACKED];
        private int stepCount;
        int clauses;
        int ask = 1;
        int hours = 6;
        int must = 1;

        void clear() {
            stepCount = 0;
            clauses = 0;
            ask = 1;
            hours = 6;
            must = 1;
        }

        /** A clause without a test yet: the steps told next are its test. */
        void addClause(int sort, int kind, int number) {
            if (clauses < MOST_CLAUSES) {
                sorts[clauses] = sort;
                kinds[clauses] = kind;
                numbers[clauses] = number;
                starts[clauses] = stepCount;
                stops[clauses] = stepCount;
                clauses++;
            }
        }

        void addStep(int step) {
            if (stepCount < MOST_STEPS && clauses > 0 && clauses <= MOST_CLAUSES) {
                steps[stepCount] = step;
                stepCount++;
                stops[clauses - 1] = stepCount;
            }
        }

        void setMeasure(int sort, int number) {
            switch (sort) {
                case ASK_FROM: ask = number; break;
                case HOURS_AT_FIRST: hours = number; break;
                case MUST_FROM: must = number; break;
                default: break;
            }
        }

        boolean has(int sort) {
            for (int i = 0; i < clauses && i < MOST_CLAUSES; i++) {
                if (sorts[i] == sort) {
                    return true;
                }
            }
            return false;
        }

        int numberOf(int clause) {
            return clause >= 0 && clause < MOST_CLAUSES ? numbers[clause] : 0;
        }

        /** DEGREE of a kind (0 to 3), or TAKES of a means (4 to 7). */
        int weight(int what, Sight sight) {
            for (int i = 0; i < clauses && i < MOST_CLAUSES; i++) {
                if (slotOf(i) == what && holds(i, sight)) {
                    return numbers[i];
                }
            }
            return 0;
        }

        /** For each kind and means four bits: 1 more than the clause that weighs it, 0 without. */
        int weighing(Sight sight) {
            int bits = 0;
            for (int i = 0; i < clauses && i < MOST_CLAUSES; i++) {
                int shift = 4 * slotOf(i);
                if (shift < 32 && (bits >> shift & 15) == 0 && holds(i, sight)) {
                    bits |= i + 1 << shift;
                }
            }
            return bits;
        }

        boolean letsRefuse(Sight sight) {
            for (int i = 0; i < clauses && i < MOST_CLAUSES; i++) {
                if (sorts[i] == MAY_REFUSE && holds(i, sight)) {
                    return true;
                }
            }
            return false;
        }

        /** How many back clauses there are, as far as they count. */
        int countOfBacks(int most) {
            int found = 0;
            for (int i = 0; i < clauses && i < MOST_CLAUSES; i++) {
                if (sorts[i] == TAKE_BACK && found < most) {
                    found++;
                }
            }
            return found;
        }

        /** From bits of back clauses to bits of clauses. */
        int backClauses(int backs) {
            int bits = 0;
            int back = 0;
            for (int i = 0; i < clauses && i < MOST_CLAUSES; i++) {
                if (sorts[i] == TAKE_BACK) {
                    bits |= (backs >> back & 1) << i;
                    back++;
                }
            }
            return bits;
        }

        /** The move that a clause weighs; 8 if it weighs none. */
        private int slotOf(int clause) {
            int sort = sorts[clause];
            return sort == SLIGHT || sort == TAKE_BACK ? sort * KINDS + kinds[clause] : 2 * KINDS;
        }

        private boolean holds(int clause, Sight sight) {
            int height = 0;
            for (int i = starts[clause]; i < stops[clause] && i < MOST_STEPS; i++) {
                int step = steps[i];
                if (step < SIGN) {
                    if (height < MOST_STACKED) {
                        stack[height] = step < WORD ? step : sight.valueOf(step - WORD);
                        height++;
                    }
                } else if (step == NOT && height >= 1) {
                    stack[height - 1] = 1 - stack[height - 1];
                } else if (height >= 2) {
                    height--;
                    stack[height - 1] = joined(step, stack[height - 1], stack[height]);
                }
            }
            return height == 0 || stack[0] != 0;
        }

        private static int joined(int step, int left, int right) {
            switch (step) {
                case PLUS: return left + right;
                case MINUS: return left - right;
                case BELOW: return left < right ? 1 : 0;
                case AT_MOST: return left <= right ? 1 : 0;
                case EQUAL: return left == right ? 1 : 0;
                case AT_LEAST: return left >= right ? 1 : 0;
                case ABOVE: return left > right ? 1 : 0;
                case AND: return left & right;
                case OR: return left | right;
                default: return 0;
            }
        }
    }

    /** The words, numbers and signs of a tape, and where each stands; END behind them. */
    private static final class Tokens {
        /** A word is the number of its place here. */
        private static final String WORDS =
            "slight back refuse ask hours must look word lie blow bow sorry letter public if or and not age rank hisage hisrank kin owes ladies owed mine gone ";
        static final int CLAUSE_WORD = 0;
        static final int KIND_WORD = 6;
        static final int MEANS_WORD = 10;
        static final int IF = 14;
        static final int OR = 15;
        static final int AND = 16;
        static final int NOT = 17;
        static final int FACT_WORD = 18;
        static final int BEHIND_WORDS = 28;

        static final int NUMBER = 30;
        static final int END = 31;
        /** A byte or word that can stand nowhere. */
        static final int WRONG = 32;
        /** A sign is this and its byte; of two bytes it is this twice and the first. */
        static final int SIGN = 256;

        /** A NUMBER of more digits than it may have. */
        static final int TOO_LONG = -1;

        private static final int MOST_DIGITS = 4;

        private final int[] kinds = new int[MOST_BYTES + 1];
        private final int[] places = new int[MOST_BYTES + 1];
        private final int[] numbers = new int[MOST_BYTES + 1];
        private int size;

        void take(Tape tape) {
            size = 0;
            int at = 0;
            for (int i = 0; i < MOST_BYTES && at < tape.length; i++) {
                int sign = tape.byteAt(at);
                if (sign == ' ') {
                    at++;
                } else if (isLetter(sign)) {
                    int stop = wordEnd(tape, at);
                    add(wordOf(tape, at, stop), at, 0);
                    at = stop;
                } else if (isDigit(sign)) {
                    int stop = numberEnd(tape, at);
                    add(NUMBER, at, numberOf(tape, at, stop));
                    at = stop;
                } else {
                    int kind = signOf(sign, tape.byteAt(at + 1));
                    add(kind, at, 0);
                    at += kind >= 2 * SIGN ? 2 : 1;
                }
            }
            add(END, tape.length, 0);
        }

        int kindAt(int i) {
            return i >= 0 && i < size && i <= MOST_BYTES ? kinds[i] : END;
        }

        int placeAt(int i) {
            return i >= 0 && i < size && i <= MOST_BYTES ? places[i] : 0;
        }

        int numberAt(int i) {
            return i >= 0 && i < size && i <= MOST_BYTES ? numbers[i] : TOO_LONG;
        }

        private void add(int kind, int place, int number) {
            if (size >= 0 && size <= MOST_BYTES) {
                kinds[size] = kind;
                places[size] = place;
                numbers[size] = number;
                size++;
            }
        }

        private static int wordEnd(Tape tape, int start) {
            int stop = start;
            while (stop < MOST_BYTES && isLetter(tape.byteAt(stop))) {
                stop++;
            }
            return stop;
        }

        private static int numberEnd(Tape tape, int start) {
            int stop = start;
            while (stop < MOST_BYTES && isDigit(tape.byteAt(stop))) {
                stop++;
            }
            return stop;
        }

        private static int wordOf(Tape tape, int start, int stop) {
            int word = 0;
            int alike = 0;
            for (int i = 0; i < WORDS.length(); i++) {
                char sign = WORDS.charAt(i);
                if (sign == ' ') {
                    if (alike == stop - start) {
                        return word;
                    }
                    word++;
                    alike = 0;
                } else if (alike >= 0) {
                    // Behind the word's end stands no letter, so a longer word of the list is unlike.
                    alike = tape.byteAt(start + alike) == sign ? alike + 1 : -1;
                }
            }
            return WRONG;
        }

        private static int numberOf(Tape tape, int start, int stop) {
            if (stop - start > MOST_DIGITS) {
                return TOO_LONG;
            }
            int number = 0;
            for (int i = start; i < stop; i++) {
                number = number * 10 + tape.byteAt(i) - '0';
            }
            return number;
        }

        private static int signOf(int sign, int next) {
            switch (sign) {
                case '<':
                case '>': return next == '=' ? 2 * SIGN + sign : SIGN + sign;
                case ';':
                case '[':
                case ']':
                case '+':
                case '-':
                case '=': return SIGN + sign;
                default: return WRONG;
            }
        }

        private static boolean isLetter(int sign) {
            return sign >= 'a' && sign <= 'z';
        }

        private static boolean isDigit(int sign) {
            return sign >= '0' && sign <= '9';
        }
    }

    /** Reads a tape as a code, from left to right; the first fault ends it. */
    private static final class Reader {
        private static final int WRONG = 0;
        private static final int WRONG_NUMBER = 1;
        private static final int TOO_DEEP = 2;
        private static final int TOO_MANY = 3;
        private static final int WRONG_CLAUSE = 4;

        private static final int MOST_DEEP = 10;
        private static final int MOST_PARTS = 50;

        private final Tokens tokens = new Tokens();
        private Code code = new Code();
        private int at;
        private int parts;
        private int fault;
        /** Whether a test is due behind the head of the clause that was read last. */
        private boolean isTested;

        /** The FAULT; 0 without. */
        int read(Tape tape, Code into) {
            tokens.take(tape);
            code = into;
            code.clear();
            at = 0;
            parts = 0;
            fault = 0;
            for (int i = 0; i <= MOST_CLAUSES; i++) {
                if (!readHead() || isTested && !readTest(0)) {
                    return fault;
                }
                if (tokens.kindAt(at) == Tokens.END) {
                    return 0;
                }
                if (!takes(Tokens.SIGN + ';')) {
                    fail(WRONG);
                    return fault;
                }
            }
            return fault;
        }

        /** All of a clause ahead of its test. */
        private boolean readHead() {
            int sort = wordFrom(Tokens.CLAUSE_WORD, Tokens.KIND_WORD);
            if (sort < 0) {
                return fail(WRONG);
            }
            if (code.clauses >= MOST_CLAUSES || sort >= ASK_FROM && code.has(sort)) {
                return fail(WRONG_CLAUSE);
            }
            at++;
            isTested = sort == MAY_REFUSE;
            switch (sort) {
                case SLIGHT: return readWeight(sort, wordFrom(Tokens.KIND_WORD, Tokens.MEANS_WORD), 9);
                case TAKE_BACK: return readWeight(sort, wordFrom(Tokens.MEANS_WORD, Tokens.IF), 15);
                case MAY_REFUSE: code.addClause(sort, 0, 0); return true;
                case HOURS_AT_FIRST: return readMeasure(sort, 1, MOST_HOURS);
                default: return readMeasure(sort, 0, MOST_OWED);
            }
        }

        private boolean readWeight(int sort, int kind, int most) {
            if (kind < 0) {
                return fail(WRONG);
            }
            at++;
            int number = tokens.numberAt(at);
            if (!takesNumber(0, most)) {
                return false;
            }
            code.addClause(sort, kind, number);
            isTested = takes(Tokens.IF);
            return true;
        }

        private boolean readMeasure(int sort, int least, int most) {
            int number = tokens.numberAt(at);
            if (!takesNumber(least, most)) {
                return false;
            }
            code.addClause(sort, 0, number);
            code.setMeasure(sort, number);
            return true;
        }

        private boolean readTest(int depth) {
            if (!readPart(depth)) {
                return false;
            }
            for (int i = 0; i < MOST_BYTES && takes(Tokens.OR); i++) {
                if (!readPart(depth)) {
                    return false;
                }
                code.addStep(Code.OR);
            }
            return true;
        }

        private boolean readPart(int depth) {
            if (!readFact(depth)) {
                return false;
            }
            for (int i = 0; i < MOST_BYTES && takes(Tokens.AND); i++) {
                if (!readFact(depth)) {
                    return false;
                }
                code.addStep(Code.AND);
            }
            return true;
        }

        private boolean readFact(int depth) {
            int kind = tokens.kindAt(at);
            boolean isBracket = kind == Tokens.SIGN + '[';
            if (!isBracket && kind != Tokens.NOT) {
                if (!readSum()) {
                    return false;
                }
                int step = comparisonOf(tokens.kindAt(at));
                if (step < 0) {
                    return fail(WRONG);
                }
                if (!takesPart() || !readSum()) {
                    return false;
                }
                code.addStep(step);
                return true;
            }
            if (depth >= MOST_DEEP) {
                return fail(TOO_DEEP);
            }
            at++;
            if (isBracket) {
                return readTest(depth + 1) && (takes(Tokens.SIGN + ']') || fail(WRONG));
            }
            if (!readFact(depth + 1)) {
                return false;
            }
            code.addStep(Code.NOT);
            return true;
        }

        /** The step of a sign that compares; below 0 without. */
        private static int comparisonOf(int kind) {
            switch (kind) {
                case Tokens.SIGN + '<': return Code.BELOW;
                case 2 * Tokens.SIGN + '<': return Code.AT_MOST;
                case Tokens.SIGN + '=': return Code.EQUAL;
                case 2 * Tokens.SIGN + '>': return Code.AT_LEAST;
                case Tokens.SIGN + '>': return Code.ABOVE;
                default: return -1;
            }
        }

        private boolean readSum() {
            if (!readValue()) {
                return false;
            }
            for (int i = 0; i < MOST_BYTES; i++) {
                boolean isPlus = takes(Tokens.SIGN + '+');
                if (!isPlus && !takes(Tokens.SIGN + '-')) {
                    return true;
                }
                if (!readValue()) {
                    return false;
                }
                code.addStep(isPlus ? Code.PLUS : Code.MINUS);
            }
            return true;
        }

        private boolean readValue() {
            int word = wordFrom(Tokens.FACT_WORD, Tokens.BEHIND_WORDS);
            if (word < 0 && tokens.kindAt(at) != Tokens.NUMBER) {
                return fail(WRONG);
            }
            int number = tokens.numberAt(at);
            if (number == Tokens.TOO_LONG) {
                return fail(WRONG_NUMBER);
            }
            if (!takesPart()) {
                return false;
            }
            code.addStep(word < 0 ? number : Code.WORD + word);
            return true;
        }

        /** Goes over a value or a sign that compares, if there may be one more. */
        private boolean takesPart() {
            if (parts >= MOST_PARTS) {
                return fail(TOO_MANY);
            }
            parts++;
            at++;
            return true;
        }

        /** Goes over a clause's number, if it is one as told. */
        private boolean takesNumber(int least, int most) {
            if (tokens.kindAt(at) != Tokens.NUMBER) {
                return fail(WRONG);
            }
            if (!isWithin(tokens.numberAt(at), least, most)) {
                return fail(WRONG_NUMBER);
            }
            at++;
            return true;
        }

        /** Goes over a sign or word, if it stands here. */
        private boolean takes(int kind) {
            if (tokens.kindAt(at) != kind) {
                return false;
            }
            at++;
            return true;
        }

        /** Which of the words from one up to another stands here; below 0 without. */
        private int wordFrom(int least, int behind) {
            int kind = tokens.kindAt(at);
            return kind >= least && kind < behind ? kind - least : -1;
        }

        private boolean fail(int kind) {
            fault = 1 + 8 * tokens.placeAt(at) + kind;
            return false;
        }
    }

    /**
     * A STATE in one number, so that rows of them can be kept and gone over without objects: bits 0
     * and 4 what is owed the first, the second; 8 hours left; 12 whose turn; 13 who has asked (1, 2);
     * 15 how it ended; 18 the less.
     */
    private static final class State {
        static int of(int owedFirst, int owedSecond, int left, int turn, int asked) {
            return owedFirst | owedSecond << 4 | left << 8 | turn << 12 | asked << 13;
        }

        static int ended(int state, int end, int less) {
            return state | end << 15 | less << 18;
        }

        static int owed(int state, int side) {
            return (side == 0 ? state : state >> 4) & 15;
        }

        static int left(int state) {
            return state >> 8 & 15;
        }

        static int turn(int state) {
            return state >> 12 & 1;
        }

        /** 0 nobody, 1 the first, 2 the second. */
        static int asked(int state) {
            return state >> 13 & 3;
        }

        static int ending(int state) {
            return state >> 15 & 7;
        }

        static int less(int state) {
            return state >> 18 & 3;
        }

        static int outcome(int state) {
            return 4 * ending(state) + less(state);
        }

        /** Its place in rows of SPOTS: the hours left tell the turn, and so who has asked. */
        static int spot(int state) {
            return (left(state) - 1 & 7) << 9 | (asked(state) == 0 ? 0 : 256) | state & 255;
        }
    }

    /** A quarrel as it was told: its people, their codes for it, its history. */
    private static final class Quarrel {
        private final int[] moves = new int[MOST_DONE];
        private final int[] states = new int[MOST_DONE];
        int first;
        int second;
        int firstCode;
        int secondCode;
        int ladies;
        int done;

        void add(int move, int state) {
            if (done >= 0 && done < MOST_DONE) {
                moves[done] = move;
                states[done] = state;
                done++;
            }
        }

        int moveAt(int k) {
            return k >= 0 && k < done && k < MOST_DONE ? moves[k] : NONE;
        }

        int stateAt(int k) {
            return k >= 0 && k < done && k < MOST_DONE ? states[k] : 0;
        }

        int now() {
            return stateAt(done - 1);
        }

        boolean goesOn() {
            return State.ending(now()) == 0;
        }

        /** The side of one of both; NONE for others. */
        int sideOf(int person) {
            return person == first ? 0 : person == second ? 1 : NONE;
        }

        int personOn(int side) {
            return side == 0 ? first : second;
        }

        /** The moves that slight or take back, as bits: no others can be heard or not. */
        int spoken() {
            int bits = 0;
            for (int i = 0; i < done && i < MOST_DONE; i++) {
                if (moves[i] < ASK) {
                    bits |= 1 << i;
                }
            }
            return bits;
        }

        void copy(Quarrel other) {
            first = other.first;
            second = other.second;
            firstCode = other.firstCode;
            secondCode = other.secondCode;
            ladies = other.ladies;
            done = other.done;
            for (int i = 0; i < MOST_DONE; i++) {
                moves[i] = other.moves[i];
                states[i] = other.states[i];
            }
        }
    }

    /** All that an image keeps: people with what they owe and keep, and quarrels. */
    private static final class Book {
        private final int[] ages = new int[MOST_PEOPLE];
        private final int[] ranks = new int[MOST_PEOPLE];
        private final int[] houses = new int[MOST_PEOPLE];
        private final int[] kept = new int[MOST_PEOPLE];
        /** Of each person those whom he owes money, as bits. */
        private final int[] owing = new int[MOST_PEOPLE];
        private final Quarrel[] quarrels = new Quarrel[MOST_QUARRELS];
        int peopleCount;
        int quarrelCount;
        boolean isMade;

        Book() {
            for (int i = 0; i < MOST_QUARRELS; i++) {
                quarrels[i] = new Quarrel();
            }
        }

        int addPerson(int age, int rank, int house) {
            int person = peopleCount;
            if (person < 0 || person >= MOST_PEOPLE) {
                return NONE;
            }
            ages[person] = age;
            ranks[person] = rank;
            houses[person] = house;
            kept[person] = NONE;
            owing[person] = 0;
            peopleCount++;
            return person;
        }

        boolean hasPerson(int person) {
            return person >= 0 && person < peopleCount && person < MOST_PEOPLE;
        }

        int ageOf(int person) {
            return hasPerson(person) ? ages[person] : 0;
        }

        int rankOf(int person) {
            return hasPerson(person) ? ranks[person] : 0;
        }

        int houseOf(int person) {
            return hasPerson(person) ? houses[person] : 0;
        }

        int codeOf(int person) {
            return hasPerson(person) ? kept[person] : NONE;
        }

        void setCode(int person, int code) {
            if (hasPerson(person)) {
                kept[person] = code;
            }
        }

        boolean isOwing(int person, int other) {
            return hasPerson(person) && hasPerson(other) && (owing[person] >> other & 1) == 1;
        }

        void setOwing(int person, int other, boolean is) {
            if (hasPerson(person) && hasPerson(other)) {
                int bit = 1 << other;
                owing[person] = is ? owing[person] | bit : owing[person] & ~bit;
            }
        }

        /** A quarrel without a history yet. */
        int addQuarrel(int first, int second, int ladies) {
            int number = quarrelCount;
            if (number < 0 || number >= MOST_QUARRELS) {
                return NONE;
            }
            Quarrel it = quarrels[number];
            it.first = first;
            it.second = second;
            it.firstCode = codeOf(first);
            it.secondCode = codeOf(second);
            it.ladies = ladies;
            it.done = 0;
            quarrelCount++;
            return number;
        }

        Quarrel quarrelAt(int number) {
            return number >= 0 && number < quarrelCount && number < MOST_QUARRELS ? quarrels[number] : null;
        }

        int goingOn() {
            int found = 0;
            for (int i = 0; i < quarrelCount && i < MOST_QUARRELS; i++) {
                if (quarrels[i].goesOn()) {
                    found++;
                }
            }
            return found;
        }

        /** FIRST of a person; NEVER if none of his goes on. */
        int takenFirst(int person) {
            int taken = NEVER;
            int most = -1;
            for (int i = 0; i < quarrelCount && i < MOST_QUARRELS; i++) {
                Quarrel it = quarrels[i];
                int side = it.sideOf(person);
                if (side != NONE && it.goesOn()) {
                    // Ranks are below 10, so what is owed counts ahead of them.
                    int weight = 10 * State.owed(it.now(), side) + rankOf(it.personOn(1 - side));
                    if (weight > most) {
                        most = weight;
                        taken = i;
                    }
                }
            }
            return taken;
        }

        /** The quarrels that one waits for, as bits. */
        int waitedFor(int number) {
            Quarrel it = quarrelAt(number);
            if (it == null || !it.goesOn()) {
                return 0;
            }
            int bits = 0;
            for (int side = 0; side < 2; side++) {
                int taken = takenFirst(it.personOn(side));
                if (taken >= 0 && taken != number) {
                    bits |= 1 << taken;
                }
            }
            return bits;
        }

        boolean isInRing(int number) {
            int known = 0;
            int reached = waitedFor(number);
            for (int i = 0; i < MOST_QUARRELS && reached != known; i++) {
                int fresh = reached & ~known;
                known = reached;
                for (int j = 0; j < MOST_QUARRELS; j++) {
                    if ((fresh >> j & 1) == 1) {
                        reached |= waitedFor(j);
                    }
                }
            }
            return number >= 0 && number < MOST_QUARRELS && (reached >> number & 1) == 1;
        }

        void copy(Book other) {
            peopleCount = other.peopleCount;
            quarrelCount = other.quarrelCount;
            for (int i = 0; i < MOST_PEOPLE; i++) {
                ages[i] = other.ages[i];
                ranks[i] = other.ranks[i];
                houses[i] = other.houses[i];
                kept[i] = other.kept[i];
                owing[i] = other.owing[i];
            }
            for (int i = 0; i < MOST_QUARRELS; i++) {
                quarrels[i].copy(other.quarrels[i]);
            }
        }
    }

    /** What rules a quarrel between two, as things stand: what can be done, and what it makes. */
    private static final class Affair {
        private final Sight ofFirst = new Sight();
        private final Sight ofSecond = new Sight();
        private Code firstCode = new Code();
        private Code secondCode = new Code();
        private int hours;
        /** Clauses whose number counts as the most, as bits. */
        int raised;

        /** Tests ask nothing that these don't keep, so each is looked at once for an affair. */
        private final int[] seen = new int[SPOTS];
        private final int[] marks = new int[SPOTS];
        private int mark;

        void set(Book book, int first, int second, int ladies, Code ofOne, Code ofOther) {
            ofFirst.turnTo(book, first, second, ladies);
            ofSecond.turnTo(book, second, first, ladies);
            firstCode = ofOne;
            secondCode = ofOther;
            hours = Math.min(ofOne.hours, ofOther.hours);
            raised = 0;
            mark++;
        }

        /** The state behind the first slight, which takes no hour. */
        int open(int kind, boolean counts) {
            ofFirst.setHour(0, 0, 0);
            int owed = counts ? Math.min(MOST_OWED, secondCode.weight(kind, ofFirst)) : 0;
            int state = State.of(0, owed, hours, 1, 0);
            return owed == 0 ? State.ended(state, PEACE, 0) : state;
        }

        boolean allows(int state, int move) {
            if (State.ending(state) != 0 || move < 0 || move >= MOVES) {
                return false;
            }
            if (State.asked(state) != 0) {
                return move == ASK || move == REFUSE;
            }
            int him = State.turn(state);
            if (move < BY_MEANS) {
                return true;
            }
            if (move < ASK) {
                return State.owed(state, 1 - him) > 0;
            }
            if (move == ASK) {
                return State.owed(state, him) >= codeOf(him).ask;
            }
            return move == WAIT;
        }

        /** The state behind a move that can be done; what it slights or takes back may not count. */
        int after(int state, int move, boolean counts) {
            int him = State.turn(state);
            if (State.asked(state) != 0) {
                return move == ASK ? State.ended(state, FIELD, 0)
                    : State.ended(state, REFUSED, look(state) == 1 ? 0 : 1 + him);
            }
            int other = 1 - him;
            int mine = State.owed(state, him);
            int owed = State.owed(state, other);
            if (counts && move < ASK) {
                owed = changed(owed, move, weighed(look(state) >> 4 * move & 15, codeOf(other)));
            }
            int owedFirst = him == 0 ? mine : owed;
            int owedSecond = him == 0 ? owed : mine;
            int asked = move == ASK ? him + 1 : 0;
            int left = State.left(state);
            if (mine == 0 && owed == 0 && asked == 0) {
                return State.ended(State.of(0, 0, left, other, 0), PEACE, 0);
            }
            int next = State.of(owedFirst, owedSecond, left - 1 & 15, other, asked);
            return left > 1 ? next : State.ended(next, LET_LIE, lessOf(owedFirst, owedSecond));
        }

        /** The state as it is where some moves aren't heard. */
        int heard(Quarrel it, int unheard) {
            int state = open(it.moveAt(0), (unheard & 1) == 0);
            for (int i = 1; i < it.done && allows(state, it.moveAt(i)); i++) {
                state = after(state, it.moveAt(i), (unheard >> i & 1) == 0);
            }
            return state;
        }

        /** A state with what is owed by the code of one side alone. */
        int reckoned(Quarrel it, int who) {
            Code code = codeOf(who);
            int owedFirst = 0;
            int owedSecond = 0;
            for (int i = 0; i < it.done; i++) {
                int move = it.moveAt(i);
                int gone = Math.max(0, i - 1);
                if (move >= ASK) {
                    continue;
                }
                if (i % 2 == 0) {
                    ofFirst.setHour(owedSecond, owedFirst, gone);
                    owedSecond = changed(owedSecond, move, code.weight(move, ofFirst));
                } else {
                    ofSecond.setHour(owedFirst, owedSecond, gone);
                    owedFirst = changed(owedFirst, move, code.weight(move, ofSecond));
                }
            }
            return State.of(owedFirst, owedSecond, 0, 0, 0);
        }

        private static int changed(int owed, int move, int weight) {
            return move < BY_MEANS ? Math.min(MOST_OWED, owed + weight) : Math.max(0, owed - weight);
        }

        private int lessOf(int owedFirst, int owedSecond) {
            return (owedFirst >= firstCode.must ? 1 : 0) + (owedSecond >= secondCode.must ? 2 : 0);
        }

        /** The number of a clause that is told as 1 more than it is, 0 without. */
        private int weighed(int slot, Code code) {
            return (raised << 1 >> slot & 1) == 1 ? MOST_OWED : code.numberOf(slot - 1);
        }

        /** By the other's code: which clauses weigh each move, or, of one asked, 1 if he may refuse. */
        private int look(int state) {
            int spot = State.spot(state);
            if (marks[spot] == mark) {
                return seen[spot];
            }
            int him = State.turn(state);
            Sight sight = him == 0 ? ofFirst : ofSecond;
            Code code = codeOf(1 - him);
            sight.setHour(State.owed(state, 1 - him), State.owed(state, him), hours - State.left(state));
            int found = State.asked(state) == 0 ? code.weighing(sight) : code.letsRefuse(sight) ? 1 : 0;
            marks[spot] = mark;
            seen[spot] = found;
            return found;
        }

        private Code codeOf(int side) {
            return side == 0 ? firstCode : secondCode;
        }
    }

    /** GAME: what each does if both do what is best for them. */
    private static final class Game {
        private static final int WORST = 8;

        /** Of each state that was looked at: the mark, nine bits on; the move, five bits on; the outcome. */
        private final int[] known = new int[SPOTS];
        private int mark;

        /** What is known counts no more: an affair isn't what it was. */
        void begin() {
            mark++;
        }

        int outcomeFrom(Affair affair, int state) {
            return settle(affair, state, 0) & 31;
        }

        int moveFrom(Affair affair, int state) {
            return settle(affair, state, 0) >> 5;
        }

        /** The best move, five bits on, and the outcome. Each move takes an hour, so this goes no deeper. */
        private int settle(Affair affair, int state, int depth) {
            if (State.ending(state) != 0 || depth > MOST_HOURS) {
                return State.outcome(state);
            }
            int spot = State.spot(state);
            if (known[spot] >> 9 == mark) {
                return known[spot] & 511;
            }
            int him = State.turn(state);
            int best = 0;
            int worth = WORST;
            for (int move = 0; move < MOVES && worth > 0; move++) {
                if (affair.allows(state, move)) {
                    int outcome = settle(affair, affair.after(state, move, true), depth + 1) & 31;
                    int found = worthOf(outcome, him);
                    if (found < worth) {
                        worth = found;
                        best = move << 5 | outcome;
                    }
                }
            }
            known[spot] = mark << 9 | best;
            return best;
        }

        /** 0 is the best: first not to be the less, then no field, then that the other isn't the less. */
        private static int worthOf(int outcome, int him) {
            int isLess = outcome >> him & 1;
            int isField = outcome == FIELD_OUTCOME ? 1 : 0;
            int isOtherLess = outcome >> 1 - him & 1;
            return 4 * isLess + 2 * isField + isOtherLess;
        }
    }

    /**
     * WAYS: all states that can come, hour by hour, each once. Those of one hour stand in the order of
     * the first ways to them, so the first way found to an outcome is its BRIEF one.
     */
    private static final class Walk {
        private final int[] states = new int[SPOTS];
        private final long[] counts = new long[SPOTS];
        /** The place that it was first come from, four bits on, and the move. */
        private final int[] origins = new int[SPOTS];
        /** Of each spot the mark, twelve bits on, and its place. */
        private final int[] places = new int[SPOTS];
        private final long[] waysTo = new long[OUTCOMES];
        private final int[] firstTo = new int[OUTCOMES];
        private int size;
        private int mark;
        private boolean isOver;

        void go(Affair affair, int start) {
            mark++;
            size = 0;
            for (int i = 0; i < OUTCOMES; i++) {
                waysTo[i] = 0;
                firstTo[i] = 0;
            }
            isOver = State.ending(start) != 0;
            if (isOver) {
                reach(State.outcome(start), 1, 0);
                return;
            }
            arrive(start, 1, 0);
            for (int place = 0; place < size && place < SPOTS; place++) {
                spread(affair, place);
            }
        }

        int outcomes() {
            int bits = 0;
            for (int i = 0; i < OUTCOMES; i++) {
                if (waysTo[i] != 0) {
                    bits |= 1 << i;
                }
            }
            return bits;
        }

        long waysTo(int outcome) {
            return outcome >= 0 && outcome < OUTCOMES ? waysTo[outcome] : 0;
        }

        /** How many moves the first way to an outcome has that there is. */
        int fewestTo(int outcome) {
            if (isOver || outcome < 0 || outcome >= OUTCOMES) {
                return 0;
            }
            int fewest = 1;
            int place = firstTo[outcome] >> 4;
            for (int i = 0; i < MOST_HOURS && place > 0 && place < SPOTS; i++) {
                fewest++;
                place = origins[place] >> 4;
            }
            return fewest;
        }

        /** A move of the first way, counted from its last one back. */
        int moveTo(int outcome, int fromLast) {
            if (outcome < 0 || outcome >= OUTCOMES) {
                return NONE;
            }
            int step = firstTo[outcome];
            for (int i = 0; i < fromLast && i < MOST_HOURS; i++) {
                int place = step >> 4;
                step = place >= 0 && place < SPOTS ? origins[place] : 0;
            }
            return step & 15;
        }

        private void spread(Affair affair, int place) {
            int state = states[place];
            for (int move = 0; move < MOVES; move++) {
                if (affair.allows(state, move)) {
                    int next = affair.after(state, move, true);
                    int origin = place << 4 | move;
                    if (State.ending(next) != 0) {
                        reach(State.outcome(next), counts[place], origin);
                    } else {
                        arrive(next, counts[place], origin);
                    }
                }
            }
        }

        private void reach(int outcome, long count, int origin) {
            if (outcome < 0 || outcome >= OUTCOMES) {
                return;
            }
            if (waysTo[outcome] == 0) {
                firstTo[outcome] = origin;
            }
            waysTo[outcome] += count;
        }

        private void arrive(int state, long count, int origin) {
            int spot = State.spot(state);
            if (places[spot] >> 12 != mark && size < SPOTS) {
                places[spot] = mark << 12 | size;
                states[size] = state;
                counts[size] = 0;
                origins[size] = origin;
                size++;
            }
            counts[places[spot] & SPOTS - 1] += count;
        }
    }
}
