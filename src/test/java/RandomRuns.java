import java.util.ArrayList;
import java.util.List;
import java.util.Random;
import java.util.TreeMap;

/** Runs of random calls on a TwoCards and on the Model, whose answers have to be the same. */
public final class RandomRuns {
    private static final int RUNS = 500;
    /** What later calls answer is free; a step asks no more than some thirty. */
    private static final int MOST_CALLS = 512;
    private static final int MOST_OF_A_STEP = 32;

    private final Random random;
    private final TwoCards cards = new TwoCards();
    private final Model model = new Model();
    private final List<String> calls = new ArrayList<>();
    /** How often of a hundred an argument is odd. */
    private int odd = 3;
    private static int wrong = 0;
    private static long compared = 0;
    private static final TreeMap<String, Integer> seen = new TreeMap<>();

    private RandomRuns(int seed) {
        random = new Random(seed);
    }

    public static void main(String[] args) {
        int runs = args.length > 0 ? Integer.parseInt(args[0]) : RUNS;
        int from = args.length > 1 ? Integer.parseInt(args[1]) : 1;
        for (int seed = from; seed < from + runs && wrong < 5; seed++) {
            RandomRuns one = new RandomRuns(seed);
            one.run();
            if (one.calls.size() > MOST_CALLS) {
                wrong++;
                System.out.println("seed " + seed + " has " + one.calls.size() + " calls");
            }
        }
        if (args.length > 0) {
            seen.forEach((what, n) -> System.out.println(what + ": " + n));
        }
        System.out.println("RandomRuns: " + compared + " answers held against the model, " + wrong + " not as due");
        if (wrong != 0) {
            System.exit(1);
        }
    }

    private void same(String call, long got, long due) {
        calls.add(call + " -> " + due);
        compared++;
        String name = call.substring(0, call.indexOf('('));
        if (name.equals("game") || name.equals("ends") || name.equals("mend") || name.equals("harsh")
            || name.equals("ring") || name.equals("late") || name.equals("otherwise") || name.equals("doubt")
            || name.equals("hangs") || name.equals("move") || name.equals("first") || name.equals("waits")) {
            seen.merge(name + " " + due, 1, Integer::sum);
        }
        if (name.equals("code")) {
            seen.merge("code " + (due < -2 ? "fault " + (-3 - due) % 8 : "" + due), 1, Integer::sum);
        }
        if (got != due) {
            wrong++;
            System.out.println("a run:");
            calls.forEach(c -> System.out.println("  " + c));
            System.out.println("  answered " + got);
        }
    }

    private int below(int n) {
        return random.nextInt(n);
    }

    private boolean chance(int percent) {
        return below(100) < percent;
    }

    /** Mostly a number that is as told, at times one beside it or far off. */
    private int about(int least, int most) {
        if (!chance(odd)) {
            return least + below(most - least + 1);
        }
        int[] ends = {least - 1, most + 1, Integer.MIN_VALUE, Integer.MAX_VALUE, -1, -2, 99, random.nextInt()};
        return ends[below(ends.length)];
    }

    private void run() {
        int people = 2 + below(chance(50) ? 3 : 11);
        for (int i = 0; i < people; i++) {
            person();
        }
        int wanted = 1 + below(3);
        for (int i = 0; i < 20 && model.codes.size() < wanted; i++) {
            code();
        }
        for (int i = 0; i < people; i++) {
            int c = about(0, Math.max(0, model.codes.size() - 1));
            same("keeps(" + i + "," + c + ")", cards.keeps(i, c) ? 1 : 0, model.keeps(i, c) ? 1 : 0);
        }
        odd = chance(10) ? 40 : 2;
        int more = 60 + below(220);
        for (int i = 0; i < more && wrong == 0 && calls.size() <= MOST_CALLS - MOST_OF_A_STEP; i++) {
            step();
        }
    }

    private void person() {
        int age = about(0, 99);
        int rank = about(0, chance(50) ? 3 : 9);
        int house = about(0, chance(50) ? 1 : 9);
        same("person(" + age + "," + rank + "," + house + ")",
            cards.person(age, rank, house), model.person(age, rank, house));
    }

    private void code() {
        String text = code(random);
        int total = (text.length() + 19) / 20 * 20;
        StringBuilder padded = new StringBuilder(text);
        while (padded.length() < total) {
            padded.append(chance(50) ? ' ' : (char) below(256));
        }
        for (int i = 0; i < total; i += 20) {
            int[] n = new int[5];
            for (int j = 0; j < 20; j++) {
                n[j / 4] = n[j / 4] << 8 | padded.charAt(i + j);
            }
            same("feed(" + n[0] + "," + n[1] + "," + n[2] + "," + n[3] + "," + n[4] + ")",
                cards.feed(n[0], n[1], n[2], n[3], n[4]), model.feed(n));
        }
        int length = chance(95) ? Math.min(text.length(), model.tape.length()) : about(0, model.tape.length());
        same("end(" + length + ")", cards.end(length), model.end(length));
        same("count(4)", cards.count(4), model.count(4));
        same("code() of '" + model.tape + "'", cards.code(), model.code());
        same("count(4)", cards.count(4), model.count(4));
    }

    static String code(Random random) {
        List<String> clauses = new ArrayList<>();
        int n = 1 + random.nextInt(random.nextInt(4) == 0 ? 15 : 9);
        boolean asks = false;
        boolean hours = false;
        boolean must = false;
        // slights that weigh something, so that quarrels go on
        for (int kind = random.nextInt(5); kind < 4; kind++) {
            clauses.add("slight " + Model.KINDS.get(kind) + " " + (1 + random.nextInt(6)));
        }
        for (int i = 0; i < n; i++) {
            switch (random.nextInt(9)) {
                case 0: case 1: case 2:
                    clauses.add("slight " + Model.KINDS.get(random.nextInt(4)) + " " + random.nextInt(10) + when(random));
                    break;
                case 3: case 4: case 5:
                    clauses.add("back " + Model.MEANS.get(random.nextInt(4)) + " " + random.nextInt(random.nextInt(3) == 0 ? 16 : 5)
                        + when(random));
                    break;
                case 6:
                    clauses.add("refuse " + test(random, 0));
                    break;
                case 7:
                    if (!asks || random.nextInt(30) == 0) {
                        clauses.add("ask " + random.nextInt(random.nextInt(3) == 0 ? 16 : 5));
                        asks = true;
                    }
                    break;
                default:
                    if (random.nextBoolean() && !hours || random.nextInt(30) == 0) {
                        clauses.add("hours " + (1 + random.nextInt(8)));
                        hours = true;
                    } else if (!must || random.nextInt(30) == 0) {
                        clauses.add("must " + random.nextInt(random.nextInt(3) == 0 ? 16 : 5));
                        must = true;
                    }
            }
        }
        String text = String.join(random.nextBoolean() ? ";" : " ; ", clauses);
        if (random.nextInt(8) == 0) {
            text = harm(random, text);
        }
        return text.length() > 400 ? text.substring(0, 400) : text;
    }

    private static String when(Random random) {
        return random.nextInt(5) < 3 ? "" : " if " + test(random, 0);
    }

    private static String test(Random random, int deep) {
        int kind = random.nextInt(deep > 2 ? 3 : 8);
        switch (kind) {
            case 3: return test(random, deep + 1) + " or " + test(random, deep + 1);
            case 4: return test(random, deep + 1) + " and " + test(random, deep + 1);
            case 5: return "not " + fact(random, deep + 1);
            default: return fact(random, deep);
        }
    }

    private static String fact(Random random, int deep) {
        if (random.nextInt(6) == 0 && deep < 4) {
            return "[" + test(random, deep + 1) + "]";
        }
        if (random.nextInt(9) == 0 && deep < 4) {
            return "not " + fact(random, deep + 1);
        }
        return sum(random) + List.of("<", "<=", "=", ">=", ">").get(random.nextInt(5)) + sum(random);
    }

    private static String sum(Random random) {
        StringBuilder sum = new StringBuilder(value(random));
        while (random.nextInt(4) == 0) {
            sum.append(random.nextBoolean() ? " + " : "-").append(value(random));
        }
        return sum.toString();
    }

    private static String value(Random random) {
        return random.nextInt(3) == 0 ? String.valueOf(random.nextInt(10)) : Model.WORDS.get(random.nextInt(10));
    }

    /** A text with something put in, left out or written over. */
    private static String harm(Random random, String text) {
        List<String> odd = List.of("[", "]", "not ", "12345", "99", ";", "<", "=", " ", "x", "if ", "and", "or", "A", "0",
            "+", "ask 1;", "not not not not not not not not not not ", "[[[[[[[[[[", "age+age+age+age+age+age+age+age+", "=<");
        StringBuilder made = new StringBuilder(text);
        for (int i = 1 + random.nextInt(2); i > 0; i--) {
            int at = random.nextInt(made.length() + 1);
            if (random.nextBoolean() || made.length() == 0) {
                made.insert(at, odd.get(random.nextInt(odd.size())));
            } else {
                made.delete(at, Math.min(made.length(), at + 1 + random.nextInt(3)));
            }
        }
        return made.toString();
    }

    private int quarrelNumber() {
        return about(0, Math.max(0, model.world.quarrels.size() - 1));
    }

    private int personNumber() {
        return about(0, Math.max(0, model.world.people.size() - 1));
    }

    private int codeNumber() {
        return about(0, Math.max(0, model.codes.size() - 1));
    }

    private void step() {
        int q = quarrelNumber();
        int p = personNumber();
        int o = personNumber();
        int c = codeNumber();
        int ladies = about(0, 9);
        int kind = about(0, 3);
        switch (below(34)) {
            case 0: case 1:
                same("quarrel(" + p + "," + o + "," + ladies + "," + kind + ")",
                    cards.quarrel(p, o, ladies, kind), model.quarrel(p, o, ladies, kind));
                break;
            case 2: case 3: case 4: case 5: case 6:
                moves(q);
                break;
            case 7:
                if (chance(30)) {
                    person();
                }
                break;
            case 8: case 9:
                boolean is = chance(60);
                same("debt(" + p + "," + o + "," + is + ")", cards.debt(p, o, is) ? 1 : 0, model.debt(p, o, is) ? 1 : 0);
                break;
            case 10:
                if (chance(20)) {
                    code();
                }
                break;
            case 11:
                int kept = about(-1, Math.max(0, model.codes.size() - 1));
                same("keeps(" + p + "," + kept + ")", cards.keeps(p, kept) ? 1 : 0, model.keeps(p, kept) ? 1 : 0);
                break;
            case 12:
                int toldWhat = about(0, 3);
                same("told(" + c + "," + toldWhat + ")", cards.told(c, toldWhat), model.told(c, toldWhat));
                break;
            case 13: case 14:
                weighs(c, p, o, ladies);
                break;
            case 15: case 16:
                allOf(q);
                break;
            case 17: case 18:
                int outcome = about(0, 19);
                same("ways(" + q + "," + outcome + ")", cards.ways(q, outcome), model.ways(q, outcome));
                for (int k = -2; k < 9; k++) {
                    same("brief(" + q + "," + outcome + "," + k + ")", cards.brief(q, outcome, k), model.brief(q, outcome, k));
                }
                same("ends(" + q + ")", cards.ends(q), model.ends(q));
                break;
            case 19: case 20:
                same("game(" + q + ",0)", cards.game(q, 0), model.game(q, 0));
                same("game(" + q + ",1)", cards.game(q, 1), model.game(q, 1));
                break;
            case 21: case 22:
                int k = about(1, 8);
                int move = about(0, 10);
                same("otherwise(" + q + "," + k + "," + move + ")", cards.otherwise(q, k, move), model.otherwise(q, k, move));
                break;
            case 23: case 24:
                int unsure = about(0, chance(30) ? 511 : 15);
                same("doubt(" + q + "," + unsure + ")", cards.doubt(q, unsure), model.doubt(q, unsure));
                break;
            case 25: case 26:
                same("hangs(" + q + ")", cards.hangs(q), model.hangs(q));
                break;
            case 27:
                int who = about(0, 1);
                int what = about(0, 1);
                same("thinks(" + q + "," + who + "," + what + ")", cards.thinks(q, who, what), model.thinks(q, who, what));
                break;
            case 28: case 29:
                same("waits(" + q + ")", cards.waits(q), model.waits(q));
                same("ring(" + q + ")", cards.ring(q), model.ring(q));
                same("first(" + p + ")", cards.first(p), model.first(p));
                break;
            case 30:
                same("harsh(" + c + "," + p + "," + o + "," + ladies + ")",
                    cards.harsh(c, p, o, ladies), model.harsh(c, p, o, ladies));
                break;
            case 31:
                same("mend(" + c + "," + p + "," + o + "," + ladies + "," + kind + ")",
                    cards.mend(c, p, o, ladies, kind), model.mend(c, p, o, ladies, kind));
                break;
            case 32:
                int image = about(0, 3);
                same("image(" + image + ")", cards.image(image), model.image(image));
                break;
            default:
                int back = about(0, 3);
                if (chance(30)) {
                    same("back(" + back + ")", cards.back(back), model.back(back));
                }
                for (int i = -1; i < 6; i++) {
                    same("count(" + i + ")", cards.count(i), model.count(i));
                }
        }
    }

    private void moves(int q) {
        for (int i = below(4); i >= 0; i--) {
            int move = about(0, 10);
            for (int j = 0; j < 3 && (Math.max(0, model.may(q)) >> move & 1) == 0; j++) {
                move = about(0, 10);
            }
            same("move(" + q + "," + move + ")", cards.move(q, move), model.move(q, move));
        }
    }

    private void weighs(int c, int p, int o, int ladies) {
        int owed = about(0, 15);
        int mine = about(0, 15);
        int gone = about(0, 8);
        for (int what = -1; what < 10; what++) {
            same("weighs(" + c + "," + p + "," + o + "," + ladies + "," + owed + "," + mine + "," + gone + "," + what + ")",
                cards.weighs(c, p, o, ladies, owed, mine, gone, what), model.weighs(c, p, o, ladies, owed, mine, gone, what));
        }
    }

    private void allOf(int q) {
        for (int what = -1; what < 9; what++) {
            same("state(" + q + "," + what + ")", cards.state(q, what), model.state(q, what));
        }
        for (int k = -1; k < 10; k++) {
            same("history(" + q + "," + k + ")", cards.history(q, k), model.history(q, k));
        }
        same("may(" + q + ")", cards.may(q), model.may(q));
        same("must(" + q + ")", cards.must(q), model.must(q));
        same("late(" + q + ")", cards.late(q), model.late(q));
    }
}
