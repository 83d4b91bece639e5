import java.util.List;

/** Each call with one thing not as told is answered as the document says, and nothing happens. */
public final class Refused {
    interface Call {
        long of(TwoCards x, int[] n);
    }

    /** A call, what is right for it, and what is least and most of each of its numbers. */
    record Case(String name, long due, Call call, int[] right, int[][] bounds) {
    }

    private static final int[] PERSON = {0, 2};
    private static final int[] CODE = {0, 1};
    private static final int[] QUARREL = {0, 2};
    private static final int[] LADIES = {0, 9};
    private static final int[] KIND = {0, 3};
    private static final int[] OWED = {0, 15};
    private static final int[] OUTCOME = {0, 19};
    private static final int[] BOTH = {0, 1};

    private static final List<Case> CASES = List.of(
        new Case("person", -1, (x, n) -> x.person(n[0], n[1], n[2]), new int[] {30, 1, 1},
            new int[][] {{0, 99}, {0, 9}, {0, 9}}),
        new Case("debt", 0, (x, n) -> x.debt(n[0], n[1], true) ? 1 : 0, new int[] {0, 2}, new int[][] {PERSON, PERSON}),
        new Case("no debt", 0, (x, n) -> x.debt(n[0], n[1], false) ? 1 : 0, new int[] {0, 1}, new int[][] {PERSON, PERSON}),
        new Case("end", -1, (x, n) -> x.end(n[0]), new int[] {20}, new int[][] {{0, 20}}),
        new Case("keeps", 0, (x, n) -> x.keeps(n[0], n[1]) ? 1 : 0, new int[] {0, 1}, new int[][] {PERSON, {-1, 1}}),
        new Case("told", -1, (x, n) -> x.told(n[0], n[1]), new int[] {0, 0}, new int[][] {CODE, {0, 3}}),
        new Case("weighs", -1, (x, n) -> x.weighs(n[0], n[1], n[2], n[3], n[4], n[5], n[6], n[7]),
            new int[] {0, 0, 1, 1, 1, 1, 1, 0}, new int[][] {CODE, PERSON, PERSON, LADIES, OWED, OWED, {0, 8}, {0, 8}}),
        new Case("quarrel", -1, (x, n) -> x.quarrel(n[0], n[1], n[2], n[3]), new int[] {0, 1, 1, 0},
            new int[][] {PERSON, PERSON, LADIES, KIND}),
        new Case("state", -1, (x, n) -> x.state(n[0], n[1]), new int[] {0, 0}, new int[][] {QUARREL, {0, 7}}),
        new Case("may", -1, (x, n) -> x.may(n[0]), new int[] {0}, new int[][] {QUARREL}),
        new Case("move", -1, (x, n) -> x.move(n[0], n[1]), new int[] {1, 10}, new int[][] {QUARREL, {0, 10}}),
        new Case("history", -1, (x, n) -> x.history(n[0], n[1]), new int[] {0, 0}, new int[][] {QUARREL, {0, 2}}),
        new Case("ends", -1, (x, n) -> x.ends(n[0]), new int[] {0}, new int[][] {QUARREL}),
        new Case("ways", -1, (x, n) -> x.ways(n[0], n[1]), new int[] {0, 8}, new int[][] {QUARREL, OUTCOME}),
        new Case("brief", -1, (x, n) -> x.brief(n[0], n[1], n[2]), new int[] {0, 8, -1},
            new int[][] {QUARREL, OUTCOME, {-1, 1}}),
        new Case("must", -1, (x, n) -> x.must(n[0]), new int[] {0}, new int[][] {QUARREL}),
        new Case("late", -1, (x, n) -> x.late(n[0]), new int[] {0}, new int[][] {QUARREL}),
        new Case("game", -1, (x, n) -> x.game(n[0], n[1]), new int[] {0, 0}, new int[][] {QUARREL, BOTH}),
        new Case("otherwise", -1, (x, n) -> x.otherwise(n[0], n[1], n[2]), new int[] {0, 1, 10},
            new int[][] {QUARREL, {1, 2}, {0, 10}}),
        new Case("doubt", -1, (x, n) -> x.doubt(n[0], n[1]), new int[] {0, 0}, new int[][] {QUARREL, {0, 7}}),
        new Case("hangs", -1, (x, n) -> x.hangs(n[0]), new int[] {0}, new int[][] {QUARREL}),
        new Case("thinks", -1, (x, n) -> x.thinks(n[0], n[1], n[2]), new int[] {0, 0, 0}, new int[][] {QUARREL, BOTH, BOTH}),
        new Case("waits", -1, (x, n) -> x.waits(n[0]), new int[] {0}, new int[][] {QUARREL}),
        new Case("ring", -1, (x, n) -> x.ring(n[0]), new int[] {0}, new int[][] {QUARREL}),
        new Case("first", -1, (x, n) -> x.first(n[0]), new int[] {0}, new int[][] {PERSON}),
        new Case("harsh", -1, (x, n) -> x.harsh(n[0], n[1], n[2], n[3]), new int[] {0, 0, 1, 1},
            new int[][] {CODE, PERSON, PERSON, LADIES}),
        new Case("mend", -1, (x, n) -> x.mend(n[0], n[1], n[2], n[3], n[4]), new int[] {0, 0, 1, 1, 0},
            new int[][] {CODE, PERSON, PERSON, LADIES, KIND}),
        new Case("image", -1, (x, n) -> x.image(n[0]), new int[] {0}, new int[][] {{0, 3}}),
        new Case("back", -1, (x, n) -> x.back(n[0]), new int[] {1}, new int[][] {{1, 1}}),
        new Case("count", -1, (x, n) -> x.count(n[0]), new int[] {0}, new int[][] {{0, 4}}));

    public static void main(String[] args) {
        for (Case c : CASES) {
            refused(c);
            taken(c);
        }
        oneselfIsNotAnother();
        asItIs();
        full();
        nothingTold();
        Check.end("Refused");
    }

    private static TwoCards world() {
        TwoCards x = Answers.world();
        // twenty bytes: behind the text of its tape stand blanks
        x.end(0);
        x.feed(0x736c6967, 0x68742077, 0x6f726420, 0x373b6d75, 0x73742033);
        return x;
    }

    private static final Answers AS_IT_WAS = Answers.of(world());

    private static void refuses(String name, long due, Call call, int... n) {
        TwoCards x = world();
        String what = name + " " + java.util.Arrays.toString(n);
        Check.due(what, call.of(x, n), due);
        Answers.same("behind " + what, Answers.of(x), AS_IT_WAS);
    }

    private static void refused(Case c) {
        for (int i = 0; i < c.right().length; i++) {
            int least = c.bounds()[i][0];
            int most = c.bounds()[i][1];
            for (int wrong : new int[] {least - 1, least - 2, most + 1, most + 2, least - 32, most + 32, most + 64, 512,
                Integer.MIN_VALUE, Integer.MIN_VALUE + 1, Integer.MAX_VALUE, -Integer.MAX_VALUE + 40}) {
                int[] n = c.right().clone();
                n[i] = wrong;
                refuses(c.name(), c.due(), c.call(), n);
            }
        }
    }

    /** The least and the most that is as told is taken: none of these answers as if it were wrong. */
    private static void taken(Case c) {
        for (int i = 0; i < c.right().length; i++) {
            for (int edge : c.bounds()[i]) {
                int[] n = c.right().clone();
                n[i] = edge;
                boolean isRefused = n.length > 1 && c.bounds()[0] == PERSON && c.bounds()[1] == PERSON && n[0] == n[1]
                    || n.length > 2 && c.bounds()[1] == PERSON && n[1] == n[2]
                    || c.name().equals("brief") && edge == 1 && i == 2
                    || c.name().equals("otherwise") && i == 0 && n[0] == 2
                    || c.name().endsWith("debt")
                    || c.name().equals("move") && (n[0] != 1 || n[1] != 0 && n[1] != 10)
                    || c.name().equals("state") && n[1] != 0 || c.name().equals("game") && n[1] != 0;
                if (!isRefused) {
                    long answer = c.call().of(world(), n);
                    Check.due(c.name() + " " + java.util.Arrays.toString(n) + " isn't refused: " + answer,
                        answer != c.due() || c.name().equals("told") && answer == -1, true);
                }
            }
        }
    }

    private static void oneselfIsNotAnother() {
        for (int p = 0; p < 3; p++) {
            refuses("debt", 0, (x, n) -> x.debt(n[0], n[0], true) ? 1 : 0, p);
            refuses("no debt", 0, (x, n) -> x.debt(n[0], n[0], false) ? 1 : 0, p);
            refuses("quarrel", -1, (x, n) -> x.quarrel(n[0], n[0], 1, 0), p);
            refuses("weighs", -1, (x, n) -> x.weighs(0, n[0], n[0], 1, 1, 1, 1, 0), p);
            refuses("harsh", -1, (x, n) -> x.harsh(0, n[0], n[0], 1), p);
            refuses("mend", -1, (x, n) -> x.mend(0, n[0], n[0], 1, 0), p);
        }
    }

    /** What is so already; what can't be done; images that were never made. */
    private static void asItIs() {
        refuses("debt that is", 0, (x, n) -> x.debt(0, 1, true) ? 1 : 0);
        refuses("debt that isn't", 0, (x, n) -> x.debt(1, 0, false) ? 1 : 0);
        for (int move = 0; move <= 10; move++) {
            refuses("move where it ended", -1, (x, n) -> x.move(2, n[0]), move);
        }
        for (int move : new int[] {4, 5, 6, 7, 9}) {
            refuses("move that can't be", -1, (x, n) -> x.move(1, n[0]), move);
        }
        for (int k : new int[] {0, 2, 3}) {
            refuses("back to what was never made", -1, (x, n) -> x.back(n[0]), k);
        }
    }

    /** Where there is room for no more: all that is as told but for that is refused, too. */
    private static void full() {
        TwoCards x = new TwoCards();
        for (int i = 0; i < 6; i++) {
            Check.code(x, "slight look " + (i + 1));
        }
        for (int i = 0; i < 12; i++) {
            x.person(i, i % 10, i % 10);
            x.keeps(i, i % 6);
        }
        for (int i = 0; i < 24; i++) {
            x.quarrel(i % 12, (i + 1) % 12, 0, 0);
        }
        for (int i = 0; i < 20; i++) {
            x.feed(0x6d757374, 0x20322020, 0x20202020, 0x20202020, 0x20202020);
        }
        int[] counts = {12, 6, 24, 24, 400};
        Check.due("a thirteenth person", x.person(1, 1, 1), -1);
        Check.due("a seventh code", x.code(), -1);
        Check.due("a twenty-fifth quarrel", x.quarrel(0, 1, 0, 0), -1);
        Check.due("a byte more", x.feed(0, 0, 0, 0, 0), -1);
        for (int what = 0; what < 5; what++) {
            Check.due("count " + what + " when full", x.count(what), counts[what]);
        }
        Check.due("the last code", x.weighs(5, 11, 0, 0, 0, 0, 0, 0), 6);
        Check.due("the last quarrel", x.state(23, 3), 1);
        Check.due("the last quarrel's move", x.move(23, 8), 0);
        Check.due("owed in the first", x.state(0, 3), 2);
        Check.due("a debt of the last", x.debt(11, 0, true), true);
        Check.due("a debt to the last", x.debt(0, 11, true), true);
        Check.due("once", x.debt(11, 0, true), false);
        Check.due("the last takes first", x.first(11), 10);
        Check.due("an image of all", x.image(0), 24);
        Check.due("back", x.back(0), 24);
    }

    /** Of a new object all calls that need somebody or something are refused. */
    private static void nothingTold() {
        for (Case c : CASES) {
            if (!List.of("person", "image", "count").contains(c.name())) {
                TwoCards x = new TwoCards();
                Check.due("new: " + c.name(), c.call().of(x, c.right()), c.due());
                Check.due("new: nobody", x.count(0) + x.count(1) + x.count(2) + x.count(3) + x.count(4), 0);
            }
        }
        TwoCards x = new TwoCards();
        Check.due("new: end 0", x.end(0), 0);
        Check.due("new: end 1", x.end(1), -1);
        Check.due("new: an empty code", x.code(), -3);
        for (int k = 0; k < 4; k++) {
            Check.due("new: back " + k, x.back(k), -1);
            Check.due("new: image " + k, x.image(k), 0);
            Check.due("new: back to it " + k, x.back(k), 0);
        }
    }
}
