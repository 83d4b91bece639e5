/** Sentences of the document that name an edge, in its order, each with answers worked out by hand. */
public final class Edges {
    private static final int PEACE = 4;
    private static final int FIELD = 8;

    public static void main(String[] args) {
        everyKindAndMeans();
        firstThatHolds();
        theFourteenth();
        faultLeavesNothing();
        askExactly();
        askOfEach();
        eightHours();
        fieldInTheLastHour();
        refusedInTheLastHour();
        anHourAlone();
        endsByCounts();
        fieldOrTheOther();
        ninthMove();
        thinksOfAll();
        takesOfNothing();
        owedAheadOfRank();
        waitedForIsNoRing();
        behindARing();
        longRing();
        imageOfAll();
        imageUnderAnother();
        mendBySix();
        allCalls();
        Check.end("Edges");
    }

    private static final String ALL = "slight look 1;slight word 2;slight lie 3;slight blow 9;"
        + "back bow 4;back sorry 5;back letter 6;back public 15;hours 8";

    private static TwoCards two(String first, String second) {
        TwoCards x = new TwoCards();
        Check.due("the first's code", Check.code(x, first), 0);
        Check.due("the second's code", Check.code(x, second), 1);
        x.keeps(x.person(30, 1, 1), 0);
        x.keeps(x.person(40, 1, 2), 1);
        return x;
    }

    private static void moves(TwoCards x, int quarrel, int... moves) {
        for (int move : moves) {
            Check.due("move " + move, x.move(quarrel, move) >= 0, true);
        }
    }

    private static void state(String when, TwoCards x, int quarrel, int... want) {
        for (int what = 0; what < 8; what++) {
            Check.due(when + ": state(" + quarrel + "," + what + ")", x.state(quarrel, what), want[what]);
        }
    }

    private static void everyKindAndMeans() {
        int[] weights = {1, 2, 3, 9, 4, 5, 6, 15};
        TwoCards x = Check.people(2, ALL);
        for (int what = 0; what < 8; what++) {
            Check.due("weighs " + what, x.weighs(0, 0, 1, 0, 0, 0, 0, what), weights[what]);
        }
        Check.due("no refuse clause", x.weighs(0, 0, 1, 0, 0, 0, 0, 8), 0);
        for (int kind = 0; kind < 4; kind++) {
            int q = x.quarrel(0, 1, 0, kind);
            Check.due("the first's kind " + kind, x.state(q, 3), weights[kind]);
            moves(x, q, kind);
            Check.due("the second's kind " + kind, x.state(q, 2), weights[kind]);
        }
        for (int means = 4; means < 8; means++) {
            int q = x.quarrel(0, 1, 0, 3);
            moves(x, q, 3, means, means);
            Check.due("the first's means " + means, x.state(q, 3), Math.max(0, 9 - weights[means]));
            Check.due("the second's means " + means, x.state(q, 2), Math.max(0, 9 - weights[means]));
            Check.due("peace by public alone " + means, x.state(q, 0), means == 7 ? 1 : 0);
        }
    }

    private static void firstThatHolds() {
        TwoCards x = Check.people(2, "slight look 2;slight look 5;back bow 1;back bow 9;slight word 3 if gone > 5;"
            + "slight word 4 if gone = 2;slight word 7;hours 8");
        x.quarrel(0, 1, 0, 0);
        Check.due("the first slight by the first clause", x.state(0, 3), 2);
        moves(x, 0, 0);
        Check.due("a look by the first clause", x.state(0, 2), 2);
        moves(x, 0, 4);
        Check.due("a bow by the first clause", x.state(0, 3), 1);
        moves(x, 0, 1);
        Check.due("a word by the second clause", x.state(0, 2), 6);
        moves(x, 0, 1);
        Check.due("a word by the third clause", x.state(0, 3), 8);
    }

    private static void theFourteenth() {
        TwoCards x = Check.people(2, "hours 8;" + "slight look 1;".repeat(11) + "back bow 2;slight blow 7");
        Check.due("fourteen", x.told(0, 3), 14);
        x.quarrel(0, 1, 0, 3);
        Check.due("a blow by the fourteenth", x.state(0, 3), 7);
        moves(x, 0, 3);
        Check.due("a blow back by it", x.state(0, 2), 7);
        moves(x, 0, 4);
        Check.due("a bow by the thirteenth", x.state(0, 3), 5);
    }

    /** A text with a fault leaves no clause, test, count or number for the next one. */
    private static void faultLeavesNothing() {
        String[] faulty = {"ask 3;hours 2;must 4;x", "slight look 1 if 1=2;slight word 1 if 1=2;back bow 9;back sorry 9;x",
            "slight look 1;slight word 1 if 1=2;back bow 3 if 1=2;x",
            "slight look 1;".repeat(14) + "slight look 1", "refuse 1" + "+1".repeat(23) + "=1" + "+1".repeat(24) + "+1",
            "refuse 1=1;refuse 1=1;refuse not not not not not not not not not not not 1=1"};
        String[] fine = {"slight look 2 if 1=1;slight word 3", "refuse 1" + "+1".repeat(23) + "=1" + "+1".repeat(24),
            "slight look 1;".repeat(13) + "slight look 1", "ask 2;hours 3;must 5", "must 0"};
        int[] clauses = {2, 1, 14, 3, 1};
        int[][] told = {{1, 6, 1}, {1, 6, 1}, {1, 6, 1}, {2, 3, 5}, {1, 6, 0}};
        for (String wrong : faulty) {
            TwoCards x = new TwoCards();
            x.person(1, 1, 1);
            x.person(1, 1, 1);
            for (int i = 0; i < fine.length; i++) {
                Check.due("a fault of " + wrong, Check.code(x, wrong) < -2, true);
                Check.due("behind it " + fine[i], Check.code(x, fine[i]), i);
                Check.due("its clauses", x.told(i, 3), clauses[i]);
                for (int what = 0; what < 3; what++) {
                    Check.due("what " + what + " of " + fine[i], x.told(i, what), told[i][what]);
                }
            }
            Check.due("look", x.weighs(0, 0, 1, 0, 0, 0, 0, 0), 2);
            Check.due("word", x.weighs(0, 0, 1, 0, 0, 0, 0, 1), 3);
            Check.due("bow", x.weighs(0, 0, 1, 0, 0, 0, 0, 4), 0);
            Check.due("refuse", x.weighs(0, 0, 1, 0, 0, 0, 0, 8), 0);
            Check.due("look of the third", x.weighs(2, 0, 1, 0, 0, 0, 0, 0), 1);
            Check.due("word of the third", x.weighs(2, 0, 1, 0, 0, 0, 0, 1), 0);
            Check.due("no look of the fourth", x.weighs(3, 0, 1, 0, 0, 0, 0, 0), 0);
            x.keeps(0, 0);
            x.keeps(1, 0);
            x.quarrel(0, 1, 0, 1);
            moves(x, 0, 1, 4, 5, 3);
            state("by its two clauses alone", x, 0, 0, 0, 3, 3, 1, -1, 2, 5);
        }
        manyFaults();
    }

    /** However many texts had faults, the next one is read whole. */
    private static void manyFaults() {
        TwoCards x = new TwoCards();
        x.person(1, 1, 1);
        x.person(1, 1, 1);
        for (int i = 0; i < 12; i++) {
            Check.due("fifty-one", Check.code(x, "refuse 1" + "+1".repeat(23) + "=1" + "+1".repeat(25)), -2 - (1 + 8 * 105 + 3));
            Check.due("fifteen", Check.code(x, "slight look 1;".repeat(14) + "slight look 1"), -2 - (1 + 8 * 196 + 4));
        }
        Check.due("read", Check.code(x, "slight look 1 if 1=2;slight look 2 if 1=1;refuse 1=2;back bow 3 if 2>1 and not 1=1"), 0);
        Check.due("by the second", x.weighs(0, 0, 1, 0, 0, 0, 0, 0), 2);
        Check.due("not by the bow", x.weighs(0, 0, 1, 0, 0, 0, 0, 4), 0);
        Check.due("no refusal", x.weighs(0, 0, 1, 0, 0, 0, 0, 8), 0);
    }

    /** He may ask from ASK of his own code on; nothing is enough for 0, 15 for 15 alone. */
    private static void askExactly() {
        for (int ask = 0; ask <= 15; ask++) {
            TwoCards x = two("slight look 1;ask " + (15 - ask), "slight look 9;slight word 8;ask " + ask);
            x.quarrel(0, 1, 0, 0);
            Check.due("nine for " + ask, x.may(0) >> 8 & 1, ask <= 9 ? 1 : 0);
            x.quarrel(0, 1, 0, 1);
            Check.due("eight for " + ask, x.may(1) >> 8 & 1, ask <= 8 ? 1 : 0);
            moves(x, 0, 10, 0);
            Check.due("fifteen for " + ask, x.may(0) >> 8 & 1, 1);
            moves(x, 1, 10);
            Check.due("nothing for " + (15 - ask), x.may(1) >> 8 & 1, ask == 15 ? 1 : 0);
        }
    }

    /** Of quarrels by unlike codes each is by its own, asked one behind the other. */
    private static void askOfEach() {
        TwoCards x = two("slight look 3;ask 2", "slight look 3;ask 4");
        x.quarrel(0, 1, 0, 0);
        x.quarrel(1, 0, 0, 0);
        for (int i = 0; i < 2; i++) {
            Check.due("the second of four", x.may(0), Check.bits(0, 1, 2, 3, 10));
            Check.due("the first of two", x.may(1), Check.bits(0, 1, 2, 3, 8, 10));
            Check.due("the second can't", x.move(0, 8), -1);
        }
        Check.due("the first can", x.move(1, 8), 0);
        Check.due("the second still can't", x.move(0, 8), -1);
    }

    /** Nine moves, seven hours gone ahead of the last one. */
    private static void eightHours() {
        TwoCards x = Check.people(2, "slight look 1;slight word 3 if gone = 7;ask 15;hours 8;must 2");
        x.quarrel(0, 1, 0, 0);
        state("at first", x, 0, 0, 0, 0, 1, 1, -1, 8, 1);
        for (int i = 0; i < 7; i++) {
            Check.due("goes on", x.move(0, 10), 0);
            Check.due("hours left", x.state(0, 6), 7 - i);
            Check.due("whose turn", x.state(0, 4), i % 2);
        }
        Check.due("a word in the last hour", x.move(0, 1), 4);
        state("let lie", x, 0, 4, 2, 0, 4, -1, -1, 0, 9);
        Check.due("the ninth", x.history(0, 8), 1);
        Check.due("no tenth", x.history(0, 9), -1);
        Check.due("none done any more", x.move(0, 10), -1);
        Check.due("may none", x.may(0), 0);
        TwoCards y = Check.people(2, "slight look 1;ask 1;hours 8;must 1");
        y.quarrel(0, 1, 0, 0);
        Check.due("as long as it can be", y.brief(0, 18, -1), 8);
        for (int k = 0; k < 8; k++) {
            Check.due("move " + k, y.brief(0, 18, k), k % 2 == 0 ? 1 : 0);
        }
        Check.due("no ninth", y.brief(0, 18, 8), -1);
    }

    private static void fieldInTheLastHour() {
        TwoCards x = Check.people(2, "slight look 1;ask 1;hours 8;must 1");
        x.quarrel(0, 1, 0, 0);
        moves(x, 0, 10, 10, 10, 10, 10, 10, 8);
        state("asked", x, 0, 0, 0, 0, 1, 0, 1, 1, 8);
        Check.due("may come or refuse", x.may(0), Check.bits(8, 9));
        Check.due("ends", x.ends(0), Check.bits(FIELD, 13));
        Check.due("needn't", x.must(0), 0);
        Check.due("never", x.late(0), -2);
        Check.due("comes", x.move(0, 8), 2);
        state("field", x, 0, 2, 0, 0, 1, -1, 1, 1, 9);
        Check.due("must", x.must(0), 1);
        Check.due("behind nine", x.late(0), 9);
        Check.due("ends there", x.ends(0), Check.bits(FIELD));
        Check.due("one way", x.ways(0, FIELD), 1);
        Check.due("no move more", x.brief(0, FIELD, -1), 0);
        Check.due("none of them", x.brief(0, FIELD, 0), -1);
        Check.due("nobody's", x.game(0, 1), -1);
    }

    private static void refusedInTheLastHour() {
        TwoCards x = Check.people(2, "slight look 1;ask 1;hours 2;must 1;refuse gone = 1");
        x.quarrel(0, 1, 0, 0);
        moves(x, 0, 8);
        Check.due("refused", x.move(0, 9), 3);
        state("nobody is the less", x, 0, 3, 0, 0, 1, -1, 1, 1, 3);
        TwoCards y = Check.people(2, "slight look 1;ask 1;hours 3;must 1;refuse gone = 1");
        y.quarrel(0, 1, 0, 0);
        moves(y, 0, 0, 8);
        Check.due("refused too late", y.move(0, 9), 3);
        state("the second is the less", y, 0, 3, 2, 1, 1, -1, 0, 1, 4);
    }

    /** In one hour all that the second does lets it lie, if he asks, too; peace alone is ahead of it. */
    private static void anHourAlone() {
        for (int move : new int[] {0, 1, 2, 3, 8, 10}) {
            TwoCards x = Check.people(2, "slight look 1;slight word 0;ask 1;hours 1;must 1");
            x.quarrel(0, 1, 0, 0);
            Check.due("move " + move, x.move(0, move), 4);
            state("let lie", x, 0, 4, move == 0 ? 3 : 2, move == 0 ? 1 : 0, 1, -1, move == 8 ? 1 : -1, 0, 2);
        }
        TwoCards x = Check.people(2, "slight look 1;hours 1");
        x.quarrel(0, 1, 0, 1);
        state("peace at once", x, 0, 1, 0, 0, 0, -1, -1, 1, 1);
        // peace in the last hour is peace
        TwoCards y = Check.people(2, "slight look 1;back bow 1;hours 2");
        y.quarrel(0, 1, 0, 0);
        moves(y, 0, 10);
        Check.due("a bow at last", y.move(0, 4), 1);
        state("peace at last", y, 0, 1, 0, 0, 0, -1, -1, 1, 3);
    }

    /** Of each way to end: it goes on no more, nobody takes it, it waits for none. */
    private static void endsByCounts() {
        int[][] ways = {{10, 4}, {8, 8}, {8, 9}, {10, 10, 10}};
        for (int i = 0; i < 4; i++) {
            TwoCards x = Check.people(3, "slight look 1;slight word 2;back bow 1;hours 3");
            x.quarrel(0, 1, 0, 0);
            x.quarrel(2, 1, 0, 1);
            Check.due("both go on", x.count(3), 2);
            Check.due("it waits", x.waits(0), Check.bits(1));
            moves(x, 0, ways[i]);
            Check.due("how it ended", x.state(0, 0), i + 1);
            Check.due("one goes on", x.count(3), 1);
            Check.due("two there are", x.count(2), 2);
            Check.due("it waits for none", x.waits(0), 0);
            Check.due("it is in no ring", x.ring(0), 0);
            Check.due("none goes on", x.first(0), -2);
            Check.due("the other one goes on", x.first(1), 1);
            Check.due("its end alone", Integer.bitCount(x.ends(0)), 1);
            Check.due("as it is told", x.ends(0) >> 4 * x.state(0, 0) + x.state(0, 1), 1);
        }
    }

    /** That the other is the less is better than the field, though not as good as neither. */
    private static void fieldOrTheOther() {
        String kinds = "slight look 1;slight word 1;slight lie 1;slight blow 1;";
        // the first: any slight lets the second ask, and the first comes; waiting makes the second the less
        TwoCards x = two(kinds + "ask 15;must 15;hours 4", kinds + "ask 2;must 1;hours 4");
        x.quarrel(0, 1, 0, 0);
        moves(x, 0, 10);
        Check.due("the second is the less", x.game(0, 0), 18);
        Check.due("by what weighs nothing", x.game(0, 1), 4);
        moves(x, 0, 0);
        Check.due("or else the field", x.game(0, 0), FIELD);
        Check.due("the second asks", x.game(0, 1), 8);
        // the second: the first is the less whenever it lies
        TwoCards y = two(kinds + "ask 1;must 0;hours 3", kinds + "ask 15;must 15;hours 3");
        y.quarrel(0, 1, 0, 0);
        Check.due("the first is the less", y.game(0, 0), 17);
        Check.due("the second waits", y.game(0, 1), 10);
        moves(y, 0, 0);
        Check.due("or else", y.game(0, 0), FIELD);
        Check.due("the first asks", y.game(0, 1), 8);
    }

    /** The ninth move told otherwise, not heard, or hung on. */
    private static void ninthMove() {
        TwoCards x = Check.people(2, "slight look 1;slight word 3 if gone = 7;ask 15;hours 8;must 2");
        x.quarrel(0, 1, 0, 0);
        Check.due("no second move", x.otherwise(0, 1, 10), -1);
        Check.due("the first alone", x.doubt(0, 1), Check.bits(PEACE, 16));
        Check.due("no second to be unsure of", x.doubt(0, 2), -1);
        moves(x, 0, 10, 10, 10, 10, 10, 10, 10, 1);
        Check.due("a look at last", x.otherwise(0, 8, 0), 18);
        Check.due("nothing at last", x.otherwise(0, 8, 10), 16);
        Check.due("a bow at last", x.otherwise(0, 8, 4), 16);
        Check.due("an ask at last", x.otherwise(0, 8, 8), -2);
        Check.due("a refusal at last", x.otherwise(0, 8, 9), -2);
        Check.due("a tenth", x.otherwise(0, 9, 10), -1);
        Check.due("another at first", x.otherwise(0, 0, 10), -1);
        Check.due("the second looks", x.otherwise(0, 1, 0), 18);
        Check.due("all heard", x.doubt(0, 0), Check.bits(18));
        Check.due("the last unsure", x.doubt(0, 256), Check.bits(16, 18));
        Check.due("the waits unsure", x.doubt(0, 254), Check.bits(18));
        Check.due("the first unsure", x.doubt(0, 1), Check.bits(PEACE, 18));
        Check.due("both unsure", x.doubt(0, 257), Check.bits(PEACE, 16, 18));
        Check.due("all unsure", x.doubt(0, 511), Check.bits(PEACE, 16, 18));
        Check.due("more than all", x.doubt(0, 512), -1);
        Check.due("it hangs on the first and the last", x.hangs(0), Check.bits(0, 8));
    }

    /** By his own code alone, each of the history by its own tests; what isn't slight or means weighs nothing. */
    private static void thinksOfAll() {
        TwoCards x = two("slight look 1 if gone = 0 and mine = 0;slight look 4 if owed = 0 and mine = 1 and gone = 0;"
            + "slight look 7 if gone = 1 and owed = 1 and mine = 4;slight lie 5 if age = 40 and hisage = 30 and gone = 2",
            "slight look 2");
        x.quarrel(0, 1, 0, 0);
        moves(x, 0, 0, 0, 2);
        Check.due("owed the first, he thinks", x.thinks(0, 0, 0), 9);
        Check.due("owed the second, the first thinks", x.thinks(0, 0, 1), 8);
        Check.due("owed the first, the second thinks", x.thinks(0, 1, 0), 2);
        Check.due("owed the second, he thinks", x.thinks(0, 1, 1), 4);
        TwoCards y = Check.people(2, "must 3;ask 2;hours 6;slight look 2;refuse 1=1;slight blow 9;back letter 1");
        y.quarrel(0, 1, 0, 0);
        moves(y, 0, 10, 10, 8, 8);
        Check.due("waits, asks, comes", y.thinks(0, 0, 1), 2);
        Check.due("the second of it", y.thinks(0, 1, 1), 2);
        Check.due("nothing is owed the first", y.thinks(0, 1, 0), 0);
        y.quarrel(0, 1, 0, 0);
        moves(y, 1, 8, 9);
        Check.due("refused", y.thinks(1, 0, 1), 2);
        Check.due("fifteen at most", thoughtOf(y, 3, 3, 3, 3), 15);
        Check.due("one less", thoughtOf(y, 3, 3, 3, 6), 14);
    }

    /** What both think the second is owed where the first did these, the second waited. */
    private static int thoughtOf(TwoCards x, int kind, int... moves) {
        int q = x.quarrel(0, 1, 0, kind);
        for (int i = 0; i < 2 && x.state(q, 0) == 0; i++) {
            moves(x, q, 10, moves[i + 1]);
        }
        Check.due("both think alike", x.thinks(q, 0, 1), x.thinks(q, 1, 1));
        Check.due("as it is", x.thinks(q, 0, 1), x.state(q, 3));
        return x.thinks(q, 0, 1);
    }

    /** Nothing owed, against one of no rank: it is taken all the same. */
    private static void takesOfNothing() {
        TwoCards x = new TwoCards();
        Check.code(x, "slight look 2");
        for (int i = 0; i < 2; i++) {
            x.keeps(x.person(0, 0, 0), 0);
        }
        Check.due("none", x.first(0), -2);
        x.quarrel(0, 1, 0, 0);
        Check.due("the first's", x.first(0), 0);
        Check.due("the second's", x.first(1), 0);
        x.quarrel(0, 1, 0, 0);
        Check.due("the least number", x.first(0), 0);
        Check.due("for him too", x.first(1), 0);
    }

    private static void owedAheadOfRank() {
        TwoCards x = new TwoCards();
        Check.code(x, "slight look 1;slight word 2");
        for (int rank : new int[] {5, 9, 0, 9}) {
            x.keeps(x.person(30, rank, 0), 0);
        }
        x.quarrel(0, 1, 0, 0);
        Check.due("nothing owed, of the greatest rank", x.first(0), 0);
        x.quarrel(2, 0, 0, 0);
        Check.due("one owed, of the least", x.first(0), 1);
        x.quarrel(3, 0, 0, 0);
        Check.due("one owed, of the greatest", x.first(0), 2);
        x.quarrel(2, 0, 0, 1);
        Check.due("two owed, of the least", x.first(0), 3);
        x.quarrel(1, 0, 0, 0);
        Check.due("one more of the greatest", x.first(0), 3);
        moves(x, 3, 10, 10);
        Check.due("hours don't count", x.first(0), 3);
    }

    /** look 2, word 4, lie 6. */
    private static TwoCards alike(int many) {
        TwoCards x = new TwoCards();
        Check.code(x, "slight look 2;slight word 4;slight lie 6;back bow 15;hours 8");
        for (int i = 0; i < many; i++) {
            x.keeps(x.person(30, 5, 0), 0);
        }
        return x;
    }

    private static void waitedForIsNoRing() {
        TwoCards x = alike(4);
        x.quarrel(0, 1, 0, 0);
        x.quarrel(2, 1, 0, 1);
        x.quarrel(3, 2, 0, 2);
        Check.due("0 waits for 1", x.waits(0), Check.bits(1));
        Check.due("1 waits for 2", x.waits(1), Check.bits(2));
        Check.due("2 waits for none", x.waits(2), 0);
        for (int q = 0; q < 3; q++) {
            Check.due("no ring " + q, x.ring(q), 0);
        }
    }

    /** Three in a ring, one that waits for it, and one that waits for that. */
    private static void behindARing() {
        TwoCards x = alike(5);
        x.quarrel(0, 1, 0, 0);
        x.quarrel(1, 2, 0, 0);
        x.quarrel(2, 0, 0, 0);
        x.quarrel(0, 3, 0, 0);
        x.quarrel(3, 4, 0, 0);
        int[] waits = {2, 0, 1, 2, 3};
        for (int q = 0; q < 5; q++) {
            Check.due(q + " waits for one", x.waits(q), Check.bits(waits[q]));
            Check.due("ring " + q, x.ring(q), q < 3 ? 1 : 0);
        }
    }

    /** Twelve people around; of the last two quarrels no ring, then a second ring beside the first. */
    private static void longRing() {
        TwoCards x = alike(12);
        for (int p = 0; p < 12; p++) {
            x.quarrel(p, (p + 1) % 12, 0, 0);
        }
        for (int q = 0; q < 12; q++) {
            Check.due("waits " + q, x.waits(q), Check.bits((q + 11) % 12));
            Check.due("ring " + q, x.ring(q), 1);
        }
        moves(x, 11, 10, 4);
        for (int q = 0; q < 12; q++) {
            Check.due("broken " + q, x.ring(q), 0);
        }
        Check.due("the first waits no more", x.waits(0), 0);
        TwoCards y = alike(4);
        y.quarrel(0, 1, 0, 0);
        y.quarrel(0, 1, 0, 0);
        for (int i = 2; i < 24; i++) {
            y.quarrel(2, 3, 0, 0);
        }
        Check.due("one of both", y.waits(0), 0);
        Check.due("the other waits", y.waits(1), Check.bits(0));
        Check.due("no ring of both", y.ring(0) + y.ring(1), 0);
        Check.due("the last waits", y.waits(23), Check.bits(2));
        Check.due("no ring of the last", y.ring(23), 0);
        moves(y, 23, 2);
        Check.due("the first of three takes the last", y.first(2), 23);
        Check.due("the second doesn't", y.first(3), 2);
        Check.due("a ring of the last", y.ring(23), 1);
        Check.due("and one ahead", y.ring(2), 1);
        Check.due("between them none", y.ring(3), 0);
        Check.due("it waits for both", y.waits(3), Check.bits(2, 23));
    }

    /** Whatever is done behind an image, all is as it was when it is gone back to. */
    private static void imageOfAll() {
        TwoCards x = Answers.world();
        Check.due("image", x.image(2), 3);
        change(x);
        Check.due("back", x.back(2), 3);
        TwoCards y = Answers.world();
        y.image(2);
        Answers.same("behind an image", Answers.of(x), Answers.of(y));
    }

    private static void change(TwoCards x) {
        x.move(0, 3);
        x.move(0, 5);
        x.move(1, 10);
        x.keeps(0, 1);
        x.keeps(1, -1);
        x.keeps(2, 1);
        for (int p = 0; p < 3; p++) {
            for (int o = 0; o < 3; o++) {
                x.debt(p, o, !(p == 0 && o == 1 || p == 2 && o == 0));
            }
        }
        x.person(9, 9, 9);
        x.keeps(3, 0);
        x.quarrel(3, 0, 0, 0);
        x.move(3, 0);
    }

    /** Others stood where those of an image stood, with other codes and another history. */
    private static void imageUnderAnother() {
        TwoCards x = new TwoCards();
        x.image(3);
        Answers.build(x);
        x.image(2);
        Check.due("back to nobody", x.back(3), 0);
        Check.due("nobody", x.count(0), 0);
        Check.due("codes stay", x.count(1), 2);
        for (int i = 0; i < 5; i++) {
            x.person(99 - i, 9 - i, 9 - i);
            x.keeps(i, i % 2);
        }
        x.debt(1, 2, true);
        x.debt(2, 0, true);
        x.quarrel(1, 0, 0, 1);
        x.quarrel(0, 1, 9, 0);
        x.quarrel(4, 3, 1, 0);
        x.quarrel(3, 4, 1, 0);
        for (int q = 0; q < 4; q++) {
            x.move(q, 10);
            x.move(q, 8);
        }
        x.image(0);
        Check.due("back to all", x.back(2), 3);
        TwoCards y = new TwoCards();
        y.image(3);
        Answers.build(y);
        y.image(2);
        Answers got = Answers.of(x);
        Answers.same("behind others", got.without("back 0", "moves 0", "quarrels 0", "debt 0"),
            Answers.of(y).without("back 0", "moves 0", "quarrels 0", "debt 0"));
        Check.due("the others stand in theirs", x.back(0), 4);
        Check.due("five people", x.count(0), 5);
    }

    /** Codes of which all six clauses are needed, and no fewer; the model agrees. */
    private static void mendBySix() {
        String[] texts = {
            "slight look 1;slight word 5;slight lie 3;slight blow 2;back letter 1 if mine>1 and owed=4;back letter 0 if mine>1 and owed=9;"
                + "back letter 1 if mine=3 and owed=10;back letter 1 if mine>1 and owed=3;back letter 0 if mine>0 and owed=7;"
                + "back letter 1 if mine=3;ask 2;hours 7;must 1",
            "slight look 4;slight word 0;slight lie 3;slight blow 1;back letter 1 if mine>0 and owed=5;back letter 1 if mine>1 and owed=6;"
                + "back letter 1 if mine>1 and owed=10;back letter 1 if mine>0 and owed=8;back letter 0 if mine=2 and owed=4;"
                + "back letter 0 if mine=2;ask 3;hours 6;must 1",
            "slight look 3 if gone=3;slight word 1 if gone=3;slight lie 4;slight blow 4;back letter 1 if gone=5 and mine>0 and owed=5;"
                + "back letter 0 if mine=4 and owed=7;back letter 1 if gone=5 and mine>1 and owed=4;back letter 0 if mine>1 and owed=8;"
                + "back letter 1 if mine>0 and owed=9;back letter 0 if mine=4;ask 3;hours 6;must 2",
            "slight look 3;slight word 5;slight lie 1;slight blow 4;back public 1 if mine=4 and owed=8;back public 0 if gone=3 and mine=1 and owed=9;"
                + "back letter 1 if mine>1 and owed=6;back public 1 if mine=4 and owed=5;back letter 0 if mine=4 and owed=5;"
                + "back sorry 1 if mine=1 and owed=10;ask 2;hours 4;must 1",
            "slight look 1;slight word 3;slight blow 1 if gone=3;back letter 1 if mine=2 and owed=3;back bow 1 if mine=2 and owed=2;"
                + "back public 1 if mine=2 and owed=4;back letter 0 if gone=6;back bow 1 if mine>2 and owed=1;back public 0 if mine=3;"
                + "ask 2;hours 5"};
        int[] kinds = {0, 0, 3, 1, 0};
        int[] sizes = {6, 6, 6, 5, 4};
        for (int i = 0; i < texts.length; i++) {
            TwoCards x = Check.people(2, texts[i]);
            Model model = new Model();
            model.person(30, 5, 0);
            model.person(30, 5, 1);
            model.tape.append(texts[i]);
            model.code();
            int set = x.mend(0, 0, 1, 0, kinds[i]);
            Check.due("how many mend " + texts[i], Integer.bitCount(set), sizes[i]);
            Check.due("by the model " + texts[i], set, model.mend(0, 0, 1, 0, kinds[i]));
        }
    }

    /** What is asked last of 512 calls is answered as at first. */
    private static void allCalls() {
        String dear = "slight look 1;slight word 2;slight lie 3;slight blow 5;back bow 1 if mine > 1;back sorry 1 if gone > 4;"
            + "back letter 2 if owed = 3;back public 1;back bow 1;back sorry 1;ask 1;hours 8;must 1";
        TwoCards x = new TwoCards();
        for (int i = 0; i < dear.length(); i += 20) {
            x.feed(bytes(dear, i), bytes(dear, i + 4), bytes(dear, i + 8), bytes(dear, i + 12), bytes(dear, i + 16));
        }
        x.end(dear.length());
        Check.due("code", x.code(), 0);
        x.person(30, 1, 1);
        x.person(30, 1, 2);
        x.keeps(0, 0);
        x.keeps(1, 0);
        x.quarrel(0, 1, 0, 3);
        int calls = (dear.length() + 19) / 20 + 7;
        long[] first = dearest(x);
        for (calls += 5; calls + 5 <= 512; calls += 5) {
            long[] again = dearest(x);
            for (int i = 0; i < 5; i++) {
                Check.due("call " + (calls + i), again[i], first[i]);
            }
        }
    }

    private static long[] dearest(TwoCards x) {
        return new long[] {x.mend(0, 0, 1, 0, 3), x.ways(0, 18), x.doubt(0, 1), x.harsh(0, 0, 1, 0), x.brief(0, 19, 5)};
    }

    private static int bytes(String text, int at) {
        int number = 0;
        for (int i = at; i < at + 4; i++) {
            number = number << 8 | (i < text.length() ? text.charAt(i) : 0);
        }
        return number;
    }
}
