/** Promises 15 to 20: ends, ways, brief, must, late, game. */
public final class Ways {
    private static final String CARD = "slight look 2;back bow 1;back sorry 0;ask 1;hours 2;must 1";
    private static final int PEACE = 4;
    private static final int FIELD = 8;

    public static void main(String[] args) {
        twoHours();
        ended();
        brief();
        manyWays();
        mustAndLate();
        game();
        gameRanks();
        byDebtsNow();
        wrong();
        Check.end("Ways");
    }

    /**
     * The second may look (owed both then: each of ten moves of the first lets it lie, both less), do nothing
     * of weight in four ways (nine moves of the first each: the second is the less), or ask.
     */
    private static void twoHours() {
        TwoCards x = Check.people(2, CARD);
        x.quarrel(0, 1, 0, 0);
        Check.due("ends", x.ends(0), Check.bits(FIELD, 13, 18, 19));
        long[] ways = new long[20];
        ways[FIELD] = 1;
        ways[13] = 1;
        ways[18] = 36;
        ways[19] = 10;
        for (int outcome = 0; outcome < 20; outcome++) {
            Check.due("ways " + outcome, x.ways(0, outcome), ways[outcome]);
        }
        int[][] brief = {{FIELD, 8, 8}, {13, 8, 9}, {18, 1, 0}, {19, 0, 0}};
        for (int[] b : brief) {
            Check.due("brief of " + b[0], x.brief(0, b[0], -1), 2);
            Check.due("its first", x.brief(0, b[0], 0), b[1]);
            Check.due("its second", x.brief(0, b[0], 1), b[2]);
            Check.due("none behind", x.brief(0, b[0], 2), -1);
            Check.due("none at all below", x.brief(0, b[0], -2), -1);
        }
        Check.due("no peace", x.brief(0, PEACE, -1), -2);
        Check.due("no peace, k 0", x.brief(0, PEACE, 0), -2);
        Check.due("no peace, k 99", x.brief(0, PEACE, 99), -2);
        Check.due("no peace, k -2", x.brief(0, PEACE, -2), -1);
        Check.due("no outcome 0", x.brief(0, 0, -1), -2);
        x.move(0, 8);
        Check.due("ends when asked", x.ends(0), Check.bits(FIELD, 13));
        Check.due("ways when asked", x.ways(0, FIELD), 1);
        Check.due("no more", x.ways(0, 18), 0);
    }

    private static void ended() {
        TwoCards x = Check.people(2, CARD);
        x.quarrel(0, 1, 0, 0);
        x.move(0, 8);
        x.move(0, 9);
        Check.due("ends", x.ends(0), Check.bits(13));
        Check.due("one way", x.ways(0, 13), 1);
        Check.due("no way", x.ways(0, FIELD), 0);
        Check.due("brief 0", x.brief(0, 13, -1), 0);
        Check.due("no move of it", x.brief(0, 13, 0), -1);
        Check.due("not so", x.brief(0, FIELD, -1), -2);
        Check.due("not so, k 0", x.brief(0, FIELD, 0), -2);
        Check.due("game", x.game(0, 0), 13);
        Check.due("nobody's move", x.game(0, 1), -1);
    }

    /** Peace takes three moves at least (the second can't take back what he is owed). */
    private static void brief() {
        TwoCards x = Check.people(2, "slight look 3;back bow 2;back letter 3;hours 6;ask 15");
        x.quarrel(0, 1, 0, 0);
        Check.due("peace in", x.brief(0, PEACE, -1), 2);
        Check.due("first: a word of no weight", x.brief(0, PEACE, 0), 1);
        Check.due("second: the letter", x.brief(0, PEACE, 1), 6);
        Check.due("no field", x.brief(0, FIELD, -1), -2);
        Check.due("six hours", x.brief(0, 18, -1), 6);
        // the first of several: the second looks, and takes all of it back by a letter in his last hour
        int[] first = {0, 0, 1, 0, 6, 0};
        for (int k = 0; k < 6; k++) {
            Check.due("move " + k, x.brief(0, 18, k), first[k]);
        }
        // both less: looks all the way
        Check.due("both", x.brief(0, 19, -1), 6);
        for (int k = 0; k < 6; k++) {
            Check.due("look " + k, x.brief(0, 19, k), 0);
        }
        // peace by two bows, when there is no letter
        TwoCards y = Check.people(2, "slight look 3;back bow 2;hours 6");
        y.quarrel(0, 1, 0, 0);
        int[] peace = {1, 4, 1, 4};
        Check.due("peace in four", y.brief(0, PEACE, -1), 4);
        for (int k = 0; k < 4; k++) {
            Check.due("move " + k, y.brief(0, PEACE, k), peace[k]);
        }
        Check.due("none behind", y.brief(0, PEACE, 4), -1);
    }

    /** Nobody can take back or ask for long: five moves an hour, four slights and waiting, eight hours. */
    private static void manyWays() {
        TwoCards x = Check.people(2, "slight look 1;back bow 0;ask 15;hours 8");
        x.quarrel(0, 1, 0, 0);
        // as long as nothing is owed the first, the second has 5 moves; the first always has 9
        long all = 0;
        for (int outcome = 0; outcome < 20; outcome++) {
            all += x.ways(0, outcome);
        }
        // the second's k-th move: 5 while he has slighted never (4 of these weigh nothing), 9 thereafter
        long never = 1;
        long once = 0;
        for (int i = 0; i < 4; i++) {
            once = once * 9 + never;
            never = never * 4;
        }
        Check.due("all ways", all, (never + once) * 9 * 9 * 9 * 9);
        Check.due("ways of one less", x.ways(0, 18), never * 9 * 9 * 9 * 9);
        Check.due("ways of both less", x.ways(0, 19), once * 9 * 9 * 9 * 9);
        Check.due("ends", x.ends(0), Check.bits(18, 19));
    }

    private static void mustAndLate() {
        TwoCards x = Check.people(2, CARD);
        x.quarrel(0, 1, 0, 0);
        Check.due("needn't", x.must(0), 0);
        Check.due("never yet", x.late(0), -2);
        x.move(0, 8);
        Check.due("he may refuse still", x.must(0), 0);
        Check.due("never still", x.late(0), -2);
        x.move(0, 8);
        Check.due("it is there", x.must(0), 1);
        Check.due("behind the third", x.late(0), 3);
        x.quarrel(0, 1, 0, 0);
        x.move(1, 8);
        x.move(1, 9);
        Check.due("refused", x.must(1), 0);
        Check.due("refused, never", x.late(1), -2);
        x.quarrel(0, 1, 0, 1);
        Check.due("peace", x.must(2), 0);
        Check.due("peace, never", x.late(2), -2);
    }

    /** The second fears to be the less and asks; the first fears to refuse and comes. */
    private static void game() {
        TwoCards x = Check.people(2, CARD);
        x.quarrel(0, 1, 0, 0);
        Check.due("game", x.game(0, 0), FIELD);
        Check.due("he asks", x.game(0, 1), 8);
        x.move(0, 8);
        Check.due("he comes", x.game(0, 1), 8);
        Check.due("the field", x.game(0, 0), FIELD);
        // who may refuse does so rather than to come
        TwoCards y = Check.people(2, CARD + ";refuse 1=1");
        y.quarrel(0, 1, 0, 0);
        Check.due("refused, none less", y.game(0, 0), 12);
        Check.due("he asks all the same", y.game(0, 1), 8);
        y.move(0, 8);
        Check.due("he refuses", y.game(0, 1), 9);
        // words that take all back keep the peace: the least move of no weight, then the bow
        TwoCards z = Check.people(2, "slight look 2;back bow 2;ask 1;hours 2;must 1");
        z.quarrel(0, 1, 0, 0);
        Check.due("peace", z.game(0, 0), PEACE);
        Check.due("the least move to it", z.game(0, 1), 1);
        z.move(0, 10);
        Check.due("the bow", z.game(0, 1), 4);
    }

    /** Each rank against the next: not the less, then no field, then the other not the less. */
    private static void gameRanks() {
        // one hour: whatever the second does, it lies; he is the less: of several the least move, if alike
        TwoCards x = Check.people(2, "slight look 2;hours 1;must 1");
        x.quarrel(0, 1, 0, 0);
        Check.due("he is the less, the other isn't", x.game(0, 0), 18);
        Check.due("so no look but a word", x.game(0, 1), 1);
        // the first is the less himself: a look is as bad, a bow spares the other
        TwoCards y = Check.people(2, "slight look 2;back bow 1;hours 2;must 2;ask 15");
        y.quarrel(0, 1, 0, 0);
        y.move(0, 0);
        Check.due("both owed: a bow spares the other", y.game(0, 1), 4);
        Check.due("the first is the less alone", y.game(0, 0), 17);
        // rather the other the less than the field: must 3 of the second, ask 1 of the first
        TwoCards z = new TwoCards();
        Check.code(z, "slight look 2;hours 3;must 1;ask 1");
        Check.code(z, "slight look 2;hours 3;must 15;ask 1");
        z.person(1, 1, 1);
        z.person(1, 1, 1);
        z.keeps(0, 0);
        z.keeps(1, 1);
        z.quarrel(0, 1, 0, 0);
        z.move(0, 0);
        // the first is owed 2: if it lies he is the less; he asks, and the second comes rather than refuse
        Check.due("the first asks", z.game(0, 1), 8);
        Check.due("field", z.game(0, 0), FIELD);
        z.quarrel(0, 1, 0, 0);
        // the second: to ask is the field; to wait lets it lie, none the less
        Check.due("the second lets it lie", z.game(1, 0), 16);
        Check.due("by a word", z.game(1, 1), 1);
        // whatever the first does, the second is the less: of several the least move
        TwoCards w = Check.people(2, "slight look 2;ask 1;hours 3;must 2");
        w.quarrel(0, 1, 0, 0);
        w.move(0, 10);
        Check.due("the first looks once more", w.game(0, 1), 0);
        Check.due("the second asks too late and is the less", w.game(0, 0), 18);
    }

    private static void byDebtsNow() {
        TwoCards x = Check.people(2, CARD + ";refuse owes=1");
        x.quarrel(0, 1, 0, 0);
        x.move(0, 8);
        Check.due("ends without a debt", x.ends(0), Check.bits(FIELD, 13));
        Check.due("game without a debt", x.game(0, 0), FIELD);
        x.debt(0, 1, true);
        Check.due("ends with a debt", x.ends(0), Check.bits(FIELD, 12));
        Check.due("brief with a debt", x.brief(0, 12, 0), 9);
        Check.due("game with a debt", x.game(0, 0), 12);
        x.debt(0, 1, false);
        Check.due("ends without again", x.ends(0), Check.bits(FIELD, 13));
    }

    private static void wrong() {
        TwoCards x = Check.people(2, CARD);
        x.quarrel(0, 1, 0, 0);
        for (int q : new int[] {-1, 1, 24, Integer.MIN_VALUE}) {
            Check.due("ends", x.ends(q), -1);
            Check.due("ways", x.ways(q, FIELD), -1);
            Check.due("brief", x.brief(q, FIELD, -1), -1);
            Check.due("must", x.must(q), -1);
            Check.due("late", x.late(q), -1);
            Check.due("game", x.game(q, 0), -1);
        }
        for (int outcome : new int[] {-1, 20, 32, Integer.MAX_VALUE}) {
            Check.due("ways to " + outcome, x.ways(0, outcome), -1);
            Check.due("brief to " + outcome, x.brief(0, outcome, -1), -1);
        }
        Check.due("ways to 0", x.ways(0, 0), 0);
        Check.due("ways to 19", x.ways(0, 19), 10);
        Check.due("game 2", x.game(0, 2), -1);
        Check.due("game -1", x.game(0, -1), -1);
    }
}
