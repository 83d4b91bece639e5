/** Promises 25 to 32: waits, ring, first, harsh, mend, image, back, count. */
public final class Others {
    private static final String CARD = "slight look 2;back bow 1;back sorry 0;ask 1;hours 2;must 1";
    private static final int FIELD = 8;

    public static void main(String[] args) {
        first();
        waits();
        ring();
        wrongQuarrels();
        harsh();
        mend();
        mendFewest();
        mendFirstSix();
        images();
        imagesOfNothing();
        imagesKeepHistories();
        counts();
        Check.end("Others");
    }

    /** People of ranks as told, who keep one code: look 2, word 4, lie 6. */
    private static TwoCards ranked(int... ranks) {
        TwoCards x = new TwoCards();
        Check.code(x, "slight look 2;slight word 4;slight lie 6;back bow 15;hours 8");
        for (int rank : ranks) {
            x.keeps(x.person(30, rank, 1), 0);
        }
        return x;
    }

    private static void first() {
        TwoCards x = ranked(1, 5, 3, 5);
        Check.due("none goes on", x.first(0), -2);
        Check.due("nobody", x.first(4), -1);
        Check.due("person -1", x.first(-1), -1);
        x.quarrel(0, 1, 0, 0);
        Check.due("the only one, nothing owed him", x.first(0), 0);
        Check.due("the only one of the second", x.first(1), 0);
        Check.due("none of a third", x.first(2), -2);
        x.quarrel(2, 0, 0, 0);
        Check.due("most owed him", x.first(0), 1);
        x.quarrel(3, 0, 0, 0);
        Check.due("of these the greatest rank", x.first(0), 2);
        x.quarrel(1, 0, 0, 0);
        Check.due("of these the least number", x.first(0), 2);
        x.quarrel(2, 0, 0, 1);
        Check.due("more is owed ahead of ranks", x.first(0), 4);
        x.move(4, 10);
        Check.due("peace", x.move(4, 4), 1);
        Check.due("an ended one isn't taken", x.first(0), 2);
        x.quarrel(2, 3, 0, 3);
        Check.due("at peace at once", x.first(3), 2);
        // what is owed him, not what he owes
        TwoCards y = ranked(1, 1, 1);
        y.quarrel(0, 1, 0, 2);
        y.quarrel(2, 0, 0, 0);
        Check.due("owed two ahead of owing six", y.first(0), 1);
        Check.due("owed six", y.first(1), 0);
        // the rank of the other one, whichever side he is on
        TwoCards z = ranked(9, 1, 2);
        z.quarrel(0, 1, 0, 0);
        z.quarrel(0, 2, 0, 0);
        Check.due("against the greater rank", z.first(0), 1);
        Check.due("the only one", z.first(1), 0);
    }

    private static void waits() {
        TwoCards x = ranked(1, 1, 1, 1);
        x.quarrel(0, 1, 0, 0);
        Check.due("nobody else", x.waits(0), 0);
        x.quarrel(2, 1, 0, 1);
        Check.due("the second takes another first", x.waits(0), Check.bits(1));
        Check.due("that waits for none", x.waits(1), 0);
        x.quarrel(3, 0, 0, 1);
        Check.due("both take others first", x.waits(0), Check.bits(1, 2));
        Check.due("peace waits not", x.waits(x.quarrel(0, 1, 0, 3)), 0);
        // two quarrels of the same people: both take one first
        TwoCards y = ranked(1, 1);
        y.quarrel(0, 1, 0, 0);
        y.quarrel(0, 1, 0, 1);
        Check.due("one for the other: the first's least number", y.waits(1), Check.bits(0));
        Check.due("and the other way about", y.waits(0), Check.bits(1));
        Check.due("a ring of two", y.ring(0), 1);
        y.move(0, 10);
        y.move(0, 4);
        Check.due("ended waits not", y.waits(0), 0);
        Check.due("nor is it waited for", y.waits(1), 0);
    }

    /** Three slight one another around: each takes first that in which he is owed most. */
    private static void ring() {
        TwoCards x = ranked(1, 1, 1, 1);
        x.quarrel(0, 1, 0, 0);
        x.quarrel(1, 2, 0, 0);
        x.quarrel(2, 0, 0, 0);
        x.quarrel(0, 3, 0, 0);
        // of quarrel 0 the first takes 2, the second takes 0 itself; so on around
        Check.due("0 waits for 2", x.waits(0), Check.bits(2));
        Check.due("1 waits for 0", x.waits(1), Check.bits(0));
        Check.due("2 waits for 1", x.waits(2), Check.bits(1));
        Check.due("3 waits for 2", x.waits(3), Check.bits(2));
        for (int q = 0; q < 3; q++) {
            Check.due("ring " + q, x.ring(q), 1);
        }
        Check.due("who waits for a ring isn't in it", x.ring(3), 0);
        x.move(1, 10);
        x.move(1, 4);
        Check.due("peace in one ends it", x.ring(0), 0);
        Check.due("ended", x.ring(1), 0);
        Check.due("it waits still", x.waits(0), Check.bits(2));
        Check.due("the last waits for none", x.waits(2), 0);
    }

    private static void wrongQuarrels() {
        TwoCards x = ranked(1, 1);
        x.quarrel(0, 1, 0, 0);
        for (int q : new int[] {-1, 1, 24, Integer.MIN_VALUE}) {
            Check.due("waits", x.waits(q), -1);
            Check.due("ring", x.ring(q), -1);
        }
        Check.due("no ring", x.ring(0), 0);
    }

    private static void harsh() {
        TwoCards x = Check.people(2, CARD);
        Check.due("by a look alone", x.harsh(0, 0, 1, 0), Check.bits(0));
        Check.code(x, "slight look 2;slight lie 3;slight blow 5;back bow 2;ask 1;hours 2;must 1");
        Check.due("a look is bowed for", x.harsh(1, 0, 1, 0), Check.bits(2, 3));
        Check.code(x, "slight look 2 if ladies > 4;slight word 2 if owes = 1;ask 1;hours 2;must 1");
        Check.due("few ladies", x.harsh(2, 0, 1, 4), 0);
        Check.due("many ladies", x.harsh(2, 0, 1, 5), Check.bits(0));
        x.debt(1, 0, true);
        Check.due("the second owes", x.harsh(2, 0, 1, 0), 0);
        Check.due("the first owes", x.harsh(2, 1, 0, 0), Check.bits(1));
        int[][] wrong = {{3, 0, 1, 0}, {-1, 0, 1, 0}, {0, 0, 0, 0}, {0, 2, 1, 0}, {0, 0, -1, 0}, {0, 0, 1, -1}, {0, 0, 1, 10}};
        for (int[] w : wrong) {
            Check.due("harsh " + java.util.Arrays.toString(w), x.harsh(w[0], w[1], w[2], w[3]), -1);
        }
        // nobody keeps it
        TwoCards y = new TwoCards();
        y.person(1, 1, 1);
        y.person(1, 1, 1);
        Check.code(y, CARD);
        Check.due("as if both kept it", y.harsh(0, 0, 1, 0), Check.bits(0));
        Check.due("no quarrel is made", y.count(2), 0);
    }

    private static void mend() {
        TwoCards x = Check.people(2, CARD);
        Check.due("the bow", x.mend(0, 0, 1, 0, 0), Check.bits(0));
        Check.due("a word needs none", x.mend(0, 0, 1, 0, 1), 0);
        Check.code(x, "slight look 2;ask 1;hours 2;must 1");
        Check.due("no words", x.mend(1, 0, 1, 0, 0), -2);
        Check.code(x, "slight look 2;back bow 1 if age > 90;back public 1;ask 1;hours 2;must 1");
        Check.due("the second clause", x.mend(2, 0, 1, 0, 0), Check.bits(1));
        Check.code(x, "slight look 2;back bow 1 if age > 90;ask 1;hours 2;must 1");
        Check.due("a clause that holds never", x.mend(3, 0, 1, 0, 0), -2);
        int[][] wrong = {{4, 0, 1, 0, 0}, {-1, 0, 1, 0, 0}, {0, 1, 1, 0, 0}, {0, 2, 1, 0, 0}, {0, 0, -1, 0, 0}, {0, 0, 1, 10, 0},
            {0, 0, 1, -1, 0}, {0, 0, 1, 0, 4}, {0, 0, 1, 0, -1}};
        for (int[] w : wrong) {
            Check.due("mend " + java.util.Arrays.toString(w), x.mend(w[0], w[1], w[2], w[3], w[4]), -1);
        }
        Check.due("the code is as it was", x.weighs(0, 0, 1, 0, 2, 0, 0, 4), 1);
        Check.due("the game as well", x.harsh(0, 0, 1, 0), Check.bits(0));
        Check.due("a quarrel by it, too", x.game(x.quarrel(0, 1, 0, 0), 0), FIELD);
    }

    /** The first moves once alone, so one clause must do; where two do the least. */
    private static void mendFewest() {
        TwoCards x = Check.people(2, "slight look 2;back public 0 if age > 90;back letter 1;back sorry 1;ask 1;hours 2;must 1");
        Check.due("the letter, not the sorry", x.mend(0, 0, 1, 0, 0), Check.bits(1));
        // the second looks back, the first bows where something is owed him, the second says sorry in the last hour:
        // one of these alone is not enough
        String two = "slight look 2;back bow 1 if mine > 0;back sorry 1 if gone = 2;";
        Check.code(x, two + "ask 1;hours 3;must 1");
        Check.due("two of two", x.mend(1, 0, 1, 0, 0), Check.bits(0, 1));
        Check.code(x, two + "back letter 1 if gone = 2;ask 1;hours 3;must 1");
        Check.due("the least two", x.mend(2, 0, 1, 0, 0), Check.bits(0, 1));
        Check.code(x, two + "back letter 1 if gone = 1 and mine = 0;ask 1;hours 3;must 1");
        Check.due("one of more worth as bits is fewer", x.mend(3, 0, 1, 0, 0), Check.bits(2));
    }

    private static void mendFirstSix() {
        String six = "back bow 1 if age > 90;".repeat(6);
        TwoCards x = Check.people(2, "slight look 2;" + six + "back bow 1;ask 1;hours 2;must 1");
        Check.due("a seventh is left", x.mend(0, 0, 1, 0, 0), -2);
        String five = "back bow 1 if age > 90;".repeat(5);
        TwoCards y = Check.people(2, "slight look 2;" + five + "back bow 1;ask 1;hours 2;must 1");
        Check.due("the sixth is not", y.mend(0, 0, 1, 0, 0), Check.bits(5));
        Check.code(y, "back bow 1;slight look 2;back sorry 1 if age > 90;ask 1;hours 2;must 1");
        Check.due("wherever it stands", y.mend(1, 0, 1, 0, 0), Check.bits(0));
        Check.code(y, "back bow 1;slight look 2;ask 1;hours 2;must 1");
        Check.due("the first clause of all", y.mend(2, 0, 1, 0, 0), Check.bits(0));
    }

    private static void images() {
        TwoCards x = Check.people(3, CARD);
        x.debt(0, 1, true);
        x.quarrel(0, 1, 0, 0);
        x.move(0, 10);
        Check.due("image", x.image(0), 1);
        x.move(0, 10);
        x.quarrel(1, 2, 0, 0);
        x.debt(0, 1, false);
        x.debt(2, 1, true);
        x.keeps(0, -1);
        x.person(1, 1, 1);
        Check.code(x, "slight look 7");
        x.keeps(1, 1);
        x.feed(0, 0, 0, 0, 0);
        Check.due("another image", x.image(3), 2);
        Check.due("back", x.back(0), 1);
        Check.due("people", x.count(0), 3);
        Check.due("codes stay", x.count(1), 2);
        Check.due("quarrels", x.count(2), 1);
        Check.due("going on", x.count(3), 1);
        Check.due("the tape stays", x.count(4), 20);
        Check.due("he owes again", x.debt(0, 1, true), false);
        Check.due("the other doesn't", x.debt(2, 1, false), false);
        Check.due("moves", x.state(0, 7), 2);
        Check.due("hours", x.state(0, 6), 1);
        Check.due("he keeps again", x.quarrel(0, 2, 0, 0), 1);
        Check.due("the other keeps the old one", x.quarrel(0, 1, 0, 0), 2);
        Check.due("by the old one", x.state(2, 3), 2);
        Check.due("a person's number again", x.person(1, 1, 1), 3);
        Check.due("the new one keeps none", x.quarrel(0, 3, 0, 0), -1);
        Check.due("back once more", x.back(0), 1);
        Check.due("to the other one", x.back(3), 2);
        Check.due("four people", x.count(0), 4);
        Check.due("it ended there", x.state(0, 0), 4);
        Check.due("an image is made anew", x.image(0), 2);
        Check.due("and gone back to", x.back(0), 2);
        Check.due("never made", x.back(1), -1);
        for (int k : new int[] {-1, 4, Integer.MAX_VALUE, Integer.MIN_VALUE}) {
            Check.due("image " + k, x.image(k), -1);
            Check.due("back " + k, x.back(k), -1);
        }
    }

    private static void imagesOfNothing() {
        TwoCards x = new TwoCards();
        Check.due("never made", x.back(2), -1);
        Check.due("of nothing", x.image(2), 0);
        x.person(1, 1, 1);
        x.image(1);
        Check.due("back to nothing", x.back(2), 0);
        Check.due("nobody", x.count(0), 0);
        Check.due("no keeps", x.keeps(0, -1), false);
        Check.due("forth", x.back(1), 0);
        Check.due("somebody", x.count(0), 1);
    }

    /** Going on behind an image doesn't change what it keeps, nor does going on from it. */
    private static void imagesKeepHistories() {
        TwoCards x = Check.people(2, "slight look 2;back bow 1;ask 1;hours 8");
        x.quarrel(0, 1, 0, 0);
        x.move(0, 0);
        x.image(0);
        x.back(0);
        x.move(0, 4);
        x.move(0, 10);
        x.back(0);
        Check.due("two moves", x.state(0, 7), 2);
        Check.due("no third", x.history(0, 2), -1);
        Check.due("owed the second", x.state(0, 3), 2);
        x.move(0, 8);
        x.move(0, 8);
        Check.due("field", x.late(0), 4);
        x.back(0);
        Check.due("not yet", x.late(0), -2);
        Check.due("the move", x.history(0, 1), 0);
    }

    private static void counts() {
        TwoCards x = Check.people(2, CARD);
        x.quarrel(0, 1, 0, 0);
        x.quarrel(0, 1, 0, 1);
        x.quarrel(0, 1, 0, 0);
        x.feed(1, 2, 3, 4, 5);
        int[] want = {2, 1, 3, 2, 20};
        for (int what = 0; what < 5; what++) {
            Check.due("count " + what, x.count(what), want[what]);
        }
        x.move(0, 8);
        Check.due("asked goes on", x.count(3), 2);
        x.move(0, 8);
        Check.due("the field doesn't", x.count(3), 1);
        Check.due("count 5", x.count(5), -1);
        Check.due("count -1", x.count(-1), -1);
    }
}
