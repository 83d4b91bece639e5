/** Promises 10 to 14: a quarrel, its state, what may be done, what is done, its history. */
public final class Quarrels {
    private static final String CARD = "slight look 2;back bow 1;back sorry 0;ask 1;hours 2;must 1";

    public static void main(String[] args) {
        made();
        peaceAtOnce();
        otherCodes();
        may();
        wrongMoves();
        peace();
        field();
        refused();
        letLie();
        bounds();
        askOfNothing();
        testsOfMoves();
        debtsChange();
        Check.end("Quarrels");
    }

    /** ended, less, owed the first, owed the second, turn, asked, hours left, moves. */
    private static void state(String when, TwoCards x, int quarrel, int... want) {
        for (int what = 0; what < 8; what++) {
            Check.due(when + ": state(" + quarrel + "," + what + ")", x.state(quarrel, what), want[what]);
        }
    }

    private static void made() {
        TwoCards x = Check.people(3, CARD);
        int[][] wrong = {{0, 0, 0, 0}, {0, 3, 0, 0}, {-1, 1, 0, 0}, {0, 1, -1, 0}, {0, 1, 10, 0}, {0, 1, 0, -1}, {0, 1, 0, 4}};
        for (int[] w : wrong) {
            Check.due("quarrel " + java.util.Arrays.toString(w), x.quarrel(w[0], w[1], w[2], w[3]), -1);
        }
        Check.due("none was made", x.count(2), 0);
        Check.due("quarrel", x.quarrel(0, 1, 9, 0), 0);
        state("made", x, 0, 0, 0, 0, 2, 1, -1, 2, 1);
        Check.due("history 0", x.history(0, 0), 0);
        for (int i = 1; i < 24; i++) {
            Check.due("quarrel " + i, x.quarrel(2, 1, 0, i % 4), i);
        }
        Check.due("a twenty-fifth", x.quarrel(0, 1, 0, 0), -1);
        Check.due("24 quarrels", x.count(2), 24);
        for (int q : new int[] {-1, 24, Integer.MAX_VALUE, Integer.MIN_VALUE}) {
            Check.due("state of none", x.state(q, 0), -1);
            Check.due("may of none", x.may(q), -1);
            Check.due("move of none", x.move(q, 10), -1);
            Check.due("history of none", x.history(q, 0), -1);
        }
        Check.due("state 8", x.state(0, 8), -1);
        Check.due("state -1", x.state(0, -1), -1);
        Check.due("history -1", x.history(0, -1), -1);
        Check.due("history 1", x.history(0, 1), -1);
    }

    private static void peaceAtOnce() {
        TwoCards x = Check.people(2, CARD);
        Check.due("a word is no slight", x.quarrel(0, 1, 0, 1), 0);
        state("peace at once", x, 0, 1, 0, 0, 0, -1, -1, 2, 1);
        Check.due("may", x.may(0), 0);
        Check.due("move", x.move(0, 10), -1);
        Check.due("history", x.history(0, 0), 1);
        Check.due("goes on", x.count(3), 0);
    }

    /** Degrees by the code of him who is slighted, hours the fewer. */
    private static void otherCodes() {
        TwoCards x = new TwoCards();
        Check.code(x, "slight look 3;hours 5;ask 4");
        Check.code(x, "slight look 7;hours 4;back bow 2;ask 0");
        x.person(30, 1, 1);
        x.person(40, 1, 1);
        x.keeps(0, 0);
        x.keeps(1, 1);
        Check.due("quarrel", x.quarrel(0, 1, 0, 0), 0);
        state("by the second's", x, 0, 0, 0, 0, 7, 1, -1, 4, 1);
        x.keeps(1, 0);
        Check.due("a look back", x.move(0, 0), 0);
        state("by the first's", x, 0, 0, 0, 3, 7, 0, -1, 3, 2);
        Check.due("what first may: ask is 4 of his", x.may(0), Check.bits(0, 1, 2, 3, 4, 5, 6, 7, 10));
        Check.due("he bows", x.move(0, 4), 0);
        state("less by the second's", x, 0, 0, 0, 3, 5, 1, -1, 2, 3);
        Check.due("the second may ask by his", x.may(0), Check.bits(0, 1, 2, 3, 4, 5, 6, 7, 8, 10));
        Check.due("the other way about", x.quarrel(1, 0, 0, 0), 1);
        state("the second's code is new", x, 1, 0, 0, 0, 3, 1, -1, 5, 1);
    }

    private static void may() {
        TwoCards x = Check.people(2, CARD);
        x.quarrel(0, 1, 0, 0);
        Check.due("nothing is owed the first", x.may(0), Check.bits(0, 1, 2, 3, 8, 10));
        x.move(0, 10);
        Check.due("nothing is owed him who would ask", x.may(0), Check.bits(0, 1, 2, 3, 4, 5, 6, 7, 10));
        x.quarrel(0, 1, 0, 0);
        x.move(1, 8);
        Check.due("asked", x.may(1), Check.bits(8, 9));
        x.move(1, 9);
        Check.due("ended", x.may(1), 0);
    }

    private static void wrongMoves() {
        TwoCards x = Check.people(2, CARD);
        x.quarrel(0, 1, 0, 0);
        for (int move : new int[] {-1, 4, 5, 6, 7, 9, 11, 31, 32, Integer.MIN_VALUE, Integer.MAX_VALUE}) {
            Check.due("move " + move, x.move(0, move), -1);
        }
        state("nothing happened", x, 0, 0, 0, 0, 2, 1, -1, 2, 1);
        x.move(0, 8);
        for (int move : new int[] {0, 1, 2, 3, 4, 7, 10}) {
            Check.due("move of one asked " + move, x.move(0, move), -1);
        }
        x.move(0, 8);
        Check.due("move behind the end", x.move(0, 10), -1);
        Check.due("history", x.state(0, 7), 3);
    }

    private static void peace() {
        TwoCards x = Check.people(2, "slight look 2;back bow 2;back sorry 1;hours 3");
        x.quarrel(0, 1, 0, 0);
        x.move(0, 10);
        Check.due("sorry isn't all", x.move(0, 5), 0);
        state("one is owed", x, 0, 0, 0, 0, 1, 1, -1, 1, 3);
        x.quarrel(0, 1, 0, 0);
        x.move(1, 10);
        Check.due("a bow is", x.move(1, 4), 1);
        // no hour less is left
        state("peace", x, 1, 1, 0, 0, 0, -1, -1, 2, 3);
        // what is owed one alone keeps it from peace
        x.quarrel(0, 1, 0, 0);
        x.move(2, 0);
        Check.due("owed the first still", x.move(2, 4), 0);
        state("owed the first still", x, 2, 0, 0, 2, 0, 1, -1, 1, 3);
        Check.due("nothing is owed the second", x.may(2), Check.bits(0, 1, 2, 3, 4, 5, 6, 7, 10));
    }

    private static void field() {
        TwoCards x = Check.people(2, CARD);
        x.quarrel(0, 1, 0, 0);
        Check.due("asks", x.move(0, 8), 0);
        state("asked", x, 0, 0, 0, 0, 2, 0, 1, 1, 2);
        Check.due("comes", x.move(0, 8), 2);
        state("field", x, 0, 2, 0, 0, 2, -1, 1, 1, 3);
        Check.due("history 1", x.history(0, 1), 8);
        Check.due("history 2", x.history(0, 2), 8);
        Check.due("history 3", x.history(0, 3), -1);
    }

    private static void refused() {
        TwoCards x = Check.people(2, CARD);
        x.quarrel(0, 1, 0, 0);
        x.move(0, 8);
        Check.due("refuses", x.move(0, 9), 3);
        state("the first is the less", x, 0, 3, 1, 0, 2, -1, 1, 1, 3);
        // the second refuses the first
        TwoCards y = Check.people(2, "slight look 2;hours 4;refuse age > hisage");
        y.person(31, 5, 7);
        y.keeps(2, 0);
        y.quarrel(0, 1, 0, 0);
        y.move(0, 0);
        y.move(0, 8);
        Check.due("the second refuses", y.move(0, 9), 3);
        state("the second is the less", y, 0, 3, 2, 2, 2, -1, 0, 2, 4);
        // the elder may
        y.quarrel(2, 1, 0, 0);
        y.move(1, 8);
        Check.due("the elder refuses", y.move(1, 9), 3);
        state("nobody is the less", y, 1, 3, 0, 0, 2, -1, 1, 3, 3);
        // by the code of him who asked
        TwoCards z = new TwoCards();
        Check.code(z, "slight look 1;refuse owed = 1 and mine = 0 and gone = 1");
        Check.code(z, "slight look 1");
        z.person(1, 1, 1);
        z.person(1, 1, 1);
        z.keeps(0, 0);
        z.keeps(1, 1);
        z.quarrel(0, 1, 0, 0);
        z.move(0, 8);
        z.move(0, 9);
        Check.due("not by his own", z.state(0, 1), 1);
        z.quarrel(1, 0, 0, 0);
        z.move(1, 8);
        z.move(1, 9);
        Check.due("by the other's", z.state(1, 1), 0);
    }

    private static void letLie() {
        TwoCards x = new TwoCards();
        Check.code(x, "slight look 2;hours 2;must 3;ask 0");
        Check.code(x, "slight look 2;hours 8;must 2");
        x.person(1, 1, 1);
        x.person(1, 1, 1);
        x.keeps(0, 0);
        x.keeps(1, 1);
        x.quarrel(0, 1, 0, 0);
        Check.due("waits", x.move(0, 10), 0);
        Check.due("waits too", x.move(0, 10), 4);
        state("the second must", x, 0, 4, 2, 0, 2, -1, -1, 0, 3);
        x.quarrel(1, 0, 0, 0);
        x.move(1, 10);
        Check.due("waits as well", x.move(1, 10), 4);
        state("none must", x, 1, 4, 0, 0, 2, -1, -1, 0, 3);
        x.quarrel(0, 1, 0, 0);
        x.move(2, 0);
        x.move(2, 10);
        state("the first needn't, the second must", x, 2, 4, 2, 2, 2, -1, -1, 0, 3);
        // asked in the last hour: nobody can come any more
        x.quarrel(0, 1, 0, 0);
        x.move(3, 0);
        Check.due("asks at last", x.move(3, 8), 4);
        state("asked at last", x, 3, 4, 2, 2, 2, -1, 0, 0, 3);
        // must 0: who is owed nothing is the less, too
        TwoCards y = Check.people(2, "slight look 1;hours 1;must 0");
        y.quarrel(0, 1, 0, 0);
        Check.due("one hour", y.move(0, 10), 4);
        state("both are the less", y, 0, 4, 3, 0, 1, -1, -1, 0, 2);
    }

    private static void bounds() {
        TwoCards x = Check.people(2, "slight look 9;slight word 6;back bow 15;hours 8");
        x.quarrel(0, 1, 0, 0);
        x.move(0, 10);
        x.move(0, 0);
        Check.due("fifteen at most", x.state(0, 3), 15);
        x.move(0, 10);
        x.move(0, 4);
        Check.due("back from fifteen", x.state(0, 0), 1);
        x.quarrel(0, 1, 0, 1);
        x.move(1, 1);
        x.move(1, 4);
        Check.due("nothing at least", x.state(1, 3), 0);
        Check.due("goes on", x.state(1, 0), 0);
        x.quarrel(0, 1, 0, 0);
        for (int i = 0; i < 8; i++) {
            Check.due("eight hours", x.move(2, 10), i == 7 ? 4 : 0);
        }
        Check.due("nine moves", x.state(2, 7), 9);
        Check.due("the last of them", x.history(2, 8), 10);
        Check.due("none behind", x.history(2, 9), -1);
    }

    private static void askOfNothing() {
        TwoCards x = Check.people(2, "slight look 2;back bow 15;ask 0;hours 4");
        x.quarrel(0, 1, 0, 0);
        x.move(0, 10);
        Check.due("the first asks", x.move(0, 8), 0);
        state("owed nothing, he asks", x, 0, 0, 0, 0, 2, 1, 0, 2, 3);
        Check.due("the second comes", x.move(0, 8), 2);
    }

    private static void testsOfMoves() {
        // owed, mine, gone as they are ahead of the move
        TwoCards x = Check.people(2, "slight look 1 if owed = 0 and mine = 0 and gone = 0;slight look 3 if owed = 0 and mine = 1 and gone = 0;"
            + "slight look 5 if owed = 1 and mine = 3 and gone = 1;slight word 7 if ladies = 4;hours 8");
        x.quarrel(0, 1, 4, 0);
        Check.due("the first look", x.state(0, 3), 1);
        x.move(0, 0);
        Check.due("the second look", x.state(0, 2), 3);
        x.move(0, 0);
        Check.due("the third look", x.state(0, 3), 6);
        x.move(0, 0);
        Check.due("the fourth is none", x.state(0, 2), 3);
        x.move(0, 1);
        Check.due("a word with ladies by", x.state(0, 3), 13);
        x.quarrel(0, 1, 3, 1);
        Check.due("a word with fewer", x.state(1, 0), 1);
    }

    private static void debtsChange() {
        TwoCards x = Check.people(2, "slight look 1;slight look 9 if 1=1;slight word 4 if owes = 1;hours 8");
        x.quarrel(0, 1, 0, 0);
        x.move(0, 10);
        x.move(0, 1);
        Check.due("without a debt", x.state(0, 3), 1);
        x.move(0, 10);
        x.debt(0, 1, true);
        x.move(0, 1);
        Check.due("with a debt", x.state(0, 3), 5);
        x.move(0, 1);
        Check.due("the other owes none", x.state(0, 2), 0);
    }
}
