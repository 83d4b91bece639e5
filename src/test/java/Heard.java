/** Promises 21 to 24: otherwise, doubt, hangs, thinks. */
public final class Heard {
    private static final String CARD = "slight look 2;back bow 1;back sorry 0;ask 1;hours 2;must 1";
    private static final int PEACE = 4;
    private static final int FIELD = 8;

    public static void main(String[] args) {
        otherwise();
        otherwiseLeavesOut();
        otherwiseByDebtsNow();
        doubt();
        doubtOfMoves();
        hangs();
        heardGoesOn();
        thinks();
        thinksOn();
        wrong();
        Check.end("Heard");
    }

    private static void otherwise() {
        TwoCards x = Check.people(2, CARD);
        x.quarrel(0, 1, 0, 0);
        Check.due("no place of the first slight", x.otherwise(0, 0, 0), -1);
        Check.due("no second move yet", x.otherwise(0, 1, 8), -1);
        x.move(0, 10);
        x.move(0, 10);
        Check.due("it lay", x.game(0, 0), 18);
        // asked instead: the wait behind it can't be done, the game goes on from there
        Check.due("had he asked", x.otherwise(0, 1, 8), FIELD);
        // a look instead: the wait behind it as it was
        Check.due("had he looked", x.otherwise(0, 1, 0), 19);
        Check.due("had the first looked", x.otherwise(0, 2, 0), 18);
        Check.due("had the first bowed", x.otherwise(0, 2, 4), 18);
        Check.due("the first could not ask", x.otherwise(0, 2, 8), -2);
        Check.due("nobody had asked", x.otherwise(0, 2, 9), -2);
        Check.due("nothing was owed the first", x.otherwise(0, 1, 4), -2);
        Check.due("the same move", x.otherwise(0, 1, 10), 18);
        Check.due("no such place", x.otherwise(0, 3, 10), -1);
        Check.due("place -1", x.otherwise(0, -1, 10), -1);
        Check.due("move 11", x.otherwise(0, 1, 11), -1);
        Check.due("move -1", x.otherwise(0, 1, -1), -1);
        Check.due("nothing happened", x.state(0, 7), 3);
        Check.due("it is as it was", x.state(0, 0), 4);
    }

    /** What can't be done any more is left out, and all behind it, even what could be. */
    private static void otherwiseLeavesOut() {
        TwoCards x = Check.people(2, "slight look 2;slight word 1;back bow 2;ask 2;hours 5;must 1");
        x.quarrel(0, 1, 0, 0);
        x.move(0, 0);
        x.move(0, 4);
        x.move(0, 8);
        // behind: look, look, bow, then the second can't ask (nothing owed him): as it stood there he could not
        Check.due("the ask was none", x.state(0, 7), 4 - 1);
        x.move(0, 4);
        Check.due("peace", x.state(0, 0), 1);
        // had the second not looked: the bow makes peace, the rest is left out
        Check.due("had he waited", x.otherwise(0, 1, 10), PEACE);
        // had the first waited, not bowed: the second's bow leaves the second owed
        TwoCards y = Check.people(2, "slight look 2;back bow 2;hours 3;ask 3;must 1");
        y.quarrel(0, 1, 0, 0);
        y.move(0, 0);
        y.move(0, 4);
        y.move(0, 4);
        Check.due("y made peace", y.state(0, 0), 1);
        Check.due("had the first waited", y.otherwise(0, 2, 10), 18);
        // had the second waited at first: peace by the first's bow
        Check.due("had the second waited", y.otherwise(0, 1, 10), PEACE);
        // had the second bowed not but waited
        Check.due("had the second waited at last", y.otherwise(0, 3, 10), 17);
    }

    private static void otherwiseByDebtsNow() {
        TwoCards x = Check.people(2, "slight look 2;slight word 3 if owes = 1;back bow 2;hours 3;must 3;ask 15");
        x.quarrel(0, 1, 0, 0);
        x.move(0, 1);
        x.move(0, 10);
        x.move(0, 10);
        Check.due("it lay, none less", x.game(0, 0), 16);
        Check.due("without a debt a word weighs none", x.otherwise(0, 2, 1), 16);
        x.debt(0, 1, true);
        Check.due("with a debt it does", x.otherwise(0, 2, 1), 18);
        // the state behind the move ahead is as it was then: the second's word weighed none
        x.debt(1, 0, true);
        Check.due("as they were then", x.otherwise(0, 2, 0), 18);
        Check.due("gone over again it weighs", x.otherwise(0, 1, 1), 17);
    }

    private static void doubt() {
        TwoCards x = Check.people(2, CARD);
        x.quarrel(0, 1, 0, 0);
        Check.due("all heard", x.doubt(0, 0), Check.bits(FIELD));
        Check.due("the first slight unsure", x.doubt(0, 1), Check.bits(PEACE, FIELD));
        Check.due("a move that there is not", x.doubt(0, 2), -1);
        x.move(0, 0);
        // first unheard: peace at once; second unheard: owed the second alone; he who must move is the first
        Check.due("both sure", x.doubt(0, 0), Check.bits(19));
        Check.due("the second unsure", x.doubt(0, 2), Check.bits(18, 19));
        Check.due("the first unsure", x.doubt(0, 1), Check.bits(PEACE, 19));
        Check.due("both unsure", x.doubt(0, 3), Check.bits(PEACE, 18, 19));
        Check.due("a third", x.doubt(0, 4), -1);
        Check.due("bits 511", x.doubt(0, 511), -1);
        x.move(0, 10);
        Check.due("waits are so", x.doubt(0, 4), Check.bits(19));
        Check.due("all unsure", x.doubt(0, 7), Check.bits(PEACE, 18, 19));
        Check.due("below", x.doubt(0, -1), -1);
        TwoCards y = Check.people(2, "slight look 1;hours 8;ask 15");
        y.quarrel(0, 1, 0, 0);
        for (int i = 0; i < 8; i++) {
            y.move(0, 10);
        }
        Check.due("nine moves", y.doubt(0, 511), Check.bits(PEACE, 18));
        Check.due("ten", y.doubt(0, 512), -1);
        Check.due("far below", y.doubt(0, Integer.MIN_VALUE), -1);
    }

    /** Where a move can't be done it is as it is there; what is not heard takes its hour all the same. */
    private static void doubtOfMoves() {
        TwoCards x = Check.people(2, "slight look 2;back bow 2;ask 2;hours 4;must 1");
        x.quarrel(0, 1, 0, 0);
        x.move(0, 0);
        x.move(0, 8);
        // the second's look unheard: the first can't ask; he moves on from there with three hours, and bows
        Check.due("asked", x.doubt(0, 0), Check.bits(FIELD));
        Check.due("a look unheard", x.doubt(0, 2), Check.bits(PEACE, FIELD));
        TwoCards y = Check.people(2, "slight look 2;back bow 2;hours 4;ask 15;must 1");
        y.quarrel(0, 1, 0, 0);
        y.move(0, 10);
        y.move(0, 4);
        Check.due("peace", y.state(0, 0), 1);
        // the bow unheard: two hours are left, and the first bows in the last one
        Check.due("a bow unheard", y.doubt(0, 4), Check.bits(PEACE));
        TwoCards z = Check.people(2, "slight look 2;back bow 2;hours 3;ask 15;must 1");
        z.quarrel(0, 1, 0, 0);
        z.move(0, 10);
        z.move(0, 4);
        // the bow unheard: one hour is left, and it is the second's
        Check.due("a late bow unheard", z.doubt(0, 4), Check.bits(PEACE, 18));
    }

    private static void hangs() {
        TwoCards x = Check.people(2, CARD);
        x.quarrel(0, 1, 0, 0);
        Check.due("on the first slight", x.hangs(0), Check.bits(0));
        x.move(0, 0);
        Check.due("on both", x.hangs(0), Check.bits(0, 1));
        x.move(0, 0);
        // both looks of the first leave the second owed without either; but without the first it is peace at once
        Check.due("not on the last", x.hangs(0), Check.bits(0, 1));
        TwoCards y = Check.people(2, CARD);
        y.quarrel(0, 1, 0, 1);
        Check.due("peace hangs on nothing", y.hangs(0), 0);
        y.quarrel(0, 1, 0, 0);
        y.move(1, 8);
        y.move(1, 8);
        Check.due("asks and comes", y.hangs(1), Check.bits(0));
    }

    /** The history gone over by who owes whom now may not end where it ended then. */
    private static void heardGoesOn() {
        TwoCards x = Check.people(2, "slight look 2 if owes = 0;slight look 4;back bow 2;hours 4;ask 15;must 1");
        x.quarrel(0, 1, 0, 0);
        x.move(0, 10);
        x.move(0, 4);
        Check.due("peace", x.state(0, 0), 1);
        Check.due("peace over again", x.doubt(0, 0), Check.bits(PEACE));
        x.debt(0, 1, true);
        // four is owed then; a bow leaves two, another one comes in time
        Check.due("the game goes on", x.doubt(0, 0), Check.bits(PEACE));
        Check.due("two bows are needed", x.doubt(0, 4), Check.bits(PEACE, 18));
        Check.due("it hangs on the bow", x.hangs(0), Check.bits(2));
        Check.due("it ended all the same", x.game(0, 0), PEACE);
    }

    private static void thinks() {
        TwoCards x = new TwoCards();
        Check.code(x, "slight look 5;back bow 1;hours 8");
        Check.code(x, "slight look 2;slight word 9;back bow 3;hours 8");
        x.person(1, 1, 1);
        x.person(1, 1, 1);
        x.keeps(0, 0);
        x.keeps(1, 1);
        x.quarrel(0, 1, 0, 0);
        Check.due("owed the second: he", x.thinks(0, 1, 1), 2);
        Check.due("owed the second: the first thinks", x.thinks(0, 0, 1), 5);
        Check.due("owed the first", x.thinks(0, 0, 0), 0);
        x.move(0, 0);
        Check.due("the first thinks he is owed", x.thinks(0, 0, 0), 5);
        Check.due("the second thinks", x.thinks(0, 1, 0), 2);
        Check.due("by the state", x.state(0, 2), 5);
        x.move(0, 4);
        Check.due("peace isn't yet", x.state(0, 0), 0);
        Check.due("the second has it all back", x.thinks(0, 1, 1), 0);
        Check.due("the first counts four", x.thinks(0, 0, 1), 4);
        x.move(0, 1);
        Check.due("a word by the second's", x.thinks(0, 1, 0), 11);
        Check.due("a word by the first's", x.thinks(0, 0, 0), 5);
        x.move(0, 10);
        x.move(0, 1);
        Check.due("fifteen at most", x.thinks(0, 1, 0), 15);
        Check.due("history is as it was", x.state(0, 7), 6);
    }

    /** Ends are passed over; tests see what is owed by that code, and the hours gone. */
    private static void thinksOn() {
        TwoCards x = new TwoCards();
        Check.code(x, "slight look 1 if gone = 0;slight look 3 if gone = 1;slight look 6 if gone = 2;back bow 9 if owed = 4;hours 8");
        Check.code(x, "slight look 2;back bow 2;hours 8");
        x.person(1, 1, 1);
        x.person(1, 1, 1);
        x.keeps(0, 0);
        x.keeps(1, 1);
        x.quarrel(0, 1, 0, 0);
        x.move(0, 0);
        x.move(0, 0);
        Check.due("1 of the first look, 3 of the third", x.thinks(0, 0, 1), 4);
        Check.due("1 of the second", x.thinks(0, 0, 0), 1);
        x.move(0, 10);
        x.move(0, 4);
        Check.due("a bow, owed 4", x.thinks(0, 0, 1), 0);
        Check.due("a bow by the second's", x.thinks(0, 1, 1), 2);
        // by the second's code nothing is owed at first; that is passed over
        TwoCards y = new TwoCards();
        Check.code(y, "back bow 1");
        Check.code(y, "slight look 2;back bow 2");
        y.person(1, 1, 1);
        y.person(1, 1, 1);
        y.keeps(0, 0);
        y.keeps(1, 1);
        y.quarrel(0, 1, 0, 0);
        y.move(0, 0);
        y.move(0, 0);
        Check.due("the first thinks nothing owed", y.thinks(0, 0, 1), 0);
        Check.due("the second thinks four", y.thinks(0, 1, 1), 4);
        Check.due("and two owed the first", y.thinks(0, 1, 0), 2);
        Check.due("by the state none", y.state(0, 2), 0);
        // debts as they are when it is asked
        TwoCards z = Check.people(2, "slight look 2 if owes = 1;slight look 3");
        z.quarrel(0, 1, 0, 0);
        Check.due("without a debt", z.thinks(0, 0, 1), 3);
        z.debt(0, 1, true);
        Check.due("with a debt", z.thinks(0, 0, 1), 2);
        Check.due("the state stays", z.state(0, 3), 3);
    }

    private static void wrong() {
        TwoCards x = Check.people(2, CARD);
        x.quarrel(0, 1, 0, 0);
        for (int q : new int[] {-1, 1, 24, Integer.MAX_VALUE}) {
            Check.due("otherwise", x.otherwise(q, 1, 0), -1);
            Check.due("doubt", x.doubt(q, 0), -1);
            Check.due("hangs", x.hangs(q), -1);
            Check.due("thinks", x.thinks(q, 0, 0), -1);
        }
        Check.due("thinks of a third", x.thinks(0, 2, 0), -1);
        Check.due("thinks of -1", x.thinks(0, -1, 0), -1);
        Check.due("thinks what 2", x.thinks(0, 0, 2), -1);
        Check.due("thinks what -1", x.thinks(0, 0, -1), -1);
    }
}
