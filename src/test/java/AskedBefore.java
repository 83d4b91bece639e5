import java.util.ArrayList;
import java.util.List;

/** No answer hangs on what was asked before it, of other quarrels, codes or people. */
public final class AskedBefore {
    interface Question {
        long of(TwoCards x);
    }

    private static final List<String> names = new ArrayList<>();
    private static final List<Question> questions = new ArrayList<>();

    public static void main(String[] args) {
        for (int q = 0; q < 6; q++) {
            askOf(q);
        }
        askOfOthers();
        List<Long> due = new ArrayList<>();
        for (Question question : questions) {
            due.add(question.of(world()));
        }
        TwoCards x = world();
        for (int i = 0; i < questions.size(); i++) {
            Check.due(names.get(i) + " behind all ahead of it", questions.get(i).of(x), due.get(i));
        }
        for (int step : new int[] {-1, 7, 31, 64}) {
            x = world();
            int at = 0;
            for (int i = 0; i < questions.size(); i++) {
                at = Math.floorMod(at + step, questions.size());
                Check.due(names.get(at) + " behind others", questions.get(at).of(x), due.get(at));
            }
        }
        afterMoves();
        Check.end("AskedBefore");
    }

    private static TwoCards world() {
        TwoCards x = new TwoCards();
        Check.code(x, "must 2; slight word 4 ask 1");
        Check.code(x, "slight look 2;slight word 4 if owes = 1;slight lie 3 if age > 33;slight blow 9;back bow 1;"
            + "back sorry 2 if ladies > 4;back letter 15 if owed > 3;refuse kin = 1 and gone > 1;ask 2;hours 5;must 2");
        Check.code(x, "slight look 3 if gone = 0 and owed = 0 and mine = 0;slight look 1;slight word 1;slight lie 5 if kin = 1;"
            + "back bow 3;back letter 4;back public 2 if gone > 2;refuse rank > hisrank;ask 1;hours 8");
        Check.code(x, "slight look 6 if hisage > age;slight look 4;slight word 2;back sorry 2;back public 1;hours 7;ask 3;must 3");
        int[][] people = {{30, 4, 0}, {41, 2, 0}, {52, 7, 3}, {33, 4, 3}};
        for (int i = 0; i < 4; i++) {
            x.person(people[i][0], people[i][1], people[i][2]);
            x.keeps(i, new int[] {0, 1, 2, 1}[i]);
        }
        x.debt(0, 1, true);
        x.debt(2, 3, true);
        x.debt(3, 0, true);
        int[][] moves = {{0, 1, 5, 0, 0, 10}, {1, 2, 0, 1, 10, 0, 4}, {2, 3, 9, 0, 1, 4, 1}, {3, 0, 4, 1, 8, 9}, {2, 0, 2, 1, 0, 0},
            {1, 3, 7, 0, 10, 8, 8}};
        for (int q = 0; q < moves.length; q++) {
            int[] m = moves[q];
            Check.due("quarrel", x.quarrel(m[0], m[1], m[2], m[3]), q);
            for (int i = 4; i < m.length; i++) {
                x.move(q, m[i]);
            }
        }
        return x;
    }

    private static void ask(String name, Question question) {
        names.add(name);
        questions.add(question);
    }

    private static void askOf(int q) {
        ask("may " + q, x -> x.may(q));
        ask("ends " + q, x -> x.ends(q));
        ask("game " + q, x -> x.game(q, 0));
        ask("game's move " + q, x -> x.game(q, 1));
        ask("ways " + q, x -> x.ways(q, 18));
        ask("brief " + q, x -> x.brief(q, 18, -1));
        ask("brief's last " + q, x -> x.brief(q, 19, 2));
        ask("otherwise 1 " + q, x -> x.otherwise(q, 1, 10));
        ask("otherwise 2 " + q, x -> x.otherwise(q, 2, 0));
        ask("doubt 1 " + q, x -> x.doubt(q, 1));
        ask("doubt 6 " + q, x -> x.doubt(q, 6));
        ask("hangs " + q, x -> x.hangs(q));
        for (int i = 0; i < 4; i++) {
            int what = i;
            ask("thinks " + i + " " + q, x -> x.thinks(q, what / 2, what % 2));
        }
        ask("waits " + q, x -> x.waits(q));
        ask("ring " + q, x -> x.ring(q));
        ask("late " + q, x -> x.late(q));
    }

    private static void askOfOthers() {
        for (int c = 0; c < 3; c++) {
            int code = c;
            ask("harsh " + c, x -> x.harsh(code, 0, 1, 5));
            ask("harsh the other way " + c, x -> x.harsh(code, 3, 2, 1));
            ask("mend " + c, x -> x.mend(code, 0, 1, 5, 0));
            ask("mend of a word " + c, x -> x.mend(code, 2, 3, 0, 1));
            ask("weighs a look " + c, x -> x.weighs(code, 0, 1, 5, 0, 0, 0, 0));
            ask("weighs a word " + c, x -> x.weighs(code, 1, 2, 0, 3, 2, 4, 1));
        }
        for (int p = 0; p < 4; p++) {
            int person = p;
            ask("first " + p, x -> x.first(person));
        }
    }

    /** The first slight and each move see nothing owed, no hour gone that others' quarrels have. */
    private static void afterMoves() {
        for (int i = 0; i < questions.size(); i++) {
            TwoCards x = world();
            questions.get(i).of(x);
            String when = " behind " + names.get(i);
            Check.due("quarrel" + when, x.quarrel(3, 2, 0, 0), 6);
            Check.due("owed" + when, x.state(6, 3), 6);
            Check.due("quarrel of others" + when, x.quarrel(0, 1, 0, 0), 7);
            Check.due("owed in it" + when, x.state(7, 3), 3);
            Check.due("a look back" + when, x.move(6, 0), 0);
            Check.due("owed for it" + when, x.state(6, 2), 1);
        }
    }
}
