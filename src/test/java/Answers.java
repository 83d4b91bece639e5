import java.util.ArrayList;
import java.util.List;

/** All that can be asked of a small world, so that two of them can be held against one another. */
final class Answers {
    /** People, quarrels and codes by what is as told alone; the tape holds a code. */
    private static final String FIRST = "slight look 2;slight word 4 if owes = 1;slight lie 3 if age + rank > 33;"
        + "slight blow 9 if hisage - hisrank < 30;back bow 1;back sorry 2 if ladies > 4;back letter 15 if owed > 3;"
        + "back public 3 if mine > 0;refuse kin = 1 and gone > 1;ask 2;hours 5;must 2";
    private static final String SECOND = "slight look 3 if gone < 2;slight look 1;slight word 1;slight lie 5 if kin = 1;"
        + "back bow 2 if owes = 1;back bow 1;back letter 4;refuse rank > hisrank;ask 1;hours 4";
    private static final String THIRD = "slight word 7;must 3";

    private final List<String> names = new ArrayList<>();
    private final List<Long> answers = new ArrayList<>();

    static TwoCards world() {
        TwoCards x = new TwoCards();
        build(x);
        return x;
    }

    static void build(TwoCards x) {
        Check.code(x, FIRST);
        Check.code(x, SECOND);
        int[][] people = {{30, 4, 0}, {41, 2, 0}, {52, 7, 3}};
        for (int[] p : people) {
            x.person(p[0], p[1], p[2]);
        }
        x.keeps(0, 0);
        x.keeps(1, 1);
        x.keeps(2, 0);
        x.debt(0, 1, true);
        x.debt(2, 0, true);
        x.quarrel(0, 1, 5, 0);
        x.move(0, 0);
        x.image(1);
        x.move(0, 4);
        x.quarrel(1, 2, 3, 0);
        x.quarrel(2, 0, 0, 0);
        x.move(2, 8);
        x.move(2, 9);
        Check.tape(x, THIRD);
    }

    private void add(String name, long answer) {
        names.add(name);
        answers.add(answer);
    }

    private void add(String name, boolean answer) {
        add(name, answer ? 1 : 0);
    }

    /** The last of these change the world: each world is asked but once. */
    static Answers of(TwoCards x) {
        Answers all = new Answers();
        all.ask(x);
        all.askOfCodes(x);
        for (int q = 0; q < x.count(2); q++) {
            all.askOf(x, q);
        }
        all.goOn(x);
        return all;
    }

    private void ask(TwoCards x) {
        for (int what = 0; what < 5; what++) {
            add("count " + what, x.count(what));
        }
        for (int p = 0; p < x.count(0); p++) {
            add("first " + p, x.first(p));
        }
    }

    private void askOfCodes(TwoCards x) {
        for (int c = 0; c < x.count(1); c++) {
            for (int what = 0; what < 4; what++) {
                add("told " + c + " " + what, x.told(c, what));
            }
            for (int p = 0; p < x.count(0); p++) {
                int o = (p + 1) % x.count(0);
                for (int what = 0; what < 9; what++) {
                    add("weighs " + c + " " + p + " " + what, x.weighs(c, p, o, 5, 4, 1, 2, what));
                }
            }
            add("harsh " + c, x.harsh(c, 0, 1, 5));
            add("mend " + c, x.mend(c, 1, 0, 5, 0));
        }
    }

    private void askOf(TwoCards x, int q) {
        String of = " of " + q;
        for (int what = 0; what < 8; what++) {
            add("state " + what + of, x.state(q, what));
        }
        for (int k = 0; k < x.state(q, 7); k++) {
            add("history " + k + of, x.history(q, k));
        }
        for (int outcome : new int[] {4, 8, 13, 16, 17, 18, 19}) {
            add("ways " + outcome + of, x.ways(q, outcome));
            add("brief " + outcome + of, x.brief(q, outcome, -1));
        }
        add("brief 8, first" + of, x.brief(q, 8, 0));
        add("may" + of, x.may(q));
        add("ends" + of, x.ends(q));
        add("must" + of, x.must(q));
        add("late" + of, x.late(q));
        add("game 0" + of, x.game(q, 0));
        add("game 1" + of, x.game(q, 1));
        add("otherwise 1, 10" + of, x.otherwise(q, 1, 10));
        add("otherwise 2, 1" + of, x.otherwise(q, 2, 1));
        add("doubt" + of, x.doubt(q, (1 << x.state(q, 7)) - 1));
        add("hangs" + of, x.hangs(q));
        for (int i = 0; i < 4; i++) {
            add("thinks " + i + of, x.thinks(q, i / 2, i % 2));
        }
        add("waits" + of, x.waits(q));
        add("ring" + of, x.ring(q));
    }

    /** What can be seen by what is done alone: the tape, what each keeps, the images. */
    private void goOn(TwoCards x) {
        add("code", x.code());
        add("its word", x.weighs(x.count(1) - 1, 0, 1, 0, 0, 0, 0, 1));
        add("its must", x.told(x.count(1) - 1, 2));
        for (int p = 0; p < 3; p++) {
            int q = x.quarrel(p, (p + 1) % 3, 9, 0);
            add("quarrel " + p, q);
            add("owed by " + p, x.state(q, 3));
            add("hours by " + p, x.state(q, 6));
            add("a look back to " + p, x.move(q, 0));
            add("owed " + p, x.state(q, 2));
        }
        for (int k = 0; k < 4; k++) {
            add("back " + k, x.back(k));
            add("moves " + k, x.state(0, 7));
            add("quarrels " + k, x.count(2));
            add("debt " + k, x.debt(0, 1, true));
        }
    }

    /** All but those of these names. */
    Answers without(String... left) {
        Answers all = new Answers();
        for (int i = 0; i < names.size(); i++) {
            if (!List.of(left).contains(names.get(i))) {
                all.add(names.get(i), answers.get(i));
            }
        }
        return all;
    }

    /** Both are alike: each answer that isn't is told. */
    static void same(String when, Answers got, Answers due) {
        Check.due(when + ": answers", got.answers.size(), due.answers.size());
        for (int i = 0; i < Math.min(got.answers.size(), due.answers.size()); i++) {
            Check.due(when + ": " + due.names.get(i), got.answers.get(i), due.answers.get(i));
        }
    }
}
