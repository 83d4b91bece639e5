import java.util.ArrayList;
import java.util.HashMap;
import java.util.HashSet;
import java.util.List;
import java.util.Map;
import java.util.Set;
import java.util.TreeSet;

/** The document told a second time, slowly and without regard to cost, to hold TwoCards against. */
final class Model {
    interface Fact {
        boolean holds(int[] words);
    }

    interface Value {
        int of(int[] words);
    }

    static final class Clause {
        String sort;
        String kind = "";
        int number;
        Fact test;
    }

    static final class Code {
        List<Clause> clauses = new ArrayList<>();

        int only(String sort, int without) {
            for (Clause c : clauses) {
                if (c.sort.equals(sort)) {
                    return c.number;
                }
            }
            return without;
        }

        int weight(String sort, String kind, int[] words) {
            for (Clause c : clauses) {
                if (c.sort.equals(sort) && c.kind.equals(kind) && (c.test == null || c.test.holds(words))) {
                    return c.number;
                }
            }
            return 0;
        }

        int weight(int move, int[] words) {
            return move < 4 ? weight("slight", KINDS.get(move), words) : weight("back", MEANS.get(move - 4), words);
        }

        boolean mayRefuse(int[] words) {
            return clauses.stream().anyMatch(c -> c.sort.equals("refuse") && c.test.holds(words));
        }
    }

    static final class Fault extends RuntimeException {
        final int number;

        Fault(int place, int kind) {
            number = 1 + 8 * place + kind;
        }
    }

    static final List<String> KINDS = List.of("look", "word", "lie", "blow");
    static final List<String> MEANS = List.of("bow", "sorry", "letter", "public");
    static final List<String> WORDS =
        List.of("age", "rank", "hisage", "hisrank", "kin", "owes", "ladies", "owed", "mine", "gone");

    /** Reads a text sign by sign. */
    static final class Parser {
        final String text;
        int at;
        int many;
        Code code = new Code();

        Parser(String text) {
            this.text = text;
        }

        Code parse() {
            clause();
            while (true) {
                blanks();
                if (at == text.length()) {
                    return code;
                }
                if (text.charAt(at) != ';') {
                    throw new Fault(at, 0);
                }
                at++;
                clause();
            }
        }

        void blanks() {
            while (at < text.length() && text.charAt(at) == ' ') {
                at++;
            }
        }

        String peekWord() {
            blanks();
            int stop = at;
            while (stop < text.length() && text.charAt(stop) >= 'a' && text.charAt(stop) <= 'z') {
                stop++;
            }
            return text.substring(at, stop);
        }

        String word(List<String> of) {
            String w = peekWord();
            if (!of.contains(w)) {
                throw new Fault(at, 0);
            }
            return w;
        }

        boolean digit(int i) {
            return i < text.length() && text.charAt(i) >= '0' && text.charAt(i) <= '9';
        }

        int number(int least, int most) {
            blanks();
            if (!digit(at)) {
                throw new Fault(at, 0);
            }
            int stop = at;
            while (digit(stop)) {
                stop++;
            }
            if (stop - at > 4) {
                throw new Fault(at, 1);
            }
            int n = Integer.parseInt(text.substring(at, stop));
            if (n < least || n > most) {
                throw new Fault(at, 1);
            }
            at = stop;
            return n;
        }

        void clause() {
            Clause c = new Clause();
            c.sort = word(List.of("slight", "back", "refuse", "ask", "hours", "must"));
            if (code.clauses.size() == 14) {
                throw new Fault(at, 4);
            }
            boolean once = List.of("ask", "hours", "must").contains(c.sort);
            if (once && code.only(c.sort, -1) >= 0) {
                throw new Fault(at, 4);
            }
            at += c.sort.length();
            if (once) {
                c.number = c.sort.equals("hours") ? number(1, 8) : number(0, 15);
            } else if (c.sort.equals("refuse")) {
                c.test = test(0);
            } else {
                c.kind = word(c.sort.equals("slight") ? KINDS : MEANS);
                at += c.kind.length();
                c.number = number(0, c.sort.equals("slight") ? 9 : 15);
                if (peekWord().equals("if")) {
                    at += 2;
                    c.test = test(0);
                }
            }
            code.clauses.add(c);
        }

        Fact test(int deep) {
            Fact left = part(deep);
            while (peekWord().equals("or")) {
                at += 2;
                Fact one = left;
                Fact two = part(deep);
                left = w -> one.holds(w) || two.holds(w);
            }
            return left;
        }

        Fact part(int deep) {
            Fact left = fact(deep);
            while (peekWord().equals("and")) {
                at += 3;
                Fact one = left;
                Fact two = fact(deep);
                left = w -> one.holds(w) && two.holds(w);
            }
            return left;
        }

        Fact fact(int deep) {
            blanks();
            if (peekWord().equals("not")) {
                if (deep == 10) {
                    throw new Fault(at, 2);
                }
                at += 3;
                Fact inner = fact(deep + 1);
                return w -> !inner.holds(w);
            }
            if (at < text.length() && text.charAt(at) == '[') {
                if (deep == 10) {
                    throw new Fault(at, 2);
                }
                at++;
                Fact inner = test(deep + 1);
                blanks();
                if (at == text.length() || text.charAt(at) != ']') {
                    throw new Fault(at, 0);
                }
                at++;
                return inner;
            }
            Value left = sum();
            blanks();
            String sign = null;
            for (String s : List.of("<=", ">=", "<", ">", "=")) {
                if (sign == null && text.startsWith(s, at)) {
                    sign = s;
                }
            }
            if (sign == null) {
                throw new Fault(at, 0);
            }
            oneMore(at);
            at += sign.length();
            Value right = sum();
            switch (sign) {
                case "<": return w -> left.of(w) < right.of(w);
                case "<=": return w -> left.of(w) <= right.of(w);
                case "=": return w -> left.of(w) == right.of(w);
                case ">=": return w -> left.of(w) >= right.of(w);
                default: return w -> left.of(w) > right.of(w);
            }
        }

        Value sum() {
            Value left = value();
            while (true) {
                blanks();
                if (at == text.length() || text.charAt(at) != '+' && text.charAt(at) != '-') {
                    return left;
                }
                boolean plus = text.charAt(at) == '+';
                at++;
                Value one = left;
                Value two = value();
                left = plus ? w -> one.of(w) + two.of(w) : w -> one.of(w) - two.of(w);
            }
        }

        Value value() {
            blanks();
            int start = at;
            if (digit(at)) {
                int n = number(0, 9999);
                oneMore(start);
                return w -> n;
            }
            String name = word(WORDS);
            oneMore(start);
            at += name.length();
            int index = WORDS.indexOf(name);
            return w -> w[index];
        }

        void oneMore(int place) {
            many++;
            if (many > 50) {
                throw new Fault(place, 3);
            }
        }
    }

    static final class Person {
        int age;
        int rank;
        int house;
        int keeps = -1;
        Set<Integer> owes = new TreeSet<>();

        Person copy() {
            Person p = new Person();
            p.age = age;
            p.rank = rank;
            p.house = house;
            p.keeps = keeps;
            p.owes.addAll(owes);
            return p;
        }
    }

    /** asked: -1 nobody. */
    record State(int owedFirst, int owedSecond, int turn, int asked, int left, int end, int less) {
        int owed(int side) {
            return side == 0 ? owedFirst : owedSecond;
        }

        int outcome() {
            return 4 * end + less;
        }
    }

    static final class Quarrel {
        int[] people = new int[2];
        int[] codes = new int[2];
        int ladies;
        List<Integer> moves = new ArrayList<>();
        List<State> states = new ArrayList<>();

        State now() {
            return states.get(states.size() - 1);
        }

        Quarrel copy() {
            Quarrel q = new Quarrel();
            q.people = people.clone();
            q.codes = codes.clone();
            q.ladies = ladies;
            q.moves.addAll(moves);
            q.states.addAll(states);
            return q;
        }
    }

    static final class Image {
        List<Person> people = new ArrayList<>();
        List<Quarrel> quarrels = new ArrayList<>();
    }

    StringBuilder tape = new StringBuilder();
    List<Code> codes = new ArrayList<>();
    Image world = new Image();
    Image[] images = new Image[4];

    static Image copy(Image i) {
        Image c = new Image();
        i.people.forEach(p -> c.people.add(p.copy()));
        i.quarrels.forEach(q -> c.quarrels.add(q.copy()));
        return c;
    }

    boolean person(int p) {
        return p >= 0 && p < world.people.size();
    }

    static boolean in(int n, int least, int most) {
        return n >= least && n <= most;
    }

    Quarrel quarrelAt(int q) {
        return q >= 0 && q < world.quarrels.size() ? world.quarrels.get(q) : null;
    }

    /** What rules: two people, two codes, ladies, hours. */
    final class Rules {
        int[] people;
        Code[] by;
        int ladies;
        int hours;
        Map<State, Integer> games = new HashMap<>();
        Map<State, Integer> ends = new HashMap<>();
        Map<State, Map<Integer, Long>> ways = new HashMap<>();
        Map<State, Map<Integer, Integer>> briefs = new HashMap<>();

        Rules(int[] people, Code one, Code two, int ladies) {
            this.people = people;
            this.by = new Code[] {one, two};
            this.ladies = ladies;
            this.hours = Math.min(one.only("hours", 6), two.only("hours", 6));
        }

        int[] words(int h, int owed, int mine, int gone) {
            return Model.this.words(people[h], people[1 - h], ladies, owed, mine, gone);
        }

        State open(int kind, boolean heard) {
            int degree = heard ? by[1].weight(kind, words(0, 0, 0, 0)) : 0;
            int owed = Math.min(15, degree);
            return new State(0, owed, 1, -1, hours, owed == 0 ? 1 : 0, 0);
        }

        boolean can(State s, int move) {
            if (s.end != 0) {
                return false;
            }
            int h = s.turn;
            boolean otherAsked = s.asked == 1 - h;
            switch (move) {
                case 0: case 1: case 2: case 3: return !otherAsked;
                case 4: case 5: case 6: case 7: return !otherAsked && s.owed(1 - h) > 0;
                case 8: return otherAsked || s.owed(h) >= by[h].only("ask", 1);
                case 9: return otherAsked;
                case 10: return !otherAsked;
                default: return false;
            }
        }

        State after(State s, int move, boolean heard) {
            int h = s.turn;
            int o = 1 - h;
            int[] owed = {s.owedFirst, s.owedSecond};
            int[] words = words(h, owed[o], owed[h], hours - s.left);
            if (move < 8 && heard) {
                int weight = by[o].weight(move, words);
                owed[o] = move < 4 ? Math.min(15, owed[o] + weight) : Math.max(0, owed[o] - weight);
            }
            boolean comes = move == 8 && s.asked == o;
            int asked = move == 8 && !comes ? h : s.asked;
            if (owed[0] == 0 && owed[1] == 0 && asked == -1) {
                return new State(0, 0, o, asked, s.left, 1, 0);
            }
            if (comes) {
                return new State(owed[0], owed[1], o, asked, s.left, 2, 0);
            }
            if (move == 9) {
                int less = by[o].mayRefuse(words) ? 0 : h == 0 ? 1 : 2;
                return new State(owed[0], owed[1], o, asked, s.left, 3, less);
            }
            if (s.left - 1 == 0) {
                int less = 0;
                for (int i = 0; i < 2; i++) {
                    if (owed[i] >= by[i].only("must", 1)) {
                        less += i + 1;
                    }
                }
                return new State(owed[0], owed[1], o, asked, 0, 4, less);
            }
            return new State(owed[0], owed[1], o, asked, s.left - 1, 0, 0);
        }

        List<Integer> moves(State s) {
            List<Integer> all = new ArrayList<>();
            for (int m = 0; m <= 10; m++) {
                if (can(s, m)) {
                    all.add(m);
                }
            }
            return all;
        }

        Map<Integer, Long> ways(State s) {
            if (s.end != 0) {
                return Map.of(s.outcome(), 1L);
            }
            if (ways.containsKey(s)) {
                return ways.get(s);
            }
            Map<Integer, Long> all = new HashMap<>();
            for (int m : moves(s)) {
                ways(after(s, m, true)).forEach((outcome, n) -> all.merge(outcome, n, Long::sum));
            }
            ways.put(s, all);
            return all;
        }

        Map<Integer, Integer> fewest(State s) {
            if (s.end != 0) {
                return Map.of(s.outcome(), 0);
            }
            if (briefs.containsKey(s)) {
                return briefs.get(s);
            }
            Map<Integer, Integer> all = new HashMap<>();
            for (int m : moves(s)) {
                fewest(after(s, m, true)).forEach((outcome, n) -> all.merge(outcome, n + 1, Math::min));
            }
            briefs.put(s, all);
            return all;
        }

        List<Integer> brief(State s, int outcome) {
            Integer n = fewest(s).get(outcome);
            if (n == null) {
                return null;
            }
            List<Integer> all = new ArrayList<>();
            State now = s;
            while (n > 0) {
                for (int m : moves(now)) {
                    Integer then = fewest(after(now, m, true)).get(outcome);
                    if (then != null && then == n - 1) {
                        all.add(m);
                        now = after(now, m, true);
                        break;
                    }
                }
                n--;
            }
            return all;
        }

        boolean must(State s) {
            return ways(s).keySet().equals(Set.of(8));
        }

        /** The best move by sorting all by what each fears. */
        int gameMove(State s) {
            int h = s.turn;
            List<Integer> all = new ArrayList<>(moves(s));
            all.sort((a, b) -> {
                int one = game(after(s, a, true));
                int two = game(after(s, b, true));
                boolean oneLess = (one % 4 & 1 << h) != 0;
                boolean twoLess = (two % 4 & 1 << h) != 0;
                if (oneLess != twoLess) {
                    return oneLess ? 1 : -1;
                }
                boolean oneField = one / 4 == 2;
                boolean twoField = two / 4 == 2;
                if (oneField != twoField) {
                    return oneField ? 1 : -1;
                }
                boolean oneOther = (one % 4 & 1 << 1 - h) != 0;
                boolean twoOther = (two % 4 & 1 << 1 - h) != 0;
                if (oneOther != twoOther) {
                    return oneOther ? 1 : -1;
                }
                return Integer.compare(a, b);
            });
            return all.get(0);
        }

        int game(State s) {
            if (s.end != 0) {
                return s.outcome();
            }
            if (!games.containsKey(s)) {
                games.put(s, game(after(s, gameMove(s), true)));
            }
            return games.get(s);
        }

        State heard(Quarrel q, int unheard) {
            State s = open(q.moves.get(0), (unheard & 1) == 0);
            for (int i = 1; i < q.moves.size(); i++) {
                if (s.end != 0 || !can(s, q.moves.get(i))) {
                    return s;
                }
                s = after(s, q.moves.get(i), (unheard & 1 << i) == 0);
            }
            return s;
        }
    }

    int[] words(int h, int o, int ladies, int owed, int mine, int gone) {
        Person he = world.people.get(h);
        Person other = world.people.get(o);
        return new int[] {he.age, he.rank, other.age, other.rank, he.house == other.house ? 1 : 0,
            he.owes.contains(o) ? 1 : 0, ladies, owed, mine, gone};
    }

    Rules rules(Quarrel q) {
        return new Rules(q.people, codes.get(q.codes[0]), codes.get(q.codes[1]), q.ladies);
    }

    int person(int age, int rank, int house) {
        if (world.people.size() == 12 || !in(age, 0, 99) || !in(rank, 0, 9) || !in(house, 0, 9)) {
            return -1;
        }
        Person p = new Person();
        p.age = age;
        p.rank = rank;
        p.house = house;
        world.people.add(p);
        return world.people.size() - 1;
    }

    boolean debt(int p, int o, boolean is) {
        if (!person(p) || !person(o) || p == o) {
            return false;
        }
        return is ? world.people.get(p).owes.add(o) : world.people.get(p).owes.remove(o);
    }

    int feed(int... numbers) {
        if (tape.length() > 380) {
            return -1;
        }
        for (int n : numbers) {
            for (int i = 3; i >= 0; i--) {
                tape.append((char) (n >>> 8 * i & 255));
            }
        }
        return tape.length();
    }

    int end(int n) {
        if (n < 0 || n > tape.length()) {
            return -1;
        }
        tape.setLength(n);
        return n;
    }

    int code() {
        if (codes.size() == 6) {
            return -1;
        }
        String text = tape.toString();
        tape.setLength(0);
        try {
            codes.add(new Parser(text).parse());
            return codes.size() - 1;
        } catch (Fault f) {
            return -2 - f.number;
        }
    }

    boolean keeps(int p, int c) {
        if (!person(p) || c < -1 || c >= codes.size()) {
            return false;
        }
        world.people.get(p).keeps = c;
        return true;
    }

    int told(int c, int what) {
        if (c < 0 || c >= codes.size() || what < 0 || what > 3) {
            return -1;
        }
        Code code = codes.get(c);
        return new int[] {code.only("ask", 1), code.only("hours", 6), code.only("must", 1), code.clauses.size()}[what];
    }

    int weighs(int c, int p, int o, int ladies, int owed, int mine, int gone, int what) {
        if (c < 0 || c >= codes.size() || !person(p) || !person(o) || p == o || !in(ladies, 0, 9)
            || !in(owed, 0, 15) || !in(mine, 0, 15) || !in(gone, 0, 8) || !in(what, 0, 8)) {
            return -1;
        }
        int[] words = words(p, o, ladies, owed, mine, gone);
        return what < 8 ? codes.get(c).weight(what, words) : codes.get(c).mayRefuse(words) ? 1 : 0;
    }

    int quarrel(int p, int o, int ladies, int kind) {
        if (world.quarrels.size() == 24 || !person(p) || !person(o) || p == o || !in(ladies, 0, 9) || !in(kind, 0, 3)
            || world.people.get(p).keeps < 0 || world.people.get(o).keeps < 0) {
            return -1;
        }
        Quarrel q = new Quarrel();
        q.people = new int[] {p, o};
        q.codes = new int[] {world.people.get(p).keeps, world.people.get(o).keeps};
        q.ladies = ladies;
        q.moves.add(kind);
        q.states.add(rules(q).open(kind, true));
        world.quarrels.add(q);
        return world.quarrels.size() - 1;
    }

    int state(int quarrel, int what) {
        Quarrel q = quarrelAt(quarrel);
        if (q == null || !in(what, 0, 7)) {
            return -1;
        }
        State s = q.now();
        return new int[] {s.end, s.less, s.owedFirst, s.owedSecond, s.end == 0 ? s.turn : -1, s.asked, s.left,
            q.moves.size()}[what];
    }

    int may(int quarrel) {
        Quarrel q = quarrelAt(quarrel);
        return q == null ? -1 : rules(q).moves(q.now()).stream().mapToInt(m -> 1 << m).sum();
    }

    int move(int quarrel, int move) {
        Quarrel q = quarrelAt(quarrel);
        if (q == null || !rules(q).can(q.now(), move)) {
            return -1;
        }
        q.states.add(rules(q).after(q.now(), move, true));
        q.moves.add(move);
        return q.now().end;
    }

    int history(int quarrel, int k) {
        Quarrel q = quarrelAt(quarrel);
        return q == null || k < 0 || k >= q.moves.size() ? -1 : q.moves.get(k);
    }

    int ends(int quarrel) {
        Quarrel q = quarrelAt(quarrel);
        return q == null ? -1 : rules(q).ways(q.now()).keySet().stream().mapToInt(o -> 1 << o).sum();
    }

    long ways(int quarrel, int outcome) {
        Quarrel q = quarrelAt(quarrel);
        return q == null || !in(outcome, 0, 19) ? -1 : rules(q).ways(q.now()).getOrDefault(outcome, 0L);
    }

    int brief(int quarrel, int outcome, int k) {
        Quarrel q = quarrelAt(quarrel);
        if (q == null || !in(outcome, 0, 19) || k < -1) {
            return -1;
        }
        List<Integer> moves = rules(q).brief(q.now(), outcome);
        if (moves == null) {
            return -2;
        }
        return k == -1 ? moves.size() : k < moves.size() ? moves.get(k) : -1;
    }

    int must(int quarrel) {
        Quarrel q = quarrelAt(quarrel);
        return q == null ? -1 : rules(q).must(q.now()) ? 1 : 0;
    }

    int late(int quarrel) {
        Quarrel q = quarrelAt(quarrel);
        if (q == null) {
            return -1;
        }
        for (int i = 0; i < q.states.size(); i++) {
            if (rules(q).must(q.states.get(i))) {
                return i + 1;
            }
        }
        return -2;
    }

    int game(int quarrel, int what) {
        Quarrel q = quarrelAt(quarrel);
        if (q == null || !in(what, 0, 1)) {
            return -1;
        }
        return what == 0 ? rules(q).game(q.now()) : q.now().end != 0 ? -1 : rules(q).gameMove(q.now());
    }

    int otherwise(int quarrel, int k, int move) {
        Quarrel q = quarrelAt(quarrel);
        if (q == null || !in(k, 1, q.moves.size() - 1) || !in(move, 0, 10)) {
            return -1;
        }
        Rules r = rules(q);
        State s = q.states.get(k - 1);
        if (!r.can(s, move)) {
            return -2;
        }
        s = r.after(s, move, true);
        for (int m : q.moves.subList(k + 1, q.moves.size())) {
            if (!r.can(s, m)) {
                break;
            }
            s = r.after(s, m, true);
        }
        return r.game(s);
    }

    int doubt(int quarrel, int unsure) {
        Quarrel q = quarrelAt(quarrel);
        if (q == null || !in(unsure, 0, 511) || unsure >= 1 << q.moves.size()) {
            return -1;
        }
        Rules r = rules(q);
        int bits = 0;
        for (int unheard = 0; unheard < 512; unheard++) {
            if ((unheard | unsure) == unsure) {
                bits |= 1 << r.game(r.heard(q, unheard));
            }
        }
        return bits;
    }

    int hangs(int quarrel) {
        Quarrel q = quarrelAt(quarrel);
        if (q == null) {
            return -1;
        }
        Rules r = rules(q);
        int bits = 0;
        for (int i = 0; i < q.moves.size(); i++) {
            if (r.game(r.heard(q, 0)) != r.game(r.heard(q, 1 << i))) {
                bits |= 1 << i;
            }
        }
        return bits;
    }

    int thinks(int quarrel, int who, int what) {
        Quarrel q = quarrelAt(quarrel);
        if (q == null || !in(who, 0, 1) || !in(what, 0, 1)) {
            return -1;
        }
        Rules r = rules(q);
        int[] owed = {0, 0};
        int hoursGone = 0;
        for (int i = 0; i < q.moves.size(); i++) {
            int h = i % 2;
            int m = q.moves.get(i);
            if (m < 8) {
                int weight = r.by[who].weight(m, r.words(h, owed[1 - h], owed[h], hoursGone));
                owed[1 - h] = Math.max(0, Math.min(15, owed[1 - h] + (m < 4 ? weight : -weight)));
            }
            if (i > 0) {
                hoursGone++;
            }
        }
        return owed[what];
    }

    int taken(int p) {
        int best = -2;
        for (int i = 0; i < world.quarrels.size(); i++) {
            Quarrel q = world.quarrels.get(i);
            int side = q.people[0] == p ? 0 : q.people[1] == p ? 1 : -1;
            if (side < 0 || q.now().end != 0) {
                continue;
            }
            if (best < 0) {
                best = i;
                continue;
            }
            Quarrel b = world.quarrels.get(best);
            int bestSide = b.people[0] == p ? 0 : 1;
            int owed = q.now().owed(side);
            int bestOwed = b.now().owed(bestSide);
            int rank = world.people.get(q.people[1 - side]).rank;
            int bestRank = world.people.get(b.people[1 - bestSide]).rank;
            if (owed > bestOwed || owed == bestOwed && rank > bestRank) {
                best = i;
            }
        }
        return best;
    }

    Set<Integer> waitsFor(int quarrel) {
        Set<Integer> all = new HashSet<>();
        Quarrel q = quarrelAt(quarrel);
        if (q.now().end == 0) {
            all.add(taken(q.people[0]));
            all.add(taken(q.people[1]));
            all.remove(quarrel);
        }
        return all;
    }

    int waits(int quarrel) {
        return quarrelAt(quarrel) == null ? -1 : waitsFor(quarrel).stream().mapToInt(o -> 1 << o).sum();
    }

    int ring(int quarrel) {
        if (quarrelAt(quarrel) == null) {
            return -1;
        }
        Set<Integer> reached = new HashSet<>(waitsFor(quarrel));
        for (int i = 0; i < 24; i++) {
            for (int r : List.copyOf(reached)) {
                reached.addAll(waitsFor(r));
            }
        }
        return reached.contains(quarrel) ? 1 : 0;
    }

    int first(int p) {
        return person(p) ? taken(p) : -1;
    }

    int harsh(int c, int p, int o, int ladies) {
        if (c < 0 || c >= codes.size() || !person(p) || !person(o) || p == o || !in(ladies, 0, 9)) {
            return -1;
        }
        Rules r = new Rules(new int[] {p, o}, codes.get(c), codes.get(c), ladies);
        int bits = 0;
        for (int kind = 0; kind < 4; kind++) {
            if (r.game(r.open(kind, true)) == 8) {
                bits |= 1 << kind;
            }
        }
        return bits;
    }

    int mend(int c, int p, int o, int ladies, int kind) {
        if (c < 0 || c >= codes.size() || !person(p) || !person(o) || p == o || !in(ladies, 0, 9) || !in(kind, 0, 3)) {
            return -1;
        }
        int best = -2;
        for (int set = 0; set < 64; set++) {
            Code changed = new Code();
            int back = 0;
            for (Clause old : codes.get(c).clauses) {
                Clause fresh = new Clause();
                fresh.sort = old.sort;
                fresh.kind = old.kind;
                fresh.test = old.test;
                fresh.number = old.number;
                if (old.sort.equals("back")) {
                    if ((set >> back & 1) == 1) {
                        fresh.number = 15;
                    }
                    back++;
                }
                changed.clauses.add(fresh);
            }
            if (set >= 1 << back) {
                break;
            }
            Rules r = new Rules(new int[] {p, o}, changed, changed, ladies);
            boolean better = best == -2 || Integer.bitCount(set) < Integer.bitCount(best);
            if (better && r.game(r.open(kind, true)) != 8) {
                best = set;
            }
        }
        return best;
    }

    int image(int k) {
        if (!in(k, 0, 3)) {
            return -1;
        }
        images[k] = copy(world);
        return world.quarrels.size();
    }

    int back(int k) {
        if (!in(k, 0, 3) || images[k] == null) {
            return -1;
        }
        world = copy(images[k]);
        return world.quarrels.size();
    }

    int count(int what) {
        switch (what) {
            case 0: return world.people.size();
            case 1: return codes.size();
            case 2: return world.quarrels.size();
            case 3: return (int) world.quarrels.stream().filter(q -> q.now().end == 0).count();
            case 4: return tape.length();
            default: return -1;
        }
    }
}
