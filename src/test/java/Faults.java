import java.util.List;
import java.util.Random;

/** Random texts, most of them no codes: the number or fault, and what a code weighs, as the Model has it. */
public final class Faults {
    private static final List<String> SIGNS = List.of("slight", "back", "refuse", "ask", "hours", "must", "look", "word",
        "lie", "blow", "bow", "sorry", "letter", "public", "if", "or", "and", "not", "age", "rank", "hisage", "hisrank",
        "kin", "owes", "ladies", "owed", "mine", "gone", "0", "1", "9", "15", "16", "0001", "9999", "10000", "00000", ";",
        "[", "]", "+", "-", "<", "<=", "=", ">=", ">", " ", "  ", "x", "A", "\t", "\0", "\u00ff", "ifs", "an");

    public static void main(String[] args) {
        int texts = args.length > 0 ? Integer.parseInt(args[0]) : 60000;
        int[] kinds = new int[6];
        Random random = new Random(7);
        TwoCards x = new TwoCards();
        Model m = new Model();
        for (int i = 0; i < texts; i++) {
            if (m.codes.size() == 6) {
                x = new TwoCards();
                m = new Model();
            }
            String text = text(random);
            if (text.length() > 400) {
                text = text.substring(0, 400);
            }
            Check.tape(x, text);
            m.tape.append(text);
            int due = m.code();
            kinds[due < 0 ? (-3 - due) % 8 : 5]++;
            Check.due("code '" + text + "'", x.code(), due);
            Check.due("tape", x.count(4), 0);
        }
        if (args.length > 0) {
            System.out.println(java.util.Arrays.toString(kinds));
        }
        Check.end("Faults");
    }

    private static String text(Random random) {
        if (random.nextInt(4) == 0) {
            return RandomRuns.code(random);
        }
        StringBuilder text = new StringBuilder(start(random));
        int n = random.nextInt(12);
        for (int i = 0; i < n; i++) {
            text.append(SIGNS.get(random.nextInt(SIGNS.size())));
            if (random.nextInt(3) > 0) {
                text.append(' ');
            }
        }
        return text.toString();
    }

    /** Something that may be gone on from, at times near a limit. */
    private static String start(Random random) {
        switch (random.nextInt(8)) {
            case 0: return "";
            case 1: return "slight look 1;".repeat(12 + random.nextInt(4));
            case 2: return "refuse 1" + "+1".repeat(20 + random.nextInt(30)) + "=";
            case 3: return "refuse " + "not ".repeat(random.nextInt(12));
            case 4: return "refuse " + "[".repeat(random.nextInt(12)) + "age=1";
            case 5: return "slight look 1 if not [" + "1=1 or ".repeat(14 + random.nextInt(4));
            case 6: return "ask 1;hours 2;must 3;";
            default: return RandomRuns.code(random);
        }
    }
}
