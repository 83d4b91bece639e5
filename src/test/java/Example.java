/** The example of README.md, each call with the answer that is told there. */
public final class Example {
    private static final int NONE = TwoCards.NONE;

    public static void main(String[] args) {
        TwoCards cards = new TwoCards();
        Check.due("person", cards.person(30, 3, 0), 0);
        Check.due("person", cards.person(40, 5, 1), 1);
        Check.due("debt", cards.debt(0, 1, true), true);
        tell(cards, "slight look 1; slight word 3 if ladies > 0 and not owes = 0; slight word 2;"
            + "back bow 1; back sorry 2; ask 3; hours 2");
        Check.due("code", cards.code(), 0);
        tell(cards, "slight lock 1");
        Check.due("code with a fault", cards.code(), -59);
        Check.due("keeps", cards.keeps(0, 0), true);
        Check.due("keeps", cards.keeps(1, 0), true);
        Check.due("weighs", cards.weighs(0, 0, 1, 1, 0, 0, 0, 1), 3);
        Check.due("harsh", cards.harsh(0, 0, 1, 1), 2);
        Check.due("mend", cards.mend(0, 0, 1, 1, 1), 1);
        quarrel(cards);
        Check.end("Example");
    }

    private static void quarrel(TwoCards cards) {
        int quarrel = cards.quarrel(0, 1, 1, 1);
        Check.due("quarrel", quarrel, 0);
        Check.due("state", cards.state(quarrel, 3), 3);
        Check.due("may", cards.may(quarrel), Check.bits(0, 1, 2, 3, 8, 10));
        Check.due("ends", cards.ends(quarrel), Check.bits(8, 13, 18, 19));
        Check.due("ways", cards.ways(quarrel, 8), 1);
        Check.due("brief", cards.brief(quarrel, 8, NONE), 2);
        Check.due("game 0", cards.game(quarrel, 0), 8);
        Check.due("game 1", cards.game(quarrel, 1), 8);
        Check.due("image", cards.image(0), 1);
        Check.due("move 10", cards.move(quarrel, 10), 0);
        Check.due("move 5", cards.move(quarrel, 5), 4);
        Check.due("less", cards.state(quarrel, 1), 2);
        Check.due("otherwise", cards.otherwise(quarrel, 1, 8), 8);
        Check.due("doubt", cards.doubt(quarrel, 1), Check.bits(4, 18));
        Check.due("hangs", cards.hangs(quarrel), 1);
        Check.due("back", cards.back(0), 1);
        Check.due("first", cards.first(1), 0);
    }

    /** A text as twenty bytes at a time, of each number the highest first, and cut behind its last byte. */
    private static void tell(TwoCards cards, String text) {
        for (int i = 0; i < text.length(); i += 20) {
            cards.feed(four(text, i), four(text, i + 4), four(text, i + 8), four(text, i + 12), four(text, i + 16));
        }
        cards.end(text.length());
    }

    private static int four(String text, int start) {
        int number = 0;
        for (int i = start; i < start + 4; i++) {
            number = number << 8 | (i < text.length() ? text.charAt(i) : 0);
        }
        return number;
    }
}
