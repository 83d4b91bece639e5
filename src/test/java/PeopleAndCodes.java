/** Promises 1 to 9: a new object, people, debts, the tape, codes and their faults, what a code weighs. */
public final class PeopleAndCodes {
    public static void main(String[] args) {
        newObject();
        people();
        debts();
        tape();
        codes();
        keeps();
        told();
        faultsOfPlace();
        faultsOfNumber();
        faultsOfDepth();
        faultsOfMany();
        faultsOfClauses();
        readings();
        longTexts();
        weighs();
        words();
        Check.end("PeopleAndCodes");
    }

    private static void newObject() {
        TwoCards x = new TwoCards();
        for (int what = 0; what < 5; what++) {
            Check.due("new count(" + what + ")", x.count(what), 0);
        }
        Check.due("new told", x.told(0, 0), -1);
        Check.due("new first", x.first(0), -1);
        Check.due("new back", x.back(0), -1);
        Check.due("new keeps none", x.keeps(0, -1), false);
        Check.due("NONE", TwoCards.NONE, -1);
    }

    private static void people() {
        TwoCards x = new TwoCards();
        int[][] wrong = {{-1, 0, 0}, {100, 0, 0}, {0, -1, 0}, {0, 10, 0}, {0, 0, -1}, {0, 0, 10},
            {Integer.MIN_VALUE, 0, 0}, {0, Integer.MAX_VALUE, 0}};
        for (int[] w : wrong) {
            Check.due("person " + w[0] + " " + w[1] + " " + w[2], x.person(w[0], w[1], w[2]), -1);
        }
        Check.due("count after wrong ones", x.count(0), 0);
        Check.due("least person", x.person(0, 0, 0), 0);
        Check.due("most person", x.person(99, 9, 9), 1);
        for (int i = 2; i < 12; i++) {
            Check.due("person " + i, x.person(20, 1, 1), i);
        }
        Check.due("a thirteenth", x.person(20, 1, 1), -1);
        Check.due("twelve people", x.count(0), 12);
    }

    private static void debts() {
        TwoCards x = new TwoCards();
        x.person(20, 1, 1);
        x.person(20, 1, 1);
        Check.due("no debt to end", x.debt(0, 1, false), false);
        Check.due("a debt", x.debt(0, 1, true), true);
        Check.due("the same debt", x.debt(0, 1, true), false);
        Check.due("the other way", x.debt(1, 0, false), false);
        Check.due("a debt back", x.debt(1, 0, true), true);
        Check.due("paid", x.debt(0, 1, false), true);
        Check.due("paid again", x.debt(0, 1, false), false);
        Check.due("paid back", x.debt(1, 0, false), true);
        Check.due("to oneself", x.debt(0, 0, true), false);
        Check.due("to oneself, no more", x.debt(1, 1, false), false);
        Check.due("to nobody", x.debt(0, 2, true), false);
        Check.due("of nobody", x.debt(-1, 1, true), false);
        Check.due("of one far off", x.debt(32, 1, true), false);
        Check.code(x, "refuse owes = 1");
        x.debt(0, 1, true);
        Check.due("he owes", x.weighs(0, 0, 1, 0, 0, 0, 0, 8), 1);
        Check.due("the other doesn't", x.weighs(0, 1, 0, 0, 0, 0, 0, 8), 0);
    }

    private static void tape() {
        TwoCards x = new TwoCards();
        for (int i = 1; i <= 20; i++) {
            Check.due("feed " + i, x.feed(-1, 0, 0, 0, 0), 20 * i);
        }
        Check.due("feed more", x.feed(0, 0, 0, 0, 0), -1);
        Check.due("full", x.count(4), 400);
        Check.due("end above", x.end(401), -1);
        Check.due("end below", x.end(-1), -1);
        Check.due("still full", x.count(4), 400);
        Check.due("end at its length", x.end(400), 400);
        Check.due("end 381", x.end(381), 381);
        Check.due("no room", x.feed(0, 0, 0, 0, 0), -1);
        Check.due("381 still", x.count(4), 381);
        Check.due("end 380", x.end(380), 380);
        Check.due("just room", x.feed(0, 0, 0, 0, 0), 400);
        Check.due("end 0", x.end(0), 0);
        Check.due("end 1 of nothing", x.end(1), -1);
        // "must 2" and zeros, highest byte first
        Check.due("feed must", x.feed(0x6d757374, 0x20320000, 0, 0, 0), 20);
        Check.due("end 6", x.end(6), 6);
        Check.due("code", x.code(), 0);
        Check.due("must is 2", x.told(0, 2), 2);
        Check.due("empty then", x.count(4), 0);
        // what was cut off doesn't come back
        x.feed(0x6d757374, 0x20330000, 0, 0, 0);
        x.end(5);
        x.feed(0x34000000, 0, 0, 0, 0);
        x.end(6);
        Check.due("code of two feeds", x.code(), 1);
        Check.due("must is 4", x.told(1, 2), 4);
    }

    private static void codes() {
        TwoCards x = new TwoCards();
        Check.due("empty text", x.code(), -3);
        Check.due("a fault", Check.code(x, "x"), -3);
        Check.due("empty with a fault, too", x.count(4), 0);
        for (int i = 0; i < 6; i++) {
            Check.due("code " + i, Check.code(x, "must 1"), i);
        }
        Check.tape(x, "must 1");
        Check.due("a seventh", x.code(), -1);
        Check.due("nothing happens", x.count(4), 6);
        Check.tape(new TwoCards(), "");
        x.end(1);
        Check.due("a seventh with a fault", x.code(), -1);
        Check.due("nothing happens with a fault", x.count(4), 1);
        Check.due("six codes", x.count(1), 6);
    }

    private static void keeps() {
        TwoCards x = new TwoCards();
        x.person(1, 1, 1);
        x.person(1, 1, 1);
        Check.code(x, "slight look 1");
        Check.due("no such code", x.keeps(0, 1), false);
        Check.due("no such person", x.keeps(2, 0), false);
        Check.due("code -2", x.keeps(0, -2), false);
        Check.due("person -1", x.keeps(-1, 0), false);
        Check.due("keeps none", x.keeps(0, -1), true);
        Check.due("keeps", x.keeps(0, 0), true);
        Check.due("keeps again", x.keeps(0, 0), true);
        Check.due("one keeps none yet", x.quarrel(0, 1, 0, 0), -1);
        x.keeps(1, 0);
        Check.due("both keep", x.quarrel(0, 1, 0, 0), 0);
        x.keeps(0, -1);
        Check.due("keeps no more", x.quarrel(0, 1, 0, 0), -1);
        Check.due("nor as the second", x.quarrel(1, 0, 0, 0), -1);
        Check.due("the quarrel goes on by its code", x.move(0, 8), 0);
    }

    private static void told() {
        TwoCards x = new TwoCards();
        Check.code(x, "slight look 1");
        Check.code(x, "ask 0;slight look 1;hours 8;must 15;back bow 1");
        int[] without = {1, 6, 1, 1};
        int[] with = {0, 8, 15, 5};
        for (int what = 0; what < 4; what++) {
            Check.due("told without " + what, x.told(0, what), without[what]);
            Check.due("told with " + what, x.told(1, what), with[what]);
        }
        Check.due("told 4", x.told(0, 4), -1);
        Check.due("told -1", x.told(0, -1), -1);
        Check.due("told of no code", x.told(2, 0), -1);
        Check.due("told of -1", x.told(-1, 0), -1);
    }

    private static void fault(String text, int place, int kind) {
        TwoCards x = new TwoCards();
        Check.due("'" + text + "'", Check.code(x, text), -2 - (1 + 8 * place + kind));
        Check.due("no code of '" + text + "'", x.count(1), 0);
    }

    private static void fine(String text) {
        Check.due("'" + text + "'", Check.code(new TwoCards(), text), 0);
    }

    private static void faultsOfPlace() {
        fault("", 0, 0);
        fault("  ", 2, 0);
        fault(";", 0, 0);
        fault("look 1", 0, 0);
        fault("Slight look 1", 0, 0);
        fault("slightlook 1", 0, 0);
        fault("slights look 1", 0, 0);
        fault("slightz look 1", 0, 0);
        fault("slight", 6, 0);
        fault("slight  ", 8, 0);
        fault("slight kick 1", 7, 0);
        fault("slight bow 1", 7, 0);
        fault("slight 1", 7, 0);
        fault("back look 1", 5, 0);
        fault("slight look", 11, 0);
        fault("slight look age", 12, 0);
        fault("slight look 1 2", 14, 0);
        fault("slight look 1 age", 14, 0);
        fault("slight look 1\t", 13, 0);
        fault("slight look 1\0", 13, 0);
        fault("slight look 1" + (char) 200, 13, 0);
        fault("slight look 1 if", 16, 0);
        fault("slight look 1 if [age = 1", 25, 0);
        fault("slight look 1 if [age = 1;", 25, 0);
        fault("slight look 1 if age = 1]", 24, 0);
        fault("refuse", 6, 0);
        fault("refuse if age=1", 7, 0);
        fault("refuse age", 10, 0);
        fault("refuse age 1", 11, 0);
        fault("refuse age > 1 or", 17, 0);
        fault("refuse age > 1 and or", 19, 0);
        fault("refuse age < = 1", 13, 0);
        fault("refuse age == 1", 12, 0);
        fault("refuse age => 1", 12, 0);
        fault("refuse age =< 1", 12, 0);
        fault("refuse age <> 1", 12, 0);
        fault("refuse age<1<2", 12, 0);
        fault("refuse -1 < 2", 7, 0);
        fault("refuse age + not 1 = 1", 13, 0);
        fault("refuse ages < 2", 7, 0);
        fault("refuse [age] < 2", 11, 0);
        fault("refuse age5 < 2", 10, 0);
        fault("refuse [] = 1", 8, 0);
        fault("refuse look = 1", 7, 0);
        fault("refuse age + [1=1]", 13, 0);
        fault("ask", 3, 0);
        fault("ask age", 4, 0);
        fault("ask 1 if age=1", 6, 0);
        fault("must 1;", 7, 0);
        fault("must 1; ", 8, 0);
        fault("must 1;;ask 1", 7, 0);
        fault("must 1,ask 1", 6, 0);
    }

    private static void faultsOfNumber() {
        fault("slight look 10", 12, 1);
        fault("slight look 00001", 12, 1);
        fault("back bow 16", 9, 1);
        fault("ask 16", 4, 1);
        fault("hours 9", 6, 1);
        fault("hours 0", 6, 1);
        fault("must 16", 5, 1);
        fault("must 99999999999999999999", 5, 1);
        fault("refuse age < 10000", 13, 1);
        fault("refuse age < 00000;x", 13, 1);
        fine("slight look 0009");
        fine("back bow 15");
        fine("hours 8");
        fine("hours 1;ask 15;must 15");
        fine("hours 0001;ask 0;must 0");
        fine("refuse age < 9999");
    }

    private static void faultsOfDepth() {
        fine("refuse " + "not ".repeat(10) + "age=1");
        fault("refuse " + "not ".repeat(11) + "age=1", 47, 2);
        fine("refuse " + "[".repeat(10) + "age=1" + "]".repeat(10));
        fault("refuse " + "[".repeat(11) + "age=1" + "]".repeat(11), 17, 2);
        fault("refuse " + "not[".repeat(5) + "not 1=1" + "]".repeat(5), 27, 2);
        fault("refuse " + "not[".repeat(5) + "[1=1]" + "]".repeat(5), 27, 2);
        fine("refuse " + "not[".repeat(5) + "1=1" + "]".repeat(5));
        // those that lie beside one another are no deeper
        fine("refuse " + "[".repeat(9) + "not 1=1 and not 1=1 or [1=1]" + "]".repeat(9) + " and not not 1=1");
        fault("refuse " + "not ".repeat(10) + "x", 47, 0);
    }

    private static void faultsOfMany() {
        // a fact of two values is three
        String sixteen = "1=1 or ".repeat(16);
        fault("refuse " + sixteen + "1=1", 7 + 112 + 2, 3);
        fault("refuse " + sixteen + "1=12345", 7 + 112 + 2, 1);
        fault("refuse " + sixteen + "1=word", 7 + 112 + 2, 0);
        fault("refuse " + sixteen + "1=age", 7 + 112 + 2, 3);
        // fifty: 24 + 1 + 25
        fine("refuse 1" + "+1".repeat(23) + "=1" + "+1".repeat(24));
        fault("refuse 1" + "+1".repeat(23) + "=1" + "+1".repeat(24) + "-1", 7 + 47 + 1 + 49 + 1, 3);
        // fifty values leave no room for the sign
        fault("refuse 1" + "+1".repeat(49) + "=1", 7 + 99, 3);
        fault("refuse 1" + "+1".repeat(49), 7 + 99, 0);
        // over all clauses together; numbers of clauses don't count
        String part = "refuse 1=1 or 1=1;";
        fine(part.repeat(8) + "slight look 1;slight word 2;ask 3;hours 4;must 5");
        fault(part.repeat(8) + "refuse 1=1", 8 * 18 + 9, 3);
    }

    private static void faultsOfClauses() {
        fine("slight look 1;".repeat(13) + "slight look 1");
        fault("slight look 1;".repeat(14) + "slight look 1", 196, 4);
        fault("slight look 1;".repeat(14) + " slight kick 1", 197, 4);
        fault("slight look 1;".repeat(14) + "kick", 196, 0);
        fault("slight look 1;".repeat(14), 196, 0);
        fault("ask 1;ask 2", 6, 4);
        fault("ask 1;ask", 6, 4);
        fault("hours 1; hours 99999", 9, 4);
        fault("must 1;ask 1;must 1", 13, 4);
    }

    private static void readings() {
        fine("   slight   look   1   if   age   =   1   ;   must   1   ");
        fine("slight look1if[age=1]and rank<=2or not kin=1;back bow2;refuse 1>=1;ask3;hours4;must5");
        TwoCards x = new TwoCards();
        Check.code(x, "slight look1if[age=1]and rank<=2or not kin=1;back bow2;refuse 1>=1;ask3;hours4;must5");
        Check.due("six clauses", x.told(0, 3), 6);
        Check.due("hours 4", x.told(0, 1), 4);
    }

    private static void longTexts() {
        String blanks = " ".repeat(400);
        fine("must 1" + blanks.substring(6));
        fine(blanks.substring(6) + "must 1");
        fault(blanks, 400, 0);
        fault("must 1;" + blanks.substring(7), 400, 0);
        fault(blanks.substring(6) + "refuse", 400, 0);
        fault(";".repeat(400), 0, 0);
        fault("must " + "1".repeat(395), 5, 1);
        fault("a".repeat(400), 0, 0);
        fault("refuse " + "[".repeat(393), 17, 2);
        // the fourteenth clause has its test, too
        TwoCards x = new TwoCards();
        x.person(30, 1, 1);
        x.person(40, 1, 1);
        Check.code(x, "must 1;" + "slight look 1;".repeat(12) + "slight word 5 if age = 30");
        Check.due("a fourteenth that holds", x.weighs(0, 0, 1, 0, 0, 0, 0, 1), 5);
        Check.due("a fourteenth that doesn't", x.weighs(0, 1, 0, 0, 0, 0, 0, 1), 0);
        Check.due("fourteen", x.told(0, 3), 14);
    }

    private static void weighs() {
        TwoCards x = new TwoCards();
        x.person(10, 2, 3);
        x.person(20, 4, 5);
        Check.code(x, "slight look 1 if age > hisage;slight look 2;slight look 3;slight word 4 if owed = 15;"
            + "slight blow 9;back bow 1 if gone = 8;back bow 15 if mine = 15;back public 3;refuse ladies = 9;refuse rank > 3");
        Check.due("the younger's look", x.weighs(0, 0, 1, 0, 0, 0, 0, 0), 2);
        Check.due("the elder's look", x.weighs(0, 1, 0, 0, 0, 0, 0, 0), 1);
        Check.due("word", x.weighs(0, 0, 1, 0, 15, 0, 0, 1), 4);
        Check.due("word with less owed", x.weighs(0, 0, 1, 0, 14, 0, 0, 1), 0);
        Check.due("lie", x.weighs(0, 0, 1, 0, 0, 0, 0, 2), 0);
        Check.due("blow", x.weighs(0, 0, 1, 0, 0, 0, 0, 3), 9);
        Check.due("bow late", x.weighs(0, 0, 1, 0, 0, 15, 8, 4), 1);
        Check.due("bow", x.weighs(0, 0, 1, 0, 0, 15, 7, 4), 15);
        Check.due("bow without", x.weighs(0, 0, 1, 0, 0, 0, 0, 4), 0);
        Check.due("sorry", x.weighs(0, 0, 1, 0, 0, 0, 0, 5), 0);
        Check.due("public", x.weighs(0, 0, 1, 0, 0, 0, 0, 7), 3);
        Check.due("may refuse by ladies", x.weighs(0, 0, 1, 9, 0, 0, 0, 8), 1);
        Check.due("may not refuse", x.weighs(0, 0, 1, 8, 0, 0, 0, 8), 0);
        Check.due("may refuse by rank", x.weighs(0, 1, 0, 8, 0, 0, 0, 8), 1);
        int[][] wrong = {{1, 0, 1, 0, 0, 0, 0, 0}, {-1, 0, 1, 0, 0, 0, 0, 0}, {0, 0, 0, 0, 0, 0, 0, 0}, {0, 2, 1, 0, 0, 0, 0, 0},
            {0, 0, -1, 0, 0, 0, 0, 0}, {0, 0, 1, 10, 0, 0, 0, 0}, {0, 0, 1, -1, 0, 0, 0, 0}, {0, 0, 1, 0, 16, 0, 0, 0},
            {0, 0, 1, 0, -1, 0, 0, 0}, {0, 0, 1, 0, 0, 16, 0, 0}, {0, 0, 1, 0, 0, -1, 0, 0}, {0, 0, 1, 0, 0, 0, 9, 0},
            {0, 0, 1, 0, 0, 0, -1, 0}, {0, 0, 1, 0, 0, 0, 0, 9}, {0, 0, 1, 0, 0, 0, 0, -1}};
        for (int[] w : wrong) {
            Check.due("weighs " + java.util.Arrays.toString(w),
                x.weighs(w[0], w[1], w[2], w[3], w[4], w[5], w[6], w[7]), -1);
        }
    }

    /** Whether a test holds of person 0 to person 1, with ladies 3, owed 4, mine 5, gone 6. */
    private static void holds(String test, boolean is) {
        TwoCards x = new TwoCards();
        x.person(31, 7, 2);
        x.person(45, 8, 2);
        x.person(45, 8, 3);
        x.debt(0, 1, true);
        Check.due("code", Check.code(x, "refuse " + test), 0);
        Check.due(test, x.weighs(0, 0, 1, 3, 4, 5, 6, 8), is ? 1 : 0);
    }

    private static void words() {
        for (String test : new String[] {"age=31", "rank=7", "hisage=45", "hisrank=8", "kin=1", "owes=1", "ladies=3",
            "owed=4", "mine=5", "gone=6", "age+rank-hisage+hisrank=1", "rank-hisrank<0", "0-1<0", "3<=3", "3>=3", "2<3",
            "3>2", "9999>9998", "1-1-1=0-1", "1=2 or 1=1", "1=1 and 2=2", "not 1=2", "not not 1=1",
            "1=1 or 1=1 and 1=2", "1=2 and 1=1 or 1=1", "not 1=2 and 1=1", "not [1=1 and 1=2]", "[1=2 or 1=1] and 1=1",
            "1-2+2=1", "1=1 and 2<3", "2<3 and 1=1", "3<=3 and 1=1 and 3>=3", "3>2 and 1=1", "not 3<3 and not 3>3", "0000=0", "0<1", "0-9999<0-9998", "1=1 or 1=2 or 1=2", "not 1=1 or 1=1"}) {
            holds(test, true);
        }
        for (String test : new String[] {"3<3", "3>3", "3<=2", "3>=4", "1=2", "1=2 or 2=1", "1=1 and 1=2", "not 1=1",
            "[1=1 or 1=1] and 1=2", "not [1=2 or 1=1]", "not 2<3", "not 3<=3", "not 3=3", "not 3>=3", "not 3>2",
            "not [1=1 and 2<3]", "1=2 and 2<3", "1=2 and 3<=3", "2<3 and 3>=4", "not [2<3 or 1=2]", "not not 2<2", "0>0", "not 1=1 and 1=1", "1=2 and 1=1", "1=1 and 1=1 and 1=2"}) {
            holds(test, false);
        }
        TwoCards x = new TwoCards();
        x.person(1, 1, 2);
        x.person(1, 1, 3);
        Check.code(x, "refuse kin = 0");
        Check.due("no kin", x.weighs(0, 0, 1, 0, 0, 0, 0, 8), 1);
    }
}
