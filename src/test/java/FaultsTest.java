/** Texts with their first fault, and texts that have none. */
public final class FaultsTest {
    private static final String HAND = "hand a 1 1 1 1 1 1 1 1;";
    private static final String WOOD = "wood o 1 1 a;";

    private FaultsTest() {
    }

    public static void main(String[] args) {
        wholeTexts();
        tokens();
        lines();
        numbers();
        tooMany();
        toldTwice();
        untold();
        expressions();
        brackets();
        knots();
        Check.end("FaultsTest");
    }

    private static void good(String text, int lines) {
        KnockBank bank = new KnockBank();
        Check.due("lines of " + text, lines, Tell.told(bank, text));
        Check.due("fault of " + text, 0, bank.fault(0));
        Check.due("place of " + text, -1, bank.fault(1));
    }

    private static void bad(String text, int fault, int place) {
        KnockBank bank = new KnockBank();
        Check.due("lines of " + text, -1, Tell.told(bank, text));
        Check.due("fault of " + text, fault, bank.fault(0));
        Check.due("place of " + text, place, bank.fault(1));
    }

    private static void wholeTexts() {
        good("", 0);
        good(" \n  \n", 0);
        good(HAND + WOOD + "rap a o 0;like 0;seed 0;law shake 1;law near 1;law fade 1;", 8);
        good("hand a1 1 1 1 1 1 1 1;", 1);
        good("\nhand\na 1 1 1 1\n1 1 1 1\n;\n", 1);
        good("hand a 1 1 1 1 1 1 1 1;wood a 1 1 a;rap a a 1;", 3);
        good("like 024;seed 0099999;", 2);
        good("hand abcdef 9 99 1 2 3 4 1 2;", 1);
        good("hand laws 0 0 1 1 1 1 1 1;hand e 0 0 1 1 1 1 1 1;", 2);
        good("law near 1<2;law shake 1;", 2);
        good("like24;", 1);
    }

    private static void tokens() {
        bad("abcdefg", 1, 0);
        bad("hand abcdefg 1 1 1 1 1 1 1 1;", 1, 5);
        bad("Hand a 1 1 1 1 1 1 1 1;", 1, 0);
        bad("hand A 1 1 1 1 1 1 1 1;", 1, 5);
        bad("\thand a 1 1 1 1 1 1 1 1;", 1, 0);
        bad("like 3\r;", 1, 6);
        bad("like #;", 1, 5);
        bad("like 3; \u00ff", 1, 8);
        bad("like 3;\u0000", 1, 7);
        bad("like -3;", 1, 5);
        bad("like 3.;", 1, 6);
        bad("hand a_ 1 1 1 1 1 1 1 1;", 1, 6);
    }

    private static void lines() {
        bad(";", 1, 0);
        bad(";".repeat(700), 1, 0);
        bad("law near 1" + "+1".repeat(20) + "<".repeat(650), 1, 51);
        bad("like 3;;", 1, 7);
        bad("like", 1, 4);
        bad("like  \n", 1, 7);
        bad("like 3", 1, 6);
        bad("like 3  ", 1, 8);
        bad("like 3 4;", 1, 7);
        bad("like like;", 1, 5);
        bad("like x;", 1, 5);
        bad("3;", 1, 0);
        bad("near 3;", 1, 0);
        bad("x 3;", 1, 0);
        bad("hand hand 1 1 1 1 1 1 1 1;", 1, 5);
        bad("hand day 1 1 1 1 1 1 1 1;", 1, 5);
        bad("hand 1 1 1 1 1 1 1 1;", 1, 5);
        bad("hand a 1 1 1 1 1 1 1;", 1, 20);
        bad("hand a 1 1 1 1 1 1 1 1 1;", 1, 23);
        bad("hand a 1 1 1 1 1 1 1 1", 1, 22);
        bad(HAND + "wood o 1 1;", 1, 33);
        bad(HAND + "wood o 1 1 1;", 1, 34);
        bad(HAND + "wood rap 1 1 a;", 1, 28);
        bad(HAND + WOOD + "rap a 1;", 1, 42);
        bad(HAND + WOOD + "rap a o;", 1, 43);
        bad(HAND + WOOD + "rap or o 1;", 1, 40);
        bad("seed;", 1, 4);
        bad("law", 1, 3);
        bad("law law 1;", 1, 4);
        bad("law cold 1;", 1, 4);
        bad("law x 1;", 1, 4);
        bad("law near", 1, 8);
    }

    private static void numbers() {
        bad("like 25;", 2, 5);
        bad("like 4294967299;", 2, 5);
        bad("seed 100000;", 2, 5);
        bad("seed 18446744073709551616;", 2, 5);
        bad("seed 99999999999999999999999999999;", 2, 5);
        bad("hand a 10 100 5 1 1 1 1 1;", 2, 7);
        bad("hand a 9 100 5 1 1 1 1 1;", 2, 9);
        bad("hand a 9 99 4 4 4 4 4 0;", 2, 22);
        bad("hand a 9 99 4 4 4 4 4 5;", 2, 22);
        bad(HAND + "wood o 100 10 x;", 2, 30);
        bad(HAND + "wood o 99 10 x;", 2, 33);
        bad(HAND + WOOD + "rap a o 100;", 2, 44);
        good(HAND + WOOD + "rap a o 99;", 3);
        bad("law near 10000;", 2, 9);
        bad("law near 1 + 99999999999;", 2, 13);
        bad("like 3 99999999999;", 1, 7);
    }

    private static String many(String line, int times) {
        StringBuilder text = new StringBuilder();
        for (int i = 0; i < times; i++) {
            text.append(line.replace('#', (char) ('a' + i)));
        }
        return text.toString();
    }

    private static void tooMany() {
        good(many("hand # 1 1 1 1 1 1 1 1;", 6), 6);
        bad(many("hand # 1 1 1 1 1 1 1 1;", 6) + "hand", 2, 138);
        bad(many("hand # 1 1 1 1 1 1 1 1;", 6) + "  hand a", 2, 140);
        good(HAND + many("wood # 1 1 a;", 4), 5);
        bad(HAND + many("wood # 1 1 a;", 4) + "wood a", 2, 75);
        good(HAND + WOOD + many("rap a o 1;", 10), 12);
        bad(HAND + WOOD + many("rap a o 1;", 10) + "rap", 2, 136);
    }

    private static void toldTwice() {
        bad(HAND + "hand a 10", 3, 28);
        bad(HAND + WOOD + "wood o 100", 3, 41);
        bad("like 3;like 25;", 3, 7);
        bad("seed 3;seed", 3, 7);
        bad("law near 1;law near 10000;", 3, 15);
        bad("law fade 1;law shake 1;law fade", 3, 27);
    }

    private static void untold() {
        bad("wood o 1 1 a;" + HAND, 4, 11);
        bad(HAND + "wood o 1 1 o;", 4, 34);
        bad(HAND + WOOD + "rap o a 1;", 4, 40);
        bad(HAND + WOOD + "rap a a 1;", 4, 42);
        bad(HAND + WOOD + "rap a oo 1;", 4, 42);
    }

    private static void expressions() {
        good("law near 1 < 2 and 2 < 3 or not 3 = 4;", 1);
        good("law near (1 < 2) < 3;", 1);
        good("law near 1 < (2 < 3);", 1);
        good("law near not not (not 1);", 1);
        good("law near 1<>2 and 1>=2 and 1<=2;", 1);
        good("law near cold+aged-hard*beat/place+raps-day;", 1);
        bad("law near 1 < 2 < 3;", 1, 15);
        bad("law near 1 = 2 + 3 <> 3;", 1, 19);
        bad("law near (1 < 2 > 1);", 1, 16);
        bad("law near 1 < 2 < ", 1, 15);
        bad("law near 1 < not 2;", 1, 13);
        bad("law near 1 + not 2;", 1, 13);
        bad("law near 1 * not 2;", 1, 13);
        bad("law near 1 not 2;", 1, 11);
        bad("law near < 1;", 1, 9);
        bad("law near - 1;", 1, 9);
        bad("law near 1 - - 1;", 1, 13);
        bad("law near 1 < = 2;", 1, 13);
        bad("law near 1 > = 2;", 1, 13);
        bad("law near 1 < > 2;", 1, 13);
        bad("law near 1 >< 2;", 1, 12);
        bad("law near 1 =< 2;", 1, 12);
        bad("law near 1 == 2;", 1, 12);
        bad("law near 1 <>= 2;", 1, 13);
        bad("law near 1 2;", 1, 11);
        bad("law near 1 cold;", 1, 11);
        bad("law near cold 1;", 1, 14);
        bad("law near x;", 1, 9);
        bad("law near hand;", 1, 9);
        bad("law near near;", 1, 9);
        bad("law near 1 and;", 1, 14);
        bad("law near and 1;", 1, 9);
        bad("law near 1 and or 2;", 1, 15);
        bad("law near not;", 1, 12);
        bad("law near not", 1, 12);
        bad("law near 1", 1, 10);
        bad("law near 1 + ", 1, 13);
        bad("law near 1 + ;", 1, 13);
        bad("law near 1 + #;", 1, 13);
        bad("law near 1 % 2;", 1, 11);
    }

    private static void brackets() {
        good("law near ((((((((1))))))));", 1);
        good("law near ((((((((1)))))))) + ((((((((1))))))));", 1);
        good("law near (1)+(1)+(1)+(1)+(1)+(1)+(1)+(1)+(1)+(1);", 1);
        bad("law near ((((((((1)))))))) + (((((((((1)))))))));", 2, 37);
        bad("law near (((((((((", 2, 17);
        bad("law near ((((((((", 1, 17);
        bad("law near (1;", 1, 11);
        bad("law near (1", 1, 11);
        bad("law near 1);", 1, 10);
        bad("law near (1));", 1, 12);
        bad("law near ();", 1, 10);
        bad("law near );", 1, 9);
        bad("law near 1 (2);", 1, 11);
        bad("law near (1) (2);", 1, 13);
        bad("law near (1 +);", 1, 13);
        bad("law near (1 2);", 1, 12);
        bad("law near 1 (((((((((", 1, 11);
        bad("law near (not) 1;", 1, 13);
    }

    private static void knots() {
        KnockBank bank = Tell.bank("law near " + many("1+", 31) + "1;law fade 1;");
        Check.due("64 knots", 64, bank.count(3));
        bank = Tell.bank("law near (((not (1))));law fade (cold) <> (2) and 3;");
        Check.due("brackets are none", 7, bank.count(3));
        bad("law near " + many("1+", 31) + "1;law fade not 1;", 2, 86);
        bad("law near " + many("1+", 31) + "1;law fade 1+;", 2, 83);
        bad("law near " + many("1+", 31) + "1;law fade 1<1;", 2, 83);
        bad("law near " + many("1+", 31) + "1;law fade 1 and 1;", 2, 84);
        bad("law near " + many("1+", 31) + "1;law fade 1 or 1;", 2, 84);
        bad("law near " + many("1+", 31) + "1;law fade 1 not 1;", 1, 84);
        bad("law near " + many("1+", 32) + "cold;", 2, 73);
        bad("law near " + many("1+", 32) + "10000;", 2, 73);
        bad("law near " + many("1+", 32) + "x;", 1, 73);
        bad("law near " + many("1+", 32) + ";", 1, 73);
        bad("law near " + many("1+", 32) + "(1);", 2, 74);
        bad("law near " + many("not ", 64) + "1;", 2, 265);
        good("law near " + many("not ", 63) + "1;", 1);
        bad("law near " + many("1+", 31) + "1<1<1;", 2, 73);
    }
}
