/** The boundary cases of promises 6 to 15 and of part 2 of the terms: raps, laws, their errors, what is done, days. */
public final class EdgesDaysTest {
    private static final String ONE = "hand a 0 0 1 1 1 1 1 1;wood o 9 0 a;rap a o 0;";
    /** The first numbers modulo 100 from this seed on are 16, 81, 64, 9. */
    private static final String DRAWN = ONE + "like 24;seed 99999;";
    private static final String THREE = "hand a 0 0 1 1 1 1 1 1;hand b 0 0 1 1 1 1 2 2;hand c 9 50 4 4 4 4 4 4;"
        + "wood o 2 0 a;wood p 9 9 b;rap a o 0;rap b p 1;rap c o 0;like 3;seed 0;";
    private static final long ERROR = Long.MIN_VALUE;
    private static final long SURE = 1000000000000L;
    private static final int[] FAR_OFF = {Integer.MIN_VALUE, -1000, 1000, Integer.MAX_VALUE};

    private EdgesDaysTest() {
    }

    public static void main(String[] args) {
        shaking();
        shakingUntold();
        drawing();
        binding();
        fading();
        dayByDay();
        namesOfLaws();
        values();
        errors();
        rap();
        handAndWood();
        law();
        warm();
        order();
        sellAndPlane();
        days();
        ahead();
        Edge.end("EdgesDaysTest", 6, 15);
    }

    private static void due(String what, long want, long got) {
        Check.due(what, want, got);
    }

    private static void due(String what, boolean want, boolean got) {
        Check.due(what, want, got);
    }

    /** What is heard of the first rap on its day. */
    private static int heard(String text) {
        KnockBank x = Tell.bank(text);
        x.days(1);
        return Ask.rap(x, 0, 6);
    }

    private static void likely(String what, String text, long above, long below) {
        KnockBank x = Tell.bank(text);
        due(what, above, x.likely(0, 0, 0));
        due(what + ", below", below, x.likely(0, 0, 1));
    }

    private static long sixth(long number) {
        return number * number * number * number * number * number;
    }

    private static void shaking() {
        Edge.ofTerms(2, "HEARD as told, or 1 longer", () -> {
            due("as told", 141414, heard("hand a 0 0 1 4 1 4 1 4;wood o 0 0 a;rap a o 0;law shake 0;"));
            due("longer, also a 4", 252525, heard("hand a 0 0 1 4 1 4 1 4;wood o 0 0 a;rap a o 0;law shake 100;"));
        });
        Edge.ofTerms(2, "if E of shake is above a number modulo 100", () -> {
            due("below 16", 111111, heard(DRAWN + "law shake 15 * (place = 0);"));
            due("just 16", 111111, heard(DRAWN + "law shake 16 * (place = 0);"));
            due("above 16", 211111, heard(DRAWN + "law shake 17 * (place = 0);"));
            for (int seed = 0; seed < 99999; seed += 499) {
                int number = new Numbers(seed).next();
                String text = ONE + "like 24;seed " + seed + ";law shake (place = 0) * ";
                due("just the number from " + seed, 111111, heard(text + number + ";"));
                due("above the number from " + seed, 211111, heard(text + (number + 1) + ";"));
            }
        });
        Edge.ofTerms(2, "E of shake (0 .. 100", () -> {
            likely("100", ONE + "law shake 100;", 0, 1);
            likely("101", ONE + "law shake 101;", 0, 1);
            likely("beyond an int", ONE + "law shake 9999 * 9999 * 100;", 0, 1);
            likely("99", ONE + "law shake 99;", 1, SURE);
            likely("1", ONE + "law shake 1;", sixth(99), SURE);
            likely("0", ONE + "law shake 0;", 1, 1);
            likely("-1", ONE + "law shake 0 - 1;", 1, 1);
            likely("below an int", ONE + "law shake 0 - 9999 * 9999 * 100;", 1, 1);
        });
    }

    private static String bank(int cold, int aged, int hard) {
        return "hand a " + cold + " " + aged + " 1 1 1 1 1 1;wood o 9 " + hard + " a;";
    }

    private static void shakingUntold() {
        Edge.ofTerms(2, "8 times COLD and AGED by 5, cut, less 5 times HARD", () -> {
            likely("aged 4 by 5 is 0", bank(0, 4, 0), 1, 1);
            likely("aged 5 by 5 is 1", bank(0, 5, 0), sixth(99), SURE);
            likely("aged 9 by 5 is 1", bank(0, 9, 0), sixth(99), SURE);
            likely("72 and 19", bank(9, 99, 0), sixth(9), SURE);
            likely("40 and 10 less 45", bank(5, 50, 9), sixth(19), 64000000L);
        });
        Edge.ofTerms(2, "8 times COLD and so on, 0 .. 100", () -> {
            likely("just 0", bank(5, 25, 9), 1, 1);
            likely("just 1", bank(5, 30, 9), sixth(99), SURE);
            likely("less than 0", bank(0, 0, 9), 1, 1);
            likely("-1", bank(3, 0, 5), 1, 1);
        });
        Edge.ofTerms(2, "8 times COLD and so on, without, with an ERROR", () -> {
            likely("without", bank(5, 50, 0), 1, 64);
            likely("with an ERROR", bank(5, 50, 0) + "law shake 1 / 0;", 1, 64);
            likely("with an ERROR at place 0 alone", bank(5, 50, 0) + "law shake 0 / place;", 1, 2);
            likely("another law alone", bank(5, 50, 0) + "law near 0;law fade 0;", 1, 64);
        });
    }

    private static void drawing() {
        Edge.ofTerms(2, "(no number, if that is 0 or 100)", () -> {
            due("0, then 17", 121111, heard(DRAWN + "law shake 17 * (place = 1);"));
            due("0, then 16", 111111, heard(DRAWN + "law shake 16 * (place = 1);"));
            due("100, then 17", 221111, heard(DRAWN + "law shake 100 * (place = 0) + 17 * (place = 1);"));
            due("100, then 16", 211111, heard(DRAWN + "law shake 100 * (place = 0) + 16 * (place = 1);"));
            due("101, then 17", 221111, heard(DRAWN + "law shake 101 * (place = 0) + 17 * (place = 1);"));
            due("-1, then 17", 121111, heard(DRAWN + "law shake 18 * (place = 1) - 1;"));
            due("-1, then 16", 111111, heard(DRAWN + "law shake 17 * (place = 1) - 1;"));
        });
        Edge.ofTerms(2, "a number, if that is 1 or 99", () -> {
            due("1, then 82", 121111, heard(DRAWN + "law shake (place = 0) + 82 * (place = 1);"));
            due("1, then 81", 111111, heard(DRAWN + "law shake (place = 0) + 81 * (place = 1);"));
            due("99, then 82", 221111, heard(DRAWN + "law shake 99 * (place = 0) + 82 * (place = 1);"));
            due("99, then 81", 211111, heard(DRAWN + "law shake 99 * (place = 0) + 81 * (place = 1);"));
        });
        Edge.ofTerms(2, "Numbers are the last one (at first the seed) times 1103515245 and 12345", () -> {
            for (int seed : new int[] {0, 1, 7, 65535, 65536, 99999}) {
                KnockBank x = Tell.bank("hand a 0 0 1 2 3 4 1 2;wood o 9 0 a;" + "rap a o 0;".repeat(5)
                    + "rap a o 1;".repeat(5) + "law shake 50;seed " + seed + ";");
                x.days(2);
                Numbers numbers = new Numbers(seed);
                for (int rap = 0; rap < 10; rap++) {
                    due("seed " + seed + ", rap " + rap, numbers.heard(123412, 50), Ask.rap(x, rap, 6));
                }
            }
        });
        Edge.ofTerms(2, "without what is above 31 bits", () -> {
            String text = "like 0;hand a 0 0 1 1 1 1 1 1;wood o 9 0 a;rap a o 0;law shake 50 * (place = 0);";
            for (int seed : new int[] {0, 1, Integer.MAX_VALUE - 1, Integer.MAX_VALUE, 1 << 30}) {
                Numbers numbers = new Numbers(seed);
                int right = 0;
                for (int i = 0; i < 10; i++) {
                    right += 50 > numbers.next() ? 0 : 1;
                }
                due("drawn from " + seed, right, Tell.bank(text).chance(seed, 1, 1));
            }
        });
        Edge.ofTerms(2, "AS IT GOES: without numbers: a BEAT is longer, if E is 50 at least", () -> {
            String text = "like 0;hand a 0 0 1 1 1 1 1 1;hand b 0 0 2 2 2 2 2 2;wood o 9 0 a;rap a o 0;";
            due("49: as told", 0, Tell.bank(text + "law shake 49;").will(0, 1));
            due("50: longer", 0, Tell.bank(text + "law shake 50;").will(1, 1));
            due("49 isn't longer", -2, Tell.bank(text + "law shake 49;").will(1, 1));
            due("50 isn't as told", -2, Tell.bank(text + "law shake 50;").will(0, 1));
            KnockBank x = Tell.bank(DRAWN + "law shake 17 * (place = 0);");
            x.ahead(9, 0);
            x.fading(9);
            x.will(0, 9);
            x.tried(3, 0, 9);
            x.rests(0, 0);
            x.colds(0);
            x.days(1);
            due("no number was taken", 211111, Ask.rap(x, 0, 6));
        });
    }

    private static void binding() {
        String two = "hand a 1 0 1 1 1 1 1 1;hand b 2 0 3 1 1 1 1 1;wood o 9 0 a;";
        Edge.ofTerms(2, "APART of two KNOCKS: how far their BEATS are from one another", () -> {
            due("0", 0, Tell.bank("hand a 0 0 4 1 4 1 4 1;hand b 0 0 4 1 4 1 4 1;").apart(0, 1));
            due("18 at most", 18, Tell.bank("hand a 0 0 4 1 4 1 4 1;hand b 0 0 1 4 1 4 1 4;").apart(0, 1));
        });
        Edge.ofTerms(2, "the first of several", () -> {
            due("between both", 0, Tell.bank(two).whose(211111, 0));
            due("nearer to the second", 1, Tell.bank(two).whose(311111, 0));
            KnockBank x = Tell.bank("hand a 0 0 1 1 1 1 1 1;hand b 0 0 1 1 1 1 1 1;wood o 9 0 a;rap b o 0;");
            x.days(1);
            due("of one knock", 0, Ask.rap(x, 0, 4));
        });
        Edge.ofTerms(2, "if that is within E of near", () -> {
            due("2 within 2", 0, Tell.bank(two + "law near 2;").whose(112211, 0));
            due("3 not within 2", -2, Tell.bank(two + "law near 2;").whose(112221, 0));
            due("as far as it is", 0, Tell.bank(two + "law near beat;").whose(115555, 0));
            due("one less than it is", -2, Tell.bank(two + "law near beat - 1;").whose(112111, 0));
        });
        Edge.ofTerms(2, "E of near (0 .. 30", () -> {
            due("-1 is 0", 0, Tell.bank(two + "law near 0 - 1;").whose(111111, 0));
            due("1 not within 0", -2, Tell.bank(two + "law near 0 - 1;").whose(111112, 0));
            due("beyond an int", 1, Tell.bank(two + "law near 9999 * 9999 * 100;").whose(555555, 0));
            due("below an int", -2, Tell.bank(two + "law near 0 - 9999 * 9999 * 100;").whose(111112, 0));
            due("30", 1, Tell.bank(two + "law near 30;").whose(555555, 0));
        });
        Edge.ofTerms(2, "like without, with an ERROR", () -> {
            due("2 by like 2", 0, Tell.bank("like 2;" + two).whose(112211, 0));
            due("3 by like 2", -2, Tell.bank("like 2;" + two).whose(112221, 0));
            due("2 with an ERROR", 0, Tell.bank("like 2;" + two + "law near 1 / 0;").whose(112211, 0));
            due("3 with an ERROR", -2, Tell.bank("like 2;" + two + "law near 1 / 0;").whose(112221, 0));
            due("like isn't looked at with E", -2, Tell.bank("like 24;" + two + "law near 0;").whose(111112, 0));
            due("ERROR by 2 alone: like", 0, Tell.bank("like 2;" + two + "law near 0 / (beat - 2);").whose(112211, 0));
            due("0 by 1", -2, Tell.bank("like 2;" + two + "law near 0 / (beat - 2);").whose(111211, 0));
        });
        Edge.ofTerms(2, "by the NAMES of that HAND, beat: APART", () -> {
            due("a's cold is 1", 0, Tell.bank(two + "law near cold;").whose(111112, 0));
            due("a's cold isn't 2", -2, Tell.bank(two + "law near cold;").whose(111122, 0));
            due("b's cold is 2", 1, Tell.bank(two + "law near cold;").whose(311122, 0));
            due("b's cold isn't 3", -2, Tell.bank(two + "law near cold;").whose(311222, 0));
            due("place is 0", 0, Tell.bank(two + "law near 9 * (place = 0);").whose(114441, 0));
        });
        Edge.ofTerms(2, "else VOID", () -> {
            KnockBank x = Tell.bank("like 5;" + ONE + "law shake 100;");
            x.days(1);
            due("void", 2, Ask.rap(x, 0, 3));
            due("to nobody", -1, Ask.rap(x, 0, 4));
            due("heard all the same", 222222, Ask.rap(x, 0, 6));
            due("counted", 1, x.count(6));
            due("not wrong", 0, x.count(7));
        });
    }

    /** How many days must go by until the first rap is faded; -1: none of 110. */
    private static int fadedAfter(String text) {
        KnockBank x = Tell.bank(text);
        for (int day = 1; day <= 110; day++) {
            x.days(1);
            if (Ask.rap(x, 0, 5) == 1) {
                return day;
            }
        }
        return -1;
    }

    private static void fading() {
        String hand = "hand a 3 0 1 1 1 1 1 1;";
        Edge.ofTerms(2, "if more DAYS than E of fade went by since then", () -> {
            due("keeps 0: on the next day", 2, fadedAfter(hand + "wood o 0 0 a;rap a o 0;"));
            due("keeps 1", 3, fadedAfter(hand + "wood o 1 0 a;rap a o 0;"));
            due("keeps 99", 101, fadedAfter(hand + "wood o 99 0 a;rap a o 0;"));
            due("since its day", 9, fadedAfter(hand + "wood o 2 0 a;rap a o 5;"));
        });
        Edge.ofTerms(2, "E of fade (0 .. 99", () -> {
            due("0", 2, fadedAfter(hand + "wood o 5 0 a;rap a o 0;law fade 0;"));
            due("-1 is 0", 2, fadedAfter(hand + "wood o 5 0 a;rap a o 0;law fade 0 - 1;"));
            due("99", 101, fadedAfter(hand + "wood o 5 0 a;rap a o 0;law fade 99;"));
            due("100 is 99", 101, fadedAfter(hand + "wood o 5 0 a;rap a o 0;law fade 100;"));
            due("beyond an int", 101, fadedAfter(hand + "wood o 5 0 a;rap a o 0;law fade 9999 * 9999 * 100;"));
            due("below an int", 2, fadedAfter(hand + "wood o 5 0 a;rap a o 0;law fade 0 - 9999 * 9999 * 100;"));
        });
        Edge.ofTerms(2, "KEEPS without, with an ERROR", () -> {
            due("with an ERROR", 7, fadedAfter(hand + "wood o 5 0 a;rap a o 0;law fade 1 / 0;"));
            due("with an ERROR on a day", 5, fadedAfter(hand + "wood o 3 0 a;rap a o 0;law fade 50 / (day < 4);"));
            due("another law alone", 7, fadedAfter(hand + "wood o 5 0 a;rap a o 0;law shake 0;law near 0;"));
        });
        Edge.ofTerms(2, "what was RAPPED is FADED: VOID as well, and nothing that isn't RAPPED", () -> {
            KnockBank x = Tell.bank("like 0;" + hand + "wood o 0 0 a;rap a o 0;rap a o 9;law shake 100;");
            x.days(2);
            due("void", 2, Ask.rap(x, 0, 3));
            due("faded", 1, Ask.rap(x, 0, 5));
            due("not rapped", 0, Ask.rap(x, 1, 5));
            due("one", 1, x.count(8));
        });
        Edge.ofTerms(2, "(1) is ahead of (2)", () -> {
            KnockBank x = Tell.bank(hand + "wood o 9 0 a;rap a o 0;rap a o 1;law fade 9 * (raps < 2);");
            x.days(2);
            due("the second rap came behind", 0, x.count(8));
            x.days(1);
            due("both", 2, x.count(8));
        });
        Edge.ofTerms(2, "what is FADED stays so", () -> {
            KnockBank x = Tell.bank(hand + "wood o 9 0 a;rap a o 0;law fade 99 * (day > 1);");
            x.days(2);
            due("faded on day 1", 1, x.count(8));
            x.days(5);
            due("later", 1, x.count(8));
        });
        Edge.ofTerms(2, "since then, if it was ordered", () -> {
            KnockBank x = Tell.bank(hand + "wood o 1 0 a;rap a o 0;");
            x.order(0, 0, 4);
            x.days(6);
            due("on day 5 not yet", 0, x.count(8));
            x.days(1);
            due("on day 6", 1, x.count(8));
        });
    }

    private static void dayByDay() {
        Edge.ofTerms(2, "by numbers each RAP of this DAY that isn't RAPPED yet is RAPPED", () -> {
            KnockBank x = Tell.bank("like 24;hand a 0 0 1 1 1 1 1 1;wood o 9 0 a;rap a o 1;rap a o 0;rap a o 1;seed 99999;"
                + "law shake 50 * (place = 0);");
            x.days(1);
            due("of day 1 not yet", 0, Ask.rap(x, 0, 3));
            due("16 for the second", 211111, Ask.rap(x, 1, 6));
            x.days(1);
            due("81 for the first", 111111, Ask.rap(x, 0, 6));
            due("64 for the third", 111111, Ask.rap(x, 2, 6));
            x.days(9);
            due("each of them once", 3, x.hand(0, 3));
        });
        Edge.ofTerms(2, "WRONG, if it is BOUND to another HAND", () -> {
            KnockBank x = Tell.bank("like 0;hand a 0 0 1 1 1 1 1 1;hand b 0 0 2 1 1 1 1 1;wood o 9 0 a;"
                + "rap a o 0;rap b o 0;rap a o 1;law shake 100 * (place = 0) * (day = 0);");
            x.days(1);
            due("a as b", 1, Ask.rap(x, 0, 4));
            due("b is void", 2, Ask.rap(x, 1, 3));
            due("one is wrong", 1, x.count(7));
            x.days(1);
            due("a as a", 0, Ask.rap(x, 2, 4));
            due("one is wrong still", 1, x.count(7));
        });
        Edge.ofTerms(2, "Then it is the next DAY", () -> {
            KnockBank x = Tell.bank(ONE);
            due("1", 1, x.days(1));
            due("the rap's day stays", 0, Ask.rap(x, 0, 2));
        });
        Edge.ofTerms(2, "raps: how many that HAND has RAPPED so far", () -> {
            KnockBank x = Tell.bank("like 24;hand a 0 0 1 1 1 1 1 1;hand b 0 0 1 1 1 1 1 1;wood o 9 0 a;"
                + "rap a o 0;rap b o 0;rap a o 0;rap a o 1;law shake 100 * (raps = place);");
            x.days(2);
            due("a's first", 211111, Ask.rap(x, 0, 6));
            due("b's first", 211111, Ask.rap(x, 1, 6));
            due("a's second", 121111, Ask.rap(x, 2, 6));
            due("a's third", 112111, Ask.rap(x, 3, 6));
        });
        Edge.ofTerms(2, "raps so far, of near: without the one that is RAPPED", () -> {
            KnockBank x = Tell.bank(ONE + "rap a o 0;law shake 100 * (place = 0);law near raps;");
            x.days(1);
            due("0 raps: void", 2, Ask.rap(x, 0, 3));
            due("1 rap, also a void one: bound", 1, Ask.rap(x, 1, 3));
        });
        Edge.ofTerms(2, "day: the DAY", () -> {
            KnockBank x = Tell.bank("like 24;hand a 0 0 1 1 1 1 1 1;wood o 9 0 a;rap a o 0;rap a o 5;law shake 100 * (day = place);");
            x.days(6);
            due("day 0", 211111, Ask.rap(x, 0, 6));
            due("day 5", 111112, Ask.rap(x, 1, 6));
        });
    }

    private static void namesOfLaws() {
        String two = "hand a 1 23 4 3 2 1 4 3;hand b 5 67 1 1 1 1 1 1;wood o 5 6 a;wood p 5 8 b;rap b o 0;rap a p 1;";
        Edge.ofTerms(2, "cold, aged: of the HAND", () -> {
            KnockBank x = Tell.bank(two + "law shake cold * 100 + aged;law near cold * 100 + aged;law fade cold * 100 + aged;");
            for (int what = 0; what < 3; what++) {
                due("a in " + what, 123, x.law(what, 0, 1, 0));
                due("b in " + what, 567, x.law(what, 1, 0, 0));
            }
        });
        Edge.ofTerms(2, "(of fade: of who RAPPED)", () -> {
            KnockBank x = Tell.bank("like 0;hand a 1 0 1 1 1 1 1 1;hand b 5 0 2 1 1 1 1 1;wood o 9 0 b;rap a o 0;"
                + "law shake 100 * (place = 0);law fade cold;");
            x.days(1);
            due("bound to b", 1, Ask.rap(x, 0, 4));
            due("a's cold: not yet", 0, x.fading(1));
            due("a's cold: faded on day 2", 1, x.fading(2));
        });
        Edge.ofTerms(2, "beat, place of fade 0, when it fades", () -> {
            due("beat", 7, fadedAfter(ONE + "law fade 5 * (beat = 0);"));
            due("place", 7, fadedAfter(ONE + "law fade 5 * (place = 0);"));
        });
        Edge.ofTerms(2, "hard: HARD of the WOOD", () -> {
            KnockBank x = Tell.bank(two + "law shake hard;law near hard;law fade hard;");
            for (int what = 0; what < 3; what++) {
                due("o in " + what, 6, x.law(what, 0, 0, 0));
                due("p in " + what, 8, x.law(what, 0, 1, 0));
            }
        });
        Edge.ofTerms(2, "beat: the BEAT as told (of near how far APART, of fade 0)", () -> {
            KnockBank x = Tell.bank(two + "law shake beat;law near beat;law fade beat;");
            int[] beats = {4, 3, 2, 1, 4, 3};
            for (int k = 0; k < 6; k++) {
                due("shake at " + k, beats[k], x.law(0, 0, 0, k));
                due("fade at " + k, 0, x.law(2, 0, 0, k));
            }
            for (int far = 0; far <= 30; far++) {
                due("near by " + far, far, x.law(1, 0, 0, far));
            }
        });
        Edge.ofTerms(2, "place: k (of near, fade 0)", () -> {
            KnockBank x = Tell.bank(two + "law shake place;law near place;law fade place;");
            for (int k = 0; k < 6; k++) {
                due("shake at " + k, k, x.law(0, 0, 0, k));
                due("near at " + k, 0, x.law(1, 0, 0, k));
                due("fade at " + k, 0, x.law(2, 0, 0, k));
            }
        });
    }

    private static void worth(String law, long want) {
        KnockBank x = Tell.bank("hand a 1 2 1 2 3 4 1 2;wood o 5 6 a;law near " + law + ";");
        due(law, want, x.law(1, 0, 0, 7));
    }

    private static void values() {
        Edge.ofTerms(2, "comparisons, and, or, not are 1 or 0", () -> {
            String[] comparing = {"<", "<=", "=", "<>", ">=", ">"};
            int[] less = {1, 1, 0, 1, 0, 0};
            int[] same = {0, 1, 1, 0, 1, 0};
            int[] more = {0, 0, 0, 1, 1, 1};
            for (int i = 0; i < 6; i++) {
                worth("4 " + comparing[i] + " 5", less[i]);
                worth("5 " + comparing[i] + " 5", same[i]);
                worth("6 " + comparing[i] + " 5", more[i]);
                worth("(0 - 6) " + comparing[i] + " 5", less[i]);
            }
            worth("not 0", 1);
            worth("not 1", 0);
        });
        Edge.ofTerms(2, "(what isn't 0 is as 1", () -> {
            worth("7 and 9", 1);
            worth("(0 - 7) and 2", 1);
            worth("7 and 0", 0);
            worth("0 and 7", 0);
            worth("0 or 0 - 7", 1);
            worth("7 or 0", 1);
            worth("0 or 0", 0);
            worth("not 7", 0);
            worth("not (0 - 7)", 0);
            worth("not not 7", 1);
        });
        Edge.ofTerms(2, "both sides are worked out)", () -> {
            worth("0 and 1 / 0", ERROR);
            worth("1 / 0 and 0", ERROR);
            worth("1 or 1 / 0", ERROR);
            worth("1 / 0 or 1", ERROR);
            worth("0 * (1 / 0)", ERROR);
            worth("not (1 / 0)", ERROR);
        });
        Edge.ofTerms(2, "/ is cut towards 0", () -> {
            worth("7 / 2", 3);
            worth("(0 - 7) / 2", -3);
            worth("7 / (0 - 2)", -3);
            worth("(0 - 7) / (0 - 2)", 3);
            worth("1 / 2", 0);
            worth("(0 - 1) / 2", 0);
            worth("0 / 5", 0);
        });
        Edge.ofTerms(2, "E: from left to right, * / ahead of + -, these ahead of comparisons, not, and, or", () -> {
            worth("2 - 3 - 4", -5);
            worth("2 - 3 + 4", 3);
            worth("80 / 4 / 5", 4);
            worth("7 / 2 * 2", 6);
            worth("1 + 2 * 3", 7);
            worth("2 * 3 - 1", 5);
            worth("1 + 1 < 1 * 3", 1);
            worth("not 1 < 0", 1);
            worth("not 0 + 1", 0);
            worth("not 0 and 0", 0);
            worth("not 1 or 1", 1);
            worth("1 or 1 and 0", 1);
            worth("0 and 0 or 1", 1);
        });
        Edge.ofTerms(2, "'(' E ')': as if it were one number", () -> {
            worth("(0 or 1) * 5", 5);
            worth("5 * (1 and 1 or 0)", 5);
            worth("5 - (not 0 or 0)", 4);
            worth("5 - (3 - (2 - 1))", 3);
            worth("(2 < 3) * (3 > 2) + 7", 8);
            worth("not (0 or 0) and 1", 1);
            worth("8 / (4 / (1 + 1))", 4);
        });
        Edge.ofTerms(2, "E of 64 KNOTS, eight '(' open", () -> {
            worth("not ".repeat(63) + "1", 0);
            worth("not ".repeat(62) + "1", 1);
            worth("1" + "+1".repeat(31), 32);
            worth("not ".repeat(32) + "1" + "+1".repeat(15), 1);
            worth("((((((((" + "not ".repeat(63) + "1))))))))", 0);
            worth("not (".repeat(8) + "not ".repeat(54) + "5" + ")".repeat(8), 1);
            worth("1+(".repeat(8) + "1" + "+1".repeat(23) + ")".repeat(8), 32);
        });
    }

    private static void errors() {
        String most = "1000 * 1000 * 1000 * 1000";
        Edge.ofTerms(2, "ERROR: / by 0", () -> {
            worth("1 / 0", ERROR);
            worth("0 / 0", ERROR);
            worth("1 / (5 - 5)", ERROR);
            worth("1 / (1 / 2)", ERROR);
            worth("1 / 1", 1);
        });
        Edge.ofTerms(2, "a value above 10 to the 12", () -> {
            worth(most, SURE);
            worth(most + " + 0", SURE);
            worth(most + " + 1", ERROR);
            worth(most + " + 1 - 1", ERROR);
            worth("1 + " + most, ERROR);
            worth(most + " - (0 - 1)", ERROR);
            worth(most + " * 1", SURE);
            worth(most + " * 2", ERROR);
            worth("(0 - 2) * (0 - " + most + ")", ERROR);
            worth("1000 * 1000 * 1000 * 1001", ERROR);
            worth("(" + most + ") / 2 + (" + most + ") / 2", SURE);
            worth("(" + most + ") / 2 - (0 - (" + most + ") / 2)", SURE);
            worth("(" + most + ") / 2 - (0 - (" + most + ") / 2 - 1)", ERROR);
        });
        Edge.ofTerms(2, "or below 0 by more than that", () -> {
            worth("0 - " + most, -SURE);
            worth("0 - " + most + " - 0", -SURE);
            worth("0 - " + most + " - 1", ERROR);
            worth("0 - " + most + " - 1 + 1", ERROR);
            worth("(0 - " + most + ") + (0 - 1)", ERROR);
            worth("(0 - (" + most + ") / 2) + (0 - (" + most + ") / 2)", -SURE);
            worth("(0 - (" + most + ") / 2) + (0 - (" + most + ") / 2 - 1)", ERROR);
            worth("(0 - 1) * (" + most + ")", -SURE);
            worth("(0 - 2) * (" + most + ")", ERROR);
            worth("2 * (0 - " + most + ")", ERROR);
            worth("(" + most + ") / (0 - 1)", -SURE);
            worth("(0 - " + most + ") / (0 - 1)", SURE);
        });
        Edge.ofTerms(2, "VALUES are longs", () -> {
            worth("9999 * 9999 * 9999", 9999L * 9999 * 9999);
            worth("9999 * 9999 * 9999 / 9999", 9999L * 9999);
            worth("(" + most + ") * (" + most + ")", ERROR);
            worth("4096 * 4096 * 256 * (4096 * 4096 * 256)", ERROR);
            worth("(0 - 4096 * 4096 * 256) * (4096 * 4096 * 256)", ERROR);
            worth("0 * (" + most + ")", 0);
            worth("(" + most + ") * 0", 0);
            worth("1000 * 1000 * 5000 > 1000 * 1000 * 4000", 1);
            worth("1000 * 1000 * 4295 and 1", 1);
            worth("not (4096 * 4096 * 256)", 0);
        });
    }

    private static void rap() {
        Edge.of(6, "IndexOutOfBoundsException: no such RAP", () -> {
            KnockBank x = Tell.bank(THREE);
            due("the last one", 2, Ask.rap(x, 2, 0));
            due("-1", Ask.BEYOND, Ask.rap(x, -1, 0));
            due("3", Ask.BEYOND, Ask.rap(x, 3, 0));
            due("of no raps", Ask.BEYOND, Ask.rap(new KnockBank(), 0, 0));
            for (int far : FAR_OFF) {
                due("rap " + far, Ask.BEYOND, Ask.rap(x, far, 0));
            }
            due("no what either", Ask.BEYOND, Ask.rap(x, 3, 7));
        });
        Edge.of(6, "NoSuchElementException: no such what", () -> {
            KnockBank x = Tell.bank(THREE);
            due("-1", Ask.NO_SUCH, Ask.rap(x, 0, -1));
            due("7", Ask.NO_SUCH, Ask.rap(x, 0, 7));
            for (int far : FAR_OFF) {
                due("what " + far, Ask.NO_SUCH, Ask.rap(x, 0, far));
            }
        });
        Edge.of(6, "3: 0 not RAPPED, 1 BOUND, 2 VOID", () -> {
            KnockBank x = Tell.bank(THREE);
            due("not rapped", 0, Ask.rap(x, 0, 3));
            x.days(1);
            due("bound", 1, Ask.rap(x, 0, 3));
            due("void", 2, Ask.rap(x, 2, 3));
            due("not rapped yet", 0, Ask.rap(x, 1, 3));
        });
        Edge.of(6, "4 to whom it is BOUND (NONE: to nobody)", () -> {
            KnockBank x = Tell.bank(THREE);
            due("not rapped", -1, Ask.rap(x, 0, 4));
            x.days(2);
            due("a", 0, Ask.rap(x, 0, 4));
            due("b", 1, Ask.rap(x, 1, 4));
            due("void", -1, Ask.rap(x, 2, 4));
        });
        Edge.of(6, "5 whether FADED (1, 0)", () -> {
            KnockBank x = Tell.bank(THREE);
            due("not rapped", 0, Ask.rap(x, 0, 5));
            x.days(3);
            due("on day 3", 0, Ask.rap(x, 0, 5));
            x.days(1);
            due("on day 4", 1, Ask.rap(x, 0, 5));
            due("still bound", 1, Ask.rap(x, 0, 3));
            due("on the other wood", 0, Ask.rap(x, 1, 5));
        });
        Edge.of(6, "6 what was HEARD: six digits (0 if not RAPPED)", () -> {
            KnockBank x = Tell.bank(THREE);
            due("not rapped", 0, Ask.rap(x, 0, 6));
            x.days(1);
            due("heard", 111111, Ask.rap(x, 0, 6));
            due("of void ones too", 554545, Ask.rap(x, 2, 6));
        });
        Edge.of(6, "Of a RAP now, 1 the WOOD, 2 the DAY", () -> {
            KnockBank x = Tell.bank(THREE);
            x.order(1, 0, 9999);
            due("wood", 0, Ask.rap(x, 1, 1));
            due("day", 9999, Ask.rap(x, 1, 2));
        });
    }

    private static void handAndWood() {
        Edge.of(7, "NONE: no such ones", () -> {
            KnockBank x = Tell.bank(THREE);
            due("the last one", 9, x.hand(2, 0));
            due("hand 3", -1, x.hand(3, 0));
            due("hand -1", -1, x.hand(-1, 0));
            due("what 5", -1, x.hand(0, 5));
            due("what -1", -1, x.hand(0, -1));
            due("of no hands", -1, new KnockBank().hand(0, 2));
            for (int far : FAR_OFF) {
                due("hand " + far, -1, x.hand(far, 0));
                due("what " + far, -1, x.hand(0, far));
            }
        });
        Edge.of(7, "3 how many it RAPPED, 4 how many are BOUND to it", () -> {
            KnockBank x = Tell.bank("like 0;hand a 0 0 1 1 1 1 1 1;hand b 0 0 2 1 1 1 1 1;wood o 0 0 a;"
                + "rap a o 0;rap b o 0;rap a o 5;law shake 100 * (place = 0);");
            due("none yet", 0, x.hand(0, 3));
            due("none bound yet", 0, x.hand(1, 4));
            x.days(3);
            due("a rapped", 1, x.hand(0, 3));
            due("b rapped, void", 1, x.hand(1, 3));
            due("bound to a", 0, x.hand(0, 4));
            due("bound to b, faded", 1, x.hand(1, 4));
        });
        Edge.of(8, "NONE: no such ones", () -> {
            KnockBank x = Tell.bank(THREE);
            due("the last one", 9, x.wood(1, 0));
            due("wood 2", -1, x.wood(2, 0));
            due("wood -1", -1, x.wood(-1, 0));
            due("what 4", -1, x.wood(0, 4));
            due("what -1", -1, x.wood(0, -1));
            due("of no woods", -1, Tell.bank("hand a 0 0 1 1 1 1 1 1;").wood(0, 0));
            for (int far : FAR_OFF) {
                due("wood " + far, -1, x.wood(far, 0));
                due("what " + far, -1, x.wood(0, far));
            }
        });
        Edge.of(8, "3 how many were RAPPED on it that aren't FADED", () -> {
            KnockBank x = Tell.bank(THREE);
            due("none yet", 0, x.wood(0, 3));
            x.days(3);
            due("a void one too", 2, x.wood(0, 3));
            due("on the other", 1, x.wood(1, 3));
            x.days(1);
            due("faded", 0, x.wood(0, 3));
            due("not on the other", 1, x.wood(1, 3));
        });
    }

    private static void law() {
        String laws = "law shake 7;law near 8;law fade 9;";
        Edge.of(9, "shake at a place", () -> {
            KnockBank x = Tell.bank(THREE + laws);
            due("0", 7, x.law(0, 0, 0, 0));
            due("5", 7, x.law(0, 0, 0, 5));
            due("-1", ERROR, x.law(0, 0, 0, -1));
            due("6", ERROR, x.law(0, 0, 0, 6));
            for (int far : FAR_OFF) {
                due("place " + far, ERROR, x.law(0, 0, 0, far));
            }
        });
        Edge.of(9, "near by place as how far APART 0 .. 30", () -> {
            KnockBank x = Tell.bank(THREE + laws);
            due("0", 8, x.law(1, 0, 0, 0));
            due("30", 8, x.law(1, 0, 0, 30));
            due("-1", ERROR, x.law(1, 0, 0, -1));
            due("31", ERROR, x.law(1, 0, 0, 31));
            for (int far : FAR_OFF) {
                due("place " + far, ERROR, x.law(1, 0, 0, far));
            }
        });
        Edge.of(9, "fade: place isn't looked at", () -> {
            KnockBank x = Tell.bank(THREE + laws);
            due("0", 9, x.law(2, 0, 0, 0));
            due("-1", 9, x.law(2, 0, 0, -1));
            due("31", 9, x.law(2, 0, 0, 31));
            for (int far : FAR_OFF) {
                due("place " + far, 9, x.law(2, 0, 0, far));
            }
        });
        Edge.of(9, "A law's E, as it is", () -> {
            KnockBank x = Tell.bank(THREE + "law shake 9999;law near 0 - 9999;law fade 100;");
            due("above 100", 9999, x.law(0, 0, 0, 0));
            due("below 0", -9999, x.law(1, 0, 0, 0));
            due("above 99", 100, x.law(2, 0, 0, 0));
        });
        Edge.of(9, "E now", () -> {
            KnockBank x = Tell.bank("hand a 5 0 1 1 1 1 1 1;wood o 0 0 a;rap a o 0;rap a o 0;law fade cold * 100 + raps * 10 + day;");
            due("at first", 500, x.law(2, 0, 0, 0));
            x.warm(0, 9);
            x.days(3);
            due("then", 923, x.law(2, 0, 0, 0));
        });
        Edge.of(9, "Long.MIN_VALUE: an ERROR", () -> {
            KnockBank x = Tell.bank(THREE + "law shake 1 / 0;law near 1 / beat;law fade 1 / day;");
            due("shake", ERROR, x.law(0, 0, 0, 0));
            due("near by 0", ERROR, x.law(1, 0, 0, 0));
            due("near by 1", 1, x.law(1, 0, 0, 1));
            due("fade on day 0", ERROR, x.law(2, 0, 0, 0));
            x.days(1);
            due("fade on day 1", 1, x.law(2, 0, 0, 0));
        });
        Edge.of(9, "Long.MIN_VALUE: no such law", () -> {
            KnockBank x = Tell.bank(THREE);
            for (int what = -1; what <= 3; what++) {
                due("untold " + what, ERROR, x.law(what, 0, 0, 0));
            }
            KnockBank y = Tell.bank(THREE + laws);
            due("what -1", ERROR, y.law(-1, 0, 0, 0));
            due("what 3", ERROR, y.law(3, 0, 0, 0));
            for (int far : FAR_OFF) {
                due("what " + far, ERROR, y.law(far, 0, 0, 0));
            }
        });
        Edge.of(9, "Long.MIN_VALUE: no such ones", () -> {
            KnockBank x = Tell.bank(THREE + laws);
            for (int what = 0; what < 3; what++) {
                due("the last ones", 7 + what, x.law(what, 2, 1, 0));
                due("hand -1", ERROR, x.law(what, -1, 0, 0));
                due("hand 3", ERROR, x.law(what, 3, 0, 0));
                due("wood -1", ERROR, x.law(what, 0, -1, 0));
                due("wood 2", ERROR, x.law(what, 0, 2, 0));
                for (int far : FAR_OFF) {
                    due("hand " + far, ERROR, x.law(what, far, 0, 0));
                    due("wood " + far, ERROR, x.law(what, 0, far, 0));
                }
            }
        });
    }

    private static void warm() {
        Edge.of(10, "COLD of a HAND is so much 0 .. 9 from now on", () -> {
            KnockBank x = Tell.bank(THREE);
            due("9", true, x.warm(0, 9));
            due("9 is told", 9, x.hand(0, 0));
            due("0", true, x.warm(0, 0));
            due("0 is told", 0, x.hand(0, 0));
            due("the others stay", 9, x.hand(2, 0));
        });
        Edge.of(10, "false: no such ones", () -> {
            KnockBank x = Tell.bank(THREE);
            due("-1", false, x.warm(2, -1));
            due("10", false, x.warm(2, 10));
            due("hand -1", false, x.warm(-1, 5));
            due("hand 3", false, x.warm(3, 5));
            for (int far : FAR_OFF) {
                due("hand " + far, false, x.warm(far, 5));
                due("cold " + far, false, x.warm(2, far));
            }
            due("as told", 9, x.hand(2, 0));
            due("nothing to undo", 0, x.count(11));
            due("of no hands", false, new KnockBank().warm(0, 5));
        });
        Edge.of(10, "false: it is so", () -> {
            KnockBank x = Tell.bank(THREE);
            due("as told", false, x.warm(2, 9));
            due("nothing to undo", 0, x.count(11));
            x.warm(2, 4);
            due("as warmed", false, x.warm(2, 4));
            due("one to undo", 1, x.count(11));
        });
    }

    private static void order() {
        Edge.of(11, "on a DAY from today on", () -> {
            KnockBank x = Tell.bank(THREE);
            due("-1", false, x.order(1, 0, -1));
            due("today", true, x.order(1, 0, 0));
            x.order(1, 0, 9);
            x.days(4);
            due("yesterday", false, x.order(1, 0, 3));
            due("today, day 4", true, x.order(1, 0, 4));
            x.days(1);
            due("rapped today", 1, Ask.rap(x, 1, 3));
            due("least", false, Tell.bank(THREE).order(0, 0, Integer.MIN_VALUE));
        });
        Edge.of(11, "9999 at most", () -> {
            KnockBank x = Tell.bank(THREE);
            due("9999", true, x.order(1, 1, 9999));
            due("10000", false, x.order(1, 1, 10000));
            due("most", false, x.order(1, 1, Integer.MAX_VALUE));
            due("stays", 9999, Ask.rap(x, 1, 2));
            due("one to undo", 1, x.count(11));
        });
        Edge.of(11, "false: no such ones", () -> {
            KnockBank x = Tell.bank(THREE);
            due("rap -1", false, x.order(-1, 0, 5));
            due("rap 3", false, x.order(3, 0, 5));
            due("wood -1", false, x.order(0, -1, 5));
            due("wood 2", false, x.order(0, 2, 5));
            for (int far : FAR_OFF) {
                due("rap " + far, false, x.order(far, 0, 5));
                due("wood " + far, false, x.order(0, far, 5));
            }
            due("nothing to undo", 0, x.count(11));
            due("of no raps", false, new KnockBank().order(0, 0, 0));
        });
        Edge.of(11, "false: RAPPED", () -> {
            KnockBank x = Tell.bank(THREE);
            x.days(1);
            due("bound", false, x.order(0, 0, 5));
            due("void", false, x.order(2, 0, 5));
            x.plane(0);
            due("faded", false, x.order(0, 1, 5));
            due("wood stays", 0, Ask.rap(x, 0, 1));
            due("day stays", 0, Ask.rap(x, 0, 2));
        });
        Edge.of(11, "false: it is so", () -> {
            KnockBank x = Tell.bank(THREE);
            due("as told", false, x.order(1, 1, 1));
            due("nothing to undo", 0, x.count(11));
            due("another wood alone", true, x.order(1, 0, 1));
            due("another day alone", true, x.order(1, 0, 2));
            due("as ordered", false, x.order(1, 0, 2));
            due("two to undo", 2, x.count(11));
        });
    }

    private static void sellAndPlane() {
        Edge.of(12, "false: no such ones", () -> {
            KnockBank x = Tell.bank(THREE);
            due("the last ones", true, x.sell(1, 2));
            due("wood -1", false, x.sell(-1, 1));
            due("wood 2", false, x.sell(2, 1));
            due("hand -1", false, x.sell(0, -1));
            due("hand 3", false, x.sell(0, 3));
            for (int far : FAR_OFF) {
                due("wood " + far, false, x.sell(far, 1));
                due("hand " + far, false, x.sell(0, far));
            }
            due("owner stays", 0, x.wood(0, 2));
            due("one to undo", 1, x.count(11));
            due("of no woods", false, new KnockBank().sell(0, 0));
        });
        Edge.of(12, "false: it OWNS it", () -> {
            KnockBank x = Tell.bank(THREE);
            due("as told", false, x.sell(0, 0));
            due("nothing to undo", 0, x.count(11));
            due("sold", true, x.sell(0, 2));
            due("as sold", false, x.sell(0, 2));
            due("sold back", true, x.sell(0, 0));
        });
        Edge.of(13, "all RAPPED on it is FADED: how many more are", () -> {
            KnockBank x = Tell.bank(THREE);
            due("nothing rapped", 0, x.plane(0));
            x.days(2);
            due("bound and void", 2, x.plane(0));
            due("no more", 0, x.plane(0));
            due("not on the other", 0, Ask.rap(x, 1, 5));
            due("the other", 1, x.plane(1));
            due("three", 3, x.count(8));
        });
        Edge.of(13, "those FADED already aren't more", () -> {
            KnockBank x = Tell.bank("hand a 0 0 1 1 1 1 1 1;wood o 1 0 a;rap a o 0;rap a o 1;rap a o 9;");
            x.days(3);
            due("one is faded", 1, x.count(8));
            due("one more", 1, x.plane(0));
            due("what isn't rapped isn't", 0, Ask.rap(x, 2, 5));
        });
        Edge.of(13, "NONE: no such WOOD", () -> {
            KnockBank x = Tell.bank(THREE);
            x.days(1);
            due("-1", -1, x.plane(-1));
            due("2", -1, x.plane(2));
            for (int far : FAR_OFF) {
                due("wood " + far, -1, x.plane(far));
            }
            due("nothing faded", 0, x.count(8));
            due("nothing to undo", 0, x.count(11));
            due("of no woods", -1, new KnockBank().plane(0));
        });
    }

    private static void days() {
        Edge.of(14, "So many DAYS (0 .. 99) go by", () -> {
            KnockBank x = Tell.bank(THREE);
            due("0", 0, x.days(0));
            due("nothing rapped", 0, Ask.rap(x, 0, 3));
            due("99", 99, x.days(99));
            due("1", 100, x.days(1));
        });
        Edge.of(14, "NONE, and none does: no such number", () -> {
            KnockBank x = Tell.bank(THREE);
            due("-1", -1, x.days(-1));
            due("100", -1, x.days(100));
            for (int far : FAR_OFF) {
                due("days " + far, -1, x.days(far));
            }
            due("day", 0, x.count(4));
            due("nothing rapped", 0, Ask.rap(x, 0, 3));
        });
        Edge.of(14, "NONE, and none does: behind 9900", () -> {
            KnockBank x = Tell.bank(ONE);
            x.order(0, 0, 9899);
            for (int i = 0; i < 99; i++) {
                x.days(99);
            }
            due("9801", 9801, x.count(4));
            due("9898", 9898, x.days(97));
            due("3 more", -1, x.days(3));
            due("99 more", -1, x.days(99));
            due("none did", 9898, x.count(4));
            due("not rapped", 0, Ask.rap(x, 0, 3));
            x.warm(0, 5);
            x.days(3);
            due("can be undone still", 0, x.undo());
            due("2 more", 9900, x.days(2));
            due("rapped on day 9899", 1, Ask.rap(x, 0, 3));
            due("0 more", 9900, x.days(0));
            due("1 more", -1, x.days(1));
            due("day", 9900, x.count(4));
        });
        Edge.of(14, "on day 9900 is asked and ordered all the same", () -> {
            KnockBank x = Tell.bank(ONE + "rap a o 1;");
            x.order(0, 0, 9998);
            x.order(1, 0, 9999);
            for (int i = 0; i < 100; i++) {
                x.days(99);
            }
            due("98 ahead", 0, x.ahead(98, 0));
            due("99 ahead", 1, x.ahead(99, 0));
            due("ordered", true, x.order(1, 0, 9900));
            due("1 ahead", 1, x.ahead(1, 0));
            due("the day ahead of it", false, x.order(1, 0, 9899));
        });
    }

    private static void ahead() {
        Edge.of(15, "AHEAD (n 0 .. 99)", () -> {
            KnockBank x = Tell.bank(ONE + "rap a o 98;rap a o 99;");
            due("0", 0, x.ahead(0, 0));
            due("1", 1, x.ahead(1, 0));
            due("98", 1, x.ahead(98, 0));
            due("99", 2, x.ahead(99, 0));
            due("-1", -1, x.ahead(-1, 0));
            due("100", -1, x.ahead(100, 0));
            for (int far : FAR_OFF) {
                due("ahead " + far, -1, x.ahead(far, 0));
            }
            due("day", 0, x.count(4));
        });
        Edge.of(15, "what 0 BOUND, 1 VOID, 2 WRONG, 3 FADED. NONE: no such ones", () -> {
            KnockBank x = Tell.bank(THREE);
            for (int what = 0; what < 4; what++) {
                due("none in no days, " + what, 0, x.ahead(0, what));
            }
            due("-1", -1, x.ahead(1, -1));
            due("4", -1, x.ahead(1, 4));
            for (int far : FAR_OFF) {
                due("what " + far, -1, x.ahead(1, far));
            }
            due("neither", -1, x.ahead(100, 4));
        });
        Edge.ofTerms(3, "AHEAD: how many more are BOUND, VOID, WRONG, how many are FADED then", () -> {
            KnockBank x = Tell.bank("like 0;hand a 0 0 1 1 1 1 1 1;hand b 0 0 2 1 1 1 1 1;wood o 0 0 a;"
                + "rap a o 0;rap b o 0;rap a o 2;rap b o 2;law shake 100 * (place = 0);");
            due("bound", 2, x.ahead(3, 0));
            due("void", 2, x.ahead(3, 1));
            due("wrong", 2, x.ahead(3, 2));
            due("faded", 2, x.ahead(3, 3));
            x.days(2);
            due("bound more", 1, x.ahead(1, 0));
            due("void more", 1, x.ahead(1, 1));
            due("wrong more", 1, x.ahead(1, 2));
            due("faded then, those of now too", 2, x.ahead(0, 3));
            due("faded later", 4, x.ahead(2, 3));
        });
        Edge.ofTerms(3, "AHEAD for n DAYS as it goes", () -> {
            String text = "like 0;hand a 0 0 1 1 1 1 1 1;hand b 0 0 2 1 1 1 1 1;wood o 9 3 a;seed 99999;";
            KnockBank x = Tell.bank(text + "rap a o 0;law shake 17 * (place = 0);");
            due("17 isn't longer: bound", 1, x.ahead(1, 0));
            due("not wrong", 0, x.ahead(1, 2));
            KnockBank y = Tell.bank(text + "rap b o 0;law shake 17 * (place = 0);");
            due("not void", 0, y.ahead(1, 1));
            due("but bound", 1, y.ahead(1, 0));
            KnockBank z = Tell.bank(text + "rap a o 0;rap b o 0;law shake 100 * (hard = 9) * (place = 0);");
            due("hard is 3", 2, z.ahead(1, 0));
            due("were it 9", 2, z.tried(4, 0, 1));
            due("hard is 3 again: bound", 2, z.ahead(1, 0));
            due("hard is 3 again: wrong", 0, z.ahead(1, 2));
        });
    }
}
