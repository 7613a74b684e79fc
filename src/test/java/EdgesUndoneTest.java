import java.util.List;

/** The boundary cases of promises 33 to 42, of the rest of part 3 and of part 4 of the terms, and of an object's use. */
public final class EdgesUndoneTest {
    private static final String THREE = "hand a 0 0 1 1 1 1 1 1;hand b 0 0 1 1 1 1 2 2;hand c 9 50 4 4 4 4 4 4;"
        + "wood o 2 0 a;wood p 9 9 b;rap a o 0;rap b p 1;rap c o 0;like 3;seed 0;";
    /** Its first beat is longer from a cold of 5 on. */
    private static final String SHIVERING = "hand a 4 0 1 1 1 1 1 1;hand b 4 0 1 1 1 1 1 1;wood o 9 0 a;wood p 9 3 a;"
        + "rap a o 0;rap b o 0;rap a p 7;rap a o 7;";
    private static final int FROM_FIVE = 0b1111100000;
    private static final int BELOW_FIVE = 0b0000011111;
    private static final int ALL_TEN = 1023;
    private static final int[] FAR_OFF = {Integer.MIN_VALUE, -1000, 1000, Integer.MAX_VALUE};

    private EdgesUndoneTest() {
    }

    public static void main(String[] args) {
        hear();
        strike();
        known();
        colds();
        coldsFromTheText();
        chance();
        chanceDraws();
        tried();
        undo();
        undoAtMost();
        keepAndBack();
        imageKeeps();
        count();
        refused();
        use();
        Edge.end("EdgesUndoneTest", 33, 42);
    }

    private static void due(String what, long want, long got) {
        Check.due(what, want, got);
    }

    private static void due(String what, boolean want, boolean got) {
        Check.due(what, want, got);
    }

    private static KnockBank shivering() {
        return Tell.bank(SHIVERING + "law shake 10 * cold * (place = 0);");
    }

    private static void hear() {
        Edge.ofTerms(3, "OVERHEARD, at most 24, numbered from 0 on", () -> {
            KnockBank x = Tell.bank(THREE);
            for (int i = 0; i < 24; i++) {
                due("number " + i, i, i % 3 == 2 ? x.strike(i - 1) : x.hear(i % 3, i % 6, i % 2 == 0));
                due("so many", i + 1, x.count(9));
            }
        });
        Edge.of(33, "NONE: there are 24", () -> {
            KnockBank x = shivering();
            for (int i = 0; i < 23; i++) {
                x.hear(0, 1, false);
            }
            due("the last one", 23, x.hear(0, 1, false));
            due("one more", -1, x.hear(0, 0, true));
            due("24 still", 24, x.count(9));
            due("it isn't known", ALL_TEN, x.colds(0));
        });
        Edge.of(33, "NONE: no such ones", () -> {
            KnockBank x = Tell.bank(THREE);
            due("rap -1", -1, x.hear(-1, 0, true));
            due("rap 3", -1, x.hear(3, 0, true));
            due("place -1", -1, x.hear(0, -1, true));
            due("place 6", -1, x.hear(0, 6, true));
            for (int far : FAR_OFF) {
                due("rap " + far, -1, x.hear(far, 0, false));
                due("place " + far, -1, x.hear(0, far, false));
            }
            due("none came", 0, x.count(9));
            due("the last ones", 0, x.hear(2, 5, true));
            due("of no raps", -1, new KnockBank().hear(0, 0, true));
        });
        Edge.of(33, "OVERHEARD of a RAP that is RAPPED or not", () -> {
            KnockBank x = Tell.bank(THREE);
            x.days(1);
            due("rapped", 0, x.hear(0, 0, false));
            due("not rapped", 1, x.hear(1, 0, false));
        });
    }

    private static void strike() {
        Edge.of(34, "NONE: no such one OVERHEARD", () -> {
            KnockBank x = Tell.bank(THREE);
            due("0 of none", -1, x.strike(0));
            x.hear(0, 0, true);
            due("-1", -1, x.strike(-1));
            due("1 of one: itself", -1, x.strike(1));
            for (int far : FAR_OFF) {
                due("heard " + far, -1, x.strike(far));
            }
            due("one still", 1, x.count(9));
            due("0 of one", 1, x.strike(0));
            due("the strike", 2, x.strike(1));
        });
        Edge.of(34, "NONE: there are 24", () -> {
            KnockBank x = shivering();
            x.hear(0, 0, true);
            for (int i = 1; i < 24; i++) {
                x.hear(0, 1, false);
            }
            due("one more", -1, x.strike(0));
            due("24 still", 24, x.count(9));
            due("the first one counts", FROM_FIVE, x.colds(0));
        });
        Edge.of(34, "the 24th may be a STRIKE", () -> {
            KnockBank x = shivering();
            x.hear(0, 0, true);
            for (int i = 1; i < 23; i++) {
                x.hear(0, 1, false);
            }
            due("its number", 23, x.strike(0));
            due("it counts", ALL_TEN, x.colds(0));
        });
        Edge.ofTerms(3, "(a STRIKE may be STRUCK: then it doesn't count; asked from the last one on)", () -> {
            KnockBank x = shivering();
            x.hear(0, 0, true);
            int[] want = {ALL_TEN, FROM_FIVE};
            for (int i = 1; i < 24; i++) {
                x.strike(i - 1);
                due("behind strike " + i, want[(i + 1) % 2], x.colds(0));
            }
        });
        Edge.ofTerms(3, "STRUCK by two: one of them STRUCK", () -> {
            KnockBank x = shivering();
            x.hear(0, 0, true);
            x.strike(0);
            x.strike(0);
            x.strike(1);
            due("struck by the other", ALL_TEN, x.colds(0));
            x.strike(2);
            due("struck by none", FROM_FIVE, x.colds(0));
        });
    }

    private static void known() {
        Edge.ofTerms(3, "KNOWN by n (all at first)", () -> {
            KnockBank x = shivering();
            due("none", 0, x.count(10));
            x.hear(0, 0, true);
            due("all", 1, x.count(10));
            due("it counts", FROM_FIVE, x.colds(0));
        });
        Edge.of(35, "KNOWN by n from now on: true", () -> {
            KnockBank x = shivering();
            x.hear(0, 0, true);
            x.hear(0, 0, false);
            due("0", true, x.known(0));
            due("by none", ALL_TEN, x.colds(0));
            due("1", true, x.known(1));
            due("by the first", FROM_FIVE, x.colds(0));
            due("2", true, x.known(2));
            due("by both", 0, x.colds(0));
            x.hear(0, 1, true);
            due("those to come aren't", 2, x.count(10));
            due("0 again", true, x.known(0));
            due("the same again", true, x.known(0));
        });
        Edge.of(35, "(-1: by all, also those to come)", () -> {
            KnockBank x = shivering();
            x.known(0);
            x.hear(0, 0, true);
            due("not known", ALL_TEN, x.colds(0));
            due("-1", true, x.known(-1));
            due("known", FROM_FIVE, x.colds(0));
            x.hear(0, 0, false);
            due("those to come", 0, x.colds(0));
            due("two", 2, x.count(10));
        });
        Edge.of(35, "false: no such n", () -> {
            KnockBank x = shivering();
            due("0 of none", true, x.known(0));
            due("1 of none", false, x.known(1));
            x.hear(0, 0, true);
            due("1 of one", true, x.known(1));
            due("2 of one", false, x.known(2));
            due("-2", false, x.known(-2));
            for (int far : FAR_OFF) {
                due("known " + far, false, x.known(far));
            }
            due("by one still", 1, x.count(10));
            due("as it was", FROM_FIVE, x.colds(0));
        });
        Edge.ofTerms(3, "the first n that aren't STRUCK by one of these", () -> {
            KnockBank x = shivering();
            x.hear(0, 0, true);
            x.strike(0);
            x.strike(1);
            x.known(1);
            due("the strike isn't known", FROM_FIVE, x.colds(0));
            x.known(2);
            due("the strike is", ALL_TEN, x.colds(0));
            x.known(3);
            due("the strike's strike is", FROM_FIVE, x.colds(0));
        });
    }

    private static void colds() {
        Edge.ofTerms(3, "COLDS of a HAND: 0 .. 9 (bits)", () -> {
            KnockBank x = shivering();
            due("nothing overheard: all ten", ALL_TEN, x.colds(0));
            x.hear(0, 0, true);
            due("from 5 on", FROM_FIVE, x.colds(0));
            x.hear(0, 0, false);
            due("none", 0, x.colds(0));
            KnockBank y = Tell.bank(SHIVERING + "law shake 6 * cold * (place = 0);");
            y.hear(0, 0, true);
            due("9 alone", 1 << 9, y.colds(0));
            KnockBank z = Tell.bank(SHIVERING + "law shake 50 * cold;");
            z.hear(0, 0, false);
            due("0 alone", 1, z.colds(0));
        });
        Edge.ofTerms(3, "all KNOWN ones of its RAPS", () -> {
            KnockBank x = shivering();
            x.hear(1, 0, true);
            due("not of b's rap", ALL_TEN, x.colds(0));
            due("of b's", FROM_FIVE, x.colds(1));
            x.hear(2, 0, false);
            due("of a's", BELOW_FIVE, x.colds(0));
            due("b as it was", FROM_FIVE, x.colds(1));
        });
        Edge.ofTerms(3, "at a place 0 .. 5 a RAP was HEARD 1 longer, or wasn't", () -> {
            for (int place = 0; place < 6; place++) {
                KnockBank x = Tell.bank(SHIVERING + "law shake 10 * cold * (place = " + place + ");");
                x.hear(0, place, true);
                due("longer at " + place, FROM_FIVE, x.colds(0));
                x.strike(0);
                x.hear(0, place, false);
                due("not longer at " + place, BELOW_FIVE, x.colds(0));
                x.hear(0, (place + 1) % 6, true);
                due("longer at another", 0, x.colds(0));
            }
        });
        Edge.ofTerms(3, "COLDS: E of 50 at least, and without a law of shaking", () -> {
            KnockBank x = Tell.bank("hand a 0 49 1 1 1 1 1 1;hand b 0 50 1 1 1 1 1 1;wood o 0 0 a;rap a o 0;rap b o 0;");
            x.hear(0, 0, true);
            x.hear(1, 0, true);
            due("48 and 9 is 57, 40 and 9 is 49", 0b1111000000, x.colds(0));
            due("40 and 10 is 50", FROM_FIVE, x.colds(1));
            KnockBank y = Tell.bank("hand a 0 50 1 1 1 1 1 1;wood o 0 0 a;rap a o 0;law shake 100 / (cold - 2);");
            y.hear(0, 0, true);
            due("2 is an ERROR: 26; 3 and 4 are 50 at least", 0b0000011000, y.colds(0));
        });
        Edge.of(36, "NONE: no such HAND", () -> {
            KnockBank x = shivering();
            due("the last one", ALL_TEN, x.colds(1));
            due("-1", -1, x.colds(-1));
            due("2", -1, x.colds(2));
            for (int far : FAR_OFF) {
                due("hand " + far, -1, x.colds(far));
            }
            due("of no hands", -1, new KnockBank().colds(0));
        });
    }

    private static void coldsFromTheText() {
        Edge.ofTerms(3, "RAPPED as it goes on its told DAY", () -> {
            KnockBank x = Tell.bank(SHIVERING + "law shake cold * 10 * (day = 7);");
            x.hear(2, 0, true);
            due("day 7", FROM_FIVE, x.colds(0));
            x.hear(0, 0, true);
            due("day 0", 0, x.colds(0));
        });
        Edge.ofTerms(3, "(from the TEXT on, nothing done by call)", () -> {
            String law = "law shake cold * 10 * (day = 7) * (hard = 3) * (raps = 1);";
            KnockBank x = Tell.bank(SHIVERING + law);
            x.hear(2, 0, true);
            due("as told", FROM_FIVE, x.colds(0));
            x.warm(0, 9);
            x.order(2, 0, 3);
            x.order(0, 1, 50);
            x.sell(1, 1);
            due("ordered", FROM_FIVE, x.colds(0));
            x.days(60);
            x.plane(0);
            due("days went by", FROM_FIVE, x.colds(0));
            due("nothing was changed by asking", 60, x.count(4));
            due("cold", 9, x.hand(0, 0));
        });
        Edge.ofTerms(3, "raps so far from the TEXT on: by DAYS, then by numbers", () -> {
            for (int raps = 0; raps < 4; raps++) {
                KnockBank x = Tell.bank("hand a 0 0 1 1 1 1 1 1;hand b 0 0 1 1 1 1 1 1;wood o 0 0 a;rap a o 5;rap a o 9;"
                    + "rap b o 0;rap a o 5;rap a o 0;law shake 10 * cold * (raps = " + raps + ");");
                int[] order = {1, 3, -1, 2, 0};
                for (int rap = 0; rap < 5; rap++) {
                    if (order[rap] >= 0) {
                        int number = x.hear(rap, 0, true);
                        due("rap " + rap + " behind " + raps, order[rap] == raps ? FROM_FIVE : 0, x.colds(0));
                        x.strike(number);
                    }
                }
            }
        });
        Edge.ofTerms(3, "in place of the told one", () -> {
            KnockBank x = Tell.bank("hand a 9 0 1 1 1 1 1 1;wood o 0 0 a;rap a o 0;law shake 10 * cold;");
            x.hear(0, 0, false);
            due("the told one isn't among them", BELOW_FIVE, x.colds(0));
            due("cold stays", 9, x.hand(0, 0));
        });
    }

    private static void chance() {
        Edge.of(37, "a seed 0 .. 2147483647", () -> {
            KnockBank x = Tell.bank(THREE);
            due("-1", -1, x.chance(-1, 1, 0));
            due("least", -1, x.chance(Integer.MIN_VALUE, 1, 0));
            due("0", 10, x.chance(0, 1, 0));
            due("most", 10, x.chance(Integer.MAX_VALUE, 1, 0));
        });
        Edge.of(37, "n 1 .. 99 DAYS from now", () -> {
            KnockBank x = Tell.bank("hand a 0 0 1 1 1 1 1 1;wood o 9 0 a;rap a o 0;rap a o 98;rap a o 99;");
            due("0", -1, x.chance(7, 0, 0));
            due("-1", -1, x.chance(7, -1, 0));
            due("1", 10, x.chance(7, 1, 1));
            due("1: no second", 0, x.chance(7, 1, 2));
            due("98", 0, x.chance(7, 98, 2));
            due("99", 10, x.chance(7, 99, 2));
            due("99: no third", 0, x.chance(7, 99, 3));
            due("100", -1, x.chance(7, 100, 0));
            for (int far : FAR_OFF) {
                due("n " + far, -1, x.chance(7, far, 0));
            }
            x.days(1);
            due("from now", 10, x.chance(7, 99, 2));
        });
        Edge.of(37, "so many 0 .. 10 more at least", () -> {
            KnockBank x = Tell.bank("hand a 0 0 1 1 1 1 1 1;wood o 9 0 a;" + "rap a o 0;".repeat(10));
            due("-1", -1, x.chance(7, 1, -1));
            due("0", 10, x.chance(7, 1, 0));
            due("9", 10, x.chance(7, 1, 9));
            due("10", 10, x.chance(7, 1, 10));
            due("11", -1, x.chance(7, 1, 11));
            for (int far : FAR_OFF) {
                due("right " + far, -1, x.chance(7, 1, far));
            }
            x.days(1);
            due("no more", 0, x.chance(7, 1, 1));
            due("0 more", 10, x.chance(7, 1, 0));
        });
        Edge.of(37, "BOUND and not WRONG", () -> {
            String two = "like 0;hand a 0 0 1 1 1 1 1 1;hand b 0 0 2 1 1 1 1 1;wood o 9 0 a;";
            due("wrong", 0, Tell.bank(two + "rap a o 0;law shake 100 * (place = 0);").chance(7, 1, 1));
            due("void", 0, Tell.bank(two + "rap b o 0;law shake 100 * (place = 0);").chance(7, 1, 1));
            due("right", 10, Tell.bank(two + "rap b o 0;law shake 0;").chance(7, 1, 1));
            KnockBank x = Tell.bank(two + "rap a o 0;rap a o 0;rap b o 1;law shake 100 * (place = 0) * (day = 0);");
            x.days(1);
            due("two are wrong", 2, x.count(7));
            due("one more is right", 10, x.chance(7, 1, 1));
            due("not two more", 0, x.chance(7, 1, 2));
        });
    }

    private static void chanceDraws() {
        String text = "like 0;hand a 0 0 1 1 1 1 1 1;wood o 9 0 a;rap a o 0;rap a o 1;seed 99999;law shake 50 * (place = 0);";
        Edge.of(37, "ten times drawn (numbers from a seed on, one behind another)", () -> {
            for (int seed : new int[] {0, 7, 1000, Integer.MAX_VALUE}) {
                Numbers numbers = new Numbers(seed);
                int[] times = new int[3];
                for (int i = 0; i < 10; i++) {
                    int right = (50 > numbers.next() ? 0 : 1) + (50 > numbers.next() ? 0 : 1);
                    for (int wanted = 0; wanted <= right; wanted++) {
                        times[wanted]++;
                    }
                }
                for (int wanted = 0; wanted < 3; wanted++) {
                    due("seed " + seed + ", " + wanted, times[wanted], Tell.bank(text).chance(seed, 2, wanted));
                }
            }
        });
        Edge.of(37, "the bank's own numbers stay", () -> {
            KnockBank x = Tell.bank(text);
            x.chance(3, 2, 0);
            due("asked again", x.chance(3, 2, 1), x.chance(3, 2, 1));
            x.days(2);
            due("16", 211111, Ask.rap(x, 0, 6));
            due("81", 111111, Ask.rap(x, 1, 6));
        });
    }

    private static void tried() {
        String text = "like 0;hand a 3 7 1 1 1 1 1 1;hand b 2 8 1 1 4 1 1 1;wood o 9 0 a;wood p 9 2 a;rap a o 0;rap b p 0;";
        Edge.ofTerms(3, "TRIED: 0 nobody is cold, 1 nobody is old, 3 like is 24, 4 all WOODS have HARD 9", () -> {
            String[] laws = {"cold <> 0", "aged <> 0", "1", "1", "hard <> 9"};
            for (int law = 0; law < 5; law++) {
                KnockBank x = Tell.bank(text + "law shake 100 * (place = 0) * (" + laws[law] + ");");
                for (int what = 0; what < 5; what++) {
                    if (what != 2) {
                        int want = what == law || what == 3 ? 0 : 2;
                        due("tried " + what + " by " + laws[law], want, x.tried(what, 0, 1));
                    }
                }
                due("cold stays", 3, x.hand(0, 0));
                due("aged stays", 7, x.hand(0, 1));
                due("hard stays", 2, x.wood(1, 1));
            }
            KnockBank y = Tell.bank(text + "law shake 100 * (place = 0);law near 0;");
            due("like is looked at without a law alone", 2, y.tried(3, 0, 1));
        });
        Edge.ofTerms(3, "TRIED: 2 HAND i doesn't rap", () -> {
            KnockBank x = Tell.bank(text + "rap a o 1;law shake 100 * (place = 0);");
            due("without a", 1, x.tried(2, 0, 2));
            due("without b", 2, x.tried(2, 1, 2));
            due("all", 3, x.ahead(2, 1));
            x.days(1);
            due("more from now", 0, x.tried(2, 0, 1));
        });
        Edge.ofTerms(3, "TRIED: WRONG and VOID more", () -> {
            KnockBank x = Tell.bank("like 0;hand a 0 0 1 1 1 1 1 1;hand b 0 0 2 1 1 1 1 1;wood o 9 0 a;rap a o 0;rap b o 0;"
                + "rap b o 1;law shake 100 * (place = 0);");
            due("one wrong, two void", 3, x.tried(0, 0, 2));
            x.days(1);
            due("one more void", 1, x.tried(0, 0, 2));
        });
        Edge.ofTerms(3, "TRIED for n DAYS as it goes", () -> {
            KnockBank x = Tell.bank("like 0;hand a 0 0 1 1 1 1 1 1;wood o 9 0 a;rap a o 0;seed 99999;law shake 17 * (place = 0);");
            due("17 isn't longer, though it is above 16", 0, x.tried(0, 0, 1));
        });
        Edge.of(38, "TRIED (n 0 .. 99)", () -> {
            KnockBank x = Tell.bank("like 0;hand a 0 0 1 1 1 1 1 1;wood o 9 0 a;rap a o 0;rap a o 98;rap a o 99;law shake 100;");
            due("0", 0, x.tried(0, 0, 0));
            due("1", 1, x.tried(0, 0, 1));
            due("98", 1, x.tried(0, 0, 98));
            due("99", 2, x.tried(0, 0, 99));
            due("-1", -1, x.tried(0, 0, -1));
            due("100", -1, x.tried(0, 0, 100));
            for (int far : FAR_OFF) {
                due("n " + far, -1, x.tried(0, 0, far));
            }
        });
        Edge.of(38, "NONE: no such ones (i 0 of all but 2)", () -> {
            KnockBank x = Tell.bank(text);
            for (int what = 0; what < 5; what++) {
                if (what != 2) {
                    due("i 0 of " + what, 0, x.tried(what, 0, 0));
                    due("i 1 of " + what, -1, x.tried(what, 1, 0));
                    due("i -1 of " + what, -1, x.tried(what, -1, 0));
                }
            }
            due("the last hand", 0, x.tried(2, 1, 0));
            due("hand 2", -1, x.tried(2, 2, 0));
            due("hand -1", -1, x.tried(2, -1, 0));
            due("what -1", -1, x.tried(-1, 0, 0));
            due("what 5", -1, x.tried(5, 0, 0));
            for (int far : FAR_OFF) {
                due("what " + far, -1, x.tried(far, 0, 0));
                due("hand " + far, -1, x.tried(2, far, 0));
            }
            due("no hand to be mute", -1, new KnockBank().tried(2, 0, 0));
            due("without hands", 0, new KnockBank().tried(4, 0, 99));
        });
    }

    private static void undo() {
        Edge.of(39, "NONE: none", () -> {
            KnockBank x = Tell.bank(THREE);
            due("nothing done", -1, x.undo());
            x.warm(0, 5);
            due("one", 0, x.undo());
            due("none left", -1, x.undo());
            due("as told", 0, x.hand(0, 0));
            due("new", -1, new KnockBank().undo());
        });
        Edge.ofTerms(4, "Warming, ordering, selling, planing by call can be undone, the latest first", () -> {
            KnockBank x = Tell.bank(THREE);
            x.days(1);
            x.warm(2, 0);
            x.order(1, 0, 50);
            x.sell(1, 2);
            x.plane(0);
            due("plane", 3, x.undo());
            due("not faded", 0, x.count(8));
            due("sell", 2, x.undo());
            due("owner", 1, x.wood(1, 2));
            due("order", 1, x.undo());
            due("wood", 1, Ask.rap(x, 1, 1));
            due("day", 1, Ask.rap(x, 1, 2));
            due("warm", 0, x.undo());
            due("cold", 9, x.hand(2, 0));
        });
        Edge.ofTerms(4, "what was FADED ahead of a plane stays FADED when it is undone", () -> {
            KnockBank x = Tell.bank("hand a 0 0 1 1 1 1 1 1;wood o 1 0 a;rap a o 0;rap a o 1;rap a o 2;");
            x.days(3);
            due("one is faded", 1, x.count(8));
            due("two more", 2, x.plane(0));
            due("undone", 0, x.undo());
            due("one still", 1, x.count(8));
            due("the first", 1, Ask.rap(x, 0, 5));
        });
        Edge.ofTerms(4, "a plane by which no more are FADED can be undone, too", () -> {
            KnockBank x = Tell.bank(THREE);
            x.days(1);
            x.plane(0);
            due("no more", 0, x.plane(0));
            due("two", 2, x.count(11));
            due("the second", 1, x.undo());
            due("faded still", 2, x.count(8));
            due("the first", 0, x.undo());
            due("not faded", 0, x.count(8));
        });
        Edge.ofTerms(4, "what was refused can't be undone", () -> {
            KnockBank x = Tell.bank(THREE);
            x.warm(0, 0);
            x.warm(0, 10);
            x.order(0, 0, 0);
            x.order(0, 0, -1);
            x.sell(0, 0);
            x.sell(0, 3);
            x.plane(2);
            due("nothing", 0, x.count(11));
            due("none", -1, x.undo());
        });
        Edge.ofTerms(4, "if no DAY went by since", () -> {
            KnockBank x = Tell.bank(THREE);
            x.warm(0, 5);
            x.days(0);
            due("no day", 1, x.count(11));
            x.days(-1);
            x.days(100);
            due("refused", 1, x.count(11));
            x.days(1);
            due("a day", 0, x.count(11));
            due("none", -1, x.undo());
            due("warm still", 5, x.hand(0, 0));
            x.warm(0, 6);
            due("what was done since", 0, x.undo());
            due("back to 5", 5, x.hand(0, 0));
        });
    }

    private static void undoAtMost() {
        Edge.ofTerms(4, "(20 at most)", () -> {
            KnockBank x = Tell.bank("hand a 0 0 1 1 1 1 1 1;wood o 9 0 a;rap a o 99;");
            for (int i = 1; i <= 20; i++) {
                x.order(0, 0, i);
            }
            due("20", 20, x.count(11));
            x.order(0, 0, 21);
            due("20 of 21", 20, x.count(11));
            for (int left = 19; left >= 0; left--) {
                due("left", left, x.undo());
                due("as it was", left + 1, Ask.rap(x, 0, 2));
            }
            due("not the first", -1, x.undo());
            due("stays", 1, Ask.rap(x, 0, 2));
        });
        Edge.ofTerms(4, "20 of many, of all kinds", () -> {
            KnockBank x = Tell.bank("hand a 0 0 1 1 1 1 1 1;hand b 0 0 1 1 1 1 1 1;wood o 9 0 a;rap a o 9;");
            for (int i = 0; i < 25; i++) {
                x.warm(0, 1 + i % 2);
                x.sell(0, 1 - i % 2);
            }
            for (int i = 24; i >= 15; i--) {
                due("sell undone", 2 * (i - 15) + 1, x.undo());
                due("owner", i % 2, x.wood(0, 2));
                due("cold", 1 + i % 2, x.hand(0, 0));
                due("warm undone", 2 * (i - 15), x.undo());
                due("cold ahead", 1 + (i + 1) % 2, x.hand(0, 0));
            }
            due("none", -1, x.undo());
        });
    }

    private static void keepAndBack() {
        Edge.of(40, "which DAY it is", () -> {
            KnockBank x = Tell.bank(THREE);
            due("0", 0, x.keep());
            x.days(99);
            due("99", 99, x.keep());
            due("new", 0, new KnockBank().keep());
        });
        Edge.of(40, "(in place of one ahead)", () -> {
            KnockBank x = Tell.bank(THREE);
            x.keep();
            x.days(2);
            x.keep();
            x.days(3);
            due("the later one", 2, x.back());
            due("again", 2, x.back());
        });
        Edge.of(41, "NONE: there is none", () -> {
            due("new", -1, new KnockBank().back());
            KnockBank x = Tell.bank(THREE);
            x.days(3);
            x.warm(0, 5);
            due("none kept", -1, x.back());
            due("day", 3, x.count(4));
            due("can be undone", 1, x.count(11));
            KnockBank y = new KnockBank();
            y.keep();
            due("of nothing told", 0, y.back());
        });
        Edge.of(41, "(nothing to undo then)", () -> {
            KnockBank x = Tell.bank(THREE);
            x.warm(0, 5);
            x.keep();
            due("one ahead", 1, x.count(11));
            due("back", 0, x.back());
            due("nothing", 0, x.count(11));
            due("undo", -1, x.undo());
            due("warm as kept", 5, x.hand(0, 0));
        });
        Edge.of(41, "the IMAGE stays, whatever is done then", () -> {
            KnockBank x = Tell.bank(THREE);
            x.keep();
            for (int i = 0; i < 3; i++) {
                x.warm(2, i);
                x.sell(0, 1);
                x.order(1, 0, 5);
                x.days(1 + i);
                x.plane(0);
                due("back", 0, x.back());
                due("cold", 9, x.hand(2, 0));
                due("owner", 0, x.wood(0, 2));
                due("day", 1, Ask.rap(x, 1, 2));
                due("not rapped", 0, Ask.rap(x, 0, 3));
                due("not faded", 0, x.count(8));
                due("raps", 0, x.hand(0, 3));
            }
        });
    }

    private static void imageKeeps() {
        String text = "hand a 5 50 1 1 1 1 1 1;hand b 0 0 2 2 2 2 2 2;wood o 1 0 a;rap a o 0;rap a o 1;rap a o 2;seed 9;like 24;";
        Edge.ofTerms(4, "An IMAGE keeps all", () -> {
            KnockBank x = Tell.bank(text);
            x.days(1);
            x.warm(0, 6);
            x.order(2, 0, 4);
            x.sell(0, 1);
            x.plane(0);
            x.keep();
            List<Long> kept = Look.at(x);
            x.undo();
            x.undo();
            x.undo();
            x.undo();
            x.days(9);
            x.back();
            List<Long> seen = Look.at(x);
            for (int i = 0; i < kept.size(); i++) {
                due("question " + i, i == 11 ? 0 : kept.get(i), seen.get(i));
            }
        });
        Edge.ofTerms(4, "An IMAGE keeps the numbers", () -> {
            KnockBank x = Tell.bank(text);
            x.days(1);
            x.keep();
            x.days(2);
            int second = Ask.rap(x, 1, 6);
            int third = Ask.rap(x, 2, 6);
            x.back();
            x.days(2);
            due("second", second, Ask.rap(x, 1, 6));
            due("third", third, Ask.rap(x, 2, 6));
        });
        Edge.ofTerms(4, "but what was OVERHEARD", () -> {
            KnockBank x = shivering();
            x.hear(0, 0, true);
            x.keep();
            x.hear(0, 0, false);
            x.strike(0);
            due("back", 0, x.back());
            due("three", 3, x.count(9));
            due("they count", BELOW_FIVE, x.colds(0));
            x.known(1);
            x.back();
            due("known by what was said last", 1, x.count(10));
        });
        Edge.of(41, "an IMAGE of an earlier TEXT is none", () -> {
            KnockBank x = Tell.bank(text);
            x.keep();
            Tell.told(x, "#");
            due("a fault leaves it", 0, x.back());
            Tell.told(x, "");
            due("gone", -1, x.back());
        });
    }

    private static void count() {
        Edge.of(42, "NONE for another what", () -> {
            KnockBank x = Tell.bank(THREE);
            due("the last one", 0, x.count(11));
            due("-1", -1, x.count(-1));
            due("12", -1, x.count(12));
            for (int far : FAR_OFF) {
                due("what " + far, -1, x.count(far));
            }
        });
        Edge.of(42, "5 BOUND, 6 VOID, 7 WRONG, 8 FADED", () -> {
            KnockBank x = Tell.bank("like 0;hand a 0 0 1 1 1 1 1 1;hand b 0 0 2 1 1 1 1 1;wood o 0 0 a;"
                + "rap a o 0;rap b o 0;rap b o 0;rap a o 3;law shake 100 * (place = 0) * (day = 0);");
            x.days(3);
            int[] want = {1, 2, 1, 3};
            for (int what = 5; what <= 8; what++) {
                due("faded ones too, " + what, want[what - 5], x.count(what));
            }
            x.days(1);
            due("bound", 2, x.count(5));
            due("wrong", 1, x.count(7));
        });
        Edge.of(42, "10 by how many it is KNOWN", () -> {
            KnockBank x = Tell.bank(THREE);
            due("none", 0, x.count(10));
            x.hear(0, 0, true);
            x.strike(0);
            due("all", 2, x.count(10));
            x.known(1);
            due("one", 1, x.count(10));
            x.hear(0, 0, true);
            due("one still", 1, x.count(10));
            x.known(-1);
            due("all again", 3, x.count(10));
        });
        Edge.of(42, "the most of each", () -> {
            StringBuilder text = new StringBuilder();
            for (char name = 'a'; name <= 'f'; name++) {
                text.append("hand ").append(name).append(" 9 99 1 1 1 1 1 1;");
            }
            for (char name = 'a'; name <= 'd'; name++) {
                text.append("wood ").append(name).append(" 0 0 a;");
            }
            text.append("rap f d 0;".repeat(10)).append("law near ").append("not ".repeat(63)).append("1;");
            KnockBank x = Tell.bank(text.toString());
            x.days(2);
            int[] want = {6, 4, 10, 64, 2};
            for (int what = 0; what < 5; what++) {
                due("count " + what, want[what], x.count(what));
            }
            due("all faded", 10, x.count(8));
            due("bound or void", 10, x.count(5) + x.count(6));
        });
    }

    /** A bank in the midst of things. */
    private static KnockBank busy() {
        KnockBank x = Tell.bank(THREE + "law fade 9 - raps;");
        x.hear(2, 0, true);
        x.hear(0, 1, false);
        x.known(1);
        x.days(1);
        x.keep();
        x.warm(0, 3);
        x.sell(0, 2);
        return x;
    }

    private static void refuseAll(KnockBank x) {
        for (int off : new int[] {-3, 77, Integer.MIN_VALUE, Integer.MAX_VALUE}) {
            due("text", -2, x.text(off));
            due("warm", false, x.warm(off, 1));
            due("order", false, x.order(1, off, 5));
            due("sell", false, x.sell(off, 1));
            due("plane", -1, x.plane(off));
            due("days", -1, x.days(off == 77 ? 100 : off));
            due("hear", -1, x.hear(off, 0, true));
            due("strike", -1, x.strike(off));
            due("known", false, x.known(off));
            due("rap", Ask.BEYOND, Ask.rap(x, off, 0));
            due("rap's what", Ask.NO_SUCH, Ask.rap(x, 0, off));
        }
    }

    private static void refused() {
        Edge.of(41, "a refused call changes nothing, nor does a question", () -> {
            KnockBank x = busy();
            KnockBank y = busy();
            refuseAll(y);
            Look.at(y);
            List<Long> want = Look.at(x);
            List<Long> seen = Look.at(y);
            due("as many", want.size(), seen.size());
            for (int i = 0; i < want.size(); i++) {
                due("question " + i, want.get(i), seen.get(i));
            }
            x.days(5);
            y.days(5);
            due("the same numbers", Ask.rap(x, 1, 6), Ask.rap(y, 1, 6));
            due("image", 1, y.back());
        });
    }

    private static void use() {
        Edge.ofTerms(1, "An object is used for at most 512 calls after it has been made", () -> {
            KnockBank x = Tell.bank(THREE);
            for (int calls = 8; calls < 510; calls += 2) {
                due("warm", true, x.warm(0, 1 + calls / 2 % 2));
                due("left", true, x.count(11) > 0);
            }
            due("call 511", 19, x.undo());
            due("call 512", 2, x.hand(0, 0));
        });
    }
}
