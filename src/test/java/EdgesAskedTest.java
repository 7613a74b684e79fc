/** The boundary cases of promises 16 to 32 and of what part 3 of the terms says of them: what is asked of hands and woods. */
public final class EdgesAskedTest {
    private static final String THREE = "hand a 0 0 1 1 1 1 1 1;hand b 0 0 1 1 1 1 2 2;hand c 9 50 4 4 4 4 4 4;"
        + "wood o 2 0 a;wood p 9 9 b;rap a o 0;rap b p 1;rap c o 0;like 3;seed 0;";
    private static final String SIX = "hand a 0 0 1 1 1 1 1 1;hand b 0 0 2 1 1 1 1 2;hand c 0 0 3 1 1 1 1 3;"
        + "hand d 0 0 4 1 1 1 1 4;hand e 0 0 1 2 1 1 1 1;hand f 0 0 1 3 1 1 1 1;";
    private static final long SURE = 1000000000000L;
    private static final int[] FAR_OFF = {Integer.MIN_VALUE, -1000, 1000, Integer.MAX_VALUE};

    private EdgesAskedTest() {
    }

    public static void main(String[] args) {
        apart();
        nearest();
        anew();
        whose();
        all();
        likely();
        surest();
        forge();
        places();
        joint();
        holds();
        will();
        rests();
        owns();
        fading();
        own();
        Edge.end("EdgesAskedTest", 16, 32);
    }

    private static void due(String what, long want, long got) {
        Check.due(what, want, got);
    }

    private static void apart() {
        Edge.of(16, "APART", () -> {
            KnockBank x = Tell.bank(THREE);
            due("of itself", 0, x.apart(2, 2));
            due("one way", 18, x.apart(0, 2));
            due("the other way", 18, x.apart(2, 0));
        });
        Edge.of(16, "NONE: no such HANDS", () -> {
            KnockBank x = Tell.bank(THREE);
            due("-1", -1, x.apart(-1, 0));
            due("3", -1, x.apart(3, 0));
            due("other -1", -1, x.apart(0, -1));
            due("other 3", -1, x.apart(0, 3));
            due("neither", -1, x.apart(3, 3));
            for (int far : FAR_OFF) {
                due("hand " + far, -1, x.apart(far, 0));
                due("other " + far, -1, x.apart(0, far));
            }
            due("of no hands", -1, new KnockBank().apart(0, 0));
        });
    }

    private static void nearest() {
        Edge.of(17, "0, 1: the HANDS (the lesser number first), 2: how far APART", () -> {
            KnockBank x = Tell.bank("hand a 0 0 4 4 4 4 4 4;hand b 0 0 1 1 1 1 1 1;hand c 0 0 1 1 1 1 1 2;");
            due("lesser", 1, x.nearest(0));
            due("greater", 2, x.nearest(1));
            due("far", 1, x.nearest(2));
        });
        Edge.ofTerms(3, "NEAREST: the two HANDS least APART, of several the first by HANDS", () -> {
            KnockBank x = Tell.bank("hand a 0 0 1 1 1 1 1 1;hand b 0 0 4 1 1 1 1 1;hand c 0 0 1 1 1 1 1 2;hand d 0 0 1 1 1 1 2 1;"
                + "hand e 0 0 4 1 1 1 1 2;");
            due("a and c, not a and d, not b and e", 0, x.nearest(0));
            due("c", 2, x.nearest(1));
            KnockBank y = Tell.bank("hand a 0 0 4 4 4 1 1 1;hand b 0 0 1 1 1 1 1 1;hand c 0 0 1 1 1 1 1 2;hand d 0 0 4 4 4 1 1 2;");
            due("a and d ahead of b and c", 0, y.nearest(0));
            due("d", 3, y.nearest(1));
            KnockBank z = Tell.bank("hand a 0 0 1 1 1 1 1 1;hand b 0 0 1 1 1 1 1 1;hand c 0 0 1 1 1 1 1 1;");
            due("of one knock", 0, z.nearest(0) + z.nearest(2));
            due("the second", 1, z.nearest(1));
        });
        Edge.of(17, "-2: there are no two", () -> {
            KnockBank none = new KnockBank();
            KnockBank one = Tell.bank("hand a 0 0 1 1 1 1 1 1;");
            KnockBank two = Tell.bank("hand a 0 0 1 1 1 1 1 1;hand b 0 0 4 4 4 4 4 4;");
            for (int what = 0; what < 3; what++) {
                due("of none, " + what, -2, none.nearest(what));
                due("of one, " + what, -2, one.nearest(what));
            }
            due("of two", 18, two.nearest(2));
        });
        Edge.of(17, "NONE for another what", () -> {
            for (KnockBank x : new KnockBank[] {new KnockBank(), Tell.bank(THREE)}) {
                due("-1", -1, x.nearest(-1));
                due("3", -1, x.nearest(3));
                for (int far : FAR_OFF) {
                    due("what " + far, -1, x.nearest(far));
                }
            }
        });
    }

    private static void anew() {
        Edge.of(18, "its least APART (24 without HANDS)", () -> {
            KnockBank x = new KnockBank();
            due("knock", 111111, x.anew(0));
            due("apart", 24, x.anew(1));
            due("of one hand", 18, Tell.bank("hand a 0 0 1 1 1 1 1 1;").anew(1));
            due("of a hand in the midst", 12, Tell.bank("hand a 0 0 2 2 2 2 2 2;").anew(1));
        });
        Edge.ofTerms(3, "NEW: the KNOCK whose least APART from all HANDS is most", () -> {
            due("far from 1", 444444, Tell.bank("hand a 0 0 1 1 1 1 1 1;").anew(0));
            due("far from 4", 111111, Tell.bank("hand a 0 0 4 4 4 4 4 4;").anew(0));
            due("beats are 4 at most", 444444, Tell.bank("hand a 0 0 2 2 2 2 2 2;").anew(0));
            due("of two", 9, Tell.bank("hand a 0 0 1 1 1 1 1 1;hand b 0 0 4 4 4 4 4 4;").anew(1));
        });
        Edge.ofTerms(3, "NEW: of several the first by BEATS (the first BEAT first)", () -> {
            due("of two", 111444, Tell.bank("hand a 0 0 1 1 1 1 1 1;hand b 0 0 4 4 4 4 4 4;").anew(0));
            due("2 or 3 at first", 244444, Tell.bank("hand a 0 0 1 1 1 1 1 1;hand b 0 0 4 1 1 1 1 1;").anew(0));
        });
        Edge.of(18, "NONE for another what", () -> {
            for (KnockBank x : new KnockBank[] {new KnockBank(), Tell.bank(THREE)}) {
                due("-1", -1, x.anew(-1));
                due("2", -1, x.anew(2));
                for (int far : FAR_OFF) {
                    due("what " + far, -1, x.anew(far));
                }
            }
        });
        Edge.of(18, "NEW of the TEXT that stands", () -> {
            KnockBank x = Tell.bank("hand a 0 0 1 1 1 1 1 1;");
            due("at first", 444444, x.anew(0));
            Tell.told(x, "hand a 0 0 4 4 4 4 4 4;#");
            due("a fault: as it was", 444444, x.anew(0));
            Tell.told(x, "hand a 0 0 4 4 4 4 4 4;");
            due("told anew", 111111, x.anew(0));
        });
    }

    private static void noKnocks(KnockBank x, boolean isOfAll) {
        int[] wrong = {0, 1, 11111, 1111111, 111110, 11111, 101111, 111116, 611111, 116111, 111119, 555556, 1111111111,
            -111111, -1, Integer.MIN_VALUE, Integer.MAX_VALUE};
        for (int knock : wrong) {
            due("knock " + knock, -1, isOfAll ? x.all(knock) : x.whose(knock, 0));
        }
    }

    private static void whose() {
        Edge.ofTerms(3, "WHOSE of a KNOCK told (six digits 1 .. 5)", () -> {
            KnockBank x = Tell.bank("like 24;" + "hand a 0 0 1 1 1 1 1 1;hand b 0 0 4 4 4 4 4 4;wood o 0 0 a;");
            due("the least", 0, x.whose(111111, 0));
            due("the most", 1, x.whose(555555, 0));
            noKnocks(x, false);
        });
        Edge.of(19, "-2: VOID", () -> {
            KnockBank x = Tell.bank(THREE);
            due("3 apart", 0, x.whose(111114, 0));
            due("4 apart", -2, x.whose(111115, 0));
        });
        Edge.of(19, "NONE: no such ones", () -> {
            KnockBank x = Tell.bank(THREE);
            due("the last wood", 0, x.whose(111111, 1));
            due("wood -1", -1, x.whose(111111, -1));
            due("wood 2", -1, x.whose(111111, 2));
            for (int far : FAR_OFF) {
                due("wood " + far, -1, x.whose(111111, far));
            }
            due("neither", -1, x.whose(0, 2));
        });
        Edge.of(19, "NONE: no HANDS", () -> {
            due("none", -1, new KnockBank().whose(111111, 0));
            due("hands, but no woods", -1, Tell.bank("hand a 0 0 1 1 1 1 1 1;").whose(111111, 0));
        });
        Edge.ofTerms(3, "WHOSE: the HAND it would be BOUND to, on a WOOD", () -> {
            KnockBank x = Tell.bank("hand a 0 0 1 1 1 1 1 1;wood o 0 0 a;wood p 0 9 a;rap a o 0;law near hard + raps + day;");
            due("soft: 1 apart", -2, x.whose(111112, 0));
            due("hard: 9 apart", 0, x.whose(444111, 1));
            due("hard: 10 apart", -2, x.whose(444211, 1));
            x.days(1);
            due("now: 2 apart", 0, x.whose(111113, 0));
            due("now: 3 apart", -2, x.whose(111114, 0));
        });
    }

    private static void all() {
        Edge.ofTerms(3, "each BEAT as told or 1 longer", () -> {
            KnockBank x = Tell.bank("hand a 0 0 1 4 1 4 1 4;hand b 0 0 2 4 1 4 1 4;");
            due("as told", 1, x.all(141414));
            due("all longer", 1, x.all(252525) & 1);
            due("b all longer", 2, x.all(352525));
            due("both", 3, x.all(241414));
            due("one shorter", 0, x.all(131414));
            due("two longer", 0, x.all(341434));
            due("the last one shorter", 0, x.all(141413));
        });
        Edge.of(20, "ALL (bits)", () -> {
            due("of no hands", 0, new KnockBank().all(111111));
            due("the sixth", 1 << 5, Tell.bank(SIX).all(141111));
            due("e, f", 1 << 4 | 1 << 5, Tell.bank(SIX).all(131111));
            due("a, e", 1 | 1 << 4, Tell.bank(SIX).all(121111));
        });
        Edge.of(20, "NONE: no such KNOCK", () -> {
            noKnocks(Tell.bank(THREE), true);
            noKnocks(new KnockBank(), true);
            due("the least", 1, Tell.bank(THREE).all(111111));
            due("the most", 4, Tell.bank(THREE).all(555555));
        });
    }

    private static void likely() {
        String one = "hand a 0 0 1 1 1 1 1 1;wood o 0 0 a;";
        Edge.of(21, "LIKELY in least terms", () -> {
            String[] laws = {"0", "100", "50", "100 * (place = 5)", "99", "1", "50 * (place = 0)", "75 * (place = 5)"};
            long[] above = {1, 0, 1, 0, 1, 99L * 99 * 99 * 99 * 99 * 99, 1, 1};
            long[] below = {1, 1, 64, 1, SURE, SURE, 2, 4};
            for (int i = 0; i < laws.length; i++) {
                KnockBank x = Tell.bank(one + "law shake " + laws[i] + ";");
                due("above by " + laws[i], above[i], x.likely(0, 0, 0));
                due("below by " + laws[i], below[i], x.likely(0, 0, 1));
            }
        });
        Edge.ofTerms(3, "LIKELY: by E of shake now", () -> {
            KnockBank x = Tell.bank(one + "rap a o 0;law shake 50 * raps * (place = day - 1);");
            due("at first", 1, x.likely(0, 0, 1));
            x.days(1);
            due("behind the rap", 2, x.likely(0, 0, 1));
            x.days(6);
            due("behind place 5", 1, x.likely(0, 0, 1));
        });
        Edge.of(21, "NONE: no such ones", () -> {
            KnockBank x = Tell.bank(THREE);
            due("the last ones", 1, x.likely(1, 1, 1));
            due("hand -1", -1, x.likely(-1, 0, 0));
            due("hand 3", -1, x.likely(3, 0, 0));
            due("wood -1", -1, x.likely(0, -1, 0));
            due("wood 2", -1, x.likely(0, 2, 0));
            due("what -1", -1, x.likely(0, 0, -1));
            due("what 2", -1, x.likely(0, 0, 2));
            for (int far : FAR_OFF) {
                due("hand " + far, -1, x.likely(far, 0, 0));
                due("wood " + far, -1, x.likely(0, far, 0));
                due("what " + far, -1, x.likely(0, 0, far));
            }
            due("of nothing", -1, new KnockBank().likely(0, 0, 0));
        });
    }

    private static void surest() {
        String woods = "hand a 5 50 1 1 1 1 1 1;wood o 0 0 a;wood p 0 5 a;wood q 0 5 a;wood r 0 1 a;";
        Edge.ofTerms(3, "SUREST: the WOOD by which that is most, the first of several", () -> {
            due("p, not q", 1, Tell.bank(woods).surest(0));
            due("all sure", 0, Tell.bank(woods + "law shake 0;").surest(0));
            due("none sure", 0, Tell.bank(woods + "law shake 100;").surest(0));
            due("the last one", 3, Tell.bank(woods + "law shake 100 * (hard <> 1);").surest(0));
            due("by the least", 3, Tell.bank(woods + "law shake 99 + (hard <> 1);").surest(0));
        });
        Edge.of(22, "-2: there are no WOODS", () -> {
            KnockBank x = Tell.bank("hand a 0 0 1 1 1 1 1 1;");
            due("no woods", -2, x.surest(0));
            due("one wood", 0, Tell.bank("hand a 0 0 1 1 1 1 1 1;wood o 0 0 a;").surest(0));
        });
        Edge.of(22, "NONE: no such HAND", () -> {
            KnockBank x = Tell.bank(woods);
            due("-1", -1, x.surest(-1));
            due("1", -1, x.surest(1));
            for (int far : FAR_OFF) {
                due("hand " + far, -1, x.surest(far));
            }
            due("nor woods", -1, new KnockBank().surest(0));
            due("no woods either", -1, Tell.bank("hand a 0 0 1 1 1 1 1 1;").surest(1));
        });
    }

    /** At how many places two knocks have other beats. */
    private static int unlike(int one, int other) {
        int many = 0;
        for (int digit = 1; digit <= 100000; digit *= 10) {
            many += one / digit % 10 != other / digit % 10 ? 1 : 0;
        }
        return many;
    }

    private static void forge() {
        Edge.ofTerms(3, "FORGE: the fewest of its BEATS that must be others (1 .. 4)", () -> {
            KnockBank x = Tell.bank("like 0;hand a 0 0 1 1 1 1 1 1;hand b 0 0 1 1 1 1 1 4;hand c 0 0 4 4 4 4 4 4;wood o 0 0 a;");
            due("one", 1, x.forge(0, 1, 0, 0));
            due("its knock", 111114, x.forge(0, 1, 0, 1));
            due("all six", 6, x.forge(0, 2, 0, 0));
            due("their knock", 444444, x.forge(0, 2, 0, 1));
            due("five", 5, x.forge(1, 2, 0, 0));
            int[] knocks = {444111, 111111, 123412, 111444, 432141, 214333};
            StringBuilder text = new StringBuilder("like 0;");
            for (int i = 0; i < 6; i++) {
                text.append("hand ").append((char) ('a' + i)).append(" 0 0");
                for (char beat : String.valueOf(knocks[i]).toCharArray()) {
                    text.append(" ").append(beat);
                }
                text.append(";");
            }
            KnockBank y = Tell.bank(text + "wood o 0 0 a;");
            for (int hand = 0; hand < 6; hand++) {
                for (int other = 0; other < 6; other++) {
                    if (hand != other) {
                        due(knocks[hand] + " as " + knocks[other], unlike(knocks[hand], knocks[other]), y.forge(hand, other, 0, 0));
                        due("the knock of " + other, knocks[other], y.forge(hand, other, 0, 1));
                    }
                }
            }
        });
        Edge.ofTerms(3, "FORGE: none of its BEATS must be another one", () -> {
            KnockBank x = Tell.bank("hand a 0 0 1 1 1 1 1 1;hand b 0 0 1 1 1 1 1 1;wood o 0 0 a;");
            due("b is taken for a", 0, x.forge(1, 0, 0, 0));
            due("as it is", 111111, x.forge(1, 0, 0, 1));
        });
        Edge.ofTerms(3, "FORGE: BOUND to the other one now, on a WOOD", () -> {
            KnockBank x = Tell.bank("hand a 0 0 1 1 1 1 1 1;hand b 0 0 4 4 4 4 4 4;wood o 0 0 a;wood p 0 9 a;law near hard + day;");
            due("as b alone", 6, x.forge(0, 1, 0, 0));
            due("within 9: four are nearer to b", 4, x.forge(0, 1, 1, 0));
            due("the first by beats", 112444, x.forge(0, 1, 1, 1));
            x.days(3);
            due("within 3: five", 5, x.forge(0, 1, 0, 0));
        });
        Edge.of(23, "1: the KNOCK, the first of several by BEATS", () -> {
            KnockBank x = Tell.bank("like 3;hand a 0 0 1 1 1 1 1 1;hand b 0 0 4 1 4 1 1 1;wood o 0 0 a;");
            due("how many", 2, x.forge(0, 1, 0, 0));
            due("which: 2 1 4, not 3 1 3", 214111, x.forge(0, 1, 0, 1));
        });
        Edge.of(23, "-2: by none", () -> {
            KnockBank x = Tell.bank("hand a 0 0 1 1 1 1 1 1;hand b 0 0 1 1 1 1 1 1;wood o 0 0 a;");
            due("b is never the first", -2, x.forge(0, 1, 0, 0));
            due("nor by a knock", -2, x.forge(0, 1, 0, 1));
        });
        Edge.of(23, "NONE: no such ones", () -> {
            KnockBank x = Tell.bank(THREE);
            due("the last ones", 1, Math.min(1, x.forge(2, 1, 1, 0)));
            due("hand -1", -1, x.forge(-1, 0, 0, 0));
            due("hand 3", -1, x.forge(3, 0, 0, 0));
            due("other -1", -1, x.forge(0, -1, 0, 0));
            due("other 3", -1, x.forge(0, 3, 0, 0));
            due("wood -1", -1, x.forge(0, 1, -1, 0));
            due("wood 2", -1, x.forge(0, 1, 2, 0));
            due("what -1", -1, x.forge(0, 1, 0, -1));
            due("what 2", -1, x.forge(0, 1, 0, 2));
            for (int far : FAR_OFF) {
                due("hand " + far, -1, x.forge(far, 0, 0, 0));
                due("other " + far, -1, x.forge(0, far, 0, 0));
                due("wood " + far, -1, x.forge(0, 1, far, 0));
                due("what " + far, -1, x.forge(0, 1, 0, far));
            }
            due("of nothing", -1, new KnockBank().forge(0, 1, 0, 0));
        });
        Edge.of(23, "NONE: alike", () -> {
            KnockBank x = Tell.bank(THREE);
            for (int hand = 0; hand < 3; hand++) {
                due("hand " + hand, -1, x.forge(hand, hand, 0, 0));
                due("knock of " + hand, -1, x.forge(hand, hand, 0, 1));
            }
        });
    }

    private static void places() {
        Edge.ofTerms(3, "PLACES: the fewest places (bits, of several the least)", () -> {
            due("first place", 1, Tell.bank("hand a 0 0 1 1 1 1 1 1;hand b 0 0 2 1 1 1 1 1;").places());
            due("last place", 32, Tell.bank("hand a 0 0 1 1 1 1 1 1;hand b 0 0 1 1 1 1 1 2;").places());
            due("the least of two", 2, Tell.bank("hand a 0 0 1 1 1 1 1 1;hand b 0 0 1 2 1 1 1 2;").places());
            due("fewer ahead of lesser", 4, Tell.bank("hand a 0 0 1 1 1 1 1 1;hand b 0 0 2 1 2 1 1 1;"
                + "hand c 0 0 1 2 3 1 1 1;").places());
            due("two places", 3, Tell.bank(SIX).places());
            due("five places", 31, Tell.bank("hand a 0 0 2 1 1 1 1 1;hand b 0 0 1 1 1 1 1 1;hand c 0 0 1 2 1 1 1 1;"
                + "hand d 0 0 1 1 2 1 1 1;hand e 0 0 1 1 1 2 1 1;hand f 0 0 1 1 1 1 2 1;").places());
        });
        Edge.of(24, "PLACES of no HANDS, of one", () -> {
            due("none", 0, new KnockBank().places());
            due("one", 0, Tell.bank("hand a 0 0 1 1 1 1 1 1;").places());
        });
        Edge.of(24, "-2: by none", () -> {
            due("one knock twice", -2, Tell.bank("hand a 0 0 1 2 3 4 1 2;hand b 0 0 1 2 3 4 1 2;").places());
            due("among others", -2, Tell.bank("hand a 0 0 1 2 3 4 1 2;hand b 0 0 1 1 1 1 1 1;hand c 0 0 1 2 3 4 1 2;").places());
        });
    }

    private static void joint() {
        Edge.ofTerms(3, "JOINT: MASKED (those whose first BEAT is as the last one of the HAND ahead)", () -> {
            KnockBank x = Tell.bank("hand a 0 0 1 1 1 1 1 2;hand b 0 0 2 1 1 1 1 1;");
            due("both ways one is masked", 1, x.joint(3, 6));
            due("the first by hands", 0, x.joint(3, 0));
            KnockBank y = Tell.bank("hand a 0 0 1 1 1 1 1 2;hand b 0 0 2 1 1 1 1 3;");
            due("the other way none is", 0, y.joint(3, 6));
            due("b ahead", 1, y.joint(3, 0));
            due("a behind", 0, y.joint(3, 1));
        });
        Edge.ofTerms(3, "the row of all of these by which fewest are MASKED, of several the first by HANDS", () -> {
            KnockBank x = Tell.bank("hand a 0 0 1 1 1 1 1 1;hand b 0 0 1 1 1 1 1 1;hand c 0 0 2 1 1 1 1 2;");
            int[] want = {0, 2, 1};
            for (int i = 0; i < 3; i++) {
                due("place " + i, want[i], x.joint(7, i));
            }
            due("none is masked", 0, x.joint(7, 6));
            KnockBank y = Tell.bank("hand a 0 0 1 1 1 1 1 1;hand b 0 0 1 1 1 1 1 1;hand c 0 0 1 1 1 1 1 1;"
                + "hand d 0 0 1 1 1 1 1 1;hand e 0 0 1 1 1 1 1 1;hand f 0 0 1 1 1 1 1 1;");
            for (int i = 0; i < 6; i++) {
                due("of six alike " + i, i, y.joint(63, i));
            }
            due("all but the first are masked", 5, y.joint(63, 6));
        });
        Edge.of(25, "what 0 .. 5: the HAND that is the how-manieth (-2: not so many)", () -> {
            KnockBank x = Tell.bank(SIX);
            due("of one", 5, x.joint(32, 0));
            for (int what = 1; what < 6; what++) {
                due("not of one, " + what, -2, x.joint(32, what));
            }
            for (int what = 0; what < 6; what++) {
                due("not of none, " + what, -2, x.joint(0, what));
                due("of six, " + what, 1, x.joint(63, what) >= 0 ? 1 : 0);
            }
        });
        Edge.of(25, "6: how many are MASKED", () -> {
            KnockBank x = Tell.bank(SIX);
            due("of none", 0, x.joint(0, 6));
            for (int hand = 0; hand < 6; hand++) {
                due("of one, " + hand, 0, x.joint(1 << hand, 6));
            }
            due("of no hands", 0, new KnockBank().joint(0, 6));
        });
        Edge.of(25, "NONE: no such ones", () -> {
            KnockBank x = Tell.bank(THREE);
            due("all three", 0, x.joint(7, 0));
            due("a fourth", -1, x.joint(8, 0));
            due("a fourth, too", -1, x.joint(15, 6));
            due("below 0", -1, x.joint(-1, 0));
            due("what -1", -1, x.joint(7, -1));
            due("what 7", -1, x.joint(7, 7));
            for (int far : FAR_OFF) {
                due("hands " + far, -1, x.joint(far, 0));
                due("what " + far, -1, x.joint(7, far));
            }
            due("a seventh", -1, Tell.bank(SIX).joint(64, 0));
            due("of no hands", -1, new KnockBank().joint(1, 0));
        });
    }

    private static void noSuchHand(String call, int far, long got) {
        due(call + " of hand " + far, -1, got);
    }

    private static void holds() {
        Edge.ofTerms(3, "HOLDS: of RAPS that are BOUND, not FADED, those on WOODS that it OWNS", () -> {
            KnockBank x = Tell.bank(THREE);
            due("nothing rapped", 0, x.holds(0));
            x.days(2);
            due("not the void one", 1, x.holds(0));
            due("on p", 1, x.holds(1));
            x.sell(0, 2);
            due("sold", 0, x.holds(0));
            due("bought", 1, x.holds(2));
            x.plane(0);
            due("faded", 0, x.holds(2));
            KnockBank y = Tell.bank("hand a 0 0 1 1 1 1 1 1;wood o 0 0 a;" + "rap a o 0;".repeat(10));
            y.days(1);
            due("all ten", 10, y.holds(0));
            due("rapped", 10, y.hand(0, 3));
            due("bound", 10, y.hand(0, 4));
            due("on the wood", 10, y.wood(0, 3));
            due("planed", 10, y.plane(0));
        });
        Edge.of(26, "NONE: no such HAND", () -> {
            KnockBank x = Tell.bank(THREE);
            due("the last one", 0, x.holds(2));
            noSuchHand("holds", -1, x.holds(-1));
            noSuchHand("holds", 3, x.holds(3));
            for (int far : FAR_OFF) {
                noSuchHand("holds", far, x.holds(far));
            }
            due("of no hands", -1, new KnockBank().holds(0));
        });
    }

    private static void will() {
        String text = "like 0;hand a 0 0 1 1 1 1 1 1;hand b 0 0 4 4 4 4 4 4;wood o 99 0 a;wood p 0 0 a;";
        Edge.ofTerms(3, "WILL: of the latest DAY, of several the last by numbers", () -> {
            KnockBank x = Tell.bank(text + "rap a o 5;rap a o 3;rap a o 5;rap a o 1;");
            due("day 1", 3, x.will(0, 2));
            due("day 3", 1, x.will(0, 4));
            due("day 5, the last", 2, x.will(0, 6));
            KnockBank y = Tell.bank(text + "rap a o 5;rap a o 3;rap a o 1;");
            due("day 5, the first by numbers", 0, y.will(0, 6));
        });
        Edge.ofTerms(3, "WILL: BOUND to it and not FADED then", () -> {
            KnockBank x = Tell.bank(text + "rap a o 0;rap a p 1;rap b o 2;");
            due("on its day not yet", 0, x.will(0, 1));
            due("the one on p", 1, x.will(0, 2));
            KnockBank y = Tell.bank(text + "rap a o 0;".repeat(10));
            due("the tenth", 9, y.will(0, 1));
            due("faded on day 2", 0, x.will(0, 3));
            due("b's", 2, x.will(1, 3));
        });
        Edge.ofTerms(3, "WILL: the latest RAP (by whomever)", () -> {
            KnockBank x = Tell.bank("like 0;hand a 0 0 1 1 1 1 1 1;hand b 0 0 2 1 1 1 1 1;wood o 9 0 a;rap a o 0;"
                + "law shake 100 * (place = 0);");
            due("bound to b", 0, x.will(1, 1));
            due("not to a", -2, x.will(0, 1));
        });
        Edge.of(27, "WILL (n 0 .. 99)", () -> {
            KnockBank x = Tell.bank(text + "rap a o 98;rap a o 99;");
            due("0", -2, x.will(0, 0));
            due("98", -2, x.will(0, 98));
            due("99", 0, x.will(0, 99));
            due("-1", -1, x.will(0, -1));
            due("100", -1, x.will(0, 100));
            for (int far : FAR_OFF) {
                due("n " + far, -1, x.will(0, far));
            }
        });
        Edge.of(27, "-2: none", () -> {
            due("no raps", -2, Tell.bank(text).will(0, 99));
            due("void ones", -2, Tell.bank(text + "rap a o 0;law shake 100;").will(0, 99));
            due("all faded", -2, Tell.bank(text + "rap a p 0;").will(0, 2));
        });
        Edge.of(27, "NONE: no such ones", () -> {
            KnockBank x = Tell.bank(THREE);
            due("the last one", -2, x.will(2, 0));
            due("-1", -1, x.will(-1, 0));
            due("3", -1, x.will(3, 0));
            for (int far : FAR_OFF) {
                due("hand " + far, -1, x.will(far, 0));
            }
            due("of no hands", -1, new KnockBank().will(0, 0));
        });
    }

    /** A hand of which so many beats are longer as it goes. */
    private static KnockBank longer(int beats, String like) {
        return Tell.bank(like + "hand a " + beats + " 0 1 1 1 1 1 1;wood o 0 0 a;law shake 50 * (place < cold);law near 0;");
    }

    private static void rests() {
        Edge.ofTerms(3, "each is strict (0: like less 2, 0 at least) or not (1: like and 2)", () -> {
            int[][] likes = {{0, 0, 2}, {1, 0, 3}, {2, 0, 4}, {3, 1, 5}, {4, 2, 6}, {5, 3, 7}, {8, 6, 10}, {24, 22, 26}};
            for (int[] like : likes) {
                for (int beats = 0; beats <= 6; beats++) {
                    KnockBank x = longer(beats, "like " + like[0] + ";");
                    int want = beats <= like[1] ? 0 : beats <= like[2] ? 11 : 0;
                    due("like " + like[0] + ", " + beats + " apart", want, x.rest(0, 0, 0));
                    due("alone", 1, x.rests(0, 0));
                }
            }
        });
        Edge.ofTerms(3, "like is 3 without, for two banks as well", () -> {
            due("1 apart", 0, longer(1, "").rest(0, 0, 0));
            due("2 apart", 11, longer(2, "").rest(0, 0, 0));
            due("5 apart", 11, longer(5, "").rest(0, 0, 0));
            due("6 apart", 0, longer(6, "").rest(0, 0, 0));
        });
        Edge.ofTerms(3, "what is HEARD as it goes", () -> {
            String text = "like 0;hand a 0 0 1 1 1 1 1 1;wood o 0 0 a;wood p 0 1 a;law shake 49 + hard * (place = 0);";
            KnockBank x = Tell.bank(text);
            due("49: as told", 0, x.rest(0, 0, 0));
            due("50: longer", 11, x.rest(0, 1, 0));
        });
        Edge.of(28, "NONE: no such ones", () -> {
            KnockBank x = Tell.bank(THREE);
            due("the last ones", 1, x.rests(2, 1));
            due("hand -1", -1, x.rests(-1, 0));
            due("hand 3", -1, x.rests(3, 0));
            due("wood -1", -1, x.rests(0, -1));
            due("wood 2", -1, x.rests(0, 2));
            for (int far : FAR_OFF) {
                due("hand " + far, -1, x.rests(far, 0));
                due("wood " + far, -1, x.rests(0, far));
            }
            due("of nothing", -1, new KnockBank().rests(0, 0));
        });
        Edge.of(29, "-2: there are no so many", () -> {
            KnockBank x = Tell.bank(THREE);
            due("0", 0, x.rest(0, 0, 0));
            due("1", -2, x.rest(0, 0, 1));
            due("4", -2, x.rest(0, 0, 4));
            due("most", -2, x.rest(0, 0, Integer.MAX_VALUE));
        });
        Edge.of(29, "NONE likewise, k is below 0", () -> {
            KnockBank x = Tell.bank(THREE);
            due("k -1", -1, x.rest(0, 0, -1));
            due("least", -1, x.rest(0, 0, Integer.MIN_VALUE));
            due("hand -1", -1, x.rest(-1, 0, 0));
            due("hand 3", -1, x.rest(3, 0, 0));
            due("wood -1", -1, x.rest(0, -1, 0));
            due("wood 2", -1, x.rest(0, 2, 0));
            due("hand 3, k 9", -1, x.rest(3, 0, 9));
            for (int far : FAR_OFF) {
                due("hand " + far, -1, x.rest(far, 0, 0));
                due("wood " + far, -1, x.rest(0, far, 0));
            }
            due("of nothing", -1, new KnockBank().rest(0, 0, 0));
        });
    }

    private static void owns() {
        Edge.of(30, "WOODS (bits) that a HAND OWNS", () -> {
            KnockBank x = Tell.bank("hand a 0 0 1 1 1 1 1 1;hand b 0 0 1 1 1 1 1 1;wood o 0 0 a;wood p 0 0 a;wood q 0 0 a;wood r 0 0 a;");
            due("all four", 15, x.owns(0));
            due("none", 0, x.owns(1));
            x.sell(3, 1);
            due("three", 7, x.owns(0));
            due("the fourth", 8, x.owns(1));
        });
        Edge.of(30, "NONE: no such HAND", () -> {
            KnockBank x = Tell.bank(THREE);
            due("the last one", 0, x.owns(2));
            noSuchHand("owns", -1, x.owns(-1));
            noSuchHand("owns", 3, x.owns(3));
            for (int far : FAR_OFF) {
                noSuchHand("owns", far, x.owns(far));
            }
            due("of no hands", -1, new KnockBank().owns(0));
        });
    }

    private static void fading() {
        Edge.of(31, "RAPS (bits) that are FADED in n DAYS 0 .. 99", () -> {
            KnockBank x = Tell.bank("hand a 0 0 1 1 1 1 1 1;wood o 97 0 a;wood p 0 0 a;" + "rap a o 0;".repeat(9) + "rap a p 0;");
            due("0", 0, x.fading(0));
            due("1", 0, x.fading(1));
            due("2: the tenth", 512, x.fading(2));
            due("98", 512, x.fading(98));
            due("99: on day 98", 1023, x.fading(99));
            due("of no raps", 0, new KnockBank().fading(99));
        });
        Edge.of(31, "and aren't now", () -> {
            KnockBank x = Tell.bank(THREE);
            x.days(4);
            due("two are now", 2, x.count(8));
            due("none in no days", 0, x.fading(0));
            due("the third", 2, x.fading(99));
            x.plane(1);
            due("planed", 0, x.fading(99));
        });
        Edge.of(31, "NONE: no such n", () -> {
            KnockBank x = Tell.bank(THREE);
            due("-1", -1, x.fading(-1));
            due("100", -1, x.fading(100));
            for (int far : FAR_OFF) {
                due("n " + far, -1, x.fading(far));
            }
        });
    }

    private static void own() {
        Edge.of(32, "RAPS (bits) of a HAND that are BOUND to it", () -> {
            KnockBank x = Tell.bank("like 0;hand a 0 0 1 1 1 1 1 1;hand b 0 0 2 1 1 1 1 1;wood o 0 0 a;rap a o 0;rap a o 1;"
                + "rap b o 1;rap b o 0;" + "rap a o 1;".repeat(6) + "law shake 100 * (place = 0) * (day = 0);");
            due("none yet", 0, x.own(0));
            x.days(1);
            due("a's is wrong", 0, x.own(0));
            due("b's is void", 0, x.own(1));
            x.days(1);
            due("a's", 0b1111110010, x.own(0));
            due("b's", 4, x.own(1));
            x.days(5);
            due("faded, too", 4, x.own(1));
            KnockBank y = Tell.bank("hand a 0 0 1 1 1 1 1 1;wood o 0 0 a;" + "rap a o 0;".repeat(10));
            y.days(1);
            due("all ten", 1023, y.own(0));
        });
        Edge.of(32, "NONE: no such HAND", () -> {
            KnockBank x = Tell.bank(THREE);
            due("the last one", 0, x.own(2));
            noSuchHand("own", -1, x.own(-1));
            noSuchHand("own", 3, x.own(3));
            for (int far : FAR_OFF) {
                noSuchHand("own", far, x.own(far));
            }
            due("of no hands", -1, new KnockBank().own(0));
        });
    }
}
