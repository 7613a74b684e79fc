/** The boundary cases of promises 1 to 5 and of part 1 of the terms: the tape, the text, its faults, the names. */
public final class EdgesTextTest {
    private static final String HAND = "hand a 1 1 1 1 1 1 1 1;";
    private static final String WOOD = "wood o 1 1 a;";
    private static final String[] LANGUAGE = {"hand", "wood", "rap", "like", "seed", "law", "shake", "near", "fade",
        "or", "and", "not", "cold", "aged", "hard", "beat", "place", "raps", "day"};
    private static final int BLANKS = 0x20202020;

    private EdgesTextTest() {
    }

    public static void main(String[] args) {
        newObject();
        feed();
        textOfTheTape();
        textBegins();
        textOnceMore();
        textRefuses();
        fault();
        named();
        words();
        numbersAndBlanks();
        told();
        expressions();
        signs();
        faultOne();
        faultTwo();
        faultsThreeAndFour();
        firstFault();
        Edge.end("EdgesTextTest", 1, 5);
    }

    private static void due(String what, long want, long got) {
        Check.due(what, want, got);
    }

    private static void good(String text, int lines) {
        KnockBank bank = new KnockBank();
        due("lines of " + text, lines, Tell.told(bank, text));
        due("fault of " + text, 0, bank.fault(0));
        due("place of " + text, -1, bank.fault(1));
    }

    /** The sign ^ stands ahead of the fault, and is left out. */
    private static void bad(int fault, String marked) {
        int place = marked.indexOf('^');
        String text = marked.substring(0, place) + marked.substring(place + 1);
        KnockBank bank = new KnockBank();
        due("lines of " + marked, -1, Tell.told(bank, text));
        due("fault of " + marked, fault, bank.fault(0));
        due("place of " + marked, place, bank.fault(1));
    }

    private static int feedBlanks(KnockBank x) {
        return x.feed(BLANKS, BLANKS, BLANKS, BLANKS, BLANKS);
    }

    /** A line as often as that; # is a, b, c and so on. */
    private static String many(String line, int times) {
        StringBuilder text = new StringBuilder();
        for (int i = 0; i < times; i++) {
            text.append(line.replace('#', (char) ('a' + i)));
        }
        return text.toString();
    }

    private static void newObject() {
        Edge.of(1, "A TEXT without LINES", () -> {
            KnockBank x = new KnockBank();
            for (int what = 0; what <= 11; what++) {
                due("count " + what, 0, x.count(what));
            }
            due("no hand", -1, x.hand(0, 0));
            due("no wood", -1, x.wood(0, 0));
            due("no rap", Ask.BEYOND, Ask.rap(x, 0, 0));
            due("no image", -1, x.back());
            due("nothing to undo", -1, x.undo());
        });
        Edge.of(1, "an empty TAPE", () -> {
            KnockBank x = new KnockBank();
            due("one byte", -2, x.text(1));
            due("none", 0, x.text(0));
            due("the first twenty", 20, feedBlanks(x));
        });
    }

    private static void feed() {
        Edge.of(2, "Twenty bytes come behind the TAPE, four of each number, the highest first", () -> {
            for (int place = 0; place < 20; place++) {
                int[] five = {BLANKS, BLANKS, BLANKS, BLANKS, BLANKS};
                int shift = 24 - 8 * (place % 4);
                five[place / 4] = BLANKS & ~(255 << shift) | 0xff << shift;
                KnockBank x = new KnockBank();
                feedBlanks(x);
                x.feed(five[0], five[1], five[2], five[3], five[4]);
                due("text with byte 255 at " + (20 + place), -1, x.text(40));
                due("where it stands", 20 + place, x.fault(1));
            }
        });
        Edge.of(2, "how many it has", () -> {
            KnockBank x = new KnockBank();
            for (int i = 1; i <= 35; i++) {
                due("feed " + i, 20 * i, feedBlanks(x));
            }
        });
        Edge.of(2, "NONE, and none come, if it would have more than 700", () -> {
            KnockBank x = new KnockBank();
            for (int i = 1; i < 35; i++) {
                feedBlanks(x);
            }
            due("just 700", 700, x.feed(BLANKS, BLANKS, BLANKS, BLANKS, 0x20202023));
            due("more", -1, x.feed(-1, -1, -1, -1, -1));
            due("more again", -1, x.feed(0, 0, 0, 0, 0));
            due("none came", -2, x.text(701));
            due("all 700 are read", -1, x.text(700));
            due("the last byte is the one fed", 699, x.fault(1));
            due("empty then", 20, feedBlanks(x));
        });
    }

    private static void textOfTheTape() {
        Edge.of(3, "The TAPE's first n bytes", () -> {
            KnockBank x = new KnockBank();
            x.feed(0x6c696b65, 0x20343b23, 0x23232323, 0x23232323, 0x23232323);
            due("those behind don't count", 1, x.text(7));
            KnockBank y = new KnockBank();
            y.feed(0x6c696b65, 0x20343b23, 0x23232323, 0x23232323, 0x23232323);
            due("one too few", -1, y.text(6));
            due("the length", 6, y.fault(1));
        });
        Edge.of(3, "(it is empty then)", () -> {
            KnockBank x = new KnockBank();
            feedBlanks(x);
            due("of twenty", 0, x.text(3));
            due("none left", -2, x.text(1));
            feedBlanks(x);
            due("of none", 0, x.text(0));
            due("none left then", -2, x.text(1));
            x.feed(0x23232323, 0, 0, 0, 0);
            due("with a fault", -1, x.text(1));
            due("none left with a fault", -2, x.text(1));
            due("twenty again", 20, feedBlanks(x));
        });
        Edge.of(3, "how many LINES", () -> {
            good("", 0);
            good("like 3;", 1);
            good("like 3;seed 1;", 2);
        });
        Edge.of(3, "700 bytes, each of them a TOKEN", () -> {
            bad(1, "^" + ";".repeat(700));
            bad(1, "law near 1^" + ")".repeat(690));
            bad(1, "^" + "9;".repeat(350));
            good("like 3;" + " ".repeat(693), 1);
            good(" ".repeat(693) + "like 3;", 1);
        });
        Edge.of(3, "-2, and the TAPE stays: there are not so many", () -> {
            KnockBank x = new KnockBank();
            due("one of none", -2, x.text(1));
            x.feed(0x6c696b65, 0x20343b20, BLANKS, BLANKS, BLANKS);
            due("21 of 20", -2, x.text(21));
            due("the most", -2, x.text(Integer.MAX_VALUE));
            due("the tape stays", 1, x.text(20));
        });
        Edge.of(3, "-2, and the TAPE stays: n is below 0", () -> {
            KnockBank x = new KnockBank();
            x.feed(0x6c696b65, 0x20343b20, BLANKS, BLANKS, BLANKS);
            due("-1", -2, x.text(-1));
            due("the least", -2, x.text(Integer.MIN_VALUE));
            due("the tape stays", 1, x.text(20));
        });
    }

    /** A bank on day 1 with a rap, something overheard, known by none of it, an image, and something to undo. */
    private static KnockBank used() {
        KnockBank x = Tell.bank("like 0;hand a 5 50 1 1 1 1 1 1;wood o 9 0 a;rap a o 0;rap a o 1;seed 5;law near 30;");
        x.hear(0, 0, false);
        x.hear(1, 0, true);
        x.known(1);
        x.days(1);
        x.keep();
        x.warm(0, 7);
        return x;
    }

    private static void textBegins() {
        String same = "like 0;hand a 5 50 1 1 1 1 1 1;wood o 9 0 a;rap a o 0;rap a o 1;seed 5;law near 30;";
        Edge.of(3, "DAY 0", () -> {
            KnockBank x = used();
            due("lines", 7, Tell.told(x, same));
            due("day", 0, x.count(4));
        });
        Edge.of(3, "nothing RAPPED", () -> {
            KnockBank x = used();
            due("rapped", 1, Ask.rap(x, 0, 3));
            Tell.told(x, same);
            due("not rapped", 0, Ask.rap(x, 0, 3));
            due("bound to nobody", -1, Ask.rap(x, 0, 4));
            due("not heard", 0, Ask.rap(x, 0, 6));
            due("bound", 0, x.count(5));
            due("raps of the hand", 0, x.hand(0, 3));
            due("on the wood", 0, x.wood(0, 3));
        });
        Edge.of(3, "nothing FADED, COLD as told, the seed's first number", () -> {
            KnockBank x = used();
            int heard = Ask.rap(x, 0, 6);
            x.plane(0);
            Tell.told(x, same);
            due("faded", 0, x.count(8));
            due("cold", 5, x.hand(0, 0));
            x.days(1);
            due("heard as at first", heard, Ask.rap(x, 0, 6));
        });
        Edge.of(3, "nothing OVERHEARD", () -> {
            KnockBank x = used();
            Tell.told(x, same);
            due("overheard", 0, x.count(9));
            due("all colds", 1023, x.colds(0));
            due("the first number", 0, x.hear(0, 0, true));
        });
        Edge.of(3, "all KNOWN", () -> {
            KnockBank x = used();
            due("by one alone", 1, x.count(10));
            Tell.told(x, same);
            x.hear(0, 0, true);
            x.hear(0, 0, false);
            due("known by both", 2, x.count(10));
            due("both count", 0, x.colds(0));
        });
        Edge.of(3, "no IMAGE", () -> {
            KnockBank x = used();
            Tell.told(x, same);
            due("back", -1, x.back());
        });
        Edge.of(3, "nothing to undo then", () -> {
            KnockBank x = used();
            Tell.told(x, same);
            due("undo", -1, x.undo());
            due("count", 0, x.count(11));
        });
        Edge.of(3, "the new TEXT's LINES alone", () -> {
            KnockBank x = used();
            due("empty text", 0, Tell.told(x, ""));
            due("hands", 0, x.count(0));
            due("woods", 0, x.count(1));
            due("raps", 0, x.count(2));
            due("knots", 0, x.count(3));
            due("like is 3 again", 2, Tell.told(x, "hand b 0 0 1 1 1 1 1 1;wood p 0 0 b;"));
            due("3 apart", 0, x.whose(222111, 0));
            due("4 apart", -2, x.whose(222211, 0));
            due("no law", Long.MIN_VALUE, x.law(1, 0, 0, 0));
        });
    }

    private static void textOnceMore() {
        String rich = "hand a 1 1 4 4 4 4 4 4;hand b 1 1 1 1 1 1 1 1;wood o 1 1 b;rap a o 0;rap b o 0;like 9;seed 8;"
            + "law shake 50;law near 1;law fade cold;";
        Edge.of(3, "a TEXT as often as it is told", () -> {
            KnockBank x = new KnockBank();
            for (int i = 0; i < 5; i++) {
                due("rich", 10, Tell.told(x, rich));
                due("raps", 2, x.count(2));
                due("knots", 3, x.count(3));
                due("new", 111444, x.anew(0));
            }
            for (int i = 0; i < 3; i++) {
                due("poor", 3, Tell.told(x, "hand c 5 50 1 1 1 1 1 1;wood p 0 0 c;rap c p 0;"));
                due("hands", 1, x.count(0));
                due("woods", 1, x.count(1));
                due("raps", 1, x.count(2));
                due("knots", 0, x.count(3));
                due("new", 444444, x.anew(0));
                due("new is apart", 18, x.anew(1));
                due("like 3", -2, x.whose(222211, 0));
                for (int what = 0; what < 3; what++) {
                    due("law " + what, Long.MIN_VALUE, x.law(what, 0, 0, 0));
                }
                x.days(1);
                due("seed 0", new Numbers(0).heard(111111, 50), Ask.rap(x, 0, 6));
            }
            due("rich again", 10, Tell.told(x, rich));
        });
        Edge.of(3, "a TEXT behind one with a FAULT in the midst of E", () -> {
            String[] broken = {"law near 1 + (2 * (3 - (", "law near 1 < 2 < 3;", "law near not (1 < 2", "law near ((((((((1", "law near 1 +"};
            for (String first : broken) {
                KnockBank x = new KnockBank();
                due("broken " + first, -1, Tell.told(x, first));
                due("whole", 3, Tell.told(x, "hand a 0 0 1 1 1 1 1 1;wood o 0 0 a;law near 7 < (((((((8)))))));"));
                due("its value", 1, x.law(1, 0, 0, 0));
                due("its knots", 3, x.count(3));
                due("one bracket too much", -1, Tell.told(x, "law near 7);"));
                due("its fault", 1, x.fault(0));
                due("its place", 10, x.fault(1));
            }
            KnockBank y = new KnockBank();
            for (int i = 0; i < 20; i++) {
                due("all open", -1, Tell.told(y, "law near ((((((((1;"));
            }
            due("whole at last", 3, Tell.told(y, "hand a 0 0 1 1 1 1 1 1;wood o 0 0 a;law near 1+(2*(3-1));"));
            due("its value at last", 5, y.law(1, 0, 0, 0));
        });
    }

    private static void textRefuses() {
        Edge.of(3, "NONE with a FAULT, all stays", () -> {
            KnockBank x = used();
            due("fault", -1, Tell.told(x, "hand b 0 0 4 4 4 4 4 4;seed 9;law near 0;law shake 0;like 24;like 24;"));
            due("hands", 1, x.count(0));
            due("name", 0, x.named(0, Tell.letters("a")));
            due("no new name", -1, x.named(0, Tell.letters("b")));
            due("knots", 1, x.count(3));
            due("law near", 30, x.law(1, 0, 0, 0));
            due("no law shake", Long.MIN_VALUE, x.law(0, 0, 0, 0));
            due("day", 1, x.count(4));
            due("rapped", 1, Ask.rap(x, 0, 3));
            due("overheard", 2, x.count(9));
            due("known", 1, x.count(10));
            due("to undo", 0, x.undo());
            due("cold", 5, x.hand(0, 0));
            due("image", 1, x.back());
        });
        Edge.of(3, "with a FAULT the numbers go on", () -> {
            KnockBank x = used();
            KnockBank y = used();
            Tell.told(y, "seed 77;#");
            x.days(1);
            y.days(1);
            due("heard", Ask.rap(x, 1, 6), Ask.rap(y, 1, 6));
        });
        Edge.of(3, "with -2 all stays", () -> {
            KnockBank x = used();
            due("not so many", -2, x.text(1));
            due("below 0", -2, x.text(-1));
            due("hands", 1, x.count(0));
            due("day", 1, x.count(4));
            due("overheard", 2, x.count(9));
            due("known", 1, x.count(10));
            due("to undo", 0, x.undo());
            due("image", 1, x.back());
        });
    }

    private static void fault() {
        Edge.of(4, "Of the latest text()", () -> {
            KnockBank x = new KnockBank();
            due("none yet", 0, x.fault(0));
            due("no place yet", -1, x.fault(1));
            Tell.told(x, "like 25;");
            due("too much", 2, x.fault(0));
            due("its place", 5, x.fault(1));
            Tell.told(x, "like 3;like 3;");
            due("told already", 3, x.fault(0));
            due("its place then", 7, x.fault(1));
        });
        Edge.of(4, "that was not -2", () -> {
            KnockBank x = new KnockBank();
            Tell.told(x, "like 25;");
            due("not so many", -2, x.text(1));
            due("fault stays", 2, x.fault(0));
            due("place stays", 5, x.fault(1));
            due("below 0", -2, x.text(-1));
            due("fault stays then", 2, x.fault(0));
            Tell.told(x, "");
            x.text(1);
            due("none stays", 0, x.fault(0));
        });
        Edge.of(4, "its FAULT (0), 1: its place (NONE without)", () -> {
            KnockBank x = new KnockBank();
            Tell.told(x, "#");
            due("place 0", 0, x.fault(1));
            Tell.told(x, "like 3;");
            due("no fault", 0, x.fault(0));
            due("no place", -1, x.fault(1));
        });
        Edge.of(4, "NONE for another what", () -> {
            KnockBank x = new KnockBank();
            Tell.told(x, "like 25;");
            for (int what : new int[] {-1, 2, 3, Integer.MIN_VALUE, Integer.MAX_VALUE}) {
                due("fault " + what, -1, x.fault(what));
            }
        });
    }

    private static void named() {
        Edge.of(5, "5 bits each (a is 1; the first one highest of six, 0 behind the last one)", () -> {
            KnockBank x = Tell.bank("hand a 0 0 1 1 1 1 1 1;hand zzzzzz 0 0 1 1 1 1 1 1;hand az 0 0 1 1 1 1 1 1;"
                + "hand abcdef 0 0 1 1 1 1 1 1;");
            due("a", 0, x.named(0, 1 << 25));
            due("zzzzzz", 1, x.named(0, 26 << 25 | 26 << 20 | 26 << 15 | 26 << 10 | 26 << 5 | 26));
            due("az", 2, x.named(0, 1 << 25 | 26 << 20));
            due("abcdef", 3, x.named(0, 1 << 25 | 2 << 20 | 3 << 15 | 4 << 10 | 5 << 5 | 6));
            due("a at the last place", -1, x.named(0, 1));
            due("five of six", -1, x.named(0, 26 << 25 | 26 << 20 | 26 << 15 | 26 << 10 | 26 << 5));
            due("a with a bit above", -1, x.named(0, 1 << 25 | 1 << 30));
            due("below 0", -1, x.named(0, 1 << 25 | 1 << 31));
        });
        Edge.of(5, "NONE: there is none such", () -> {
            KnockBank x = new KnockBank();
            due("no hands", -1, x.named(0, 1 << 25));
            due("no woods", -1, x.named(1, 1 << 25));
            due("no letters, no hands", -1, x.named(0, 0));
            Tell.told(x, HAND + "hand b 1 1 1 1 1 1 1 1;" + WOOD);
            due("no letters", -1, x.named(0, 0));
            due("a wood of a hand's name", -1, x.named(1, 1 << 25));
            due("a hand of a wood's name", -1, x.named(0, Tell.letters("o")));
            Tell.told(x, HAND);
            due("of the text ahead", -1, x.named(0, Tell.letters("b")));
            due("wood of the text ahead", -1, x.named(1, Tell.letters("o")));
        });
        Edge.of(5, "what is neither HAND (what 0) nor WOOD (1)", () -> {
            KnockBank x = Tell.bank(HAND + "wood a 1 1 a;");
            due("hand", 0, x.named(0, 1 << 25));
            due("wood", 0, x.named(1, 1 << 25));
            for (int what : new int[] {-1, 2, Integer.MIN_VALUE, Integer.MAX_VALUE}) {
                due("named " + what, -1, x.named(what, 1 << 25));
            }
        });
    }

    private static void words() {
        Edge.ofTerms(1, "A TEXT: { LINE ';' }", () -> {
            good("", 0);
            good("like 3;", 1);
            bad(1, "^;");
            bad(1, "like 3;^;");
            bad(1, "like 3^");
            bad(1, "like 3 ^seed 1;");
        });
        Edge.ofTerms(1, "W: one of 1 .. 6 letters", () -> {
            good("hand a 0 0 1 1 1 1 1 1;", 1);
            good("hand z 0 0 1 1 1 1 1 1;", 1);
            good("hand abcdef 0 0 1 1 1 1 1 1;wood uvwxyz 0 0 abcdef;rap abcdef uvwxyz 0;", 3);
            bad(1, "hand ^abcdefg 0 0 1 1 1 1 1 1;");
            bad(1, HAND + "wood ^abcdefg 0 0 a;");
            bad(1, HAND + "wood o 0 0 ^abcdefg;");
            bad(1, HAND + WOOD + "rap ^abcdefg o 0;");
            bad(1, HAND + WOOD + "rap a ^abcdefg 0;");
            bad(1, "hand ^1 0 0 1 1 1 1 1 1;");
        });
        Edge.ofTerms(1, "names of 6 letters are told apart by the last one", () -> {
            good("hand abcdef 0 0 1 1 1 1 1 1;hand abcdeg 0 0 1 1 1 1 1 1;hand abcde 0 0 1 1 1 1 1 1;", 3);
            bad(4, "hand abcdef 0 0 1 1 1 1 1 1;wood o 0 0 ^abcdeg;");
            bad(4, "hand abcdef 0 0 1 1 1 1 1 1;wood o 0 0 ^abcde;");
        });
        Edge.ofTerms(1, "none of those of the language", () -> {
            for (String word : LANGUAGE) {
                bad(1, "hand ^" + word + " 0 0 1 1 1 1 1 1;");
                bad(1, HAND + "wood ^" + word + " 0 0 a;");
                bad(1, HAND + "wood o 0 0 ^" + word + ";");
                bad(1, HAND + WOOD + "rap ^" + word + " o 0;");
                bad(1, HAND + WOOD + "rap a ^" + word + " 0;");
            }
            good("hand hands 0 0 1 1 1 1 1 1;hand e 0 0 1 1 1 1 1 1;hand plac 0 0 1 1 1 1 1 1;", 3);
        });
    }

    private static void numbersAndBlanks() {
        Edge.ofTerms(1, "N: digits", () -> {
            good("like 000000000000000000000000000024;", 1);
            good("like 00;", 1);
            bad(2, "like ^000000000000000000000000000025;");
            bad(2, "like ^2147483648;");
            bad(2, "like ^4294967296;");
            bad(2, "like ^4294967299;");
            bad(2, "like ^9223372036854775808;");
            bad(2, "like ^18446744073709551616;");
            bad(2, "law near ^18446744073709551617;");
            bad(2, "seed ^" + "9".repeat(600) + ";");
            bad(1, "like ^-1;");
            bad(1, "like 1^.5;");
        });
        Edge.ofTerms(1, "Words: small letters in a row", () -> {
            good("like3;", 1);
            good("hand a1 1 1 1 1 1 1 1;", 1);
            bad(1, "^Like 3;");
            bad(1, "^likes 3;");
            bad(1, "^lik e 3;");
            bad(1, "hand ^A 1 1 1 1 1 1 1 1;");
            bad(1, "hand ^`a 1 1 1 1 1 1 1 1;");
            bad(1, "hand ^{a 1 1 1 1 1 1 1 1;");
        });
        Edge.ofTerms(1, "Blanks 10, 32", () -> {
            good("\n \n", 0);
            good("\n like\n\n3 ;\n", 1);
            for (int sign = 0; sign < 256; sign++) {
                if (sign != 10 && sign != 32) {
                    bad1At(0, String.valueOf((char) sign));
                }
                boolean isDigit = sign >= '0' && sign <= '9';
                if (!isDigit && sign != 10 && sign != 32 && sign != ';') {
                    bad1At(6, "like 3" + (char) sign + ";");
                }
            }
        });
    }

    private static void bad1At(int place, String text) {
        KnockBank bank = new KnockBank();
        due("text with sign " + (int) text.charAt(place), -1, Tell.told(bank, text));
        due("fault of sign " + (int) text.charAt(place), 1, bank.fault(0));
        due("place of sign " + (int) text.charAt(place), place, bank.fault(1));
    }

    private static void told() {
        Edge.ofTerms(1, "HANDS, at most 6", () -> {
            KnockBank x = Tell.bank(many("hand # 1 1 1 1 1 1 1 1;", 6));
            due("six", 6, x.count(0));
            due("the last name", 5, x.named(0, Tell.letters("f")));
            bad(2, many("hand # 1 1 1 1 1 1 1 1;", 6) + "^hand g 1 1 1 1 1 1 1 1;");
        });
        Edge.ofTerms(1, "COLD 0 .. 9", () -> {
            due("0", 0, Tell.bank("hand a 0 50 1 1 1 1 1 1;").hand(0, 0));
            due("9", 9, Tell.bank("hand a 9 50 1 1 1 1 1 1;").hand(0, 0));
            bad(2, "hand a ^10 50 1 1 1 1 1 1;");
        });
        Edge.ofTerms(1, "AGED 0 .. 99", () -> {
            due("0", 0, Tell.bank("hand a 5 0 1 1 1 1 1 1;").hand(0, 1));
            due("99", 99, Tell.bank("hand a 5 99 1 1 1 1 1 1;").hand(0, 1));
            bad(2, "hand a 5 ^100 1 1 1 1 1 1;");
        });
        Edge.ofTerms(1, "a KNOCK: six BEATS 1 .. 4", () -> {
            due("1 and 4", 141414, Tell.bank("hand a 5 50 1 4 1 4 1 4;").hand(0, 2));
            for (int k = 0; k < 6; k++) {
                String ahead = "hand a 5 50" + " 4".repeat(k);
                String behind = " 1".repeat(5 - k) + ";";
                bad(2, ahead + " ^0" + behind);
                bad(2, ahead + " ^5" + behind);
                bad(1, ahead + "^;");
            }
            bad(1, "hand a 5 50 1 1 1 1 1 1 ^1;");
        });
        Edge.ofTerms(1, "WOODS, at most 4", () -> {
            KnockBank x = Tell.bank(HAND + many("wood # 1 1 a;", 4));
            due("four", 4, x.count(1));
            due("the last name", 3, x.named(1, Tell.letters("d")));
            bad(2, HAND + many("wood # 1 1 a;", 4) + "^wood e 1 1 a;");
        });
        Edge.ofTerms(1, "KEEPS 0 .. 99 DAYS", () -> {
            due("0", 0, Tell.bank(HAND + "wood o 0 5 a;").wood(0, 0));
            due("99", 99, Tell.bank(HAND + "wood o 99 5 a;").wood(0, 0));
            bad(2, HAND + "wood o ^100 5 a;");
        });
        Edge.ofTerms(1, "HARD 0 .. 9", () -> {
            due("0", 0, Tell.bank(HAND + "wood o 5 0 a;").wood(0, 1));
            due("9", 9, Tell.bank(HAND + "wood o 5 9 a;").wood(0, 1));
            bad(2, HAND + "wood o 5 ^10 a;");
        });
        Edge.ofTerms(1, "RAPS, at most 10", () -> {
            KnockBank x = Tell.bank(HAND + WOOD + many("rap a o 1;", 9) + "rap a o 7;");
            due("ten", 10, x.count(2));
            due("the last one", 7, Ask.rap(x, 9, 2));
            bad(2, HAND + WOOD + many("rap a o 1;", 10) + "^rap a o 1;");
        });
        Edge.ofTerms(1, "on a DAY 0 .. 99", () -> {
            due("0", 0, Ask.rap(Tell.bank(HAND + WOOD + "rap a o 0;"), 0, 2));
            due("99", 99, Ask.rap(Tell.bank(HAND + WOOD + "rap a o 99;"), 0, 2));
            bad(2, HAND + WOOD + "rap a o ^100;");
        });
        likeAndSeed();
        Edge.ofTerms(1, "All numbered as they come", () -> {
            KnockBank x = Tell.bank("hand b 0 0 1 1 1 1 1 1;wood p 0 0 b;rap b p 5;hand a 0 0 1 1 1 1 1 1;wood o 0 0 a;rap a o 4;");
            due("b", 0, x.named(0, Tell.letters("b")));
            due("a", 1, x.named(0, Tell.letters("a")));
            due("p", 0, x.named(1, Tell.letters("p")));
            due("o", 1, x.named(1, Tell.letters("o")));
            due("rap of a", 1, Ask.rap(x, 1, 0));
            due("owner of o", 1, x.wood(1, 2));
        });
        Edge.ofTerms(1, "HANDS, WOODS have names of their kind", () -> {
            KnockBank x = Tell.bank("hand a 0 0 1 1 1 1 1 1;hand b 0 0 1 1 1 1 1 1;wood b 0 0 a;wood a 0 0 b;rap a b 0;");
            due("a hand", 0, x.named(0, Tell.letters("a")));
            due("a wood of its name", 1, x.named(1, Tell.letters("a")));
            due("the rap's wood", 0, Ask.rap(x, 0, 1));
            due("the owner", 0, x.wood(0, 2));
        });
    }

    private static void likeAndSeed() {
        String bank = "hand a 0 0 1 1 1 1 1 1;wood o 0 0 a;";
        Edge.ofTerms(1, "like: 0 .. 24", () -> {
            due("0 apart by 0", 0, Tell.bank(bank + "like 0;").whose(111111, 0));
            due("1 apart by 0", -2, Tell.bank(bank + "like 0;").whose(111112, 0));
            due("24 apart by 24", 0, Tell.bank(bank + "like 24;").whose(555555, 0));
            due("24 apart by 23", -2, Tell.bank(bank + "like 23;").whose(555555, 0));
            bad(2, "like ^25;");
        });
        Edge.ofTerms(1, "like: (3 without)", () -> {
            due("3 apart", 0, Tell.bank(bank).whose(111114, 0));
            due("4 apart", -2, Tell.bank(bank).whose(111115, 0));
        });
        Edge.ofTerms(1, "seed: 0 .. 99999", () -> {
            good("seed 0;", 1);
            good("seed 99999;", 1);
            bad(2, "seed ^100000;");
            KnockBank x = Tell.bank("hand a 0 0 1 1 1 1 1 1;wood o 9 0 a;rap a o 0;seed 99999;law shake 17 * (place = 0);");
            x.days(1);
            due("16 is its first number", 211111, Ask.rap(x, 0, 6));
        });
        Edge.ofTerms(1, "seed: (0)", () -> {
            String shaken = "hand a 5 50 1 1 1 1 1 1;wood o 9 0 a;rap a o 0;rap a o 0;rap a o 0;";
            KnockBank x = Tell.bank(shaken);
            KnockBank y = Tell.bank(shaken + "seed 0;");
            KnockBank z = Tell.bank(shaken + "seed 1;");
            x.days(1);
            y.days(1);
            z.days(1);
            boolean isOther = false;
            for (int rap = 0; rap < 3; rap++) {
                due("heard without", Ask.rap(y, rap, 6), Ask.rap(x, rap, 6));
                isOther |= Ask.rap(z, rap, 6) != Ask.rap(x, rap, 6);
            }
            Check.due("another seed's are others", true, isOther);
        });
    }

    private static void expressions() {
        Edge.ofTerms(1, "E: A { or A }. A: B { and B }", () -> {
            good("law near 1 or 2 or 3 and 4 and 5;", 1);
            bad(1, "law near ^or 1;");
            bad(1, "law near 1 or^;");
            bad(1, "law near ^and 1;");
            bad(1, "law near 1 and^;");
            bad(1, "law near 1 and ^or 2;");
        });
        Edge.ofTerms(1, "B: not B | C", () -> {
            good("law near not not 1 and not 2 or not (not 3);", 1);
            good("law near not 1 < 2;", 1);
            good("law near 1 + (not 2) * (not 3) - (not 4) / (not 0);", 1);
            good("law near 1 < (not 2);", 1);
            bad(1, "law near not^;");
            bad(1, "law near 1 ^not;");
            bad(1, "law near 1 < ^not 2;");
            bad(1, "law near 1 = ^not 2;");
            bad(1, "law near 1 + ^not 2;");
            bad(1, "law near 1 - ^not 2;");
            bad(1, "law near 1 * ^not 2;");
            bad(1, "law near 1 / ^not 2;");
            bad(1, "law near not 1 + ^not 2;");
        });
        Edge.ofTerms(1, "C: S [ ( < | <= | = | <> | >= | > ) S ]", () -> {
            String[] comparing = {"<", "<=", "=", "<>", ">=", ">"};
            for (String first : comparing) {
                good("law near 1" + first + "2;", 1);
                bad(1, "law near ^" + first + "2;");
                bad(1, "law near 1" + first + "^;");
                for (String second : comparing) {
                    bad(1, "law near 1" + first + "2^" + second + "3;");
                    bad(1, "law near 1" + first + "2+2*2^" + second + "3;");
                    good("law near 1" + first + "2 and 2" + second + "3;", 1);
                    good("law near 1" + first + "2 or 2" + second + "3;", 1);
                    good("law near (1" + first + "2)" + second + "3;", 1);
                    good("law near 1" + first + "(2" + second + "3);", 1);
                }
            }
            bad(1, "law near (1 < 2) < 3 ^< 4;");
            bad(1, "law near 1 < (2 < 3) ^< 4;");
            good("law near 1 < 2;law fade 1 < 2;law shake (1 < 2);", 3);
        });
        Edge.ofTerms(1, "S: T { ( + | - ) T }. T: P { ( * | / ) P }", () -> {
            for (String sign : new String[] {"+", "-", "*", "/"}) {
                good("law near 1" + sign + "2" + sign + "3;", 1);
                bad(1, "law near ^" + sign + "1;");
                bad(1, "law near 1" + sign + "^;");
                bad(1, "law near 1" + sign + "^" + sign + "2;");
            }
        });
        Edge.ofTerms(1, "P: N | NAME | '(' E ')'", () -> {
            bad(1, "law near^;");
            bad(1, "law near (^);");
            bad(1, "law near ^);");
            bad(1, "law near 1^);");
            bad(1, "law near (1^;");
            bad(1, "law near (1)^);");
            bad(1, "law near 1 ^2;");
            bad(1, "law near 1 ^(2);");
            bad(1, "law near (1) ^2;");
            bad(1, "law near cold ^cold;");
            bad(1, "law near ^x;");
        });
        Edge.ofTerms(1, "N of E 0 .. 9999", () -> {
            String bank = HAND + WOOD;
            due("0", 0, Tell.bank(bank + "law near 0;").law(1, 0, 0, 0));
            due("9999", 9999, Tell.bank(bank + "law near 9999;").law(1, 0, 0, 0));
            bad(2, "law near ^10000;");
            bad(2, "law near 1 + (^10000);");
        });
        Edge.ofTerms(1, "NAME: cold aged hard beat place raps day", () -> {
            good("law near cold+aged+hard+beat+place+raps+day;", 1);
            for (int word = 0; word < 12; word++) {
                if (!LANGUAGE[word].equals("not")) {
                    bad(1, "law near ^" + LANGUAGE[word] + ";");
                }
            }
        });
        Edge.ofTerms(1, "LAW: shake | near | fade", () -> {
            good("law shake 1;law near 1;law fade 1;", 3);
            for (String word : LANGUAGE) {
                boolean isLaw = word.equals("shake") || word.equals("near") || word.equals("fade");
                if (!isLaw) {
                    bad(1, "law ^" + word + " 1;");
                }
            }
            bad(1, "law ^x 1;");
            bad(1, "law ^1;");
            bad(1, "law^;");
        });
    }

    private static void signs() {
        Edge.ofTerms(1, "A = (or > behind <) right behind < or > belongs to it", () -> {
            good("law near 1<=2;", 1);
            good("law near 1>=2;", 1);
            good("law near 1<>2;", 1);
            bad(1, "law near 1< ^=2;");
            bad(1, "law near 1> ^=2;");
            bad(1, "law near 1<\n^>2;");
            bad(1, "law near 1>^>2;");
            bad(1, "law near 1>^<2;");
            bad(1, "law near 1<^<2;");
            bad(1, "law near 1=^=2;");
            bad(1, "law near 1=^>2;");
            bad(1, "law near 1=^<2;");
            bad(1, "law near 1<>^=2;");
            bad(1, "law near 1<=^>2;");
            bad(1, "law near 1<=^=2;");
            bad(1, "law near 1>=^=2;");
        });
        Edge.ofTerms(1, "signs at the very end", () -> {
            bad(1, "law near 1<^");
            bad(1, "law near 1>^");
            bad(1, "law near 1<=^");
            bad(1, "law near 1<>^");
            KnockBank x = new KnockBank();
            x.feed(0x6c617720, 0x6e656172, 0x20313c3d, 0x323b2020, BLANKS);
            due("a sign behind the length isn't looked at", -1, x.text(11));
            due("the length", 11, x.fault(1));
        });
    }

    private static void faultOne() {
        Edge.ofTerms(1, "1 a TOKEN that is none", () -> {
            bad(1, "^#");
            bad(1, "hand ^# 1 1 1 1 1 1 1 1;");
            bad(1, "law near 1 ^% 2;");
            bad(1, "law near 1 + ^! 2;");
            bad(1, "like 3; ^\u00ff");
        });
        Edge.ofTerms(1, "(a word of more than 6 letters that isn't of the language, too)", () -> {
            bad(1, "^abcdefg");
            bad(1, "hand ^abcdefg 1 1 1 1 1 1 1 1;");
            bad(1, "hand ^shakens 1 1 1 1 1 1 1 1;");
            bad(1, "hand ^" + "a".repeat(600) + " 1 1 1 1 1 1 1 1;");
            bad(1, "law near ^abcdefg;");
        });
        Edge.ofTerms(1, "or can't stand there", () -> {
            bad(1, "^3;");
            bad(1, "^near 3;");
            bad(1, "^x 3;");
            bad(1, "^( 3;");
            bad(1, "like ^like;");
            bad(1, "like ^x;");
            bad(1, "like 3 ^4;");
            bad(1, "seed^;");
            bad(1, HAND + "wood o 1 1 ^1;");
            bad(1, HAND + WOOD + "rap a ^1;");
            bad(1, HAND + WOOD + "rap a o^;");
        });
        Edge.ofTerms(1, "(the length, if more must come)", () -> {
            String[] tokens = ("hand a 1 1 1 1 1 1 1 1 ; wood o 1 1 a ; rap a o 1 ; like 3 ; seed 3 ; "
                + "law shake not ( 1 + cold ) <= 2 and 3 or 4 * 5 ;").split(" ");
            StringBuilder text = new StringBuilder();
            int lines = 0;
            for (String token : tokens) {
                text.append(text.length() == 0 ? "" : " ").append(token);
                if (token.equals(";")) {
                    lines++;
                    good(text.toString(), lines);
                    good(text + " \n", lines);
                } else {
                    bad(1, text + "^");
                    bad(1, text + " \n ^");
                }
            }
        });
    }

    private static void faultTwo() {
        Edge.ofTerms(1, "2 too much (at it): a number beyond what is said", () -> {
            bad(2, HAND + WOOD + "rap a o ^100;");
            bad(2, "hand a 1 1 1 1 1 1 1 ^0;");
            bad(2, "hand a 1 1 1 1 1 1 1   ^5");
        });
        Edge.ofTerms(1, "a seventh hand and so on (at the word of the LINE)", () -> {
            bad(2, many("hand # 1 1 1 1 1 1 1 1;", 6) + "^hand");
            bad(2, many("hand # 1 1 1 1 1 1 1 1;", 6) + " \n ^hand a 10;");
            bad(2, HAND + many("wood # 1 1 a;", 4) + "^wood #");
            bad(2, HAND + WOOD + many("rap a o 1;", 10) + "like 3; ^rap x");
        });
        Edge.ofTerms(1, "a ninth '(' open", () -> {
            good("law near ((((((((1))))))));", 1);
            good("law near " + "((((((((1))))))))+".repeat(9) + "(1);", 1);
            bad(2, "law near ((((((((^(1)))))))));");
            bad(2, "law near (1)+((((((((^(");
            bad(2, "law near ((((((((1+^(1)))))))));");
            good("law near (((((((1)+(1)))))));", 1);
            bad(1, "law near ((((((((^");
            bad(1, "law near 1 ^(((((((((");
        });
        Edge.ofTerms(1, "brackets of one law aren't open in the next", () -> good("law near ((((((((1))))))));"
            + "law fade ((((((((1))))))));", 2));
        Edge.ofTerms(1, "a 65th KNOT of all E", () -> {
            due("64", 64, Tell.bank("law near " + "not ".repeat(63) + "1;").count(3));
            due("64 of three", 64, Tell.bank("law shake " + "not ".repeat(19) + "1;law fade " + "not ".repeat(20)
                + "1;law near " + "not ".repeat(22) + "1;").count(3));
            bad(2, "law near " + "not ".repeat(64) + "^1;");
            bad(2, "law near " + "not ".repeat(64) + "^not 1;");
            bad(2, "law shake " + "not ".repeat(31) + "1;law fade " + "not ".repeat(32) + "^1;");
        });
        Edge.ofTerms(1, "(N, NAMES, signs, not, and, or: one each)", () -> {
            due("N", 1, Tell.bank("law near 9999;").count(3));
            due("NAME", 1, Tell.bank("law near cold;").count(3));
            due("not", 2, Tell.bank("law near not 1;").count(3));
            for (String sign : new String[] {"+", "-", "*", "/", "<", "<=", "=", "<>", ">=", ">", " and ", " or "}) {
                due("sign" + sign, 3, Tell.bank("law near 1" + sign + "1;").count(3));
                bad(2, "law near " + "not ".repeat(63) + "1 ^" + sign.trim() + " 1;");
            }
            due("brackets are none", 1, Tell.bank("law near ((((1))));").count(3));
            for (String name : new String[] {"1", "cold", "not"}) {
                bad(2, "law near " + "not ".repeat(64) + "^" + name + ";");
            }
            bad(2, "law near " + "not ".repeat(64) + "(((^1)));");
        });
    }

    private static void faultsThreeAndFour() {
        Edge.ofTerms(1, "3 told already: a name of its kind (at W)", () -> {
            bad(3, HAND + "hand ^a 1 1 1 1 1 1 1 1;");
            bad(3, HAND + "hand b 1 1 1 1 1 1 1 1;hand ^b 99");
            bad(3, HAND + WOOD + "wood ^o 1 1 a;");
            good(HAND + "wood a 1 1 a;", 2);
        });
        Edge.ofTerms(1, "like, seed (at the word)", () -> {
            bad(3, "like 3;^like 3;");
            bad(3, "like 3;seed 3;^like");
            bad(3, "seed 3;^seed 3;");
            bad(3, "seed 0;like 3;^seed x");
        });
        Edge.ofTerms(1, "a law of its LAW (at LAW)", () -> {
            bad(3, "law near 1;law ^near 1;");
            bad(3, "law shake 1;law ^shake");
            bad(3, "law fade 0;law near 1;law ^fade #");
        });
        Edge.ofTerms(1, "4 a HAND, a WOOD that isn't told ahead (at W)", () -> {
            bad(4, "wood o 1 1 ^a;" + HAND);
            bad(4, HAND + "wood o 1 1 ^o;");
            bad(4, "rap ^a o 1;");
            bad(4, HAND + "rap a ^o 1;" + WOOD);
            bad(4, HAND + WOOD + "rap ^o a 1;");
            bad(4, HAND + WOOD + "rap a ^a 1;");
            bad(4, HAND + WOOD + "rap a ^oo 1;");
        });
        Edge.ofTerms(1, "names of a text that had a FAULT aren't told", () -> {
            KnockBank x = new KnockBank();
            Tell.told(x, HAND + WOOD + "#");
            due("hand untold", -1, Tell.told(x, "wood o 1 1 a;"));
            due("fault", 4, x.fault(0));
            due("told anew", 2, Tell.told(x, HAND + WOOD));
            due("like, seed, law anew", 3, Tell.told(x, "like 3;seed 3;law near 1;"));
            due("and once more", 3, Tell.told(x, "like 3;seed 3;law near 1;"));
        });
    }

    private static void firstFault() {
        Edge.ofTerms(1, "FAULTS, the first along the text", () -> {
            bad(2, "like ^25;like 3;#");
            bad(3, "like 3;^like 25;");
            bad(2, "hand a ^10 # 1 1 1 1 1 1;");
            bad(1, "hand a 9 ^# 5 1 1 1 1 1;");
            bad(4, HAND + "rap ^b p 100;");
            bad(4, HAND + "rap a ^p 100;");
            bad(3, HAND + "hand ^a 10 100;");
            bad(1, "law near 1 < 2 ^< 10000;");
            bad(2, "law near ^10000 < 2 < 3;");
            bad(3, "law near 1;law ^near (((((((((1;");
        });
        Edge.ofTerms(1, "(of one place the least)", () -> {
            bad(1, "law near " + "not ".repeat(64) + "^x;");
            bad(1, "law near " + "not ".repeat(64) + "^;");
            bad(1, "law near " + "not ".repeat(64) + "^<1;");
            bad(1, "law near " + "not ".repeat(61) + "1<1^<1;");
            bad(1, "law near " + "not ".repeat(63) + "1 ^not;");
            bad(1, "law near " + "not ".repeat(62) + "1+^not 1;");
            bad(1, HAND + "wood o 1 1 ^cold;");
            bad(1, HAND + WOOD + "rap ^abcdefg o 1;");
            bad(1, "law near ((((((((1 ^(1)))))))));");
        });
    }
}
