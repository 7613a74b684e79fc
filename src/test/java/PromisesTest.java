/** For each promise of the document: ordinary calls, the edges that it names, and wrong inputs. */
public final class PromisesTest {
    private static final String THREE = "hand a 0 0 1 1 1 1 1 1;hand b 0 0 1 1 1 1 2 2;hand c 9 50 4 4 4 4 4 4;"
        + "wood o 2 0 a;wood p 9 9 b;rap a o 0;rap b p 1;rap c o 0;like 3;seed 0;";
    /** Every rap has its first beat longer: all are void by like 0. */
    private static final String SHAKEN = "like 0;hand a 3 4 1 2 3 4 1 2;hand b 1 0 2 2 3 4 1 2;wood o 1 2 b;wood p 0 3 a;"
        + "law shake 100 * (place = 0);";
    private static final long ERROR = Long.MIN_VALUE;

    private PromisesTest() {
    }

    public static void main(String[] args) {
        newObject();
        tape();
        textSetsAnew();
        textKeepsAllWithAFault();
        faultTells();
        names();
        rapTells();
        handTells();
        woodTells();
        lawIsWorkedOut();
        lawHasErrors();
        lawKnowsItsNames();
        warms();
        orders();
        sells();
        planes();
        daysGoBy();
        daysFade();
        daysDraw();
        lawsAreLimited();
        looksAhead();
        apartAndNearest();
        anew();
        whoseAndAll();
        likelyAndSurest();
        forges();
        places();
        joints();
        holdsAndOwns();
        wills();
        rests();
        fadings();
        overheard();
        coldsOfTheTold();
        chances();
        triedOtherwise();
        undone();
        images();
        counts();
        Check.end("PromisesTest");
    }

    private static void due(String what, long want, long got) {
        Check.due(what, want, got);
    }

    private static void due(String what, boolean want, boolean got) {
        Check.due(what, want, got);
    }

    private static final int BEYOND = Ask.BEYOND;
    private static final int NO_SUCH = Ask.NO_SUCH;

    private static int rap(KnockBank bank, int rap, int what) {
        return Ask.rap(bank, rap, what);
    }

    private static void newObject() {
        KnockBank x = new KnockBank();
        for (int what = 0; what <= 11; what++) {
            due("new count " + what, 0, x.count(what));
        }
        due("new fault", 0, x.fault(0));
        due("new fault's place", -1, x.fault(1));
        due("new tape", -2, x.text(1));
        due("new back", -1, x.back());
        due("new undo", -1, x.undo());
        due("new text of nothing", 0, x.text(0));
        due("new feed", 20, x.feed(0, 0, 0, 0, 0));
        due("NONE", -1, KnockBank.NONE);
    }

    private static void tape() {
        KnockBank x = new KnockBank();
        for (int i = 1; i <= 35; i++) {
            due("feed " + i, 20 * i, x.feed(0x20202020, 0x20200a20, 0x20202020, 0x20202020, 0x20202020));
        }
        due("feed beyond 700", -1, x.feed(0x20202020, 0x20202020, 0x20202020, 0x20202020, 0x20202020));
        due("text beyond", -2, x.text(701));
        due("none came", 0, x.text(700));
        due("tape is empty", -2, x.text(1));
        x.feed(0x6c696b65, 0x2032343b, 0x73656564, 0x20313b23, 0x80ff0000);
        due("highest byte first", 2, x.text(15));
        x.feed(0x6c696b65, 0x2032343b, 0x80ff0000, 0, 0);
        due("a byte above 127", -1, x.text(9));
        due("its fault", 1, x.fault(0));
        due("its place", 8, x.fault(1));
    }

    private static void textSetsAnew() {
        KnockBank x = Tell.bank(THREE);
        x.hear(0, 0, true);
        x.known(0);
        x.days(1);
        x.warm(0, 5);
        x.keep();
        x.feed(0x20202020, 0x20202020, 0x20202020, 0x20202020, 0x20202020);
        due("text below 0", -2, x.text(-1));
        due("text beyond the tape", -2, x.text(21));
        due("stays with -2", 1, x.count(4));
        due("a fault of -2 isn't told", 0, x.fault(0));
        due("the tape stays", 40, x.feed(0x20202020, 0x20202020, 0x20202020, 0x20202020, 0x20202020));
        x.text(0);
        due("no lines", 0, x.count(0));
        due("lines", 10, Tell.told(x, THREE));
        due("day", 0, x.count(4));
        due("not rapped", 0, rap(x, 0, 3));
        due("bound", 0, x.count(5));
        due("overheard", 0, x.count(9));
        due("known", 0, x.count(10));
        due("undo", -1, x.undo());
        due("image", -1, x.back());
        due("cold", 0, x.hand(0, 0));
        x.hear(2, 0, true);
        due("all known", 992, x.colds(2));
        x.days(1);
        due("drawn from the seed again", 554545, rap(x, 2, 6));
    }

    private static void textKeepsAllWithAFault() {
        KnockBank x = Tell.bank(THREE);
        x.days(1);
        x.keep();
        x.warm(0, 5);
        x.hear(2, 0, true);
        due("text with a fault", -1, Tell.told(x, "hand a 1 1 1 1 1 1 1 1;hand b 0 0 1 1 1 1 1 5;"));
        due("tape is empty", -2, x.text(1));
        due("hands", 3, x.count(0));
        due("knock", 111122, x.hand(1, 2));
        due("cold", 5, x.hand(0, 0));
        due("overheard", 1, x.count(9));
        due("undo", 0, x.undo());
        due("image", 1, x.back());
        due("fault", 2, x.fault(0));
        due("text of blanks", 0, Tell.told(x, " \n "));
        due("no fault", 0, x.fault(0));
        due("no place", -1, x.fault(1));
        due("no hands", 0, x.count(0));
    }

    private static void faultTells() {
        KnockBank x = new KnockBank();
        Tell.told(x, "like 3;like");
        due("fault", 3, x.fault(0));
        due("place", 7, x.fault(1));
        due("fault 2", -1, x.fault(2));
        due("fault -1", -1, x.fault(-1));
        due("text beyond", -2, x.text(1));
        due("fault stays", 3, x.fault(0));
    }

    private static void names() {
        KnockBank x = Tell.bank("hand zz 0 0 1 1 1 1 1 1;hand abcdef 0 0 1 1 1 1 1 1;wood o 1 1 zz;wood zz 1 1 zz;");
        due("first hand", 0, x.named(0, Tell.letters("zz")));
        due("six letters", 1, x.named(0, Tell.letters("abcdef")));
        due("a is 1, first highest", 1, x.named(0, 1 << 25 | 2 << 20 | 3 << 15 | 4 << 10 | 5 << 5 | 6));
        due("wood of a hand's name", 1, x.named(1, Tell.letters("zz")));
        due("wood", 0, x.named(1, Tell.letters("o")));
        due("no hand", -1, x.named(0, Tell.letters("o")));
        due("part of a name", -1, x.named(0, Tell.letters("abcde")));
        due("no wood", -1, x.named(1, Tell.letters("abcdef")));
        due("no letters", -1, x.named(0, 0));
        due("no kind", -1, x.named(2, Tell.letters("zz")));
        due("no kind below", -1, x.named(-1, Tell.letters("zz")));
        due("higher bits", -1, x.named(0, Tell.letters("zz") | 1 << 30));
    }

    private static void rapTells() {
        KnockBank x = Tell.bank(THREE);
        due("rap -1", BEYOND, rap(x, -1, 0));
        due("rap 3", BEYOND, rap(x, 3, 0));
        due("no rap, no what", BEYOND, rap(x, 3, 9));
        due("what 7", NO_SUCH, rap(x, 2, 7));
        due("what -1", NO_SUCH, rap(x, 2, -1));
        due("hand", 2, rap(x, 2, 0));
        due("wood", 1, rap(x, 1, 1));
        due("day", 1, rap(x, 1, 2));
        x.days(1);
        due("bound", 1, rap(x, 0, 3));
        due("to whom", 0, rap(x, 0, 4));
        due("void", 2, rap(x, 2, 3));
        due("to nobody", -1, rap(x, 2, 4));
        due("not rapped", 0, rap(x, 1, 3));
        due("not heard", 0, rap(x, 1, 6));
        due("heard", 111111, rap(x, 0, 6));
        due("not faded", 0, rap(x, 0, 5));
        x.days(3);
        due("faded", 1, rap(x, 0, 5));
        due("still bound", 1, rap(x, 0, 3));
        due("still to whom", 0, rap(x, 0, 4));
        due("still heard", 554545, rap(x, 2, 6));
        due("void and faded", 1, rap(x, 2, 5));
    }

    private static void handTells() {
        KnockBank x = Tell.bank("like 1;hand a 3 44 1 2 3 4 1 2;hand b 0 0 1 2 3 4 1 2;wood o 0 0 b;"
            + "rap b o 0;rap b o 1;rap a o 9;");
        due("cold", 3, x.hand(0, 0));
        due("aged", 44, x.hand(0, 1));
        due("knock", 123412, x.hand(0, 2));
        due("what 5", -1, x.hand(0, 5));
        due("what -1", -1, x.hand(0, -1));
        due("hand 2", -1, x.hand(2, 0));
        due("hand -1", -1, x.hand(-1, 0));
        x.days(5);
        due("rapped", 2, x.hand(1, 3));
        due("bound to b", 0, x.hand(1, 4));
        due("bound to a, faded too", 2, x.hand(0, 4));
        due("a did not rap", 0, x.hand(0, 3));
        due("wrong", 2, x.count(7));
    }

    private static void woodTells() {
        KnockBank x = Tell.bank(THREE);
        due("keeps", 2, x.wood(0, 0));
        due("hard", 9, x.wood(1, 1));
        due("owner", 1, x.wood(1, 2));
        due("nothing rapped", 0, x.wood(0, 3));
        due("what 4", -1, x.wood(0, 4));
        due("what -1", -1, x.wood(0, -1));
        due("wood 2", -1, x.wood(2, 0));
        due("wood -1", -1, x.wood(-1, 0));
        x.days(3);
        due("void ones too", 2, x.wood(0, 3));
        x.days(1);
        due("faded", 0, x.wood(0, 3));
        due("not faded", 1, x.wood(1, 3));
    }

    private static void worth(String law, long want) {
        KnockBank x = Tell.bank("hand a 1 2 1 2 3 4 1 2;wood o 5 6 a;law near " + law + ";");
        due("law " + law, want, x.law(1, 0, 0, 7));
    }

    private static void lawIsWorkedOut() {
        worth("1 + 2 * 3", 7);
        worth("2 - 3 - 4", -5);
        worth("80 / 4 / 5", 4);
        worth("2 * 9 / 4 * 3", 12);
        worth("(0 - 7) / 2", -3);
        worth("7 / (0 - 2)", -3);
        worth("7 and 2", 1);
        worth("7 and 0", 0);
        worth("0 or 0 - 3", 1);
        worth("not 5", 0);
        worth("not 0", 1);
        worth("not not 3", 1);
        worth("1 or 0 and 0", 1);
        worth("not 0 = 1", 1);
        worth("not 1 or 1", 1);
        worth("not 1 and 0", 0);
        worth("not 0 + 1", 0);
        worth("2 < 3 + 1", 1);
        worth("3 < 3", 0);
        worth("3<=3", 1);
        worth("4 <= 3", 0);
        worth("3 = 3", 1);
        worth("3 <> 3", 0);
        worth("3 <> 4", 1);
        worth("3 >= 4", 0);
        worth("4 >= 4", 1);
        worth("4 > 4", 0);
        worth("5 > 4", 1);
        worth("(5 > 4) + (1 < 2) * 10", 11);
        worth("1 < 2 and 2 < 3", 1);
        worth("((((((((1 < 2))))))))", 1);
        worth("(1)+(2)-(3)*(4)", -9);
        worth("9999", 9999);
        worth("0007", 7);
        worth("1 < (not 0)", 0);
        worth("0 or 0", 0);
        worth("not ".repeat(63) + "7", 0);
        worth("not ".repeat(62) + "7", 1);
        worth("(((((((( " + "not ".repeat(62) + "0 ))))))))", 0);
        worth("not ".repeat(30) + "1 < (1 + (1 + (1 + (1 + (1 + (1 + (1 + (1)))))))) ", 1);
    }

    private static void lawHasErrors() {
        worth("1 / 0", ERROR);
        worth("1 or 1 / 0", ERROR);
        worth("0 and 1 / 0", ERROR);
        worth("not (1 / 0)", ERROR);
        worth("0 * (1 / 0)", ERROR);
        worth("1000 * 1000 * 1000 * 1000", 1000000000000L);
        worth("1000 * 1000 * 1000 * 1000 + 1", ERROR);
        worth("1000 * 1000 * 1000 * 1000 + 1 - 1", ERROR);
        worth("0 - 1000 * 1000 * 1000 * 1000", -1000000000000L);
        worth("0 - 1000 * 1000 * 1000 * 1000 - 1", ERROR);
        worth("(0 - 1000 * 1000 * 1000) * 1001", ERROR);
        worth("1000 * 1000 * 1000 * 999 + 1000 * 1000 * 1000", 1000000000000L);
        worth("0 - 1000 * 1000 * 1000 * 999 + (0 - 1000 * 1000 * 1000)", -1000000000000L);
        worth("0 - 1000 * 1000 * 1000 * 999 + (0 - 1000 * 1000 * 1001)", ERROR);
        worth("1000 * 1000 * 1000 * 999 - (0 - 1000 * 1000 * 1000)", 1000000000000L);
        worth("1000 * 1000 * 1000 * 999 - (0 - 1000 * 1000 * 1001)", ERROR);
        worth("0 - 1000 * 1000 * 1000 * 500 + 1000 * 1000 * 1000 * 600", 100000000000L);
        worth("1000 * 1000 * 1000 * 600 - 1000 * 1000 * 1000 * 600", 0);
        worth("4096 * 4096 * 256 * (4096 * 4096 * 256)", ERROR);
        worth("(1000 * 1000 * 1000 * 1000) * (1000 * 1000 * 1000 * 1000)", ERROR);
        worth("0 * (1000 * 1000 * 1000 * 1000)", 0);
        worth("1000 * 1000 * 1000 * 1000 / (0 - 1)", -1000000000000L);
        KnockBank x = Tell.bank(THREE);
        due("untold law", ERROR, x.law(0, 0, 0, 0));
        due("untold near", ERROR, x.law(1, 0, 0, 0));
        due("untold fade", ERROR, x.law(2, 0, 0, 0));
    }

    private static void lawKnowsItsNames() {
        String hands = "hand a 1 23 4 3 2 1 4 3;hand b 5 67 1 1 1 1 1 1;wood o 5 6 a;wood p 5 8 a;rap b o 0;rap b p 1;";
        KnockBank x = Tell.bank(hands + "law shake beat * 10 + place;law near beat * 10 + place;law fade beat * 10 + place;");
        due("beat as told", 40, x.law(0, 0, 0, 0));
        due("last beat", 35, x.law(0, 0, 0, 5));
        due("place 6", ERROR, x.law(0, 0, 0, 6));
        due("place -1", ERROR, x.law(0, 0, 0, -1));
        due("near by how far", 300, x.law(1, 0, 0, 30));
        due("near by 0", 0, x.law(1, 0, 0, 0));
        due("near by 31", ERROR, x.law(1, 0, 0, 31));
        due("near by -1", ERROR, x.law(1, 0, 0, -1));
        due("fade without", 0, x.law(2, 0, 0, 5));
        due("fade looks at no place", 0, x.law(2, 0, 0, -77));
        due("what 3", ERROR, x.law(3, 0, 0, 0));
        due("what -1", ERROR, x.law(-1, 0, 0, 0));
        due("hand 2", ERROR, x.law(0, 2, 0, 0));
        due("hand -1", ERROR, x.law(2, -1, 0, 0));
        due("wood 2", ERROR, x.law(1, 0, 2, 0));
        due("wood -1", ERROR, x.law(1, 0, -1, 0));
        x = Tell.bank(hands + "law shake cold * 1000 + aged - 2000;law near hard * 1000 + raps * 100 + day;"
            + "law fade hard * 1000 + raps * 100 + day;");
        due("cold, aged, as it is", 1000 + 23 - 2000, x.law(0, 0, 0, 0));
        due("of the other", 5000 + 67 - 2000, x.law(0, 1, 0, 0));
        due("hard", 8000, x.law(1, 0, 1, 0));
        x.warm(0, 9);
        due("warmed", 9000 + 23 - 2000, x.law(0, 0, 0, 0));
        x.days(2);
        due("raps, day", 6202, x.law(1, 1, 0, 0));
        due("raps of that hand", 6002, x.law(2, 0, 0, 0));
        due("fade's", 8202, x.law(2, 1, 1, 0));
    }

    private static void warms() {
        KnockBank x = Tell.bank(THREE);
        due("warm", true, x.warm(2, 0));
        due("so", 0, x.hand(2, 0));
        due("it is so", false, x.warm(2, 0));
        due("10", false, x.warm(2, 10));
        due("-1", false, x.warm(2, -1));
        due("no hand", false, x.warm(3, 1));
        due("hand -1", false, x.warm(-1, 1));
        due("9", true, x.warm(2, 9));
        due("two to undo", 2, x.count(11));
    }

    private static void orders() {
        KnockBank x = Tell.bank(THREE);
        due("no rap", false, x.order(3, 0, 5));
        due("rap -1", false, x.order(-1, 0, 5));
        due("no wood", false, x.order(0, 2, 5));
        due("wood -1", false, x.order(0, -1, 5));
        due("day -1", false, x.order(0, 0, -1));
        due("day 10000", false, x.order(0, 0, 10000));
        due("it is so", false, x.order(0, 0, 0));
        due("other wood alone", true, x.order(0, 1, 0));
        due("wood", 1, rap(x, 0, 1));
        due("other day alone", true, x.order(0, 1, 9999));
        due("day", 9999, rap(x, 0, 2));
        x.days(1);
        due("rapped", false, x.order(2, 1, 5));
        due("yesterday", false, x.order(1, 1, 0));
        due("today", true, x.order(1, 0, 1));
        due("back to today", true, x.order(0, 0, 1));
        x.days(1);
        due("rapped as ordered", 1, rap(x, 0, 3));
        due("on that wood", 3, x.wood(0, 3));
    }

    private static void sells() {
        KnockBank x = Tell.bank(THREE);
        due("no wood", false, x.sell(2, 0));
        due("wood -1", false, x.sell(-1, 0));
        due("no hand", false, x.sell(0, 3));
        due("hand -1", false, x.sell(0, -1));
        due("owns it", false, x.sell(0, 0));
        due("nothing to undo", 0, x.count(11));
        due("sold", true, x.sell(0, 2));
        due("owner", 2, x.wood(0, 2));
        due("owns it now", false, x.sell(0, 2));
    }

    private static void planes() {
        KnockBank x = Tell.bank(THREE);
        due("no wood", -1, x.plane(2));
        due("wood -1", -1, x.plane(-1));
        due("nothing rapped", 0, x.plane(0));
        due("planed all the same", 1, x.count(11));
        x.days(2);
        due("two", 2, x.plane(0));
        due("faded", 1, rap(x, 0, 5));
        due("void one too", 1, rap(x, 2, 5));
        due("the other wood isn't", 0, rap(x, 1, 5));
        due("no more", 0, x.plane(0));
        due("hard stays", 0, x.wood(0, 1));
    }

    private static void daysGoBy() {
        KnockBank x = Tell.bank(THREE);
        due("-1", -1, x.days(-1));
        due("100", -1, x.days(100));
        due("0", 0, x.days(0));
        due("nothing rapped by 0", 0, rap(x, 0, 3));
        x.warm(0, 7);
        x.days(0);
        due("no day went by", 1, x.count(11));
        due("99", 99, x.days(99));
        due("a day went by", 0, x.count(11));
        for (int i = 2; i <= 100; i++) {
            x.days(99);
        }
        due("9900", 9900, x.count(4));
        due("behind 9900", -1, x.days(1));
        due("none did", 9900, x.days(0));
        due("ordered behind", false, x.order(0, 0, 9999));
        x = Tell.bank("hand a 0 0 1 1 1 1 1 1;hand b 0 0 1 1 1 1 1 1;wood o 99 0 a;rap b o 1;rap a o 1;rap b o 0;"
            + "rap a o 1;law near 3 * (raps = 0);law shake 100 * (place = 0);");
        x.days(1);
        due("its day alone", 0, rap(x, 0, 3));
        due("bound to the first alike", 0, rap(x, 2, 4));
        due("wrong", 1, x.count(7));
        x.days(1);
        due("by the raps of the hand that is nearest", 1, rap(x, 0, 3));
        due("this one isn't counted yet", 1, rap(x, 1, 3));
        due("by numbers: a has rapped then", 2, rap(x, 3, 3));
        due("rapped by a", 2, x.hand(0, 3));
        due("rapped by b", 2, x.hand(1, 3));
    }

    private static void daysFade() {
        KnockBank x = Tell.bank("hand a 0 0 1 1 1 1 1 1;wood o 0 0 a;wood p 1 0 a;rap a o 0;rap a p 0;");
        x.days(1);
        due("not on its day", 0, x.count(8));
        x.days(1);
        due("keeps 0", 1, rap(x, 0, 5));
        due("keeps 1", 0, rap(x, 1, 5));
        x.days(1);
        due("behind 1", 1, rap(x, 1, 5));
        x = Tell.bank("hand a 2 0 1 1 1 1 1 1;hand b 0 0 4 4 4 4 4 4;wood o 0 3 b;rap a o 0;rap b o 1;law fade cold;");
        due("by who rapped", 2, x.fading(3));
        due("by who rapped, later", 3, x.fading(4));
        x = Tell.bank("hand a 2 0 1 1 1 1 1 1;wood o 1 3 a;rap a o 0;rap a o 3;law fade 5 - 4 * raps;");
        x.days(2);
        due("raps so far: 1", 0, x.count(8));
        x.days(1);
        due("more than 1 day", 1, x.count(8));
        x = Tell.bank("hand a 2 0 1 1 1 1 1 1;wood o 1 3 a;rap a o 0;law fade 100 / (day - 2);");
        x.days(2);
        due("below 0 is 0", 1, x.count(8));
        x = Tell.bank("hand a 2 0 1 1 1 1 1 1;wood o 1 3 a;rap a o 0;law fade 5 / (day < 2);");
        x.days(2);
        due("5 days", 0, x.count(8));
        x.days(1);
        due("keeps with an error", 1, x.count(8));
        x = Tell.bank("hand a 2 0 1 1 1 1 1 1;wood o 1 3 a;rap a o 0;law fade 9999;");
        x.days(99);
        x.days(1);
        due("99 days at most", 0, x.count(8));
        x.days(1);
        due("behind 99", 1, x.count(8));
        x = Tell.bank("hand a 2 0 1 1 1 1 1 1;wood o 1 3 a;rap a o 0;law fade 90 * (day > 3);");
        x.days(4);
        due("faded stays so", 1, x.count(8));
        x.days(9);
        due("faded stays so later", 1, x.count(8));
    }

    /** Numbers modulo 100 from 99999 on: 16 81 64 9 83 35 1 95 35 21 25 86. */
    private static void daysDraw() {
        KnockBank x = Tell.bank("hand a 5 50 1 2 3 4 1 2;wood o 9 0 a;wood p 9 2 a;rap a o 0;rap a p 1;seed 99999;");
        x.days(2);
        due("50 above the number", 223513, rap(x, 0, 6));
        due("40 above the number", 224522, rap(x, 1, 6));
        x = Tell.bank("hand a 5 50 1 2 3 4 1 2;wood o 9 0 a;rap a o 0;rap a o 0;seed 99999;"
            + "law shake 100 * (place = 1) + 16 * (place = 2) + 50 * (place = 4);");
        x.days(1);
        due("0 and 100 draw none; 16 isn't above 16", 133412, rap(x, 0, 6));
        due("numbers go on", 133422, rap(x, 1, 6));
        x = Tell.bank("hand a 5 50 1 2 3 4 1 2;wood o 9 0 a;rap a o 0;rap a o 1;seed 99999;"
            + "law shake 50 * (place = 4);");
        x.ahead(5, 0);
        x.chance(3, 5, 0);
        x.tried(0, 0, 5);
        x.days(1);
        due("the first number is 16", 123422, rap(x, 0, 6));
        x.days(1);
        due("the second one is 81", 123412, rap(x, 1, 6));
    }

    private static void lawsAreLimited() {
        String one = "like 6;hand a 0 0 1 1 1 1 1 1;wood o 9 0 a;rap a o 0;";
        KnockBank x = Tell.bank(one + "law shake 9999;law near 0 - 3;");
        x.days(1);
        due("all longer", 222222, rap(x, 0, 6));
        due("near is 0 at least", 2, rap(x, 0, 3));
        due("within 0", 0, x.whose(111111, 0));
        due("never", 0, x.likely(0, 0, 0));
        due("never, below", 1, x.likely(0, 0, 1));
        x = Tell.bank(one + "law shake 0 - 9999;law near 9999;");
        x.days(1);
        due("none longer", 111111, rap(x, 0, 6));
        due("near is 30 at most", 0, x.whose(555555, 0));
        due("surely", 1, x.likely(0, 0, 0));
        x = Tell.bank(one + "law near 1 / beat;");
        due("error at 0: like", 0, x.whose(111111, 0));
        due("1 within 1", 0, x.whose(211111, 0));
        due("2 not within 0", -2, x.whose(221111, 0));
        x = Tell.bank("hand a 9 99 1 1 1 1 1 1;hand b 0 4 1 1 1 1 1 1;wood o 9 0 a;wood p 9 1 a;law shake 1 / 0;");
        due("error: 72 and 19", 9 * 9 * 9 * 9 * 9 * 9L, x.likely(0, 0, 0));
        due("error: 72 and 19, below", 1000000000000L, x.likely(0, 0, 1));
        due("aged 4 by 5 is 0", 1, x.likely(1, 0, 0));
        due("0 at least", 1, x.likely(1, 1, 0));
    }

    private static void looksAhead() {
        String text = SHAKEN + "rap a o 0;rap b o 1;rap a p 1;rap b p 5;";
        KnockBank x = Tell.bank(text);
        due("a is heard as b", 1, x.ahead(1, 0));
        due("wrong", 1, x.ahead(1, 2));
        due("b's first is 3: void", 1, x.ahead(2, 1));
        due("bound in two days", 2, x.ahead(2, 0));
        due("wrong in two days", 2, x.ahead(2, 2));
        due("in six days void", 2, x.ahead(6, 1));
        due("0 days", 0, x.ahead(0, 0));
        due("keeps 1 and keeps 0: on day 2", 2, x.ahead(3, 3));
        due("the third one on day 3", 3, x.ahead(4, 3));
        due("n 100", -1, x.ahead(100, 0));
        due("n -1", -1, x.ahead(-1, 0));
        due("what 4", -1, x.ahead(1, 4));
        due("what -1", -1, x.ahead(1, -1));
        due("n 99", 2, x.ahead(99, 1));
        due("nothing happened", 0, x.count(4));
        due("nothing rapped", 0, rap(x, 0, 3));
        x.days(4);
        due("bound more", 0, x.ahead(5, 0));
        due("void more", 1, x.ahead(5, 1));
        due("faded now", 3, x.count(8));
        due("faded then, not only more", 3, x.ahead(0, 3));
        due("faded then", 4, x.ahead(5, 3));
        x = Tell.bank("like 0;hand a 0 0 1 1 1 1 1 1;wood o 1 0 a;rap a o 0;law shake 49 + place;");
        due("49 isn't, 50 is longer", -2, x.will(0, 1));
        x = Tell.bank("like 0;hand a 0 0 1 1 1 1 1 1;hand b 0 0 1 2 2 2 2 2;wood o 1 0 a;rap a o 0;law shake 49 + place;");
        due("bound to 122222", 0, x.will(1, 1));
    }

    private static void apartAndNearest() {
        KnockBank x = Tell.bank("hand a 0 0 1 2 3 4 1 2;hand b 0 0 4 3 2 1 4 3;hand c 0 0 1 2 3 4 2 2;hand d 0 0 1 2 3 4 2 3;");
        due("apart", 3 + 1 + 1 + 3 + 3 + 1, x.apart(0, 1));
        due("the other way", 12, x.apart(1, 0));
        due("from itself", 0, x.apart(1, 1));
        due("hand 4", -1, x.apart(0, 4));
        due("hand -1", -1, x.apart(-1, 0));
        due("the first of several", 0, x.nearest(0));
        due("the second one", 2, x.nearest(1));
        due("how far", 1, x.nearest(2));
        due("what 3", -1, x.nearest(3));
        due("what -1", -1, x.nearest(-1));
        x = Tell.bank("hand a 0 0 1 2 3 4 1 2;");
        due("no two", -2, x.nearest(0));
        due("no two, how far", -2, x.nearest(2));
        due("no two, what 3", -1, x.nearest(3));
        x = Tell.bank("hand a 0 0 1 2 3 4 1 2;hand b 0 0 4 3 2 1 4 3;hand c 0 0 4 3 2 1 4 3;");
        due("alike", 1, x.nearest(0));
        due("alike ones", 2, x.nearest(1));
        due("alike: 0", 0, x.nearest(2));
    }

    private static void anew() {
        KnockBank x = Tell.bank("hand a 0 0 1 1 1 1 1 1;");
        due("farthest from one", 444444, x.anew(0));
        due("how far", 18, x.anew(1));
        x = Tell.bank("hand a 0 0 1 1 1 1 1 1;hand b 0 0 4 4 4 4 4 4;");
        due("the first by beats", 111444, x.anew(0));
        due("how far from both", 9, x.anew(1));
        due("what 2", -1, x.anew(2));
        due("what -1", -1, x.anew(-1));
        Tell.told(x, "hand a 0 0 4 4 4 4 4 4;");
        due("by the text now", 111111, x.anew(0));
        Tell.told(x, "hand a 0 0 2 2 2 2 2 2;hand a");
        due("by the text that stayed", 18, x.anew(1));
        Tell.told(x, "");
        due("without hands", 111111, x.anew(0));
        due("24 without hands", 24, x.anew(1));
    }

    private static void whoseAndAll() {
        KnockBank x = Tell.bank("hand a 0 0 1 2 3 4 1 2;hand b 2 0 1 2 3 4 1 4;wood o 1 0 a;wood p 1 3 a;"
            + "law near cold - hard + beat;law shake 0;");
        due("the first of several is a", -2, x.whose(123413, 1));
        due("a on the soft wood", 0, x.whose(123413, 0));
        due("b", 1, x.whose(123414, 0));
        due("b by beat", 1, x.whose(123415, 0));
        due("a on the hard wood: beat - 3", -2, x.whose(123411, 1));
        due("as told, 0 within 0", 0, x.whose(123412, 1));
        due("wood 2", -1, x.whose(123412, 2));
        due("wood -1", -1, x.whose(123412, -1));
        due("a 0", -1, x.whose(123402, 0));
        due("a 6", -1, x.whose(623412, 0));
        due("five digits", -1, x.whose(12341, 0));
        due("seven digits", -1, x.whose(1123412, 0));
        due("below 0", -1, x.whose(-123412, 0));
        due("least int", -1, x.whose(Integer.MIN_VALUE, 0));
        due("all: as told", 1, x.all(123412));
        due("all: a with a longer one", 1, x.all(223413));
        due("all: b", 2, x.all(123515));
        due("all: two longer", 0, x.all(323412));
        due("all: shorter", 0, x.all(113412));
        due("all: a 0", -1, x.all(123410));
        due("all: a 6", -1, x.all(123416));
        due("all: below 0", -1, x.all(-123412));
        x = Tell.bank("hand a 0 0 1 1 1 1 1 1;hand b 0 0 2 2 2 2 2 2;");
        due("all: both", 3, x.all(222222));
        due("all: 5", 0, x.all(555555));
    }

    private static void likelyAndSurest() {
        KnockBank x = Tell.bank("hand a 0 0 1 2 3 4 1 2;hand b 5 50 1 2 3 4 1 4;wood o 1 0 a;wood p 1 9 a;wood q 1 9 a;");
        due("half each", 1, x.likely(1, 0, 0));
        due("1 of 64", 64, x.likely(1, 0, 1));
        due("95 of 100 each", 19L * 19 * 19 * 19 * 19 * 19, x.likely(1, 1, 0));
        due("95 of 100 each, below", 64000000, x.likely(1, 1, 1));
        due("what 2", -1, x.likely(1, 1, 2));
        due("what -1", -1, x.likely(1, 1, -1));
        due("hand 2", -1, x.likely(2, 1, 0));
        due("hand -1", -1, x.likely(-1, 1, 0));
        due("wood 3", -1, x.likely(1, 3, 0));
        due("wood -1", -1, x.likely(1, -1, 0));
        due("surest, the first of several", 1, x.surest(1));
        due("all sure", 0, x.surest(0));
        due("hand 2", -1, x.surest(2));
        due("hand -1", -1, x.surest(-1));
        x = Tell.bank("hand a 0 0 1 2 3 4 1 2;");
        due("no woods", -2, x.surest(0));
        due("no hand, no woods", -1, x.surest(1));
        x = Tell.bank("hand a 0 0 1 2 3 4 1 2;wood o 1 0 a;wood p 1 9 a;rap a o 0;law shake hard * 5 + place + raps * 60 * (hard = 0);");
        due("soft", 0, x.surest(0));
        x.days(1);
        due("by raps so far", 1, x.surest(0));
        x = Tell.bank("hand a 0 0 1 2 3 4 1 2;wood o 1 0 a;law shake 100;");
        due("never all", 0, x.surest(0));
    }

    private static void forges() {
        KnockBank x = Tell.bank(THREE);
        due("fewest", 5, x.forge(2, 0, 1, 0));
        due("the first by beats", 111114, x.forge(2, 0, 1, 1));
        due("itself", -1, x.forge(0, 0, 0, 0));
        due("hand 3", -1, x.forge(3, 0, 0, 0));
        due("other 3", -1, x.forge(0, 3, 0, 0));
        due("hand -1", -1, x.forge(-1, 0, 0, 0));
        due("other -1", -1, x.forge(0, -1, 0, 0));
        due("wood 2", -1, x.forge(0, 1, 2, 0));
        due("wood -1", -1, x.forge(0, 1, -1, 0));
        due("what 2", -1, x.forge(0, 1, 0, 2));
        due("what -1", -1, x.forge(0, 1, 0, -1));
        x = Tell.bank("hand a 0 0 1 1 1 1 1 1;hand b 0 0 1 1 1 1 1 1;wood o 1 0 a;");
        due("taken already", 0, x.forge(1, 0, 0, 0));
        due("as it is", 111111, x.forge(1, 0, 0, 1));
        due("by none", -2, x.forge(0, 1, 0, 0));
        due("by no knock", -2, x.forge(0, 1, 0, 1));
        x = Tell.bank("like 24;hand a 0 0 1 1 1 1 1 1;hand b 9 0 4 4 4 4 4 4;wood o 1 0 a;wood p 1 5 a;law near cold * hard;");
        due("a by itself on the soft wood", 6, x.forge(1, 0, 0, 0));
        due("b as told alone", 6, x.forge(0, 1, 0, 0));
        due("b within 45", 4, x.forge(0, 1, 1, 0));
        due("b within 30, the first by beats", 112444, x.forge(0, 1, 1, 1));
    }

    private static void places() {
        KnockBank x = Tell.bank("hand a 0 0 1 1 1 1 1 1;");
        due("one", 0, x.places());
        Tell.told(x, "hand a 0 0 1 1 1 1 1 1;hand b 0 0 2 1 1 1 1 1;hand c 0 0 1 2 1 1 1 1;hand d 0 0 2 2 1 1 1 1;");
        due("two places", 3, x.places());
        Tell.told(x, "hand a 0 0 1 1 1 1 1 1;hand b 0 0 2 1 1 1 1 2;");
        due("the least of several", 1, x.places());
        Tell.told(x, "hand a 0 0 1 1 1 1 1 1;hand b 0 0 1 1 1 1 1 2;");
        due("the last place", 32, x.places());
        Tell.told(x, "hand a 0 0 1 1 1 1 1 1;hand b 0 0 1 2 1 1 1 2;hand c 0 0 1 1 1 1 1 1;");
        due("one knock twice", -2, x.places());
        Tell.told(x, "hand a 0 0 1 1 1 1 1 1;hand b 0 0 2 2 1 1 1 2;hand c 0 0 1 2 1 1 1 3;");
        due("fewer before lesser", 32, x.places());
    }

    private static void joints() {
        KnockBank x = Tell.bank("hand a 0 0 1 1 1 1 1 1;hand b 0 0 1 1 1 1 1 1;hand c 0 0 2 1 1 1 1 1;hand d 0 0 1 1 1 1 1 2;");
        due("of two alike", 1, x.joint(3, 6));
        due("in their order", 0, x.joint(3, 0));
        due("then", 1, x.joint(3, 1));
        due("not so many", -2, x.joint(3, 2));
        due("not so many, 5", -2, x.joint(3, 5));
        due("a c d b: one is masked", 1, x.joint(15, 6));
        due("first", 0, x.joint(15, 0));
        due("second", 2, x.joint(15, 1));
        due("third", 3, x.joint(15, 2));
        due("fourth", 1, x.joint(15, 3));
        due("one", 3, x.joint(8, 0));
        due("one masks none", 0, x.joint(8, 6));
        due("c d", 0, x.joint(5, 6));
        due("none", 0, x.joint(0, 6));
        due("none at all", -2, x.joint(0, 0));
        due("no such hands", -1, x.joint(16, 0));
        due("below 0", -1, x.joint(-1, 0));
        due("what 7", -1, x.joint(3, 7));
        due("what -1", -1, x.joint(3, -1));
    }

    private static void holdsAndOwns() {
        KnockBank x = Tell.bank(THREE);
        x.days(2);
        due("holds", 1, x.holds(0));
        due("holds on p", 1, x.holds(1));
        due("holds nothing", 0, x.holds(2));
        due("hand 3", -1, x.holds(3));
        due("hand -1", -1, x.holds(-1));
        due("owns", 1, x.owns(0));
        due("owns p", 2, x.owns(1));
        x.sell(1, 2);
        x.sell(0, 2);
        due("owns both", 3, x.owns(2));
        due("owns none", 0, x.owns(0));
        due("owns 3", -1, x.owns(3));
        due("owns -1", -1, x.owns(-1));
        due("holds what was sold", 2, x.holds(2));
        due("holds no more", 0, x.holds(0));
        x.plane(0);
        due("faded aren't held", 1, x.holds(2));
        due("own a", 1, x.own(0));
        due("own b", 2, x.own(1));
        due("own c: void", 0, x.own(2));
        due("own 3", -1, x.own(3));
        due("own -1", -1, x.own(-1));
        x = Tell.bank(SHAKEN + "rap a o 0;rap b o 0;");
        x.days(1);
        due("wrong isn't own", 0, x.own(0) + x.own(1));
        due("wrong is held by the owner", 1, x.holds(1));
    }

    private static void wills() {
        KnockBank x = Tell.bank("like 0;hand a 0 0 1 1 1 1 1 1;hand b 0 0 4 4 4 4 4 4;wood o 99 0 a;wood p 0 0 a;"
            + "rap a o 5;rap a o 3;rap a o 5;rap b o 7;rap a p 9;");
        due("nothing yet", -2, x.will(0, 0));
        due("day 3", 1, x.will(0, 4));
        due("of day 5 the last", 2, x.will(0, 6));
        due("day 9", 4, x.will(0, 10));
        due("faded on day 10", 2, x.will(0, 11));
        due("the other", 3, x.will(1, 8));
        due("99", 2, x.will(0, 99));
        due("100", -1, x.will(0, 100));
        due("-1", -1, x.will(0, -1));
        due("hand 2", -1, x.will(2, 1));
        due("hand -1", -1, x.will(-1, 1));
        x.order(3, 0, 4);
        x.days(6);
        due("now", 2, x.will(0, 0));
        due("as ordered", 3, x.will(1, 0));
        x.plane(0);
        due("planed", -2, x.will(0, 0));
        x = Tell.bank(SHAKEN + "rap a o 0;");
        due("by whomever", 0, x.will(1, 1));
        due("not who rapped", -2, x.will(0, 1));
    }

    private static void rests() {
        String text = "hand a 0 0 1 1 1 1 1 1;hand b 1 0 1 1 1 1 1 1;hand c 2 0 1 1 1 1 1 1;hand d 5 0 1 1 1 1 1 1;"
            + "hand e 6 0 1 1 1 1 1 1;wood o 0 0 a;law shake 50 * (place < cold);law near 30;";
        KnockBank x = Tell.bank(text);
        int[] want = {0, 0, 11, 11, 0};
        for (int hand = 0; hand < 5; hand++) {
            due("rests of " + hand, 1, x.rests(hand, 0));
            due("rest of " + hand, want[hand], x.rest(hand, 0, 0));
        }
        due("k 1", -2, x.rest(0, 0, 1));
        due("k -1", -1, x.rest(0, 0, -1));
        due("hand 5", -1, x.rests(5, 0));
        due("hand -1", -1, x.rests(-1, 0));
        due("wood 1", -1, x.rests(0, 1));
        due("wood -1", -1, x.rests(0, -1));
        due("rest of hand 5", -1, x.rest(5, 0, 0));
        due("rest on wood 1", -1, x.rest(0, 1, 0));
        due("no hand, k 9", -1, x.rest(5, 0, 9));
        x = Tell.bank("like 1;" + text);
        due("strict is 0 at least", 0, x.rest(0, 0, 0));
        due("1 is within 3 alone", 11, x.rest(1, 0, 0));
        due("5 isn't within 3", 0, x.rest(3, 0, 0));
        x.warm(3, 3);
        due("warmed: 3 is within 3", 11, x.rest(3, 0, 0));
    }

    private static void fadings() {
        KnockBank x = Tell.bank(THREE);
        due("none", 0, x.fading(0));
        due("o on day 3", 5, x.fading(4));
        due("p on day 11", 7, x.fading(12));
        due("100", -1, x.fading(100));
        due("-1", -1, x.fading(-1));
        due("99", 7, x.fading(99));
        x.days(4);
        due("those that are now aren't", 2, x.fading(9));
        due("nothing happened", 2, x.count(8));
    }

    private static void overheard() {
        KnockBank x = Tell.bank(THREE);
        due("rap 3", -1, x.hear(3, 0, true));
        due("rap -1", -1, x.hear(-1, 0, true));
        due("place 6", -1, x.hear(0, 6, true));
        due("place -1", -1, x.hear(0, -1, true));
        due("strike none", -1, x.strike(0));
        due("first", 0, x.hear(2, 0, true));
        due("second", 1, x.hear(2, 5, false));
        due("c both", 0, x.colds(2));
        due("strike -1", -1, x.strike(-1));
        due("strike 2", -1, x.strike(2));
        due("strike", 2, x.strike(1));
        due("c by the first", 992, x.colds(2));
        due("strike the strike", 3, x.strike(2));
        due("c by both again", 0, x.colds(2));
        due("strike that one", 4, x.strike(3));
        due("c by the first again", 992, x.colds(2));
        due("five", 5, x.count(9));
        due("known by all", 5, x.count(10));
        due("known 6", false, x.known(6));
        due("known -2", false, x.known(-2));
        due("known 5", true, x.known(5));
        due("known 4", true, x.known(4));
        due("by four", 0, x.colds(2));
        due("known 3", true, x.known(3));
        due("by three", 992, x.colds(2));
        due("known 2", true, x.known(2));
        due("by two", 0, x.colds(2));
        due("known 1", true, x.known(1));
        due("by one", 992, x.colds(2));
        due("count", 1, x.count(10));
        due("known 0", true, x.known(0));
        due("by none", 1023, x.colds(2));
        due("a sixth", 5, x.hear(2, 1, false));
        due("not known", 1023, x.colds(2));
        due("strike 0", 6, x.strike(0));
        due("known -1", true, x.known(-1));
        due("c below 5", 31, x.colds(2));
        for (int i = 7; i < 24; i++) {
            due("one more", i, i % 2 == 0 ? x.strike(6) : x.hear(0, 0, false));
        }
        due("all 24", 24, x.count(9));
        due("no 25th", -1, x.hear(0, 0, true));
        due("no 25th strike", -1, x.strike(0));
        due("hand 3", -1, x.colds(3));
        due("hand -1", -1, x.colds(-1));
    }

    private static void coldsOfTheTold() {
        String text = "hand a 4 0 1 1 1 1 1 1;hand b 9 0 1 1 1 1 1 1;wood o 1 0 a;wood p 1 5 a;rap a p 7;rap b o 3;rap a o 7;"
            + "rap a o 2;";
        KnockBank x = Tell.bank(text + "law shake cold * 10 - hard * 2 + raps * 10 + day + place - beat;");
        x.warm(0, 0);
        x.order(0, 0, 0);
        x.days(1);
        x.hear(0, 0, true);
        due("day 7, second of a, hard 5: cold * 10 + 6 is 50", 0b1111100000, x.colds(0));
        x.hear(2, 1, false);
        due("third of a: cold * 10 + 27 is below 50", 0, x.colds(0));
        due("not b", 1023, x.colds(1));
        x.known(0);
        x.known(-1);
        x.strike(0);
        due("the other alone", 0b0000000111, x.colds(0));
        x.hear(1, 0, true);
        due("b: cold * 10 + 2", 0b1111100000, x.colds(1));
        x.hear(3, 0, false);
        due("first of a: cold * 10 + 1", 0b0000000111, x.colds(0));
    }

    /** Numbers modulo 100 from 7 on: 64 6 68 74 31 65 34 90 85 13 13 63 30 74 49 22 85 54 50 60. */
    private static void chances() {
        String text = "like 0;hand a 0 0 1 1 1 1 1 1;wood o 9 0 a;law shake 50 * (place = 0);rap a o 0;";
        KnockBank x = Tell.bank(text);
        due("one rap", 6, x.chance(7, 1, 1));
        due("none wanted", 10, x.chance(7, 1, 0));
        due("two wanted", 0, x.chance(7, 1, 2));
        due("ten wanted", 0, x.chance(7, 99, 10));
        due("seed -1", -1, x.chance(-1, 1, 1));
        due("n 0", -1, x.chance(7, 0, 1));
        due("n 100", -1, x.chance(7, 100, 1));
        due("right 11", -1, x.chance(7, 1, 11));
        due("right -1", -1, x.chance(7, 1, -1));
        x = Tell.bank(text + "rap a o 1;");
        due("the first day", 6, x.chance(7, 1, 1));
        due("one of two", 9, x.chance(7, 2, 1));
        due("two of two", 3, x.chance(7, 2, 2));
        due("the greatest seed: 29 9 62 18 13 26 80 63 32 34", 3, x.chance(2147483647, 1, 1));
        x.days(1);
        due("more from now", 6, x.chance(7, 1, 1));
        x = Tell.bank("like 0;hand a 0 0 1 1 1 1 1 1;hand b 0 0 2 1 1 1 1 1;wood o 9 0 a;law shake 50 * (place = 0);rap a o 0;");
        due("wrong isn't right", 6, x.chance(7, 1, 1));
        due("nothing happened", 0, x.count(4));
    }

    private static void triedOtherwise() {
        KnockBank x = Tell.bank("like 2;hand a 3 0 1 1 1 1 1 1;hand b 0 99 1 1 1 2 2 2;wood o 0 0 a;wood p 0 9 a;"
            + "rap a o 0;rap b o 0;rap b p 1;law shake cold * 20 * (place > 2) + aged / 2 + 5 - hard * 9;");
        due("a as b, b void", 2, x.ahead(1, 1) + x.ahead(1, 2));
        due("b on p as told", 2, x.ahead(2, 1) + x.ahead(2, 2));
        due("nobody is cold: b is void", 1, x.tried(0, 0, 2));
        due("nobody is old: a is wrong", 1, x.tried(1, 0, 2));
        due("a doesn't rap", 1, x.tried(2, 0, 2));
        due("b doesn't rap", 1, x.tried(2, 1, 2));
        due("like is 24: a and b are", 1, x.tried(3, 0, 2));
        due("all are hard", 0, x.tried(4, 0, 2));
        due("no days", 0, x.tried(0, 0, 0));
        due("what 5", -1, x.tried(5, 0, 1));
        due("what -1", -1, x.tried(-1, 0, 1));
        due("i 1 of 0", -1, x.tried(0, 1, 1));
        due("i 1 of 4", -1, x.tried(4, 1, 1));
        due("hand 2", -1, x.tried(2, 2, 1));
        due("hand -1", -1, x.tried(2, -1, 1));
        due("n 100", -1, x.tried(0, 0, 100));
        due("n -1", -1, x.tried(0, 0, -1));
        due("nothing happened", 3, x.hand(0, 0));
        due("still old", 99, x.hand(1, 1));
        due("still soft", 0, x.wood(0, 1));
        x.days(1);
        due("more from now", 0, x.tried(0, 0, 5));
        x = Tell.bank("like 0;hand a 3 7 1 1 1 1 1 1;hand b 2 8 1 1 4 1 1 1;wood o 0 0 a;wood p 0 2 a;rap a o 0;rap b p 0;"
            + "law shake 100 * cold * (place = 0) + 100 * aged * (place = 1) + 100 * (9 - hard) * (place = 2);");
        due("cold, old and soft", 2, x.tried(0, 0, 1));
        x = Tell.bank("like 0;hand a 3 7 1 1 1 1 1 1;hand b 2 8 1 1 4 1 1 1;wood o 0 0 a;wood p 0 2 a;rap a o 0;rap b p 0;"
            + "law shake 100 * cold * (place = 0);");
        due("cold is 0", 0, x.tried(0, 0, 1));
        due("not old, but cold", 2, x.tried(1, 0, 1));
        x = Tell.bank("like 0;hand a 3 7 1 1 1 1 1 1;hand b 2 8 1 1 4 1 1 1;wood o 0 0 a;wood p 0 2 a;rap a o 0;rap b p 0;"
            + "law shake 100 * aged * (place = 1);");
        due("aged is 0", 0, x.tried(1, 0, 1));
        due("hard, but old", 2, x.tried(4, 0, 1));
        x = Tell.bank("like 0;hand a 3 7 1 1 1 1 1 1;hand b 2 8 1 1 4 1 1 1;wood o 0 0 a;wood p 0 2 a;rap a o 0;rap b p 0;"
            + "law shake 100 * (9 - hard) * (place = 2);");
        due("hard is 9", 0, x.tried(4, 0, 1));
        due("not cold, but soft", 2, x.tried(0, 0, 1));
        due("the like of 24", 0, x.tried(3, 0, 1));
    }

    private static void undone() {
        KnockBank x = Tell.bank(THREE);
        x.days(1);
        x.warm(0, 4);
        x.order(1, 0, 9);
        x.sell(0, 1);
        x.plane(0);
        x.warm(0, 6);
        due("five", 5, x.count(11));
        due("warm", 4, x.undo());
        due("cold", 4, x.hand(0, 0));
        due("faded", 2, x.count(8));
        due("plane", 3, x.undo());
        due("not faded", 0, x.count(8));
        due("sell", 2, x.undo());
        due("owner", 0, x.wood(0, 2));
        due("order", 1, x.undo());
        due("wood", 1, rap(x, 1, 1));
        due("day", 1, rap(x, 1, 2));
        due("warm", 0, x.undo());
        due("cold as told", 0, x.hand(0, 0));
        due("none", -1, x.undo());
        for (int i = 1; i <= 25; i++) {
            x.warm(0, 1 + i % 9);
        }
        due("20 at most", 20, x.count(11));
        for (int i = 19; i >= 0; i--) {
            due("left", i, x.undo());
            due("cold with " + i + " left", 1 + (5 + i) % 9, x.hand(0, 0));
        }
        due("none of 20", -1, x.undo());
        due("as behind the fifth", 6, x.hand(0, 0));
        x.plane(0);
        x.plane(0);
        due("a second plane fades none", 1, x.undo());
        due("still faded", 2, x.count(8));
        due("the first", 0, x.undo());
        due("not faded again", 0, x.count(8));
        x.warm(0, 0);
        x.days(1);
        due("a day went by", -1, x.undo());
    }

    private static void images() {
        KnockBank x = Tell.bank("like 0;hand a 5 0 1 1 1 1 1 1;wood o 0 0 a;wood p 9 0 a;hand b 0 0 2 2 2 2 2 2;"
            + "rap a o 0;rap a p 1;rap a p 2;seed 5;");
        x.days(1);
        due("keep", 1, x.keep());
        x.warm(0, 0);
        x.order(1, 0, 2);
        x.sell(0, 1);
        x.hear(0, 0, true);
        int heard = 0;
        for (int round = 0; round < 3; round++) {
            due("back", 1, x.back());
            due("nothing to undo", -1, x.undo());
            due("cold", 5, x.hand(0, 0));
            due("wood", 1, rap(x, 1, 1));
            due("day", 1, rap(x, 1, 2));
            due("owner", 0, x.wood(0, 2));
            due("rapped", 1, x.hand(0, 3));
            due("not faded", 0, x.count(8));
            due("not rapped yet", 0, rap(x, 1, 6));
            due("overheard stays", 1, x.count(9));
            x.days(4);
            due("faded", 1, x.count(8));
            heard = round == 0 ? rap(x, 1, 6) : heard;
            due("the same numbers", heard, rap(x, 1, 6));
        }
        due("kept anew", 5, x.keep());
        x.days(2);
        due("back to the later one", 5, x.back());
        due("three rapped", 3, x.hand(0, 3));
    }

    private static void counts() {
        KnockBank x = Tell.bank(SHAKEN + "rap a o 0;rap b o 1;rap a p 1;law near not (1 < 2) and beat * (2);");
        int[] want = {2, 2, 3, 5 + 8, 0, 0, 0, 0, 0, 0, 0, 0};
        for (int what = 0; what < 12; what++) {
            due("count " + what, want[what], x.count(what));
        }
        due("count 12", -1, x.count(12));
        due("count -1", -1, x.count(-1));
        x.hear(0, 0, true);
        x.hear(0, 0, true);
        x.known(1);
        x.days(3);
        x.warm(0, 0);
        int[] then = {2, 2, 3, 13, 3, 2, 1, 2, 2, 2, 1, 1};
        for (int what = 0; what < 12; what++) {
            due("count then " + what, then[what], x.count(what));
        }
    }
}
