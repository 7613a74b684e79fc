import java.nio.charset.StandardCharsets;
import java.util.Random;

/** Calls by chance on the class and on the model of the document, whose answers must be the same. */
public final class FuzzTest {
    private static final int OBJECTS = 1500;
    private static final int CORNERS = 400;
    private static final int SPOILT = 20000;
    /** Numbers at which something of the document or of the machine ends. */
    private static final int[] ENDS = {Integer.MIN_VALUE, Integer.MIN_VALUE + 1, -100, -6, -2, -1, 0, 4, 5, 6, 7, 9, 10, 11,
        12, 23, 24, 25, 30, 31, 32, 63, 64, 99, 100, 111110, 111111, 555555, 555556, 700, 701, 9900, 9901, 9999, 10000,
        1 << 24, 1 << 30, Integer.MAX_VALUE - 20, Integer.MAX_VALUE - 1, Integer.MAX_VALUE};

    private final Random random;
    private final Texts texts;
    private final KnockBank bank = new KnockBank();
    private final Model model = new Model();
    private final String run;

    private FuzzTest(int seed) {
        random = new Random(seed);
        texts = new Texts(random);
        run = "run " + seed + ": ";
    }

    public static void main(String[] args) {
        for (int seed = 0; seed < OBJECTS; seed++) {
            new FuzzTest(seed).useOne();
        }
        for (int seed = 0; seed < CORNERS; seed++) {
            new FuzzTest(OBJECTS + seed).useInACorner(seed % 4);
        }
        FuzzTest reading = new FuzzTest(-1);
        for (int i = 0; i < SPOILT; i++) {
            reading.tell(reading.texts.spoilt());
        }
        Check.end("FuzzTest");
    }

    private void useOne() {
        int calls = 0;
        while (calls < 440) {
            calls += random.nextInt(4) == 0 ? tell(texts.spoilt()) : tell(texts.whole());
            int more = random.nextInt(200);
            for (int i = 0; i < more && calls < 500; i++) {
                calls++;
                callOne();
            }
        }
    }

    /** Begins where calls by chance seldom come, and goes on by chance; hands that are close make more of it. */
    private void useInACorner(int corner) {
        int calls = tell(texts.close());
        switch (corner) {
            case 0 -> calls += goToTheLastDays();
            case 1 -> calls += fillTheTape();
            default -> {
            }
        }
        while (calls < 500) {
            calls++;
            if (corner == 2 && random.nextInt(3) > 0) {
                doOne();
            } else if (corner == 3 && random.nextInt(3) > 0) {
                overhearOne();
            } else if (corner == 0 && random.nextInt(5) == 0) {
                int n = random.nextInt(4);
                due("days " + n, model.days(n), bank.days(n));
            } else {
                callOne();
            }
        }
    }

    private int goToTheLastDays() {
        for (int r = 0; r < model.count(2); r++) {
            int day = 9890 + random.nextInt(15);
            due("order " + r, bit(model.order(r, 0, day)), bit(bank.order(r, 0, day)));
        }
        for (int i = 0; i < 99; i++) {
            due("days 99", model.days(99), bank.days(99));
        }
        int n = 85 + random.nextInt(15);
        due("days " + n, model.days(n), bank.days(n));
        return 110;
    }

    private int fillTheTape() {
        for (int i = 0; i < 36; i++) {
            int four = random.nextInt(20) == 0 ? random.nextInt() : 0x20202020;
            due("feed", model.feed(four, four, four, four, four), bank.feed(four, four, four, four, four));
        }
        int n = 699 + random.nextInt(3);
        due("text " + n, model.text(n), bank.text(n));
        return 37 + tell(texts.close());
    }

    private void doOne() {
        int a = hand();
        int w = wood();
        int cold = near(10);
        switch (random.nextInt(8)) {
            case 0, 1, 2 -> due("warm", bit(model.warm(a, cold)), bit(bank.warm(a, cold)));
            case 3, 4 -> due("sell", bit(model.sell(w, a)), bit(bank.sell(w, a)));
            case 5 -> askOrder(rap(), w);
            case 6 -> due("plane", model.plane(w), bank.plane(w));
            default -> due("undo", model.undo(), bank.undo());
        }
    }

    private void overhearOne() {
        int r = rap();
        int k = near(6);
        boolean isLonger = random.nextBoolean();
        int a = hand();
        switch (random.nextInt(6)) {
            case 0, 1 -> due("hear", model.hear(r, k, isLonger), bank.hear(r, k, isLonger));
            case 2 -> askStrike();
            case 3 -> askKnown(random.nextInt(3) == 0 ? -1 : near(model.count(9) + 1));
            default -> due("colds " + a, model.colds(a), bank.colds(a));
        }
    }

    /** How many calls that took. */
    private int tell(String text) {
        byte[] bytes = text.getBytes(StandardCharsets.ISO_8859_1);
        int calls = 0;
        for (int at = 0; at < bytes.length; at += 20) {
            int[] f = new int[5];
            for (int i = 0; i < 20; i++) {
                f[i / 4] = f[i / 4] << 8 | (at + i < bytes.length ? bytes[at + i] & 255 : 32);
            }
            Check.due(run + "feed", model.feed(f[0], f[1], f[2], f[3], f[4]), bank.feed(f[0], f[1], f[2], f[3], f[4]));
            calls++;
        }
        int n = random.nextInt(50) == 0 ? bytes.length + 20 : bytes.length;
        Check.due(run + "text of " + text, model.text(n), bank.text(n));
        Check.due(run + "fault(0) of " + text, model.fault(0), bank.fault(0));
        Check.due(run + "fault(1) of " + text, model.fault(1), bank.fault(1));
        return calls + 3;
    }

    /** Mostly within 0 .. most - 1, at times right outside, seldom far off. */
    private int near(int most) {
        int kind = random.nextInt(40);
        if (kind == 0) {
            return random.nextInt(3) == 0 ? random.nextInt() : ENDS[random.nextInt(ENDS.length)];
        }
        return kind == 1 ? -1 : kind == 2 ? most : most <= 0 ? 0 : random.nextInt(most);
    }

    private int hand() {
        return near(model.count(0));
    }

    private int wood() {
        return near(model.count(1));
    }

    private int rap() {
        return near(model.count(2));
    }

    private int span() {
        return near(random.nextInt(3) == 0 ? 100 : 8);
    }

    private int knock(int most) {
        int knock = 0;
        for (int k = 0; k < 6; k++) {
            knock = knock * 10 + 1 + random.nextInt(most);
        }
        return random.nextInt(10) == 0 ? near(1000000) : knock;
    }

    private void due(String call, long want, long got) {
        Check.due(run + call, want, got);
    }

    private static int bit(boolean is) {
        return is ? 1 : 0;
    }

    private void callOne() {
        int a = hand();
        int b = hand();
        int w = wood();
        int r = rap();
        int n = span();
        int k = near(6);
        switch (random.nextInt(45)) {
            case 1 -> askNamed(k % 3, Tell.letters(texts.name()));
            case 0, 2 -> askRap(r);
            case 3 -> due("hand " + a + " " + k, model.hand(a, k), bank.hand(a, k));
            case 4 -> due("wood " + w + " " + k, model.wood(w, k), bank.wood(w, k));
            case 5 -> askLaw(near(3), a, w, near(31));
            case 6, 43 -> due("warm", bit(model.warm(a, k * 2)), bit(bank.warm(a, k * 2)));
            case 7, 8 -> askOrder(r, w);
            case 9 -> due("sell", bit(model.sell(w, a)), bit(bank.sell(w, a)));
            case 10 -> due("plane", model.plane(w), bank.plane(w));
            case 11, 12, 13 -> due("days " + n, model.days(n), bank.days(n));
            case 14 -> due("ahead " + n + " " + k, model.ahead(n, k), bank.ahead(n, k));
            case 15 -> due("apart", model.apart(a, b), bank.apart(a, b));
            case 16 -> due("nearest " + k, model.nearest(k), bank.nearest(k));
            case 17 -> askAnew(k);
            case 18, 19 -> askKnock(w);
            case 20 -> due("likely " + a + " " + w, model.likely(a, w, k % 3), bank.likely(a, w, k % 3));
            case 21 -> due("surest " + a, model.surest(a), bank.surest(a));
            case 22 -> askForge(a, b, w, k % 3);
            case 23 -> due("places", model.places(), bank.places());
            case 24 -> askJoint(near(1 << model.count(0)));
            case 25 -> due("holds", model.holds(a), bank.holds(a));
            case 26 -> due("will " + a + " " + n, model.will(a, n), bank.will(a, n));
            case 27 -> due("rests " + a + " " + w, model.rests(a, w), bank.rests(a, w));
            case 28 -> due("rest " + a + " " + w, model.rest(a, w, k - 1), bank.rest(a, w, k - 1));
            case 29 -> due("owns", model.owns(a), bank.owns(a));
            case 30 -> due("fading " + n, model.fading(n), bank.fading(n));
            case 31 -> due("own", model.own(a), bank.own(a));
            case 32, 33 -> due("hear", model.hear(r, k, n % 2 == 0), bank.hear(r, k, n % 2 == 0));
            case 34 -> askStrike();
            case 35 -> askKnown(near(model.count(9) + 1));
            case 36 -> due("colds " + a, model.colds(a), bank.colds(a));
            case 37 -> askChance(near(Integer.MAX_VALUE), n, near(4));
            case 38 -> askTried(near(5), n);
            case 39, 42 -> due("undo", model.undo(), bank.undo());
            case 40 -> due("keep", model.keep(), bank.keep());
            case 41 -> due("back", model.back(), bank.back());
            default -> askCount(near(12));
        }
    }

    private void askNamed(int what, int letters) {
        int asked = random.nextInt(8) == 0 ? near(1 << 30) : letters;
        due("named " + what + " " + asked, model.named(what, asked), bank.named(what, asked));
    }

    private void askRap(int r) {
        int what = near(7);
        due("rap " + r + " " + what, model.rap(r, what), Ask.rap(bank, r, what));
    }

    private void askLaw(int what, int a, int w, int place) {
        int at = random.nextBoolean() ? place % 6 : place;
        due("law " + what + " " + a + " " + w + " " + at, model.law(what, a, w, at), bank.law(what, a, w, at));
    }

    private void askOrder(int r, int w) {
        int day = random.nextInt(20) == 0 ? near(10000) : model.count(4) + near(9);
        due("order " + r + " " + w + " " + day, bit(model.order(r, w, day)), bit(bank.order(r, w, day)));
    }

    private void askAnew(int k) {
        int what = random.nextInt(6) == 0 ? k : k % 2;
        due("anew " + what, model.anew(what), bank.anew(what));
    }

    private void askKnock(int w) {
        int knock = knock(random.nextInt(4) + 2);
        due("whose " + knock + " " + w, model.whose(knock, w), bank.whose(knock, w));
        due("all " + knock, model.all(knock), bank.all(knock));
    }

    private void askForge(int a, int b, int w, int what) {
        due("forge " + a + " " + b + " " + w + " " + what, model.forge(a, b, w, what), bank.forge(a, b, w, what));
    }

    private void askJoint(int hands) {
        int what = near(7);
        due("joint " + hands + " " + what, model.joint(hands, what), bank.joint(hands, what));
    }

    private void askStrike() {
        int heard = near(model.count(9));
        due("strike " + heard, model.strike(heard), bank.strike(heard));
    }

    private void askKnown(int n) {
        due("known " + n, bit(model.known(n)), bit(bank.known(n)));
    }

    private void askChance(int seed, int n, int right) {
        due("chance " + seed + " " + n + " " + right, model.chance(seed, n, right), bank.chance(seed, n, right));
    }

    private void askTried(int what, int n) {
        int i = what == 2 || random.nextInt(10) == 0 ? hand() : 0;
        due("tried " + what + " " + i + " " + n, model.tried(what, i, n), bank.tried(what, i, n));
    }

    private void askCount(int what) {
        due("count " + what, model.count(what), bank.count(what));
    }
}
