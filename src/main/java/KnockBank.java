import java.util.NoSuchElementException;

/** Hands known by their knocks: who rapped on which wood, what was heard, and whom it was bound to. */
public final class KnockBank {
    public static final int NONE = -1;

    private static final int NO_ANSWER = -2;
    private static final int MOST_TAPE = 700;
    private static final int MOST_HANDS = 6;
    private static final int MOST_WOODS = 4;
    private static final int MOST_RAPS = 10;
    private static final int MOST_SPAN = 99;
    private static final int LAST_DAY = 9900;
    private static final int LAST_ORDERED_DAY = 9999;
    private static final int MOST_APART = 30;
    private static final int MOST_COLD = 9;
    private static final int MOST_LIKE = 24;
    private static final int BEATS = 6;
    private static final int DRAWS = 10;
    private static final int HALVES = 64;

    private final byte[] tape = new byte[MOST_TAPE];
    private final Reader reader = new Reader();
    private final Scene now = new Scene();
    private final Scene image = new Scene();
    private final Scene trial = new Scene();
    private final Deeds deeds = new Deeds();
    private final Overheard overheard = new Overheard();
    private final Row row = new Row();
    private final int[] knockAsked = new int[BEATS];
    private final int[] changes = new int[2 * HALVES];
    private final boolean[] isWithin = new boolean[MOST_APART + 1];
    private Text told = new Text();
    private Text draft = new Text();
    private int tapeLength = 0;
    private boolean hasImage = false;

    public KnockBank() {
        now.begin(told);
    }

    public int feed(int a, int b, int c, int d, int e) {
        if (tapeLength + 20 > MOST_TAPE) {
            return NONE;
        }
        putOnTape(a);
        putOnTape(b);
        putOnTape(c);
        putOnTape(d);
        putOnTape(e);
        return tapeLength;
    }

    private void putOnTape(int four) {
        for (int shift = 24; shift >= 0 && tapeLength < MOST_TAPE; shift -= 8) {
            tape[tapeLength] = (byte) (four >> shift);
            tapeLength++;
        }
    }

    public int text(int n) {
        if (n < 0 || n > tapeLength) {
            return NO_ANSWER;
        }
        tapeLength = 0;
        if (!reader.isRead(tape, n, draft)) {
            return NONE;
        }
        Text old = told;
        told = draft;
        draft = old;
        now.begin(told);
        overheard.clear();
        deeds.clear();
        hasImage = false;
        return told.lines;
    }

    public int fault(int what) {
        switch (what) {
            case 0:
                return reader.fault;
            case 1:
                return reader.place;
            default:
                return NONE;
        }
    }

    public int named(int what, int letters) {
        switch (what) {
            case 0:
                return told.handOf(letters);
            case 1:
                return told.woodOf(letters);
            default:
                return NONE;
        }
    }

    public int rap(int rap, int what) throws IndexOutOfBoundsException, NoSuchElementException {
        if (!isRap(rap)) {
            throw new IndexOutOfBoundsException("no such RAP");
        }
        switch (what) {
            case 0:
                return told.raps[rap].hand;
            case 1:
                return now.wood[rap];
            case 2:
                return now.when[rap];
            case 3:
                return now.status[rap];
            case 4:
                return now.bound[rap];
            case 5:
                return now.isFaded(rap) ? 1 : 0;
            case 6:
                return now.heard[rap];
            default:
                throw new NoSuchElementException("no such what");
        }
    }

    public int hand(int hand, int what) {
        if (!isHand(hand)) {
            return NONE;
        }
        switch (what) {
            case 0:
                return now.cold[hand];
            case 1:
                return now.aged[hand];
            case 2:
                return digitsOf(told.hands[hand].beats);
            case 3:
                return now.rapped[hand];
            case 4:
                return now.manyBoundTo(hand);
            default:
                return NONE;
        }
    }

    public int wood(int wood, int what) {
        if (!isWood(wood)) {
            return NONE;
        }
        switch (what) {
            case 0:
                return told.woods[wood].keeps;
            case 1:
                return now.hard[wood];
            case 2:
                return now.owner[wood];
            case 3:
                return Integer.bitCount(now.freshOn(wood));
            default:
                return NONE;
        }
    }

    public long law(int what, int hand, int wood, int place) {
        if (!isHand(hand) || !isWood(wood)) {
            return Law.ERROR;
        }
        switch (what) {
            case Text.SHAKE:
                return place < 0 || place >= BEATS ? Law.ERROR
                    : now.worth(Text.SHAKE, hand, wood, told.hands[hand].beats[place], place);
            case Text.NEAR:
                return place < 0 || place > MOST_APART ? Law.ERROR : now.worth(Text.NEAR, hand, wood, place, 0);
            case Text.FADE:
                return now.worth(Text.FADE, hand, wood, 0, 0);
            default:
                return Law.ERROR;
        }
    }

    public boolean warm(int hand, int cold) {
        if (!isHand(hand) || cold < 0 || cold > MOST_COLD || now.cold[hand] == cold) {
            return false;
        }
        deeds.add(Deeds.WARMED, hand, now.cold[hand], 0);
        now.cold[hand] = cold;
        return true;
    }

    public boolean order(int rap, int wood, int day) {
        if (!isRap(rap) || !isWood(wood) || day < now.day || day > LAST_ORDERED_DAY) {
            return false;
        }
        if (now.status[rap] != Scene.AWAITED || now.wood[rap] == wood && now.when[rap] == day) {
            return false;
        }
        deeds.add(Deeds.ORDERED, rap, now.wood[rap], now.when[rap]);
        now.wood[rap] = wood;
        now.when[rap] = day;
        return true;
    }

    public boolean sell(int wood, int hand) {
        if (!isWood(wood) || !isHand(hand) || now.owner[wood] == hand) {
            return false;
        }
        deeds.add(Deeds.SOLD, wood, now.owner[wood], 0);
        now.owner[wood] = hand;
        return true;
    }

    public int plane(int wood) {
        if (!isWood(wood)) {
            return NONE;
        }
        int fresh = now.freshOn(wood);
        deeds.add(Deeds.PLANED, wood, fresh, 0);
        now.faded |= fresh;
        return Integer.bitCount(fresh);
    }

    public int days(int n) {
        if (!isSpan(n) || now.day + n > LAST_DAY) {
            return NONE;
        }
        if (n > 0) {
            deeds.clear();
        }
        now.pass(n, true, true);
        return now.day;
    }

    public int ahead(int n, int what) {
        if (!isSpan(n)) {
            return NONE;
        }
        trial.copyOf(now);
        switch (what) {
            case 0:
                trial.pass(n, false, false);
                return trial.manyOf(Scene.BOUND) - now.manyOf(Scene.BOUND);
            case 1:
                trial.pass(n, false, false);
                return trial.manyOf(Scene.VOID) - now.manyOf(Scene.VOID);
            case 2:
                trial.pass(n, false, false);
                return trial.manyWrong() - now.manyWrong();
            case 3:
                trial.pass(n, false, true);
                return Integer.bitCount(trial.faded);
            default:
                return NONE;
        }
    }

    public int apart(int one, int other) {
        return isHand(one) && isHand(other) ? told.hands[one].apartFrom(told.hands[other].beats) : NONE;
    }

    public int nearest(int what) {
        if (what < 0 || what > 2) {
            return NONE;
        }
        int least = Integer.MAX_VALUE;
        int answer = NO_ANSWER;
        for (int one = 0; one < told.handCount; one++) {
            for (int other = one + 1; other < told.handCount; other++) {
                int far = told.hands[one].apartFrom(told.hands[other].beats);
                if (far < least) {
                    least = far;
                    answer = what == 0 ? one : what == 1 ? other : far;
                }
            }
        }
        return answer;
    }

    public int anew(int what) {
        if (what < 0 || what > 1) {
            return NONE;
        }
        told.findNew();
        return what == 0 ? digitsOfCode(told.newCode) : told.newApart;
    }

    public int whose(int knock, int wood) {
        if (!isSpread(knock, knockAsked) || !isWood(wood) || told.handCount == 0) {
            return NONE;
        }
        return now.whoKnocks(knockAsked, wood);
    }

    public int all(int knock) {
        if (!isSpread(knock, knockAsked)) {
            return NONE;
        }
        int bits = 0;
        for (int hand = 0; hand < told.handCount; hand++) {
            if (told.hands[hand].canSound(knockAsked)) {
                bits |= 1 << hand;
            }
        }
        return bits;
    }

    public long likely(int hand, int wood, int what) {
        if (!isHand(hand) || !isWood(wood) || what < 0 || what > 1) {
            return NONE;
        }
        long above = now.rightly(hand, wood);
        long common = commonDivisor(above, Scene.SURE);
        if (common == 0) {
            return NONE;
        }
        return (what == 0 ? above : Scene.SURE) / common;
    }

    public int surest(int hand) {
        if (!isHand(hand)) {
            return NONE;
        }
        int answer = NO_ANSWER;
        long most = NONE;
        for (int wood = 0; wood < told.woodCount; wood++) {
            long rightly = now.rightly(hand, wood);
            if (rightly > most) {
                most = rightly;
                answer = wood;
            }
        }
        return answer;
    }

    public int forge(int hand, int other, int wood, int what) {
        if (!isHand(hand) || !isHand(other) || hand == other || !isWood(wood) || what < 0 || what > 1) {
            return NONE;
        }
        told.hands[hand].countChanges(changes);
        for (int far = 0; far < isWithin.length; far++) {
            isWithin[far] = far <= now.reach(other, wood, far);
        }
        int fewest = BEATS + 1;
        int code = NONE;
        for (int high = 0; high < HALVES; high++) {
            for (int low = 0; low < HALVES && changes[high] < fewest; low++) {
                int changed = changes[high] + changes[HALVES + low];
                if (changed < fewest && isTakenFor(other, high * HALVES + low)) {
                    fewest = changed;
                    code = high * HALVES + low;
                }
            }
        }
        return code == NONE ? NO_ANSWER : what == 0 ? fewest : digitsOfCode(code);
    }

    /** Whether the hand is the first of those least apart from the knock, and is near enough. */
    private boolean isTakenFor(int hand, int code) {
        int far = told.hands[hand].apartFromCode(code);
        if (far >= isWithin.length || !isWithin[far]) {
            return false;
        }
        for (int rival = 0; rival < told.handCount; rival++) {
            int farther = told.hands[rival].apartFromCode(code);
            if (farther < far || farther == far && rival < hand) {
                return false;
            }
        }
        return true;
    }

    public int places() {
        int best = NO_ANSWER;
        for (int places = 0; places < 1 << BEATS; places++) {
            boolean isFewer = best < 0 || Integer.bitCount(places) < Integer.bitCount(best);
            if (isFewer && told.areToldApart(places)) {
                best = places;
            }
        }
        return best;
    }

    public int joint(int hands, int what) {
        if (hands < 0 || hands >= 1 << told.handCount || what < 0 || what > MOST_HANDS) {
            return NONE;
        }
        row.lay(told, hands);
        if (what == MOST_HANDS) {
            return row.masked;
        }
        return what < row.length ? row.hands[what] : NO_ANSWER;
    }

    public int holds(int hand) {
        if (!isHand(hand)) {
            return NONE;
        }
        int many = 0;
        for (int rap = 0; rap < told.rapCount; rap++) {
            if (now.status[rap] == Scene.BOUND && !now.isFaded(rap) && now.owner[now.wood[rap]] == hand) {
                many++;
            }
        }
        return many;
    }

    public int will(int hand, int n) {
        if (!isHand(hand) || !isSpan(n)) {
            return NONE;
        }
        trial.copyOf(now);
        trial.pass(n, false, true);
        int latest = NO_ANSWER;
        for (int rap = 0; rap < told.rapCount; rap++) {
            boolean isLeft = trial.bound[rap] == hand && !trial.isFaded(rap);
            if (isLeft && (latest < 0 || trial.when[rap] >= trial.when[latest])) {
                latest = rap;
            }
        }
        return latest;
    }

    public int rests(int hand, int wood) {
        return isHand(hand) && isWood(wood) ? Integer.bitCount(restBits(hand, wood)) : NONE;
    }

    public int rest(int hand, int wood, int k) {
        if (!isHand(hand) || !isWood(wood) || k < 0) {
            return NONE;
        }
        int bits = restBits(hand, wood);
        int behind = 0;
        for (int pair = 0; pair < 4; pair++) {
            if ((bits >> pair & 1) != 0) {
                if (behind == k) {
                    return 10 * (pair / 2) + pair % 2;
                }
                behind++;
            }
        }
        return NO_ANSWER;
    }

    /** Bit 2 * first + second is set, where neither bank would have more otherwise. */
    private int restBits(int hand, int wood) {
        now.listen(hand, wood, false);
        int far = told.hands[hand].apartFrom(now.ear);
        int bits = 0;
        for (int pair = 0; pair < 4; pair++) {
            int first = pair / 2;
            int second = pair % 2;
            boolean isFirstAtRest = gain(first, second, far) >= gain(1 - first, second, far);
            boolean isSecondAtRest = gain(second, first, far) >= gain(1 - second, first, far);
            if (isFirstAtRest && isSecondAtRest) {
                bits |= 1 << pair;
            }
        }
        return bits;
    }

    private int gain(int mine, int others, int far) {
        int gain = mine == 0 ? 0 : -2;
        if (takes(mine, far)) {
            gain += takes(others, far) ? 5 : 8;
        }
        return gain;
    }

    private boolean takes(int strictness, int far) {
        return far <= (strictness == 0 ? Math.max(0, now.like - 2) : now.like + 2);
    }

    public int owns(int hand) {
        if (!isHand(hand)) {
            return NONE;
        }
        int bits = 0;
        for (int wood = 0; wood < told.woodCount; wood++) {
            if (now.owner[wood] == hand) {
                bits |= 1 << wood;
            }
        }
        return bits;
    }

    public int fading(int n) {
        if (!isSpan(n)) {
            return NONE;
        }
        trial.copyOf(now);
        trial.pass(n, false, true);
        return trial.faded & ~now.faded;
    }

    public int own(int hand) {
        if (!isHand(hand)) {
            return NONE;
        }
        int bits = 0;
        for (int rap = 0; rap < told.rapCount; rap++) {
            if (told.raps[rap].hand == hand && now.bound[rap] == hand) {
                bits |= 1 << rap;
            }
        }
        return bits;
    }

    public int hear(int rap, int place, boolean isLonger) {
        return isRap(rap) && place >= 0 && place < BEATS ? overheard.add(rap, place, isLonger) : NONE;
    }

    public int strike(int heard) {
        return heard >= 0 && heard < overheard.size ? overheard.addStrike(heard) : NONE;
    }

    public boolean known(int n) {
        if (n < -1 || n > overheard.size) {
            return false;
        }
        overheard.limit = n;
        return true;
    }

    public int colds(int hand) {
        if (!isHand(hand)) {
            return NONE;
        }
        overheard.sift();
        trial.begin(told);
        int bits = (1 << (MOST_COLD + 1)) - 1;
        for (int i = 0; i < overheard.manyKnown(); i++) {
            if (overheard.counts(i) && told.raps[overheard.rap[i]].hand == hand) {
                bits &= coldsBy(i);
            }
        }
        return bits;
    }

    /** How cold the rapper may have been by one thing overheard; the trial stands at the told text. */
    private int coldsBy(int i) {
        int rap = overheard.rap[i];
        Rap asTold = told.raps[rap];
        trial.day = asTold.day;
        trial.rapped[asTold.hand] = told.rapsAhead(rap);
        int bits = 0;
        for (int cold = 0; cold <= MOST_COLD; cold++) {
            trial.cold[asTold.hand] = cold;
            boolean isLonger = trial.shake(asTold.hand, asTold.wood, overheard.place[i]) >= Scene.LONGER_FROM;
            if (isLonger == overheard.isLonger[i]) {
                bits |= 1 << cold;
            }
        }
        return bits;
    }

    public int chance(int seed, int n, int right) {
        if (seed < 0 || n < 1 || n > MOST_SPAN || right < 0 || right > MOST_RAPS) {
            return NONE;
        }
        int rightNow = now.manyOf(Scene.BOUND) - now.manyWrong();
        int number = seed;
        int times = 0;
        for (int i = 0; i < DRAWS; i++) {
            trial.copyOf(now);
            trial.number = number;
            trial.pass(n, true, false);
            number = trial.number;
            if (trial.manyOf(Scene.BOUND) - trial.manyWrong() - rightNow >= right) {
                times++;
            }
        }
        return times;
    }

    public int tried(int what, int i, int n) {
        if (what < 0 || what > 4 || !isSpan(n) || (what == 2 ? !isHand(i) : i != 0)) {
            return NONE;
        }
        trial.copyOf(now);
        switch (what) {
            case 0:
                trial.warmAll();
                break;
            case 1:
                trial.renewAll();
                break;
            case 2:
                trial.silent = i;
                break;
            case 3:
                trial.like = MOST_LIKE;
                break;
            default:
                trial.hardenAll();
        }
        trial.pass(n, false, false);
        return trial.manyWrong() - now.manyWrong() + trial.manyOf(Scene.VOID) - now.manyOf(Scene.VOID);
    }

    public int undo() {
        if (deeds.size == 0) {
            return NONE;
        }
        deeds.takeLast();
        switch (deeds.kind) {
            case Deeds.WARMED:
                now.cold[deeds.which] = deeds.first;
                break;
            case Deeds.ORDERED:
                now.wood[deeds.which] = deeds.first;
                now.when[deeds.which] = deeds.second;
                break;
            case Deeds.SOLD:
                now.owner[deeds.which] = deeds.first;
                break;
            default:
                now.faded &= ~deeds.first;
        }
        return deeds.size;
    }

    public int keep() {
        image.copyOf(now);
        hasImage = true;
        return now.day;
    }

    public int back() {
        if (!hasImage) {
            return NONE;
        }
        now.copyOf(image);
        deeds.clear();
        return now.day;
    }

    public int count(int what) {
        switch (what) {
            case 0:
                return told.handCount;
            case 1:
                return told.woodCount;
            case 2:
                return told.rapCount;
            case 3:
                return told.knots;
            case 4:
                return now.day;
            case 5:
                return now.manyOf(Scene.BOUND);
            case 6:
                return now.manyOf(Scene.VOID);
            case 7:
                return now.manyWrong();
            case 8:
                return Integer.bitCount(now.faded);
            case 9:
                return overheard.size;
            case 10:
                return overheard.manyKnown();
            case 11:
                return deeds.size;
            default:
                return NONE;
        }
    }

    private boolean isHand(int hand) {
        return hand >= 0 && hand < told.handCount;
    }

    private boolean isWood(int wood) {
        return wood >= 0 && wood < told.woodCount;
    }

    private boolean isRap(int rap) {
        return rap >= 0 && rap < told.rapCount;
    }

    private static boolean isSpan(int n) {
        return n >= 0 && n <= MOST_SPAN;
    }

    /** Spreads a knock of six digits 1 .. 5 over the beats; false: it is none. */
    private static boolean isSpread(int knock, int[] beats) {
        int left = knock;
        for (int k = BEATS - 1; k >= 0; k--) {
            int digit = left % 10;
            if (digit < 1 || digit > 5) {
                return false;
            }
            beats[k] = digit;
            left /= 10;
        }
        return left == 0;
    }

    private static int digitsOf(int[] beats) {
        int digits = 0;
        for (int k = 0; k < BEATS; k++) {
            digits = digits * 10 + beats[k];
        }
        return digits;
    }

    /** A knock's code has two bits a beat, the first beat highest, so that codes go as knocks go by beats. */
    private static int digitsOfCode(int code) {
        int digits = 0;
        for (int shift = 2 * (BEATS - 1); shift >= 0; shift -= 2) {
            digits = digits * 10 + ((code >> shift) & 3) + 1;
        }
        return digits;
    }

    private static long commonDivisor(long one, long other) {
        long a = one;
        long b = other;
        for (int i = 0; i < 100 && b != 0; i++) {
            long left = a % b;
            a = b;
            b = left;
        }
        return a;
    }

    /** Cuts a text into tokens, all at once. The kinds of words go as the words stand in WORDS. */
    private static final class Scanner {
        static final String WORDS =
            "hand wood rap like seed law shake near fade or and not cold aged hard beat place raps day";
        static final int WORD_COUNT = 19;
        static final int MOST_LETTERS = 6;
        static final int MOST_NUMBER = 1000000;

        static final int HAND = 0;
        static final int WOOD = 1;
        static final int RAP = 2;
        static final int LIKE = 3;
        static final int SEED = 4;
        static final int LAW = 5;
        static final int SHAKE = 6;
        static final int FADE = 8;
        static final int OR = 9;
        static final int AND = 10;
        static final int NOT = 11;
        static final int COLD = 12;
        static final int DAY = 18;
        static final int NAME = 19;
        static final int NUMBER = 20;
        static final int SEMICOLON = 21;
        static final int OPEN = 22;
        static final int CLOSE = 23;
        static final int PLUS = 24;
        static final int MINUS = 25;
        static final int TIMES = 26;
        static final int OVER = 27;
        static final int LESS = 28;
        static final int AT_MOST = 29;
        static final int EQUAL = 30;
        static final int UNEQUAL = 31;
        static final int AT_LEAST = 32;
        static final int MORE = 33;
        static final int END = 34;
        static final int BAD = 35;

        private final int[] words = new int[WORD_COUNT];
        private final int[] kinds = new int[MOST_TAPE + 1];
        private final int[] starts = new int[MOST_TAPE + 1];
        private final int[] values = new int[MOST_TAPE + 1];
        private byte[] bytes;
        private int length;
        private int at;
        private int current;
        int count;
        int kind;
        int start;
        int value;

        Scanner() {
            int word = 0;
            int many = 0;
            for (int i = 0; i < WORDS.length() && word < WORD_COUNT; i++) {
                char sign = WORDS.charAt(i);
                if (sign == ' ') {
                    word++;
                    many = 0;
                } else {
                    words[word] |= letterBits(sign, many);
                    many++;
                }
            }
        }

        void scan(byte[] source, int sourceLength) {
            bytes = source;
            length = Math.min(MOST_TAPE, Math.min(sourceLength, source.length));
            at = 0;
            count = 0;
            kind = NAME;
            for (int i = 0; i <= length && kind != END; i++) {
                cut();
                kinds[i] = kind;
                starts[i] = start;
                values[i] = value;
                count++;
            }
            current = NONE;
            advance();
        }

        /** The last token is the end of the text, and it is never left. */
        void advance() {
            if (current + 1 < count) {
                current++;
                kind = kinds[current];
                start = starts[current];
                value = values[current];
            }
        }

        private void cut() {
            while (at < length && (signAt(at) == 10 || signAt(at) == 32)) {
                at++;
            }
            start = at;
            value = 0;
            if (at >= length) {
                kind = END;
            } else if (isLetter(signAt(at))) {
                cutWord();
            } else if (isDigit(signAt(at))) {
                cutNumber();
            } else {
                cutSign();
            }
        }

        private int signAt(int place) {
            return place >= 0 && place < length ? bytes[place] & 255 : 0;
        }

        private void cutWord() {
            int many = 0;
            while (at < length && isLetter(signAt(at))) {
                value |= letterBits(signAt(at), many);
                many++;
                at++;
            }
            kind = many > MOST_LETTERS ? BAD : kindOfWord(value);
        }

        private int kindOfWord(int letters) {
            for (int word = 0; word < WORD_COUNT; word++) {
                if (words[word] == letters) {
                    return word;
                }
            }
            return NAME;
        }

        private void cutNumber() {
            kind = NUMBER;
            while (at < length && isDigit(signAt(at))) {
                value = Math.min(MOST_NUMBER, value * 10 + signAt(at) - '0');
                at++;
            }
        }

        private void cutSign() {
            int sign = signAt(at);
            int next = signAt(at + 1);
            at++;
            if (sign == '<' && next == '>') {
                kind = UNEQUAL;
                at++;
            } else if ((sign == '<' || sign == '>') && next == '=') {
                kind = sign == '<' ? AT_MOST : AT_LEAST;
                at++;
            } else {
                kind = kindOfSign(sign);
            }
        }

        private static int kindOfSign(int sign) {
            switch (sign) {
                case ';':
                    return SEMICOLON;
                case '(':
                    return OPEN;
                case ')':
                    return CLOSE;
                case '+':
                    return PLUS;
                case '-':
                    return MINUS;
                case '*':
                    return TIMES;
                case '/':
                    return OVER;
                case '<':
                    return LESS;
                case '=':
                    return EQUAL;
                case '>':
                    return MORE;
                default:
                    return BAD;
            }
        }

        private static boolean isLetter(int sign) {
            return sign >= 'a' && sign <= 'z';
        }

        private static boolean isDigit(int sign) {
            return sign >= '0' && sign <= '9';
        }

        /** Five bits of a letter; letters behind the sixth have none. */
        private static int letterBits(int sign, int place) {
            int shift = 5 * (MOST_LETTERS - 1 - place);
            return shift >= 0 ? (sign - 'a' + 1) << shift : 0;
        }
    }

    /** Reads a text. After its first fault every step does nothing, so that the first one stays. */
    private static final class Reader {
        static final int MISPLACED = 1;
        static final int TOO_MUCH = 2;
        static final int TWICE = 3;
        static final int UNTOLD = 4;
        static final int MOST_OPEN = 8;
        static final int MOST_LAW_NUMBER = 9999;
        static final int COMPARING = 4;

        private final Scanner scanner = new Scanner();
        private final int[] signs = new int[Text.MOST_KNOTS + MOST_OPEN];
        private final boolean[] isCompared = new boolean[MOST_OPEN + 1];
        private Text text;
        private Law law;
        private int height;
        private int open;
        private boolean mayNegate;
        int fault = 0;
        int place = NONE;

        boolean isRead(byte[] bytes, int length, Text into) {
            text = into;
            text.clear();
            fault = 0;
            place = NONE;
            scanner.scan(bytes, length);
            for (int i = 0; i < scanner.count && fault == 0 && scanner.kind != Scanner.END; i++) {
                readLine();
            }
            return fault == 0;
        }

        private void fail(int which) {
            if (fault == 0) {
                fault = which;
                place = scanner.start;
            }
        }

        private void readLine() {
            switch (scanner.kind) {
                case Scanner.HAND:
                    readHand();
                    break;
                case Scanner.WOOD:
                    readWood();
                    break;
                case Scanner.RAP:
                    readRap();
                    break;
                case Scanner.LIKE:
                    readLike();
                    break;
                case Scanner.SEED:
                    readSeed();
                    break;
                case Scanner.LAW:
                    readLaw();
                    break;
                default:
                    fail(MISPLACED);
            }
            take(Scanner.SEMICOLON);
            text.lines++;
        }

        private void take(int kind) {
            if (scanner.kind != kind) {
                fail(MISPLACED);
            }
            if (fault == 0) {
                scanner.advance();
            }
        }

        private int takeNumber(int least, int most) {
            int value = scanner.value;
            if (scanner.kind != Scanner.NUMBER) {
                fail(MISPLACED);
            } else if (value < least || value > most) {
                fail(TOO_MUCH);
            }
            take(Scanner.NUMBER);
            return value;
        }

        private int takeNewName(boolean isOfHand) {
            int letters = scanner.value;
            if (scanner.kind != Scanner.NAME) {
                fail(MISPLACED);
            } else if ((isOfHand ? text.handOf(letters) : text.woodOf(letters)) != NONE) {
                fail(TWICE);
            }
            take(Scanner.NAME);
            return letters;
        }

        private int takeToldName(boolean isOfHand) {
            int which = isOfHand ? text.handOf(scanner.value) : text.woodOf(scanner.value);
            if (scanner.kind != Scanner.NAME) {
                fail(MISPLACED);
            } else if (which == NONE) {
                fail(UNTOLD);
            }
            take(Scanner.NAME);
            return which;
        }

        private void readHand() {
            if (text.handCount >= MOST_HANDS) {
                fail(TOO_MUCH);
                return;
            }
            take(Scanner.HAND);
            Hand hand = text.hands[text.handCount];
            hand.name = takeNewName(true);
            hand.cold = takeNumber(0, MOST_COLD);
            hand.aged = takeNumber(0, 99);
            for (int k = 0; k < BEATS; k++) {
                hand.beats[k] = takeNumber(1, 4);
            }
            if (fault == 0) {
                hand.measure();
                text.handCount++;
            }
        }

        private void readWood() {
            if (text.woodCount >= MOST_WOODS) {
                fail(TOO_MUCH);
                return;
            }
            take(Scanner.WOOD);
            Wood wood = text.woods[text.woodCount];
            wood.name = takeNewName(false);
            wood.keeps = takeNumber(0, 99);
            wood.hard = takeNumber(0, 9);
            wood.owner = takeToldName(true);
            if (fault == 0) {
                text.woodCount++;
            }
        }

        private void readRap() {
            if (text.rapCount >= MOST_RAPS) {
                fail(TOO_MUCH);
                return;
            }
            take(Scanner.RAP);
            Rap rap = text.raps[text.rapCount];
            rap.hand = takeToldName(true);
            rap.wood = takeToldName(false);
            rap.day = takeNumber(0, 99);
            if (fault == 0) {
                text.rapCount++;
            }
        }

        private void readLike() {
            if (text.isLikeTold) {
                fail(TWICE);
            }
            take(Scanner.LIKE);
            text.like = takeNumber(0, MOST_LIKE);
            text.isLikeTold = true;
        }

        private void readSeed() {
            if (text.isSeedTold) {
                fail(TWICE);
            }
            take(Scanner.SEED);
            text.seed = takeNumber(0, 99999);
            text.isSeedTold = true;
        }

        private void readLaw() {
            take(Scanner.LAW);
            int kind = scanner.kind;
            if (kind < Scanner.SHAKE || kind > Scanner.FADE) {
                fail(MISPLACED);
                return;
            }
            law = text.laws[kind - Scanner.SHAKE];
            if (law.length > 0) {
                fail(TWICE);
            }
            take(kind);
            readExpression();
        }

        /** By ranks of signs with a stack of those that wait, so that no depth of calls grows with the text. */
        private void readExpression() {
            height = 0;
            open = 0;
            isCompared[0] = false;
            mayNegate = true;
            boolean isWanted = true;
            boolean isOver = false;
            for (int i = 0; i < scanner.count && fault == 0 && !isOver; i++) {
                if (isWanted && scanner.kind == Scanner.NOT && mayNegate) {
                    readNot();
                } else if (isWanted && scanner.kind == Scanner.OPEN) {
                    openBracket();
                } else if (isWanted) {
                    readOperand();
                    isWanted = false;
                } else if (scanner.kind == Scanner.CLOSE && open > 0) {
                    closeBracket();
                } else if (isBetween(scanner.kind)) {
                    readSign();
                    isWanted = true;
                } else {
                    isOver = true;
                }
            }
            if (open > 0) {
                fail(MISPLACED);
            }
            release(1);
        }

        private void readOperand() {
            int kind = scanner.kind;
            boolean isName = kind >= Scanner.COLD && kind <= Scanner.DAY;
            if (!isName && kind != Scanner.NUMBER) {
                fail(MISPLACED);
            } else if (!isName && scanner.value > MOST_LAW_NUMBER) {
                fail(TOO_MUCH);
            }
            countKnot();
            emit(isName ? -kind : scanner.value);
            take(kind);
        }

        private void readNot() {
            countKnot();
            push(Scanner.NOT);
            take(Scanner.NOT);
        }

        private void openBracket() {
            if (open >= MOST_OPEN) {
                fail(TOO_MUCH);
                return;
            }
            open++;
            isCompared[open] = false;
            mayNegate = true;
            push(Scanner.OPEN);
            take(Scanner.OPEN);
        }

        private void closeBracket() {
            release(1);
            if (height > 0) {
                height--;
            }
            open--;
            take(Scanner.CLOSE);
        }

        private void readSign() {
            int sign = scanner.kind;
            int rank = rankOf(sign);
            if (rank == COMPARING && isCompared[open]) {
                fail(MISPLACED);
            }
            countKnot();
            release(rank);
            push(sign);
            mayNegate = sign == Scanner.AND || sign == Scanner.OR;
            if (mayNegate) {
                isCompared[open] = false;
            } else if (rank == COMPARING) {
                isCompared[open] = true;
            }
            take(sign);
        }

        private void countKnot() {
            if (text.knots >= Text.MOST_KNOTS) {
                fail(TOO_MUCH);
            }
            if (fault == 0) {
                text.knots++;
            }
        }

        private void push(int sign) {
            if (fault == 0 && height < signs.length) {
                signs[height] = sign;
                height++;
            }
        }

        /** Signs that wait and bind at least so tightly come behind their operands. */
        private void release(int rank) {
            while (height > 0 && rankOf(signs[height - 1]) >= rank) {
                height--;
                emit(-signs[height]);
            }
        }

        private void emit(int code) {
            if (fault == 0 && law.length < law.codes.length) {
                law.codes[law.length] = code;
                law.length++;
            }
        }

        private static boolean isBetween(int kind) {
            return kind != Scanner.NOT && rankOf(kind) > 0;
        }

        private static int rankOf(int kind) {
            switch (kind) {
                case Scanner.OR:
                    return 1;
                case Scanner.AND:
                    return 2;
                case Scanner.NOT:
                    return 3;
                case Scanner.PLUS:
                case Scanner.MINUS:
                    return 5;
                case Scanner.TIMES:
                case Scanner.OVER:
                    return 6;
                default:
                    return kind >= Scanner.LESS && kind <= Scanner.MORE ? COMPARING : 0;
            }
        }
    }

    /** A law's E, each sign behind its operands: a code from 0 on is a number, one below 0 the kind of a token. */
    private static final class Law {
        static final long ERROR = Long.MIN_VALUE;
        static final long MOST = 1000000000000L;

        final int[] codes = new int[Text.MOST_KNOTS];
        private final long[] stack = new long[Text.MOST_KNOTS];
        int length = 0;

        /** Its value by the values of cold, aged, hard, beat, place, raps, day; an ERROR too, if it isn't told. */
        long value(long[] names) {
            int top = 0;
            for (int i = 0; i < length; i++) {
                int code = codes[i];
                int kind = -code;
                if (code >= 0) {
                    stack[top] = code;
                    top++;
                } else if (kind >= Scanner.COLD && kind <= Scanner.DAY) {
                    stack[top] = names[kind - Scanner.COLD];
                    top++;
                } else if (kind == Scanner.NOT && top > 0) {
                    stack[top - 1] = stack[top - 1] == 0 ? 1 : 0;
                } else if (top > 1) {
                    top--;
                    stack[top - 1] = joined(kind, stack[top - 1], stack[top]);
                    if (stack[top - 1] == ERROR) {
                        return ERROR;
                    }
                }
            }
            return top == 1 ? stack[0] : ERROR;
        }

        private static long joined(int sign, long a, long b) {
            switch (sign) {
                case Scanner.OR:
                    return a != 0 || b != 0 ? 1 : 0;
                case Scanner.AND:
                    return a != 0 && b != 0 ? 1 : 0;
                case Scanner.LESS:
                    return a < b ? 1 : 0;
                case Scanner.AT_MOST:
                    return a <= b ? 1 : 0;
                case Scanner.EQUAL:
                    return a == b ? 1 : 0;
                case Scanner.UNEQUAL:
                    return a != b ? 1 : 0;
                case Scanner.AT_LEAST:
                    return a >= b ? 1 : 0;
                case Scanner.MORE:
                    return a > b ? 1 : 0;
                case Scanner.PLUS:
                    return a + b > MOST || a + b < -MOST ? ERROR : a + b;
                case Scanner.MINUS:
                    return a - b > MOST || a - b < -MOST ? ERROR : a - b;
                case Scanner.TIMES:
                    // looked at ahead: the product of two values within the limit may be beyond a long
                    return a != 0 && Math.abs(b) > MOST / Math.abs(a) ? ERROR : a * b;
                case Scanner.OVER:
                    return b == 0 ? ERROR : a / b;
                default:
                    return ERROR;
            }
        }
    }

    private static final class Hand {
        final int[] beats = new int[BEATS];
        /** How far it is from each half of a knock: the first three beats, then the last three. */
        private final int[] gaps = new int[2 * HALVES];
        int name;
        int cold;
        int aged;

        void measure() {
            for (int i = 0; i < 2 * HALVES; i++) {
                int first = i < HALVES ? 0 : 3;
                int gap = 0;
                for (int k = 0; k < 3; k++) {
                    gap += Math.abs(beats[first + k] - beatOfHalf(i, k));
                }
                gaps[i] = gap;
            }
        }

        /** For each half of a knock, how many of its beats are others than this hand's. */
        void countChanges(int[] changes) {
            for (int i = 0; i < 2 * HALVES; i++) {
                int first = i < HALVES ? 0 : 3;
                int changed = 0;
                for (int k = 0; k < 3; k++) {
                    changed += beats[first + k] == beatOfHalf(i, k) ? 0 : 1;
                }
                changes[i] = changed;
            }
        }

        private static int beatOfHalf(int half, int k) {
            return ((half >> (4 - 2 * k)) & 3) + 1;
        }

        int apartFromCode(int code) {
            int high = (code / HALVES) & (HALVES - 1);
            int low = code & (HALVES - 1);
            return gaps[high] + gaps[HALVES + low];
        }

        int apartFrom(int[] others) {
            int apart = 0;
            for (int k = 0; k < BEATS; k++) {
                apart += Math.abs(beats[k] - others[k]);
            }
            return apart;
        }

        boolean canSound(int[] knock) {
            for (int k = 0; k < BEATS; k++) {
                if (knock[k] != beats[k] && knock[k] != beats[k] + 1) {
                    return false;
                }
            }
            return true;
        }

        boolean isUnlike(Hand other, int places) {
            for (int k = 0; k < BEATS; k++) {
                if ((places >> k & 1) != 0 && beats[k] != other.beats[k]) {
                    return true;
                }
            }
            return false;
        }

        boolean masks(Hand next) {
            return beats[BEATS - 1] == next.beats[0];
        }
    }

    private static final class Wood {
        int name;
        int keeps;
        int hard;
        int owner;
    }

    private static final class Rap {
        int hand;
        int wood;
        int day;
    }

    /** What a text tells; nothing done by call changes it. */
    private static final class Text {
        static final int MOST_KNOTS = 64;
        static final int LIKE_UNTOLD = 3;
        static final int SHAKE = 0;
        static final int NEAR = 1;
        static final int FADE = 2;

        final Hand[] hands = new Hand[MOST_HANDS];
        final Wood[] woods = new Wood[MOST_WOODS];
        final Rap[] raps = new Rap[MOST_RAPS];
        final Law[] laws = new Law[3];
        int handCount = 0;
        int woodCount = 0;
        int rapCount = 0;
        int like = LIKE_UNTOLD;
        int seed = 0;
        boolean isLikeTold = false;
        boolean isSeedTold = false;
        int knots = 0;
        int lines = 0;
        int newCode = NONE;
        int newApart = NONE;

        Text() {
            for (int i = 0; i < MOST_HANDS; i++) {
                hands[i] = new Hand();
            }
            for (int i = 0; i < MOST_WOODS; i++) {
                woods[i] = new Wood();
            }
            for (int i = 0; i < MOST_RAPS; i++) {
                raps[i] = new Rap();
            }
            for (int i = 0; i < 3; i++) {
                laws[i] = new Law();
            }
        }

        void clear() {
            handCount = 0;
            woodCount = 0;
            rapCount = 0;
            like = LIKE_UNTOLD;
            seed = 0;
            isLikeTold = false;
            isSeedTold = false;
            knots = 0;
            lines = 0;
            newCode = NONE;
            newApart = NONE;
            for (int i = 0; i < 3; i++) {
                laws[i].length = 0;
            }
        }

        int handOf(int letters) {
            for (int i = 0; i < handCount; i++) {
                if (hands[i].name == letters) {
                    return i;
                }
            }
            return NONE;
        }

        int woodOf(int letters) {
            for (int i = 0; i < woodCount; i++) {
                if (woods[i].name == letters) {
                    return i;
                }
            }
            return NONE;
        }

        /** Found once a text: knocks stay as they are told. */
        void findNew() {
            if (newCode != NONE) {
                return;
            }
            for (int code = 0; code < HALVES * HALVES; code++) {
                int least = leastApart(code, newApart);
                if (least > newApart) {
                    newApart = least;
                    newCode = code;
                }
            }
        }

        /** Looks no further, once it is not above the floor. */
        private int leastApart(int code, int floor) {
            int least = MOST_LIKE;
            for (int i = 0; i < handCount && least > floor; i++) {
                least = Math.min(least, hands[i].apartFromCode(code));
            }
            return least;
        }

        boolean areToldApart(int places) {
            for (int one = 0; one < handCount; one++) {
                for (int other = one + 1; other < handCount; other++) {
                    if (!hands[one].isUnlike(hands[other], places)) {
                        return false;
                    }
                }
            }
            return true;
        }

        /** How many raps of its hand come ahead of a rap, by days, then by numbers. */
        int rapsAhead(int rap) {
            int many = 0;
            for (int i = 0; i < rapCount; i++) {
                boolean isAhead = raps[i].day < raps[rap].day || raps[i].day == raps[rap].day && i < rap;
                if (isAhead && raps[i].hand == raps[rap].hand) {
                    many++;
                }
            }
            return many;
        }
    }

    /** How things stand on a day; a copy of it is tried without changing it. */
    private static final class Scene {
        static final int AWAITED = 0;
        static final int BOUND = 1;
        static final int VOID = 2;
        static final int LONGER_FROM = 50;
        static final int ALWAYS = 100;
        static final long SURE = 1000000000000L;
        static final int HARDEST = 9;

        private Text text;
        final int[] cold = new int[MOST_HANDS];
        final int[] aged = new int[MOST_HANDS];
        final int[] rapped = new int[MOST_HANDS];
        final int[] hard = new int[MOST_WOODS];
        final int[] owner = new int[MOST_WOODS];
        final int[] wood = new int[MOST_RAPS];
        final int[] when = new int[MOST_RAPS];
        final int[] status = new int[MOST_RAPS];
        final int[] bound = new int[MOST_RAPS];
        final int[] heard = new int[MOST_RAPS];
        final int[] ear = new int[BEATS];
        private final long[] names = new long[7];
        int day;
        int number;
        int like;
        int silent;
        int faded;

        void begin(Text told) {
            text = told;
            day = 0;
            faded = 0;
            number = told.seed;
            like = told.like;
            silent = NONE;
            for (int i = 0; i < MOST_HANDS; i++) {
                cold[i] = told.hands[i].cold;
                aged[i] = told.hands[i].aged;
                rapped[i] = 0;
            }
            for (int i = 0; i < MOST_WOODS; i++) {
                hard[i] = told.woods[i].hard;
                owner[i] = told.woods[i].owner;
            }
            for (int i = 0; i < MOST_RAPS; i++) {
                wood[i] = told.raps[i].wood;
                when[i] = told.raps[i].day;
                status[i] = AWAITED;
                bound[i] = NONE;
                heard[i] = 0;
            }
        }

        void copyOf(Scene other) {
            text = other.text;
            day = other.day;
            number = other.number;
            like = other.like;
            silent = other.silent;
            faded = other.faded;
            System.arraycopy(other.cold, 0, cold, 0, MOST_HANDS);
            System.arraycopy(other.aged, 0, aged, 0, MOST_HANDS);
            System.arraycopy(other.rapped, 0, rapped, 0, MOST_HANDS);
            System.arraycopy(other.hard, 0, hard, 0, MOST_WOODS);
            System.arraycopy(other.owner, 0, owner, 0, MOST_WOODS);
            System.arraycopy(other.wood, 0, wood, 0, MOST_RAPS);
            System.arraycopy(other.when, 0, when, 0, MOST_RAPS);
            System.arraycopy(other.status, 0, status, 0, MOST_RAPS);
            System.arraycopy(other.bound, 0, bound, 0, MOST_RAPS);
            System.arraycopy(other.heard, 0, heard, 0, MOST_RAPS);
        }

        /** A law's E; an ERROR for a law that isn't told. */
        long worth(int which, int hand, int onWood, int beat, int place) {
            setNames(hand, onWood, beat, place);
            return text.laws[which].value(names);
        }

        private void setNames(int hand, int onWood, int beat, int place) {
            names[0] = cold[hand];
            names[1] = aged[hand];
            names[2] = hard[onWood];
            names[3] = beat;
            names[4] = place;
            names[5] = rapped[hand];
            names[6] = day;
        }

        int shake(int hand, int onWood, int place) {
            setNames(hand, onWood, text.hands[hand].beats[place], place);
            int untold = 8 * cold[hand] + aged[hand] / 5 - 5 * hard[onWood];
            return within(text.laws[Text.SHAKE].value(names), untold, ALWAYS);
        }

        /** How far apart a knock may be from the hand's, by how far it is. */
        int reach(int hand, int onWood, int far) {
            setNames(hand, onWood, far, 0);
            return within(text.laws[Text.NEAR].value(names), like, MOST_APART);
        }

        private int fade(int rap) {
            setNames(text.raps[rap].hand, wood[rap], 0, 0);
            return within(text.laws[Text.FADE].value(names), text.woods[wood[rap]].keeps, MOST_SPAN);
        }

        private static int within(long worth, int otherwise, int most) {
            long value = worth == Law.ERROR ? otherwise : worth;
            return (int) Math.max(0, Math.min(most, value));
        }

        /** Days go by, by numbers or as it goes; what fades is left out where nobody looks at it. */
        void pass(int n, boolean isDrawn, boolean isFading) {
            for (int i = 0; i < n; i++) {
                if (isFading) {
                    fadeAll();
                }
                for (int rap = 0; rap < text.rapCount; rap++) {
                    boolean isDue = status[rap] == AWAITED && when[rap] == day;
                    if (isDue && text.raps[rap].hand != silent) {
                        rapOnce(rap, isDrawn);
                    }
                }
                day++;
            }
        }

        private void fadeAll() {
            for (int rap = 0; rap < text.rapCount; rap++) {
                boolean isFresh = status[rap] != AWAITED && !isFaded(rap);
                if (isFresh && day - when[rap] > fade(rap)) {
                    faded |= 1 << rap;
                }
            }
        }

        private void rapOnce(int rap, boolean isDrawn) {
            int hand = text.raps[rap].hand;
            listen(hand, wood[rap], isDrawn);
            int who = whoKnocks(ear, wood[rap]);
            heard[rap] = digitsOf(ear);
            status[rap] = who >= 0 ? BOUND : VOID;
            bound[rap] = who >= 0 ? who : NONE;
            rapped[hand]++;
        }

        /** What a hand raps comes into the ear. */
        void listen(int hand, int onWood, boolean isDrawn) {
            for (int k = 0; k < BEATS; k++) {
                int shake = shake(hand, onWood, k);
                boolean isLonger = isDrawn ? isAboveDrawn(shake) : shake >= LONGER_FROM;
                ear[k] = text.hands[hand].beats[k] + (isLonger ? 1 : 0);
            }
        }

        /** What is sure either way draws no number. */
        private boolean isAboveDrawn(int shake) {
            if (shake <= 0 || shake >= ALWAYS) {
                return shake >= ALWAYS;
            }
            number = (number * 1103515245 + 12345) & Integer.MAX_VALUE;
            return shake > number / 65536 % 100;
        }

        /** The hand that a knock is bound to; NO_ANSWER: it is void. */
        int whoKnocks(int[] knock, int onWood) {
            int who = NO_ANSWER;
            int least = Integer.MAX_VALUE;
            for (int hand = 0; hand < text.handCount; hand++) {
                int far = text.hands[hand].apartFrom(knock);
                if (far < least) {
                    least = far;
                    who = hand;
                }
            }
            return who >= 0 && least <= reach(who, onWood, least) ? who : NO_ANSWER;
        }

        /** Of SURE times, how many all six beats are heard as told. */
        long rightly(int hand, int onWood) {
            long rightly = 1;
            for (int k = 0; k < BEATS; k++) {
                rightly *= ALWAYS - shake(hand, onWood, k);
            }
            return rightly;
        }

        int manyOf(int wanted) {
            int many = 0;
            for (int rap = 0; rap < text.rapCount; rap++) {
                many += status[rap] == wanted ? 1 : 0;
            }
            return many;
        }

        int manyWrong() {
            int many = 0;
            for (int rap = 0; rap < text.rapCount; rap++) {
                many += status[rap] == BOUND && bound[rap] != text.raps[rap].hand ? 1 : 0;
            }
            return many;
        }

        int manyBoundTo(int hand) {
            int many = 0;
            for (int rap = 0; rap < text.rapCount; rap++) {
                many += bound[rap] == hand ? 1 : 0;
            }
            return many;
        }

        boolean isFaded(int rap) {
            return (faded >> rap & 1) != 0;
        }

        int freshOn(int onWood) {
            int bits = 0;
            for (int rap = 0; rap < text.rapCount; rap++) {
                boolean isFresh = status[rap] != AWAITED && !isFaded(rap) && wood[rap] == onWood;
                bits |= isFresh ? 1 << rap : 0;
            }
            return bits;
        }

        void warmAll() {
            for (int i = 0; i < MOST_HANDS; i++) {
                cold[i] = 0;
            }
        }

        void renewAll() {
            for (int i = 0; i < MOST_HANDS; i++) {
                aged[i] = 0;
            }
        }

        void hardenAll() {
            for (int i = 0; i < MOST_WOODS; i++) {
                hard[i] = HARDEST;
            }
        }
    }

    /** What was overheard and struck, and by how many of these it is known. */
    private static final class Overheard {
        static final int MOST = 24;

        final int[] rap = new int[MOST];
        final int[] place = new int[MOST];
        final boolean[] isLonger = new boolean[MOST];
        private final int[] target = new int[MOST];
        private final boolean[] isStruck = new boolean[MOST];
        int size = 0;
        /** Below 0: all are known, also those to come. */
        int limit = NONE;

        void clear() {
            size = 0;
            limit = NONE;
        }

        int add(int ofRap, int atPlace, boolean wasLonger) {
            if (size >= MOST) {
                return NONE;
            }
            rap[size] = ofRap;
            place[size] = atPlace;
            isLonger[size] = wasLonger;
            target[size] = NONE;
            size++;
            return size - 1;
        }

        int addStrike(int struck) {
            int number = add(NONE, NONE, false);
            if (number != NONE) {
                target[number] = struck;
            }
            return number;
        }

        int manyKnown() {
            return limit < 0 ? size : limit;
        }

        /** From the last one on, for a strike is only struck by one behind it. */
        void sift() {
            for (int i = 0; i < size; i++) {
                isStruck[i] = false;
            }
            for (int i = manyKnown() - 1; i >= 0; i--) {
                if (target[i] != NONE && !isStruck[i]) {
                    isStruck[target[i]] = true;
                }
            }
        }

        /** Whether one overheard counts, and is no strike; behind sift() alone. */
        boolean counts(int i) {
            return target[i] == NONE && !isStruck[i];
        }
    }

    /** What was done by call and can be undone. */
    private static final class Deeds {
        static final int MOST = 20;
        static final int FIELDS = 4;
        static final int WARMED = 0;
        static final int ORDERED = 1;
        static final int SOLD = 2;
        static final int PLANED = 3;

        private final int[] rows = new int[MOST * FIELDS];
        int size = 0;
        int kind;
        int which;
        int first;
        int second;

        void clear() {
            size = 0;
        }

        /** The first and the second are what stood there ahead. */
        void add(int newKind, int newWhich, int newFirst, int newSecond) {
            if (size >= MOST) {
                System.arraycopy(rows, FIELDS, rows, 0, (MOST - 1) * FIELDS);
                size = MOST - 1;
            }
            int at = size * FIELDS;
            rows[at] = newKind;
            rows[at + 1] = newWhich;
            rows[at + 2] = newFirst;
            rows[at + 3] = newSecond;
            size++;
        }

        void takeLast() {
            if (size <= 0) {
                return;
            }
            size--;
            int at = size * FIELDS;
            kind = rows[at];
            which = rows[at + 1];
            first = rows[at + 2];
            second = rows[at + 3];
        }
    }

    /** The row of hands in which fewest are masked. */
    private static final class Row {
        final int[] hands = new int[MOST_HANDS];
        private final int[] fewest = new int[(1 << MOST_HANDS) * MOST_HANDS];
        private Text text;
        int length;
        int masked;

        void lay(Text told, int bits) {
            text = told;
            for (int rest = 0; rest < bits; rest++) {
                if ((rest & ~bits) == 0) {
                    weigh(rest);
                }
            }
            length = 0;
            masked = 0;
            int left = bits;
            int last = NONE;
            for (int i = 0; i < MOST_HANDS && left != 0; i++) {
                int next = bestNext(left, last);
                masked += isMasked(last, next) ? 1 : 0;
                hands[i] = next;
                length++;
                left &= ~(1 << next);
                last = next;
            }
        }

        /** For each hand ahead: how few of the rest are masked at best; lesser rests are weighed already. */
        private void weigh(int rest) {
            for (int last = 0; last < text.handCount; last++) {
                int next = bestNext(rest, last);
                fewest[rest * MOST_HANDS + last] = rest == 0 ? 0 : costOf(rest, last, next);
            }
        }

        private int bestNext(int rest, int last) {
            int best = 0;
            int least = Integer.MAX_VALUE;
            for (int next = 0; next < text.handCount; next++) {
                if ((rest >> next & 1) != 0 && costOf(rest, last, next) < least) {
                    least = costOf(rest, last, next);
                    best = next;
                }
            }
            return best;
        }

        private int costOf(int rest, int last, int next) {
            int left = rest & ~(1 << next);
            return (isMasked(last, next) ? 1 : 0) + fewest[left * MOST_HANDS + next];
        }

        private boolean isMasked(int last, int next) {
            return last != NONE && text.hands[last].masks(text.hands[next]);
        }
    }
}
