import java.math.BigInteger;
import java.util.ArrayList;
import java.util.Arrays;
import java.util.Comparator;
import java.util.HashMap;
import java.util.List;
import java.util.Map;

/** The document once more, slowly and by other means: trees, whole runs from the text on, all orders tried. */
final class Model {
    static final List<String> LANGUAGE = List.of("hand", "wood", "rap", "like", "seed", "law", "shake", "near",
        "fade", "or", "and", "not", "cold", "aged", "hard", "beat", "place", "raps", "day");
    static final List<String> NAMES = List.of("cold", "aged", "hard", "beat", "place", "raps", "day");
    static final BigInteger MOST = BigInteger.TEN.pow(12);

    static final class Fault extends RuntimeException {
        final int kind;
        final int place;

        Fault(int kind, int place) {
            this.kind = kind;
            this.place = place;
        }
    }

    static final class Wrong extends RuntimeException {
    }

    record Token(String what, int place) {
        boolean isWord() {
            return Character.isLowerCase(what.charAt(0)) && what.charAt(0) < 128;
        }

        boolean isNumber() {
            return what.charAt(0) >= '0' && what.charAt(0) <= '9';
        }
    }

    record Tree(String what, Tree left, Tree right) {
        BigInteger value(Map<String, Integer> names) {
            BigInteger a = left == null ? null : left.value(names);
            BigInteger b = right == null ? null : right.value(names);
            BigInteger v = plain(a, b, names);
            if (v.abs().compareTo(MOST) > 0) {
                throw new Wrong();
            }
            return v;
        }

        private BigInteger plain(BigInteger a, BigInteger b, Map<String, Integer> names) {
            switch (what) {
                case "+":
                    return a.add(b);
                case "-":
                    return a.subtract(b);
                case "*":
                    return a.multiply(b);
                case "/":
                    if (b.signum() == 0) {
                        throw new Wrong();
                    }
                    return a.divide(b);
                case "not":
                    return bit(a.signum() == 0);
                case "and":
                    return bit(a.signum() != 0 && b.signum() != 0);
                case "or":
                    return bit(a.signum() != 0 || b.signum() != 0);
                case "<":
                    return bit(a.compareTo(b) < 0);
                case "<=":
                    return bit(a.compareTo(b) <= 0);
                case "=":
                    return bit(a.compareTo(b) == 0);
                case "<>":
                    return bit(a.compareTo(b) != 0);
                case ">=":
                    return bit(a.compareTo(b) >= 0);
                case ">":
                    return bit(a.compareTo(b) > 0);
                default:
                    return names.containsKey(what) ? BigInteger.valueOf(names.get(what)) : new BigInteger(what);
            }
        }

        private static BigInteger bit(boolean is) {
            return is ? BigInteger.ONE : BigInteger.ZERO;
        }
    }

    record Hand(String name, int cold, int aged, int[] beats) {
    }

    record Wood(String name, int keeps, int hard, int owner) {
    }

    record Rap(int hand, int wood, int day) {
    }

    static final class Told {
        List<Hand> hands = new ArrayList<>();
        List<Wood> woods = new ArrayList<>();
        List<Rap> raps = new ArrayList<>();
        Integer like = null;
        Integer seed = null;
        Map<String, Tree> laws = new HashMap<>();
        int knots = 0;
        int lines = 0;
    }

    /** Recursive descent over the document's grammar. */
    static final class Parser {
        final String text;
        final List<Token> tokens = new ArrayList<>();
        final Told told = new Told();
        int at = 0;
        int open = 0;

        Parser(String text) {
            this.text = text;
            int i = 0;
            while (i < text.length()) {
                char c = text.charAt(i);
                int from = i;
                if (c == 10 || c == 32) {
                    i++;
                    continue;
                }
                if (c >= 'a' && c <= 'z') {
                    while (i < text.length() && text.charAt(i) >= 'a' && text.charAt(i) <= 'z') {
                        i++;
                    }
                } else if (c >= '0' && c <= '9') {
                    while (i < text.length() && text.charAt(i) >= '0' && text.charAt(i) <= '9') {
                        i++;
                    }
                } else if (text.startsWith("<=", i) || text.startsWith(">=", i) || text.startsWith("<>", i)) {
                    i += 2;
                } else {
                    i++;
                }
                tokens.add(new Token(text.substring(from, i), from));
            }
        }

        int place() {
            return at < tokens.size() ? tokens.get(at).place : text.length();
        }

        String peek() {
            return at < tokens.size() ? tokens.get(at).what : "";
        }

        Token word() {
            if (at >= tokens.size() || !tokens.get(at).isWord() || peek().length() > 6) {
                throw new Fault(1, place());
            }
            return tokens.get(at++);
        }

        Token name() {
            Token token = word();
            if (LANGUAGE.contains(token.what)) {
                throw new Fault(1, token.place);
            }
            return token;
        }

        int number(int least, int most) {
            if (at >= tokens.size() || !tokens.get(at).isNumber()) {
                throw new Fault(1, place());
            }
            BigInteger value = new BigInteger(peek());
            if (value.compareTo(BigInteger.valueOf(least)) < 0 || value.compareTo(BigInteger.valueOf(most)) > 0) {
                throw new Fault(2, place());
            }
            at++;
            return value.intValue();
        }

        int handNamed(String name) {
            for (int i = 0; i < told.hands.size(); i++) {
                if (told.hands.get(i).name.equals(name)) {
                    return i;
                }
            }
            return -1;
        }

        int woodNamed(String name) {
            for (int i = 0; i < told.woods.size(); i++) {
                if (told.woods.get(i).name.equals(name)) {
                    return i;
                }
            }
            return -1;
        }

        int toldHand() {
            Token name = name();
            if (handNamed(name.what) < 0) {
                throw new Fault(4, name.place);
            }
            return handNamed(name.what);
        }

        int toldWood() {
            Token name = name();
            if (woodNamed(name.what) < 0) {
                throw new Fault(4, name.place);
            }
            return woodNamed(name.what);
        }

        Told parse() {
            while (at < tokens.size()) {
                line(word());
                if (!peek().equals(";")) {
                    throw new Fault(1, place());
                }
                at++;
                told.lines++;
            }
            return told;
        }

        void line(Token first) {
            switch (first.what) {
                case "hand": {
                    limit(told.hands.size() < 6, first);
                    Token name = name();
                    if (handNamed(name.what) >= 0) {
                        throw new Fault(3, name.place);
                    }
                    int cold = number(0, 9);
                    int aged = number(0, 99);
                    int[] beats = new int[6];
                    for (int k = 0; k < 6; k++) {
                        beats[k] = number(1, 4);
                    }
                    told.hands.add(new Hand(name.what, cold, aged, beats));
                    break;
                }
                case "wood": {
                    limit(told.woods.size() < 4, first);
                    Token name = name();
                    if (woodNamed(name.what) >= 0) {
                        throw new Fault(3, name.place);
                    }
                    int keeps = number(0, 99);
                    int hard = number(0, 9);
                    told.woods.add(new Wood(name.what, keeps, hard, toldHand()));
                    break;
                }
                case "rap": {
                    limit(told.raps.size() < 10, first);
                    int hand = toldHand();
                    int wood = toldWood();
                    told.raps.add(new Rap(hand, wood, number(0, 99)));
                    break;
                }
                case "like":
                    once(told.like == null, first);
                    told.like = number(0, 24);
                    break;
                case "seed":
                    once(told.seed == null, first);
                    told.seed = number(0, 99999);
                    break;
                case "law": {
                    Token law = word();
                    if (!List.of("shake", "near", "fade").contains(law.what)) {
                        throw new Fault(1, law.place);
                    }
                    once(!told.laws.containsKey(law.what), law);
                    told.laws.put(law.what, e());
                    break;
                }
                default:
                    throw new Fault(1, first.place);
            }
        }

        void limit(boolean isWithin, Token token) {
            if (!isWithin) {
                throw new Fault(2, token.place);
            }
        }

        void once(boolean isFirst, Token token) {
            if (!isFirst) {
                throw new Fault(3, token.place);
            }
        }

        void knot() {
            told.knots++;
            limit(told.knots <= 64, tokens.get(at));
        }

        Tree e() {
            Tree tree = a();
            while (peek().equals("or")) {
                knot();
                at++;
                tree = new Tree("or", tree, a());
            }
            return tree;
        }

        Tree a() {
            Tree tree = b();
            while (peek().equals("and")) {
                knot();
                at++;
                tree = new Tree("and", tree, b());
            }
            return tree;
        }

        Tree b() {
            if (peek().equals("not")) {
                knot();
                at++;
                return new Tree("not", b(), null);
            }
            return c();
        }

        Tree c() {
            Tree tree = s();
            String sign = peek();
            if (List.of("<", "<=", "=", "<>", ">=", ">").contains(sign)) {
                knot();
                at++;
                tree = new Tree(sign, tree, s());
            }
            return tree;
        }

        Tree s() {
            Tree tree = t();
            while (peek().equals("+") || peek().equals("-")) {
                String sign = peek();
                knot();
                at++;
                tree = new Tree(sign, tree, t());
            }
            return tree;
        }

        Tree t() {
            Tree tree = p();
            while (peek().equals("*") || peek().equals("/")) {
                String sign = peek();
                knot();
                at++;
                tree = new Tree(sign, tree, p());
            }
            return tree;
        }

        Tree p() {
            if (peek().equals("(")) {
                limit(open < 8, tokens.get(at));
                open++;
                at++;
                Tree tree = e();
                if (!peek().equals(")")) {
                    throw new Fault(1, place());
                }
                at++;
                open--;
                return tree;
            }
            if (NAMES.contains(peek())) {
                knot();
                at++;
                return new Tree(tokens.get(at - 1).what, null, null);
            }
            int value = number(0, 9999);
            at--;
            knot();
            at++;
            return new Tree(String.valueOf(value), null, null);
        }
    }

    /** How it stands; copied whole where something is tried. */
    static final class World {
        Told told;
        int day = 0;
        long number;
        int like;
        int[] cold = new int[6];
        int[] aged = new int[6];
        int[] hard = new int[4];
        int[] owner = new int[4];
        int[] onWood = new int[10];
        int[] onDay = new int[10];
        boolean[] isRapped = new boolean[10];
        int[] bound = new int[10];
        boolean[] isFaded = new boolean[10];
        int[][] heard = new int[10][];
        int mute = -1;

        World(Told told) {
            this.told = told;
            number = told.seed == null ? 0 : told.seed;
            like = told.like == null ? 3 : told.like;
            for (int i = 0; i < told.hands.size(); i++) {
                cold[i] = told.hands.get(i).cold;
                aged[i] = told.hands.get(i).aged;
            }
            for (int i = 0; i < told.woods.size(); i++) {
                hard[i] = told.woods.get(i).hard;
                owner[i] = told.woods.get(i).owner;
            }
            for (int i = 0; i < told.raps.size(); i++) {
                onWood[i] = told.raps.get(i).wood;
                onDay[i] = told.raps.get(i).day;
            }
            Arrays.fill(bound, -1);
        }

        World copy() {
            World w = new World(told);
            w.day = day;
            w.number = number;
            w.like = like;
            w.mute = mute;
            w.cold = cold.clone();
            w.aged = aged.clone();
            w.hard = hard.clone();
            w.owner = owner.clone();
            w.onWood = onWood.clone();
            w.onDay = onDay.clone();
            w.isRapped = isRapped.clone();
            w.bound = bound.clone();
            w.isFaded = isFaded.clone();
            w.heard = heard.clone();
            return w;
        }

        int rapsOf(int hand) {
            int many = 0;
            for (int r = 0; r < told.raps.size(); r++) {
                if (isRapped[r] && told.raps.get(r).hand == hand) {
                    many++;
                }
            }
            return many;
        }

        long e(String law, int hand, int wood, int beat, int place) {
            if (!told.laws.containsKey(law)) {
                return Long.MIN_VALUE;
            }
            Map<String, Integer> names = new HashMap<>();
            names.put("cold", cold[hand]);
            names.put("aged", aged[hand]);
            names.put("hard", hard[wood]);
            names.put("beat", beat);
            names.put("place", place);
            names.put("raps", rapsOf(hand));
            names.put("day", day);
            try {
                return told.laws.get(law).value(names).longValueExact();
            } catch (Wrong e) {
                return Long.MIN_VALUE;
            }
        }

        static long clamp(long value, long otherwise, long most) {
            long v = value == Long.MIN_VALUE ? otherwise : value;
            return v < 0 ? 0 : v > most ? most : v;
        }

        long shake(int hand, int wood, int k) {
            return clamp(e("shake", hand, wood, told.hands.get(hand).beats[k], k),
                8L * cold[hand] + aged[hand] / 5 - 5L * hard[wood], 100);
        }

        int[] heardOf(int hand, int wood, boolean isDrawn) {
            int[] beats = told.hands.get(hand).beats.clone();
            for (int k = 0; k < 6; k++) {
                long e = shake(hand, wood, k);
                boolean isLonger;
                if (!isDrawn) {
                    isLonger = e >= 50;
                } else if (e == 0 || e == 100) {
                    isLonger = e == 100;
                } else {
                    number = (number * 1103515245L + 12345L) % (1L << 31);
                    isLonger = e > number / 65536 % 100;
                }
                if (isLonger) {
                    beats[k]++;
                }
            }
            return beats;
        }

        static int apart(int[] a, int[] b) {
            int sum = 0;
            for (int k = 0; k < 6; k++) {
                sum += a[k] > b[k] ? a[k] - b[k] : b[k] - a[k];
            }
            return sum;
        }

        /** -1 where it is void. */
        int boundTo(int[] knock, int wood) {
            int best = -1;
            for (int h = told.hands.size() - 1; h >= 0; h--) {
                if (best < 0 || apart(knock, told.hands.get(h).beats) <= apart(knock, told.hands.get(best).beats)) {
                    best = h;
                }
            }
            if (best < 0) {
                return -1;
            }
            int far = apart(knock, told.hands.get(best).beats);
            return far <= clamp(e("near", best, wood, far, 0), like, 30) ? best : -1;
        }

        void go(int n, boolean isDrawn) {
            for (int i = 0; i < n; i++) {
                for (int r = 0; r < told.raps.size(); r++) {
                    if (isRapped[r] && !isFaded[r]) {
                        long keeps = clamp(e("fade", told.raps.get(r).hand, onWood[r], 0, 0),
                            told.woods.get(onWood[r]).keeps, 99);
                        isFaded[r] = day - onDay[r] > keeps;
                    }
                }
                for (int r = 0; r < told.raps.size(); r++) {
                    int hand = told.raps.get(r).hand;
                    if (!isRapped[r] && onDay[r] == day && hand != mute) {
                        heard[r] = heardOf(hand, onWood[r], isDrawn);
                        bound[r] = boundTo(heard[r], onWood[r]);
                        isRapped[r] = true;
                    }
                }
                day++;
            }
        }

        int bounds() {
            int many = 0;
            for (int r = 0; r < 10; r++) {
                many += isRapped[r] && bound[r] >= 0 ? 1 : 0;
            }
            return many;
        }

        int voids() {
            int many = 0;
            for (int r = 0; r < 10; r++) {
                many += isRapped[r] && bound[r] < 0 ? 1 : 0;
            }
            return many;
        }

        int wrongs() {
            int many = 0;
            for (int r = 0; r < told.raps.size(); r++) {
                many += bound[r] >= 0 && bound[r] != told.raps.get(r).hand ? 1 : 0;
            }
            return many;
        }

        int fadedBits() {
            int bits = 0;
            for (int r = 0; r < 10; r++) {
                bits |= isFaded[r] ? 1 << r : 0;
            }
            return bits;
        }
    }

    private final StringBuilder tape = new StringBuilder();
    private int fault = 0;
    private int faultPlace = -1;
    private World world = new World(new Told());
    private World kept = null;
    private final List<World> before = new ArrayList<>();
    private final List<int[]> overheard = new ArrayList<>();
    private int knownBy = -1;

    private boolean isHand(int h) {
        return h >= 0 && h < world.told.hands.size();
    }

    private boolean isWood(int w) {
        return w >= 0 && w < world.told.woods.size();
    }

    private boolean isRap(int r) {
        return r >= 0 && r < world.told.raps.size();
    }

    private static boolean isSpan(int n) {
        return n >= 0 && n <= 99;
    }

    private static int digits(int[] beats) {
        int number = 0;
        for (int beat : beats) {
            number = number * 10 + beat;
        }
        return number;
    }

    private static int[] knock(int number) {
        String digits = String.valueOf(number);
        if (!digits.matches("[1-5]{6}")) {
            return null;
        }
        return digits.chars().map(c -> c - '0').toArray();
    }

    private void remember() {
        before.add(world.copy());
        if (before.size() > 20) {
            before.remove(0);
        }
    }

    private World later(int n) {
        World w = world.copy();
        w.go(n, false);
        return w;
    }

    int feed(int a, int b, int c, int d, int e) {
        if (tape.length() + 20 > 700) {
            return -1;
        }
        for (int word : new int[] {a, b, c, d, e}) {
            for (int i = 3; i >= 0; i--) {
                tape.append((char) (word >>> 8 * i & 255));
            }
        }
        return tape.length();
    }

    int text(int n) {
        if (n < 0 || n > tape.length()) {
            return -2;
        }
        String text = tape.substring(0, n);
        tape.setLength(0);
        try {
            Told told = new Parser(text).parse();
            world = new World(told);
            kept = null;
            before.clear();
            overheard.clear();
            knownBy = -1;
            fault = 0;
            faultPlace = -1;
            return told.lines;
        } catch (Fault f) {
            fault = f.kind;
            faultPlace = f.place;
            return -1;
        }
    }

    int fault(int what) {
        return what == 0 ? fault : what == 1 ? faultPlace : -1;
    }

    int named(int what, int letters) {
        for (int i = 0; what == 0 && i < world.told.hands.size(); i++) {
            if (Tell.letters(world.told.hands.get(i).name) == letters) {
                return i;
            }
        }
        for (int i = 0; what == 1 && i < world.told.woods.size(); i++) {
            if (Tell.letters(world.told.woods.get(i).name) == letters) {
                return i;
            }
        }
        return -1;
    }

    /** -1000 for IndexOutOfBoundsException, -2000 for NoSuchElementException. */
    int rap(int r, int what) {
        if (!isRap(r)) {
            return -1000;
        }
        switch (what) {
            case 0:
                return world.told.raps.get(r).hand;
            case 1:
                return world.onWood[r];
            case 2:
                return world.onDay[r];
            case 3:
                return !world.isRapped[r] ? 0 : world.bound[r] >= 0 ? 1 : 2;
            case 4:
                return world.bound[r];
            case 5:
                return world.isFaded[r] ? 1 : 0;
            case 6:
                return world.isRapped[r] ? digits(world.heard[r]) : 0;
            default:
                return -2000;
        }
    }

    int hand(int h, int what) {
        if (!isHand(h) || what < 0 || what > 4) {
            return -1;
        }
        int bounds = 0;
        for (int r = 0; r < 10; r++) {
            bounds += world.bound[r] == h ? 1 : 0;
        }
        return new int[] {world.cold[h], world.aged[h], digits(world.told.hands.get(h).beats), world.rapsOf(h),
            bounds}[what];
    }

    int wood(int w, int what) {
        if (!isWood(w) || what < 0 || what > 3) {
            return -1;
        }
        int many = 0;
        for (int r = 0; r < 10; r++) {
            many += world.isRapped[r] && !world.isFaded[r] && world.onWood[r] == w ? 1 : 0;
        }
        return new int[] {world.told.woods.get(w).keeps, world.hard[w], world.owner[w], many}[what];
    }

    long law(int what, int h, int w, int place) {
        if (!isHand(h) || !isWood(w)) {
            return Long.MIN_VALUE;
        }
        if (what == 0 && place >= 0 && place < 6) {
            return world.e("shake", h, w, world.told.hands.get(h).beats[place], place);
        }
        if (what == 1 && place >= 0 && place <= 30) {
            return world.e("near", h, w, place, 0);
        }
        return what == 2 ? world.e("fade", h, w, 0, 0) : Long.MIN_VALUE;
    }

    boolean warm(int h, int cold) {
        if (!isHand(h) || cold < 0 || cold > 9 || world.cold[h] == cold) {
            return false;
        }
        remember();
        world.cold[h] = cold;
        return true;
    }

    boolean order(int r, int w, int day) {
        if (!isRap(r) || !isWood(w) || day < world.day || day > 9999 || world.isRapped[r]) {
            return false;
        }
        if (world.onWood[r] == w && world.onDay[r] == day) {
            return false;
        }
        remember();
        world.onWood[r] = w;
        world.onDay[r] = day;
        return true;
    }

    boolean sell(int w, int h) {
        if (!isWood(w) || !isHand(h) || world.owner[w] == h) {
            return false;
        }
        remember();
        world.owner[w] = h;
        return true;
    }

    int plane(int w) {
        if (!isWood(w)) {
            return -1;
        }
        remember();
        int many = 0;
        for (int r = 0; r < 10; r++) {
            if (world.isRapped[r] && !world.isFaded[r] && world.onWood[r] == w) {
                world.isFaded[r] = true;
                many++;
            }
        }
        return many;
    }

    int days(int n) {
        if (!isSpan(n) || world.day + n > 9900) {
            return -1;
        }
        if (n > 0) {
            before.clear();
        }
        world.go(n, true);
        return world.day;
    }

    int ahead(int n, int what) {
        if (!isSpan(n) || what < 0 || what > 3) {
            return -1;
        }
        World w = later(n);
        return new int[] {w.bounds() - world.bounds(), w.voids() - world.voids(), w.wrongs() - world.wrongs(),
            Integer.bitCount(w.fadedBits())}[what];
    }

    int apart(int a, int b) {
        return isHand(a) && isHand(b)
            ? World.apart(world.told.hands.get(a).beats, world.told.hands.get(b).beats) : -1;
    }

    int nearest(int what) {
        if (what < 0 || what > 2) {
            return -1;
        }
        List<int[]> pairs = new ArrayList<>();
        for (int i = 0; i < world.told.hands.size(); i++) {
            for (int j = i + 1; j < world.told.hands.size(); j++) {
                pairs.add(new int[] {i, j, apart(i, j)});
            }
        }
        return pairs.stream().min(Comparator.comparingInt(p -> p[2])).map(p -> p[what]).orElse(-2);
    }

    private static int[] knockOfCode(int code) {
        int[] beats = new int[6];
        for (int k = 5; k >= 0; k--) {
            beats[k] = code % 4 + 1;
            code /= 4;
        }
        return beats;
    }

    int anew(int what) {
        int best = -1;
        int[] bestKnock = null;
        for (int code = 0; code < 4096; code++) {
            int[] beats = knockOfCode(code);
            int least = world.told.hands.stream().mapToInt(h -> World.apart(h.beats, beats)).min().orElse(24);
            if (least > best) {
                best = least;
                bestKnock = beats;
            }
        }
        return what == 0 ? digits(bestKnock) : what == 1 ? best : -1;
    }

    int whose(int number, int w) {
        int[] beats = knock(number);
        if (beats == null || !isWood(w) || world.told.hands.isEmpty()) {
            return -1;
        }
        int who = world.boundTo(beats, w);
        return who < 0 ? -2 : who;
    }

    int all(int number) {
        int[] beats = knock(number);
        if (beats == null) {
            return -1;
        }
        int bits = 0;
        for (int h = 0; h < world.told.hands.size(); h++) {
            boolean can = true;
            for (int k = 0; k < 6; k++) {
                int longer = beats[k] - world.told.hands.get(h).beats[k];
                can &= longer == 0 || longer == 1;
            }
            bits |= can ? 1 << h : 0;
        }
        return bits;
    }

    private BigInteger rightly(int h, int w) {
        BigInteger product = BigInteger.ONE;
        for (int k = 0; k < 6; k++) {
            product = product.multiply(BigInteger.valueOf(100 - world.shake(h, w, k)));
        }
        return product;
    }

    long likely(int h, int w, int what) {
        if (!isHand(h) || !isWood(w) || what < 0 || what > 1) {
            return -1;
        }
        BigInteger above = rightly(h, w);
        BigInteger below = BigInteger.valueOf(100).pow(6);
        BigInteger common = above.gcd(below);
        return (what == 0 ? above : below).divide(common).longValueExact();
    }

    int surest(int h) {
        if (!isHand(h)) {
            return -1;
        }
        int best = -2;
        for (int w = 0; w < world.told.woods.size(); w++) {
            if (best < 0 || rightly(h, w).compareTo(rightly(h, best)) > 0) {
                best = w;
            }
        }
        return best;
    }

    int forge(int h, int other, int w, int what) {
        if (!isHand(h) || !isHand(other) || h == other || !isWood(w) || what < 0 || what > 1) {
            return -1;
        }
        int fewest = 7;
        int found = 0;
        for (int code = 0; code < 4096; code++) {
            int[] beats = knockOfCode(code);
            int changed = 0;
            for (int k = 0; k < 6; k++) {
                changed += beats[k] != world.told.hands.get(h).beats[k] ? 1 : 0;
            }
            if (changed < fewest && world.boundTo(beats, w) == other) {
                fewest = changed;
                found = digits(beats);
            }
        }
        return fewest == 7 ? -2 : what == 0 ? fewest : found;
    }

    int places() {
        int best = -2;
        for (int size = 6; size >= 0; size--) {
            for (int mask = 63; mask >= 0; mask--) {
                if (Integer.bitCount(mask) == size) {
                    List<String> seen = new ArrayList<>();
                    boolean isApart = true;
                    for (Hand hand : world.told.hands) {
                        StringBuilder part = new StringBuilder();
                        for (int k = 0; k < 6; k++) {
                            part.append((mask >> k & 1) != 0 ? hand.beats[k] : 0);
                        }
                        isApart &= !seen.contains(part.toString());
                        seen.add(part.toString());
                    }
                    best = isApart ? mask : best;
                }
            }
        }
        return best;
    }

    private void rows(List<Integer> row, int left, List<List<Integer>> into) {
        if (left == 0) {
            into.add(new ArrayList<>(row));
        }
        for (int h = 0; h < 6; h++) {
            if ((left >> h & 1) != 0) {
                row.add(h);
                rows(row, left & ~(1 << h), into);
                row.remove(row.size() - 1);
            }
        }
    }

    private int masked(List<Integer> row) {
        int many = 0;
        for (int i = 1; i < row.size(); i++) {
            int[] ahead = world.told.hands.get(row.get(i - 1)).beats;
            many += world.told.hands.get(row.get(i)).beats[0] == ahead[5] ? 1 : 0;
        }
        return many;
    }

    int joint(int hands, int what) {
        if (hands < 0 || hands >= 1 << world.told.hands.size() || what < 0 || what > 6) {
            return -1;
        }
        List<List<Integer>> rows = new ArrayList<>();
        rows(new ArrayList<>(), hands, rows);
        List<Integer> best = rows.get(0);
        for (List<Integer> row : rows) {
            if (masked(row) < masked(best)) {
                best = row;
            }
        }
        return what == 6 ? masked(best) : what < best.size() ? best.get(what) : -2;
    }

    int holds(int h) {
        if (!isHand(h)) {
            return -1;
        }
        int many = 0;
        for (int r = 0; r < 10; r++) {
            many += world.bound[r] >= 0 && !world.isFaded[r] && world.owner[world.onWood[r]] == h ? 1 : 0;
        }
        return many;
    }

    int will(int h, int n) {
        if (!isHand(h) || !isSpan(n)) {
            return -1;
        }
        World w = later(n);
        int best = -2;
        for (int day = 0; day <= 9999; day++) {
            for (int r = 0; r < world.told.raps.size(); r++) {
                if (w.onDay[r] == day && w.bound[r] == h && !w.isFaded[r]) {
                    best = r;
                }
            }
        }
        return best;
    }

    private List<Integer> restList(int h, int w) {
        int like = world.told.like == null ? 3 : world.told.like;
        int far = World.apart(world.heardOf(h, w, false), world.told.hands.get(h).beats);
        int[] limits = {Math.max(0, like - 2), like + 2};
        int[][] has = new int[2][2];
        for (int mine = 0; mine < 2; mine++) {
            for (int others = 0; others < 2; others++) {
                boolean takes = far <= limits[mine];
                boolean otherTakes = far <= limits[others];
                has[mine][others] = (takes ? 5 : 0) + (takes && !otherTakes ? 3 : 0) - (mine == 1 ? 2 : 0);
            }
        }
        List<Integer> rests = new ArrayList<>();
        for (int a = 0; a < 2; a++) {
            for (int b = 0; b < 2; b++) {
                if (has[1 - a][b] <= has[a][b] && has[1 - b][a] <= has[b][a]) {
                    rests.add(10 * a + b);
                }
            }
        }
        return rests;
    }

    int rests(int h, int w) {
        return isHand(h) && isWood(w) ? restList(h, w).size() : -1;
    }

    int rest(int h, int w, int k) {
        if (!isHand(h) || !isWood(w) || k < 0) {
            return -1;
        }
        List<Integer> rests = restList(h, w);
        return k < rests.size() ? rests.get(k) : -2;
    }

    int owns(int h) {
        if (!isHand(h)) {
            return -1;
        }
        int bits = 0;
        for (int w = 0; w < world.told.woods.size(); w++) {
            bits |= world.owner[w] == h ? 1 << w : 0;
        }
        return bits;
    }

    int fading(int n) {
        return isSpan(n) ? later(n).fadedBits() & ~world.fadedBits() : -1;
    }

    int own(int h) {
        if (!isHand(h)) {
            return -1;
        }
        int bits = 0;
        for (int r = 0; r < world.told.raps.size(); r++) {
            bits |= world.bound[r] == h && world.told.raps.get(r).hand == h ? 1 << r : 0;
        }
        return bits;
    }

    int hear(int r, int place, boolean isLonger) {
        if (!isRap(r) || place < 0 || place > 5 || overheard.size() == 24) {
            return -1;
        }
        overheard.add(new int[] {r, place, isLonger ? 1 : 0, -1});
        return overheard.size() - 1;
    }

    int strike(int heard) {
        if (heard < 0 || heard >= overheard.size() || overheard.size() == 24) {
            return -1;
        }
        overheard.add(new int[] {-1, -1, -1, heard});
        return overheard.size() - 1;
    }

    boolean known(int n) {
        if (n < -1 || n > overheard.size()) {
            return false;
        }
        knownBy = n;
        return true;
    }

    private boolean isStruck(int i, int n) {
        for (int j = i + 1; j < n; j++) {
            if (overheard.get(j)[3] == i && !isStruck(j, n)) {
                return true;
            }
        }
        return false;
    }

    int colds(int h) {
        if (!isHand(h)) {
            return -1;
        }
        int n = knownBy < 0 ? overheard.size() : knownBy;
        int bits = 0;
        for (int cold = 0; cold < 10; cold++) {
            World w = new World(world.told);
            w.cold[h] = cold;
            w.go(100, false);
            boolean isSo = true;
            for (int i = 0; i < n; i++) {
                int[] one = overheard.get(i);
                if (one[0] >= 0 && world.told.raps.get(one[0]).hand == h && !isStruck(i, n)) {
                    int longer = w.heard[one[0]][one[1]] - world.told.hands.get(h).beats[one[1]];
                    isSo &= longer == one[2];
                }
            }
            bits |= isSo ? 1 << cold : 0;
        }
        return bits;
    }

    int chance(int seed, int n, int right) {
        if (seed < 0 || n < 1 || n > 99 || right < 0 || right > 10) {
            return -1;
        }
        int times = 0;
        long number = seed;
        for (int i = 0; i < 10; i++) {
            World w = world.copy();
            w.number = number;
            w.go(n, true);
            number = w.number;
            int more = w.bounds() - w.wrongs() - world.bounds() + world.wrongs();
            times += more >= right ? 1 : 0;
        }
        return times;
    }

    int tried(int what, int i, int n) {
        if (what < 0 || what > 4 || !isSpan(n) || what == 2 && !isHand(i) || what != 2 && i != 0) {
            return -1;
        }
        World w = world.copy();
        if (what == 0) {
            Arrays.fill(w.cold, 0);
        } else if (what == 1) {
            Arrays.fill(w.aged, 0);
        } else if (what == 2) {
            w.mute = i;
        } else if (what == 3) {
            w.like = 24;
        } else {
            Arrays.fill(w.hard, 9);
        }
        w.go(n, false);
        return w.wrongs() - world.wrongs() + w.voids() - world.voids();
    }

    int undo() {
        if (before.isEmpty()) {
            return -1;
        }
        world = before.remove(before.size() - 1);
        return before.size();
    }

    int keep() {
        kept = world.copy();
        return world.day;
    }

    int back() {
        if (kept == null) {
            return -1;
        }
        world = kept.copy();
        before.clear();
        return world.day;
    }

    int count(int what) {
        if (what < 0 || what > 11) {
            return -1;
        }
        return new int[] {world.told.hands.size(), world.told.woods.size(), world.told.raps.size(),
            world.told.knots, world.day, world.bounds(), world.voids(), world.wrongs(),
            Integer.bitCount(world.fadedBits()), overheard.size(), knownBy < 0 ? overheard.size() : knownBy,
            before.size()}[what];
    }
}
