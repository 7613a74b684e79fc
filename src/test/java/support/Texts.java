import java.util.Random;

/** Texts by chance: whole ones, and ones with a sign or a token spoilt. */
final class Texts {
    private static final String[] NAMES = {"a", "b", "c", "ab", "zz", "knock", "oakoak"};
    private static final String[] WORDS = {"cold", "aged", "hard", "beat", "place", "raps", "day"};
    private static final String[] SIGNS = {"+", "-", "*", "/"};
    private static final String[] COMPARING = {"<", "<=", "=", "<>", ">=", ">"};
    private static final String[] ODD = {";", "(", ")", "hand", "law", "near", "not", "or", "=", "<", ">", "0", "5",
        "10000", "abcdefg", "x", "99", "rap", "#", "A", "\t", " ", "\n", "and", "24", "25", "\u00e9", "\u0000",
        "rap a a 1;", "like 2;", "seed 7;", "(((((((((", "999999999999999999999", "wood a 1 1 a;", "law fade 1;"};

    /** Laws whose values come to an end of what they may be, or go beyond it. */
    private static final String[] ENDS = {"1000*1000*1000*1000", "1000*1000*1000*1000+1", "0-1000*1000*1000*1000",
        "0-1000*1000*1000*1000-1", "9999*9999*9999", "day*day*day", "1/(cold-5)", "1/(beat-2)", "not(1/(place-3))",
        "(0-7)/2*10+60+place*3", "50-(beat=2)", "49+(place>2)", "100-(raps>0)", "raps*25", "beat-1", "beat", "30", "31",
        "0-1", "(1/0)or 1", "0 and 1/0", "0-day/3", "cold*10+aged-hard*3-raps*20"};

    private final Random random;

    Texts(Random random) {
        this.random = random;
    }

    private String one(String... of) {
        return of[random.nextInt(of.length)];
    }

    private String blank() {
        return random.nextInt(12) == 0 ? one("  ", "\n", " \n ") : " ";
    }

    private String number(int least, int most) {
        String zero = random.nextInt(40) == 0 ? "00" : "";
        return zero + (least + random.nextInt(most - least + 1));
    }

    String whole() {
        StringBuilder text = new StringBuilder();
        int hands = random.nextInt(12) == 0 ? 0 : 1 + random.nextInt(6);
        int woods = hands == 0 || random.nextInt(12) == 0 ? 0 : 1 + random.nextInt(4);
        int raps = woods == 0 ? 0 : random.nextInt(11);
        int alike = random.nextInt(4);
        if (random.nextInt(3) > 0) {
            text.append("like").append(blank()).append(number(0, random.nextInt(3) == 0 ? 24 : 6)).append(";");
        }
        for (int i = 0; i < hands; i++) {
            text.append("hand").append(blank()).append(NAMES[i]).append(blank()).append(number(0, 9)).append(blank())
                .append(number(0, 99));
            for (int k = 0; k < 6; k++) {
                text.append(blank()).append(number(1, alike == 0 ? 2 : 4));
            }
            text.append(";");
        }
        int days = random.nextBoolean() ? 6 : 99;
        for (int i = 0; i < woods; i++) {
            text.append("wood ").append(NAMES[i + 2]).append(" ").append(number(0, random.nextBoolean() ? 9 : 99))
                .append(blank()).append(number(0, 9)).append(" ").append(NAMES[random.nextInt(hands)]).append(";");
        }
        for (int i = 0; i < raps; i++) {
            text.append("rap ").append(NAMES[random.nextInt(hands)]).append(" ").append(NAMES[2 + random.nextInt(woods)])
                .append(blank()).append(number(0, days)).append(";");
        }
        if (random.nextInt(3) > 0) {
            text.append("seed ").append(number(0, 99999)).append(";");
        }
        for (String law : new String[] {"shake", "near", "fade"}) {
            if (random.nextInt(2) == 0) {
                text.append("law ").append(law).append(" ").append(law(law)).append(";").append(one("", "\n"));
            }
        }
        return text.toString();
    }

    String name() {
        return one(NAMES);
    }

    /** Hands close to one another, ten raps of the first days, laws at the ends of what values may be. */
    String close() {
        StringBuilder text = new StringBuilder();
        int hands = 2 + random.nextInt(3);
        int[] beats = new int[6];
        for (int k = 0; k < 6; k++) {
            beats[k] = 1 + random.nextInt(3);
        }
        for (int i = 0; i < hands; i++) {
            text.append("hand ").append(NAMES[i]).append(" ").append(number(3, 9)).append(" ").append(number(0, 99));
            for (int k = 0; k < 6; k++) {
                text.append(" ").append(beats[k] + (random.nextInt(4) == 0 ? 1 : 0));
            }
            text.append(";");
        }
        text.append("wood a ").append(number(0, 9)).append(" ").append(number(0, 5)).append(" a;");
        text.append("wood b ").append(one("0", "4", "99")).append(" ").append(number(0, 9)).append(" b;");
        for (int i = 0; i < 10; i++) {
            text.append("rap ").append(NAMES[random.nextInt(hands)]).append(one(" a ", " b ")).append(number(0, 4)).append(";");
        }
        text.append("like ").append(number(0, 7)).append(";seed ").append(number(0, 99999)).append(";");
        for (String law : new String[] {"shake", "near", "fade"}) {
            if (random.nextInt(3) == 0) {
                text.append("law ").append(law).append(" ").append(one(ENDS)).append(";");
            }
        }
        return text.toString();
    }

    private String law(String which) {
        int form = random.nextInt(6);
        if (form == 0) {
            return one("cold * 10 + place", "100 * (place = 2)", "beat * 20 + raps * 7", "101 - hard * 9",
                "(day + place * 30) / 2", "50 / (raps - 1)", "like".isEmpty() ? "" : "3 + hard", "cold + beat / 2",
                "not (cold > 3) * 60", "9999 * 9999 * 9999 * cold", "0 - cold", "99 - day", "aged", "day / 3");
        }
        return e(random.nextInt(4));
    }

    private String e(int depth) {
        StringBuilder text = new StringBuilder();
        int terms = 1 + random.nextInt(3);
        for (int i = 0; i < terms; i++) {
            if (i > 0) {
                text.append(" ").append(random.nextInt(3) == 0 ? one("or", "and") : one(SIGNS)).append(" ");
            }
            String operand = depth > 0 && random.nextInt(3) == 0 ? "(" + e(depth - 1) + ")"
                : random.nextInt(3) == 0 ? number(0, random.nextInt(5) == 0 ? 9999 : 60) : one(WORDS);
            text.append(operand);
        }
        if (random.nextInt(5) == 0) {
            text.append(one("", " ")).append(one(COMPARING)).append(one("", " ")).append(number(0, 9));
        }
        return random.nextInt(8) == 0 ? "not " + text : text.toString();
    }

    /** A text at whose end or in whose midst something is put, left out or cut off. */
    String spoilt() {
        StringBuilder text = new StringBuilder(random.nextInt(4) == 0 ? manyKnots() : whole());
        int times = 1 + random.nextInt(2);
        for (int i = 0; i < times && text.length() > 0; i++) {
            int at = random.nextInt(text.length());
            switch (random.nextInt(4)) {
                case 0:
                    text.setLength(at);
                    break;
                case 1:
                    text.deleteCharAt(at);
                    break;
                case 2:
                    text.insert(at, one(ODD));
                    break;
                default:
                    text.insert(at, " " + one(ODD) + " ");
            }
        }
        return text.toString();
    }

    private String manyKnots() {
        StringBuilder text = new StringBuilder();
        for (String law : new String[] {"near", "shake", "fade"}) {
            text.append("law ").append(law).append(" ");
            int terms = 1 + random.nextInt(18);
            for (int i = 0; i < terms; i++) {
                text.append(i == 0 ? "" : one(one(SIGNS), one("<", "="), one("and", "or")));
                text.append(one(" not ", " (", " ", " ", " ", "")).append(one(one(WORDS), number(0, 9))).append(one(")", " ", " "));
            }
            text.append(";");
        }
        return text.toString();
    }
}
