import java.nio.charset.StandardCharsets;

/** Feeds a text as bytes. */
final class Tell {
    private Tell() {
    }

    static int feed(KnockBank bank, byte[] bytes) {
        int answer = 0;
        for (int at = 0; at < bytes.length; at += 20) {
            int[] five = new int[5];
            for (int i = 0; i < 20; i++) {
                int sign = at + i < bytes.length ? bytes[at + i] & 255 : 32;
                five[i / 4] = five[i / 4] << 8 | sign;
            }
            answer = bank.feed(five[0], five[1], five[2], five[3], five[4]);
        }
        return answer;
    }

    /** Feeds and reads the text; the answer of text(). */
    static int told(KnockBank bank, String text) {
        byte[] bytes = text.getBytes(StandardCharsets.ISO_8859_1);
        feed(bank, bytes);
        return bank.text(bytes.length);
    }

    static KnockBank bank(String text) {
        KnockBank bank = new KnockBank();
        if (told(bank, text) < 0) {
            throw new IllegalStateException("fault " + bank.fault(0) + " at " + bank.fault(1) + " of " + text);
        }
        return bank;
    }

    static int letters(String name) {
        int bits = 0;
        for (int i = 0; i < 6; i++) {
            bits = bits << 5 | (i < name.length() ? name.charAt(i) - 'a' + 1 : 0);
        }
        return bits;
    }
}
