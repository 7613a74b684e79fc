import java.io.IOException;
import java.nio.charset.StandardCharsets;
import java.nio.file.Files;
import java.nio.file.Path;
import java.util.ArrayList;
import java.util.List;

/** The README's example: it stands there line by line as it does here, and answers what is said there. */
public final class ReadmeTest {
    private static final String BEGIN = "// example";
    private static final String END = "// end";

    private ReadmeTest() {
    }

    public static void main(String[] args) throws IOException {
        answers();
        List<String> here = between(Path.of("src/test/java/ReadmeTest.java"), BEGIN, END);
        List<String> there = between(Path.of("README.md"), "```java", "```");
        Check.due("the example has lines", true, here.size() > 10);
        Check.due("the README has the example " + here, true, here.equals(there));
        Check.end("ReadmeTest");
    }

    private static void answers() {
        // example
        KnockBank bank = new KnockBank();
        String told = "hand a 5 50 1 2 3 4 1 2; hand b 0 9 4 4 1 1 2 2; wood o 9 0 b; rap a o 0; like 4; seed 7;";
        byte[] text = told.getBytes(StandardCharsets.ISO_8859_1);
        for (int at = 0; at < text.length; at += 20) {
            int[] five = new int[5];
            for (int i = 0; i < 20; i++) {
                int sign = at + i < text.length ? text[at + i] : ' ';
                five[i / 4] = five[i / 4] << 8 | sign & 255;
            }
            bank.feed(five[0], five[1], five[2], five[3], five[4]);
        }
        int lines = bank.text(text.length); // 6; NONE, if there is a fault: fault(0) tells which, fault(1) where
        int more = bank.ahead(1, 0); // 0: as it goes all six beats are longer, which is too far from hand a
        int day = bank.days(1); // 1: the rap was rapped by numbers drawn from the seed
        int heard = bank.rap(0, 6); // 133422: two beats were heard longer
        int who = bank.rap(0, 4); // 0: it is bound to hand a
        // end
        Check.due("lines", 6, lines);
        Check.due("more", 0, more);
        Check.due("day", 1, day);
        Check.due("heard", 133422, heard);
        Check.due("who", 0, who);
    }

    private static List<String> between(Path file, String begin, String end) throws IOException {
        List<String> found = new ArrayList<>();
        boolean isInside = false;
        for (String line : Files.readAllLines(file)) {
            if (line.strip().equals(isInside ? end : begin)) {
                isInside = !isInside;
            } else if (isInside) {
                found.add(line.strip());
            }
        }
        return found;
    }
}
