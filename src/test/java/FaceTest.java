import com.sun.management.ThreadMXBean;
import java.io.IOException;
import java.lang.management.ManagementFactory;
import java.lang.reflect.Field;
import java.lang.reflect.Member;
import java.lang.reflect.Method;
import java.lang.reflect.Modifier;
import java.nio.file.Files;
import java.nio.file.Path;
import java.util.ArrayList;
import java.util.Arrays;
import java.util.Collections;
import java.util.List;
import java.util.NoSuchElementException;

/** The public face as the document lists it, some rules of the language, and how little a call makes. */
public final class FaceTest {
    private static final String[] FACE = {
        "int feed(int, int, int, int, int)", "int text(int)", "int fault(int)", "int named(int, int)",
        "int rap(int, int)", "int hand(int, int)", "int wood(int, int)", "long law(int, int, int, int)",
        "boolean warm(int, int)", "boolean order(int, int, int)", "boolean sell(int, int)", "int plane(int)",
        "int days(int)", "int ahead(int, int)", "int apart(int, int)", "int nearest(int)", "int anew(int)",
        "int whose(int, int)", "int all(int)", "long likely(int, int, int)", "int surest(int)",
        "int forge(int, int, int, int)", "int places()", "int joint(int, int)", "int holds(int)",
        "int will(int, int)", "int rests(int, int)", "int rest(int, int, int)", "int owns(int)", "int fading(int)",
        "int own(int)", "int hear(int, int, boolean)", "int strike(int)", "boolean known(int)", "int colds(int)",
        "int chance(int, int, int)", "int tried(int, int, int)", "int undo()", "int keep()", "int back()",
        "int count(int)"};
    private static final String[] BANNED = {"catch", "finally", "synchronized", "assert", "->", "::", "double", "float",
        "System.out", "System.nano", "System.current", "Random", "Thread", "Exact(", "var ", "interface", "+="
        + " \"", "static {", "hashCode", "protected", "native", "volatile"};

    private FaceTest() {
    }

    public static void main(String[] args) throws IOException {
        face();
        hidden();
        source();
        room();
        Check.end("FaceTest");
    }

    private static String told(Method method) {
        StringBuilder text = new StringBuilder(method.getReturnType().getName() + " " + method.getName() + "(");
        for (int i = 0; i < method.getParameterCount(); i++) {
            text.append(i == 0 ? "" : ", ").append(method.getParameterTypes()[i].getName());
        }
        return text.append(")").toString();
    }

    private static void face() {
        List<String> want = new ArrayList<>(Arrays.asList(FACE));
        List<String> got = new ArrayList<>();
        for (Method method : KnockBank.class.getDeclaredMethods()) {
            if (Modifier.isPublic(method.getModifiers())) {
                got.add(told(method));
                List<Class<?>> thrown = method.getName().equals("rap")
                    ? List.of(IndexOutOfBoundsException.class, NoSuchElementException.class) : List.of();
                Check.due("what " + method.getName() + " throws", true, thrown.equals(List.of(method.getExceptionTypes())));
            }
        }
        Collections.sort(want);
        Collections.sort(got);
        Check.due("the face " + got, true, want.equals(got));
        Check.due("final", true, Modifier.isFinal(KnockBank.class.getModifiers()));
        Check.due("one constructor", 1, KnockBank.class.getDeclaredConstructors().length);
        Check.due("NONE", -1, KnockBank.NONE);
    }

    private static boolean isHidden(Member member) {
        return Modifier.isPrivate(member.getModifiers());
    }

    private static void hidden() {
        List<String> names = new ArrayList<>();
        for (String call : FACE) {
            names.add(call.substring(call.indexOf(' ') + 1, call.indexOf('(')));
        }
        for (Method method : KnockBank.class.getDeclaredMethods()) {
            boolean isOfFace = names.contains(method.getName());
            Check.due("hidden " + method, !isOfFace, isHidden(method));
        }
        for (Field field : KnockBank.class.getDeclaredFields()) {
            Check.due("hidden " + field, !field.getName().equals("NONE"), isHidden(field));
        }
        Class<?>[] inside = KnockBank.class.getDeclaredClasses();
        Check.due("at most twelve classes", true, inside.length + 1 <= 12);
        for (Class<?> one : inside) {
            Check.due("static " + one, true, Modifier.isStatic(one.getModifiers()));
            int fields = 0;
            for (Field field : one.getDeclaredFields()) {
                boolean isStatic = Modifier.isStatic(field.getModifiers());
                Check.due("final " + field, true, !isStatic || Modifier.isFinal(field.getModifiers()));
                fields += isStatic ? 0 : 1;
            }
            Check.due("some twenty fields " + one, true, fields <= 20);
            for (Method method : one.getDeclaredMethods()) {
                Check.due("no name of the face " + method, false, names.contains(method.getName()));
                Check.due("seven parameters " + method, true, method.getParameterCount() <= 7);
            }
        }
    }

    private static void source() throws IOException {
        List<String> lines = Files.readAllLines(Path.of("src/main/java/KnockBank.java"));
        int from = 0;
        for (int i = 0; i < lines.size(); i++) {
            String line = lines.get(i);
            for (String banned : BANNED) {
                Check.due("line " + (i + 1) + " has " + banned, false, line.contains(banned));
            }
            boolean isOther = line.startsWith("import") && !line.equals("import java.util.NoSuchElementException;");
            Check.due("line " + (i + 1) + " imports", false, isOther);
            if (line.matches("( {4}| {8})\\S.*\\) (throws .*)?\\{") && !line.contains(" switch ")) {
                from = i;
            }
            if (line.matches("( {4}| {8})\\}")) {
                Check.due("a method of sixty lines up to line " + (i + 1), true, i - from < 60 || from == 0);
            }
        }
    }

    /** Every call but those that throw makes nothing. */
    private static void room() {
        ThreadMXBean bean = (ThreadMXBean) ManagementFactory.getThreadMXBean();
        long self = Thread.currentThread().getId();
        KnockBank bank = new KnockBank();
        callAll(bank);
        long before = bean.getThreadAllocatedBytes(self);
        long answer = callAll(bank);
        long made = bean.getThreadAllocatedBytes(self) - before;
        Check.due("the calls answer", true, answer != 0);
        Check.due("made by calls: " + made, true, made < 4000);
    }

    private static long callAll(KnockBank x) {
        long sum = 0;
        // "hand a 1 2 1 1 1 1 1 1;wood o 1 1 a;rap a o 1;law near 2 +raps ;      "
        sum += x.feed(0x68616e64, 0x20612031, 0x20322031, 0x20312031, 0x20312031);
        sum += x.feed(0x20313b77, 0x6f6f6420, 0x6f203120, 0x3120613b, 0x72617020);
        sum += x.feed(0x61206f20, 0x313b6c61, 0x77206e65, 0x61722032, 0x202b7261);
        sum += x.feed(0x7073203b, 0x20202020, 0x20202020, 0x20202020, 0x20202020);
        sum += x.text(80) * 1000L;
        Check.due("the text is whole", 0, x.fault(0));
        for (int i = 0; i < 10; i++) {
            sum += x.named(0, 1 << 25) + x.rap(0, i % 7) + x.hand(0, i % 5) + x.wood(0, i % 4) + x.law(1, 0, 0, 3);
            sum += (x.warm(0, i) ? 1 : 0) + (x.order(0, 0, 50 + i) ? 1 : 0) + (x.sell(0, 0) ? 1 : 0) + x.plane(0);
            sum += x.days(1) + x.ahead(99, 3) + x.apart(0, 0) + x.nearest(0) + x.anew(0) + x.whose(111111, 0);
            sum += x.all(111111) + x.likely(0, 0, 0) + x.surest(0) + x.forge(0, 0, 0, 0) + x.places() + x.joint(1, 0);
            sum += x.holds(0) + x.will(0, 99) + x.rests(0, 0) + x.rest(0, 0, 0) + x.owns(0) + x.fading(99) + x.own(0);
            sum += x.hear(0, 1, true) + x.strike(0) + (x.known(-1) ? 1 : 0) + x.colds(0) + x.chance(1, 99, 1);
            sum += x.tried(0, 0, 99) + x.undo() + x.keep() + x.back() + x.count(4);
        }
        return sum;
    }
}
