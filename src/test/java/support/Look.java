import java.util.ArrayList;
import java.util.List;

/** All that can be asked of a bank without changing it, in some 170 calls. */
final class Look {
    private Look() {
    }

    static List<Long> at(KnockBank x) {
        List<Long> seen = new ArrayList<>();
        for (int what = 0; what <= 11; what++) {
            seen.add((long) x.count(what));
        }
        seen.add((long) x.fault(0));
        seen.add((long) x.fault(1));
        for (int hand = 0; hand < x.count(0); hand++) {
            atHand(x, hand, seen);
        }
        for (int wood = 0; wood < x.count(1); wood++) {
            for (int what = 0; what < 4; what++) {
                seen.add((long) x.wood(wood, what));
            }
        }
        for (int rap = 0; rap < x.count(2); rap++) {
            for (int what = 0; what < 7; what++) {
                seen.add((long) Ask.rap(x, rap, what));
            }
        }
        for (int what = 0; what < 4; what++) {
            seen.add((long) x.ahead(99, what));
        }
        seen.add((long) x.chance(5, 99, 1));
        seen.add((long) x.anew(0));
        seen.add((long) x.places());
        return seen;
    }

    private static void atHand(KnockBank x, int hand, List<Long> seen) {
        for (int what = 0; what < 5; what++) {
            seen.add((long) x.hand(hand, what));
        }
        for (int law = 0; law < 3; law++) {
            seen.add(x.law(law, hand, 0, 2));
        }
        seen.add((long) x.owns(hand));
        seen.add((long) x.holds(hand));
        seen.add((long) x.colds(hand));
        seen.add((long) x.surest(hand));
    }
}
