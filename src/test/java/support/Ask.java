import java.util.NoSuchElementException;

/** Calls whose answer isn't a number, as numbers. */
final class Ask {
    static final int BEYOND = -1000;
    static final int NO_SUCH = -2000;

    private Ask() {
    }

    /** BEYOND for an IndexOutOfBoundsException, NO_SUCH for a NoSuchElementException of just that class. */
    static int rap(KnockBank bank, int rap, int what) {
        try {
            return bank.rap(rap, what);
        } catch (IndexOutOfBoundsException e) {
            return e.getClass() == IndexOutOfBoundsException.class ? BEYOND : BEYOND - 1;
        } catch (NoSuchElementException e) {
            return e.getClass() == NoSuchElementException.class ? NO_SUCH : NO_SUCH - 1;
        }
    }
}
