import java.util.function.BiFunction;

/** Numbers beside the ranges of the document, and runs of calls that are refused for them. */
final class Edges {
    static final int UNKNOWN = -1;
    static final int BAD_VALUE = -2;
    static final int FULL = -3;
    static final int NOT_POSSIBLE = -4;
    static final int NONE = -5;

    private Edges() {
    }

    /** The numbers next to a range, and the far ends of all numbers. */
    static int[] beside(int least, int greatest) {
        return new int[] {least - 1, greatest + 1, Integer.MIN_VALUE, Integer.MAX_VALUE};
    }

    /** A call behind the full run is refused with this answer for each number beside the range. */
    static void refuse(Due due, int want, int least, int greatest, BiFunction<Run, Integer, Run> call) {
        for (int number : beside(least, greatest)) {
            call.apply(Run.full(due), number).refused(want);
        }
    }

    static void refuseNodes(Due due, BiFunction<Run, Integer, Run> call) {
        refuse(due, UNKNOWN, 0, 3, call);
    }

    static void refuseKeys(Due due, BiFunction<Run, Integer, Run> call) {
        refuse(due, UNKNOWN, 0, 7, call);
    }
}
