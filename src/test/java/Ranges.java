import java.util.function.IntToLongFunction;

/** Tries an argument at the ends of its range, one beyond them, and far beyond, each on a new object. */
final class Ranges {
    interface CallWith {
        long answer(VisitorLoom loom, int argument);
    }

    private final Checks checks;
    private final Sentences sentences;

    Ranges(Checks checks, Sentences sentences) {
        this.checks = checks;
        this.sentences = sentences;
    }

    void test(String heading, String part, int least, int most, IntToLongFunction want, CallWith call) {
        sentences.test(heading, part, () -> {
            for (int good : new int[] {least, Math.min(least + 1, most), (least + most) / 2, most}) {
                checks.due(part + ", at " + good, want.applyAsLong(good), () -> call.answer(new VisitorLoom(), good));
            }
            for (int bad : beyond(least, most)) {
                checks.wrongArgument(part + ", at " + bad, () -> call.answer(new VisitorLoom(), bad));
            }
        });
    }

    /** The neighbours of both ends, the ends of int, and such as would be within if some bits were lost. */
    static int[] beyond(int least, int most) {
        int[] all = {
            least - 1, most + 1, Integer.MIN_VALUE, Integer.MAX_VALUE, least ^ Integer.MIN_VALUE,
            most ^ Integer.MIN_VALUE, Integer.MIN_VALUE + 1, least + 32, most + 32, most + 64, most + 256,
            least + 1024, most + 65536, least + 131072, most + (1 << 30), -most - 1, least - 32, least - 65536,
            2 * most + 1, Integer.MAX_VALUE - most
        };
        return java.util.Arrays.stream(all).filter(value -> value < least || value > most).distinct().toArray();
    }
}
