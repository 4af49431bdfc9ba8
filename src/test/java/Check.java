import java.util.List;

/** Counts what is not as due, and ends a test with exit code 1 if there was any. */
final class Check {
    /** A sentence of the document that most calls have a test of. */
    static final String NAMED_FIRST =
            "If several exceptions apply, the one that is named first in the throws clause is thrown.";

    interface Call {
        long answer();
    }

    interface CallWith {
        long answer(int number);
    }

    private static int checks = 0;
    private static int wrong = 0;
    private static String about = "";

    private Check() {
    }

    /** Runs the test of one sentence of the document; what goes wrong in it is told with the sentence. */
    static void sentence(int promise, String sentence, Runnable test) {
        about = "promise " + promise + ", \"" + sentence + "\": ";
        int ahead = checks;
        try {
            test.run();
        } catch (RuntimeException | AssertionError e) {
            fail("the test ended by " + e);
        }
        if (checks == ahead) {
            fail("nothing was checked");
        }
        about = "";
    }

    static void due(String what, long got, long want) {
        same(what, Long.toString(got), Long.toString(want));
    }

    static void due(String what, boolean got, boolean want) {
        same(what, Boolean.toString(got), Boolean.toString(want));
    }

    static void same(String what, String got, String want) {
        checks++;
        if (!got.equals(want)) {
            fail(what + " answered " + got + ", due is " + want);
        }
    }

    private static void fail(String text) {
        wrong++;
        System.out.println(about + text);
    }

    /** The name of the exception that a call throws, or its answer. */
    static String outcome(Call call) {
        try {
            return Long.toString(call.answer());
        } catch (RuntimeException e) {
            return e.getClass().getSimpleName();
        }
    }

    static void noPlace(String what, Gram gram, Call call) {
        refused(what, gram, call, "IndexOutOfBoundsException");
    }

    static void noArgument(String what, Gram gram, Call call) {
        refused(what, gram, call, "IllegalArgumentException");
    }

    static void noState(String what, Gram gram, Call call) {
        refused(what, gram, call, "IllegalStateException");
    }

    /** That a call throws IndexOutOfBoundsException with each of the numbers. */
    static void noPlaces(String what, Gram gram, CallWith call, int... numbers) {
        for (int number : numbers) {
            noPlace(what + " " + number, gram, () -> call.answer(number));
        }
    }

    static void noArguments(String what, Gram gram, CallWith call, int... numbers) {
        for (int number : numbers) {
            noArgument(what + " " + number, gram, () -> call.answer(number));
        }
    }

    private static void refused(String what, Gram gram, Call call, String exception) {
        List<Long> ahead = State.of(gram);
        same(what, outcome(call), exception);
        due(what + ": everything is as it was", State.of(gram).equals(ahead), true);
    }

    /** That an entry has its six numbers, the proof made of them and the one ahead, and its copies, as a set. */
    static void dueEntry(Gram gram, int pallet, int entry, int... numbers) {
        String which = "entry " + entry + " of " + pallet;
        int proof = entry == 0 ? 17 : gram.entry(pallet, entry - 1, 6);
        for (int what = 0; what < 6; what++) {
            due(which + ", number " + what, gram.entry(pallet, entry, what), numbers[what]);
            proof = 31 * proof + numbers[what];
        }
        due("the proof of " + which, gram.entry(pallet, entry, 6), proof);
        due("the copies of " + which, gram.entry(pallet, entry, 7), numbers[6]);
    }

    static void end() {
        System.out.println(checks + " checks, " + wrong + " wrong");
        if (wrong != 0) {
            System.exit(1);
        }
    }
}
