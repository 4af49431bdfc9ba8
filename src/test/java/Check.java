import java.util.ArrayList;
import java.util.List;

/** Counts what is not as due, and ends a test with exit code 1 if there was any. */
final class Check {
    interface Call {
        long answer();
    }

    private static int checks = 0;
    private static int wrong = 0;

    private Check() {
    }

    static void due(String what, long got, long want) {
        checks++;
        if (got != want) {
            wrong++;
            System.out.println(what + " answered " + got + ", due is " + want);
        }
    }

    static void due(String what, boolean got, boolean want) {
        due(what, got ? 1 : 0, want ? 1 : 0);
    }

    /** The name of the exception that a call throws, or its answer. */
    static String outcome(Call call) {
        try {
            return Long.toString(call.answer());
        } catch (RuntimeException e) {
            return e.getClass().getSimpleName();
        }
    }

    static void same(String what, String got, String want) {
        checks++;
        if (!got.equals(want)) {
            wrong++;
            System.out.println(what + " answered " + got + ", due is " + want);
        }
    }

    static void noPlace(String what, PalletGram gram, Call call) {
        refused(what, gram, call, "IndexOutOfBoundsException");
    }

    static void noArgument(String what, PalletGram gram, Call call) {
        refused(what, gram, call, "IllegalArgumentException");
    }

    static void noState(String what, PalletGram gram, Call call) {
        refused(what, gram, call, "IllegalStateException");
    }

    private static void refused(String what, PalletGram gram, Call call, String exception) {
        List<Long> ahead = allAnswers(gram);
        same(what, outcome(call), exception);
        due(what + " changes something", !ahead.equals(allAnswers(gram)), false);
    }

    /** Everything that an object can be asked, as a row of numbers; it is left as it was. */
    static List<Long> allAnswers(PalletGram gram) {
        List<Long> row = new ArrayList<>();
        for (int pallet = 0; pallet < 14 && isThere(gram, pallet); pallet++) {
            addPallet(row, gram, pallet);
        }
        for (int holder = 0; holder <= 6; holder++) {
            row.add((long) gram.owed(holder));
        }
        for (int truck = 4; truck <= 5; truck++) {
            row.add((long) gram.mismatch(truck));
            for (int good = 0; good < 6; good++) {
                int declared = gram.declare(truck, good, 0);
                gram.declare(truck, good, declared);
                row.add((long) declared);
            }
        }
        for (int kind = 0; kind < 10; kind++) {
            int fee = gram.fee(kind, 0);
            gram.fee(kind, fee);
            row.add((long) fee);
        }
        return row;
    }

    private static boolean isThere(PalletGram gram, int pallet) {
        return !outcome(() -> gram.pallet(pallet, 0)).equals("IndexOutOfBoundsException");
    }

    private static void addPallet(List<Long> row, PalletGram gram, int pallet) {
        for (int what = 0; what <= 4; what++) {
            row.add((long) gram.pallet(pallet, what));
        }
        for (int good = 0; good < 6; good++) {
            row.add((long) gram.contents(pallet, good));
            row.add((long) gram.contentsAnew(pallet, good));
        }
        row.add((long) gram.broken(pallet));
        row.add(gram.isSound(pallet) ? 1L : 0L);
        for (int entry = 0; entry < gram.pallet(pallet, 1); entry++) {
            for (int what = 0; what <= 7; what++) {
                row.add((long) gram.entry(pallet, entry, what));
            }
        }
    }

    static void end() {
        System.out.println(checks + " checks, " + wrong + " wrong");
        if (wrong != 0) {
            System.exit(1);
        }
    }
}
