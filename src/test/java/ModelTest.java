/** Long runs of calls, the same ones every time, each answered as the model answers it. */
public final class ModelTest {
    private static final int RUNS = 1500;
    // What is left of the calls that an object may have is for what is asked at the end of a run.
    private static final int CALLS = 400;

    private static final String[] NAMES = {"make", "load", "part", "join", "move", "hold", "spoil", "lose",
        "repair", "broken", "isSound", "pallet", "entry", "contents", "contentsAnew", "declare", "mismatch",
        "fee", "owed"};
    private static final int LOSE = 7;
    private static final int BROKEN = 9;
    private static final int IS_SOUND = 10;
    private static final int PALLET = 11;
    private static final int ENTRY = 12;
    private static final int CONTENTS = 13;
    private static final int CONTENTS_ANEW = 14;
    private static final int MISMATCH = 16;
    private static final int OWED = 18;

    // How often each call comes, in the order of NAMES: ordinary work; work with spoiled papers; trucks;
    // long chains; parting and joining.
    private static final int[][] OFTEN = {
        {3, 12, 6, 5, 6, 2, 1, 1, 6, 2, 2, 2, 4, 2, 4, 2, 2, 1, 2},
        {3, 8, 4, 4, 4, 1, 6, 1, 14, 3, 4, 1, 3, 1, 6, 1, 3, 1, 2},
        {3, 10, 4, 4, 14, 1, 1, 1, 8, 1, 1, 2, 2, 1, 2, 6, 6, 2, 2},
        {1, 30, 1, 1, 8, 6, 1, 1, 8, 1, 1, 2, 4, 1, 2, 1, 1, 1, 2},
        {2, 8, 10, 10, 3, 1, 1, 0, 8, 2, 4, 2, 6, 2, 8, 0, 1, 1, 2},
    };

    private long seed;

    private ModelTest(long seed) {
        this.seed = seed;
    }

    public static void main(String[] args) {
        for (int run = 0; run < RUNS; run++) {
            new ModelTest(run * 7919L + 1).compare(run);
        }
        Check.end();
    }

    /** A number from 0 to below a bound, by a fixed rule. */
    private int next(int bound) {
        seed = seed * 6364136223846793005L + 1442695040888963407L;
        return (int) ((seed >>> 33) % bound);
    }

    private void compare(int run) {
        Gram gram = new Gram();
        Model model = new Model();
        int[] often = OFTEN[run % OFTEN.length];
        // Some runs keep to few pallets and goods, so that chains and contents reach their bounds.
        int pallets = 1 + next(15);
        int goods = 1 + next(6);
        int total = 0;
        for (int share : often) {
            total += share;
        }
        for (int call = 0; call < CALLS; call++) {
            int which = pick(often, next(total));
            int[] with = arguments(which, pallets, goods);
            if (which == LOSE && next(6) != 0) {
                continue;
            }
            Check.same("run " + run + ", call " + call + ": " + text(which, with),
                    Check.outcome(() -> gram.keep(x -> ask(x, which, with))),
                    Check.outcome(() -> ask(model, which, with)));
        }
        compareAll(run, State.asked(gram), model);
    }

    private static String text(int which, int[] with) {
        return NAMES[which] + " " + with[0] + " " + with[1] + " " + with[2];
    }

    private static int pick(int[] often, int at) {
        int which = 0;
        for (int left = at; left >= often[which]; which++) {
            left -= often[which];
        }
        return which;
    }

    private int[] arguments(int which, int pallets, int goods) {
        if (next(40) == 0) {
            return new int[] {odd(), odd(), odd()};
        }
        int pallet = next(pallets);
        switch (NAMES[which]) {
            case "make":
                return new int[] {next(4), 0, 0};
            case "load":
                return new int[] {pallet, next(goods), next(4) == 0 ? -1 - next(99) : 1 + next(99)};
            case "part":
                return new int[] {pallet, next(goods), 1 + next(next(3) == 0 ? 99 : 12)};
            case "join":
                return new int[] {pallet, next(pallets), 0};
            case "move":
                return new int[] {pallet, next(6), 0};
            case "spoil":
                return new int[] {pallet, next(next(2) == 0 ? 6 : 30), next(3) == 0 ? next(1999) - 999 : next(20)};
            case "repair":
                return new int[] {pallet, next(next(2) == 0 ? 6 : 30), 0};
            case "lose":
            case "owed":
                return new int[] {next(7), 0, 0};
            case "pallet":
                return new int[] {pallet, next(5), 0};
            case "entry":
                return new int[] {pallet, next(30), next(8)};
            case "declare":
                return new int[] {4 + next(2), next(6), next(next(2) == 0 ? 60 : 10000)};
            case "mismatch":
                return new int[] {4 + next(2), 0, 0};
            case "fee":
                return new int[] {next(10), next(100), 0};
            default:
                return new int[] {pallet, next(6), 0};
        }
    }

    private int odd() {
        int[] numbers = {Integer.MIN_VALUE, -1000, -999, -100, -99, -1, 0, 1, 3, 4, 5, 6, 7, 8, 9, 10, 13, 14, 29,
            30, 99, 100, 999, 1000, 9999, 10000, Integer.MAX_VALUE};
        return numbers[next(numbers.length)];
    }

    /** All that can be asked of the pallets that there are, and of one more. */
    private static void compareAll(int run, State state, Model model) {
        int pallets = model.pallets();
        for (int pallet = 0; pallet <= pallets; pallet++) {
            int entries = pallet < pallets ? (int) model.pallet(pallet, 1) : 0;
            for (int number = 0; number < (entries + 1) * 8; number++) {
                compareOne(run, state, model, ENTRY, pallet, number / 8, number % 8);
            }
            for (int number = 0; number <= 6; number++) {
                compareOne(run, state, model, PALLET, pallet, number, 0);
                compareOne(run, state, model, CONTENTS, pallet, number, 0);
                compareOne(run, state, model, CONTENTS_ANEW, pallet, number, 0);
            }
            compareOne(run, state, model, BROKEN, pallet, 0, 0);
            compareOne(run, state, model, IS_SOUND, pallet, 0, 0);
        }
        for (int holder = 0; holder <= 7; holder++) {
            compareOne(run, state, model, MISMATCH, holder, 0, 0);
            compareOne(run, state, model, OWED, holder, 0, 0);
        }
    }

    private static void compareOne(int run, State state, Model model, int which, int... with) {
        Check.same("run " + run + ", at its end: " + text(which, with),
                state.outcome(gram -> ask(gram, which, with)), Check.outcome(() -> ask(model, which, with)));
    }

    private static long ask(PalletGram gram, int which, int[] with) {
        switch (NAMES[which]) {
            case "make": return gram.make(with[0]);
            case "load": return gram.load(with[0], with[1], with[2]);
            case "part": return gram.part(with[0], with[1], with[2]);
            case "join": return gram.join(with[0], with[1]);
            case "move": return gram.move(with[0], with[1]);
            case "hold": return gram.hold(with[0]) ? 1 : 0;
            case "spoil": return gram.spoil(with[0], with[1], with[2]);
            case "lose": return gram.lose(with[0]);
            case "repair": return gram.repair(with[0], with[1]);
            case "broken": return gram.broken(with[0]);
            case "isSound": return gram.isSound(with[0]) ? 1 : 0;
            case "pallet": return gram.pallet(with[0], with[1]);
            case "entry": return gram.entry(with[0], with[1], with[2]);
            case "contents": return gram.contents(with[0], with[1]);
            case "contentsAnew": return gram.contentsAnew(with[0], with[1]);
            case "declare": return gram.declare(with[0], with[1], with[2]);
            case "mismatch": return gram.mismatch(with[0]);
            case "fee": return gram.fee(with[0], with[1]);
            default: return gram.owed(with[0]);
        }
    }

    private static long ask(Model model, int which, int[] with) {
        switch (NAMES[which]) {
            case "make": return model.make(with[0]);
            case "load": return model.load(with[0], with[1], with[2]);
            case "part": return model.part(with[0], with[1], with[2]);
            case "join": return model.join(with[0], with[1]);
            case "move": return model.move(with[0], with[1]);
            case "hold": return model.hold(with[0]);
            case "spoil": return model.spoil(with[0], with[1], with[2]);
            case "lose": return model.lose(with[0]);
            case "repair": return model.repair(with[0], with[1]);
            case "broken": return model.broken(with[0]);
            case "isSound": return model.isSound(with[0]);
            case "pallet": return model.pallet(with[0], with[1]);
            case "entry": return model.entry(with[0], with[1], with[2]);
            case "contents": return model.contents(with[0], with[1]);
            case "contentsAnew": return model.contentsAnew(with[0], with[1]);
            case "declare": return model.declare(with[0], with[1], with[2]);
            case "mismatch": return model.mismatch(with[0]);
            case "fee": return model.fee(with[0], with[1]);
            default: return model.owed(with[0]);
        }
    }
}
