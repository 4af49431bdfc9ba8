import java.util.ArrayList;
import java.util.List;

/** Everything that an object can be asked, asked of fresh objects that have had the same calls. */
final class State {
    private final Gram of;
    private final List<Long> answers = new ArrayList<>();
    private PalletGram fresh;
    private int calls;

    private State(Gram of) {
        this.of = of;
        renew();
    }

    /** All answers as a row of numbers: equal rows, equal states. */
    static List<Long> of(Gram gram) {
        State state = new State(gram);
        for (int pallet = 0; pallet < 14 && state.isThere(pallet); pallet++) {
            state.addPallet(pallet);
        }
        state.addHoldersAndTrucks();
        state.addWhatWasSet();
        return state.answers;
    }

    /** One answer of an object in a Gram's state, or the name of what it throws. */
    String outcome(Gram.Call call) {
        if (calls >= Gram.MOST_CALLS) {
            renew();
        }
        calls++;
        return Check.outcome(() -> call.ask(fresh));
    }

    static State asked(Gram gram) {
        return new State(gram);
    }

    private void renew() {
        if (of.calls() >= Gram.MOST_CALLS) {
            throw new AssertionError("no call is left to ask for the state");
        }
        fresh = of.again();
        calls = of.calls();
    }

    private long add(Gram.Call call) {
        long answer = Long.parseLong(outcome(call));
        answers.add(answer);
        return answer;
    }

    private boolean isThere(int pallet) {
        return !outcome(gram -> gram.pallet(pallet, 0)).equals("IndexOutOfBoundsException");
    }

    private void addPallet(int pallet) {
        for (int number = 0; number <= 4; number++) {
            int what = number;
            add(gram -> gram.pallet(pallet, what));
        }
        for (int number = 0; number <= 5; number++) {
            int good = number;
            add(gram -> gram.contents(pallet, good));
            add(gram -> gram.contentsAnew(pallet, good));
        }
        add(gram -> gram.broken(pallet));
        add(gram -> gram.isSound(pallet) ? 1 : 0);
        long entries = add(gram -> gram.pallet(pallet, 1));
        for (int number = 0; number < entries * 8; number++) {
            int entry = number / 8;
            int what = number % 8;
            add(gram -> gram.entry(pallet, entry, what));
        }
    }

    private void addHoldersAndTrucks() {
        for (int number = 0; number <= 6; number++) {
            int holder = number;
            add(gram -> gram.owed(holder));
        }
        add(gram -> gram.mismatch(4));
        add(gram -> gram.mismatch(5));
    }

    /** What was set can only be asked by setting it anew: so it is asked last. */
    private void addWhatWasSet() {
        for (int number = 0; number <= 5; number++) {
            int good = number;
            add(gram -> gram.declare(4, good, 0));
            add(gram -> gram.declare(5, good, 0));
        }
        for (int number = 0; number <= 9; number++) {
            int kind = number;
            add(gram -> gram.fee(kind, 0));
        }
    }
}
