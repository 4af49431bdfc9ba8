import java.util.ArrayList;
import java.util.List;

/**
 * A PalletGram whose calls are kept, so that a fresh one can be brought to the same state: what an object
 * answers after its 512th call is free, so no object in a test has more calls than that.
 */
final class Gram {
    static final int MOST_CALLS = 512;

    interface Call {
        long ask(PalletGram gram);
    }

    private final PalletGram own = new PalletGram();
    private final List<Call> calls = new ArrayList<>();

    int make(int dock) {
        return (int) keep(gram -> gram.make(dock));
    }

    int load(int pallet, int good, int amount) {
        return (int) keep(gram -> gram.load(pallet, good, amount));
    }

    int part(int pallet, int good, int amount) {
        return (int) keep(gram -> gram.part(pallet, good, amount));
    }

    int join(int pallet, int other) {
        return (int) keep(gram -> gram.join(pallet, other));
    }

    int move(int pallet, int holder) {
        return (int) keep(gram -> gram.move(pallet, holder));
    }

    boolean hold(int pallet) {
        return keep(gram -> gram.hold(pallet) ? 1 : 0) == 1;
    }

    int spoil(int pallet, int entry, int amount) {
        return (int) keep(gram -> gram.spoil(pallet, entry, amount));
    }

    int lose(int holder) {
        return (int) keep(gram -> gram.lose(holder));
    }

    int repair(int pallet, int entry) {
        return (int) keep(gram -> gram.repair(pallet, entry));
    }

    int broken(int pallet) {
        return (int) keep(gram -> gram.broken(pallet));
    }

    boolean isSound(int pallet) {
        return keep(gram -> gram.isSound(pallet) ? 1 : 0) == 1;
    }

    int pallet(int pallet, int what) {
        return (int) keep(gram -> gram.pallet(pallet, what));
    }

    int entry(int pallet, int entry, int what) {
        return (int) keep(gram -> gram.entry(pallet, entry, what));
    }

    int contents(int pallet, int good) {
        return (int) keep(gram -> gram.contents(pallet, good));
    }

    int contentsAnew(int pallet, int good) {
        return (int) keep(gram -> gram.contentsAnew(pallet, good));
    }

    int declare(int truck, int good, int amount) {
        return (int) keep(gram -> gram.declare(truck, good, amount));
    }

    int mismatch(int truck) {
        return (int) keep(gram -> gram.mismatch(truck));
    }

    int fee(int kind, int fee) {
        return (int) keep(gram -> gram.fee(kind, fee));
    }

    int owed(int holder) {
        return (int) keep(gram -> gram.owed(holder));
    }

    int calls() {
        return calls.size();
    }

    /** A fresh object that has had the same calls. */
    PalletGram again() {
        PalletGram fresh = new PalletGram();
        for (Call call : calls) {
            Check.outcome(() -> call.ask(fresh));
        }
        return fresh;
    }

    /** Makes a call, and keeps it. */
    long keep(Call call) {
        if (calls.size() >= MOST_CALLS) {
            throw new AssertionError("a test asks one object more than " + MOST_CALLS + " calls");
        }
        calls.add(call);
        return call.ask(own);
    }
}
