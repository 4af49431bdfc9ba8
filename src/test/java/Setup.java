import java.util.List;

/** Objects as the tests want them to begin with. */
final class Setup {
    static final int MIN = Integer.MIN_VALUE;
    static final int MAX = Integer.MAX_VALUE;

    /** Two pallets at dock 0 with 10 of good 2 (but for what is gone): one cannot be worked on, the other can. */
    static final class Unworkable {
        final String how;
        final Gram gram;
        final int pallet;
        final int other;

        Unworkable(String how, Gram gram, int pallet, int other) {
            this.how = how;
            this.gram = gram;
            this.pallet = pallet;
            this.other = other;
        }
    }

    private Setup() {
    }

    static Gram pallets(int count, int dock) {
        Gram gram = new Gram();
        for (int made = 0; made < count; made++) {
            gram.make(dock);
        }
        return gram;
    }

    /** Pallets at dock 0, each with 10 of good 2. */
    static Gram loaded(int count) {
        Gram gram = pallets(count, 0);
        for (int pallet = 0; pallet < count; pallet++) {
            gram.load(pallet, 2, 10);
        }
        return gram;
    }

    /** The pallet of loaded(1), with 4 of its 10 parted to pallet 1, which then came back. */
    static Gram partedAndJoined() {
        Gram gram = loaded(1);
        gram.part(0, 2, 4);
        gram.join(1, 0);
        return gram;
    }

    static void loadMuch(Gram gram, int pallet, int good, int amount) {
        for (int left = amount; left > 0; left -= 99) {
            gram.load(pallet, good, Math.min(left, 99));
        }
    }

    /** Holds and frees a pallet until it has so many entries; one that is odd is one of good 0 loaded. */
    static void fill(Gram gram, int pallet, int entries) {
        int left = entries - gram.pallet(pallet, 1);
        if (left % 2 != 0) {
            gram.load(pallet, 0, 1);
        }
        for (int pair = 0; pair < left / 2; pair++) {
            gram.hold(pallet);
            gram.hold(pallet);
        }
    }

    static List<Unworkable> unworkable() {
        return List.of(heldOne(), goneOne(), spoiledOne(), cameFromSpoiledOne(), joinedBySpoiledOne(), fullOne());
    }

    private static Unworkable heldOne() {
        Gram gram = loaded(2);
        gram.hold(0);
        return new Unworkable("HELD", gram, 0, 1);
    }

    private static Unworkable goneOne() {
        Gram gram = loaded(2);
        gram.join(0, 1);
        return new Unworkable("GONE", gram, 0, 1);
    }

    private static Unworkable spoiledOne() {
        Gram gram = loaded(2);
        gram.spoil(0, 1, 11);
        return new Unworkable("spoiled", gram, 0, 1);
    }

    private static Unworkable cameFromSpoiledOne() {
        Gram gram = loaded(2);
        gram.load(0, 2, 10);
        int pallet = gram.part(0, 2, 10);
        gram.spoil(0, 0, 1);
        return new Unworkable("parted from a spoiled one", gram, pallet, 1);
    }

    private static Unworkable joinedBySpoiledOne() {
        Gram gram = loaded(2);
        gram.join(gram.make(0), 0);
        gram.spoil(2, 0, 1);
        return new Unworkable("joined by a spoiled one", gram, 0, 1);
    }

    private static Unworkable fullOne() {
        Gram gram = loaded(2);
        fill(gram, 0, 30);
        return new Unworkable("full", gram, 0, 1);
    }
}
