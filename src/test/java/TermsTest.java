/** The sentences of the terms that no test of a promise's edges bears the name of. */
public final class TermsTest {
    private static final int CUSTOMS = PalletGram.CUSTOMS;

    public static void main(String[] args) {
        holders();
        chains();
        proofs();
        witnesses();
        fees();
        Check.end();
    }

    // ---- goods, holders

    private static void holders() {
        Check.sentence(2, "There are the holders 0 to 3, docks, and 4 and 5, trucks", TermsTest::docksAndTrucks);
        Check.sentence(7, "and customs, 6.", TermsTest::customsIsNoHolder);
        Check.sentence(13, "A pallet is at a holder", TermsTest::palletsApart);
    }

    private static void docksAndTrucks() {
        for (int number = 0; number <= 3; number++) {
            int dock = number;
            Gram gram = Setup.pallets(1, dock);
            Check.noPlace("declare for a dock", gram, () -> gram.declare(dock, 0, 1));
            Setup.loadMuch(gram, 0, 5, 100);
            Check.due("a dock has no bound", gram.pallet(0, 2), 600);
        }
        for (int number = 4; number <= 5; number++) {
            int truck = number;
            Gram gram = Setup.loaded(1);
            Check.noPlace("make on a truck", gram, () -> gram.make(truck));
            gram.move(0, truck);
            Check.due("declared for a truck", gram.declare(truck, 2, 10), 0);
            Check.due("a truck has a mismatch", gram.mismatch(truck), 0);
            Check.noState("a truck has a bound", gram, () -> gram.load(0, 5, 99));
        }
    }

    /** Customs makes entries, owes, and has copies, and no pallet is ever there. */
    private static void customsIsNoHolder() {
        Gram gram = Setup.loaded(1);
        gram.hold(0);
        Check.due("who made HELD", gram.entry(0, 2, 1), CUSTOMS);
        Check.due("where the pallet is", gram.pallet(0, 0), 0);
        Check.due("owed", gram.owed(CUSTOMS), 9);
        Check.due("copies", gram.lose(CUSTOMS), 1);
        gram.hold(0);
        Check.noPlace("make at customs", gram, () -> gram.make(CUSTOMS));
        Check.noPlace("move to customs", gram, () -> gram.move(0, CUSTOMS));
        Check.noPlace("declare for customs", gram, () -> gram.declare(CUSTOMS, 0, 1));
        Check.noPlace("the mismatch of customs", gram, () -> gram.mismatch(CUSTOMS));
    }

    /** Each pallet at the holder of its own number. */
    private static void palletsApart() {
        Gram gram = Setup.loaded(6);
        for (int pallet = 0; pallet <= 3; pallet++) {
            gram.move(pallet, 4);
            gram.move(pallet, pallet);
        }
        gram.move(4, 4);
        gram.move(5, 5);
        for (int pallet = 0; pallet <= 5; pallet++) {
            Check.due("the holder of " + pallet, gram.pallet(pallet, 0), pallet);
            Check.due("who parts it", gram.entry(gram.part(pallet, 2, 1), 0, 1), pallet);
        }
    }

    // ---- chains

    private static void chains() {
        Check.sentence(14, "its kind, who made it (the holder at which the pallet is then, "
                + "customs for HELD and FREED), a good, an amount, another pallet, and an entry of that",
                TermsTest::entriesByTheHolderOfThen);
        Check.sentence(14, "0 where none is told below", TermsTest::entriesThatTellNothing);
        Check.sentence(5, "5 JOINED: all goods of another pallet came", TermsTest::joinedAllGoods);
        Check.sentence(5, "its last entry, GONE, is told", TermsTest::joinedTellsGone);
        Check.sentence(5, "6 GONE: the last entry of a pallet that was joined to another one, "
                + "and the entry by which it was", TermsTest::goneIsLast);
        Check.sentence(4, "4 CAME: the first entry of that other pallet: the good and the amount, "
                + "and the pallet that was parted, and the entry by which it was", TermsTest::cameTellsPartedAgain);
    }

    private static void entriesByTheHolderOfThen() {
        Gram gram = Setup.pallets(2, 3);
        gram.load(1, 5, 9);
        gram.move(1, 4);
        gram.load(1, 5, -1);
        gram.hold(1);
        gram.hold(1);
        gram.part(1, 5, 2);
        gram.move(1, 2);
        gram.load(1, 4, 6);
        int[] made = {3, 3, 3, 4, CUSTOMS, CUSTOMS, 4, 4, 2};
        for (int entry = 0; entry < made.length; entry++) {
            Check.due("who made " + entry, gram.entry(1, entry, 1), made[entry]);
        }
        Check.due("who made CAME", gram.entry(2, 0, 1), 4);
        int[] parted = {3, 4, 5, 2, 2, 0};
        int[] loaded = {1, 2, 4, 6, 0, 0};
        for (int what = 0; what < 6; what++) {
            Check.due("number " + what + " of PARTED", gram.entry(1, 6, what), parted[what]);
            Check.due("number " + what + " of LOADED", gram.entry(1, 8, what), loaded[what]);
        }
    }

    /** On a pallet far from 0, at a dock far from 0, after entries that told much. */
    private static void entriesThatTellNothing() {
        Gram gram = Setup.pallets(14, 3);
        gram.load(13, 5, 8);
        gram.join(12, 13);
        gram.hold(13);
        gram.hold(13);
        gram.move(13, 5);
        gram.load(13, 5, -8);
        Check.dueEntry(gram, 13, 0, 0, 3, 0, 0, 0, 0, 1 << 3);
        Check.dueEntry(gram, 13, 1, 1, 3, 5, 8, 0, 0, 1 << 3);
        Check.dueEntry(gram, 13, 2, 5, 3, 0, 0, 12, 1, 1 << 3 | 1 << 6);
        Check.dueEntry(gram, 13, 3, 8, 6, 0, 0, 0, 0, 1 << 6);
        Check.dueEntry(gram, 13, 4, 9, 6, 0, 0, 0, 0, 1 << 6);
        Check.dueEntry(gram, 13, 5, 7, 3, 0, 5, 0, 0, 1 << 3 | 1 << 5);
        Check.dueEntry(gram, 13, 6, 2, 5, 5, 8, 0, 0, 1 << 5);
        Check.dueEntry(gram, 12, 1, 6, 3, 0, 0, 13, 2, 1 << 3);
    }

    private static void joinedAllGoods() {
        Gram gram = Setup.pallets(2, 0);
        for (int good = 0; good <= 5; good++) {
            gram.load(0, good, 10 + good);
            gram.load(1, good, 2);
        }
        Check.due("together", gram.join(0, 1), 75 + 12);
        for (int good = 0; good <= 5; good++) {
            Check.due("came of " + good, gram.contents(1, good), 12 + good);
            Check.due("papers tell of " + good, gram.contentsAnew(1, good), 12 + good);
            Check.due("left of " + good, gram.contents(0, good) + gram.contentsAnew(0, good), 0);
        }
        Check.due("JOINED tells no good and no amount", gram.entry(1, 7, 2) + gram.entry(1, 7, 3), 0);
    }

    /** Pallets with chains of other lengths, each joined to the same one. */
    private static void joinedTellsGone() {
        Gram gram = Setup.pallets(5, 0);
        for (int pallet = 1; pallet <= 4; pallet++) {
            Setup.fill(gram, pallet, 2 * pallet + 1);
            gram.join(pallet, 0);
            Check.due("the pallet told", gram.entry(0, pallet, 4), pallet);
            Check.due("the entry told", gram.entry(0, pallet, 5), 2 * pallet + 1);
            Check.due("its kind", gram.entry(pallet, gram.entry(0, pallet, 5), 0), 6);
            Check.due("it is the last", gram.pallet(pallet, 1), gram.entry(0, pallet, 5) + 1);
        }
    }

    private static void goneIsLast() {
        Gram gram = Setup.loaded(4);
        Setup.fill(gram, 3, 9);
        gram.join(1, 3);
        gram.join(2, 3);
        for (int pallet = 1; pallet <= 2; pallet++) {
            int last = gram.pallet(pallet, 1) - 1;
            int gone = pallet;
            Check.due("the kind of the last one", gram.entry(pallet, last, 0), 6);
            Check.due("the pallet told", gram.entry(pallet, last, 4), 3);
            Check.due("the entry told", gram.entry(pallet, last, 5), 8 + pallet);
            Check.due("its kind", gram.entry(3, 8 + pallet, 0), 5);
            Check.noState("load behind GONE", gram, () -> gram.load(gone, 2, 1));
            Check.noState("hold behind GONE", gram, () -> gram.hold(gone) ? 1 : 0);
            Check.noState("move behind GONE", gram, () -> gram.move(gone, 4));
        }
    }

    private static void cameTellsPartedAgain() {
        Gram gram = Setup.pallets(3, 1);
        gram.load(2, 4, 90);
        for (int time = 0; time < 4; time++) {
            int parted = gram.part(2, 4, 10 + time);
            int by = 2 + time;
            Check.due("the kind of the first entry", gram.entry(parted, 0, 0), 4);
            Check.due("the good", gram.entry(parted, 0, 2), 4);
            Check.due("the amount", gram.entry(parted, 0, 3), 10 + time);
            Check.due("the pallet that was parted", gram.entry(parted, 0, 4), 2);
            Check.due("the entry by which it was", gram.entry(parted, 0, 5), by);
            Check.due("its kind", gram.entry(2, by, 0), 3);
            Check.due("PARTED tells the new one", gram.entry(2, by, 4), parted);
            Check.due("and its entry 0", gram.entry(2, by, 5), 0);
        }
    }

    // ---- proofs

    private static void proofs() {
        Check.sentence(14, "It is kept with the entry.", TermsTest::proofsAreKept);
        Check.sentence(8, "its proof stays", TermsTest::proofsBehindSpoiledOnes);
    }

    private static void proofsAreKept() {
        Gram gram = Setup.loaded(1);
        gram.move(0, 4);
        int[] kept = new int[3];
        for (int entry = 0; entry < 3; entry++) {
            kept[entry] = gram.entry(0, entry, 6);
        }
        gram.load(0, 0, 5);
        gram.part(0, 2, 3);
        gram.join(1, 0);
        gram.spoil(0, 1, 500);
        dueProofs(gram, kept, "spoiled");
        gram.lose(0);
        gram.lose(4);
        dueProofs(gram, kept, "with lost copies");
        gram.spoil(0, 2, -4);
        gram.hold(0);
        dueProofs(gram, kept, "HELD");
        gram.spoil(0, 1, 10);
        gram.spoil(0, 2, 4);
        Check.due("sound by the old amounts", gram.isSound(0), true);
        dueProofs(gram, kept, "told as they were");
    }

    private static void dueProofs(Gram gram, int[] kept, String how) {
        for (int entry = 0; entry < kept.length; entry++) {
            Check.due("the proof of " + entry + ", " + how, gram.entry(0, entry, 6), kept[entry]);
        }
    }

    /** An entry made behind a spoiled one is proved over the proof that was kept, not over the paper. */
    private static void proofsBehindSpoiledOnes() {
        Gram gram = Setup.loaded(1);
        gram.spoil(0, 1, -10);
        gram.hold(0);
        gram.hold(0);
        gram.repair(0, 1);
        Gram same = Setup.loaded(1);
        same.hold(0);
        same.hold(0);
        for (int entry = 0; entry <= 3; entry++) {
            Check.due("the proof of " + entry, gram.entry(0, entry, 6), same.entry(0, entry, 6));
        }
        Check.due("broken", gram.broken(0), PalletGram.NONE);
    }

    // ---- witnesses

    private static void witnesses() {
        Check.sentence(14, "Of each entry who made it has a copy", TermsTest::makersHaveCopies);
        Check.sentence(10, "A broken entry is repaired by one who has a copy", TermsTest::oneWitnessIsEnough);
    }

    private static void makersHaveCopies() {
        for (int dock = 0; dock <= 3; dock++) {
            for (int truck = 4; truck <= 5; truck++) {
                Gram gram = Setup.pallets(2, dock);
                work(gram, truck);
                for (int pallet = 0; pallet < 3; pallet++) {
                    for (int entry = 0; entry < gram.pallet(pallet, 1); entry++) {
                        int maker = gram.entry(pallet, entry, 1);
                        Check.due("its maker has one", gram.entry(pallet, entry, 7) >> maker & 1, 1);
                    }
                }
                gram.lose(truck);
                for (int entry = 0; entry < gram.pallet(0, 1); entry++) {
                    Check.due("the truck has none", gram.entry(0, entry, 7) >> truck & 1, 0);
                }
            }
        }
    }

    /** Entries of all kinds on the pallets 0, 1 and, parted from 0, 2. */
    private static void work(Gram gram, int truck) {
        gram.move(0, truck);
        gram.move(1, truck);
        gram.load(0, 1, 9);
        gram.load(0, 1, -2);
        gram.part(0, 1, 3);
        gram.join(1, 0);
        gram.hold(0);
        gram.hold(0);
        gram.move(0, 0);
    }

    private static void oneWitnessIsEnough() {
        for (int left = 0; left <= 6; left++) {
            Gram gram = Setup.pallets(2, 3);
            work(gram, 5);
            for (int holder = 0; holder <= 6; holder++) {
                if (holder != left) {
                    gram.lose(holder);
                }
            }
            repairsBy(gram, left);
        }
    }

    /** That the entries of pallet 0 are repaired by the only one left, or, where he has no copy, not at all. */
    private static void repairsBy(Gram gram, int left) {
        int entries = gram.pallet(0, 1);
        for (int number = 0; number < entries; number++) {
            int entry = number;
            int made = gram.entry(0, entry, 3);
            boolean has = gram.entry(0, entry, 7) == 1 << left;
            gram.spoil(0, entry, 444);
            if (has) {
                Check.due("who repairs " + entry, gram.repair(0, entry), left);
                Check.due("the paper", gram.entry(0, entry, 3), made);
            } else {
                Check.noState("repair of " + entry + ", only " + left + " left", gram, () -> gram.repair(0, entry));
                gram.spoil(0, entry, made);
            }
        }
    }

    // ---- fees

    private static void fees() {
        Check.sentence(19, "Each kind has a fee, 0 to 99, the kind's number and 1 at first", TermsTest::feesAtFirst);
        Check.sentence(20, "who makes an entry owes the fee of then", TermsTest::feesOfMakers);
    }

    private static void feesAtFirst() {
        Gram low = new Gram();
        Gram high = new Gram();
        for (int kind = 0; kind <= 9; kind++) {
            Check.due("the fee of " + kind + ", ahead of the least", low.fee(kind, 0), kind + 1);
            Check.due("the fee of " + kind + ", ahead of the most", high.fee(kind, 99), kind + 1);
        }
        for (int kind = 0; kind <= 9; kind++) {
            Check.due("the least of " + kind, low.fee(kind, 0), 0);
            Check.due("the most of " + kind, high.fee(kind, 99), 99);
        }
    }

    private static void feesOfMakers() {
        int[] made = {0, 0, 0, 4, 7, 0, 2};
        for (int fee = 0; fee <= 99; fee += 33) {
            Gram gram = new Gram();
            for (int kind = 0; kind <= 9; kind++) {
                gram.fee(kind, fee);
            }
            gram.make(3);
            gram.make(3);
            work(gram, 4);
            for (int kind = 0; kind <= 9; kind++) {
                gram.fee(kind, 1);
            }
            for (int holder = 0; holder <= 6; holder++) {
                Check.due("owed at " + fee + " each, by " + holder, gram.owed(holder), fee * made[holder]);
            }
        }
    }
}
