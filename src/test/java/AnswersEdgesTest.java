/** The edges that promises 13 to 16 name, a test for each sentence: what there is. */
public final class AnswersEdgesTest {
    private static final int MIN = Setup.MIN;
    private static final int MAX = Setup.MAX;
    private static final String AS_TOLD = "Throws `IndexOutOfBoundsException` as told";
    private static final String WHAT_OUT_OF_RANGE = "Throws `IllegalArgumentException` if what is out of range";
    private static final String PALLET_AND_GOOD = "Throws `IndexOutOfBoundsException` as told, of pallet and good";

    public static void main(String[] args) {
        ofPallets();
        ofEntries();
        ofContents();
        ofContentsAnew();
        Check.end();
    }

    // ---- promise 13

    private static void ofPallets() {
        Check.sentence(13, AS_TOLD, AnswersEdgesTest::palletNowhere);
        Check.sentence(13, WHAT_OUT_OF_RANGE, AnswersEdgesTest::palletOfNoNumber);
        Check.sentence(13, Check.NAMED_FIRST, AnswersEdgesTest::palletWrongInSeveralWays);
        Check.sentence(13, "0 its holder, that at which it was if it is GONE", AnswersEdgesTest::palletHolder);
        Check.sentence(13, "1 how many entries", AnswersEdgesTest::palletEntries);
        Check.sentence(13, "2 its weight", AnswersEdgesTest::palletWeight);
        Check.sentence(13, "3 whether it is HELD (1 or 0)", AnswersEdgesTest::palletHeld);
        Check.sentence(13, "4 whether it is GONE (1 or 0)", AnswersEdgesTest::palletGone);
    }

    private static void palletNowhere() {
        Gram gram = Setup.loaded(2);
        for (int number = 0; number <= 4; number++) {
            int what = number;
            Check.noPlaces("number " + what + " of pallet", gram, pallet -> gram.pallet(pallet, what),
                    MIN, -1, 2, 13, 14, MAX);
        }
        Gram full = Setup.pallets(14, 3);
        Check.due("the holder of the first one", full.pallet(0, 0), 3);
        Check.due("the holder of the last one", full.pallet(13, 0), 3);
        Check.noPlaces("of 14 pallets, pallet", full, pallet -> full.pallet(pallet, 0), -1, 14);
    }

    private static void palletOfNoNumber() {
        Gram gram = Setup.loaded(1);
        Check.noArguments("number", gram, what -> gram.pallet(0, what), MIN, -1, 5, 6, MAX);
    }

    private static void palletWrongInSeveralWays() {
        Gram gram = Setup.loaded(1);
        Check.noPlaces("number -1 of pallet", gram, pallet -> gram.pallet(pallet, -1), -1, 1);
        Check.noPlaces("number 5 of pallet", gram, pallet -> gram.pallet(pallet, 5), -1, 1);
    }

    private static void palletHolder() {
        Gram gram = Setup.loaded(2);
        Check.due("the first holder", gram.pallet(0, 0), 0);
        gram.move(0, 5);
        gram.move(1, 5);
        Check.due("the last holder", gram.pallet(0, 0), 5);
        gram.join(0, 1);
        gram.move(1, 3);
        Check.due("the holder at which a GONE one was", gram.pallet(0, 0), 5);
        gram.hold(1);
        Check.due("the holder of a HELD one", gram.pallet(1, 0), 3);
    }

    private static void palletEntries() {
        Gram gram = Setup.pallets(1, 0);
        Check.due("the least", gram.pallet(0, 1), 1);
        for (int entries = 2; entries <= 30; entries++) {
            gram.load(0, 0, 1);
            Check.due("entries", gram.pallet(0, 1), entries);
        }
        Check.noState("a 31st", gram, () -> gram.load(0, 0, 1));
        Check.due("the most", gram.pallet(0, 1), 30);
    }

    private static void palletWeight() {
        Gram gram = Setup.pallets(3, 0);
        Check.due("of nothing", gram.pallet(0, 2), 0);
        Setup.loadMuch(gram, 0, 0, 999);
        Check.due("of 999 of the lightest", gram.pallet(0, 2), 999);
        Setup.loadMuch(gram, 1, 5, 999);
        Check.due("of 999 of the heaviest", gram.pallet(1, 2), 5994);
        gram.spoil(1, 1, 0);
        Check.due("when papers tell less", gram.pallet(1, 2), 5994);
        gram.repair(1, 1);
        Check.due("join", gram.join(0, 1), 1998);
        Check.due("of both", gram.pallet(1, 2), 6993);
        Check.due("of a GONE one", gram.pallet(0, 2), 0);
        for (int good = 0; good <= 5; good++) {
            gram.load(2, good, 1);
        }
        Check.due("of one of each good", gram.pallet(2, 2), 21);
    }

    private static void palletHeld() {
        Gram gram = Setup.pallets(2, 0);
        Check.due("at first", gram.pallet(0, 3), 0);
        gram.hold(0);
        Check.due("HELD", gram.pallet(0, 3), 1);
        Check.due("the other one", gram.pallet(1, 3), 0);
        gram.spoil(0, 1, 9);
        Check.due("HELD by a spoiled entry", gram.pallet(0, 3), 1);
        gram.hold(0);
        Check.due("FREED", gram.pallet(0, 3), 0);
        gram.repair(0, 1);
        gram.join(0, 1);
        Check.due("GONE", gram.pallet(0, 3), 0);
    }

    private static void palletGone() {
        Gram gram = Setup.pallets(2, 0);
        Check.due("at first", gram.pallet(0, 4), 0);
        gram.hold(0);
        Check.due("HELD", gram.pallet(0, 4), 0);
        gram.hold(0);
        gram.join(0, 1);
        Check.due("GONE", gram.pallet(0, 4), 1);
        Check.due("the other one", gram.pallet(1, 4), 0);
        gram.spoil(0, 3, 9);
        Check.due("GONE by a spoiled entry", gram.pallet(0, 4), 1);
    }

    // ---- promise 14

    private static void ofEntries() {
        Check.sentence(14, "Throws `IndexOutOfBoundsException` as told, of pallet and entry",
                AnswersEdgesTest::entryNowhere);
        Check.sentence(14, WHAT_OUT_OF_RANGE, AnswersEdgesTest::entryOfNoNumber);
        Check.sentence(14, Check.NAMED_FIRST, AnswersEdgesTest::entryWrongInSeveralWays);
        Check.sentence(14, "A pallet has a chain of entries, numbered from 0, at most 30.",
                AnswersEdgesTest::entryFirstAndLast);
        Check.sentence(14, "Returns a number of an entry, as its paper tells it.", AnswersEdgesTest::entryOnPaper);
        Check.sentence(14, "0 to 5 its six numbers in order", AnswersEdgesTest::entryOfEachKind);
        Check.sentence(14, "h becomes 31 h and a number, together, as ints that go round",
                AnswersEdgesTest::entryProofsGoRound);
        Check.sentence(14, "the proof of the entry ahead, 17 for the first one", AnswersEdgesTest::entryFirstProof);
        Check.sentence(14, "7 who has copies, as a set (1 shifted to the left by each)",
                AnswersEdgesTest::entryCopies);
    }

    private static void entryNowhere() {
        Gram gram = Setup.loaded(2);
        gram.hold(1);
        for (int number = 0; number <= 7; number++) {
            int what = number;
            Check.noPlaces("number " + what + " of pallet", gram, pallet -> gram.entry(pallet, 0, what),
                    MIN, -1, 2, 13, 14, MAX);
            Check.noPlaces("number " + what + " of entry", gram, entry -> gram.entry(0, entry, what),
                    MIN, -1, 2, 29, 30, MAX);
        }
        Check.due("entry 2 of the other one", gram.entry(1, 2, 0), 8);
    }

    private static void entryOfNoNumber() {
        Gram gram = Setup.loaded(1);
        Check.noArguments("number", gram, what -> gram.entry(0, 1, what), MIN, -1, 8, 9, MAX);
    }

    private static void entryWrongInSeveralWays() {
        Gram gram = Setup.loaded(1);
        Check.noPlaces("number 8 of pallet", gram, pallet -> gram.entry(pallet, 0, 8), -1, 1);
        Check.noPlaces("number -1 of entry", gram, entry -> gram.entry(0, entry, -1), -1, 2);
    }

    private static void entryFirstAndLast() {
        Gram gram = Setup.pallets(14, 0);
        for (int pallet = 0; pallet <= 13; pallet += 13) {
            Setup.fill(gram, pallet, 30);
            int number = pallet;
            Check.due("the first kind", gram.entry(number, 0, 0), 0);
            Check.due("the last kind", gram.entry(number, 29, 0), 9);
            Check.noPlaces("entry", gram, entry -> gram.entry(number, entry, 0), -1, 30);
        }
    }

    private static void entryOnPaper() {
        Gram gram = Setup.loaded(1);
        for (int amount : new int[] {-999, 999}) {
            int proof = gram.entry(0, 1, 6);
            gram.spoil(0, 1, amount);
            Check.due("the amount", gram.entry(0, 1, 3), amount);
            Check.due("the proof", gram.entry(0, 1, 6), proof);
        }
        gram.repair(0, 1);
        Check.dueEntry(gram, 0, 1, 1, 0, 2, 10, 0, 0, 1);
    }

    /** All kinds on two chains. */
    private static void entryOfEachKind() {
        Gram gram = Setup.pallets(1, 1);
        gram.load(0, 4, 9);
        gram.load(0, 4, -2);
        gram.part(0, 4, 3);
        gram.move(0, 4);
        gram.hold(0);
        gram.hold(0);
        gram.move(0, 1);
        gram.join(1, 0);
        Check.dueEntry(gram, 0, 0, 0, 1, 0, 0, 0, 0, 2);
        Check.dueEntry(gram, 0, 1, 1, 1, 4, 9, 0, 0, 2);
        Check.dueEntry(gram, 0, 2, 2, 1, 4, 2, 0, 0, 2);
        Check.dueEntry(gram, 0, 3, 3, 1, 4, 3, 1, 0, 66);
        Check.dueEntry(gram, 0, 4, 7, 1, 0, 4, 0, 0, 18);
        Check.dueEntry(gram, 0, 5, 8, 6, 0, 0, 0, 0, 64);
        Check.dueEntry(gram, 0, 6, 9, 6, 0, 0, 0, 0, 64);
        Check.dueEntry(gram, 0, 7, 7, 4, 0, 1, 0, 0, 18);
        Check.dueEntry(gram, 0, 8, 5, 1, 0, 0, 1, 1, 66);
        Check.dueEntry(gram, 1, 0, 4, 1, 4, 3, 0, 3, 2);
        Check.dueEntry(gram, 1, 1, 6, 1, 0, 0, 0, 8, 2);
    }

    /** The proofs of a whole chain, made as longs and brought back among the ints each time. */
    private static void entryProofsGoRound() {
        Gram gram = Setup.pallets(1, 3);
        for (int entry = 1; entry < 30; entry++) {
            gram.load(0, 5, entry);
        }
        long proof = 17;
        boolean below = false;
        for (int entry = 0; entry < 30; entry++) {
            for (int what = 0; what < 6; what++) {
                proof = proof * 31 + gram.entry(0, entry, what);
                proof = Math.floorMod(proof + (1L << 31), 1L << 32) - (1L << 31);
            }
            below |= proof < 0;
            Check.due("the proof of " + entry, gram.entry(0, entry, 6), proof);
        }
        Check.due("one went round to below 0", below, true);
    }

    private static void entryFirstProof() {
        Gram gram = Setup.pallets(14, 0);
        long proof = 17L * 31 * 31 * 31 * 31 * 31 * 31;
        Check.due("of MADE at dock 0", gram.entry(0, 0, 6), (int) proof);
        Check.due("of the last pallet's", gram.entry(13, 0, 6), (int) proof);
        Gram other = Setup.pallets(1, 1);
        Check.due("of MADE at dock 1", other.entry(0, 0, 6), (int) (proof + 31 * 31 * 31 * 31));
    }

    private static void entryCopies() {
        Gram gram = Setup.pallets(1, 0);
        Check.due("the least", gram.entry(0, 0, 7), 1);
        gram.hold(0);
        Check.due("the greatest alone", gram.entry(0, 1, 7), 64);
        gram.hold(0);
        gram.move(0, 5);
        Check.due("two", gram.entry(0, 3, 7), 33);
        gram.lose(0);
        Check.due("nobody", gram.entry(0, 0, 7), 0);
        Check.due("one is left", gram.entry(0, 3, 7), 32);
    }

    // ---- promise 15

    private static void ofContents() {
        Check.sentence(15, PALLET_AND_GOOD, AnswersEdgesTest::contentsNowhere);
        Check.sentence(15, "it has of each good some, 0 to 999 as its work leaves them",
                AnswersEdgesTest::contentsNoneAndMost);
        Check.sentence(15, "Returns how many of a good a pallet has, as work left it",
                AnswersEdgesTest::contentsAsWorkLeft);
        Check.sentence(15, "none if it is GONE", AnswersEdgesTest::contentsOfGone);
    }

    private static void contentsNowhere() {
        Gram gram = Setup.loaded(2);
        Check.noPlaces("contents of pallet", gram, pallet -> gram.contents(pallet, 2), MIN, -1, 2, 13, 14, MAX);
        Check.noPlaces("contents of good", gram, good -> gram.contents(0, good), MIN, -1, 6, MAX);
        Check.noPlaces("contents of the last one's good", gram, good -> gram.contents(1, good), -1, 6);
    }

    private static void contentsNoneAndMost() {
        Gram gram = Setup.pallets(14, 0);
        for (int good = 0; good <= 5; good += 5) {
            Check.due("none", gram.contents(13, good), 0);
            Setup.loadMuch(gram, 13, good, 999);
            Check.due("the most", gram.contents(13, good), 999);
            Check.due("of another pallet", gram.contents(0, good), 0);
        }
        Check.due("of another good", gram.contents(13, 1) + gram.contents(13, 4), 0);
    }

    private static void contentsAsWorkLeft() {
        Gram gram = Setup.loaded(1);
        gram.spoil(0, 1, 999);
        Check.due("when papers tell more", gram.contents(0, 2), 10);
        gram.spoil(0, 1, -999);
        Check.due("when papers tell less", gram.contents(0, 2), 10);
    }

    private static void contentsOfGone() {
        Gram gram = Setup.loaded(2);
        gram.load(0, 5, 1);
        gram.join(0, 1);
        for (int good = 0; good <= 5; good++) {
            Check.due("contents of " + good, gram.contents(0, good), 0);
        }
        Check.due("contents of the other one", gram.contents(1, 2), 20);
    }

    // ---- promise 16

    private static void ofContentsAnew() {
        Check.sentence(16, PALLET_AND_GOOD, AnswersEdgesTest::anewNowhere);
        Check.sentence(16, "Returns how many of a good papers tell of a pallet.", AnswersEdgesTest::anewLeastAndMost);
        Check.sentence(16, "LOADED and CAME more by the amount of the good, TAKEN and PARTED less",
                AnswersEdgesTest::anewOfEachKind);
        Check.sentence(16, "4 CAME: the first entry of that other pallet: the good and the amount",
                AnswersEdgesTest::anewOfParted);
        Check.sentence(16, "JOINED more by what the papers of the other pallet tell without its GONE",
                AnswersEdgesTest::anewOfAllJoined);
        Check.sentence(16, "GONE nothing any more", AnswersEdgesTest::anewOfGone);
    }

    private static void anewNowhere() {
        Gram gram = Setup.loaded(2);
        Check.noPlaces("papers of pallet", gram, pallet -> gram.contentsAnew(pallet, 2), MIN, -1, 2, 13, 14, MAX);
        Check.noPlaces("papers of good", gram, good -> gram.contentsAnew(0, good), MIN, -1, 6, MAX);
        Check.noPlaces("papers of the last one's good", gram, good -> gram.contentsAnew(1, good), -1, 6);
    }

    private static void anewLeastAndMost() {
        Gram gram = Setup.pallets(14, 0);
        for (int good = 0; good <= 5; good += 5) {
            Check.due("of one entry", gram.contentsAnew(13, good), 0);
            Setup.loadMuch(gram, 13, good, 999);
            Check.due("999", gram.contentsAnew(13, good), 999);
        }
        for (int entry = 1; entry <= 22; entry++) {
            gram.spoil(13, entry, -999);
        }
        Check.due("below none", gram.contentsAnew(13, 0), -999 * 11);
        for (int entry = 1; entry <= 22; entry++) {
            gram.spoil(13, entry, 999);
        }
        Check.due("above 999", gram.contentsAnew(13, 5), 999 * 11);
    }

    private static void anewOfEachKind() {
        Gram gram = Setup.pallets(1, 0);
        gram.load(0, 0, 9);
        gram.load(0, 0, -2);
        gram.part(0, 0, 3);
        gram.move(0, 4);
        gram.hold(0);
        gram.hold(0);
        gram.move(0, 0);
        gram.join(1, 0);
        Check.due("9 - 2 - 3 + 3", gram.contentsAnew(0, 0), 7);
        int[] sign = {0, 1, -1, -1, 0, 0, 0, 0, 0};
        for (int entry = 0; entry < sign.length; entry++) {
            int told = gram.spoil(0, entry, 999);
            Check.due("more by entry " + entry, gram.contentsAnew(0, 0), 7 + sign[entry] * (999 - told));
            gram.spoil(0, entry, -999);
            Check.due("less by entry " + entry, gram.contentsAnew(0, 0), 7 + sign[entry] * (-999 - told));
            gram.spoil(0, entry, told);
        }
        gram.spoil(1, 0, 999);
        Check.due("by CAME", gram.contentsAnew(0, 0), 7 - 3 + 999);
        gram.spoil(1, 1, 999);
        Check.due("by GONE", gram.contentsAnew(0, 0), 7 - 3 + 999);
    }

    /** What came is told by the entry CAME alone, not by the papers of the pallet that was parted. */
    private static void anewOfParted() {
        Gram gram = Setup.loaded(1);
        gram.part(0, 2, 4);
        Check.due("of the one that was parted", gram.contentsAnew(0, 2), 6);
        Check.due("of the one that came", gram.contentsAnew(1, 2), 4);
        gram.spoil(0, 1, 999);
        gram.spoil(0, 2, -999);
        Check.due("of the one that was parted, spoiled", gram.contentsAnew(0, 2), 999 + 999);
        Check.due("of the one that came", gram.contentsAnew(1, 2), 4);
        gram.spoil(1, 0, -999);
        Check.due("of the one that came, spoiled", gram.contentsAnew(1, 2), -999);
        Check.due("of the one that was parted", gram.contentsAnew(0, 2), 999 + 999);
    }

    /** All 14 pallets, each joined to the next one, up and down, and all to one. */
    private static void anewOfAllJoined() {
        Gram up = Setup.loaded(14);
        Gram down = Setup.loaded(14);
        Gram toOne = Setup.loaded(14);
        for (int pallet = 0; pallet < 13; pallet++) {
            up.join(pallet, pallet + 1);
            down.join(13 - pallet, 12 - pallet);
            toOne.join(pallet < 7 ? pallet : pallet + 1, 7);
        }
        Check.due("up", up.contentsAnew(13, 2), 140);
        Check.due("down", down.contentsAnew(0, 2), 140);
        Check.due("all to one", toOne.contentsAnew(7, 2), 140);
        Check.due("another good", up.contentsAnew(13, 0), 0);
        up.spoil(0, 1, -999);
        down.spoil(13, 1, 999);
        Check.due("up, the farthest one spoiled", up.contentsAnew(13, 2), 130 - 999);
        Check.due("down, the farthest one spoiled", down.contentsAnew(0, 2), 130 + 999);
    }

    private static void anewOfGone() {
        Gram gram = Setup.loaded(3);
        gram.join(0, 1);
        gram.join(1, 2);
        gram.spoil(0, 1, 999);
        gram.spoil(0, 2, 999);
        for (int good = 0; good <= 5; good++) {
            Check.due("of good " + good, gram.contentsAnew(0, good), 0);
            Check.due("of one that was joined to, too, good " + good, gram.contentsAnew(1, good), 0);
        }
        Check.due("of the other one", gram.contentsAnew(2, 2), 999 + 20);
    }
}
