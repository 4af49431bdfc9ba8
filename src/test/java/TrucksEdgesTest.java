/** The edges that promises 17 to 20 name, a test for each sentence: trucks and fees. */
public final class TrucksEdgesTest {
    private static final int MIN = Setup.MIN;
    private static final int MAX = Setup.MAX;

    public static void main(String[] args) {
        declarations();
        mismatches();
        fees();
        debts();
        Check.end();
    }

    // ---- promise 17

    private static void declarations() {
        Check.sentence(17, "`truck`: 4 or 5", TrucksEdgesTest::declareForBoth);
        Check.sentence(17, "`amount`: 0 to 9999", TrucksEdgesTest::declareLeastAndMost);
        Check.sentence(17, "Throws `IndexOutOfBoundsException` if there is no such truck or good",
                TrucksEdgesTest::declareNowhere);
        Check.sentence(17, "Throws `IllegalArgumentException` if amount is out of range",
                TrucksEdgesTest::declareOutOfRange);
        Check.sentence(17, Check.NAMED_FIRST, TrucksEdgesTest::declareWrongInSeveralWays);
        Check.sentence(17, "Returns what was declared.", TrucksEdgesTest::declareAnswers);
    }

    private static void declareForBoth() {
        Gram gram = new Gram();
        for (int good = 0; good <= 5; good++) {
            Check.due("declare for 4", gram.declare(4, good, 10 + good), 0);
            Check.due("declare for 5", gram.declare(5, good, 20 + good), 0);
        }
        for (int good = 0; good <= 5; good++) {
            Check.due("declared for 4", gram.declare(4, good, 0), 10 + good);
            Check.due("declared for 5", gram.declare(5, good, 0), 20 + good);
        }
    }

    private static void declareLeastAndMost() {
        Gram gram = new Gram();
        gram.declare(4, 0, 9999);
        Check.due("the most", gram.mismatch(4), 9999);
        gram.declare(4, 0, 0);
        Check.due("the least", gram.mismatch(4), 0);
        Check.noArguments("declare", gram, amount -> gram.declare(4, 0, amount), -1, 10000);
    }

    private static void declareNowhere() {
        Gram gram = new Gram();
        Check.noPlaces("declare for", gram, truck -> gram.declare(truck, 0, 1), MIN, -1, 0, 3, 6, MAX);
        Check.noPlaces("declare of good", gram, good -> gram.declare(4, good, 1), MIN, -1, 6, MAX);
        Check.noPlaces("declare for 5 of good", gram, good -> gram.declare(5, good, 1), MIN, -1, 6, MAX);
    }

    private static void declareOutOfRange() {
        Gram gram = new Gram();
        gram.declare(5, 5, 7);
        Check.noArguments("declare", gram, amount -> gram.declare(5, 5, amount), MIN, -1, 10000, MAX);
    }

    private static void declareWrongInSeveralWays() {
        Gram gram = new Gram();
        Check.noPlaces("declare -1 for", gram, truck -> gram.declare(truck, 0, -1), 3, 6);
        Check.noPlaces("declare 10000 of good", gram, good -> gram.declare(4, good, 10000), -1, 6);
    }

    private static void declareAnswers() {
        Gram gram = new Gram();
        Check.due("at first", gram.declare(4, 3, 9999), 0);
        Check.due("the most", gram.declare(4, 3, 0), 9999);
        Check.due("the least", gram.declare(4, 3, 5), 0);
        Check.due("the same again", gram.declare(4, 3, 5), 5);
    }

    // ---- promise 18

    private static void mismatches() {
        Check.sentence(18, "`truck`: 4 or 5", TrucksEdgesTest::mismatchOfBoth);
        Check.sentence(18, "Throws `IndexOutOfBoundsException` if there is no such truck",
                TrucksEdgesTest::mismatchOfNone);
        Check.sentence(18, "good by good, whichever is more", TrucksEdgesTest::mismatchEitherWay);
        Check.sentence(18, "all six together", TrucksEdgesTest::mismatchOfAllGoods);
        Check.sentence(18, "how much what is declared differs from what the papers of its pallets tell",
                TrucksEdgesTest::mismatchOfPapers);
        Check.sentence(18, "GONE nothing any more", TrucksEdgesTest::mismatchOfGone);
    }

    private static void mismatchOfBoth() {
        Gram gram = Setup.loaded(2);
        Check.due("of 4, empty", gram.mismatch(4), 0);
        Check.due("of 5, empty", gram.mismatch(5), 0);
        gram.load(1, 2, 5);
        gram.move(0, 4);
        gram.move(1, 5);
        Check.due("of 4", gram.mismatch(4), 10);
        Check.due("of 5", gram.mismatch(5), 15);
        gram.move(1, 0);
        Check.due("of 5, empty again", gram.mismatch(5), 0);
    }

    private static void mismatchOfNone() {
        Gram gram = Setup.loaded(1);
        Check.noPlaces("mismatch of", gram, gram::mismatch, MIN, -1, 0, 3, 6, 7, MAX);
    }

    private static void mismatchEitherWay() {
        Gram gram = Setup.loaded(2);
        gram.move(0, 4);
        gram.move(1, 4);
        int[] declared = {0, 19, 20, 21, 9999};
        int[] due = {20, 1, 0, 1, 9979};
        for (int index = 0; index < declared.length; index++) {
            gram.declare(4, 2, declared[index]);
            Check.due("declared " + declared[index], gram.mismatch(4), due[index]);
        }
        gram.declare(4, 2, 19);
        gram.declare(4, 3, 1);
        Check.due("one less, and one more of another good", gram.mismatch(4), 2);
    }

    private static void mismatchOfAllGoods() {
        Gram gram = Setup.pallets(1, 0);
        for (int good = 0; good <= 5; good++) {
            gram.declare(5, good, 9999);
            Check.due("declared to good " + good, gram.mismatch(5), 9999 * (good + 1));
        }
        gram.move(0, 5);
        gram.load(0, 0, 1);
        gram.spoil(0, 2, -999);
        Check.due("the most by one entry", gram.mismatch(5), 9999 * 6 + 999);
        Check.due("the other truck", gram.mismatch(4), 0);
    }

    private static void mismatchOfPapers() {
        Gram gram = Setup.loaded(2);
        gram.move(0, 4);
        gram.move(1, 4);
        gram.declare(4, 2, 20);
        gram.spoil(0, 1, 999);
        Check.due("when papers tell more", gram.mismatch(4), 989);
        gram.spoil(0, 1, -999);
        Check.due("when papers tell less than none", gram.mismatch(4), 1009);
        gram.spoil(1, 1, 999);
        Check.due("when papers tell none together", gram.mismatch(4), 20);
    }

    private static void mismatchOfGone() {
        Gram gram = Setup.loaded(2);
        gram.move(0, 4);
        gram.move(1, 4);
        gram.join(0, 1);
        Check.due("the goods count once", gram.mismatch(4), 20);
        gram.spoil(0, 1, 11);
        Check.due("the papers of a gone one, by JOINED", gram.mismatch(4), 21);
        gram.repair(0, 1);
        gram.move(1, 0);
        Check.due("only a gone one is left", gram.mismatch(4), 0);
    }

    // ---- promise 19

    private static void fees() {
        Check.sentence(19, "`kind`: 0 to 9", TrucksEdgesTest::feeOfEachKind);
        Check.sentence(19, "`fee`: 0 to 99", TrucksEdgesTest::feeLeastAndMost);
        Check.sentence(19, "Throws `IllegalArgumentException` if kind or fee is out of range",
                TrucksEdgesTest::feeOutOfRange);
        Check.sentence(19, "Returns what it was.", TrucksEdgesTest::feeAnswers);
        Check.sentence(19, "Sets the fee of a kind, from now on.", TrucksEdgesTest::feeFromNowOn);
    }

    private static void feeOfEachKind() {
        Gram gram = new Gram();
        for (int kind = 0; kind <= 9; kind++) {
            Check.due("the first fee of " + kind, gram.fee(kind, 50 + kind), kind + 1);
        }
        for (int kind = 0; kind <= 9; kind++) {
            Check.due("the fee of " + kind, gram.fee(kind, 0), 50 + kind);
        }
    }

    private static void feeLeastAndMost() {
        Gram gram = new Gram();
        gram.fee(0, 0);
        gram.make(2);
        Check.due("owed for nothing", gram.owed(2), 0);
        gram.fee(0, 99);
        gram.make(2);
        Check.due("owed for the most", gram.owed(2), 99);
        Check.noArguments("fee", gram, fee -> gram.fee(0, fee), -1, 100);
    }

    private static void feeOutOfRange() {
        Gram gram = new Gram();
        Check.noArguments("fee of kind", gram, kind -> gram.fee(kind, 5), MIN, -1, 10, MAX);
        Check.noArguments("fee", gram, fee -> gram.fee(9, fee), MIN, -1, 100, MAX);
        Check.noArguments("fee 100 of kind", gram, kind -> gram.fee(kind, 100), -1, 10);
    }

    private static void feeAnswers() {
        Gram gram = new Gram();
        Check.due("the first one", gram.fee(9, 99), 10);
        Check.due("the most", gram.fee(9, 0), 99);
        Check.due("the least", gram.fee(9, 10), 0);
        Check.due("the same again", gram.fee(9, 10), 10);
    }

    private static void feeFromNowOn() {
        Gram gram = new Gram();
        gram.make(0);
        gram.fee(0, 99);
        Check.due("owed for the one ahead", gram.owed(0), 1);
        gram.make(0);
        Check.due("owed for the one behind, too", gram.owed(0), 100);
        gram.load(0, 0, 1);
        Check.due("owed for another kind", gram.owed(0), 102);
    }

    // ---- promise 20

    private static void debts() {
        Check.sentence(20, "`holder`: 0 to 6", TrucksEdgesTest::owedByEach);
        Check.sentence(20, "Throws `IndexOutOfBoundsException` if there is no such holder, nor customs",
                TrucksEdgesTest::owedByNobody);
        Check.sentence(20, "who makes an entry owes the fee of then", TrucksEdgesTest::owedForEachKind);
        Check.sentence(20, "Returns what a holder, or customs, owes.", TrucksEdgesTest::owedTheMost);
        Check.sentence(20, "A call that throws an exception changes nothing.", TrucksEdgesTest::owedForRefused);
    }

    private static void owedByEach() {
        Gram gram = new Gram();
        for (int holder = 0; holder <= 6; holder++) {
            Check.due("at first, by " + holder, gram.owed(holder), 0);
        }
        for (int dock = 0; dock <= 3; dock++) {
            gram.make(dock);
        }
        gram.move(0, 4);
        gram.load(0, 0, 1);
        gram.move(1, 5);
        gram.load(1, 0, 1);
        gram.load(1, 0, -1);
        gram.hold(2);
        int[] due = {9, 9, 1, 1, 2, 5, 9};
        for (int holder = 0; holder <= 6; holder++) {
            Check.due("by " + holder, gram.owed(holder), due[holder]);
        }
    }

    private static void owedByNobody() {
        Gram gram = Setup.loaded(1);
        Check.noPlaces("owed by", gram, gram::owed, MIN, -1, 7, 8, MAX);
    }

    private static void owedForEachKind() {
        Gram gram = Setup.pallets(1, 1);
        Check.due("MADE", gram.owed(1), 1);
        gram.load(0, 0, 9);
        Check.due("LOADED", gram.owed(1), 1 + 2);
        gram.load(0, 0, -1);
        Check.due("TAKEN", gram.owed(1), 3 + 3);
        gram.part(0, 0, 1);
        Check.due("PARTED and CAME", gram.owed(1), 6 + 4 + 5);
        gram.join(1, 0);
        Check.due("JOINED and GONE", gram.owed(1), 15 + 6 + 7);
        gram.move(0, 5);
        Check.due("MOVED, by the holder ahead", gram.owed(1), 28 + 8);
        Check.due("not by the truck", gram.owed(5), 0);
        gram.hold(0);
        Check.due("HELD", gram.owed(6), 9);
        gram.hold(0);
        Check.due("FREED", gram.owed(6), 9 + 10);
        Check.due("neither by the truck", gram.owed(5), 0);
    }

    private static void owedTheMost() {
        Gram gram = new Gram();
        gram.fee(0, 99);
        gram.fee(8, 99);
        gram.fee(9, 99);
        for (int pallet = 0; pallet < 14; pallet++) {
            gram.make(0);
            Setup.fill(gram, pallet, 29);
        }
        Check.due("by dock 0", gram.owed(0), 14 * 99);
        Check.due("by customs", gram.owed(6), 14 * 28 * 99);
    }

    private static void owedForRefused() {
        for (Setup.Unworkable one : Setup.unworkable()) {
            int ahead = one.gram.owed(0);
            Check.noState("load of one " + one.how, one.gram, () -> one.gram.load(one.pallet, 2, 1));
            Check.noState("move of one " + one.how, one.gram, () -> one.gram.move(one.pallet, 4));
            Check.due("owed by dock 0", one.gram.owed(0), ahead);
        }
    }
}
