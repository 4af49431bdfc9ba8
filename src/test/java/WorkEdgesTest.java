/** The edges that promises 1 to 7 name, a test for each sentence: a new object, and work. */
public final class WorkEdgesTest {
    private static final int MIN = Setup.MIN;
    private static final int MAX = Setup.MAX;
    private static final String WORKABLE = "A pallet can be worked on (loaded, taken from, parted, joined, moved), "
            + "if it is sound, not HELD, and not GONE, and has room for the entries";

    public static void main(String[] args) {
        newObjects();
        makes();
        loads();
        loadsOfStates();
        parts();
        joins();
        moves();
        holds();
        Check.end();
    }

    // ---- promise 1

    private static void newObjects() {
        Check.sentence(1, "No pallets", WorkEdgesTest::newWithoutPallets);
        Check.sentence(1, "nothing is declared", WorkEdgesTest::newWithoutDeclared);
        Check.sentence(1, "An object is used for at most 512 calls after it has been made",
                WorkEdgesTest::newFor512Calls);
    }

    private static void newWithoutPallets() {
        Gram gram = new Gram();
        Check.noPlace("load", gram, () -> gram.load(0, 0, 1));
        Check.noPlace("part", gram, () -> gram.part(0, 0, 1));
        Check.noPlace("join", gram, () -> gram.join(0, 0));
        Check.noPlace("move", gram, () -> gram.move(0, 4));
        Check.noPlace("hold", gram, () -> gram.hold(0) ? 1 : 0);
        Check.noPlace("spoil", gram, () -> gram.spoil(0, 0, 0));
        Check.noPlace("repair", gram, () -> gram.repair(0, 0));
        Check.noPlace("broken", gram, () -> gram.broken(0));
        Check.noPlace("isSound", gram, () -> gram.isSound(0) ? 1 : 0);
        Check.noPlace("pallet", gram, () -> gram.pallet(0, 0));
        Check.noPlace("entry", gram, () -> gram.entry(0, 0, 0));
        Check.noPlace("contents", gram, () -> gram.contents(0, 0));
        Check.noPlace("contentsAnew", gram, () -> gram.contentsAnew(0, 0));
    }

    private static void newWithoutDeclared() {
        Gram gram = new Gram();
        for (int truck = 4; truck <= 5; truck++) {
            Check.due("the mismatch of " + truck, gram.mismatch(truck), 0);
            for (int good = 0; good <= 5; good++) {
                Check.due("declared of good " + good, gram.declare(truck, good, 0), 0);
            }
        }
    }

    /** As full as an object gets by 420 calls, and right in all of the 92 that are left. */
    private static void newFor512Calls() {
        Gram gram = Setup.pallets(14, 3);
        for (int pallet = 0; pallet < 14; pallet++) {
            for (int entry = 1; entry < 30; entry++) {
                Check.due("hold " + pallet, gram.hold(pallet), entry % 2 == 1);
            }
        }
        Check.noPlace("entry 30", gram, () -> gram.entry(13, 30, 0));
        for (int pallet = 0; pallet < 14; pallet++) {
            Check.due("broken", gram.broken(pallet), PalletGram.NONE);
            Check.due("the kind of the last one", gram.entry(pallet, 29, 0), 8);
        }
        while (gram.calls() < Gram.MOST_CALLS) {
            Check.due("owed by customs", gram.owed(PalletGram.CUSTOMS), 14 * (15 * 9 + 14 * 10));
        }
    }

    // ---- promise 2

    private static void makes() {
        Check.sentence(2, "`dock`: 0 to 3", WorkEdgesTest::makeAtEachDock);
        Check.sentence(2, "Throws `IndexOutOfBoundsException` if there is no such dock", WorkEdgesTest::makeAtNoDock);
        Check.sentence(2, "Returns its number.", WorkEdgesTest::makeFromFirstToLast);
        Check.sentence(2, "Throws `IllegalStateException` if there were 14", WorkEdgesTest::makeFifteenth);
        Check.sentence(2, "Pallets are numbered from 0, at most 14 ever.", WorkEdgesTest::makeAfterGoneAndParted);
        Check.sentence(2, Check.NAMED_FIRST, WorkEdgesTest::makeFifteenthAtNoDock);
        Check.sentence(2, "0 MADE: the first entry of a pallet without goods", WorkEdgesTest::makeEmpty);
    }

    private static void makeAtEachDock() {
        Gram gram = new Gram();
        for (int dock = 0; dock <= 3; dock++) {
            Check.due("make at " + dock, gram.make(dock), dock);
            Check.due("its holder", gram.pallet(dock, 0), dock);
        }
    }

    private static void makeAtNoDock() {
        Gram gram = Setup.pallets(1, 0);
        Check.noPlaces("make at", gram, gram::make, MIN, -1, 4, 5, 6, 7, MAX);
    }

    private static void makeFromFirstToLast() {
        Gram gram = new Gram();
        for (int number = 0; number < 14; number++) {
            Check.due("make", gram.make(2), number);
        }
    }

    private static void makeFifteenth() {
        Gram gram = Setup.pallets(13, 1);
        Check.due("the 14th", gram.make(1), 13);
        Check.noState("the 15th", gram, () -> gram.make(1));
        Check.noPlace("the 15th is not there", gram, () -> gram.pallet(14, 0));
    }

    private static void makeAfterGoneAndParted() {
        Gram gram = Setup.loaded(12);
        gram.join(0, 1);
        Check.due("the 13th, by a part", gram.part(1, 2, 1), 12);
        Check.due("the 14th, when one is gone", gram.make(0), 13);
        Check.noState("the 15th, when one is gone", gram, () -> gram.make(0));
    }

    private static void makeFifteenthAtNoDock() {
        Gram gram = Setup.pallets(14, 0);
        Check.noPlaces("make at", gram, gram::make, -1, 4);
    }

    private static void makeEmpty() {
        Gram gram = Setup.pallets(1, 3);
        Check.due("entries", gram.pallet(0, 1), 1);
        Check.dueEntry(gram, 0, 0, 0, 3, 0, 0, 0, 0, 1 << 3);
        for (int good = 0; good <= 5; good++) {
            Check.due("contents of " + good, gram.contents(0, good), 0);
        }
    }

    // ---- promise 3

    private static void loads() {
        Check.sentence(3, "`amount`: 1 to 99 more", WorkEdgesTest::loadMore);
        Check.sentence(3, "-99 to -1 less", WorkEdgesTest::loadLess);
        Check.sentence(3, "Throws `IllegalArgumentException` if amount is out of range", WorkEdgesTest::loadOutOfRange);
        Check.sentence(3, "Throws `IndexOutOfBoundsException` as told, of pallet and good", WorkEdgesTest::loadNowhere);
        Check.sentence(3, "There are the goods 0 to 5", WorkEdgesTest::loadFirstAndLast);
        Check.sentence(3, Check.NAMED_FIRST, WorkEdgesTest::loadWrongInSeveralWays);
        Check.sentence(3, "Returns how many of the good it has then.", WorkEdgesTest::loadAnswers);
        Check.sentence(3, "1 LOADED, 2 TAKEN: a good and an amount, above 0", WorkEdgesTest::loadEntries);
    }

    private static void loadMore() {
        Gram gram = Setup.pallets(1, 0);
        Check.due("load 1", gram.load(0, 0, 1), 1);
        Check.due("load 99", gram.load(0, 0, 99), 100);
        Check.noArguments("load", gram, amount -> gram.load(0, 0, amount), 0, 100, 101, MAX);
    }

    private static void loadLess() {
        Gram gram = Setup.pallets(1, 0);
        Setup.loadMuch(gram, 0, 0, 198);
        Check.due("take 1", gram.load(0, 0, -1), 197);
        Check.due("take 99", gram.load(0, 0, -99), 98);
        Check.noArguments("load", gram, amount -> gram.load(0, 0, amount), 0, -100, -101, MIN);
    }

    private static void loadOutOfRange() {
        Gram gram = Setup.loaded(1);
        Check.noArguments("load", gram, amount -> gram.load(0, 2, amount), MIN, -100, 0, 100, MAX);
    }

    private static void loadNowhere() {
        Gram gram = Setup.loaded(2);
        Check.noPlaces("load of pallet", gram, pallet -> gram.load(pallet, 2, 1), MIN, -1, 2, 13, 14, MAX);
        Check.noPlaces("load of good", gram, good -> gram.load(0, good, 1), MIN, -1, 6, MAX);
    }

    private static void loadFirstAndLast() {
        Gram gram = Setup.pallets(14, 0);
        Check.due("good 0 of pallet 0", gram.load(0, 0, 3), 3);
        Check.due("good 5 of pallet 0", gram.load(0, 5, 4), 4);
        Check.due("good 0 of pallet 13", gram.load(13, 0, 5), 5);
        Check.due("good 5 of pallet 13", gram.load(13, 5, 6), 6);
        Check.due("contents of pallet 0", gram.contents(0, 0) * 10 + gram.contents(0, 5), 34);
        Check.due("contents of pallet 13", gram.contents(13, 0) * 10 + gram.contents(13, 5), 56);
    }

    private static void loadWrongInSeveralWays() {
        Gram gram = Setup.loaded(1);
        gram.hold(0);
        Check.noPlaces("load 0 of pallet", gram, pallet -> gram.load(pallet, 2, 0), -1, 1);
        Check.noPlaces("load 100 of good", gram, good -> gram.load(0, good, 100), -1, 6);
        Check.noArguments("load of a HELD one", gram, amount -> gram.load(0, 2, amount), MIN, -100, 0, 100, MAX);
    }

    private static void loadAnswers() {
        Gram gram = Setup.loaded(1);
        Check.due("the least", gram.load(0, 2, -10), 0);
        Check.due("of this good", gram.load(0, 3, 7), 7);
        Check.due("from none", gram.load(0, 2, 1), 1);
    }

    private static void loadEntries() {
        Gram gram = Setup.pallets(1, 2);
        gram.load(0, 5, 99);
        gram.load(0, 5, -99);
        gram.load(0, 5, 1);
        gram.load(0, 5, -1);
        Check.dueEntry(gram, 0, 1, 1, 2, 5, 99, 0, 0, 1 << 2);
        Check.dueEntry(gram, 0, 2, 2, 2, 5, 99, 0, 0, 1 << 2);
        Check.dueEntry(gram, 0, 3, 1, 2, 5, 1, 0, 0, 1 << 2);
        Check.dueEntry(gram, 0, 4, 2, 2, 5, 1, 0, 0, 1 << 2);
    }

    private static void loadsOfStates() {
        Check.sentence(3, WORKABLE, WorkEdgesTest::loadUnworkable);
        Check.sentence(3, "A pallet has a chain of entries, numbered from 0, at most 30.", WorkEdgesTest::loadToTheEnd);
        Check.sentence(3, "it would have fewer than 0", WorkEdgesTest::loadBelowNone);
        Check.sentence(3, "or more than 999 of the good", WorkEdgesTest::loadAboveMost);
        Check.sentence(3, "or its truck would have too much", WorkEdgesTest::loadOntoFullTruck);
        Check.sentence(3, "A truck holds pallets of at most 200 by weight together.", WorkEdgesTest::loadTogether);
        Check.sentence(3, "one of the good g weighs g and 1", WorkEdgesTest::loadEachGoodByWeight);
    }

    private static void loadUnworkable() {
        for (Setup.Unworkable one : Setup.unworkable()) {
            Check.noState("load of one " + one.how, one.gram, () -> one.gram.load(one.pallet, 2, 1));
            Check.noState("take of one " + one.how, one.gram, () -> one.gram.load(one.pallet, 2, -1));
        }
        Gram gram = Setup.loaded(1);
        gram.hold(0);
        gram.hold(0);
        Check.due("load of one that was freed", gram.load(0, 2, 1), 11);
        gram.spoil(0, 1, 9);
        gram.repair(0, 1);
        Check.due("load of one that was repaired", gram.load(0, 2, 1), 12);
    }

    private static void loadToTheEnd() {
        Gram gram = Setup.pallets(1, 0);
        for (int entry = 1; entry <= 29; entry++) {
            Check.due("load", gram.load(0, 1, 1), entry);
        }
        Check.dueEntry(gram, 0, 29, 1, 0, 1, 1, 0, 0, 1);
        Check.noState("a 31st entry, by more", gram, () -> gram.load(0, 1, 1));
        Check.noState("a 31st entry, by less", gram, () -> gram.load(0, 1, -1));
    }

    private static void loadBelowNone() {
        Gram gram = Setup.loaded(1);
        Check.noState("take 11 of 10", gram, () -> gram.load(0, 2, -11));
        Check.noState("take 99 of 10", gram, () -> gram.load(0, 2, -99));
        Check.noState("take 1 of another good", gram, () -> gram.load(0, 1, -1));
        Check.due("take 10 of 10", gram.load(0, 2, -10), 0);
        Check.noState("take 1 of none", gram, () -> gram.load(0, 2, -1));
    }

    private static void loadAboveMost() {
        Gram gram = Setup.pallets(1, 0);
        Setup.loadMuch(gram, 0, 5, 990);
        Check.noState("load to 1000", gram, () -> gram.load(0, 5, 10));
        Check.noState("load to 1089", gram, () -> gram.load(0, 5, 99));
        Check.due("load to 999", gram.load(0, 5, 9), 999);
        Check.noState("load 1 more", gram, () -> gram.load(0, 5, 1));
        Check.due("load another good", gram.load(0, 4, 99), 99);
        Check.due("take from 999", gram.load(0, 5, -1), 998);
    }

    private static void loadOntoFullTruck() {
        Gram gram = Setup.pallets(2, 0);
        gram.move(0, 4);
        gram.move(1, 5);
        gram.load(0, 5, 33);
        Check.noState("load to 201", gram, () -> gram.load(0, 2, 1));
        Check.due("load to 200", gram.load(0, 1, 1), 1);
        Check.noState("load to 201 by the lightest", gram, () -> gram.load(0, 0, 1));
        Check.due("the other truck", gram.load(1, 0, 99), 99);
        Check.due("take from a full truck", gram.load(0, 1, -1), 0);
        Check.due("load to 200 again", gram.load(0, 0, 2), 2);
    }

    private static void loadTogether() {
        Gram gram = Setup.pallets(4, 0);
        gram.move(0, 5);
        gram.move(1, 5);
        gram.move(2, 5);
        gram.load(0, 0, 99);
        gram.load(1, 0, 99);
        gram.join(2, 1);
        Check.noState("201 together", gram, () -> gram.load(0, 2, 1));
        Check.due("200 together", gram.load(0, 1, 1), 1);
        Check.noState("201 together, by another one", gram, () -> gram.load(1, 0, 1));
        Check.due("no bound at a dock", gram.load(3, 5, 99), 99);
        gram.move(1, 0);
        Check.due("when one has left", gram.load(0, 0, 99), 198);
    }

    private static void loadEachGoodByWeight() {
        for (int number = 0; number <= 5; number++) {
            int good = number;
            int most = 200 / (good + 1);
            Gram gram = Setup.pallets(1, 0);
            gram.move(0, 4);
            Setup.loadMuch(gram, 0, good, most);
            Check.due("of good " + good, gram.contents(0, good), most);
            Check.due("weight", gram.pallet(0, 2), most * (good + 1));
            Check.noState("one more of good " + good, gram, () -> gram.load(0, good, 1));
        }
    }

    // ---- promise 4

    private static void parts() {
        Check.sentence(4, "`amount`: 1 to 99", WorkEdgesTest::partLeastAndMost);
        Check.sentence(4, "Throws `IllegalArgumentException` if amount is out of range", WorkEdgesTest::partOutOfRange);
        Check.sentence(4, "Throws `IndexOutOfBoundsException` as told, of pallet and good", WorkEdgesTest::partNowhere);
        Check.sentence(4, WORKABLE, WorkEdgesTest::partUnworkable);
        Check.sentence(4, "and has room for the entries", WorkEdgesTest::partToTheEnd);
        Check.sentence(4, "has fewer of the good", WorkEdgesTest::partFewer);
        Check.sentence(4, "or there were 14 pallets", WorkEdgesTest::partToFifteenth);
        Check.sentence(4, Check.NAMED_FIRST, WorkEdgesTest::partWrongInSeveralWays);
        Check.sentence(4, "some of a good go to a new one at the same holder", WorkEdgesTest::partOnFullTruck);
        Check.sentence(4, "a good and an amount that went to another pallet, whose first entry, 0, is told",
                WorkEdgesTest::partEntries);
    }

    private static void partLeastAndMost() {
        Gram gram = Setup.pallets(1, 0);
        Setup.loadMuch(gram, 0, 0, 100);
        Check.due("part 1", gram.part(0, 0, 1), 1);
        Check.due("part 99", gram.part(0, 0, 99), 2);
        Check.due("contents", gram.contents(0, 0), 0);
        Check.due("contents of the first one", gram.contents(1, 0), 1);
        Check.due("contents of the second one", gram.contents(2, 0), 99);
    }

    private static void partOutOfRange() {
        Gram gram = Setup.pallets(1, 0);
        Setup.loadMuch(gram, 0, 0, 101);
        Check.noArguments("part", gram, amount -> gram.part(0, 0, amount), MIN, -99, -1, 0, 100, MAX);
    }

    private static void partNowhere() {
        Gram gram = Setup.loaded(2);
        Check.noPlaces("part of pallet", gram, pallet -> gram.part(pallet, 2, 1), MIN, -1, 2, 13, 14, MAX);
        Check.noPlaces("part of good", gram, good -> gram.part(0, good, 1), MIN, -1, 6, MAX);
    }

    private static void partUnworkable() {
        for (Setup.Unworkable one : Setup.unworkable()) {
            Check.noState("part of one " + one.how, one.gram, () -> one.gram.part(one.pallet, 2, 1));
            Check.due("part of the other one", one.gram.contents(one.gram.part(one.other, 2, 1), 2), 1);
        }
    }

    private static void partToTheEnd() {
        Gram gram = Setup.loaded(1);
        Setup.fill(gram, 0, 29);
        Check.due("part by the 30th entry", gram.part(0, 2, 1), 1);
        Check.dueEntry(gram, 0, 29, 3, 0, 2, 1, 1, 0, 1 | 1 << 6);
        Check.dueEntry(gram, 1, 0, 4, 0, 2, 1, 0, 29, 1);
        Check.noState("part by a 31st", gram, () -> gram.part(0, 2, 1));
        Check.due("part the new one", gram.part(1, 2, 1), 2);
    }

    private static void partFewer() {
        Gram gram = Setup.loaded(1);
        gram.load(0, 3, 20);
        Check.noState("part 11 of 10", gram, () -> gram.part(0, 2, 11));
        Check.noState("part 1 of none", gram, () -> gram.part(0, 4, 1));
        Check.due("part 10 of 10", gram.part(0, 2, 10), 1);
        Check.noState("part 1 when all went", gram, () -> gram.part(0, 2, 1));
        Check.due("contents", gram.contents(1, 2), 10);
        Check.due("the other good stays", gram.contents(0, 3), 20);
    }

    private static void partToFifteenth() {
        Gram gram = Setup.loaded(13);
        Check.due("the 14th", gram.part(12, 2, 1), 13);
        Check.noState("the 15th", gram, () -> gram.part(12, 2, 1));
        Check.noState("the 15th, from the 14th", gram, () -> gram.part(13, 2, 1));
    }

    private static void partWrongInSeveralWays() {
        Gram gram = Setup.loaded(14);
        gram.hold(0);
        Check.noPlaces("part 0 of pallet", gram, pallet -> gram.part(pallet, 2, 0), -1, 14);
        Check.noPlaces("part 100 of good", gram, good -> gram.part(0, good, 100), -1, 6);
        Check.noArguments("part of a HELD one", gram, amount -> gram.part(0, 2, amount), -1, 0, 100);
    }

    private static void partOnFullTruck() {
        Gram gram = Setup.pallets(1, 3);
        gram.load(0, 4, 40);
        gram.move(0, 5);
        Check.due("weight", gram.pallet(0, 2), 200);
        Check.due("part", gram.part(0, 4, 40), 1);
        Check.due("the holder of the new one", gram.pallet(1, 0), 5);
        Check.due("its weight", gram.pallet(1, 2), 200);
        Check.noState("load onto the truck", gram, () -> gram.load(0, 0, 1));
        Check.dueEntry(gram, 1, 0, 4, 5, 4, 40, 0, 3, 1 << 5);
    }

    private static void partEntries() {
        Gram gram = Setup.loaded(3);
        Check.due("part", gram.part(2, 2, 4), 3);
        Check.dueEntry(gram, 2, 2, 3, 0, 2, 4, 3, 0, 1 | 1 << 6);
        Check.dueEntry(gram, 3, 0, 4, 0, 2, 4, 2, 2, 1);
        Check.due("entries of the new one", gram.pallet(3, 1), 1);
    }

    // ---- promise 5

    private static void joins() {
        Check.sentence(5, "Throws `IndexOutOfBoundsException` as told, of both", WorkEdgesTest::joinNowhere);
        Check.sentence(5, "Throws `IllegalArgumentException` if both are the same", WorkEdgesTest::joinToItself);
        Check.sentence(5, WORKABLE, WorkEdgesTest::joinUnworkable);
        Check.sentence(5, "and has room for the entries; both, where there are two", WorkEdgesTest::joinToTheEnd);
        Check.sentence(5, "they are not at the same holder", WorkEdgesTest::joinElsewhere);
        Check.sentence(5, "or more than 999 of a good would come together", WorkEdgesTest::joinAboveMost);
        Check.sentence(5, Check.NAMED_FIRST, WorkEdgesTest::joinWrongInSeveralWays);
        Check.sentence(5, "Returns how many goods that one has then, all together.", WorkEdgesTest::joinAnswers);
        Check.sentence(5, "it is GONE then", WorkEdgesTest::joinEntries);
        Check.sentence(5, "A truck holds pallets of at most 200 by weight together.", WorkEdgesTest::joinOnFullTruck);
    }

    private static void joinNowhere() {
        Gram gram = Setup.loaded(2);
        Check.noPlaces("join of", gram, pallet -> gram.join(pallet, 0), MIN, -1, 2, 13, 14, MAX);
        Check.noPlaces("join to", gram, other -> gram.join(0, other), MIN, -1, 2, 13, 14, MAX);
    }

    private static void joinToItself() {
        Gram gram = Setup.loaded(2);
        Check.noArguments("join to itself of", gram, pallet -> gram.join(pallet, pallet), 0, 1);
        Check.due("join to another one", gram.join(0, 1), 20);
    }

    private static void joinUnworkable() {
        for (Setup.Unworkable one : Setup.unworkable()) {
            Check.noState("join of one " + one.how, one.gram, () -> one.gram.join(one.pallet, one.other));
            Check.noState("join to one " + one.how, one.gram, () -> one.gram.join(one.other, one.pallet));
        }
    }

    private static void joinToTheEnd() {
        Gram gram = Setup.pallets(3, 0);
        gram.load(0, 3, 1);
        Setup.fill(gram, 0, 29);
        Setup.fill(gram, 1, 29);
        Check.due("join by the 30th entries", gram.join(0, 1), 2);
        Check.dueEntry(gram, 0, 29, 6, 0, 0, 0, 1, 29, 1);
        Check.dueEntry(gram, 1, 29, 5, 0, 0, 0, 0, 29, 1 | 1 << 6);
        Check.noState("join of a full one", gram, () -> gram.join(1, 2));
        Check.noState("join to a full one", gram, () -> gram.join(2, 1));
    }

    private static void joinElsewhere() {
        Gram gram = Setup.loaded(2);
        int far = gram.make(3);
        Check.noState("join to another dock", gram, () -> gram.join(0, far));
        Check.noState("join from another dock", gram, () -> gram.join(far, 0));
        gram.move(0, 4);
        Check.noState("join from a truck to a dock", gram, () -> gram.join(0, 1));
        gram.move(1, 5);
        Check.noState("join to another truck", gram, () -> gram.join(0, 1));
        gram.move(1, 2);
        gram.move(1, 4);
        Check.due("join on the same truck", gram.join(0, 1), 20);
    }

    private static void joinAboveMost() {
        for (int good = 0; good <= 5; good += 5) {
            Gram gram = Setup.pallets(2, 0);
            Setup.loadMuch(gram, 0, good, 990);
            Setup.loadMuch(gram, 1, good, 10);
            Check.noState("1000 together, one way", gram, () -> gram.join(0, 1));
            Check.noState("1000 together, the other way", gram, () -> gram.join(1, 0));
            gram.load(1, good, -1);
            gram.load(0, 3, 99);
            Check.due("999 together, and another good", gram.join(0, 1), 1098);
            Check.due("contents", gram.contents(1, good), 999);
        }
    }

    private static void joinWrongInSeveralWays() {
        Gram gram = Setup.loaded(2);
        gram.hold(0);
        Check.noPlaces("join to itself of", gram, pallet -> gram.join(pallet, pallet), MIN, -1, 2, MAX);
        Check.noPlaces("join of a HELD one to", gram, other -> gram.join(0, other), -1, 2);
        Check.noArgument("join of a HELD one to itself", gram, () -> gram.join(0, 0));
        gram.hold(0);
        gram.join(0, 1);
        Check.noArgument("join of a GONE one to itself", gram, () -> gram.join(0, 0));
    }

    private static void joinAnswers() {
        Gram gram = Setup.pallets(4, 0);
        Check.due("nothing to nothing", gram.join(0, 1), 0);
        gram.load(2, 0, 99);
        gram.load(2, 5, 98);
        Check.due("all to nothing", gram.join(2, 1), 197);
        Check.due("nothing to all", gram.join(3, 1), 197);
        Check.due("contents of good 0", gram.contents(1, 0), 99);
        Check.due("contents of good 5", gram.contents(1, 5), 98);
    }

    private static void joinEntries() {
        Gram gram = Setup.loaded(2);
        gram.load(1, 0, 1);
        gram.join(1, 0);
        Check.due("GONE", gram.pallet(1, 4), 1);
        Check.due("the other one is not", gram.pallet(0, 4), 0);
        Check.due("contents of the gone one", gram.contents(1, 0) + gram.contents(1, 2), 0);
        Check.dueEntry(gram, 1, 3, 6, 0, 0, 0, 0, 2, 1);
        Check.dueEntry(gram, 0, 2, 5, 0, 0, 0, 1, 3, 1 | 1 << 6);
    }

    private static void joinOnFullTruck() {
        Gram gram = Setup.pallets(2, 0);
        gram.load(0, 4, 20);
        gram.load(1, 4, 20);
        gram.move(0, 4);
        gram.move(1, 4);
        Check.due("join on a full truck", gram.join(0, 1), 40);
        Check.due("weight", gram.pallet(1, 2), 200);
        Check.noState("load onto it", gram, () -> gram.load(1, 0, 1));
    }

    // ---- promise 6

    private static void moves() {
        Check.sentence(6, "`holder`: 0 to 5", WorkEdgesTest::moveToEachHolder);
        Check.sentence(6, "Throws `IndexOutOfBoundsException` as told, of pallet and holder",
                WorkEdgesTest::moveNowhere);
        Check.sentence(6, WORKABLE, WorkEdgesTest::moveUnworkable);
        Check.sentence(6, "and has room for the entries", WorkEdgesTest::moveToTheEnd);
        Check.sentence(6, "it is at a holder of the same sort", WorkEdgesTest::moveToSameSort);
        Check.sentence(6, "or the truck would have too much", WorkEdgesTest::moveOntoFullTruck);
        Check.sentence(6, "A truck holds pallets of at most 200 by weight together.", WorkEdgesTest::moveTogether);
        Check.sentence(6, "A truck holds pallets of at most 200 by weight together.", WorkEdgesTest::moveAll);
        Check.sentence(6, Check.NAMED_FIRST, WorkEdgesTest::moveWrongInSeveralWays);
        Check.sentence(6, "Returns the weight of the pallet.", WorkEdgesTest::moveAnswers);
        Check.sentence(6, "the amount is the holder to which it was moved (who made it: the holder ahead)",
                WorkEdgesTest::moveEntries);
    }

    private static void moveToEachHolder() {
        for (int dock = 0; dock <= 3; dock++) {
            for (int truck = 4; truck <= 5; truck++) {
                Gram gram = Setup.loaded(1);
                Check.due("move to " + truck, gram.move(0, truck), 30);
                Check.due("its holder", gram.pallet(0, 0), truck);
                Check.due("move to " + dock, gram.move(0, dock), 30);
                Check.due("its holder", gram.pallet(0, 0), dock);
            }
        }
    }

    private static void moveNowhere() {
        Gram gram = Setup.loaded(2);
        Check.noPlaces("move of", gram, pallet -> gram.move(pallet, 4), MIN, -1, 2, 13, 14, MAX);
        Check.noPlaces("move to", gram, holder -> gram.move(0, holder), MIN, -1, 6, 7, MAX);
        gram.move(1, 5);
        Check.noPlaces("move from a truck to", gram, holder -> gram.move(1, holder), -1, 6);
    }

    private static void moveUnworkable() {
        for (Setup.Unworkable one : Setup.unworkable()) {
            Check.noState("move of one " + one.how, one.gram, () -> one.gram.move(one.pallet, 4));
        }
        Gram gram = Setup.loaded(1);
        gram.move(0, 4);
        gram.hold(0);
        Check.noState("move of one HELD on a truck", gram, () -> gram.move(0, 0));
    }

    private static void moveToTheEnd() {
        Gram gram = Setup.loaded(1);
        Setup.fill(gram, 0, 28);
        Check.due("move by the 29th entry", gram.move(0, 4), 30);
        Check.due("move by the 30th entry", gram.move(0, 3), 30);
        Check.dueEntry(gram, 0, 29, 7, 4, 0, 3, 0, 0, 1 << 4 | 1 << 3);
        Check.noState("move by a 31st", gram, () -> gram.move(0, 5));
    }

    private static void moveToSameSort() {
        Gram gram = Setup.loaded(1);
        for (int dock = 0; dock <= 3; dock++) {
            int to = dock;
            Check.noState("move from dock 0 to dock " + to, gram, () -> gram.move(0, to));
        }
        gram.move(0, 4);
        Check.noState("move to the same truck", gram, () -> gram.move(0, 4));
        Check.noState("move to the other truck", gram, () -> gram.move(0, 5));
        gram.move(0, 3);
        gram.move(0, 5);
        Check.noState("move to the other truck, the other way", gram, () -> gram.move(0, 4));
    }

    private static void moveOntoFullTruck() {
        Gram gram = Setup.pallets(2, 0);
        gram.load(0, 5, 33);
        gram.load(0, 2, 1);
        Check.noState("201", gram, () -> gram.move(0, 4));
        gram.load(0, 2, -1);
        gram.load(0, 1, 1);
        Check.due("200", gram.move(0, 4), 200);
        Check.due("nothing onto a full truck", gram.move(1, 4), 0);
        Check.due("from a full truck", gram.move(0, 1), 200);
        gram.load(0, 5, 99);
        gram.load(0, 5, 99);
        Check.noState("very much", gram, () -> gram.move(0, 5));
    }

    private static void moveTogether() {
        Gram gram = Setup.pallets(4, 0);
        gram.load(0, 0, 99);
        gram.load(1, 0, 99);
        gram.load(2, 2, 1);
        gram.move(0, 4);
        gram.move(1, 4);
        Check.noState("201 together", gram, () -> gram.move(2, 4));
        Check.due("the other truck", gram.move(2, 5), 3);
        gram.load(3, 0, 2);
        Check.due("200 together", gram.move(3, 4), 2);
        gram.join(0, 1);
        gram.move(1, 0);
        gram.move(2, 0);
        Check.due("when two have left", gram.move(1, 4), 198);
    }

    private static void moveAll() {
        Gram gram = Setup.pallets(14, 0);
        for (int pallet = 0; pallet < 13; pallet++) {
            gram.load(pallet, 0, 14);
            Check.due("move", gram.move(pallet, 5), 14);
        }
        gram.load(13, 0, 19);
        Check.noState("201 by 14 pallets", gram, () -> gram.move(13, 5));
        gram.load(13, 0, -1);
        Check.due("200 by 14 pallets", gram.move(13, 5), 18);
        Check.noState("load of the first one", gram, () -> gram.load(0, 0, 1));
        Check.noState("load of the last one", gram, () -> gram.load(13, 0, 1));
    }

    private static void moveWrongInSeveralWays() {
        Gram gram = Setup.loaded(1);
        gram.hold(0);
        Check.noPlaces("move of a HELD one to", gram, holder -> gram.move(0, holder), -1, 6);
        Check.noPlaces("move to the same sort of", gram, pallet -> gram.move(pallet, 0), -1, 1);
    }

    private static void moveAnswers() {
        Gram gram = Setup.pallets(1, 0);
        Check.due("the least", gram.move(0, 4), 0);
        for (int good = 0; good <= 5; good++) {
            gram.load(0, good, 1);
        }
        Check.due("one of each good", gram.move(0, 0), 21);
        gram.load(0, 0, 99);
        gram.load(0, 0, 80);
        Check.due("the most", gram.move(0, 5), 200);
    }

    private static void moveEntries() {
        Gram gram = Setup.loaded(1);
        gram.move(0, 5);
        gram.move(0, 0);
        Check.dueEntry(gram, 0, 2, 7, 0, 0, 5, 0, 0, 1 | 1 << 5);
        Check.dueEntry(gram, 0, 3, 7, 5, 0, 0, 0, 0, 1 << 5 | 1);
    }

    // ---- promise 7

    private static void holds() {
        Check.sentence(7, "Throws `IndexOutOfBoundsException` as told", WorkEdgesTest::holdNowhere);
        Check.sentence(7, "Returns whether it is HELD then.", WorkEdgesTest::holdAnswers);
        Check.sentence(7, "Throws `IllegalStateException` if it is GONE", WorkEdgesTest::holdGone);
        Check.sentence(7, "or has no room for an entry", WorkEdgesTest::holdToTheEnd);
        Check.sentence(7, "Lets customs hold a pallet, or free it, if it is HELD.", WorkEdgesTest::holdUnsound);
        Check.sentence(7, "8 HELD, 9 FREED, by customs.", WorkEdgesTest::holdEntries);
    }

    private static void holdNowhere() {
        Gram gram = Setup.loaded(2);
        Check.noPlaces("hold", gram, pallet -> gram.hold(pallet) ? 1 : 0, MIN, -1, 2, 13, 14, MAX);
    }

    private static void holdAnswers() {
        Gram gram = Setup.pallets(14, 0);
        for (int pallet = 0; pallet <= 13; pallet += 13) {
            for (int time = 0; time < 3; time++) {
                Check.due("hold", gram.hold(pallet), true);
                Check.due("HELD", gram.pallet(pallet, 3), 1);
                Check.due("free", gram.hold(pallet), false);
                Check.due("HELD", gram.pallet(pallet, 3), 0);
            }
        }
    }

    private static void holdGone() {
        Gram gram = Setup.loaded(2);
        gram.join(0, 1);
        Check.noState("hold of a GONE one", gram, () -> gram.hold(0) ? 1 : 0);
        Check.due("hold of the other one", gram.hold(1), true);
    }

    private static void holdToTheEnd() {
        Gram gram = Setup.pallets(2, 0);
        Setup.fill(gram, 0, 29);
        Check.due("hold by the 30th entry", gram.hold(0), true);
        Check.noState("free by a 31st", gram, () -> gram.hold(0) ? 1 : 0);
        Check.due("HELD still", gram.pallet(0, 3), 1);
        Setup.fill(gram, 1, 28);
        gram.hold(1);
        Check.due("free by the 30th entry", gram.hold(1), false);
        Check.noState("hold by a 31st", gram, () -> gram.hold(1) ? 1 : 0);
    }

    private static void holdUnsound() {
        Gram gram = Setup.loaded(1);
        gram.move(0, 4);
        gram.spoil(0, 0, -999);
        Check.due("hold of one that is not sound", gram.hold(0), true);
        Check.due("free of one that is not sound", gram.hold(0), false);
        Check.due("entries", gram.pallet(0, 1), 5);
        Check.due("its holder stays", gram.pallet(0, 0), 4);
    }

    private static void holdEntries() {
        Gram gram = Setup.loaded(1);
        gram.hold(0);
        gram.hold(0);
        Check.dueEntry(gram, 0, 2, 8, 6, 0, 0, 0, 0, 1 << 6);
        Check.dueEntry(gram, 0, 3, 9, 6, 0, 0, 0, 0, 1 << 6);
    }
}
