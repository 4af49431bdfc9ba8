/** The edges that promises 8 to 12 name, a test for each sentence: papers and witnesses. */
public final class PapersEdgesTest {
    private static final int MIN = Setup.MIN;
    private static final int MAX = Setup.MAX;
    private static final String PALLET_AND_ENTRY =
            "Throws `IndexOutOfBoundsException` as told, of pallet and entry";
    private static final String AS_TOLD = "Throws `IndexOutOfBoundsException` as told";

    public static void main(String[] args) {
        spoils();
        losses();
        repairs();
        breaks();
        soundness();
        Check.end();
    }

    // ---- promise 8

    private static void spoils() {
        Check.sentence(8, "`amount`: what its paper tells then, -999 to 999", PapersEdgesTest::spoilLeastAndMost);
        Check.sentence(8, "Throws `IllegalArgumentException` if amount is out of range",
                PapersEdgesTest::spoilOutOfRange);
        Check.sentence(8, PALLET_AND_ENTRY, PapersEdgesTest::spoilNowhere);
        Check.sentence(8, Check.NAMED_FIRST, PapersEdgesTest::spoilWrongInSeveralWays);
        Check.sentence(8, "Returns what it told.", PapersEdgesTest::spoilAnswers);
        Check.sentence(8, "To spoil an entry is to change the amount on its paper; its proof stays.",
                PapersEdgesTest::spoilChangesOnlyThePaper);
        Check.sentence(8, "Spoils an entry.", PapersEdgesTest::spoilInAnyState);
    }

    private static void spoilLeastAndMost() {
        Gram gram = Setup.loaded(1);
        gram.spoil(0, 1, -999);
        Check.due("the paper", gram.entry(0, 1, 3), -999);
        Check.due("what papers tell", gram.contentsAnew(0, 2), -999);
        gram.spoil(0, 1, 999);
        Check.due("the paper", gram.entry(0, 1, 3), 999);
        Check.due("what papers tell", gram.contentsAnew(0, 2), 999);
        gram.spoil(0, 1, 0);
        Check.due("the paper", gram.entry(0, 1, 3), 0);
    }

    private static void spoilOutOfRange() {
        Gram gram = Setup.loaded(1);
        Check.noArguments("spoil with", gram, amount -> gram.spoil(0, 1, amount), MIN, -1000, 1000, MAX);
    }

    private static void spoilNowhere() {
        Gram gram = Setup.loaded(2);
        Check.noPlaces("spoil of pallet", gram, pallet -> gram.spoil(pallet, 0, 5), MIN, -1, 2, 13, 14, MAX);
        Check.noPlaces("spoil of entry", gram, entry -> gram.spoil(0, entry, 5), MIN, -1, 2, 29, 30, MAX);
        Setup.fill(gram, 1, 30);
        Check.due("spoil of the first one", gram.spoil(1, 0, 5), 0);
        Check.due("spoil of the last one", gram.spoil(1, 29, 5), 0);
        Check.noPlaces("spoil of a full one's entry", gram, entry -> gram.spoil(1, entry, 5), -1, 30);
        Check.noPlace("spoil of the other one's entry", gram, () -> gram.spoil(0, 2, 5));
    }

    private static void spoilWrongInSeveralWays() {
        Gram gram = Setup.loaded(1);
        Check.noPlaces("spoil with 1000 of pallet", gram, pallet -> gram.spoil(pallet, 0, 1000), -1, 1);
        Check.noPlaces("spoil with -1000 of entry", gram, entry -> gram.spoil(0, entry, -1000), -1, 2);
    }

    private static void spoilAnswers() {
        Gram gram = Setup.loaded(1);
        Check.due("what it was made with", gram.spoil(0, 1, 999), 10);
        Check.due("the most", gram.spoil(0, 1, -999), 999);
        Check.due("the least", gram.spoil(0, 1, 0), -999);
        Check.due("nothing", gram.spoil(0, 1, 10), 0);
        Check.due("of another entry", gram.spoil(0, 0, 7), 0);
    }

    private static void spoilChangesOnlyThePaper() {
        Gram gram = Setup.loaded(1);
        gram.load(0, 2, 5);
        int proof = gram.entry(0, 1, 6);
        int proofBehind = gram.entry(0, 2, 6);
        gram.spoil(0, 1, -3);
        Check.due("the proof", gram.entry(0, 1, 6), proof);
        Check.due("the proof behind it", gram.entry(0, 2, 6), proofBehind);
        Check.due("the copies", gram.entry(0, 1, 7), 1);
        Check.due("the kind", gram.entry(0, 1, 0), 1);
        Check.due("contents", gram.contents(0, 2), 15);
        Check.due("weight", gram.pallet(0, 2), 45);
        Check.due("entries", gram.pallet(0, 1), 3);
        Check.due("owed", gram.owed(0), 5);
        gram.spoil(0, 1, 10);
        Check.due("broken, when the paper tells the old amount", gram.broken(0), PalletGram.NONE);
    }

    private static void spoilInAnyState() {
        for (Setup.Unworkable one : Setup.unworkable()) {
            one.gram.spoil(one.pallet, 0, 77);
            Check.due("the paper of one " + one.how, one.gram.entry(one.pallet, 0, 3), 77);
            Check.due("spoil of it again", one.gram.spoil(one.pallet, 0, -77), 77);
        }
    }

    // ---- promise 9

    private static void losses() {
        Check.sentence(9, "`holder`: 0 to 6", PapersEdgesTest::loseOfEach);
        Check.sentence(9, "Throws `IndexOutOfBoundsException` if there is no such holder, nor customs",
                PapersEdgesTest::loseOfNobody);
        Check.sentence(9, "Returns how many.", PapersEdgesTest::loseNoneAndMost);
        Check.sentence(9, "A holder, or customs, can lose all copies.", PapersEdgesTest::loseAll);
        Check.sentence(9, "of MOVED the holder to which it was moved has one, too", PapersEdgesTest::loseOfMoved);
        Check.sentence(9, "and of JOINED and PARTED customs", PapersEdgesTest::loseOfCustoms);
    }

    private static void loseOfEach() {
        Gram gram = new Gram();
        for (int holder = 0; holder <= 6; holder++) {
            Check.due("lose of " + holder + " without entries", gram.lose(holder), 0);
        }
        for (int dock = 0; dock <= 3; dock++) {
            gram.make(dock);
        }
        gram.move(0, 4);
        gram.move(1, 5);
        gram.hold(2);
        int[] copies = {2, 2, 1, 1, 1, 1, 1};
        for (int holder = 0; holder <= 6; holder++) {
            Check.due("lose of " + holder, gram.lose(holder), copies[holder]);
        }
    }

    private static void loseOfNobody() {
        Gram gram = Setup.loaded(1);
        gram.hold(0);
        Check.noPlaces("lose of", gram, gram::lose, MIN, -1, 7, 8, 31, 32, 38, MAX);
    }

    private static void loseNoneAndMost() {
        Gram gram = Setup.pallets(14, 0);
        Check.due("customs has none", gram.lose(6), 0);
        for (int pallet = 0; pallet < 14; pallet++) {
            Setup.fill(gram, pallet, 29);
        }
        Check.due("customs, of all chains", gram.lose(6), 14 * 28);
        Check.due("customs has none any more", gram.lose(6), 0);
        Check.due("dock 0, of all chains", gram.lose(0), 14);
        Check.due("dock 0 has none any more", gram.lose(0), 0);
    }

    private static void loseAll() {
        Gram gram = Setup.loaded(2);
        gram.join(0, 1);
        gram.lose(0);
        for (int entry = 0; entry <= 2; entry++) {
            Check.due("copies of entry " + entry + " of 0", gram.entry(0, entry, 7), 0);
            Check.due("copies of entry " + entry + " of 1", gram.entry(1, entry, 7), entry == 2 ? 1 << 6 : 0);
        }
        gram.load(1, 0, 1);
        Check.due("copies of a new one", gram.entry(1, 3, 7), 1);
        Check.due("lose again", gram.lose(0), 1);
    }

    private static void loseOfMoved() {
        Gram gram = Setup.pallets(1, 3);
        gram.move(0, 5);
        Check.due("copies", gram.entry(0, 1, 7), 1 << 3 | 1 << 5);
        Check.due("lose of the holder to which it was moved", gram.lose(5), 1);
        Check.due("copies", gram.entry(0, 1, 7), 1 << 3);
        Check.due("lose of the holder ahead", gram.lose(3), 2);
        Check.due("copies", gram.entry(0, 1, 7), 0);
    }

    private static void loseOfCustoms() {
        Gram gram = Setup.partedAndJoined();
        Check.due("PARTED", gram.entry(0, 2, 7), 1 | 1 << 6);
        Check.due("JOINED", gram.entry(0, 3, 7), 1 | 1 << 6);
        Check.due("CAME", gram.entry(1, 0, 7), 1);
        Check.due("GONE", gram.entry(1, 1, 7), 1);
        Check.due("lose of customs", gram.lose(6), 2);
        Check.due("lose of dock 0", gram.lose(0), 6);
    }

    // ---- promise 10

    private static void repairs() {
        Check.sentence(10, PALLET_AND_ENTRY, PapersEdgesTest::repairNowhere);
        Check.sentence(10, "Throws `IllegalStateException` if it is not broken", PapersEdgesTest::repairUnbroken);
        Check.sentence(10, "or nobody has a copy", PapersEdgesTest::repairWithoutCopies);
        Check.sentence(10, Check.NAMED_FIRST, PapersEdgesTest::repairWrongInSeveralWays);
        Check.sentence(10, "Returns the lowest of those who have a copy.", PapersEdgesTest::repairByLowest);
        Check.sentence(10, "its amount is as it was when it was made", PapersEdgesTest::repairFromEachAmount);
        Check.sentence(10, "who has a repair made owes 5: the holder at which the pallet is",
                PapersEdgesTest::repairIsOwed);
        Check.sentence(10, "Repairs an entry.", PapersEdgesTest::repairInAnyState);
    }

    private static void repairNowhere() {
        Gram gram = Setup.loaded(2);
        gram.spoil(0, 0, 1);
        gram.spoil(1, 0, 1);
        Check.noPlaces("repair of pallet", gram, pallet -> gram.repair(pallet, 0), MIN, -1, 2, 13, 14, MAX);
        Check.noPlaces("repair of entry", gram, entry -> gram.repair(0, entry), MIN, -1, 2, 29, 30, MAX);
        Check.due("repair of the first one", gram.repair(0, 0), 0);
        gram.spoil(0, 1, 1);
        Check.due("repair of the last one", gram.repair(0, 1), 0);
    }

    private static void repairUnbroken() {
        Gram gram = Setup.loaded(2);
        Check.noState("repair of one never spoiled", gram, () -> gram.repair(0, 1));
        gram.spoil(0, 1, 9);
        Check.noState("repair of the one ahead", gram, () -> gram.repair(0, 0));
        Check.noState("repair of another pallet's", gram, () -> gram.repair(1, 1));
        gram.spoil(0, 0, 1);
        gram.repair(0, 0);
        Check.noState("repair of one that was repaired", gram, () -> gram.repair(0, 0));
        gram.spoil(0, 1, 10);
        Check.noState("repair of one that tells its amount again", gram, () -> gram.repair(0, 1));
    }

    private static void repairWithoutCopies() {
        Gram gram = Setup.partedAndJoined();
        for (int entry = 0; entry <= 3; entry++) {
            gram.spoil(0, entry, -1);
        }
        gram.lose(0);
        Check.noState("repair of MADE", gram, () -> gram.repair(0, 0));
        Check.noState("repair of LOADED", gram, () -> gram.repair(0, 1));
        Check.due("repair of PARTED, by the last who has a copy", gram.repair(0, 2), 6);
        gram.lose(6);
        Check.noState("repair of JOINED", gram, () -> gram.repair(0, 3));
        gram.spoil(0, 1, 10);
        Check.noState("repair of one not broken, without copies", gram, () -> gram.repair(0, 1));
    }

    private static void repairWrongInSeveralWays() {
        Gram gram = Setup.loaded(1);
        gram.lose(0);
        Check.noPlaces("repair of entry", gram, entry -> gram.repair(0, entry), -1, 2);
        Check.noPlaces("repair of pallet", gram, pallet -> gram.repair(pallet, 0), -1, 1);
    }

    private static void repairByLowest() {
        Gram gram = Setup.pallets(1, 3);
        gram.move(0, 4);
        gram.move(0, 1);
        gram.hold(0);
        for (int entry = 0; entry <= 3; entry++) {
            gram.spoil(0, entry, 99);
        }
        Check.due("repair by the only one", gram.repair(0, 0), 3);
        Check.due("repair by the holder ahead", gram.repair(0, 1), 3);
        Check.due("repair by the holder to which it was moved", gram.repair(0, 2), 1);
        Check.due("repair by customs, the highest", gram.repair(0, 3), 6);
        gram.lose(3);
        gram.lose(1);
        gram.spoil(0, 1, 99);
        gram.spoil(0, 2, 99);
        Check.due("repair by the truck", gram.repair(0, 1), 4);
        Check.due("repair by the truck", gram.repair(0, 2), 4);
        Gram other = Setup.partedAndJoined();
        other.spoil(0, 2, 99);
        Check.due("repair by dock 0, the lowest, ahead of customs", other.repair(0, 2), 0);
    }

    private static void repairFromEachAmount() {
        Gram gram = Setup.loaded(1);
        gram.load(0, 2, -7);
        gram.move(0, 5);
        int[] made = {0, 10, 7, 5};
        for (int entry = 0; entry <= 3; entry++) {
            for (int amount : new int[] {-999, -made[entry] - 1, made[entry] - 1, made[entry] + 1, 999}) {
                gram.spoil(0, entry, 50);
                gram.spoil(0, entry, amount);
                gram.repair(0, entry);
                Check.due("the paper of " + entry, gram.entry(0, entry, 3), made[entry]);
                Check.due("broken", gram.broken(0), PalletGram.NONE);
            }
        }
        Check.due("copies stay", gram.entry(0, 3, 7), 1 | 1 << 5);
        gram.spoil(0, 1, 1);
        gram.spoil(0, 2, 1);
        gram.repair(0, 1);
        Check.due("only the one is repaired", gram.broken(0), 2);
    }

    private static void repairIsOwed() {
        Gram gram = Setup.pallets(2, 3);
        gram.fee(0, 99);
        gram.move(0, 4);
        gram.spoil(0, 0, 1);
        Check.due("owed by the truck ahead", gram.owed(4), 0);
        Check.due("by whom", gram.repair(0, 0), 3);
        Check.due("owed by the truck", gram.owed(4), 5);
        Check.due("owed by the dock", gram.owed(3), 2 + 8);
        gram.move(0, 3);
        gram.join(0, 1);
        gram.move(1, 5);
        int ahead = gram.owed(3);
        gram.spoil(0, 0, 1);
        gram.repair(0, 0);
        Check.due("owed by the dock at which a GONE one was", gram.owed(3), ahead + 5);
        Check.due("not by the truck on which the other one is", gram.owed(5), 0);
        gram.hold(1);
        gram.spoil(1, 3, 1);
        Check.due("by whom", gram.repair(1, 3), 6);
        Check.due("owed by customs", gram.owed(6), 9);
        Check.due("owed by the truck of a HELD one", gram.owed(5), 5);
    }

    private static void repairInAnyState() {
        for (Setup.Unworkable one : Setup.unworkable()) {
            int entries = one.gram.pallet(one.pallet, 1);
            one.gram.spoil(one.pallet, 0, 77);
            Check.due("repair of one " + one.how, one.gram.repair(one.pallet, 0), 0);
            Check.due("its entries", one.gram.pallet(one.pallet, 1), entries);
        }
    }

    // ---- promise 11

    private static void breaks() {
        Check.sentence(11, AS_TOLD, PapersEdgesTest::brokenNowhere);
        Check.sentence(11, "NONE if none is", PapersEdgesTest::brokenNone);
        Check.sentence(11, "Returns the first entry of a pallet that is broken.", PapersEdgesTest::brokenFirstAndLast);
        Check.sentence(11, "An entry is broken if its proof is not the one made of its numbers",
                PapersEdgesTest::brokenByEachAmount);
        Check.sentence(11, "and the proof kept with the entry ahead", PapersEdgesTest::brokenAheadOnly);
    }

    private static void brokenNowhere() {
        Gram gram = Setup.loaded(2);
        gram.spoil(0, 0, 1);
        gram.spoil(1, 0, 1);
        Check.noPlaces("broken of", gram, gram::broken, MIN, -1, 2, 13, 14, MAX);
    }

    private static void brokenNone() {
        Gram gram = Setup.pallets(14, 0);
        Check.due("of one entry", gram.broken(0), PalletGram.NONE);
        Check.due("of the last pallet", gram.broken(13), PalletGram.NONE);
        Setup.fill(gram, 13, 30);
        Check.due("of 30 entries", gram.broken(13), PalletGram.NONE);
        gram.spoil(12, 0, 1);
        Check.due("when another pallet's is", gram.broken(13), PalletGram.NONE);
        gram.spoil(13, 29, 1);
        gram.repair(13, 29);
        Check.due("when it was repaired", gram.broken(13), PalletGram.NONE);
    }

    private static void brokenFirstAndLast() {
        Gram gram = Setup.pallets(14, 0);
        Setup.fill(gram, 13, 30);
        for (int entry = 29; entry >= 0; entry--) {
            gram.spoil(13, entry, -1);
            Check.due("the first one that is broken", gram.broken(13), entry);
        }
        gram.spoil(13, 0, 0);
        Check.due("when the first entry is mended", gram.broken(13), 1);
        gram.spoil(0, 0, 1);
        Check.due("the only entry of pallet 0", gram.broken(0), 0);
    }

    private static void brokenByEachAmount() {
        Gram gram = Setup.loaded(1);
        for (int amount : new int[] {-999, -10, 0, 9, 11, 999}) {
            gram.spoil(0, 1, amount);
            Check.due("broken by " + amount, gram.broken(0), 1);
        }
        gram.spoil(0, 1, 10);
        Check.due("broken by the amount that it was made with", gram.broken(0), PalletGram.NONE);
    }

    private static void brokenAheadOnly() {
        Gram gram = Setup.loaded(1);
        gram.hold(0);
        gram.spoil(0, 1, 99);
        gram.hold(0);
        Check.due("broken", gram.broken(0), 1);
        Check.noState("repair of the one behind it", gram, () -> gram.repair(0, 2));
        Check.noState("repair of one made behind it", gram, () -> gram.repair(0, 3));
        gram.repair(0, 1);
        Check.due("broken after the repair", gram.broken(0), PalletGram.NONE);
    }

    // ---- promise 12

    private static void soundness() {
        Check.sentence(12, AS_TOLD, PapersEdgesTest::soundNowhere);
        Check.sentence(12, "A pallet is sound, if none of its entries is broken", PapersEdgesTest::soundByItself);
        Check.sentence(12, "nor one of the pallets that are told in its entries CAME and JOINED",
                PapersEdgesTest::soundByThoseTold);
        Check.sentence(12, "nor one of the pallets that are told in its entries CAME and JOINED",
                PapersEdgesTest::soundByAllJoined);
        Check.sentence(12, "and so on, of all their entries", PapersEdgesTest::soundByChainsOfAll);
        Check.sentence(12, "and so on, of all their entries", PapersEdgesTest::soundRoundAbout);
        Check.sentence(12, "0 where none is told below", PapersEdgesTest::soundWhereNoneIsTold);
    }

    private static void soundNowhere() {
        Gram gram = Setup.loaded(2);
        Check.noPlaces("isSound of", gram, pallet -> gram.isSound(pallet) ? 1 : 0, MIN, -1, 2, 13, 14, MAX);
    }

    private static void soundByItself() {
        Gram gram = Setup.pallets(14, 0);
        Setup.fill(gram, 13, 30);
        Check.due("one entry", gram.isSound(0), true);
        Check.due("30 entries", gram.isSound(13), true);
        for (int entry = 0; entry <= 29; entry += 29) {
            gram.spoil(13, entry, 5);
            Check.due("30 entries, " + entry + " broken", gram.isSound(13), false);
            gram.repair(13, entry);
        }
        Check.due("30 entries, repaired", gram.isSound(13), true);
        gram.spoil(12, 0, 5);
        Check.due("another one's is broken", gram.isSound(13), true);
    }

    private static void soundByThoseTold() {
        Gram gram = Setup.loaded(2);
        int came = gram.part(0, 2, 1);
        gram.join(came, 1);
        gram.load(0, 2, 1);
        gram.spoil(0, 3, 2);
        Check.due("CAME, and broken behind PARTED", gram.isSound(came), false);
        Check.due("JOINED, and so on", gram.isSound(1), false);
        gram.repair(0, 3);
        gram.spoil(came, 1, 2);
        Check.due("PARTED tells nothing of it", gram.isSound(0), true);
        Check.due("JOINED, and its GONE is broken", gram.isSound(1), false);
        gram.repair(came, 1);
        gram.spoil(1, 0, 2);
        Check.due("GONE tells nothing of it", gram.isSound(came), true);
        gram.repair(1, 0);
        Check.due("all are sound", gram.isSound(0) && gram.isSound(1) && gram.isSound(came), true);
    }

    /** All the other 13 joined to one: each of them counts. */
    private static void soundByAllJoined() {
        for (int one = 0; one <= 13; one += 13) {
            Gram gram = Setup.pallets(14, 0);
            for (int pallet = 1; pallet <= 13; pallet++) {
                gram.join(Math.abs(one - pallet), one);
            }
            Check.due("joined by 13", gram.isSound(one), true);
            for (int pallet = 0; pallet < 14; pallet++) {
                gram.spoil(pallet, 0, 1);
                Check.due("joined by 13, of which " + pallet + " is spoiled", gram.isSound(one), false);
                gram.repair(pallet, 0);
            }
        }
    }

    private static void soundByChainsOfAll() {
        Gram parted = Setup.loaded(1);
        Gram up = Setup.pallets(14, 0);
        Gram down = Setup.pallets(14, 0);
        for (int pallet = 0; pallet < 13; pallet++) {
            parted.part(pallet, 2, 1);
            parted.load(pallet + 1, 2, 5);
            up.join(pallet, pallet + 1);
            down.join(13 - pallet, 12 - pallet);
        }
        Check.due("14 that came", parted.isSound(13), true);
        Check.due("14 that were joined", up.isSound(13) && down.isSound(0), true);
        parted.spoil(0, 0, 1);
        up.spoil(0, 0, 1);
        down.spoil(13, 0, 1);
        for (int pallet = 0; pallet < 14; pallet++) {
            Check.due("came from a spoiled one: " + pallet, parted.isSound(pallet), false);
            Check.due("joined by a spoiled one: " + pallet, up.isSound(pallet) || down.isSound(pallet), false);
        }
    }

    private static void soundRoundAbout() {
        Gram gram = Setup.partedAndJoined();
        Check.due("each tells of the other", gram.isSound(0) && gram.isSound(1), true);
        gram.spoil(0, 0, 1);
        Check.due("the one is broken", gram.isSound(0) || gram.isSound(1), false);
        gram.repair(0, 0);
        gram.spoil(1, 1, 1);
        Check.due("the other is broken", gram.isSound(0) || gram.isSound(1), false);
    }

    /** Entries that tell of no other pallet have 0 there: that is not pallet 0. */
    private static void soundWhereNoneIsTold() {
        Gram gram = Setup.loaded(2);
        gram.load(1, 2, -1);
        gram.move(1, 4);
        gram.hold(1);
        gram.hold(1);
        gram.spoil(0, 0, 1);
        Check.due("pallet 1", gram.isSound(1), true);
        Check.due("load of it", gram.load(1, 2, 1), 10);
    }
}
