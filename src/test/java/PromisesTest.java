/** The promises 1 to 20, one after another, in ordinary work; their edges are in the tests named EdgesTest. */
public final class PromisesTest {
    public static void main(String[] args) {
        newObject();
        make();
        load();
        part();
        join();
        move();
        hold();
        spoil();
        lose();
        repair();
        repairByWitnesses();
        broken();
        isSound();
        isSoundRoundAbout();
        isSoundOfManyJoined();
        pallet();
        entry();
        contents();
        contentsAnew();
        contentsAnewOfJoined();
        declare();
        mismatch();
        fee();
        owed();
        Check.end();
    }

    // ---- promises 1 to 7

    private static void newObject() {
        Gram gram = Setup.loaded(1);
        Gram another = new Gram();
        Check.due("the first pallet of another object", another.make(1), 0);
        Check.due("the holder in the first object", gram.pallet(0, 0), 0);
        Check.due("contents in the other object", another.contents(0, 2), 0);
    }

    private static void make() {
        Gram gram = new Gram();
        for (int number = 0; number < 14; number++) {
            Check.due("make", gram.make(number % 4), number);
            Check.dueEntry(gram, number, 0, 0, number % 4, 0, 0, 0, 0, 1 << number % 4);
        }
    }

    private static void load() {
        Gram gram = Setup.pallets(1, 2);
        Check.due("load", gram.load(0, 3, 40), 40);
        Check.dueEntry(gram, 0, 1, 1, 2, 3, 40, 0, 0, 1 << 2);
        Check.due("take", gram.load(0, 3, -15), 25);
        Check.dueEntry(gram, 0, 2, 2, 2, 3, 15, 0, 0, 1 << 2);
        Check.due("load another good", gram.load(0, 5, 6), 6);
        Check.due("weight", gram.pallet(0, 2), 25 * 4 + 6 * 6);
        gram.move(0, 4);
        Check.due("load on a truck", gram.load(0, 0, 7), 7);
        Check.dueEntry(gram, 0, 5, 1, 4, 0, 7, 0, 0, 1 << 4);
    }

    private static void part() {
        Gram gram = Setup.loaded(1);
        Check.due("part", gram.part(0, 2, 4), 1);
        Check.dueEntry(gram, 0, 2, 3, 0, 2, 4, 1, 0, 1 | 1 << 6);
        Check.dueEntry(gram, 1, 0, 4, 0, 2, 4, 0, 2, 1);
        Check.due("left", gram.contents(0, 2), 6);
        Check.due("came", gram.contents(1, 2), 4);
        Check.due("part all", gram.part(0, 2, 6), 2);
        Check.due("part the parted", gram.part(1, 2, 1), 3);
        Check.dueEntry(gram, 3, 0, 4, 0, 2, 1, 1, 1, 1);
        gram.move(1, 4);
        Check.due("part on a truck", gram.part(1, 2, 3), 4);
        Check.due("the new one is on the truck", gram.pallet(4, 0), 4);
        Check.dueEntry(gram, 4, 0, 4, 4, 2, 3, 1, 3, 1 << 4);
    }

    private static void join() {
        Gram gram = Setup.pallets(2, 1);
        gram.make(2);
        gram.load(0, 0, 7);
        gram.load(0, 5, 2);
        gram.load(1, 5, 3);
        gram.load(1, 4, 1);
        Check.due("join", gram.join(0, 1), 13);
        Check.dueEntry(gram, 0, 3, 6, 1, 0, 0, 1, 3, 1 << 1);
        Check.dueEntry(gram, 1, 3, 5, 1, 0, 0, 0, 3, 1 << 1 | 1 << 6);
        Check.due("good 0", gram.contents(1, 0), 7);
        Check.due("good 4", gram.contents(1, 4), 1);
        Check.due("good 5", gram.contents(1, 5), 5);
        gram.move(2, 4);
        gram.move(1, 4);
        Check.due("join on a truck", gram.join(1, 2), 13);
        Check.dueEntry(gram, 2, 2, 5, 4, 0, 0, 1, 5, 1 << 4 | 1 << 6);
    }

    private static void move() {
        Gram gram = Setup.loaded(1);
        Check.due("move", gram.move(0, 5), 30);
        Check.dueEntry(gram, 0, 2, 7, 0, 0, 5, 0, 0, 1 | 1 << 5);
        Check.due("holder", gram.pallet(0, 0), 5);
        Check.due("move back", gram.move(0, 3), 30);
        Check.dueEntry(gram, 0, 3, 7, 5, 0, 3, 0, 0, 1 << 5 | 1 << 3);
        Check.due("holder", gram.pallet(0, 0), 3);
    }

    private static void hold() {
        Gram gram = Setup.loaded(1);
        Check.due("hold", gram.hold(0), true);
        Check.dueEntry(gram, 0, 2, 8, 6, 0, 0, 0, 0, 1 << 6);
        Check.due("free", gram.hold(0), false);
        Check.dueEntry(gram, 0, 3, 9, 6, 0, 0, 0, 0, 1 << 6);
        Check.due("work goes on", gram.load(0, 2, 1), 11);
    }

    // ---- promises 8 to 12

    private static void spoil() {
        Gram gram = Setup.loaded(1);
        int proof = gram.entry(0, 1, 6);
        Check.due("spoil", gram.spoil(0, 1, 33), 10);
        Check.due("the paper", gram.entry(0, 1, 3), 33);
        Check.due("the proof stays", gram.entry(0, 1, 6), proof);
        Check.due("what work left stays", gram.contents(0, 2), 10);
        gram.move(gram.make(0), 4);
        gram.spoil(1, 1, 2);
        Check.due("a spoiled MOVED leaves the pallet there", gram.pallet(1, 0), 4);
    }

    private static void lose() {
        Gram gram = Setup.loaded(1);
        gram.part(0, 2, 1);
        gram.move(1, 4);
        gram.hold(1);
        gram.load(0, 2, 1);
        Check.due("customs: PARTED and HELD", gram.lose(6), 2);
        Check.due("customs once more", gram.lose(6), 0);
        Check.due("the copies of PARTED", gram.entry(0, 2, 7), 1);
        Check.due("the copies of HELD", gram.entry(1, 2, 7), 0);
        Check.due("the truck: MOVED", gram.lose(4), 1);
        Check.due("dock 0: six", gram.lose(0), 6);
        Check.due("dock 1: none", gram.lose(1), 0);
        gram.load(0, 2, 1);
        Check.due("dock 0: a new one", gram.lose(0), 1);
    }

    private static void repair() {
        Gram gram = Setup.loaded(1);
        gram.spoil(0, 1, 50);
        Check.due("owed ahead", gram.owed(0), 3);
        Check.due("repair", gram.repair(0, 1), 0);
        Check.due("the paper", gram.entry(0, 1, 3), 10);
        Check.due("sound again", gram.isSound(0), true);
        Check.due("owed", gram.owed(0), 8);
        gram.spoil(0, 1, 50);
        gram.lose(0);
        Check.noState("repair without a copy", gram, () -> gram.repair(0, 1));
        gram.spoil(0, 1, 10);
        Check.due("sound by chance", gram.isSound(0), true);
    }

    private static void repairByWitnesses() {
        Gram gram = Setup.partedAndJoined();
        gram.move(0, 5);
        gram.spoil(0, 2, -1);
        gram.spoil(0, 3, -1);
        gram.spoil(0, 4, 0);
        Check.due("PARTED, by dock 0", gram.repair(0, 2), 0);
        gram.lose(0);
        Check.due("JOINED, by customs", gram.repair(0, 3), 6);
        Check.due("MOVED, by the truck", gram.repair(0, 4), 5);
        Check.due("MOVED tells the truck again", gram.entry(0, 4, 3), 5);
        Check.due("the holder owes: MOVED was made by dock 0", gram.owed(5), 15);
        gram.spoil(1, 1, 3);
        Check.noState("GONE, by nobody", gram, () -> gram.repair(1, 1));
        Gram other = Setup.partedAndJoined();
        int ahead = other.owed(0);
        other.spoil(1, 1, 3);
        Check.due("GONE, by the dock", other.repair(1, 1), 0);
        Check.due("the dock at which it was owes", other.owed(0), ahead + 5);
        other.hold(0);
        other.spoil(0, 4, 3);
        Check.due("HELD, by customs", other.repair(0, 4), 6);
        Check.due("the dock owes, not customs", other.owed(6), 9);
    }

    private static void broken() {
        Gram gram = Setup.loaded(1);
        gram.load(0, 2, 5);
        Check.due("none is broken", gram.broken(0), -1);
        gram.spoil(0, 2, 6);
        Check.due("the last one is", gram.broken(0), 2);
        gram.spoil(0, 0, 6);
        Check.due("the first one is, too", gram.broken(0), 0);
        gram.repair(0, 0);
        Check.due("the last one is still", gram.broken(0), 2);
        gram.spoil(0, 2, 5);
        Check.due("none is broken any more", gram.broken(0), -1);
        gram.part(0, 2, 5);
        gram.spoil(0, 1, 1);
        Check.due("of another pallet", gram.broken(1), -1);
    }

    private static void isSound() {
        Gram gram = Setup.loaded(1);
        gram.part(0, 2, 5);
        gram.part(1, 2, 3);
        gram.make(0);
        Check.due("sound", gram.isSound(2), true);
        gram.spoil(1, 0, 1);
        Check.due("the parted one", gram.isSound(0), true);
        Check.due("the spoiled one", gram.isSound(1), false);
        Check.due("the one that came from it", gram.isSound(2), false);
        gram.repair(1, 0);
        gram.spoil(0, 0, 1);
        Check.due("the one that came from one that came", gram.isSound(2), false);
        Check.due("one apart", gram.isSound(3), true);
        Check.noState("load one that came from it", gram, () -> gram.load(2, 0, 1));
        Check.noState("join one that came from it", gram, () -> gram.join(2, 3));
        Check.noState("join to one that came from it", gram, () -> gram.join(3, 2));
        gram.repair(0, 0);
        gram.load(0, 0, 1);
        gram.spoil(0, 3, 2);
        Check.due("what was written after it was parted counts, too", gram.isSound(2), false);
    }

    private static void isSoundRoundAbout() {
        Gram gram = Setup.partedAndJoined();
        Check.due("each tells of the other", gram.isSound(0) && gram.isSound(1), true);
        gram.spoil(1, 1, 1);
        Check.due("a gone one is spoiled", gram.isSound(0), false);
        Check.due("it is not sound itself", gram.isSound(1), false);
        gram.repair(1, 1);
        gram.make(0);
        gram.join(0, 2);
        gram.part(2, 2, 1);
        gram.spoil(1, 0, 1);
        Check.due("over CAME, JOINED, JOINED", gram.isSound(3), false);
        gram.repair(1, 0);
        gram.spoil(3, 0, 2);
        Check.due("not over PARTED", gram.isSound(2), true);
        gram.repair(3, 0);
        gram.spoil(2, 0, 2);
        Check.due("not over GONE", gram.isSound(0), true);
    }

    private static void isSoundOfManyJoined() {
        Gram gram = Setup.pallets(4, 0);
        for (int number = 1; number < 4; number++) {
            gram.load(number, number, 1);
            gram.join(number, 0);
        }
        for (int number = 1; number < 4; number++) {
            gram.spoil(number, 1, 5);
            Check.due("one of three that were joined is spoiled", gram.isSound(0), false);
            Check.due("its papers tell so", gram.contentsAnew(0, number), 5);
            Check.noState("load it", gram, () -> gram.load(0, 0, 1));
            gram.spoil(number, 1, 1);
            Check.due("it is mended", gram.isSound(0), true);
        }
    }

    // ---- promises 13 to 16

    private static void pallet() {
        Gram gram = Setup.pallets(1, 3);
        for (int good = 0; good < 6; good++) {
            gram.load(0, good, 1);
        }
        Check.due("holder", gram.pallet(0, 0), 3);
        Check.due("entries", gram.pallet(0, 1), 7);
        Check.due("weight", gram.pallet(0, 2), 21);
        Check.due("HELD", gram.pallet(0, 3), 0);
        Check.due("GONE", gram.pallet(0, 4), 0);
    }

    private static void entry() {
        Gram gram = Setup.loaded(1);
        gram.load(0, 2, -3);
        gram.part(0, 2, 4);
        Check.due("the proof as told beside the document", gram.entry(0, 3, 6), -1956651723);
    }

    private static void contents() {
        Gram gram = Setup.loaded(1);
        for (int good = 0; good < 6; good++) {
            Check.due("contents of good " + good, gram.contents(0, good), good == 2 ? 10 : 0);
        }
        gram.spoil(0, 1, 77);
        Check.due("papers do not count", gram.contents(0, 2), 10);
    }

    private static void contentsAnew() {
        Gram gram = Setup.loaded(1);
        gram.load(0, 2, -3);
        gram.part(0, 2, 4);
        gram.load(0, 1, 8);
        Check.due("10 - 3 - 4", gram.contentsAnew(0, 2), 3);
        Check.due("another good", gram.contentsAnew(0, 1), 8);
        Check.due("none", gram.contentsAnew(0, 0), 0);
        Check.due("CAME", gram.contentsAnew(1, 2), 4);
        gram.spoil(0, 0, 500);
        gram.spoil(0, 1, 20);
        gram.spoil(0, 2, -5);
        gram.spoil(0, 3, 100);
        Check.due("20 + 5 - 100", gram.contentsAnew(0, 2), -75);
        Check.due("MADE tells of no good", gram.contentsAnew(0, 0), 0);
        Check.due("CAME tells by its own paper", gram.contentsAnew(1, 2), 4);
    }

    private static void contentsAnewOfJoined() {
        Gram gram = Setup.partedAndJoined();
        Check.due("joined again", gram.contentsAnew(0, 2), 10);
        Check.due("GONE", gram.contentsAnew(1, 2), 0);
        gram.spoil(1, 0, 6);
        Check.due("CAME of the gone one tells 6", gram.contentsAnew(0, 2), 12);
        gram.repair(1, 0);
        gram.make(0);
        gram.load(2, 2, 1);
        gram.join(0, 2);
        Check.due("joined twice", gram.contentsAnew(2, 2), 11);
        gram.part(2, 2, 5);
        gram.join(2, 3);
        Check.due("joined to the one that was parted", gram.contentsAnew(3, 2), 11);
        gram.spoil(1, 0, 5);
        Check.due("four deep", gram.contentsAnew(3, 2), 12);
    }

    // ---- promises 17 to 20

    private static void declare() {
        Gram gram = new Gram();
        Check.due("first", gram.declare(4, 0, 30), 0);
        Check.due("then", gram.declare(4, 0, 3), 30);
        Check.due("another good", gram.declare(4, 5, 4), 0);
        Check.due("another truck", gram.declare(5, 0, 5), 0);
        Check.due("each by itself", gram.declare(4, 0, 3), 3);
    }

    private static void mismatch() {
        Gram gram = Setup.loaded(2);
        gram.load(1, 2, -7);
        gram.load(1, 5, 2);
        gram.move(0, 4);
        gram.move(1, 4);
        Check.due("nothing is declared", gram.mismatch(4), 15);
        gram.declare(4, 2, 20);
        Check.due("7 too much, 2 too little", gram.mismatch(4), 9);
        gram.declare(4, 2, 13);
        gram.declare(4, 5, 2);
        Check.due("all is declared", gram.mismatch(4), 0);
        Check.due("the other truck", gram.mismatch(5), 0);
        gram.spoil(0, 1, -10);
        Check.due("papers count: 13 and -7", gram.mismatch(4), 20);
        gram.spoil(0, 1, 10);
        gram.join(0, 1);
        Check.due("after a join", gram.mismatch(4), 0);
        gram.move(1, 2);
        Check.due("after it has left", gram.mismatch(4), 15);
    }

    private static void fee() {
        Gram gram = new Gram();
        gram.make(0);
        Check.due("fee", gram.fee(0, 20), 1);
        Check.due("the fee of then", gram.owed(0), 1);
        gram.make(0);
        Check.due("the fee from then on", gram.owed(0), 21);
    }

    private static void owed() {
        Gram gram = Setup.loaded(1);
        gram.move(0, 5);
        gram.hold(0);
        gram.spoil(0, 1, 0);
        gram.repair(0, 1);
        Check.due("MADE, LOADED and MOVED", gram.owed(0), 1 + 2 + 8);
        Check.due("a repair", gram.owed(5), 5);
        Check.due("HELD", gram.owed(6), 9);
    }
}
