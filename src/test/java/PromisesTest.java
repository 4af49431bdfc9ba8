/** The promises 1 to 20, one after another: ordinary inputs, the edges that the document names, wrong inputs. */
public final class PromisesTest {
    private static final int MIN = Integer.MIN_VALUE;
    private static final int MAX = Integer.MAX_VALUE;

    public static void main(String[] args) {
        newObject();
        make();
        load();
        loadToTheBounds();
        loadOntoTruck();
        part();
        partToTheBounds();
        join();
        joinToTheBounds();
        move();
        moveOntoFullTruck();
        hold();
        notWorkable();
        noRoomForEntries();
        spoil();
        lose();
        repair();
        repairByWitnesses();
        broken();
        isSound();
        isSoundRoundAbout();
        isSoundOfManyJoined();
        pallet();
        entry();
        entryKinds();
        contents();
        contentsAnew();
        contentsAnewOfJoined();
        declare();
        mismatch();
        fee();
        owed();
        Check.end();
    }

    // ---- helpers

    /** The proof of an entry, made anew from its numbers and the proof ahead. */
    private static int proof(int ahead, int kind, int maker, int good, int amount, int other, int otherEntry) {
        int h = ahead;
        for (int number : new int[] {kind, maker, good, amount, other, otherEntry}) {
            h = 31 * h + number;
        }
        return h;
    }

    private static void dueEntry(PalletGram gram, int pallet, int entry, int... numbers) {
        for (int what = 0; what < 6; what++) {
            Check.due("entry " + entry + " of " + pallet + ", number " + what,
                    gram.entry(pallet, entry, what), numbers[what]);
        }
        int ahead = entry == 0 ? 17 : gram.entry(pallet, entry - 1, 6);
        Check.due("the proof of entry " + entry + " of " + pallet, gram.entry(pallet, entry, 6),
                proof(ahead, numbers[0], numbers[1], numbers[2], numbers[3], numbers[4], numbers[5]));
        Check.due("the copies of entry " + entry + " of " + pallet, gram.entry(pallet, entry, 7), numbers[6]);
    }

    /** Holds and frees a pallet until it has so many entries (or one less). */
    private static void fill(PalletGram gram, int pallet, int entries) {
        while (gram.pallet(pallet, 1) + 1 < entries) {
            gram.hold(pallet);
            gram.hold(pallet);
        }
    }

    /** An object with a pallet that has 10 of good 2 at dock 0. */
    private static PalletGram loaded() {
        PalletGram gram = new PalletGram();
        gram.make(0);
        gram.load(0, 2, 10);
        return gram;
    }

    /** The pallet of loaded(), with 4 of its 10 parted to pallet 1, which then came back. */
    private static PalletGram partedAndJoined() {
        PalletGram gram = loaded();
        gram.part(0, 2, 4);
        gram.join(1, 0);
        return gram;
    }

    private static void loadMuch(PalletGram gram, int pallet, int good, int amount) {
        for (int left = amount; left > 0; left -= 99) {
            gram.load(pallet, good, Math.min(left, 99));
        }
    }

    // ---- promise 1

    private static void newObject() {
        PalletGram gram = new PalletGram();
        Check.noPlace("pallet 0 of a new object", gram, () -> gram.pallet(0, 0));
        for (int truck = 4; truck <= 5; truck++) {
            Check.due("mismatch of a new object", gram.mismatch(truck), 0);
            for (int good = 0; good <= 5; good++) {
                Check.due("declared in a new object", gram.declare(truck, good, 0), 0);
            }
        }
        for (int holder = 0; holder <= 6; holder++) {
            Check.due("owed in a new object", gram.owed(holder), 0);
            Check.due("copies in a new object", gram.lose(holder), 0);
        }
        gram.make(0);
        PalletGram another = new PalletGram();
        Check.due("the first pallet of another object", another.make(1), 0);
        Check.due("the holder in the first object", gram.pallet(0, 0), 0);
    }

    // ---- promise 2

    private static void make() {
        PalletGram gram = new PalletGram();
        for (int wrong : new int[] {MIN, -1, 4, 5, 6, 7, MAX}) {
            Check.noPlace("make at " + wrong, gram, () -> gram.make(wrong));
        }
        for (int number = 0; number < 14; number++) {
            Check.due("make", gram.make(number % 4), number);
            dueEntry(gram, number, 0, 0, number % 4, 0, 0, 0, 0, 1 << number % 4);
            Check.due("entries", gram.pallet(number, 1), 1);
            Check.due("weight", gram.pallet(number, 2), 0);
        }
        Check.noState("a 15th pallet", gram, () -> gram.make(0));
        Check.noPlace("a 15th pallet at a truck", gram, () -> gram.make(4));
        gram.join(0, 4);
        Check.noState("a 15th pallet when one is gone", gram, () -> gram.make(0));
    }

    // ---- promise 3

    private static void load() {
        PalletGram gram = new PalletGram();
        gram.make(2);
        Check.due("load", gram.load(0, 3, 99), 99);
        dueEntry(gram, 0, 1, 1, 2, 3, 99, 0, 0, 1 << 2);
        Check.due("take", gram.load(0, 3, -99), 0);
        dueEntry(gram, 0, 2, 2, 2, 3, 99, 0, 0, 1 << 2);
        Check.due("load one", gram.load(0, 5, 1), 1);
        dueEntry(gram, 0, 3, 1, 2, 5, 1, 0, 0, 1 << 2);
        Check.due("take one", gram.load(0, 5, -1), 0);
        dueEntry(gram, 0, 4, 2, 2, 5, 1, 0, 0, 1 << 2);
        for (int wrong : new int[] {MIN, -100, 0, 100, MAX}) {
            Check.noArgument("load of " + wrong, gram, () -> gram.load(0, 0, wrong));
            Check.noPlace("load of good 6 and " + wrong, gram, () -> gram.load(0, 6, wrong));
        }
        for (int wrong : new int[] {MIN, -1, 1, 14, MAX}) {
            Check.noPlace("load of pallet " + wrong, gram, () -> gram.load(wrong, 0, 1));
        }
        for (int wrong : new int[] {MIN, -1, 6, MAX}) {
            Check.noPlace("load of good " + wrong, gram, () -> gram.load(0, wrong, 1));
        }
        gram.hold(0);
        Check.noArgument("load of nothing onto one that is held", gram, () -> gram.load(0, 0, 0));
    }

    private static void loadToTheBounds() {
        PalletGram gram = loaded();
        Check.noState("take more than there is", gram, () -> gram.load(0, 2, -11));
        Check.noState("take another good", gram, () -> gram.load(0, 1, -1));
        Check.due("take all", gram.load(0, 2, -10), 0);
        loadMuch(gram, 0, 2, 990);
        Check.noState("load to 1000", gram, () -> gram.load(0, 2, 10));
        Check.due("load to 999", gram.load(0, 2, 9), 999);
        Check.due("another good", gram.load(0, 1, 99), 99);
    }

    private static void loadOntoTruck() {
        PalletGram gram = new PalletGram();
        gram.make(0);
        gram.make(0);
        gram.make(0);
        gram.move(0, 4);
        gram.move(1, 4);
        gram.load(0, 5, 20);
        Check.due("load the second one", gram.load(1, 1, 39), 39);
        Check.noState("load to 201", gram, () -> gram.load(1, 2, 1));
        Check.noState("load much", gram, () -> gram.load(0, 0, 99));
        Check.due("load to 200", gram.load(1, 1, 1), 40);
        Check.noState("load onto a full truck", gram, () -> gram.load(1, 0, 1));
        Check.due("load at a dock", gram.load(2, 5, 99), 99);
        Check.due("take from a full truck", gram.load(0, 5, -1), 19);
        Check.due("weight", gram.pallet(0, 2) + gram.pallet(1, 2), 194);
    }

    // ---- promise 4

    private static void part() {
        PalletGram gram = loaded();
        Check.due("part", gram.part(0, 2, 4), 1);
        dueEntry(gram, 0, 2, 3, 0, 2, 4, 1, 0, 1 | 1 << 6);
        dueEntry(gram, 1, 0, 4, 0, 2, 4, 0, 2, 1);
        Check.due("left", gram.contents(0, 2), 6);
        Check.due("came", gram.contents(1, 2), 4);
        Check.due("holder of the new one", gram.pallet(1, 0), 0);
        Check.due("part all", gram.part(0, 2, 6), 2);
        Check.due("part the parted", gram.part(1, 2, 1), 3);
        dueEntry(gram, 3, 0, 4, 0, 2, 1, 1, 1, 1);
        for (int wrong : new int[] {MIN, -1, 0, 100, MAX}) {
            Check.noArgument("part of " + wrong, gram, () -> gram.part(0, 2, wrong));
            Check.noPlace("part of pallet 4 and " + wrong, gram, () -> gram.part(4, 2, wrong));
        }
        for (int wrong : new int[] {MIN, -1, 4, MAX}) {
            Check.noPlace("part of pallet " + wrong, gram, () -> gram.part(wrong, 2, 1));
        }
        for (int wrong : new int[] {MIN, -1, 6, MAX}) {
            Check.noPlace("part of good " + wrong, gram, () -> gram.part(1, wrong, 1));
        }
        Check.noState("part of what is not there", gram, () -> gram.part(0, 2, 1));
        Check.noState("part of more than is there", gram, () -> gram.part(1, 2, 4));
        gram.move(1, 4);
        gram.part(1, 2, 3);
        Check.due("the new one is on the truck", gram.pallet(4, 0), 4);
        dueEntry(gram, 4, 0, 4, 4, 2, 3, 1, 3, 1 << 4);
    }

    private static void partToTheBounds() {
        PalletGram gram = new PalletGram();
        gram.make(3);
        loadMuch(gram, 0, 0, 198);
        Check.due("part 99", gram.part(0, 0, 99), 1);
        for (int number = 2; number < 14; number++) {
            Check.due("part", gram.part(0, 0, 1), number);
        }
        Check.noState("part to a 15th", gram, () -> gram.part(0, 0, 1));
        Check.due("left", gram.contents(0, 0), 87);
    }

    // ---- promise 5

    private static void join() {
        PalletGram gram = new PalletGram();
        gram.make(1);
        gram.make(1);
        gram.make(2);
        gram.load(0, 0, 7);
        gram.load(0, 5, 2);
        gram.load(1, 5, 3);
        gram.load(1, 4, 1);
        for (int wrong : new int[] {MIN, -1, 3, MAX}) {
            Check.noPlace("join of " + wrong, gram, () -> gram.join(wrong, 0));
            Check.noPlace("join to " + wrong, gram, () -> gram.join(0, wrong));
            Check.noPlace("join of " + wrong + " to itself", gram, () -> gram.join(wrong, wrong));
        }
        Check.noArgument("join to itself", gram, () -> gram.join(0, 0));
        Check.noState("join at another holder", gram, () -> gram.join(0, 2));
        Check.due("join", gram.join(0, 1), 13);
        dueEntry(gram, 0, 3, 6, 1, 0, 0, 1, 3, 1 << 1);
        dueEntry(gram, 1, 3, 5, 1, 0, 0, 0, 3, 1 << 1 | 1 << 6);
        Check.due("good 0", gram.contents(1, 0), 7);
        Check.due("good 4", gram.contents(1, 4), 1);
        Check.due("good 5", gram.contents(1, 5), 5);
        Check.due("good 0 of the gone one", gram.contents(0, 0), 0);
        Check.due("good 5 of the gone one", gram.contents(0, 5), 0);
        Check.noArgument("join of the gone one to itself", gram, () -> gram.join(0, 0));
        Check.noState("join of the gone one", gram, () -> gram.join(0, 1));
        Check.noState("join to the gone one", gram, () -> gram.join(1, 0));
        gram.move(2, 4);
        gram.move(1, 4);
        Check.due("join on a truck", gram.join(1, 2), 13);
        dueEntry(gram, 2, 2, 5, 4, 0, 0, 1, 5, 1 << 4 | 1 << 6);
    }

    private static void joinToTheBounds() {
        PalletGram gram = new PalletGram();
        gram.make(0);
        gram.make(0);
        loadMuch(gram, 0, 5, 500);
        loadMuch(gram, 1, 5, 500);
        loadMuch(gram, 0, 3, 400);
        Check.noState("join to 1000", gram, () -> gram.join(0, 1));
        gram.load(1, 5, -1);
        Check.due("join to 999", gram.join(0, 1), 1399);
        Check.due("good 5", gram.contents(1, 5), 999);
    }

    // ---- promise 6

    private static void move() {
        PalletGram gram = loaded();
        for (int wrong : new int[] {MIN, -1, 6, 7, MAX}) {
            Check.noPlace("move to " + wrong, gram, () -> gram.move(0, wrong));
        }
        for (int wrong : new int[] {MIN, -1, 1, MAX}) {
            Check.noPlace("move of " + wrong, gram, () -> gram.move(wrong, 4));
        }
        for (int dock = 0; dock <= 3; dock++) {
            int to = dock;
            Check.noState("move from a dock to a dock", gram, () -> gram.move(0, to));
        }
        Check.due("move", gram.move(0, 5), 30);
        dueEntry(gram, 0, 2, 7, 0, 0, 5, 0, 0, 1 | 1 << 5);
        Check.due("holder", gram.pallet(0, 0), 5);
        Check.noState("move to the same truck", gram, () -> gram.move(0, 5));
        Check.noState("move to the other truck", gram, () -> gram.move(0, 4));
        Check.due("move back", gram.move(0, 3), 30);
        dueEntry(gram, 0, 3, 7, 5, 0, 3, 0, 0, 1 << 5 | 1 << 3);
        Check.due("holder", gram.pallet(0, 0), 3);
    }

    private static void moveOntoFullTruck() {
        PalletGram gram = new PalletGram();
        for (int number = 0; number < 4; number++) {
            gram.make(number);
        }
        gram.load(0, 4, 30);
        gram.load(1, 0, 50);
        gram.load(2, 0, 1);
        Check.due("150", gram.move(0, 4), 150);
        Check.due("200", gram.move(1, 4), 50);
        Check.noState("201", gram, () -> gram.move(2, 4));
        Check.due("nothing onto a full truck", gram.move(3, 4), 0);
        Check.due("the other truck", gram.move(2, 5), 1);
        gram.load(2, 5, 33);
        Check.due("from a truck", gram.move(2, 0), 199);
        gram.load(2, 0, 1);
        Check.due("200 alone", gram.move(2, 5), 200);
        gram.move(2, 1);
        gram.load(2, 0, 1);
        Check.noState("201 alone", gram, () -> gram.move(2, 5));
    }

    // ---- promise 7, and what it means for work

    private static void hold() {
        PalletGram gram = loaded();
        for (int wrong : new int[] {MIN, -1, 1, MAX}) {
            Check.noPlace("hold " + wrong, gram, () -> gram.hold(wrong) ? 1 : 0);
        }
        Check.due("hold", gram.hold(0), true);
        dueEntry(gram, 0, 2, 8, 6, 0, 0, 0, 0, 1 << 6);
        Check.due("HELD", gram.pallet(0, 3), 1);
        Check.due("free", gram.hold(0), false);
        dueEntry(gram, 0, 3, 9, 6, 0, 0, 0, 0, 1 << 6);
        Check.due("HELD", gram.pallet(0, 3), 0);
        Check.due("work goes on", gram.load(0, 2, 1), 11);
        gram.spoil(0, 0, 1);
        Check.due("hold one that is not sound", gram.hold(0), true);
        Check.due("free one that is not sound", gram.hold(0), false);
        gram.repair(0, 0);
        gram.make(0);
        gram.join(0, 1);
        Check.noState("hold one that is gone", gram, () -> gram.hold(0) ? 1 : 0);
        fill(gram, 1, 30);
        Check.due("entries", gram.pallet(1, 1), 30);
        Check.noState("hold without room", gram, () -> gram.hold(1) ? 1 : 0);
    }

    private static void notWorkable() {
        PalletGram gram = loaded();
        gram.make(0);
        gram.load(1, 2, 1);
        gram.hold(0);
        refuseWork("held", gram);
        gram.hold(0);
        gram.spoil(0, 1, 11);
        refuseWork("spoiled", gram);
        gram.spoil(0, 1, 10);
        Check.due("work on one that is sound again", gram.load(0, 2, -1), 9);
        gram.join(0, 1);
        refuseWork("gone", gram);
    }

    private static void refuseWork(String how, PalletGram gram) {
        Check.noState("load one that is " + how, gram, () -> gram.load(0, 2, 1));
        Check.noState("take from one that is " + how, gram, () -> gram.load(0, 2, -1));
        Check.noState("part one that is " + how, gram, () -> gram.part(0, 2, 1));
        Check.noState("join one that is " + how, gram, () -> gram.join(0, 1));
        Check.noState("join to one that is " + how, gram, () -> gram.join(1, 0));
        Check.noState("move one that is " + how, gram, () -> gram.move(0, 4));
    }

    private static void noRoomForEntries() {
        PalletGram gram = loaded();
        gram.make(0);
        fill(gram, 0, 30);
        Check.due("entries", gram.pallet(0, 1), 30);
        refuseWork("full", gram);
        PalletGram other = new PalletGram();
        other.make(0);
        other.make(0);
        fill(other, 0, 29);
        fill(other, 1, 29);
        Check.due("entries", other.pallet(0, 1), 29);
        Check.due("join into the last rows", other.join(0, 1), 0);
        dueEntry(other, 0, 29, 6, 0, 0, 0, 1, 29, 1);
        dueEntry(other, 1, 29, 5, 0, 0, 0, 0, 29, 1 | 1 << 6);
    }

    // ---- promise 8

    private static void spoil() {
        PalletGram gram = loaded();
        int proof = gram.entry(0, 1, 6);
        Check.due("spoil", gram.spoil(0, 1, 999), 10);
        Check.due("spoil again", gram.spoil(0, 1, -999), 999);
        Check.due("the paper", gram.entry(0, 1, 3), -999);
        Check.due("the proof stays", gram.entry(0, 1, 6), proof);
        Check.due("the copies stay", gram.entry(0, 1, 7), 1);
        Check.due("what work left stays", gram.contents(0, 2), 10);
        Check.due("nobody owes for it", gram.owed(0), 3);
        for (int wrong : new int[] {MIN, -1000, 1000, MAX}) {
            Check.noArgument("spoil with " + wrong, gram, () -> gram.spoil(0, 0, wrong));
            Check.noPlace("spoil entry 2 with " + wrong, gram, () -> gram.spoil(0, 2, wrong));
        }
        for (int wrong : new int[] {MIN, -1, 2, 30, MAX}) {
            Check.noPlace("spoil entry " + wrong, gram, () -> gram.spoil(0, wrong, 0));
        }
        for (int wrong : new int[] {MIN, -1, 1, 14, MAX}) {
            Check.noPlace("spoil of pallet " + wrong, gram, () -> gram.spoil(wrong, 0, 0));
        }
        gram.move(gram.make(0), 4);
        gram.spoil(1, 1, 2);
        Check.due("a spoiled MOVED leaves the pallet there", gram.pallet(1, 0), 4);
        gram.make(0);
        gram.join(2, gram.make(0));
        Check.due("spoil of a gone one", gram.spoil(2, 1, 5), 0);
        gram.hold(3);
        Check.due("spoil of a held one", gram.spoil(3, 2, 5), 0);
    }

    // ---- promise 9

    private static void lose() {
        PalletGram gram = loaded();
        gram.part(0, 2, 1);
        gram.move(1, 4);
        gram.hold(1);
        gram.load(0, 2, 1);
        Check.noPlace("lose of 7", gram, () -> gram.lose(7));
        Check.noPlace("lose of -1", gram, () -> gram.lose(-1));
        Check.noPlace("lose of the least", gram, () -> gram.lose(MIN));
        Check.noPlace("lose of the most", gram, () -> gram.lose(MAX));
        Check.due("customs: PARTED and HELD", gram.lose(6), 2);
        Check.due("customs once more", gram.lose(6), 0);
        Check.due("the copies of PARTED", gram.entry(0, 2, 7), 1);
        Check.due("the copies of HELD", gram.entry(1, 2, 7), 0);
        Check.due("the truck: MOVED", gram.lose(4), 1);
        Check.due("dock 0: six", gram.lose(0), 6);
        Check.due("dock 1: none", gram.lose(1), 0);
        gram.load(0, 2, 1);
        Check.due("dock 0: a new one", gram.lose(0), 1);
    }

    // ---- promise 10

    private static void repair() {
        PalletGram gram = loaded();
        Check.noState("repair of one that is not broken", gram, () -> gram.repair(0, 1));
        gram.spoil(0, 1, 50);
        Check.noState("repair of the one ahead", gram, () -> gram.repair(0, 0));
        for (int wrong : new int[] {MIN, -1, 2, 30, MAX}) {
            Check.noPlace("repair of entry " + wrong, gram, () -> gram.repair(0, wrong));
        }
        for (int wrong : new int[] {MIN, -1, 1, 14, MAX}) {
            Check.noPlace("repair of pallet " + wrong, gram, () -> gram.repair(wrong, 0));
        }
        Check.due("owed ahead", gram.owed(0), 3);
        Check.due("repair", gram.repair(0, 1), 0);
        Check.due("the paper", gram.entry(0, 1, 3), 10);
        Check.due("sound again", gram.isSound(0), true);
        Check.due("owed", gram.owed(0), 8);
        Check.noState("repair once more", gram, () -> gram.repair(0, 1));
        gram.spoil(0, 1, 50);
        gram.lose(0);
        Check.noState("repair without a copy", gram, () -> gram.repair(0, 1));
        gram.spoil(0, 1, 10);
        Check.due("sound by chance", gram.isSound(0), true);
    }

    private static void repairByWitnesses() {
        PalletGram gram = partedAndJoined();
        gram.move(0, 5);
        gram.spoil(0, 2, -1);
        gram.spoil(0, 3, -1);
        gram.spoil(0, 4, 0);
        Check.due("PARTED, by dock 0", gram.repair(0, 2), 0);
        gram.lose(0);
        Check.due("JOINED, by customs", gram.repair(0, 3), 6);
        Check.due("MOVED, by the truck", gram.repair(0, 4), 5);
        Check.due("MOVED tells the truck again", gram.entry(0, 4, 3), 5);
        Check.due("the holder owes: MOVED was made by dock 0", gram.owed(5), 15);
        gram.spoil(1, 1, 3);
        Check.noState("GONE, by nobody", gram, () -> gram.repair(1, 1));
        PalletGram other = partedAndJoined();
        int ahead = other.owed(0);
        other.spoil(1, 1, 3);
        Check.due("GONE, by the dock", other.repair(1, 1), 0);
        Check.due("the dock at which it was owes", other.owed(0), ahead + 5);
        other.hold(0);
        other.spoil(0, 4, 3);
        Check.due("HELD, by customs", other.repair(0, 4), 6);
        Check.due("the dock owes, not customs", other.owed(6), 9);
    }

    // ---- promise 11

    private static void broken() {
        PalletGram gram = loaded();
        gram.load(0, 2, 5);
        Check.due("none is broken", gram.broken(0), -1);
        gram.spoil(0, 2, 6);
        Check.due("the last one is", gram.broken(0), 2);
        gram.spoil(0, 0, 6);
        Check.due("the first one is, too", gram.broken(0), 0);
        gram.repair(0, 0);
        Check.due("the last one is still", gram.broken(0), 2);
        gram.spoil(0, 2, 5);
        Check.due("none is broken any more", gram.broken(0), -1);
        for (int wrong : new int[] {MIN, -1, 1, 14, MAX}) {
            Check.noPlace("broken of " + wrong, gram, () -> gram.broken(wrong));
        }
        gram.part(0, 2, 5);
        gram.spoil(0, 1, 1);
        Check.due("of another pallet", gram.broken(1), -1);
    }

    // ---- promise 12

    private static void isSound() {
        PalletGram gram = loaded();
        gram.part(0, 2, 5);
        gram.part(1, 2, 3);
        gram.make(0);
        Check.due("sound", gram.isSound(2), true);
        gram.spoil(1, 0, 1);
        Check.due("the parted one", gram.isSound(0), true);
        Check.due("the spoiled one", gram.isSound(1), false);
        Check.due("the one that came from it", gram.isSound(2), false);
        gram.repair(1, 0);
        gram.spoil(0, 0, 1);
        Check.due("the one that came from one that came", gram.isSound(2), false);
        Check.due("one apart", gram.isSound(3), true);
        Check.noState("load one that came from it", gram, () -> gram.load(2, 0, 1));
        Check.noState("join one that came from it", gram, () -> gram.join(2, 3));
        Check.noState("join to one that came from it", gram, () -> gram.join(3, 2));
        gram.repair(0, 0);
        gram.load(0, 0, 1);
        gram.spoil(0, 3, 2);
        Check.due("what was written after it was parted counts, too", gram.isSound(2), false);
        for (int wrong : new int[] {MIN, -1, 4, 14, MAX}) {
            Check.noPlace("isSound of " + wrong, gram, () -> gram.isSound(wrong) ? 1 : 0);
        }
    }

    private static void isSoundRoundAbout() {
        PalletGram gram = partedAndJoined();
        Check.due("each tells of the other", gram.isSound(0) && gram.isSound(1), true);
        gram.spoil(1, 1, 1);
        Check.due("a gone one is spoiled", gram.isSound(0), false);
        Check.due("it is not sound itself", gram.isSound(1), false);
        gram.repair(1, 1);
        gram.make(0);
        gram.join(0, 2);
        gram.part(2, 2, 1);
        gram.spoil(1, 0, 1);
        Check.due("over CAME, JOINED, JOINED", gram.isSound(3), false);
        gram.repair(1, 0);
        gram.spoil(3, 0, 2);
        Check.due("not over PARTED", gram.isSound(2), true);
        gram.repair(3, 0);
        gram.spoil(2, 0, 2);
        Check.due("not over GONE", gram.isSound(0), true);
    }

    private static void isSoundOfManyJoined() {
        PalletGram gram = new PalletGram();
        for (int number = 0; number < 4; number++) {
            gram.make(0);
            gram.load(number, number, 1);
        }
        for (int number = 1; number < 4; number++) {
            gram.join(number, 0);
        }
        for (int number = 1; number < 4; number++) {
            gram.spoil(number, 1, 5);
            Check.due("one of three that were joined is spoiled", gram.isSound(0), false);
            Check.due("its papers tell so", gram.contentsAnew(0, number), 5);
            Check.noState("load it", gram, () -> gram.load(0, 0, 1));
            gram.spoil(number, 1, 1);
            Check.due("it is mended", gram.isSound(0), true);
        }
    }

    // ---- promise 13

    private static void pallet() {
        PalletGram gram = new PalletGram();
        gram.make(3);
        for (int good = 0; good < 6; good++) {
            gram.load(0, good, 1);
        }
        Check.due("holder", gram.pallet(0, 0), 3);
        Check.due("entries", gram.pallet(0, 1), 7);
        Check.due("weight", gram.pallet(0, 2), 21);
        Check.due("HELD", gram.pallet(0, 3), 0);
        Check.due("GONE", gram.pallet(0, 4), 0);
        gram.spoil(0, 1, 99);
        Check.due("the weight is not that of the papers", gram.pallet(0, 2), 21);
        gram.hold(0);
        Check.due("HELD", gram.pallet(0, 3), 1);
        gram.hold(0);
        gram.repair(0, 1);
        gram.move(0, 5);
        gram.part(0, 5, 1);
        gram.join(0, 1);
        Check.due("where it was", gram.pallet(0, 0), 5);
        Check.due("weight of a gone one", gram.pallet(0, 2), 0);
        Check.due("HELD", gram.pallet(0, 3), 0);
        Check.due("GONE", gram.pallet(0, 4), 1);
        gram.move(1, 0);
        Check.due("where it was, still", gram.pallet(0, 0), 5);
        for (int wrong : new int[] {MIN, -1, 5, MAX}) {
            Check.noArgument("number " + wrong, gram, () -> gram.pallet(0, wrong));
            Check.noPlace("number of no pallet " + wrong, gram, () -> gram.pallet(2, wrong));
        }
        for (int wrong : new int[] {MIN, -1, 2, 14, MAX}) {
            Check.noPlace("pallet " + wrong, gram, () -> gram.pallet(wrong, 0));
        }
    }

    // ---- promise 14

    private static void entry() {
        PalletGram gram = loaded();
        gram.load(0, 2, -3);
        gram.part(0, 2, 4);
        Check.due("the proof as told beside the document", gram.entry(0, 3, 6), -1956651723);
        for (int wrong : new int[] {MIN, -1, 8, MAX}) {
            Check.noArgument("number " + wrong, gram, () -> gram.entry(0, 0, wrong));
            Check.noPlace("number of no entry " + wrong, gram, () -> gram.entry(0, 4, wrong));
        }
        for (int wrong : new int[] {MIN, -1, 4, 30, MAX}) {
            Check.noPlace("entry " + wrong, gram, () -> gram.entry(0, wrong, 0));
        }
        Check.noPlace("entry 1 of pallet 1, that has one", gram, () -> gram.entry(1, 1, 0));
        for (int wrong : new int[] {MIN, -1, 2, 14, MAX}) {
            Check.noPlace("pallet " + wrong, gram, () -> gram.entry(wrong, 0, 0));
        }
    }

    /** All kinds on one chain: their numbers, proofs and copies. */
    private static void entryKinds() {
        PalletGram gram = new PalletGram();
        gram.make(1);
        gram.load(0, 4, 9);
        gram.load(0, 4, -2);
        gram.part(0, 4, 3);
        gram.move(0, 4);
        gram.hold(0);
        gram.hold(0);
        gram.move(0, 1);
        gram.join(1, 0);
        dueEntry(gram, 0, 0, 0, 1, 0, 0, 0, 0, 2);
        dueEntry(gram, 0, 1, 1, 1, 4, 9, 0, 0, 2);
        dueEntry(gram, 0, 2, 2, 1, 4, 2, 0, 0, 2);
        dueEntry(gram, 0, 3, 3, 1, 4, 3, 1, 0, 66);
        dueEntry(gram, 0, 4, 7, 1, 0, 4, 0, 0, 18);
        dueEntry(gram, 0, 5, 8, 6, 0, 0, 0, 0, 64);
        dueEntry(gram, 0, 6, 9, 6, 0, 0, 0, 0, 64);
        dueEntry(gram, 0, 7, 7, 4, 0, 1, 0, 0, 18);
        dueEntry(gram, 0, 8, 5, 1, 0, 0, 1, 1, 66);
        dueEntry(gram, 1, 0, 4, 1, 4, 3, 0, 3, 2);
        dueEntry(gram, 1, 1, 6, 1, 0, 0, 0, 8, 2);
    }

    // ---- promise 15

    private static void contents() {
        PalletGram gram = loaded();
        for (int good = 0; good < 6; good++) {
            Check.due("contents of good " + good, gram.contents(0, good), good == 2 ? 10 : 0);
        }
        gram.spoil(0, 1, 77);
        Check.due("papers do not count", gram.contents(0, 2), 10);
        for (int wrong : new int[] {MIN, -1, 6, MAX}) {
            Check.noPlace("contents of good " + wrong, gram, () -> gram.contents(0, wrong));
        }
        for (int wrong : new int[] {MIN, -1, 1, 14, MAX}) {
            Check.noPlace("contents of pallet " + wrong, gram, () -> gram.contents(wrong, 0));
        }
    }

    // ---- promise 16

    private static void contentsAnew() {
        PalletGram gram = loaded();
        gram.load(0, 2, -3);
        gram.part(0, 2, 4);
        gram.load(0, 1, 8);
        Check.due("10 - 3 - 4", gram.contentsAnew(0, 2), 3);
        Check.due("another good", gram.contentsAnew(0, 1), 8);
        Check.due("none", gram.contentsAnew(0, 0), 0);
        Check.due("CAME", gram.contentsAnew(1, 2), 4);
        gram.spoil(0, 0, 500);
        gram.spoil(0, 1, 20);
        gram.spoil(0, 2, -5);
        gram.spoil(0, 3, 100);
        Check.due("20 + 5 - 100", gram.contentsAnew(0, 2), -75);
        Check.due("MADE tells of no good", gram.contentsAnew(0, 0), 0);
        Check.due("CAME tells by its own paper", gram.contentsAnew(1, 2), 4);
        gram.hold(0);
        gram.spoil(0, 5, 50);
        Check.due("HELD tells of no good", gram.contentsAnew(0, 0), 0);
        for (int wrong : new int[] {MIN, -1, 6, MAX}) {
            Check.noPlace("contentsAnew of good " + wrong, gram, () -> gram.contentsAnew(0, wrong));
        }
        for (int wrong : new int[] {MIN, -1, 2, 14, MAX}) {
            Check.noPlace("contentsAnew of pallet " + wrong, gram, () -> gram.contentsAnew(wrong, 0));
        }
    }

    private static void contentsAnewOfJoined() {
        PalletGram gram = partedAndJoined();
        Check.due("joined again", gram.contentsAnew(0, 2), 10);
        Check.due("GONE", gram.contentsAnew(1, 2), 0);
        gram.spoil(1, 0, 6);
        Check.due("CAME of the gone one tells 6", gram.contentsAnew(0, 2), 12);
        Check.due("GONE still", gram.contentsAnew(1, 2), 0);
        gram.spoil(1, 1, 100);
        gram.spoil(0, 3, 100);
        Check.due("the amounts of GONE and JOINED tell nothing", gram.contentsAnew(0, 0), 0);
        gram.repair(1, 0);
        gram.repair(1, 1);
        gram.repair(0, 3);
        gram.make(0);
        gram.load(2, 2, 1);
        gram.join(0, 2);
        Check.due("joined twice", gram.contentsAnew(2, 2), 11);
        gram.part(2, 2, 5);
        gram.join(2, 3);
        Check.due("joined to the one that was parted", gram.contentsAnew(3, 2), 11);
        gram.spoil(1, 0, 5);
        Check.due("four deep", gram.contentsAnew(3, 2), 12);
    }

    // ---- promise 17

    private static void declare() {
        PalletGram gram = new PalletGram();
        Check.due("first", gram.declare(4, 0, 9999), 0);
        Check.due("then", gram.declare(4, 0, 0), 9999);
        Check.due("then", gram.declare(4, 0, 3), 0);
        Check.due("another good", gram.declare(4, 5, 4), 0);
        Check.due("another truck", gram.declare(5, 0, 5), 0);
        Check.due("each by itself", gram.declare(4, 0, 3), 3);
        for (int wrong : new int[] {MIN, -1, 10000, MAX}) {
            Check.noArgument("declare " + wrong, gram, () -> gram.declare(4, 0, wrong));
            Check.noPlace("declare for a dock " + wrong, gram, () -> gram.declare(3, 0, wrong));
            Check.noPlace("declare of good 6 " + wrong, gram, () -> gram.declare(4, 6, wrong));
        }
        for (int wrong : new int[] {MIN, -1, 0, 3, 6, MAX}) {
            Check.noPlace("declare for " + wrong, gram, () -> gram.declare(wrong, 0, 1));
        }
        for (int wrong : new int[] {MIN, -1, 6, MAX}) {
            Check.noPlace("declare of good " + wrong, gram, () -> gram.declare(5, wrong, 1));
        }
    }

    // ---- promise 18

    private static void mismatch() {
        PalletGram gram = loaded();
        gram.make(0);
        gram.load(1, 2, 3);
        gram.load(1, 5, 2);
        gram.move(0, 4);
        gram.move(1, 4);
        Check.due("nothing is declared", gram.mismatch(4), 15);
        gram.declare(4, 2, 20);
        Check.due("7 too much, 2 too little", gram.mismatch(4), 9);
        gram.declare(4, 0, 9999);
        Check.due("and a good that is not there", gram.mismatch(4), 10008);
        gram.declare(4, 0, 0);
        gram.declare(4, 2, 13);
        gram.declare(4, 5, 2);
        Check.due("all is declared", gram.mismatch(4), 0);
        Check.due("the other truck", gram.mismatch(5), 0);
        gram.spoil(0, 1, -10);
        Check.due("papers count: 13 and -7", gram.mismatch(4), 20);
        gram.spoil(0, 1, 12);
        gram.spoil(1, 1, 1);
        Check.due("the papers of all pallets together", gram.mismatch(4), 0);
        gram.spoil(0, 1, 10);
        gram.spoil(1, 1, 3);
        gram.join(0, 1);
        Check.due("after a join", gram.mismatch(4), 0);
        gram.move(1, 2);
        Check.due("after it has left", gram.mismatch(4), 15);
        for (int wrong : new int[] {MIN, -1, 0, 3, 6, MAX}) {
            Check.noPlace("mismatch of " + wrong, gram, () -> gram.mismatch(wrong));
        }
    }

    // ---- promise 19

    private static void fee() {
        PalletGram gram = new PalletGram();
        for (int kind = 0; kind < 10; kind++) {
            Check.due("fee of kind " + kind, gram.fee(kind, 99 - kind), kind + 1);
            Check.due("fee of kind " + kind, gram.fee(kind, 0), 99 - kind);
            Check.due("fee of kind " + kind, gram.fee(kind, kind + 1), 0);
        }
        gram.make(0);
        gram.fee(0, 99);
        Check.due("the fee of then", gram.owed(0), 1);
        gram.make(0);
        Check.due("the fee from then on", gram.owed(0), 100);
        gram.fee(0, 0);
        gram.make(0);
        Check.due("no fee", gram.owed(0), 100);
        for (int wrong : new int[] {MIN, -1, 100, MAX}) {
            Check.noArgument("fee of " + wrong, gram, () -> gram.fee(0, wrong));
        }
        for (int wrong : new int[] {MIN, -1, 10, MAX}) {
            Check.noArgument("fee of kind " + wrong, gram, () -> gram.fee(wrong, 0));
        }
    }

    // ---- promise 20

    private static void owed() {
        PalletGram gram = new PalletGram();
        gram.make(1);
        Check.due("MADE", gram.owed(1), 1);
        gram.load(0, 0, 9);
        Check.due("LOADED", gram.owed(1), 3);
        gram.load(0, 0, -1);
        Check.due("TAKEN", gram.owed(1), 6);
        gram.part(0, 0, 1);
        Check.due("PARTED and CAME", gram.owed(1), 15);
        gram.join(1, 0);
        Check.due("JOINED and GONE", gram.owed(1), 28);
        gram.move(0, 5);
        Check.due("MOVED, by the holder ahead", gram.owed(1), 36);
        Check.due("not by the truck", gram.owed(5), 0);
        gram.hold(0);
        Check.due("HELD", gram.owed(6), 9);
        gram.hold(0);
        Check.due("FREED", gram.owed(6), 19);
        gram.spoil(0, 1, 0);
        gram.repair(0, 1);
        Check.due("a repair", gram.owed(5), 5);
        gram.fee(1, 50);
        gram.spoil(0, 1, 0);
        gram.repair(0, 1);
        Check.due("another repair", gram.owed(5), 10);
        Check.due("the dock owes no more", gram.owed(1), 36);
        for (int wrong : new int[] {MIN, -1, 7, MAX}) {
            Check.noPlace("owed of " + wrong, gram, () -> gram.owed(wrong));
        }
    }
}
