/**
 * Pallets whose manifests are chains of entries, each with a proof over the one ahead.
 * The promises are numbered in the document, DOC.md.
 */
public final class PalletGram {
    /** There is none. */
    public static final int NONE = -1;
    /** Customs. */
    public static final int CUSTOMS = 6;

    private static final int GOODS = 6;
    private static final int MOST_OF_A_GOOD = 999;
    private static final int MOST_AT_ONCE = 99;

    // The docks are numbered first, the trucks after them, customs last.
    private static final int DOCKS = 4;
    private static final int HOLDERS = 6;
    private static final int OWERS = 7;
    private static final int MOST_ON_A_TRUCK = 200;
    private static final int MOST_DECLARED = 9999;

    private static final int MOST_PALLETS = 14;
    private static final int MOST_ENTRIES = 30;
    private static final int MOST_ON_PAPER = 999;

    private static final int MADE = 0;
    private static final int LOADED = 1;
    private static final int TAKEN = 2;
    private static final int PARTED = 3;
    private static final int CAME = 4;
    private static final int JOINED = 5;
    private static final int GONE = 6;
    private static final int MOVED = 7;
    private static final int HELD = 8;
    private static final int FREED = 9;
    private static final int KINDS = 10;

    private static final int MOST_FEE = 99;
    private static final int REPAIR_FEE = 5;

    private final Chains chains = new Chains();
    private final int[] holders = new int[MOST_PALLETS];
    private final int[] goods = new int[MOST_PALLETS * GOODS];
    private final int[] declared = new int[(HOLDERS - DOCKS) * GOODS];
    private final int[] fees = new int[KINDS];
    private final int[] debts = new int[OWERS];
    private int pallets;

    public PalletGram() {
        for (int kind = 0; kind < KINDS; kind++) {
            fees[kind] = kind + 1;
        }
    }

    // ---- work

    public int make(int dock) throws IndexOutOfBoundsException, IllegalStateException {
        needThere(isDock(dock));
        needState(pallets < MOST_PALLETS);
        int pallet = stand(dock);
        write(pallet, MADE, 0, 0, 0, 0);
        return pallet;
    }

    public int load(int pallet, int good, int amount)
            throws IndexOutOfBoundsException, IllegalArgumentException, IllegalStateException {
        needThere(isPallet(pallet) && isGood(good));
        needRange(amount != 0 && isWithin(amount, -MOST_AT_ONCE, MOST_AT_ONCE));
        int then = goods[pallet * GOODS + good] + amount;
        needState(isWorkable(pallet) && isWithin(then, 0, MOST_OF_A_GOOD)
                && hasRoom(holders[pallet], amount * weightOfOne(good)));
        goods[pallet * GOODS + good] = then;
        if (amount > 0) {
            write(pallet, LOADED, good, amount, 0, 0);
        } else {
            write(pallet, TAKEN, good, -amount, 0, 0);
        }
        return then;
    }

    public int part(int pallet, int good, int amount)
            throws IndexOutOfBoundsException, IllegalArgumentException, IllegalStateException {
        needThere(isPallet(pallet) && isGood(good));
        needRange(isWithin(amount, 1, MOST_AT_ONCE));
        needState(isWorkable(pallet) && goods[pallet * GOODS + good] >= amount && pallets < MOST_PALLETS);
        int parted = stand(holders[pallet]);
        goods[pallet * GOODS + good] -= amount;
        goods[parted * GOODS + good] = amount;
        int by = chains.length(pallet);
        write(pallet, PARTED, good, amount, parted, 0);
        write(parted, CAME, good, amount, pallet, by);
        return parted;
    }

    public int join(int pallet, int other)
            throws IndexOutOfBoundsException, IllegalArgumentException, IllegalStateException {
        needThere(isPallet(pallet) && isPallet(other));
        needRange(pallet != other);
        needState(isWorkable(pallet) && isWorkable(other) && holders[pallet] == holders[other]
                && canComeTogether(pallet, other));
        int together = 0;
        for (int good = 0; good < GOODS; good++) {
            goods[other * GOODS + good] += goods[pallet * GOODS + good];
            goods[pallet * GOODS + good] = 0;
            together += goods[other * GOODS + good];
        }
        int gone = chains.length(pallet);
        int joined = chains.length(other);
        write(pallet, GONE, 0, 0, other, joined);
        write(other, JOINED, 0, 0, pallet, gone);
        return together;
    }

    public int move(int pallet, int holder) throws IndexOutOfBoundsException, IllegalStateException {
        needThere(isPallet(pallet) && isHolder(holder));
        int weight = weightOf(pallet);
        needState(isWorkable(pallet) && isDock(holders[pallet]) != isDock(holder) && hasRoom(holder, weight));
        // The holder ahead makes the entry, so it is written before the pallet leaves.
        write(pallet, MOVED, 0, holder, 0, 0);
        holders[pallet] = holder;
        return weight;
    }

    public boolean hold(int pallet) throws IndexOutOfBoundsException, IllegalStateException {
        needThere(isPallet(pallet));
        needState(!isGone(pallet) && chains.hasRoom(pallet));
        boolean held = !isHeld(pallet);
        write(pallet, held ? HELD : FREED, 0, 0, 0, 0);
        return held;
    }

    // ---- papers, witnesses

    public int spoil(int pallet, int entry, int amount)
            throws IndexOutOfBoundsException, IllegalArgumentException {
        needThere(isPallet(pallet) && chains.has(pallet, entry));
        needRange(isWithin(amount, -MOST_ON_PAPER, MOST_ON_PAPER));
        int told = chains.number(pallet, entry, Chains.AMOUNT);
        chains.putAmount(pallet, entry, amount);
        return told;
    }

    public int lose(int holder) throws IndexOutOfBoundsException {
        needThere(isOwer(holder));
        return chains.dropCopies(holder);
    }

    public int repair(int pallet, int entry) throws IndexOutOfBoundsException, IllegalStateException {
        needThere(isPallet(pallet) && chains.has(pallet, entry));
        int witness = lowestOf(chains.copies(pallet, entry));
        needState(chains.isBroken(pallet, entry) && witness != NONE);
        chains.putAmountBack(pallet, entry);
        debts[holders[pallet]] += REPAIR_FEE;
        return witness;
    }

    public int broken(int pallet) throws IndexOutOfBoundsException {
        needThere(isPallet(pallet));
        return chains.firstBroken(pallet);
    }

    public boolean isSound(int pallet) throws IndexOutOfBoundsException {
        needThere(isPallet(pallet));
        return allAreUnbroken(pallet);
    }

    // ---- what there is

    public int pallet(int pallet, int what) throws IndexOutOfBoundsException, IllegalArgumentException {
        needThere(isPallet(pallet));
        needRange(isWithin(what, 0, 4));
        switch (what) {
            case 0:
                return holders[pallet];
            case 1:
                return chains.length(pallet);
            case 2:
                return weightOf(pallet);
            case 3:
                return isHeld(pallet) ? 1 : 0;
            default:
                return isGone(pallet) ? 1 : 0;
        }
    }

    public int entry(int pallet, int entry, int what)
            throws IndexOutOfBoundsException, IllegalArgumentException {
        needThere(isPallet(pallet) && chains.has(pallet, entry));
        needRange(isWithin(what, 0, Chains.NUMBERS + 1));
        if (what < Chains.NUMBERS) {
            return chains.number(pallet, entry, what);
        }
        return what == Chains.NUMBERS ? chains.proof(pallet, entry) : chains.copies(pallet, entry);
    }

    public int contents(int pallet, int good) throws IndexOutOfBoundsException {
        needThere(isPallet(pallet) && isGood(good));
        return goods[pallet * GOODS + good];
    }

    public int contentsAnew(int pallet, int good) throws IndexOutOfBoundsException {
        needThere(isPallet(pallet) && isGood(good));
        return toldByPapers(pallet, good);
    }

    // ---- trucks, fees

    public int declare(int truck, int good, int amount)
            throws IndexOutOfBoundsException, IllegalArgumentException {
        needThere(isTruck(truck) && isGood(good));
        needRange(isWithin(amount, 0, MOST_DECLARED));
        int index = (truck - DOCKS) * GOODS + good;
        int was = declared[index];
        declared[index] = amount;
        return was;
    }

    public int mismatch(int truck) throws IndexOutOfBoundsException {
        needThere(isTruck(truck));
        int sum = 0;
        for (int good = 0; good < GOODS; good++) {
            sum += Math.abs(declared[(truck - DOCKS) * GOODS + good] - toldOfTruck(truck, good));
        }
        return sum;
    }

    public int fee(int kind, int fee) throws IllegalArgumentException {
        needRange(isWithin(kind, 0, KINDS - 1) && isWithin(fee, 0, MOST_FEE));
        int was = fees[kind];
        fees[kind] = fee;
        return was;
    }

    public int owed(int holder) throws IndexOutOfBoundsException {
        needThere(isOwer(holder));
        return debts[holder];
    }

    // ---- what a call needs: asked in the order of the throws clauses, ahead of every change

    private static void needThere(boolean there) {
        if (!there) {
            throw new IndexOutOfBoundsException("no such pallet, entry, holder or good");
        }
    }

    private static void needRange(boolean inRange) {
        if (!inRange) {
            throw new IllegalArgumentException("an argument is out of range");
        }
    }

    private static void needState(boolean allowed) {
        if (!allowed) {
            throw new IllegalStateException("this cannot be done now");
        }
    }

    private static boolean isWithin(int number, int lowest, int highest) {
        return number >= lowest && number <= highest;
    }

    private boolean isPallet(int pallet) {
        return pallet >= 0 && pallet < pallets;
    }

    private static boolean isGood(int good) {
        return good >= 0 && good < GOODS;
    }

    private static boolean isDock(int holder) {
        return holder >= 0 && holder < DOCKS;
    }

    private static boolean isTruck(int holder) {
        return holder >= DOCKS && holder < HOLDERS;
    }

    private static boolean isHolder(int holder) {
        return holder >= 0 && holder < HOLDERS;
    }

    private static boolean isOwer(int holder) {
        return holder >= 0 && holder < OWERS;
    }

    // ---- pallets

    /** Puts a new pallet at a holder, without goods and without entries; there must be room for it. */
    private int stand(int holder) {
        int pallet = pallets;
        holders[pallet] = holder;
        pallets++;
        return pallet;
    }

    /** Writes an entry at the end of a chain; who makes it owes the fee. */
    private void write(int pallet, int kind, int good, int amount, int other, int otherEntry) {
        int maker = kind == HELD || kind == FREED ? CUSTOMS : holders[pallet];
        chains.add(pallet, kind, maker, good, amount, other, otherEntry);
        debts[maker] += fees[kind];
    }

    // Nothing is written after GONE, and nothing but FREED after HELD: so the last entry tells both.

    private boolean isHeld(int pallet) {
        return chains.lastKind(pallet) == HELD;
    }

    private boolean isGone(int pallet) {
        return chains.lastKind(pallet) == GONE;
    }

    private boolean isWorkable(int pallet) {
        return !isHeld(pallet) && !isGone(pallet) && chains.hasRoom(pallet) && allAreUnbroken(pallet);
    }

    private boolean allAreUnbroken(int pallet) {
        int reached = chains.reach(pallet, true);
        for (int one = 0; one < pallets; one++) {
            if (isIn(reached, one) && chains.firstBroken(one) != NONE) {
                return false;
            }
        }
        return true;
    }

    private boolean canComeTogether(int pallet, int other) {
        for (int good = 0; good < GOODS; good++) {
            if (goods[pallet * GOODS + good] + goods[other * GOODS + good] > MOST_OF_A_GOOD) {
                return false;
            }
        }
        return true;
    }

    // ---- weights

    private static int weightOfOne(int good) {
        return good + 1;
    }

    private int weightOf(int pallet) {
        int weight = 0;
        for (int good = 0; good < GOODS; good++) {
            weight += goods[pallet * GOODS + good] * weightOfOne(good);
        }
        return weight;
    }

    /** Tells whether a holder can have so much more weight: a dock always can. */
    private boolean hasRoom(int holder, int more) {
        if (isDock(holder)) {
            return true;
        }
        int weight = more;
        for (int pallet = 0; pallet < pallets; pallet++) {
            if (holders[pallet] == holder) {
                weight += weightOf(pallet);
            }
        }
        return weight <= MOST_ON_A_TRUCK;
    }

    // ---- what papers tell

    private int toldByPapers(int pallet, int good) {
        if (isGone(pallet)) {
            return 0;
        }
        // A pallet is joined only once, so each one in the set counts once.
        int reached = chains.reach(pallet, false);
        int sum = 0;
        for (int one = 0; one < pallets; one++) {
            if (isIn(reached, one)) {
                sum += chains.toldByOwnEntries(one, good);
            }
        }
        return sum;
    }

    private int toldOfTruck(int truck, int good) {
        int sum = 0;
        for (int pallet = 0; pallet < pallets; pallet++) {
            if (holders[pallet] == truck) {
                sum += toldByPapers(pallet, good);
            }
        }
        return sum;
    }

    // ---- sets: number n is in a set if its bit n is 1

    private static boolean isIn(int set, int number) {
        return (set >> number & 1) != 0;
    }

    /** The lowest holder, or customs, in a set. */
    private static int lowestOf(int set) {
        for (int number = 0; number < OWERS; number++) {
            if (isIn(set, number)) {
                return number;
            }
        }
        return NONE;
    }

    /** The chains of all pallets, entry after entry in rows of numbers. */
    private static final class Chains {
        static final int KIND = 0;
        static final int MAKER = 1;
        static final int GOOD = 2;
        static final int AMOUNT = 3;
        static final int OTHER = 4;
        static final int OTHER_ENTRY = 5;
        static final int NUMBERS = 6;

        private static final int FIRST_PROOF = 17;
        private static final int PROOF_FACTOR = 31;

        private final int[] lengths = new int[MOST_PALLETS];
        private final int[] numbers = new int[MOST_PALLETS * MOST_ENTRIES * NUMBERS];
        private final int[] proofs = new int[MOST_PALLETS * MOST_ENTRIES];
        private final int[] copies = new int[MOST_PALLETS * MOST_ENTRIES];
        private final int[] amountsMade = new int[MOST_PALLETS * MOST_ENTRIES];

        int length(int pallet) {
            return lengths[pallet];
        }

        boolean has(int pallet, int entry) {
            return entry >= 0 && entry < lengths[pallet];
        }

        boolean hasRoom(int pallet) {
            return lengths[pallet] < MOST_ENTRIES;
        }

        int lastKind(int pallet) {
            int length = lengths[pallet];
            return length > 0 ? number(pallet, length - 1, KIND) : NONE;
        }

        int number(int pallet, int entry, int which) {
            return numbers[row(pallet, entry) * NUMBERS + which];
        }

        int proof(int pallet, int entry) {
            return proofs[row(pallet, entry)];
        }

        int copies(int pallet, int entry) {
            return copies[row(pallet, entry)];
        }

        /** Adds an entry to a chain that has room for it. */
        void add(int pallet, int kind, int maker, int good, int amount, int other, int otherEntry) {
            int entry = lengths[pallet];
            int row = row(pallet, entry);
            numbers[row * NUMBERS + KIND] = kind;
            numbers[row * NUMBERS + MAKER] = maker;
            numbers[row * NUMBERS + GOOD] = good;
            numbers[row * NUMBERS + AMOUNT] = amount;
            numbers[row * NUMBERS + OTHER] = other;
            numbers[row * NUMBERS + OTHER_ENTRY] = otherEntry;
            proofs[row] = proofMade(pallet, entry);
            copies[row] = witnesses(kind, maker, amount);
            amountsMade[row] = amount;
            lengths[pallet] = entry + 1;
        }

        void putAmount(int pallet, int entry, int amount) {
            numbers[row(pallet, entry) * NUMBERS + AMOUNT] = amount;
        }

        void putAmountBack(int pallet, int entry) {
            putAmount(pallet, entry, amountsMade[row(pallet, entry)]);
        }

        /** Takes one out of the witnesses of all entries; returns of how many. */
        int dropCopies(int witness) {
            int dropped = 0;
            for (int row = 0; row < copies.length; row++) {
                if (isIn(copies[row], witness)) {
                    copies[row] &= ~(1 << witness);
                    dropped++;
                }
            }
            return dropped;
        }

        boolean isBroken(int pallet, int entry) {
            return proof(pallet, entry) != proofMade(pallet, entry);
        }

        int firstBroken(int pallet) {
            for (int entry = 0; entry < lengths[pallet]; entry++) {
                if (isBroken(pallet, entry)) {
                    return entry;
                }
            }
            return NONE;
        }

        /** The set of a pallet and of those told in entries JOINED (and CAME, if asked for), and so on. */
        int reach(int pallet, boolean withCame) {
            int reached = 1 << pallet;
            int read = 0;
            // Chains part and join again, so pallets may tell of one another: each is read once.
            for (int round = 0; round < MOST_PALLETS && read != reached; round++) {
                for (int one = 0; one < MOST_PALLETS; one++) {
                    if (isIn(reached, one) && !isIn(read, one)) {
                        read |= 1 << one;
                        reached |= toldPallets(one, withCame);
                    }
                }
            }
            return reached;
        }

        /** What the entries of a chain tell of a good, but for JOINED and GONE. */
        int toldByOwnEntries(int pallet, int good) {
            int sum = 0;
            for (int entry = 0; entry < lengths[pallet]; entry++) {
                if (number(pallet, entry, GOOD) == good) {
                    sum += sign(number(pallet, entry, KIND)) * number(pallet, entry, AMOUNT);
                }
            }
            return sum;
        }

        private static int row(int pallet, int entry) {
            return pallet * MOST_ENTRIES + entry;
        }

        /** The proof made of an entry's numbers, as they are on the paper, and the proof kept ahead. */
        private int proofMade(int pallet, int entry) {
            int row = row(pallet, entry);
            int proof = entry == 0 ? FIRST_PROOF : proofs[row - 1];
            for (int which = 0; which < NUMBERS; which++) {
                proof = PROOF_FACTOR * proof + numbers[row * NUMBERS + which];
            }
            return proof;
        }

        private static int witnesses(int kind, int maker, int amount) {
            int set = 1 << maker;
            if (kind == MOVED) {
                set |= 1 << amount;
            }
            if (kind == JOINED || kind == PARTED) {
                set |= 1 << CUSTOMS;
            }
            return set;
        }

        private int toldPallets(int pallet, boolean withCame) {
            int told = 0;
            for (int entry = 0; entry < lengths[pallet]; entry++) {
                int kind = number(pallet, entry, KIND);
                if (kind == JOINED || kind == CAME && withCame) {
                    told |= 1 << number(pallet, entry, OTHER);
                }
            }
            return told;
        }

        /** Whether the amount of an entry is more of its good (1), less (-1) or neither (0). */
        private static int sign(int kind) {
            switch (kind) {
                case LOADED:
                case CAME:
                    return 1;
                case TAKEN:
                case PARTED:
                    return -1;
                default:
                    return 0;
            }
        }
    }
}
