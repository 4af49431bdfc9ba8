import java.util.ArrayList;
import java.util.HashSet;
import java.util.List;
import java.util.Set;

/**
 * The document's words once more, written apart from the class: objects and recursion where the class
 * has rows and sets, what is told by state of its own where the class looks at entries.
 */
final class Model {
    private static final int CUSTOMS = 6;

    private static final class Entry {
        int kind;
        int maker;
        int good;
        int amount;
        int other;
        int otherEntry;
        int proof;
        int amountMade;
        final Set<Integer> copies = new HashSet<>();
    }

    private static final class Pallet {
        int holder;
        boolean held;
        boolean gone;
        final int[] goods = new int[6];
        final List<Entry> chain = new ArrayList<>();
    }

    private final List<Pallet> pallets = new ArrayList<>();
    private final int[][] declared = new int[6][6];
    private final int[] fees = {1, 2, 3, 4, 5, 6, 7, 8, 9, 10};
    private final int[] owed = new int[7];

    int pallets() {
        return pallets.size();
    }

    long make(int dock) {
        place(0 <= dock && dock <= 3);
        state(pallets.size() < 14);
        Pallet pallet = new Pallet();
        pallet.holder = dock;
        pallets.add(pallet);
        append(pallet, 0, dock, 0, 0, 0, 0);
        return pallets.size() - 1;
    }

    long load(int number, int good, int amount) {
        Pallet pallet = palletAndGood(number, good);
        argument(-99 <= amount && amount <= -1 || 1 <= amount && amount <= 99);
        workable(number);
        state(pallet.goods[good] + amount >= 0);
        state(pallet.goods[good] + amount <= 999);
        if (pallet.holder >= 4) {
            state(truckWeight(pallet.holder) + (good + 1) * amount <= 200);
        }
        pallet.goods[good] += amount;
        append(pallet, amount > 0 ? 1 : 2, pallet.holder, good, Math.abs(amount), 0, 0);
        return pallet.goods[good];
    }

    long part(int number, int good, int amount) {
        Pallet pallet = palletAndGood(number, good);
        argument(1 <= amount && amount <= 99);
        workable(number);
        state(amount <= pallet.goods[good]);
        state(pallets.size() < 14);
        Pallet fresh = new Pallet();
        int freshNumber = pallets.size();
        pallets.add(fresh);
        fresh.holder = pallet.holder;
        fresh.goods[good] = amount;
        pallet.goods[good] -= amount;
        append(pallet, 3, pallet.holder, good, amount, freshNumber, 0);
        append(fresh, 4, pallet.holder, good, amount, number, pallet.chain.size() - 1);
        return freshNumber;
    }

    long join(int number, int otherNumber) {
        place(isPallet(number) && isPallet(otherNumber));
        argument(number != otherNumber);
        workable(number);
        workable(otherNumber);
        Pallet pallet = pallets.get(number);
        Pallet other = pallets.get(otherNumber);
        state(pallet.holder == other.holder);
        for (int good = 0; good < 6; good++) {
            state(pallet.goods[good] + other.goods[good] <= 999);
        }
        int all = 0;
        for (int good = 0; good < 6; good++) {
            other.goods[good] += pallet.goods[good];
            pallet.goods[good] = 0;
            all += other.goods[good];
        }
        append(pallet, 6, pallet.holder, 0, 0, otherNumber, other.chain.size());
        append(other, 5, other.holder, 0, 0, number, pallet.chain.size() - 1);
        pallet.gone = true;
        return all;
    }

    long move(int number, int holder) {
        place(isPallet(number) && 0 <= holder && holder <= 5);
        workable(number);
        Pallet pallet = pallets.get(number);
        if (pallet.holder <= 3) {
            state(holder >= 4);
            state(truckWeight(holder) + weight(pallet) <= 200);
        } else {
            state(holder <= 3);
        }
        append(pallet, 7, pallet.holder, 0, holder, 0, 0);
        pallet.holder = holder;
        return weight(pallet);
    }

    long hold(int number) {
        place(isPallet(number));
        Pallet pallet = pallets.get(number);
        state(!pallet.gone);
        state(pallet.chain.size() < 30);
        pallet.held = !pallet.held;
        append(pallet, pallet.held ? 8 : 9, CUSTOMS, 0, 0, 0, 0);
        return pallet.held ? 1 : 0;
    }

    long spoil(int number, int entry, int amount) {
        Entry paper = paper(number, entry);
        argument(-999 <= amount && amount <= 999);
        int was = paper.amount;
        paper.amount = amount;
        return was;
    }

    long lose(int holder) {
        place(0 <= holder && holder <= 6);
        int lost = 0;
        for (Pallet pallet : pallets) {
            for (Entry entry : pallet.chain) {
                lost += entry.copies.remove(holder) ? 1 : 0;
            }
        }
        return lost;
    }

    long repair(int number, int entry) {
        Entry paper = paper(number, entry);
        state(isBroken(pallets.get(number), entry));
        state(!paper.copies.isEmpty());
        paper.amount = paper.amountMade;
        owed[pallets.get(number).holder] += 5;
        return paper.copies.stream().min(Integer::compare).get();
    }

    long broken(int number) {
        place(isPallet(number));
        Pallet pallet = pallets.get(number);
        for (int entry = 0; entry < pallet.chain.size(); entry++) {
            if (isBroken(pallet, entry)) {
                return entry;
            }
        }
        return -1;
    }

    long isSound(int number) {
        place(isPallet(number));
        return sound(number, new HashSet<>()) ? 1 : 0;
    }

    long pallet(int number, int what) {
        place(isPallet(number));
        argument(0 <= what && what <= 4);
        Pallet pallet = pallets.get(number);
        int[] numbers = {pallet.holder, pallet.chain.size(), weight(pallet),
            pallet.held ? 1 : 0, pallet.gone ? 1 : 0};
        return numbers[what];
    }

    long entry(int number, int entry, int what) {
        Entry paper = paper(number, entry);
        argument(0 <= what && what <= 7);
        if (what == 7) {
            long set = 0;
            for (int witness : paper.copies) {
                set += 1L << witness;
            }
            return set;
        }
        return what == 6 ? paper.proof : numbers(paper)[what];
    }

    long contents(int number, int good) {
        return palletAndGood(number, good).goods[good];
    }

    long contentsAnew(int number, int good) {
        return told(palletAndGood(number, good), good, true);
    }

    long declare(int truck, int good, int amount) {
        place((truck == 4 || truck == 5) && 0 <= good && good <= 5);
        argument(0 <= amount && amount <= 9999);
        int was = declared[truck][good];
        declared[truck][good] = amount;
        return was;
    }

    long mismatch(int truck) {
        place(truck == 4 || truck == 5);
        int all = 0;
        for (int good = 0; good < 6; good++) {
            int papers = 0;
            for (Pallet pallet : pallets) {
                papers += pallet.holder == truck ? told(pallet, good, true) : 0;
            }
            all += Math.max(papers, declared[truck][good]) - Math.min(papers, declared[truck][good]);
        }
        return all;
    }

    long fee(int kind, int fee) {
        argument(0 <= kind && kind <= 9 && 0 <= fee && fee <= 99);
        int was = fees[kind];
        fees[kind] = fee;
        return was;
    }

    long owed(int holder) {
        place(0 <= holder && holder <= 6);
        return owed[holder];
    }

    private static void place(boolean there) {
        if (!there) {
            throw new IndexOutOfBoundsException();
        }
    }

    private static void argument(boolean inRange) {
        if (!inRange) {
            throw new IllegalArgumentException();
        }
    }

    private static void state(boolean allowed) {
        if (!allowed) {
            throw new IllegalStateException();
        }
    }

    private boolean isPallet(int number) {
        return 0 <= number && number < pallets.size();
    }

    private Pallet palletAndGood(int number, int good) {
        place(isPallet(number) && 0 <= good && good <= 5);
        return pallets.get(number);
    }

    private Entry paper(int number, int entry) {
        place(isPallet(number));
        place(0 <= entry && entry < pallets.get(number).chain.size());
        return pallets.get(number).chain.get(entry);
    }

    private void workable(int number) {
        Pallet pallet = pallets.get(number);
        state(!pallet.held);
        state(!pallet.gone);
        state(pallet.chain.size() < 30);
        state(sound(number, new HashSet<>()));
    }

    private boolean sound(int number, Set<Integer> seen) {
        if (!seen.add(number)) {
            return true;
        }
        Pallet pallet = pallets.get(number);
        for (int index = 0; index < pallet.chain.size(); index++) {
            Entry entry = pallet.chain.get(index);
            if (isBroken(pallet, index)) {
                return false;
            }
            if ((entry.kind == 4 || entry.kind == 5) && !sound(entry.other, seen)) {
                return false;
            }
        }
        return true;
    }

    private static int told(Pallet pallet, int good, List<Pallet> all, int length) {
        int amount = 0;
        for (int index = 0; index < length; index++) {
            Entry entry = pallet.chain.get(index);
            boolean isGood = entry.good == good;
            switch (entry.kind) {
                case 1, 4 -> amount += isGood ? entry.amount : 0;
                case 2, 3 -> amount -= isGood ? entry.amount : 0;
                case 5 -> {
                    Pallet other = all.get(entry.other);
                    amount += told(other, good, all, other.chain.size() - 1);
                }
                case 6 -> amount = 0;
                default -> { }
            }
        }
        return amount;
    }

    private int told(Pallet pallet, int good, boolean whole) {
        return told(pallet, good, pallets, whole ? pallet.chain.size() : pallet.chain.size() - 1);
    }

    private int weight(Pallet pallet) {
        int weight = 0;
        for (int good = 0; good < 6; good++) {
            weight += (good + 1) * pallet.goods[good];
        }
        return weight;
    }

    private int truckWeight(int truck) {
        return pallets.stream().filter(pallet -> pallet.holder == truck).mapToInt(this::weight).sum();
    }

    private static int[] numbers(Entry entry) {
        return new int[] {entry.kind, entry.maker, entry.good, entry.amount, entry.other, entry.otherEntry};
    }

    private static int proofOf(Pallet pallet, int index) {
        int h = index == 0 ? 17 : pallet.chain.get(index - 1).proof;
        for (int number : numbers(pallet.chain.get(index))) {
            h = 31 * h + number;
        }
        return h;
    }

    private static boolean isBroken(Pallet pallet, int index) {
        return proofOf(pallet, index) != pallet.chain.get(index).proof;
    }

    private void append(Pallet pallet, int kind, int maker, int good, int amount, int other, int otherEntry) {
        Entry entry = new Entry();
        entry.kind = kind;
        entry.maker = maker;
        entry.good = good;
        entry.amount = amount;
        entry.amountMade = amount;
        entry.other = other;
        entry.otherEntry = otherEntry;
        entry.copies.add(maker);
        if (kind == 7) {
            entry.copies.add(amount);
        }
        if (kind == 3 || kind == 5) {
            entry.copies.add(CUSTOMS);
        }
        pallet.chain.add(entry);
        entry.proof = proofOf(pallet, pallet.chain.size() - 1);
        owed[maker] += fees[kind];
    }
}
