import java.util.Arrays;

/**
 * Things with values under several heads, some of the values chosen: how many things each value
 * would leave, the greatest ones, spans, sums and shares, kept right with each change.
 */
public final class FacetCounts {
    public static final int BAD = -1;
    public static final int FULL = -2;
    public static final int NO = -3;

    private static final int NONE = -1;
    private static final int THINGS = 40;
    private static final int HEADS = 8;
    // An int holds a whole set of values, bit v for value v, because there are just 32 of them.
    private static final int VALUES = 32;
    private static final int MOST_ROWS = 300;
    private static final int KIND_HEAD = 0;

    // The sets of values that rows give, at thing * HEADS + head.
    private final int[] given;
    // What each thing has under head 0, with the kinds above: held, since nearly every call asks it.
    private final int[] kinds;
    // The kind above each kind, or NONE.
    private final int[] uppers;
    // The set of chosen values of each head.
    private final int[] chosen;
    // The counts when changed was last asked, at head * VALUES + value.
    private final int[] before;
    // Where countAll counts, laid out like before; made once so that no call makes any array.
    private final int[] counts;
    private int rowCount;

    public FacetCounts() {
        given = new int[THINGS * HEADS];
        kinds = new int[THINGS];
        uppers = new int[VALUES];
        chosen = new int[HEADS];
        before = new int[HEADS * VALUES];
        counts = new int[HEADS * VALUES];
        rowCount = 0;
        Arrays.fill(uppers, NONE);
    }

    public int row(int thing, int head, int value) {
        if (!isThing(thing) || !isHead(head) || !isValue(value)) {
            return BAD;
        }
        int place = thing * HEADS + head;
        if (holds(given[place], value)) {
            return 0;
        }
        if (rowCount >= MOST_ROWS) {
            return FULL;
        }
        given[place] |= 1 << value;
        rowCount++;
        renewKinds(thing);
        return 1;
    }

    public int drop(int thing, int head, int value) {
        if (!isThing(thing) || !isHead(head) || !isValue(value)) {
            return BAD;
        }
        int place = thing * HEADS + head;
        if (!holds(given[place], value)) {
            return 0;
        }
        given[place] &= ~(1 << value);
        rowCount--;
        renewKinds(thing);
        return 1;
    }

    public int above(int kind, int upper) {
        if (!isValue(kind) || (upper != NONE && !isValue(upper))) {
            return BAD;
        }
        if (uppers[kind] == upper) {
            return 0;
        }
        if (upper != NONE && holds(withUppers(upper, 0), kind)) {
            return NO;
        }
        uppers[kind] = upper;
        for (int thing = 0; thing < THINGS; thing++) {
            renewKinds(thing);
        }
        return 1;
    }

    public int choose(int head, int value, boolean on) {
        if (!isHead(head) || !isValue(value)) {
            return BAD;
        }
        if (on) {
            chosen[head] |= 1 << value;
        } else {
            chosen[head] &= ~(1 << value);
        }
        return countKept();
    }

    public int kept() {
        return countKept();
    }

    public int isKept(int thing) {
        if (!isThing(thing)) {
            return BAD;
        }
        return lackedHeads(thing) == 0 ? 1 : 0;
    }

    public int facet(int head, int value) {
        if (!isHead(head) || !isValue(value)) {
            return BAD;
        }
        return countWithAny(head, 1 << value);
    }

    public int top(int head, int rank) {
        if (!isHead(head) || rank < 0 || rank >= VALUES) {
            return BAD;
        }
        countAll();
        for (int value = 0; value < VALUES; value++) {
            if (counts[head * VALUES + value] != 0 && rankOf(head, value) == rank) {
                return value;
            }
        }
        return BAD;
    }

    public int range(int head, int from, int to) {
        if (!isHead(head)) {
            return BAD;
        }
        return countWithAny(head, span(from, to));
    }

    public int sum(int head, int value, int other) {
        if (!isHead(head) || !isValue(value) || !isHead(other)) {
            return BAD;
        }
        int total = 0;
        for (int thing = 0; thing < THINGS; thing++) {
            if (holds(valuesOf(thing, head), value) && lackedHeads(thing) == 0) {
                total += sumOf(valuesOf(thing, other));
            }
        }
        return total;
    }

    public int share(int head, int value, boolean lower) throws ArithmeticException {
        if (!isHead(head) || !isValue(value)) {
            throw new ArithmeticException("no such head or value");
        }
        int whole = countKeptBut(head);
        if (whole == 0) {
            throw new ArithmeticException("nothing is kept but for this head");
        }
        int part = countWithAny(head, 1 << value);
        return inLeastTerms(lower ? whole : part, part, whole);
    }

    public int changed() {
        countAll();
        int different = 0;
        for (int place = 0; place < HEADS * VALUES; place++) {
            if (counts[place] != before[place]) {
                different++;
            }
            before[place] = counts[place];
        }
        return different;
    }

    public int rows() {
        return rowCount;
    }

    private static boolean isThing(int thing) {
        return thing >= 0 && thing < THINGS;
    }

    private static boolean isHead(int head) {
        return head >= 0 && head < HEADS;
    }

    private static boolean isValue(int value) {
        return value >= 0 && value < VALUES;
    }

    private static boolean holds(int set, int value) {
        return (set & (1 << value)) != 0;
    }

    private int valuesOf(int thing, int head) {
        return head == KIND_HEAD ? kinds[thing] : given[thing * HEADS + head];
    }

    private void renewKinds(int thing) {
        int own = given[thing * HEADS + KIND_HEAD];
        int all = 0;
        for (int kind = 0; kind < VALUES; kind++) {
            if (holds(own, kind)) {
                all = withUppers(kind, all);
            }
        }
        kinds[thing] = all;
    }

    // A kind that is in the set already brought all above it, so the walk may end there.
    private int withUppers(int kind, int set) {
        int all = set;
        int at = kind;
        for (int step = 0; step < VALUES && isValue(at) && !holds(all, at); step++) {
            all |= 1 << at;
            at = uppers[at];
        }
        return all;
    }

    // The set of heads that have chosen values, none of which the thing has.
    private int lackedHeads(int thing) {
        int lacked = 0;
        for (int head = 0; head < HEADS; head++) {
            if (chosen[head] != 0 && (chosen[head] & valuesOf(thing, head)) == 0) {
                lacked |= 1 << head;
            }
        }
        return lacked;
    }

    private boolean isKeptBut(int thing, int head) {
        return (lackedHeads(thing) & ~(1 << head)) == 0;
    }

    private int countKept() {
        int count = 0;
        for (int thing = 0; thing < THINGS; thing++) {
            if (lackedHeads(thing) == 0) {
                count++;
            }
        }
        return count;
    }

    private int countKeptBut(int head) {
        int count = 0;
        for (int thing = 0; thing < THINGS; thing++) {
            if (isKeptBut(thing, head)) {
                count++;
            }
        }
        return count;
    }

    // A thing with several values of the set counts once.
    private int countWithAny(int head, int set) {
        int count = 0;
        for (int thing = 0; thing < THINGS; thing++) {
            if ((valuesOf(thing, head) & set) != 0 && isKeptBut(thing, head)) {
                count++;
            }
        }
        return count;
    }

    // Goes over the things once, since a walk for each of the 256 counts would be dear.
    private void countAll() {
        Arrays.fill(counts, 0);
        for (int thing = 0; thing < THINGS; thing++) {
            int lacked = lackedHeads(thing);
            for (int head = 0; head < HEADS; head++) {
                if ((lacked & ~(1 << head)) == 0) {
                    countValues(head, valuesOf(thing, head));
                }
            }
        }
    }

    private void countValues(int head, int set) {
        if (set == 0) {
            return;
        }
        for (int value = 0; value < VALUES; value++) {
            if (holds(set, value)) {
                counts[head * VALUES + value]++;
            }
        }
    }

    // Ranks by the counts that countAll has left.
    private int rankOf(int head, int value) {
        int own = counts[head * VALUES + value];
        int rank = 0;
        for (int rival = 0; rival < VALUES; rival++) {
            int count = counts[head * VALUES + rival];
            if (count > own || (count == own && rival < value)) {
                rank++;
            }
        }
        return rank;
    }

    private static int span(int from, int to) {
        int first = Math.max(from, 0);
        int last = Math.min(to, VALUES - 1);
        int set = 0;
        for (int value = first; value <= last; value++) {
            set |= 1 << value;
        }
        return set;
    }

    private static int sumOf(int set) {
        int total = 0;
        for (int value = 0; value < VALUES; value++) {
            if (holds(set, value)) {
                total += value;
            }
        }
        return total;
    }

    // Trying each divisor is enough, since neither number is above the count of things.
    private static int inLeastTerms(int number, int part, int whole) {
        for (int divisor = whole; divisor > 1; divisor--) {
            if (part % divisor == 0 && whole % divisor == 0) {
                return number / divisor;
            }
        }
        return number;
    }
}
