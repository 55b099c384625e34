import java.lang.reflect.Constructor;
import java.lang.reflect.Field;
import java.lang.reflect.Method;
import java.lang.reflect.Modifier;
import java.util.Arrays;
import java.util.TreeSet;

/** Each promise by itself: ordinary inputs, the edges that the document names, wrong inputs. */
public final class PromisesTest {
    private static final int BAD = -1;
    private static final int FULL = -2;
    private static final int NO = -3;
    private static final int THROWN = Integer.MIN_VALUE;
    private static final int DIVIDED_BY_ZERO = Integer.MAX_VALUE;
    private static final int[] NO_THING = {-1, 40, Integer.MIN_VALUE, Integer.MAX_VALUE};
    private static final int[] NO_HEAD = {-1, 8, Integer.MIN_VALUE, Integer.MAX_VALUE};
    private static final int[] NO_VALUE = {-1, 32, Integer.MIN_VALUE, Integer.MAX_VALUE};

    private static int wrong = 0;

    private static void due(String what, long got, long want) {
        if (got != want) {
            wrong++;
            System.out.println(what + " answered " + got + ", due is " + want);
        }
    }

    public static void main(String[] args) {
        face();
        newObject();
        row();
        rowFull();
        drop();
        above();
        aboveNo();
        choose();
        kept();
        isKept();
        facet();
        facetByKinds();
        top();
        range();
        sum();
        share();
        shareOfNone();
        changed();
        rows();
        objectsApart();
        System.out.println(wrong == 0 ? "all promises hold" : wrong + " answers are not as due");
        if (wrong != 0) {
            System.exit(1);
        }
    }

    private static int share(FacetCounts x, int head, int value, boolean lower) {
        try {
            return x.share(head, value, lower);
        } catch (ArithmeticException e) {
            // The machine's own division by zero would say so in its text.
            return "/ by zero".equals(e.getMessage()) ? DIVIDED_BY_ZERO : THROWN;
        }
    }

    private static void face() {
        due("BAD", FacetCounts.BAD, BAD);
        due("FULL", FacetCounts.FULL, FULL);
        due("NO", FacetCounts.NO, NO);
        due("public", Modifier.isPublic(FacetCounts.class.getModifiers()) ? 1 : 0, 1);
        due("final", Modifier.isFinal(FacetCounts.class.getModifiers()) ? 1 : 0, 1);
        TreeSet<String> open = new TreeSet<>();
        for (Method m : FacetCounts.class.getDeclaredMethods()) {
            if (!Modifier.isPrivate(m.getModifiers())) {
                open.add(m.toString().replace("FacetCounts.", ""));
            }
        }
        for (Field f : FacetCounts.class.getDeclaredFields()) {
            if (!Modifier.isPrivate(f.getModifiers())) {
                open.add(f.toString().replace("FacetCounts.", ""));
            }
        }
        for (Constructor<?> c : FacetCounts.class.getDeclaredConstructors()) {
            open.add(c.toString());
        }
        TreeSet<String> asked = new TreeSet<>(Arrays.asList(
            "public FacetCounts()",
            "public static final int BAD",
            "public static final int FULL",
            "public static final int NO",
            "public int row(int,int,int)",
            "public int drop(int,int,int)",
            "public int above(int,int)",
            "public int choose(int,int,boolean)",
            "public int kept()",
            "public int isKept(int)",
            "public int facet(int,int)",
            "public int top(int,int)",
            "public int range(int,int,int)",
            "public int sum(int,int,int)",
            "public int share(int,int,boolean) throws java.lang.ArithmeticException",
            "public int changed()",
            "public int rows()"));
        if (!open.equals(asked)) {
            wrong++;
            System.out.println("the face is " + open + ", due is " + asked);
        }
    }

    // Promise 1
    private static void newObject() {
        FacetCounts x = new FacetCounts();
        due("1 rows", x.rows(), 0);
        due("1 kept", x.kept(), 40);
        due("1 changed", x.changed(), 0);
        for (int head = 0; head < 8; head++) {
            due("1 top " + head, x.top(head, 0), BAD);
            due("1 range " + head, x.range(head, 0, 31), 0);
        }
        for (int kind = 0; kind < 32; kind++) {
            due("1 above none " + kind, x.above(kind, -1), 0);
        }
        for (int thing = 0; thing < 40; thing++) {
            due("1 isKept " + thing, x.isKept(thing), 1);
        }
    }

    // Promise 2
    private static void row() {
        FacetCounts x = new FacetCounts();
        due("2 first", x.row(0, 0, 0), 1);
        due("2 again", x.row(0, 0, 0), 0);
        due("2 last of all", x.row(39, 7, 31), 1);
        due("2 other thing", x.row(1, 0, 0), 1);
        due("2 other head", x.row(0, 1, 0), 1);
        due("2 other value", x.row(0, 0, 31), 1);
        for (int thing : NO_THING) {
            due("2 thing " + thing, x.row(thing, 0, 0), BAD);
        }
        for (int head : NO_HEAD) {
            due("2 head " + head, x.row(0, head, 0), BAD);
        }
        for (int value : NO_VALUE) {
            due("2 value " + value, x.row(0, 0, value), BAD);
        }
        due("2 rows", x.rows(), 5);
        due("2 a kind by others is no row", x.above(0, 5), 1);
        due("2 so it can be one", x.row(0, 0, 5), 1);
    }

    // Promise 2: FULL
    private static void rowFull() {
        FacetCounts x = new FacetCounts();
        for (int i = 0; i < 300; i++) {
            due("2 row " + i, x.row(i % 40, i / 40, 5), 1);
        }
        due("2 three hundred", x.rows(), 300);
        due("2 full", x.row(0, 7, 30), FULL);
        due("2 full, but it is there", x.row(0, 1, 5), 0);
        due("2 full, but bad", x.row(0, 8, 0), BAD);
        due("2 nothing came", x.facet(7, 30), 0);
        due("2 drop", x.drop(0, 1, 5), 1);
        due("2 room for one", x.row(0, 7, 30), 1);
        due("2 full again", x.row(0, 1, 5), FULL);
        due("2 still three hundred", x.rows(), 300);
    }

    // Promise 3
    private static void drop() {
        FacetCounts x = new FacetCounts();
        due("3 none", x.drop(4, 2, 9), 0);
        x.row(4, 2, 9);
        x.row(4, 2, 10);
        due("3 other thing", x.drop(5, 2, 9), 0);
        due("3 other head", x.drop(4, 3, 9), 0);
        due("3 gone", x.drop(4, 2, 9), 1);
        due("3 gone already", x.drop(4, 2, 9), 0);
        due("3 facet", x.facet(2, 9), 0);
        due("3 the other stays", x.facet(2, 10), 1);
        for (int thing : NO_THING) {
            due("3 thing " + thing, x.drop(thing, 2, 10), BAD);
        }
        for (int head : NO_HEAD) {
            due("3 head " + head, x.drop(4, head, 10), BAD);
        }
        for (int value : NO_VALUE) {
            due("3 value " + value, x.drop(4, 2, value), BAD);
        }
        x.above(3, 6);
        x.row(8, 0, 3);
        due("3 a kind by others is no row", x.drop(8, 0, 6), 0);
        due("3 and stays", x.facet(0, 6), 1);
        x.row(8, 0, 6);
        due("3 the row of it goes", x.drop(8, 0, 6), 1);
        due("3 but the thing has it by the other", x.facet(0, 6), 1);
        due("3 the lower one goes", x.drop(8, 0, 3), 1);
        due("3 and the upper with it", x.facet(0, 6), 0);
    }

    // Promise 4
    private static void above() {
        FacetCounts x = new FacetCounts();
        x.row(0, 0, 0);
        due("4 first", x.above(0, 31), 1);
        due("4 that was so", x.above(0, 31), 0);
        due("4 has the upper", x.facet(0, 31), 1);
        due("4 upper of upper", x.above(31, 5), 1);
        due("4 has that too", x.facet(0, 5), 1);
        due("4 another upper", x.above(0, 7), 1);
        due("4 not the old one", x.facet(0, 31), 0);
        due("4 nor that above it", x.facet(0, 5), 0);
        due("4 the new one", x.facet(0, 7), 1);
        due("4 none", x.above(0, -1), 1);
        due("4 none already", x.above(0, -1), 0);
        due("4 has it no more", x.facet(0, 7), 0);
        due("4 has its own", x.facet(0, 0), 1);
        for (int kind : NO_VALUE) {
            due("4 kind " + kind, x.above(kind, 1), BAD);
            due("4 kind " + kind + " none", x.above(kind, -1), BAD);
        }
        for (int upper : new int[] {-2, 32, Integer.MIN_VALUE, Integer.MAX_VALUE}) {
            due("4 upper " + upper, x.above(1, upper), BAD);
        }
        x.row(1, 1, 2);
        x.above(2, 3);
        due("4 only under head 0", x.facet(1, 3), 0);
        due("4 no rows by it", x.rows(), 2);
    }

    // Promise 4: NO, and that nothing changes then
    private static void aboveNo() {
        FacetCounts x = new FacetCounts();
        due("4 itself", x.above(9, 9), NO);
        due("4 itself changes nothing", x.above(9, -1), 0);
        for (int kind = 0; kind < 31; kind++) {
            due("4 chain " + kind, x.above(kind, kind + 1), 1);
        }
        x.row(0, 0, 0);
        due("4 all above", x.range(0, 31, 31), 1);
        for (int kind = 1; kind < 32; kind++) {
            due("4 ring " + kind, x.above(kind, 0), NO);
        }
        due("4 ring changed nothing", x.above(30, 31), 0);
        due("4 nor at the end", x.above(31, -1), 0);
        due("4 a shorter way up is fine", x.above(0, 20), 1);
        due("4 not by the old way", x.facet(0, 19), 0);
        due("4 by the new one", x.facet(0, 20), 1);
        due("4 no ring any more", x.above(19, 0), 1);
        due("4 bad before no", x.above(32, 32), BAD);
    }

    // Promise 5
    private static void choose() {
        FacetCounts x = new FacetCounts();
        x.row(0, 1, 4);
        x.row(1, 1, 5);
        x.row(1, 2, 6);
        x.row(2, 2, 6);
        due("5 one", x.choose(1, 4, true), 1);
        due("5 either of a head", x.choose(1, 5, true), 2);
        due("5 twice is once", x.choose(1, 5, true), 2);
        due("5 each of the heads", x.choose(2, 6, true), 1);
        due("5 off", x.choose(1, 5, false), 0);
        due("5 off twice", x.choose(1, 5, false), 0);
        due("5 none of a head", x.choose(1, 4, false), 2);
        due("5 none at all", x.choose(2, 6, false), 40);
        due("5 edges", x.choose(7, 31, true), 0);
        due("5 edges off", x.choose(7, 31, false), 40);
        for (int head : NO_HEAD) {
            due("5 head " + head, x.choose(head, 0, true), BAD);
        }
        for (int value : NO_VALUE) {
            due("5 value " + value, x.choose(0, value, true), BAD);
        }
        due("5 bad changes nothing", x.kept(), 40);
    }

    // Promise 6
    private static void kept() {
        FacetCounts x = new FacetCounts();
        x.row(3, 0, 1);
        due("6 nothing chosen", x.kept(), 40);
        x.choose(0, 2, true);
        due("6 none has it", x.kept(), 0);
        x.above(1, 2);
        due("6 has it by the kind above", x.kept(), 1);
        x.row(4, 0, 2);
        due("6 a row more", x.kept(), 2);
        x.above(1, -1);
        due("6 not by the kind", x.kept(), 1);
        x.drop(4, 0, 2);
        due("6 a row less", x.kept(), 0);
    }

    // Promise 7
    private static void isKept() {
        FacetCounts x = new FacetCounts();
        x.row(0, 3, 3);
        x.row(39, 3, 4);
        x.choose(3, 3, true);
        due("7 kept", x.isKept(0), 1);
        due("7 has another", x.isKept(39), 0);
        due("7 has none", x.isKept(20), 0);
        x.choose(3, 4, true);
        due("7 either", x.isKept(39), 1);
        x.choose(4, 0, true);
        due("7 not under the other head", x.isKept(39), 0);
        for (int thing : NO_THING) {
            due("7 thing " + thing, x.isKept(thing), BAD);
        }
    }

    // Promise 8
    private static void facet() {
        FacetCounts x = new FacetCounts();
        x.row(0, 1, 4);
        x.row(1, 1, 5);
        x.row(1, 2, 6);
        x.row(2, 2, 6);
        x.choose(1, 4, true);
        due("8 its own head does not bind", x.facet(1, 5), 1);
        due("8 the other does", x.facet(2, 6), 0);
        x.choose(1, 5, true);
        due("8 either", x.facet(2, 6), 1);
        x.choose(2, 6, true);
        due("8 bound by the other", x.facet(1, 4), 0);
        due("8 left by the other", x.facet(1, 5), 1);
        due("8 no rows", x.facet(7, 31), 0);
        for (int head : NO_HEAD) {
            due("8 head " + head, x.facet(head, 0), BAD);
        }
        for (int value : NO_VALUE) {
            due("8 value " + value, x.facet(0, value), BAD);
        }
    }

    private static void facetByKinds() {
        FacetCounts x = new FacetCounts();
        x.above(1, 3);
        x.above(2, 3);
        x.row(0, 0, 1);
        x.row(0, 0, 2);
        x.row(0, 0, 3);
        x.row(1, 0, 2);
        due("8 a thing counts once", x.facet(0, 3), 2);
        x.row(0, 5, 8);
        x.choose(0, 3, true);
        due("8 chosen by the kind above", x.facet(5, 8), 1);
        x.drop(0, 0, 3);
        due("8 has it still", x.facet(5, 8), 1);
        x.above(1, -1);
        due("8 by the second", x.facet(5, 8), 1);
        x.above(2, -1);
        due("8 no more", x.facet(5, 8), 0);
    }

    // Promise 9
    private static void top() {
        FacetCounts x = new FacetCounts();
        x.row(0, 6, 31);
        x.row(1, 6, 31);
        x.row(0, 6, 4);
        x.row(0, 6, 2);
        x.row(2, 6, 0);
        x.row(3, 6, 0);
        due("9 greatest, lesser value", x.top(6, 0), 0);
        due("9 greatest, greater value", x.top(6, 1), 31);
        due("9 then lesser counts", x.top(6, 2), 2);
        due("9 last", x.top(6, 3), 4);
        due("9 behind the last", x.top(6, 4), BAD);
        x.row(1, 1, 1);
        x.choose(1, 1, true);
        due("9 counts, not rows", x.top(6, 0), 31);
        due("9 no values of count 0", x.top(6, 1), BAD);
        for (int rank : new int[] {-1, 32, Integer.MIN_VALUE, Integer.MAX_VALUE}) {
            due("9 rank " + rank, x.top(6, rank), BAD);
        }
        for (int head : NO_HEAD) {
            due("9 head " + head, x.top(head, 0), BAD);
        }
        for (int value = 0; value < 32; value++) {
            x.row(1, 2, value);
        }
        due("9 all of them", x.top(2, 31), 31);
        x.row(5, 1, 0);
        x.row(6, 1, 0);
        due("9 its own head does not bind", x.top(1, 0), 0);
        due("9 nor the chosen one", x.top(1, 1), 1);
    }

    // Promise 10
    private static void range() {
        FacetCounts x = new FacetCounts();
        x.row(0, 3, 10);
        x.row(0, 3, 11);
        x.row(1, 3, 12);
        x.row(2, 3, 0);
        x.row(3, 3, 31);
        due("10 a thing counts once", x.range(3, 10, 12), 2);
        due("10 both ends", x.range(3, 11, 11), 1);
        due("10 between", x.range(3, 13, 30), 0);
        due("10 all", x.range(3, 0, 31), 4);
        due("10 wider", x.range(3, Integer.MIN_VALUE, Integer.MAX_VALUE), 4);
        due("10 from below", x.range(3, -5, 10), 2);
        due("10 to above", x.range(3, 12, 99), 2);
        due("10 turned round", x.range(3, 12, 10), 0);
        due("10 turned round far", x.range(3, Integer.MAX_VALUE, Integer.MIN_VALUE), 0);
        due("10 below all", x.range(3, -9, -1), 0);
        due("10 above all", x.range(3, 32, 40), 0);
        for (int head : NO_HEAD) {
            due("10 head " + head, x.range(head, 0, 31), BAD);
        }
        x.choose(3, 31, true);
        due("10 its own head does not bind", x.range(3, 0, 12), 3);
        x.row(1, 0, 2);
        x.above(2, 8);
        due("10 by kinds above", x.range(0, 7, 9), 0);
        x.choose(3, 12, true);
        due("10 by kinds above, kept", x.range(0, 7, 9), 1);
        x.choose(0, 8, true);
        due("10 bound by another head", x.range(3, 0, 31), 1);
    }

    // Promise 11
    private static void sum() {
        FacetCounts x = new FacetCounts();
        x.row(0, 1, 4);
        x.row(0, 2, 10);
        x.row(0, 2, 31);
        x.row(1, 1, 4);
        x.row(1, 2, 10);
        x.row(2, 2, 20);
        due("11 of those that have it", x.sum(1, 4, 2), 51);
        due("11 of itself", x.sum(2, 10, 2), 51);
        due("11 all its values", x.sum(2, 31, 2), 41);
        due("11 none has it", x.sum(1, 5, 2), 0);
        due("11 none under other", x.sum(1, 4, 7), 0);
        x.above(3, 5);
        x.above(6, 5);
        x.row(0, 0, 3);
        x.row(0, 0, 6);
        due("11 kinds above, each once", x.sum(1, 4, 0), 14);
        due("11 has it by a kind above", x.sum(0, 5, 2), 41);
        x.choose(1, 9, true);
        due("11 kept under its own head, too", x.sum(1, 4, 2), 0);
        x.choose(1, 4, true);
        due("11 kept again", x.sum(1, 4, 2), 51);
        x.choose(2, 31, true);
        due("11 kept under other, too", x.sum(1, 4, 2), 41);
        for (int head : NO_HEAD) {
            due("11 head " + head, x.sum(head, 4, 2), BAD);
            due("11 other " + head, x.sum(1, 4, head), BAD);
        }
        for (int value : NO_VALUE) {
            due("11 value " + value, x.sum(1, value, 2), BAD);
        }
    }

    // Promise 12
    private static void share() {
        FacetCounts x = new FacetCounts();
        due("12 nothing of 40, upper", share(x, 0, 0, false), 0);
        due("12 nothing of 40, lower", share(x, 0, 0, true), 1);
        int[] uppers = {1, 1, 3, 1, 1, 3, 7, 1};
        int[] lowers = {40, 20, 40, 10, 8, 20, 40, 5};
        for (int thing = 0; thing < 8; thing++) {
            x.row(thing, 1, 3);
            due("12 upper " + thing, share(x, 1, 3, false), uppers[thing]);
            due("12 lower " + thing, share(x, 1, 3, true), lowers[thing]);
        }
        x.choose(1, 3, true);
        due("12 its own head does not bind, upper", share(x, 1, 3, false), 1);
        due("12 its own head does not bind, lower", share(x, 1, 3, true), 5);
        x.row(0, 2, 6);
        x.row(1, 2, 6);
        due("12 another head, upper", share(x, 2, 6, false), 1);
        due("12 another head, lower", share(x, 2, 6, true), 4);
        x.choose(2, 6, true);
        due("12 all of them, upper", share(x, 1, 3, false), 1);
        due("12 all of them, lower", share(x, 1, 3, true), 1);
        for (int head : NO_HEAD) {
            due("12 head " + head, share(x, head, 0, false), THROWN);
            due("12 head " + head + " lower", share(x, head, 0, true), THROWN);
        }
        for (int value : NO_VALUE) {
            due("12 value " + value, share(x, 0, value, false), THROWN);
            due("12 value " + value + " lower", share(x, 0, value, true), THROWN);
        }
    }

    private static void shareOfNone() {
        FacetCounts x = new FacetCounts();
        x.choose(4, 1, true);
        due("12 none kept but for another", share(x, 0, 0, false), THROWN);
        due("12 none kept but for another, lower", share(x, 0, 0, true), THROWN);
        due("12 all kept but for its own", share(x, 4, 1, true), 1);
        x.row(0, 4, 1);
        due("12 one is kept, upper", share(x, 0, 0, false), 0);
        due("12 one is kept, lower", share(x, 0, 0, true), 1);
    }

    // Promise 13
    private static void changed() {
        FacetCounts x = new FacetCounts();
        due("13 all were 0", x.changed(), 0);
        x.row(0, 0, 0);
        x.row(1, 0, 0);
        x.row(0, 7, 31);
        due("13 counts, not rows", x.changed(), 2);
        due("13 asked just now", x.changed(), 0);
        x.row(2, 7, 31);
        x.drop(2, 7, 31);
        due("13 there and back", x.changed(), 0);
        x.drop(0, 7, 31);
        x.row(2, 7, 31);
        due("13 same count of others", x.changed(), 0);
        x.choose(7, 31, true);
        due("13 by choosing", x.changed(), 1);
        x.above(0, 1);
        due("13 by a kind above", x.changed(), 0);
        x.choose(7, 31, false);
        due("13 both kinds", x.changed(), 2);
        x.above(0, -1);
        due("13 down to 0", x.changed(), 1);
        x.row(3, 6, 1);
        x.row(4, 6, 2);
        due("13 two more", x.changed(), 2);
        x.choose(6, 1, true);
        due("13 its own head does not bind", x.changed(), 2);

        FacetCounts y = new FacetCounts();
        y.row(0, 2, 2);
        y.drop(0, 2, 2);
        due("13 first asked late", y.changed(), 0);
        y.row(0, 2, 2);
        due("13 a facet asked is no asking", y.facet(2, 2) + y.top(2, 0) + y.kept(), 43);
        due("13 so it is told", y.changed(), 1);
    }

    // Promise 14
    private static void rows() {
        FacetCounts x = new FacetCounts();
        x.row(0, 0, 0);
        x.row(0, 0, 0);
        x.row(0, 0, 1);
        x.row(-1, 0, 1);
        due("14 two", x.rows(), 2);
        x.above(0, 5);
        x.choose(3, 3, true);
        due("14 rows of things not kept", x.rows(), 2);
        x.drop(0, 0, 5);
        due("14 no row went", x.rows(), 2);
        x.drop(0, 0, 0);
        x.drop(0, 0, 0);
        due("14 one went", x.rows(), 1);
    }

    private static void objectsApart() {
        FacetCounts x = new FacetCounts();
        FacetCounts y = new FacetCounts();
        x.row(0, 0, 1);
        x.above(1, 2);
        x.choose(0, 2, true);
        due("1 rows apart", y.rows(), 0);
        due("1 chosen apart", y.kept(), 40);
        due("1 kinds apart", y.above(1, -1), 0);
        due("1 counts apart", y.changed(), 0);
    }
}
