/**
 * Each sentence of the document that names a boundary case (too small, too large, empty, full, a
 * wrap-around, a refused call) has a test of its own here. No object gets more than 512 calls.
 */
public final class BoundaryTest {
    private static final int BAD = -1;
    private static final int FULL = -2;
    private static final int NO = -3;
    private static final int NONE = -1;
    private static final int THROWN = -99;

    private static final int LEAST = Integer.MIN_VALUE;
    private static final int MOST = Integer.MAX_VALUE;
    // Beside the next ones: those that a shift (by 5 bits), a byte, a short or thing * 8 would turn
    // into good ones.
    private static final int[] NO_THING = {
        -1, 40, -8, 64, 256, 65536, 1 << 29, (1 << 29) + 1, -(1 << 29), LEAST, LEAST + 1, MOST};
    private static final int[] NO_HEAD = {
        -1, 8, 9, -8, 15, 32, 256, 65536, 1 << 27, 1 << 29, LEAST, LEAST + 1, MOST};
    private static final int[] NO_VALUE = {
        -1, 32, 33, -31, -32, 63, 64, 256, 65536, 1 << 27, LEAST, LEAST + 1, MOST};

    private static String sentence = "";
    private static int wrong = 0;

    private static void due(String what, Object got, Object want) {
        if (!got.equals(want)) {
            wrong++;
            System.out.println(sentence + ": " + what + " answered " + got + ", due is " + want);
        }
    }

    private static void holds(String words, Runnable test) {
        sentence = words;
        try {
            test.run();
        } catch (RuntimeException e) {
            wrong++;
            System.out.println(sentence + ": threw " + e);
        }
    }

    public static void main(String[] args) {
        terms();
        promises1To4();
        promises5To8();
        promises9To11();
        promises12To14();
        System.out.println(wrong == 0 ? "all boundaries hold" : wrong + " answers are not as due");
        if (wrong != 0) {
            System.exit(1);
        }
    }

    private static void terms() {
        holds("What it is: at most 512 calls", BoundaryTest::lastCall);
        holds("What it is: 512 calls, all refused", BoundaryTest::allRefused);
        holds("The public face: BAD, FULL, NO", BoundaryTest::constants);
        holds("Terms: things are 0 .. 39", BoundaryTest::things);
        holds("Terms: heads are 0 .. 7", BoundaryTest::heads);
        holds("Terms: values are 0 .. 31", BoundaryTest::values);
        holds("Terms: at most 300 rows", BoundaryTest::mostRows);
        holds("Terms: 300 rows of a few things", BoundaryTest::mostRowsOfFewThings);
        holds("Terms: kinds are under head 0", BoundaryTest::kindsUnderHead0Alone);
        holds("Terms: at most one kind above", BoundaryTest::oneAbove);
        holds("Terms: and so on", BoundaryTest::longestChain);
        holds("Terms: none chosen at first", BoundaryTest::noneChosenAtFirst);
        holds("Terms: each other head that has chosen values", BoundaryTest::headsWithoutChosen);
        holds("Terms: each other head, all of them", BoundaryTest::allHeadsChosen);
        holds("Terms: at least one of these", BoundaryTest::atLeastOne);
        holds("Terms: kept under that, too", BoundaryTest::keptUnderThatToo);
        holds("Terms: ranks, count is not 0", BoundaryTest::ranksWithoutZero);
        holds("Terms: ranks, greater counts first", BoundaryTest::ranksByCounts);
        holds("Terms: ranks, of equal ones the lesser value", BoundaryTest::ranksOfEqual);
    }

    private static void promises1To4() {
        holds("1: No rows", BoundaryTest::newWithoutRows);
        holds("1: nothing chosen", BoundaryTest::newWithoutChosen);
        holds("1: no kind above another one", BoundaryTest::newWithoutAbove);
        holds("2: A row: 1", BoundaryTest::rowCorners);
        holds("2: 0 when it is there", BoundaryTest::rowThere);
        holds("2: 0 when it is there, not by a kind above", BoundaryTest::rowByKindAbove);
        holds("2: BAD: no such thing", () -> rowBad(NO_THING, 0));
        holds("2: BAD: no such head", () -> rowBad(NO_HEAD, 1));
        holds("2: BAD: no such value", () -> rowBad(NO_VALUE, 2));
        holds("2: BAD: none of them", BoundaryTest::rowBadTogether);
        holds("2: FULL", BoundaryTest::rowFull);
        holds("2: FULL, then a row goes", BoundaryTest::rowFullNoMore);
        holds("2: FULL, and it is there", BoundaryTest::rowFullThere);
        holds("2: FULL, and BAD", BoundaryTest::rowFullBad);
        holds("3: A row goes: 1", BoundaryTest::dropCorners);
        holds("3: 0 when it is not there", BoundaryTest::dropNotThere);
        holds("3: 0 when it is not there, but by a kind above", BoundaryTest::dropByKindAbove);
        holds("3: BAD: no such thing", () -> dropBad(NO_THING, 0));
        holds("3: BAD: no such head", () -> dropBad(NO_HEAD, 1));
        holds("3: BAD: no such value", () -> dropBad(NO_VALUE, 2));
        holds("4: stands above from now on: 1", BoundaryTest::aboveCorners);
        holds("4: NONE, -1: none does", BoundaryTest::aboveNone);
        holds("4: 0 when that was so", BoundaryTest::aboveWasSo);
        holds("4: BAD: no such kind", BoundaryTest::aboveBadKind);
        holds("4: BAD: no such upper", BoundaryTest::aboveBadUpper);
        holds("4: NO: stands above it already", BoundaryTest::aboveRingOfTwo);
        holds("4: NO: by others", BoundaryTest::aboveRings);
        holds("4: NO: or is it", BoundaryTest::aboveItself);
        holds("4: NO: nothing changes", BoundaryTest::aboveNoChangesNothing);
        holds("4: NO: no more, when the ring is open", BoundaryTest::aboveRingOpened);
        holds("4: no ring: a way up that leaves out others", BoundaryTest::aboveShorterWay);
    }

    private static void promises5To8() {
        holds("5: chosen", BoundaryTest::chooseCorners);
        holds("5: chosen already", BoundaryTest::chooseTwice);
        holds("5: not chosen already", BoundaryTest::chooseOffWhatIsNot);
        holds("5: the last one of a head is not chosen", BoundaryTest::chooseLastOff);
        holds("5: all values of a head", BoundaryTest::chooseAllOfHead);
        holds("5: what no thing has", BoundaryTest::chooseWhatNoneHas);
        holds("5: BAD: no such head", BoundaryTest::chooseBadHead);
        holds("5: BAD: no such value", BoundaryTest::chooseBadValue);
        holds("6: those without any rows, too", BoundaryTest::keptWithoutRows);
        holds("6: when nothing is chosen", BoundaryTest::keptWhenChosen);
        holds("6: none and all", BoundaryTest::keptNoneAndAll);
        holds("7: 1 or 0", BoundaryTest::isKeptCorners);
        holds("7: BAD", BoundaryTest::isKeptBad);
        holds("8: the count, none and all", BoundaryTest::facetNoneAndAll);
        holds("8: BAD: no such head", BoundaryTest::facetBadHead);
        holds("8: BAD: no such value", BoundaryTest::facetBadValue);
    }

    private static void promises9To11() {
        holds("9: 0 the first one", BoundaryTest::topFirst);
        holds("9: BAD: no ranks", BoundaryTest::topOfNone);
        holds("9: BAD: behind the last", BoundaryTest::topBehindLast);
        holds("9: BAD: behind 32 ranks", BoundaryTest::topOfAll);
        holds("9: BAD: no such rank", BoundaryTest::topBadRank);
        holds("9: BAD: no such head", BoundaryTest::topBadHead);
        holds("10: both with it", BoundaryTest::rangeEnds);
        holds("10: a thing with several counts once", BoundaryTest::rangeOnce);
        holds("10: 0: none has one between", BoundaryTest::rangeGap);
        holds("10: 0: from above to", BoundaryTest::rangeTurnedRound);
        holds("10: 0: beside all values", BoundaryTest::rangeBeside);
        holds("10: ends beyond the values", BoundaryTest::rangeWide);
        holds("10: kept but for the head", BoundaryTest::rangeKeptBut);
        holds("10: BAD: no such head", BoundaryTest::rangeBadHead);
        holds("11: no such things", BoundaryTest::sumOfNone);
        holds("11: of those that are kept", BoundaryTest::sumOfKept);
        holds("11: by kinds above, too", BoundaryTest::sumByKinds);
        holds("11: the greatest sum", BoundaryTest::sumGreatest);
        holds("11: value 0", BoundaryTest::sumOfZero);
        holds("11: BAD: no such head", BoundaryTest::sumBadHead);
        holds("11: BAD: no such value", BoundaryTest::sumBadValue);
        holds("11: BAD: no such other head", BoundaryTest::sumBadOther);
    }

    private static void promises12To14() {
        holds("12: 0 as 0 / 1", BoundaryTest::shareZero);
        holds("12: all, 1 / 1", BoundaryTest::shareAll);
        holds("12: least terms", BoundaryTest::shareLeastTerms);
        holds("12: of a single thing", BoundaryTest::shareOfOne);
        holds("12: ArithmeticException: no such things", BoundaryTest::shareOfNone);
        holds("12: things that only its own head leaves out", BoundaryTest::shareButForItsHead);
        holds("12: ArithmeticException: no such head", BoundaryTest::shareBadHead);
        holds("12: ArithmeticException: no such value", BoundaryTest::shareBadValue);
        holds("12: a refused call changes nothing", BoundaryTest::shareRefused);
        holds("13: at first: all were 0", BoundaryTest::changedAtFirst);
        holds("13: when this was asked last", BoundaryTest::changedSinceLast);
        holds("13: there and back", BoundaryTest::changedThereAndBack);
        holds("13: asked in between", BoundaryTest::changedBothWays);
        holds("13: refused calls", BoundaryTest::changedByRefused);
        holds("13: of all heads and values", BoundaryTest::changedAll);
        holds("13: each corner", BoundaryTest::changedCorners);
        holds("14: none and 300", BoundaryTest::rowsNoneAndMost);
        holds("14: after refused calls", BoundaryTest::rowsAfterRefused);
    }

    private static int share(FacetCounts x, int head, int value, boolean lower) {
        try {
            return x.share(head, value, lower);
        } catch (ArithmeticException e) {
            due("who throws", "/ by zero".equals(e.getMessage()) ? "the machine" : "the class", "the class");
            due("exception", e.getClass(), ArithmeticException.class);
            return THROWN;
        }
    }

    /** Some rows, kinds above and chosen values at the corners, in 15 calls; things 0, 1, 39 are kept. */
    private static FacetCounts some() {
        FacetCounts x = new FacetCounts();
        x.row(0, 0, 0);
        x.row(0, 1, 1);
        x.row(0, 7, 31);
        x.row(1, 0, 5);
        x.row(1, 7, 0);
        x.row(39, 0, 31);
        x.row(39, 7, 31);
        x.row(39, 7, 30);
        x.row(20, 7, 0);
        x.above(0, 31);
        x.above(5, 31);
        x.above(31, 9);
        x.choose(0, 9, true);
        x.choose(7, 31, true);
        x.choose(7, 0, true);
        return x;
    }

    /** What 339 calls tell of an object; the kinds above are asked at the end, by taking them away. */
    private static String state(FacetCounts x) {
        StringBuilder told = new StringBuilder();
        told.append(x.rows()).append(" rows, ").append(x.kept()).append(" kept:");
        for (int thing = 0; thing < 40; thing++) {
            told.append(x.isKept(thing) == 1 ? " " + thing : "");
        }
        for (int head = 0; head < 8; head++) {
            told.append("; ").append(head).append(':');
            for (int value = 0; value < 32; value++) {
                int count = x.facet(head, value);
                told.append(count != 0 ? " " + value + "x" + count : "");
            }
            told.append(" sum ").append(x.sum(7, 31, head));
        }
        told.append("; changed ").append(x.changed()).append(", not at the top:");
        for (int kind = 0; kind < 32; kind++) {
            told.append(x.above(kind, NONE) == 1 ? " " + kind : "");
        }
        return told.toString();
    }

    private static void dueAsSome(FacetCounts x) {
        due("state", state(x), state(some()));
    }

    /** 300 rows, by which things 0 .. 36 have under each head a value of its number, and 37 under four. */
    private static FacetCounts full() {
        FacetCounts x = new FacetCounts();
        for (int i = 0; i < 300; i++) {
            due("row " + i, x.row(i / 8, i % 8, i % 8), 1);
        }
        return x;
    }

    // What it is

    /** 511 calls, at the end of which two things have value 3 under head 1, which is chosen. */
    private static FacetCounts worn() {
        FacetCounts x = new FacetCounts();
        x.row(0, 1, 3);
        x.row(0, 0, 4);
        x.above(4, 6);
        x.row(39, 1, 3);
        x.choose(1, 3, true);
        x.changed();
        x.row(2, 5, 9);
        for (int i = 0; i < 126; i++) {
            x.row(39, 0, 4);
            x.choose(2, 2, true);
            x.drop(39, 0, 4);
            x.choose(2, 2, false);
        }
        return x;
    }

    private static void lastCall() {
        due("row", worn().row(5, 5, 5), 1);
        due("row there", worn().row(0, 1, 3), 0);
        due("drop", worn().drop(0, 1, 3), 1);
        due("above", worn().above(6, 7), 1);
        due("above NO", worn().above(6, 4), NO);
        due("choose", worn().choose(1, 3, false), 40);
        due("kept", worn().kept(), 2);
        due("isKept", worn().isKept(39), 1);
        due("facet", worn().facet(0, 6), 1);
        due("top", worn().top(0, 1), 6);
        due("range", worn().range(1, 0, 31), 2);
        due("sum", worn().sum(1, 3, 0), 10);
        due("share upper", share(worn(), 0, 6, false), 1);
        due("share lower", share(worn(), 0, 6, true), 2);
        due("share refused", share(worn(), 8, 0, true), THROWN);
        due("changed", worn().changed(), 0);
        due("rows", worn().rows(), 4);
    }

    private static void allRefused() {
        FacetCounts x = new FacetCounts();
        for (int i = 0; i < 102; i++) {
            due("share", share(x, -1, i, false), THROWN);
            due("row", x.row(40 + i, 0, 0), BAD);
            due("drop", x.drop(0, 8 + i, 0), BAD);
            due("above", x.above(i % 32, i % 32), NO);
            due("choose", x.choose(0, 32 + i, true), BAD);
        }
        due("kept", x.kept(), 40);
        due("rows", x.rows(), 0);
    }

    // The public face

    private static void constants() {
        due("BAD", FacetCounts.BAD, -1);
        due("FULL", FacetCounts.FULL, -2);
        due("NO", FacetCounts.NO, -3);
    }

    // Terms

    private static void things() {
        FacetCounts x = new FacetCounts();
        for (int thing = 0; thing < 40; thing++) {
            due("row " + thing, x.row(thing, 2, 3), 1);
            due("count " + thing, x.facet(2, 3), thing + 1);
        }
        due("kept", x.kept(), 40);
        due("below", x.row(-1, 2, 3), BAD);
        due("above", x.row(40, 2, 3), BAD);
        due("isKept below", x.isKept(-1), BAD);
        due("isKept above", x.isKept(40), BAD);
        due("drop below", x.drop(-1, 2, 3), BAD);
        due("drop above", x.drop(40, 2, 3), BAD);
        for (int thing = 0; thing < 40; thing++) {
            due("isKept " + thing, x.isKept(thing), 1);
            due("drop " + thing, x.drop(thing, 2, 3), 1);
        }
    }

    private static void heads() {
        FacetCounts x = new FacetCounts();
        for (int head = 0; head < 8; head++) {
            due("row " + head, x.row(4, head, head + 1), 1);
        }
        for (int head = 0; head < 8; head++) {
            due("facet " + head, x.facet(head, head + 1), 1);
            due("top " + head, x.top(head, 0), head + 1);
            due("top 1 " + head, x.top(head, 1), BAD);
            due("range " + head, x.range(head, 0, 31), 1);
            due("sum " + head, x.sum(head, head + 1, head), head + 1);
            due("share " + head, share(x, head, head + 1, true), 40);
            due("choose " + head, x.choose(head, head + 1, true), 1);
            due("choose off " + head, x.choose(head, head + 1, false), 40);
            due("drop " + head, x.drop(4, head, head + 1), 1);
            due("row again " + head, x.row(4, head, head + 1), 1);
        }
        due("row below", x.row(4, -1, 1), BAD);
        due("row above", x.row(4, 8, 1), BAD);
        due("facet below", x.facet(-1, 1), BAD);
        due("facet above", x.facet(8, 1), BAD);
    }

    private static void values() {
        FacetCounts x = new FacetCounts();
        for (int value = 0; value < 32; value++) {
            due("row " + value, x.row(4, 3, value), 1);
            due("facet " + value, x.facet(3, value), 1);
            due("top " + value, x.top(3, value), value);
            due("range " + value, x.range(3, value, value), 1);
            due("choose " + value, x.choose(3, value, true), 1);
            due("choose off " + value, x.choose(3, value, false), 40);
            due("share " + value, share(x, 3, value, true), 40);
            due("sum " + value, x.sum(3, value, 3), value * (value + 1) / 2);
        }
        for (int value = 0; value < 32; value++) {
            due("drop " + value, x.drop(4, 3, value), 1);
            due("facet after drop " + value, x.facet(3, value), 0);
        }
        due("row below", x.row(4, 3, -1), BAD);
        due("row above", x.row(4, 3, 32), BAD);
    }

    private static void mostRows() {
        FacetCounts x = full();
        due("rows", x.rows(), 300);
        due("one more", x.row(39, 7, 31), FULL);
        due("rows after that", x.rows(), 300);
        due("the last one is there", x.drop(37, 3, 3), 1);
        due("the first one is there", x.drop(0, 0, 0), 1);
    }

    private static void mostRowsOfFewThings() {
        FacetCounts x = new FacetCounts();
        for (int i = 0; i < 300; i++) {
            due("row " + i, x.row(i / 256, i / 32 % 8, i % 32), 1);
        }
        due("one more", x.row(1, 1, 12), FULL);
        due("rows", x.rows(), 300);
        due("last value of the first thing", x.facet(7, 31), 1);
        due("last row", x.facet(1, 11), 2);
        due("not there", x.facet(1, 12), 1);
    }

    private static void kindsUnderHead0Alone() {
        FacetCounts x = new FacetCounts();
        x.above(1, 2);
        for (int head = 0; head < 8; head++) {
            x.row(head, head, 1);
        }
        due("under head 0", x.facet(0, 2), 1);
        for (int head = 1; head < 8; head++) {
            due("under head " + head, x.facet(head, 2), 0);
            due("ranks " + head, x.top(head, 1), BAD);
            due("range " + head, x.range(head, 2, 2), 0);
            due("sum " + head, x.sum(head, 1, head), 1);
            due("chosen " + head, x.choose(head, 2, true), 0);
            x.choose(head, 2, false);
        }
        due("counts", x.changed(), 9);
    }

    private static void oneAbove() {
        FacetCounts x = new FacetCounts();
        x.row(0, 0, 0);
        for (int upper = 1; upper < 32; upper++) {
            due("above " + upper, x.above(0, upper), 1);
            due("the new one " + upper, x.facet(0, upper), 1);
            due("kinds " + upper, x.sum(0, 0, 0), upper);
            due("no third " + upper, x.top(0, 2), BAD);
        }
        due("none", x.above(0, NONE), 1);
        due("its own alone", x.top(0, 1), BAD);
        due("its own", x.facet(0, 0), 1);
        for (int kind = 1; kind < 32; kind++) {
            due("several below one " + kind, x.above(kind, 0), 1);
        }
        due("a kind above brings none below", x.top(0, 1), BAD);
    }

    private static void longestChain() {
        FacetCounts x = new FacetCounts();
        x.row(39, 0, 31);
        x.row(38, 0, 0);
        for (int kind = 31; kind > 0; kind--) {
            due("above " + kind, x.above(kind, kind - 1), 1);
        }
        for (int kind = 1; kind < 32; kind++) {
            due("has " + kind, x.facet(0, kind), 1);
        }
        due("has the last", x.facet(0, 0), 2);
        due("chosen at its end", x.choose(0, 0, true), 2);
        due("kept", x.isKept(39), 1);
        due("opened in the middle", x.above(16, NONE), 1);
        due("not beyond", x.facet(0, 15), 0);
        due("up to there", x.facet(0, 16), 1);
        due("not kept", x.isKept(39), 0);
    }

    private static void noneChosenAtFirst() {
        for (int head = 0; head < 8; head++) {
            FacetCounts x = new FacetCounts();
            due("kept", x.kept(), 40);
            x.row(0, head, 0);
            for (int value = 0; value < 32; value++) {
                due("taken off " + head + " " + value, x.choose(head, value, false), 40);
            }
        }
    }

    private static void headsWithoutChosen() {
        FacetCounts x = new FacetCounts();
        x.row(7, 3, 12);
        due("one head binds", x.choose(3, 12, true), 1);
        x.row(7, 5, 2);
        due("without rows elsewhere", x.facet(5, 2), 1);
        due("lower part", share(x, 5, 2, true), 1);
        due("of its own head", share(x, 3, 12, true), 40);
        due("off", x.choose(3, 12, false), 40);
        due("lower part, off", share(x, 5, 2, true), 40);
    }

    private static void allHeadsChosen() {
        FacetCounts x = new FacetCounts();
        for (int head = 0; head < 8; head++) {
            x.row(0, head, 31);
            x.row(1, head, head == 7 ? 30 : 31);
            x.row(2, head, head == 0 ? 30 : 31);
            x.choose(head, 31, true);
        }
        due("kept", x.kept(), 1);
        due("kept but for 7", x.facet(7, 30), 1);
        due("kept but for 0", x.facet(0, 30), 1);
        due("kept but for 7, both", x.range(7, 30, 31), 2);
        due("kept but for 0, both", x.range(0, 30, 31), 2);
        due("kept but for 3", x.range(3, 0, 31), 1);
        due("counts", x.changed(), 10);
    }

    private static void atLeastOne() {
        FacetCounts x = new FacetCounts();
        x.row(0, 2, 0);
        x.row(1, 2, 31);
        x.row(2, 2, 0);
        x.row(2, 2, 31);
        x.row(3, 2, 15);
        for (int thing = 0; thing < 4; thing++) {
            x.row(thing, 4, 9);
        }
        x.choose(2, 0, true);
        due("one chosen", x.facet(4, 9), 2);
        x.choose(2, 31, true);
        due("two chosen", x.facet(4, 9), 3);
        due("has the first", x.isKept(0), 1);
        due("has the last", x.isKept(1), 1);
        due("has both", x.isKept(2), 1);
        due("has another", x.isKept(3), 0);
        due("has none", x.isKept(4), 0);
    }

    private static void keptUnderThatToo() {
        FacetCounts x = new FacetCounts();
        x.row(0, 0, 1);
        x.choose(0, 2, true);
        due("kept but for it", x.facet(0, 1), 1);
        due("not under it", x.isKept(0), 0);
        x.row(0, 0, 2);
        due("under it, too", x.isKept(0), 1);
        x.choose(7, 2, true);
        due("not kept but for it", x.facet(0, 1), 0);
        due("nor kept", x.isKept(0), 0);
    }

    private static void ranksWithoutZero() {
        FacetCounts x = new FacetCounts();
        x.row(0, 3, 0);
        x.row(1, 3, 31);
        due("two", x.top(3, 1), 31);
        due("no third", x.top(3, 2), BAD);
        x.row(1, 4, 4);
        x.choose(4, 4, true);
        due("count of 0 is no rank", x.top(3, 0), 31);
        due("no second", x.top(3, 1), BAD);
        x.drop(1, 3, 31);
        due("none", x.top(3, 0), BAD);
    }

    private static void ranksByCounts() {
        FacetCounts x = new FacetCounts();
        for (int value = 0; value < 8; value++) {
            for (int thing = 0; thing <= value * 5 + 4; thing++) {
                x.row(thing, 1, value * 4 + 3);
            }
        }
        for (int rank = 0; rank < 8; rank++) {
            due("rank " + rank, x.top(1, rank), 31 - rank * 4);
        }
        due("behind", x.top(1, 8), BAD);
        due("greatest count", x.facet(1, 31), 40);
    }

    private static void ranksOfEqual() {
        FacetCounts x = new FacetCounts();
        x.row(0, 1, 31);
        x.row(0, 1, 0);
        x.row(0, 1, 30);
        due("least", x.top(1, 0), 0);
        due("next", x.top(1, 1), 30);
        due("most", x.top(1, 2), 31);
        x.row(1, 1, 31);
        due("greater count", x.top(1, 0), 31);
        due("then the least", x.top(1, 1), 0);
        x.row(1, 1, 30);
        due("equal again", x.top(1, 0), 30);
        due("and the greater one", x.top(1, 1), 31);
    }

    // Promise 1

    private static void newWithoutRows() {
        FacetCounts x = new FacetCounts();
        due("rows", x.rows(), 0);
        for (int head = 0; head < 8; head++) {
            due("range " + head, x.range(head, 0, 31), 0);
            due("top " + head, x.top(head, 0), BAD);
            for (int value = 0; value < 32; value++) {
                due("facet " + head + " " + value, x.facet(head, value), 0);
            }
        }
        due("no row to drop", x.drop(0, 0, 0), 0);
        due("none at the end", x.drop(39, 7, 31), 0);
    }

    private static void newWithoutChosen() {
        FacetCounts x = new FacetCounts();
        due("kept", x.kept(), 40);
        for (int thing = 0; thing < 40; thing++) {
            due("isKept " + thing, x.isKept(thing), 1);
        }
        for (int head = 0; head < 8; head++) {
            x.row(head, head, 0);
            due("kept but for " + head, share(x, head, 0, true), 40);
        }
    }

    private static void newWithoutAbove() {
        FacetCounts x = new FacetCounts();
        for (int kind = 0; kind < 32; kind++) {
            due("row " + kind, x.row(kind, 0, kind), 1);
        }
        for (int kind = 0; kind < 32; kind++) {
            due("one thing each " + kind, x.facet(0, kind), 1);
            due("its own alone " + kind, x.sum(0, kind, 0), kind);
            due("none above " + kind, x.above(kind, NONE), 0);
        }
        FacetCounts y = new FacetCounts();
        due("nor kind 0", y.above(31, 0), 1);
    }

    // Promise 2

    private static void rowCorners() {
        FacetCounts x = new FacetCounts();
        int rows = 0;
        for (int thing = 0; thing < 40; thing += 39) {
            for (int head = 0; head < 8; head += 7) {
                for (int value = 0; value < 32; value += 31) {
                    String at = thing + " " + head + " " + value;
                    due("row " + at, x.row(thing, head, value), 1);
                    due("rows " + at, x.rows(), ++rows);
                    due("count " + at, x.facet(head, value), thing == 0 ? 1 : 2);
                }
            }
        }
        due("counts", x.changed(), 4);
    }

    private static void rowThere() {
        FacetCounts x = new FacetCounts();
        x.row(0, 0, 0);
        x.row(39, 7, 31);
        x.changed();
        due("first", x.row(0, 0, 0), 0);
        due("last", x.row(39, 7, 31), 0);
        due("rows", x.rows(), 2);
        due("counts", x.changed(), 0);
        x.drop(39, 7, 31);
        due("gone and again", x.row(39, 7, 31), 1);
        due("of another thing", x.row(38, 7, 31), 1);
        due("of another head", x.row(39, 6, 31), 1);
        due("of another value", x.row(39, 7, 30), 1);
    }

    private static void rowByKindAbove() {
        FacetCounts x = new FacetCounts();
        x.above(0, 31);
        x.row(5, 0, 0);
        due("had by a kind above, no row", x.row(5, 0, 31), 1);
        due("rows", x.rows(), 2);
        due("counts once", x.facet(0, 31), 1);
        due("now there", x.row(5, 0, 31), 0);
    }

    private static void rowBad(int[] numbers, int place) {
        FacetCounts x = some();
        for (int number : numbers) {
            int[] at = {0, 0, 0};
            at[place] = number;
            due("row " + number, x.row(at[0], at[1], at[2]), BAD);
            at = new int[] {39, 7, 29};
            at[place] = number;
            due("row at the end " + number, x.row(at[0], at[1], at[2]), BAD);
        }
        dueAsSome(x);
    }

    private static void rowBadTogether() {
        FacetCounts x = some();
        due("thing * 8 + head is 0", x.row(-1, 8, 1), BAD);
        due("thing * 8 + head is 319", x.row(40, -1, 1), BAD);
        due("all too small", x.row(LEAST, LEAST, LEAST), BAD);
        due("all too large", x.row(MOST, MOST, MOST), BAD);
        due("all just too large", x.row(40, 8, 32), BAD);
        dueAsSome(x);
    }

    private static void rowFull() {
        FacetCounts x = full();
        x.changed();
        due("another thing", x.row(39, 0, 0), FULL);
        due("another head", x.row(37, 4, 4), FULL);
        due("another value", x.row(0, 0, 31), FULL);
        due("again", x.row(0, 0, 31), FULL);
        due("rows", x.rows(), 300);
        due("counts", x.changed(), 0);
        due("none came", x.drop(39, 0, 0), 0);
    }

    private static void rowFullNoMore() {
        FacetCounts x = full();
        due("drop what is not there", x.drop(39, 0, 0), 0);
        due("still full", x.row(39, 0, 0), FULL);
        due("drop", x.drop(0, 0, 0), 1);
        due("rows", x.rows(), 299);
        due("room for one", x.row(39, 0, 0), 1);
        due("no room for two", x.row(0, 0, 0), FULL);
        due("count", x.facet(0, 0), 38);
    }

    private static void rowFullThere() {
        FacetCounts x = full();
        due("first", x.row(0, 0, 0), 0);
        due("last", x.row(37, 3, 3), 0);
        due("rows", x.rows(), 300);
    }

    private static void rowFullBad() {
        FacetCounts x = full();
        due("thing", x.row(40, 0, 0), BAD);
        due("head", x.row(0, 8, 0), BAD);
        due("value", x.row(0, 0, 32), BAD);
        due("below", x.row(-1, -1, -1), BAD);
    }

    // Promise 3

    private static void dropCorners() {
        FacetCounts x = new FacetCounts();
        for (int thing = 0; thing < 40; thing += 39) {
            for (int head = 0; head < 8; head += 7) {
                x.row(thing, head, 0);
                x.row(thing, head, 31);
            }
        }
        int rows = 8;
        for (int thing = 0; thing < 40; thing += 39) {
            for (int head = 0; head < 8; head += 7) {
                for (int value = 0; value < 32; value += 31) {
                    String at = thing + " " + head + " " + value;
                    due("drop " + at, x.drop(thing, head, value), 1);
                    due("rows " + at, x.rows(), --rows);
                    due("count " + at, x.facet(head, value), thing == 0 ? 1 : 0);
                }
            }
        }
        due("nothing left", x.changed(), 0);
    }

    private static void dropNotThere() {
        FacetCounts x = new FacetCounts();
        due("empty", x.drop(0, 0, 0), 0);
        due("empty, at the end", x.drop(39, 7, 31), 0);
        due("not below none", x.rows(), 0);
        x.row(39, 7, 31);
        due("of another thing", x.drop(38, 7, 31), 0);
        due("of another head", x.drop(39, 6, 31), 0);
        due("of another value", x.drop(39, 7, 30), 0);
        due("rows", x.rows(), 1);
        due("goes", x.drop(39, 7, 31), 1);
        due("is gone", x.drop(39, 7, 31), 0);
        due("none again", x.rows(), 0);
    }

    private static void dropByKindAbove() {
        FacetCounts x = new FacetCounts();
        x.above(0, 31);
        x.row(5, 0, 0);
        due("had by a kind above", x.drop(5, 0, 31), 0);
        due("has it still", x.facet(0, 31), 1);
        x.row(5, 0, 31);
        due("a row of its own goes", x.drop(5, 0, 31), 1);
        due("has it by the lower one", x.facet(0, 31), 1);
        due("the lower one goes", x.drop(5, 0, 0), 1);
        due("has it no more", x.facet(0, 31), 0);
    }

    private static void dropBad(int[] numbers, int place) {
        FacetCounts x = some();
        for (int number : numbers) {
            int[] at = {0, 0, 0};
            at[place] = number;
            due("drop " + number, x.drop(at[0], at[1], at[2]), BAD);
            at = new int[] {39, 7, 31};
            at[place] = number;
            due("drop at the end " + number, x.drop(at[0], at[1], at[2]), BAD);
        }
        due("thing * 8 + head is 0", x.drop(-1, 8, 0), BAD);
        due("thing * 8 + head is 319", x.drop(40, -1, 31), BAD);
        dueAsSome(x);
    }

    // Promise 4

    private static void aboveCorners() {
        FacetCounts x = new FacetCounts();
        x.row(0, 0, 0);
        x.row(1, 0, 31);
        due("last above first", x.above(0, 31), 1);
        due("has the last", x.facet(0, 31), 2);
        due("none", x.above(0, NONE), 1);
        due("first above last", x.above(31, 0), 1);
        due("has the first", x.facet(0, 0), 2);
        due("the last alone", x.facet(0, 31), 1);
        due("no row came", x.rows(), 2);
    }

    private static void aboveNone() {
        FacetCounts x = new FacetCounts();
        x.row(0, 0, 4);
        x.above(4, 5);
        x.above(5, 6);
        due("none above the middle", x.above(5, -1), 1);
        due("the middle stays", x.facet(0, 5), 1);
        due("the last goes", x.facet(0, 6), 0);
        due("none above the first", x.above(4, -1), 1);
        due("its own stays", x.facet(0, 4), 1);
        due("the middle goes", x.facet(0, 5), 0);
        due("none is no kind 31", x.facet(0, 31), 0);
    }

    private static void aboveWasSo() {
        FacetCounts x = new FacetCounts();
        due("none from the first", x.above(0, NONE), 0);
        due("none from the first, last kind", x.above(31, NONE), 0);
        due("new", x.above(0, 31), 1);
        due("was so", x.above(0, 31), 0);
        due("another", x.above(0, 30), 1);
        due("that is so no more", x.above(0, 31), 1);
        due("none", x.above(0, NONE), 1);
        due("none was so", x.above(0, NONE), 0);
        due("so no more", x.above(0, 31), 1);
    }

    private static void aboveBadKind() {
        FacetCounts x = some();
        for (int kind : NO_VALUE) {
            due("kind " + kind, x.above(kind, 3), BAD);
            due("kind " + kind + " none", x.above(kind, NONE), BAD);
            due("kind " + kind + " itself", x.above(kind, kind), BAD);
        }
        dueAsSome(x);
    }

    private static void aboveBadUpper() {
        FacetCounts x = some();
        for (int upper : NO_VALUE) {
            if (upper != NONE) {
                due("upper " + upper, x.above(0, upper), BAD);
                due("upper of a kind without any " + upper, x.above(30, upper), BAD);
            }
        }
        due("just below none", x.above(0, -2), BAD);
        dueAsSome(x);
    }

    private static void aboveRingOfTwo() {
        FacetCounts x = new FacetCounts();
        x.above(0, 31);
        due("ring at the ends", x.above(31, 0), NO);
        due("what was so is no ring", x.above(0, 31), 0);
        due("none above the last", x.above(31, NONE), 0);
    }

    private static void aboveRings() {
        FacetCounts x = new FacetCounts();
        for (int kind = 0; kind < 31; kind++) {
            due("chain " + kind, x.above(kind, kind + 1), 1);
            due("ring of " + (kind + 2), x.above(kind + 1, 0), NO);
        }
        for (int kind = 0; kind < 31; kind++) {
            due("ring at the end " + kind, x.above(31, kind), NO);
        }
        due("inner ring", x.above(20, 10), NO);
        due("none above the last", x.above(31, NONE), 0);
        due("the inner one as before", x.above(20, 21), 0);
    }

    private static void aboveItself() {
        FacetCounts x = new FacetCounts();
        for (int kind = 0; kind < 32; kind++) {
            due("itself " + kind, x.above(kind, kind), NO);
            due("none above it " + kind, x.above(kind, NONE), 0);
        }
        x.above(3, 4);
        due("with one above it", x.above(3, 3), NO);
        due("with one below it", x.above(4, 4), NO);
        due("as before", x.above(3, 4), 0);
    }

    private static void aboveNoChangesNothing() {
        FacetCounts x = some();
        due("ring", x.above(9, 31), NO);
        due("ring by others", x.above(9, 0), NO);
        due("ring by others, too", x.above(9, 5), NO);
        due("ring of a kind with one above", x.above(31, 0), NO);
        due("itself", x.above(31, 31), NO);
        due("itself, at the top", x.above(9, 9), NO);
        dueAsSome(x);
    }

    private static void aboveRingOpened() {
        FacetCounts x = new FacetCounts();
        x.above(1, 2);
        x.above(2, 3);
        due("ring", x.above(3, 1), NO);
        x.above(2, NONE);
        due("no ring", x.above(3, 1), 1);
        due("now the other way", x.above(2, 3), NO);
        due("beside the chain", x.above(1, 4), 1);
        due("which is free again", x.above(2, 3), 1);
    }

    private static void aboveShorterWay() {
        FacetCounts x = new FacetCounts();
        x.row(0, 0, 5);
        x.above(5, 2);
        x.above(2, 1);
        due("above it by others, now by itself", x.above(5, 1), 1);
        due("no more by the other", x.facet(0, 2), 0);
        due("has it", x.facet(0, 1), 1);
        due("the other one keeps it", x.above(2, 1), 0);
    }

    // Promise 5

    private static void chooseCorners() {
        FacetCounts x = new FacetCounts();
        for (int head = 0; head < 8; head += 7) {
            for (int value = 0; value < 32; value += 31) {
                x.row(0, head, value);
                x.row(39, head, value);
            }
        }
        for (int head = 0; head < 8; head += 7) {
            for (int value = 0; value < 32; value += 31) {
                String at = head + " " + value;
                due("on " + at, x.choose(head, value, true), 2);
                due("kept " + at, x.kept(), 2);
                due("off " + at, x.choose(head, value, false), 40);
                due("kept without " + at, x.kept(), 40);
            }
        }
    }

    private static void chooseTwice() {
        FacetCounts x = some();
        due("first", x.choose(7, 0, true), 3);
        due("last", x.choose(7, 31, true), 3);
        due("kind", x.choose(0, 9, true), 3);
        dueAsSome(x);
        FacetCounts y = new FacetCounts();
        y.choose(4, 1, true);
        y.choose(4, 1, true);
        due("off once is off", y.choose(4, 1, false), 40);
    }

    private static void chooseOffWhatIsNot() {
        FacetCounts x = some();
        for (int head = 1; head < 7; head++) {
            due("head " + head, x.choose(head, 31, false), 3);
        }
        due("beside a chosen one", x.choose(7, 30, false), 3);
        due("below a chosen kind", x.choose(0, 31, false), 3);
        dueAsSome(x);
    }

    private static void chooseLastOff() {
        FacetCounts x = new FacetCounts();
        x.row(3, 6, 0);
        x.row(4, 6, 31);
        x.row(4, 5, 5);
        due("two", x.choose(6, 0, true) + x.choose(6, 31, true), 3);
        due("one off", x.choose(6, 0, false), 1);
        due("the last off", x.choose(6, 31, false), 40);
        due("kept, without any rows", x.isKept(39), 1);
        due("no other head is bound", share(x, 5, 5, true), 40);
    }

    private static void chooseAllOfHead() {
        FacetCounts x = new FacetCounts();
        x.row(0, 2, 0);
        x.row(1, 2, 31);
        x.row(2, 2, 16);
        x.row(3, 3, 16);
        for (int value = 0; value < 32; value++) {
            int due = value < 16 ? 1 : value < 31 ? 2 : 3;
            due("on " + value, x.choose(2, value, true), due);
        }
        due("without a value under it", x.isKept(3), 0);
        for (int value = 0; value < 32; value++) {
            int due = value < 16 ? 2 : value < 31 ? 1 : 40;
            due("off " + value, x.choose(2, value, false), due);
        }
    }

    private static void chooseWhatNoneHas() {
        FacetCounts x = new FacetCounts();
        due("none has it", x.choose(7, 31, true), 0);
        due("nor this", x.choose(7, 0, true), 0);
        x.row(0, 7, 0);
        due("kept by a row that came later", x.kept(), 1);
        due("nor under another head", x.choose(0, 0, true), 0);
        x.row(0, 0, 1);
        x.above(1, 0);
        due("kept by a kind that came later", x.kept(), 1);
    }

    private static void chooseBadHead() {
        FacetCounts x = some();
        for (int head : NO_HEAD) {
            due("on " + head, x.choose(head, 1, true), BAD);
            due("off " + head, x.choose(head, 31, false), BAD);
        }
        dueAsSome(x);
    }

    private static void chooseBadValue() {
        FacetCounts x = some();
        for (int value : NO_VALUE) {
            due("on " + value, x.choose(3, value, true), BAD);
            due("off " + value, x.choose(7, value, false), BAD);
        }
        dueAsSome(x);
    }

    // Promise 6

    private static void keptWithoutRows() {
        FacetCounts x = new FacetCounts();
        due("no rows at all", x.kept(), 40);
        x.row(0, 0, 0);
        due("39 without rows", x.kept(), 40);
        x.drop(0, 0, 0);
        due("none again", x.kept(), 40);
    }

    private static void keptWhenChosen() {
        FacetCounts x = new FacetCounts();
        x.row(39, 1, 1);
        x.choose(1, 1, true);
        due("without rows not kept", x.kept(), 1);
        x.choose(1, 1, false);
        due("kept again", x.kept(), 40);
    }

    private static void keptNoneAndAll() {
        FacetCounts x = new FacetCounts();
        x.choose(7, 31, true);
        due("none", x.kept(), 0);
        for (int thing = 0; thing < 40; thing++) {
            x.row(thing, 7, 31);
            due("things " + thing, x.kept(), thing + 1);
        }
        x.choose(0, 0, true);
        due("none again", x.kept(), 0);
    }

    // Promise 7

    private static void isKeptCorners() {
        FacetCounts x = new FacetCounts();
        due("first, new", x.isKept(0), 1);
        due("last, new", x.isKept(39), 1);
        x.row(0, 4, 4);
        x.choose(4, 4, true);
        due("first has it", x.isKept(0), 1);
        due("last has it not", x.isKept(39), 0);
        x.drop(0, 4, 4);
        x.row(39, 4, 4);
        due("first has it no more", x.isKept(0), 0);
        due("last has it", x.isKept(39), 1);
    }

    private static void isKeptBad() {
        FacetCounts x = some();
        for (int thing : NO_THING) {
            due("thing " + thing, x.isKept(thing), BAD);
            due("new, thing " + thing, new FacetCounts().isKept(thing), BAD);
        }
        dueAsSome(x);
    }

    // Promise 8

    private static void facetNoneAndAll() {
        FacetCounts x = new FacetCounts();
        due("none", x.facet(7, 31), 0);
        for (int thing = 0; thing < 40; thing++) {
            x.row(thing, 7, 31);
        }
        due("all", x.facet(7, 31), 40);
        due("the value beside", x.facet(7, 30), 0);
        due("the head beside", x.facet(6, 31), 0);
        x.choose(7, 30, true);
        due("its own head leaves them", x.facet(7, 31), 40);
        x.choose(6, 31, true);
        due("another one does not", x.facet(7, 31), 0);
    }

    private static void facetBadHead() {
        FacetCounts x = some();
        for (int head : NO_HEAD) {
            due("head " + head, x.facet(head, 0), BAD);
            due("head " + head + " last", x.facet(head, 31), BAD);
        }
        dueAsSome(x);
    }

    private static void facetBadValue() {
        FacetCounts x = some();
        for (int value : NO_VALUE) {
            due("value " + value, x.facet(0, value), BAD);
            due("value " + value + " last", x.facet(7, value), BAD);
        }
        dueAsSome(x);
    }

    // Promise 9

    private static void topFirst() {
        FacetCounts x = new FacetCounts();
        x.row(0, 0, 31);
        due("one", x.top(0, 0), 31);
        x.above(31, 0);
        due("of two equal ones", x.top(0, 0), 0);
        x.row(39, 7, 0);
        due("value 0", x.top(7, 0), 0);
    }

    private static void topOfNone() {
        FacetCounts x = new FacetCounts();
        for (int head = 0; head < 8; head++) {
            due("head " + head, x.top(head, 0), BAD);
            due("head " + head + " last", x.top(head, 31), BAD);
        }
        x.row(0, 0, 0);
        x.drop(0, 0, 0);
        due("after a drop", x.top(0, 0), BAD);
        x.row(0, 0, 0);
        x.choose(1, 1, true);
        due("none kept but for it", x.top(0, 0), BAD);
    }

    private static void topBehindLast() {
        FacetCounts x = new FacetCounts();
        for (int ranks = 1; ranks <= 32; ranks++) {
            x.row(ranks % 40, 5, 32 - ranks);
            due("last of " + ranks, x.top(5, ranks - 1), 31);
            due("behind " + ranks, x.top(5, ranks), BAD);
        }
    }

    private static void topOfAll() {
        FacetCounts x = new FacetCounts();
        for (int value = 0; value < 32; value++) {
            x.row(0, 0, value);
        }
        for (int rank = 0; rank < 32; rank++) {
            due("rank " + rank, x.top(0, rank), rank);
        }
        due("behind all", x.top(0, 32), BAD);
        due("far behind", x.top(0, 33), BAD);
    }

    private static void topBadRank() {
        FacetCounts x = some();
        for (int rank : NO_VALUE) {
            due("rank " + rank, x.top(0, rank), BAD);
            due("rank under the last head " + rank, x.top(7, rank), BAD);
            due("rank under an empty head " + rank, x.top(3, rank), BAD);
        }
        dueAsSome(x);
    }

    private static void topBadHead() {
        FacetCounts x = some();
        for (int head : NO_HEAD) {
            due("head " + head, x.top(head, 0), BAD);
            due("head and rank " + head, x.top(head, -1), BAD);
            due("head " + head + " behind", x.top(head, 32), BAD);
        }
        dueAsSome(x);
    }

    // Promise 10

    private static void rangeEnds() {
        FacetCounts x = new FacetCounts();
        x.row(0, 3, 0);
        x.row(1, 3, 10);
        x.row(2, 3, 20);
        x.row(3, 3, 31);
        due("from is with it", x.range(3, 10, 15), 1);
        due("behind from", x.range(3, 11, 19), 0);
        due("to is with it", x.range(3, 15, 20), 1);
        due("before to", x.range(3, 15, 19), 0);
        due("both", x.range(3, 10, 20), 2);
        due("one value", x.range(3, 10, 10), 1);
        due("one value that none has", x.range(3, 11, 11), 0);
        due("first value", x.range(3, 0, 0), 1);
        due("last value", x.range(3, 31, 31), 1);
        due("all", x.range(3, 0, 31), 4);
        due("all but the last", x.range(3, 0, 30), 3);
        due("all but the first", x.range(3, 1, 31), 3);
    }

    private static void rangeOnce() {
        FacetCounts x = new FacetCounts();
        for (int value = 0; value < 32; value++) {
            x.row(0, 3, value);
        }
        x.row(1, 3, 31);
        due("all its values", x.range(3, 0, 31), 2);
        due("all but the last", x.range(3, 0, 30), 1);
        x.row(2, 0, 1);
        x.above(1, 2);
        x.above(2, 3);
        due("by kinds above", x.range(0, 1, 3), 1);
        due("by one of these", x.range(0, 2, 2), 1);
    }

    private static void rangeGap() {
        FacetCounts x = new FacetCounts();
        due("no rows", x.range(0, 0, 31), 0);
        x.row(0, 7, 0);
        x.row(0, 7, 31);
        due("between its values", x.range(7, 1, 30), 0);
        due("under another head", x.range(6, 0, 31), 0);
    }

    private static void rangeTurnedRound() {
        FacetCounts x = new FacetCounts();
        for (int value = 0; value < 32; value++) {
            x.row(0, 7, value);
        }
        due("by one", x.range(7, 11, 10), 0);
        due("wholly", x.range(7, 31, 0), 0);
        due("at the first", x.range(7, 1, 0), 0);
        due("at the last", x.range(7, 31, 30), 0);
        due("from behind the last", x.range(7, 32, 31), 0);
        due("to before the first", x.range(7, 0, -1), 0);
        due("by far", x.range(7, MOST, LEAST), 0);
        due("to far below", x.range(7, 0, LEAST), 0);
        due("from far above", x.range(7, MOST, 31), 0);
    }

    private static void rangeBeside() {
        FacetCounts x = new FacetCounts();
        for (int value = 0; value < 32; value++) {
            x.row(0, 0, value);
        }
        due("just below", x.range(0, -1, -1), 0);
        due("just above", x.range(0, 32, 32), 0);
        due("below", x.range(0, LEAST, -1), 0);
        due("above", x.range(0, 32, MOST), 0);
        due("a turn above", x.range(0, 64, 95), 0);
        due("a turn below", x.range(0, -32, -1), 0);
        due("least", x.range(0, LEAST, LEAST), 0);
        due("most", x.range(0, MOST, MOST), 0);
    }

    private static void rangeWide() {
        FacetCounts x = new FacetCounts();
        x.row(0, 2, 0);
        x.row(1, 2, 31);
        due("from below", x.range(2, -1, 0), 1);
        due("to above", x.range(2, 31, 32), 1);
        due("both", x.range(2, -1, 32), 2);
        due("by far", x.range(2, LEAST, MOST), 2);
        due("from far below", x.range(2, LEAST, 30), 1);
        due("to far above", x.range(2, 1, MOST), 1);
    }

    private static void rangeKeptBut() {
        FacetCounts x = new FacetCounts();
        x.row(0, 2, 5);
        x.row(1, 2, 6);
        x.choose(2, 31, true);
        due("its own head leaves them", x.range(2, 5, 6), 2);
        x.row(1, 3, 0);
        x.choose(3, 0, true);
        due("another one leaves one", x.range(2, 5, 6), 1);
        x.choose(4, 0, true);
        due("or none", x.range(2, 0, 31), 0);
    }

    private static void rangeBadHead() {
        FacetCounts x = some();
        for (int head : NO_HEAD) {
            due("head " + head, x.range(head, 0, 31), BAD);
            due("head " + head + " none between", x.range(head, 31, 0), BAD);
            due("head " + head + " beside", x.range(head, LEAST, -1), BAD);
        }
        dueAsSome(x);
    }

    // Promise 11

    private static void sumOfNone() {
        FacetCounts x = new FacetCounts();
        due("no rows", x.sum(0, 0, 0), 0);
        due("no rows, at the end", x.sum(7, 31, 7), 0);
        x.row(0, 1, 31);
        due("none under other", x.sum(1, 31, 2), 0);
        due("none has it", x.sum(2, 0, 1), 0);
        due("one", x.sum(1, 31, 1), 31);
    }

    private static void sumOfKept() {
        FacetCounts x = new FacetCounts();
        x.row(0, 1, 3);
        x.row(0, 2, 20);
        x.row(39, 1, 3);
        x.row(39, 2, 31);
        due("both", x.sum(1, 3, 2), 51);
        x.choose(2, 20, true);
        due("kept under other", x.sum(1, 3, 2), 20);
        x.choose(2, 20, false);
        x.choose(1, 4, true);
        due("kept under the head, too", x.sum(1, 3, 2), 0);
        x.row(39, 1, 4);
        due("by another value of it", x.sum(1, 3, 2), 31);
        x.choose(5, 5, true);
        due("kept under a third one", x.sum(1, 3, 2), 0);
    }

    private static void sumByKinds() {
        FacetCounts x = new FacetCounts();
        x.row(0, 0, 10);
        x.row(0, 0, 11);
        x.row(0, 1, 1);
        x.above(10, 20);
        x.above(11, 20);
        x.above(20, 31);
        due("each once", x.sum(1, 1, 0), 72);
        x.row(0, 0, 20);
        due("a row of one of them", x.sum(1, 1, 0), 72);
        due("has it by kinds above", x.sum(0, 31, 1), 1);
        x.row(0, 5, 10);
        due("under 0 alone", x.sum(1, 1, 5), 10);
        x.above(20, NONE);
        due("no more", x.sum(1, 1, 0), 41);
        due("has it no more", x.sum(0, 31, 1), 0);
    }

    private static void sumGreatest() {
        FacetCounts x = new FacetCounts();
        for (int kind = 0; kind < 31; kind++) {
            x.above(kind, kind + 1);
        }
        for (int thing = 0; thing < 40; thing++) {
            x.row(thing, 0, 0);
        }
        due("40 things with all kinds", x.sum(0, 31, 0), 40 * 496);
        due("none of them by head 1", x.sum(1, 0, 0), 0);
    }

    private static void sumOfZero() {
        FacetCounts x = new FacetCounts();
        x.row(0, 7, 0);
        due("value 0 adds nothing", x.sum(7, 0, 7), 0);
        x.row(0, 7, 31);
        due("beside 31", x.sum(7, 0, 7), 31);
    }

    private static void sumBadHead() {
        FacetCounts x = some();
        for (int head : NO_HEAD) {
            due("head " + head, x.sum(head, 0, 0), BAD);
            due("head " + head + " last", x.sum(head, 31, 7), BAD);
        }
        dueAsSome(x);
    }

    private static void sumBadValue() {
        FacetCounts x = some();
        for (int value : NO_VALUE) {
            due("value " + value, x.sum(0, value, 0), BAD);
            due("value " + value + " last", x.sum(7, value, 7), BAD);
        }
        dueAsSome(x);
    }

    private static void sumBadOther() {
        FacetCounts x = some();
        for (int other : NO_HEAD) {
            due("other " + other, x.sum(0, 9, other), BAD);
            due("other " + other + ", none has it", x.sum(3, 3, other), BAD);
        }
        dueAsSome(x);
    }

    // Promise 12

    private static void shareZero() {
        FacetCounts x = new FacetCounts();
        due("upper", share(x, 0, 0, false), 0);
        due("lower", share(x, 0, 0, true), 1);
        due("upper at the end", share(x, 7, 31, false), 0);
        due("lower at the end", share(x, 7, 31, true), 1);
        x.row(0, 1, 1);
        x.row(1, 1, 1);
        x.row(2, 1, 1);
        x.choose(1, 1, true);
        due("upper of three", share(x, 2, 2, false), 0);
        due("lower of three", share(x, 2, 2, true), 1);
    }

    private static void shareAll() {
        FacetCounts x = new FacetCounts();
        for (int thing = 0; thing < 39; thing++) {
            x.row(thing, 7, 31);
        }
        due("upper of 39", share(x, 7, 31, false), 39);
        due("lower of 39", share(x, 7, 31, true), 40);
        x.row(39, 7, 31);
        due("upper of all", share(x, 7, 31, false), 1);
        due("lower of all", share(x, 7, 31, true), 1);
    }

    /** Each share from 1 / 1 to 40 / 40, beside Euclid's way. */
    private static void shareLeastTerms() {
        for (int whole = 1; whole <= 40; whole++) {
            shareOfWhole(whole);
        }
    }

    private static void shareOfWhole(int whole) {
        FacetCounts x = new FacetCounts();
        for (int thing = 0; thing < whole; thing++) {
            x.row(thing, 1, 0);
        }
        x.choose(1, 0, true);
        for (int part = 1; part <= whole; part++) {
            x.row(part - 1, 2, 0);
            int divisor = greatestDivisor(part, whole);
            due(part + " / " + whole + " upper", share(x, 2, 0, false), part / divisor);
            due(part + " / " + whole + " lower", share(x, 2, 0, true), whole / divisor);
        }
    }

    private static int greatestDivisor(int a, int b) {
        return b == 0 ? a : greatestDivisor(b, a % b);
    }

    private static void shareOfOne() {
        FacetCounts x = new FacetCounts();
        x.row(39, 1, 1);
        x.choose(1, 1, true);
        due("0 / 1 upper", share(x, 2, 2, false), 0);
        due("0 / 1 lower", share(x, 2, 2, true), 1);
        x.row(39, 2, 2);
        due("1 / 1 upper", share(x, 2, 2, false), 1);
        due("1 / 1 lower", share(x, 2, 2, true), 1);
    }

    private static void shareOfNone() {
        FacetCounts x = new FacetCounts();
        x.choose(7, 31, true);
        for (int head = 0; head < 7; head++) {
            due("upper " + head, share(x, head, 0, false), THROWN);
            due("lower " + head, share(x, head, 31, true), THROWN);
        }
        x.choose(6, 0, true);
        due("its own head and another, upper", share(x, 7, 31, false), THROWN);
        due("its own head and another, lower", share(x, 6, 0, true), THROWN);
        x.choose(6, 0, false);
        x.choose(7, 31, false);
        due("there are things again", share(x, 0, 0, true), 1);
    }

    private static void shareButForItsHead() {
        FacetCounts x = new FacetCounts();
        x.choose(7, 31, true);
        due("none is kept", x.kept(), 0);
        due("upper", share(x, 7, 31, false), 0);
        due("lower", share(x, 7, 31, true), 1);
        x.row(0, 7, 30);
        due("upper of a value that is not chosen", share(x, 7, 30, false), 1);
        due("lower of it", share(x, 7, 30, true), 40);
    }

    private static void shareBadHead() {
        FacetCounts x = some();
        for (int head : NO_HEAD) {
            due("upper " + head, share(x, head, 0, false), THROWN);
            due("lower " + head, share(x, head, 31, true), THROWN);
        }
        dueAsSome(x);
    }

    private static void shareBadValue() {
        FacetCounts x = some();
        for (int value : NO_VALUE) {
            due("upper " + value, share(x, 0, value, false), THROWN);
            due("lower " + value, share(x, 7, value, true), THROWN);
        }
        dueAsSome(x);
    }

    private static void shareRefused() {
        FacetCounts x = some();
        FacetCounts y = some();
        x.choose(3, 3, true);
        y.choose(3, 3, true);
        due("no such things", share(x, 0, 9, false), THROWN);
        due("no such things, no such value", share(x, 0, 32, false), THROWN);
        due("no such things, no such head", share(x, 8, 0, true), THROWN);
        due("state", state(x), state(y));
    }

    // Promise 13

    private static void changedAtFirst() {
        due("new", new FacetCounts().changed(), 0);
        FacetCounts x = new FacetCounts();
        x.row(0, 0, 0);
        due("first asked after a row", x.changed(), 1);
        FacetCounts y = new FacetCounts();
        y.row(0, 0, 0);
        y.drop(0, 0, 0);
        due("first asked after it went", y.changed(), 0);
        FacetCounts z = new FacetCounts();
        z.row(0, 0, 0);
        z.choose(7, 31, true);
        due("first asked when none is kept", z.changed(), 0);
        z.choose(7, 31, false);
        due("then it is", z.changed(), 1);
    }

    private static void changedSinceLast() {
        FacetCounts x = new FacetCounts();
        x.row(0, 1, 1);
        x.row(0, 1, 2);
        due("two", x.changed(), 2);
        due("asked at once", x.changed(), 0);
        x.row(0, 1, 3);
        due("one more", x.changed(), 1);
        due("again at once", x.changed(), 0);
    }

    private static void changedThereAndBack() {
        FacetCounts x = some();
        x.changed();
        x.row(0, 7, 15);
        x.drop(0, 7, 15);
        x.above(0, NONE);
        x.above(0, 31);
        x.choose(3, 3, true);
        x.choose(3, 3, false);
        x.drop(0, 0, 0);
        x.row(0, 0, 0);
        due("all as it was", x.changed(), 0);
        x.drop(0, 7, 31);
        x.row(1, 7, 31);
        due("an equal count by another thing, but four that the first one left", x.changed(), 4);
    }

    private static void changedBothWays() {
        FacetCounts x = new FacetCounts();
        x.row(0, 7, 15);
        due("there", x.changed(), 1);
        x.drop(0, 7, 15);
        due("and back", x.changed(), 1);
        x.row(0, 7, 15);
        x.row(1, 7, 15);
        due("by two is one count", x.changed(), 1);
        x.drop(0, 7, 15);
        due("down by one", x.changed(), 1);
    }

    private static void changedByRefused() {
        FacetCounts x = some();
        x.changed();
        x.row(40, 0, 0);
        x.row(0, 0, 0);
        x.drop(0, 8, 0);
        x.drop(5, 5, 5);
        x.above(9, 0);
        x.above(9, 9);
        x.above(0, 31);
        x.choose(0, 32, true);
        share(x, 8, 8, false);
        due("nothing", x.changed(), 0);
    }

    /** All counts from 0, and, by two values that leave nothing under any head, back to it. */
    private static void changedAll() {
        FacetCounts x = new FacetCounts();
        for (int i = 0; i < 256; i++) {
            x.row(i / 128, i / 32, i % 32);
        }
        due("all counts", x.changed(), 256);
        x.choose(0, 0, true);
        due("half of them", x.changed(), 128);
        x.choose(4, 0, true);
        due("the other half", x.changed(), 128);
        x.choose(0, 0, false);
        x.choose(4, 0, false);
        due("all again", x.changed(), 256);
        due("none since", x.changed(), 0);
    }

    private static void changedCorners() {
        FacetCounts x = new FacetCounts();
        for (int head = 0; head < 8; head += 7) {
            for (int value = 0; value < 32; value += 31) {
                x.row(39, head, value);
                due("row " + head + " " + value, x.changed(), 1);
            }
        }
        x.choose(7, 31, true);
        due("its own head is not bound", x.changed(), 0);
        x.drop(39, 7, 31);
        due("it goes, and with it what it left", x.changed(), 3);
    }

    // Promise 14

    private static void rowsNoneAndMost() {
        FacetCounts x = new FacetCounts();
        due("none", x.rows(), 0);
        x.row(39, 7, 31);
        due("one", x.rows(), 1);
        x.drop(39, 7, 31);
        due("none again", x.rows(), 0);
        FacetCounts y = full();
        due("most", y.rows(), 300);
        y.drop(0, 0, 0);
        due("one less", y.rows(), 299);
    }

    private static void rowsAfterRefused() {
        FacetCounts x = some();
        due("rows", x.rows(), 9);
        x.row(0, 0, 0);
        x.row(40, 0, 0);
        x.row(0, 8, 0);
        x.row(0, 0, 32);
        due("no row came", x.rows(), 9);
        x.drop(5, 5, 5);
        x.drop(40, 0, 0);
        x.drop(0, 0, 31);
        due("no row went", x.rows(), 9);
        x.above(20, 21);
        x.choose(6, 6, true);
        due("kinds above and chosen values are no rows", x.rows(), 9);
        FacetCounts y = full();
        y.row(39, 7, 31);
        due("no more than 300", y.rows(), 300);
    }
}
