import java.math.BigInteger;
import java.util.ArrayList;
import java.util.Arrays;
import java.util.HashMap;
import java.util.HashSet;
import java.util.List;
import java.util.Map;
import java.util.Random;
import java.util.Set;
import java.util.TreeSet;

/** Long runs of calls, each answer beside that of a slow model written after the document's words. */
public final class ModelTest {
    private static final int RUNS = 300;
    private static final int CALLS = 512;

    /** Holds what the calls told, and works out each answer from that anew. */
    private static final class Model {
        final Set<List<Integer>> rows = new HashSet<>();
        final Map<Integer, Integer> uppers = new HashMap<>();
        final Set<List<Integer>> chosen = new HashSet<>();
        Map<List<Integer>, Integer> last = new HashMap<>();

        static boolean in(int number, int bound) {
            return 0 <= number && number < bound;
        }

        TreeSet<Integer> upwards(int kind) {
            TreeSet<Integer> all = new TreeSet<>();
            for (Integer at = kind; at != null; at = uppers.get(at)) {
                all.add(at);
            }
            return all;
        }

        TreeSet<Integer> values(int thing, int head) {
            TreeSet<Integer> all = new TreeSet<>();
            for (int value = 0; value < 32; value++) {
                if (rows.contains(Arrays.asList(thing, head, value))) {
                    all.addAll(head == 0 ? upwards(value) : Set.of(value));
                }
            }
            return all;
        }

        boolean passes(int thing, int head) {
            TreeSet<Integer> values = values(thing, head);
            boolean bound = false;
            for (List<Integer> pair : chosen) {
                if (pair.get(0) == head) {
                    bound = true;
                    if (values.contains(pair.get(1))) {
                        return true;
                    }
                }
            }
            return !bound;
        }

        List<Integer> keptBut(int free) {
            List<Integer> things = new ArrayList<>();
            for (int thing = 0; thing < 40; thing++) {
                boolean all = true;
                for (int head = 0; head < 8 && all; head++) {
                    all = head == free || passes(thing, head);
                }
                if (all) {
                    things.add(thing);
                }
            }
            return things;
        }

        Map<Integer, Integer> counts(int head) {
            Map<Integer, Integer> counts = new HashMap<>();
            for (int thing : keptBut(head)) {
                for (int value : values(thing, head)) {
                    counts.merge(value, 1, Integer::sum);
                }
            }
            return counts;
        }

        String row(int thing, int head, int value) {
            if (!in(thing, 40) || !in(head, 8) || !in(value, 32)) {
                return "-1";
            }
            List<Integer> row = Arrays.asList(thing, head, value);
            if (rows.contains(row)) {
                return "0";
            }
            if (rows.size() == 300) {
                return "-2";
            }
            rows.add(row);
            return "1";
        }

        String drop(int thing, int head, int value) {
            if (!in(thing, 40) || !in(head, 8) || !in(value, 32)) {
                return "-1";
            }
            return rows.remove(Arrays.asList(thing, head, value)) ? "1" : "0";
        }

        String above(int kind, int upper) {
            if (!in(kind, 32) || (upper != -1 && !in(upper, 32))) {
                return "-1";
            }
            if (upper == -1) {
                return uppers.remove(kind) != null ? "1" : "0";
            }
            if (upwards(upper).contains(kind)) {
                return "-3";
            }
            Integer old = uppers.put(kind, upper);
            return old != null && old == upper ? "0" : "1";
        }

        String choose(int head, int value, boolean on) {
            if (!in(head, 8) || !in(value, 32)) {
                return "-1";
            }
            if (on) {
                chosen.add(Arrays.asList(head, value));
            } else {
                chosen.remove(Arrays.asList(head, value));
            }
            return kept();
        }

        String kept() {
            return "" + keptBut(-1).size();
        }

        String isKept(int thing) {
            return !in(thing, 40) ? "-1" : keptBut(-1).contains(thing) ? "1" : "0";
        }

        String facet(int head, int value) {
            return !in(head, 8) || !in(value, 32) ? "-1" : "" + counts(head).getOrDefault(value, 0);
        }

        String top(int head, int rank) {
            if (!in(head, 8)) {
                return "-1";
            }
            Map<Integer, Integer> counts = counts(head);
            List<Integer> ranked = new ArrayList<>(new TreeSet<>(counts.keySet()));
            ranked.sort((a, b) -> counts.get(b) - counts.get(a));
            return in(rank, ranked.size()) ? "" + ranked.get(rank) : "-1";
        }

        String range(int head, int from, int to) {
            if (!in(head, 8)) {
                return "-1";
            }
            int count = 0;
            for (int thing : keptBut(head)) {
                boolean some = false;
                for (int value : values(thing, head)) {
                    some |= from <= value && value <= to;
                }
                count += some ? 1 : 0;
            }
            return "" + count;
        }

        String sum(int head, int value, int other) {
            if (!in(head, 8) || !in(value, 32) || !in(other, 8)) {
                return "-1";
            }
            int sum = 0;
            for (int thing : keptBut(-1)) {
                if (values(thing, head).contains(value)) {
                    for (int one : values(thing, other)) {
                        sum += one;
                    }
                }
            }
            return "" + sum;
        }

        String share(int head, int value, boolean lower) {
            if (!in(head, 8) || !in(value, 32) || keptBut(head).isEmpty()) {
                return "throws.ArithmeticException";
            }
            BigInteger part = BigInteger.valueOf(counts(head).getOrDefault(value, 0));
            BigInteger whole = BigInteger.valueOf(keptBut(head).size());
            return (lower ? whole : part).divide(part.gcd(whole)).toString();
        }

        String changed() {
            Map<List<Integer>, Integer> now = new HashMap<>();
            for (int head = 0; head < 8; head++) {
                for (Map.Entry<Integer, Integer> entry : counts(head).entrySet()) {
                    now.put(Arrays.asList(head, entry.getKey()), entry.getValue());
                }
            }
            Set<List<Integer>> places = new HashSet<>(now.keySet());
            places.addAll(last.keySet());
            int different = 0;
            for (List<Integer> place : places) {
                different += now.getOrDefault(place, 0).equals(last.getOrDefault(place, 0)) ? 0 : 1;
            }
            last = now;
            return "" + different;
        }
    }

    /** Few things, heads and values make calls meet often; the whole width and wrong ones come, too. */
    private static final class Draw {
        final Random random;
        final int things;
        final int heads;
        final int values;

        Draw(int seed) {
            random = new Random(seed);
            things = seed % 3 == 0 ? 40 : 6;
            heads = seed % 2 == 0 ? 8 : 3;
            values = seed % 5 < 2 ? 32 : 7;
        }

        int number(int usual, int bound) {
            switch (random.nextInt(40)) {
                case 0: return -1;
                case 1: return bound;
                case 2: return bound - 1;
                case 3: return random.nextInt(4) == 0 ? random.nextInt() : 0;
                case 4: return random.nextInt(8) == 0 ? Integer.MIN_VALUE : random.nextInt(bound);
                case 5: return random.nextInt(8) == 0 ? Integer.MAX_VALUE : random.nextInt(bound);
                default: return random.nextInt(usual);
            }
        }

        int thing() {
            return number(things, 40);
        }

        int head() {
            return number(heads, 8);
        }

        int value() {
            return number(values, 32);
        }
    }

    private static int wrong = 0;

    public static void main(String[] args) {
        for (int seed = 0; seed < RUNS && wrong == 0; seed++) {
            run(seed);
        }
        System.out.println(wrong == 0 ? "all runs are as the model's" : wrong + " answers are not as due");
        if (wrong != 0) {
            System.exit(1);
        }
    }

    private static void run(int seed) {
        FacetCounts x = new FacetCounts();
        Model model = new Model();
        Draw draw = new Draw(seed);
        // Some runs begin with many rows, so that FULL is met and counts are great.
        int filling = seed % 4 == 0 ? 330 : seed % 4 * 20;
        for (int call = 0; call < CALLS && wrong < 10; call++) {
            int which = call < filling ? 0 : draw.random.nextInt(20);
            step(seed + "." + call, x, model, draw, which);
        }
    }

    private static void step(String at, FacetCounts x, Model model, Draw draw, int which) {
        int thing = draw.thing();
        int head = draw.head();
        int value = draw.value();
        int second = draw.value();
        int other = draw.head();
        boolean flag = draw.random.nextInt(5) < 2;
        switch (which) {
            case 0: case 1: case 2:
                due(at + " row", x.row(thing, head, value), model.row(thing, head, value)); break;
            case 3: case 4:
                due(at + " drop", x.drop(thing, head, value), model.drop(thing, head, value)); break;
            case 5: case 6:
                due(at + " above", x.above(value, second), model.above(value, second)); break;
            case 7: case 8: case 9:
                due(at + " choose", x.choose(head, value, flag), model.choose(head, value, flag)); break;
            case 10: due(at + " kept", x.kept(), model.kept()); break;
            case 11: due(at + " isKept", x.isKept(thing), model.isKept(thing)); break;
            case 12: due(at + " facet", x.facet(head, value), model.facet(head, value)); break;
            case 13: case 14:
                due(at + " top", x.top(head, second % 8), model.top(head, second % 8)); break;
            case 15: due(at + " range", x.range(head, value, second), model.range(head, value, second)); break;
            case 16: due(at + " sum", x.sum(head, value, other), model.sum(head, value, other)); break;
            case 17: due(at + " share", share(x, head, value, flag), model.share(head, value, flag)); break;
            case 18: due(at + " changed", x.changed(), model.changed()); break;
            default: due(at + " rows", x.rows(), "" + model.rows.size()); break;
        }
    }

    private static String share(FacetCounts x, int head, int value, boolean lower) {
        try {
            return "" + x.share(head, value, lower);
        } catch (ArithmeticException e) {
            // The machine's own division by zero would say so in its text.
            return "/ by zero".equals(e.getMessage()) ? "divided by zero" : "throws.ArithmeticException";
        }
    }

    private static void due(String what, int got, String want) {
        due(what, "" + got, want);
    }

    private static void due(String what, String got, String want) {
        if (!got.equals(want)) {
            wrong++;
            System.out.println(what + " answered " + got + ", due is " + want);
        }
    }
}
