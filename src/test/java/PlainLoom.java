import java.util.ArrayList;
import java.util.Arrays;
import java.util.Comparator;
import java.util.HashSet;
import java.util.List;
import java.util.Set;
import java.util.TreeSet;

/** The document read word by word, slow and with the whole library: what JoinLoom is held against. */
final class PlainLoom {
    static final int NONE = -1;
    static final int NO = Integer.MIN_VALUE;
    static final int TOO_MANY = -2;

    static final Comparator<Integer> BY_VALUE = (a, b) -> {
        if (a.equals(b)) {
            return 0;
        }
        if (a == NO) {
            return 1;
        }
        if (b == NO) {
            return -1;
        }
        return a.compareTo(b);
    };

    static final Comparator<List<Integer>> BY_ROW = (x, y) -> {
        for (int i = 0; i < Math.min(x.size(), y.size()); i++) {
            int order = BY_VALUE.compare(x.get(i), y.get(i));
            if (order != 0) {
                return order;
            }
        }
        return Integer.compare(x.size(), y.size());
    };

    /** A place: a name's number, or a told value. */
    record Place(boolean named, int what) { }

    static final class Clause {
        final int kind;
        final int table;
        final List<Place> places = new ArrayList<>();

        Clause(int kind, int table) {
            this.kind = kind;
            this.table = table;
        }

        boolean fact() {
            return kind < 2;
        }

        Set<Integer> names() {
            Set<Integer> names = new HashSet<>();
            for (Place place : places) {
                if (place.named()) {
                    names.add(place.what());
                }
            }
            return names;
        }
    }

    private final int[] columns = new int[8];
    private final List<TreeSet<List<Integer>>> tables = new ArrayList<>();
    private int names = 0;
    private List<Clause> parts = new ArrayList<>();
    private List<Integer> order = new ArrayList<>();

    private List<List<Integer>> woven = null;
    private int wovenNames;
    private int[] met;
    private List<int[]> witnesses;
    private List<List<Integer>> kept = null;
    private int keptNames;

    PlainLoom() {
        for (int t = 0; t < 8; t++) {
            tables.add(new TreeSet<>(BY_ROW));
        }
    }

    boolean isTable(int t) {
        return t >= 0 && t < 8 && columns[t] > 0;
    }

    boolean table(int t, int howMany) {
        if (t < 0 || t > 7 || howMany < 1 || howMany > 3) {
            return false;
        }
        for (Clause part : parts) {
            if (part.fact() && part.table == t) {
                return false;
            }
        }
        columns[t] = howMany;
        tables.get(t).clear();
        return true;
    }

    private List<Integer> rowOf(int t, int a, int b, int c) {
        return List.of(a, b, c).subList(0, columns[t]);
    }

    int put(int t, int a, int b, int c) {
        if (!isTable(t)) {
            return NONE;
        }
        if (tables.get(t).contains(rowOf(t, a, b, c))) {
            return 0;
        }
        if (tables.get(t).size() == 40) {
            return NONE;
        }
        tables.get(t).add(rowOf(t, a, b, c));
        return 1;
    }

    boolean drop(int t, int a, int b, int c) {
        return isTable(t) && tables.get(t).remove(rowOf(t, a, b, c));
    }

    int rows(int t) {
        return isTable(t) ? tables.get(t).size() : NONE;
    }

    int row(int t, int i, int c) {
        if (!isTable(t) || i < 0 || i >= rows(t) || c < 0 || c >= columns[t]) {
            return 0;
        }
        return new ArrayList<>(tables.get(t)).get(i).get(c);
    }

    boolean ask(int n) {
        if (n < 1 || n > 6) {
            return false;
        }
        names = n;
        parts = new ArrayList<>();
        order = new ArrayList<>();
        for (int k = 0; k < n; k++) {
            order.add(k);
        }
        return true;
    }

    int part(int kind, int t) {
        if (names == 0 || (kind != 0 && kind != 1) || !isTable(t) || parts.size() == 10) {
            return NONE;
        }
        if (kind == 0 && parts.stream().filter(p -> p.kind == 0).count() == 5) {
            return NONE;
        }
        parts.add(new Clause(kind, t));
        return parts.size() - 1;
    }

    private Clause lacking() {
        if (parts.isEmpty()) {
            return null;
        }
        Clause last = parts.get(parts.size() - 1);
        return last.fact() && last.places.size() < columns[last.table] ? last : null;
    }

    boolean isName(int k) {
        return k >= 0 && k < names;
    }

    int name(int k) {
        Clause last = lacking();
        if (last == null || !isName(k)) {
            return NONE;
        }
        last.places.add(new Place(true, k));
        return last.places.size();
    }

    int value(int v) {
        Clause last = lacking();
        if (last == null) {
            return NONE;
        }
        last.places.add(new Place(false, v));
        return last.places.size();
    }

    int compare(int kind, int k, boolean byName, int v) {
        if (names == 0 || (kind != 2 && kind != 3) || !isName(k) || (byName && !isName(v)) || parts.size() == 10) {
            return NONE;
        }
        Clause clause = new Clause(kind, -1);
        clause.places.add(new Place(true, k));
        clause.places.add(new Place(byName, v));
        parts.add(clause);
        return parts.size() - 1;
    }

    boolean order(int i, int k) {
        if (!isName(i) || !isName(k)) {
            return false;
        }
        int there = order.get(i);
        order.set(order.indexOf(k), there);
        order.set(i, k);
        return true;
    }

    boolean stands() {
        Set<Integer> found = new HashSet<>();
        for (Clause part : parts) {
            if (part.fact() && part.places.size() != columns[part.table]) {
                return false;
            }
            if (part.kind == 0) {
                found.addAll(part.names());
            }
        }
        return names > 0 && found.size() == names;
    }

    /** Does a row agree with values (null where a name has none yet), one value wherever one name stands? */
    private boolean agrees(Clause part, List<Integer> row, Integer[] values) {
        Integer[] here = new Integer[names];
        for (int c = 0; c < row.size(); c++) {
            Place place = part.places.get(c);
            int v = row.get(c);
            if (!place.named()) {
                if (v != place.what()) {
                    return false;
                }
                continue;
            }
            int k = place.what();
            if (values[k] != null && values[k] != v) {
                return false;
            }
            if (here[k] != null && here[k] != v) {
                return false;
            }
            here[k] = v;
        }
        return true;
    }

    private boolean someRow(Clause part, Integer[] values) {
        for (List<Integer> row : tables.get(part.table)) {
            if (agrees(part, row, values)) {
                return true;
            }
        }
        return false;
    }

    private int side(Place place, Integer[] values) {
        return place.named() ? values[place.what()] : place.what();
    }

    private boolean isMeeting(Integer[] values, Set<Integer> seen) {
        for (Clause part : parts) {
            Set<Integer> its = part.names();
            if (part.kind == 0) {
                boolean one = its.isEmpty() || its.stream().anyMatch(seen::contains);
                if (one && !someRow(part, values)) {
                    return false;
                }
            } else if (seen.containsAll(its)) {
                if (part.kind == 1 && someRow(part, values)) {
                    return false;
                }
                if (part.kind == 2 && side(part.places.get(0), values) != side(part.places.get(1), values)) {
                    return false;
                }
                if (part.kind == 3
                        && BY_VALUE.compare(side(part.places.get(0), values), side(part.places.get(1), values)) >= 0) {
                    return false;
                }
            }
        }
        return true;
    }

    private List<Integer> allValues() {
        TreeSet<Integer> pool = new TreeSet<>();
        for (Clause part : parts) {
            if (part.kind == 0) {
                tables.get(part.table).forEach(pool::addAll);
            }
        }
        return new ArrayList<>(pool);
    }

    private List<Integer[]> rowsOver(List<Integer[]> shorter, int name, List<Integer> pool) {
        List<Integer[]> longer = new ArrayList<>();
        for (Integer[] row : shorter) {
            for (int v : pool) {
                Integer[] copy = row.clone();
                copy[name] = v;
                longer.add(copy);
            }
        }
        return longer;
    }

    /** Meetings name by name till there are too many; null then. All rows are tried where they are few enough. */
    private List<List<Integer[]>> meet(List<Integer> turns) {
        List<Integer> pool = allValues();
        List<List<Integer[]>> all = new ArrayList<>();
        List<Integer[]> untried = List.<Integer[]>of(new Integer[names]);
        List<Integer[]> shorter = untried;
        Set<Integer> seen = new HashSet<>();
        for (int name : turns) {
            seen.add(name);
            boolean few = untried != null && (long) untried.size() * pool.size() <= 3000;
            untried = few ? rowsOver(untried, name, pool) : null;
            List<Integer[]> candidates = few ? untried : rowsOver(shorter, name, pool);
            shorter = new ArrayList<>();
            for (Integer[] row : candidates) {
                if (isMeeting(row, seen)) {
                    shorter.add(row);
                }
            }
            if (shorter.size() > 500) {
                return null;
            }
            all.add(shorter);
        }
        return all;
    }

    int weave() {
        if (!stands()) {
            return NONE;
        }
        List<List<Integer[]>> all = meet(order);
        if (all == null) {
            return TOO_MANY;
        }
        met = new int[names];
        for (int i = 0; i < names; i++) {
            met[i] = all.get(i).size();
        }
        wovenNames = names;
        woven = new ArrayList<>();
        for (Integer[] row : all.get(names - 1)) {
            woven.add(Arrays.asList(row));
        }
        woven.sort(BY_ROW);
        witnesses = new ArrayList<>();
        for (List<Integer> row : woven) {
            int[] places = new int[parts.size()];
            for (int p = 0; p < parts.size(); p++) {
                places[p] = parts.get(p).kind == 0 ? placeOf(parts.get(p), row.toArray(new Integer[0])) : NONE;
            }
            witnesses.add(places);
        }
        return woven.size();
    }

    private int placeOf(Clause part, Integer[] values) {
        int i = 0;
        for (List<Integer> row : tables.get(part.table)) {
            if (agrees(part, row, values)) {
                return i;
            }
            i++;
        }
        throw new IllegalStateException("an answer without a row");
    }

    private static int at(List<List<Integer>> list, int i, int k, int howMany) {
        return list == null || i < 0 || i >= list.size() || k < 0 || k >= howMany ? 0 : list.get(i).get(k);
    }

    int answer(int i, int k) {
        return at(woven, i, k, wovenNames);
    }

    int meetings(int i) {
        return woven == null || i < 0 || i >= wovenNames ? NONE : met[i];
    }

    int witness(int i, int p) {
        if (woven == null || i < 0 || i >= woven.size() || p < 0 || p >= witnesses.get(i).length) {
            return NONE;
        }
        return witnesses.get(i)[p];
    }

    private boolean isWovenName(int k) {
        return woven != null && k >= 0 && k < wovenNames;
    }

    long sum(int k, int what) {
        if (!isWovenName(k)) {
            return 0;
        }
        List<Integer> numbers = new ArrayList<>();
        Set<Integer> different = new HashSet<>();
        for (List<Integer> row : woven) {
            different.add(row.get(k));
            if (row.get(k) != NO) {
                numbers.add(row.get(k));
            }
        }
        if (what == 0) {
            return numbers.stream().mapToLong(v -> v).sum();
        }
        if (what == 1) {
            return numbers.size();
        }
        if (what == 2) {
            return numbers.stream().mapToInt(v -> v).max().orElse(NO);
        }
        if (what == 3) {
            return numbers.stream().mapToInt(v -> v).min().orElse(NO);
        }
        return what == 4 ? different.size() : 0;
    }

    long group(int k, int v, int how, int j) {
        if (!isWovenName(k) || (how != 0 && how != 1) || (how == 1 && !isWovenName(j))) {
            return 0;
        }
        long told = 0;
        for (List<Integer> row : woven) {
            if (row.get(k) == v) {
                if (how == 0) {
                    told++;
                } else if (row.get(j) != NO) {
                    told += row.get(j);
                }
            }
        }
        return told;
    }

    int keep() {
        if (woven == null) {
            return NONE;
        }
        kept = woven;
        keptNames = wovenNames;
        return kept.size();
    }

    private List<List<Integer>> changes(int what) {
        if (kept == null || keptNames != wovenNames || (what != 0 && what != 1)) {
            return null;
        }
        List<List<Integer>> left = new ArrayList<>(what == 0 ? woven : kept);
        left.removeAll(new HashSet<>(what == 0 ? kept : woven));
        return left;
    }

    int delta(int what) {
        List<List<Integer>> left = changes(what);
        return left == null ? NONE : left.size();
    }

    int change(int what, int i, int k) {
        return at(changes(what), i, k, wovenNames);
    }

    /** The shares of all parts (-1 for one that gets none) and the least product, or null. */
    private List<Integer> leastShares;
    private long leastProduct;

    private void tryShares(List<Integer> given) {
        if (given.size() < parts.size()) {
            Clause part = parts.get(given.size());
            boolean gets = part.kind == 0 && !part.names().isEmpty();
            for (int share = gets ? 0 : -1; share <= (gets ? 2 : -1); share++) {
                List<Integer> more = new ArrayList<>(given);
                more.add(share);
                tryShares(more);
            }
            return;
        }
        for (int k = 0; k < names; k++) {
            int halves = 0;
            for (int p = 0; p < parts.size(); p++) {
                if (given.get(p) > 0 && parts.get(p).names().contains(k)) {
                    halves += given.get(p);
                }
            }
            if (halves < 2) {
                return;
            }
        }
        long product = 1;
        for (int p = 0; p < parts.size(); p++) {
            long size = parts.get(p).fact() ? rows(parts.get(p).table) : 1;
            product *= given.get(p) == 2 ? size * size : given.get(p) == 1 ? size : 1;
        }
        if (leastShares == null || product < leastProduct) {
            leastShares = given;
            leastProduct = product;
        }
    }

    private boolean findShares() {
        leastShares = null;
        if (!stands()) {
            return false;
        }
        tryShares(new ArrayList<>());
        return true;
    }

    long bound() {
        return findShares() ? leastProduct : NONE;
    }

    int cover(int p) {
        return findShares() && p >= 0 && p < parts.size() ? leastShares.get(p) : NONE;
    }

    private int fewest;
    private List<Integer> bestOrder;

    private void tryOrders(List<Integer> given) {
        if (given.size() < names) {
            for (int k = 0; k < names; k++) {
                if (!given.contains(k)) {
                    List<Integer> more = new ArrayList<>(given);
                    more.add(k);
                    tryOrders(more);
                }
            }
            return;
        }
        List<List<Integer[]>> all = meet(given);
        if (all == null) {
            return;
        }
        int together = all.stream().mapToInt(List::size).sum();
        if (bestOrder == null || together < fewest) {
            bestOrder = given;
            fewest = together;
        }
    }

    int best() {
        if (!stands() || names > 4) {
            return NONE;
        }
        bestOrder = null;
        tryOrders(new ArrayList<>());
        if (bestOrder == null) {
            return TOO_MANY;
        }
        order = new ArrayList<>(bestOrder);
        return fewest;
    }

    private List<List<Integer>> allRings(int t) {
        TreeSet<List<Integer>> found = new TreeSet<>(BY_ROW);
        Set<List<Integer>> pairs = new HashSet<>();
        for (List<Integer> row : tables.get(t)) {
            pairs.add(List.of(row.get(0), row.get(1)));
        }
        for (List<Integer> one : pairs) {
            for (List<Integer> two : pairs) {
                int a = one.get(0);
                int b = one.get(1);
                int c = two.get(1);
                boolean different = a != b && b != c && a != c;
                boolean ahead = BY_VALUE.compare(a, b) < 0 && BY_VALUE.compare(a, c) < 0;
                if (two.get(0) == b && different && ahead && pairs.contains(List.of(c, a))) {
                    found.add(List.of(a, b, c));
                }
            }
        }
        return new ArrayList<>(found);
    }

    int rings(int t) {
        return isTable(t) && columns[t] > 1 ? allRings(t).size() : NONE;
    }

    int ring(int t, int i, int k) {
        return isTable(t) && columns[t] > 1 ? at(allRings(t), i, k, 3) : 0;
    }

    int count(int what) {
        if (what == 0) {
            return names;
        }
        if (what == 1) {
            return parts.size();
        }
        if (what == 2) {
            return woven == null ? NONE : woven.size();
        }
        if (what == 3) {
            return kept == null ? NONE : kept.size();
        }
        if (what == 4) {
            return stands() ? 1 : 0;
        }
        return what >= 10 && what < 10 + names ? order.get(what - 10) : NONE;
    }
}
