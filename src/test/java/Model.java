import java.util.ArrayList;
import java.util.Arrays;
import java.util.HashMap;
import java.util.List;
import java.util.Map;
import java.util.regex.Pattern;

/** The document a second time, by trying all ways: slow, and apart from the class that it tests. */
final class Model {
    private static final int NONE = -1, BAD = -2, NOT = -3, FULL = -4;
    private static final Pattern VIABLE = Pattern.compile("([0-9]{1,3}(;[0-9]{1,3})*;?)?");

    /** A DAY: what it costs, and its boats, as the least numbers go in them. */
    private record Day(int cost, List<Integer> boats) {
        boolean isBetterThan(Day other) {
            if (other == null || cost != other.cost) {
                return other == null || cost < other.cost;
            }
            if (boats.size() != other.boats.size()) {
                return boats.size() < other.boats.size();
            }
            for (int i = 0; i < boats.size(); i++) {
                if (!boats.get(i).equals(other.boats.get(i))) {
                    return boats.get(i) < other.boats.get(i);
                }
            }
            return false;
        }

        int boatOf(int person) {
            return boats.stream().filter(boat -> (boat >> person & 1) == 1).findFirst().orElseThrow();
        }

        /** A bit for each two who are in one boat. */
        long meetings() {
            long bits = 0;
            for (int boat : boats) {
                for (int a = 0; a < 8; a++) {
                    for (int b = a + 1; b < 8; b++) {
                        if ((boat >> a & 1) == 1 && (boat >> b & 1) == 1) {
                            bits |= 1L << (8 * a + b);
                        }
                    }
                }
            }
            return bits;
        }
    }

    private final StringBuilder text = new StringBuilder();
    private int[] people = new int[0];
    private final int[] weight = new int[10];
    private final int[] hour = new int[10];
    private final int[] lie = new int[10];
    private final int[] law = {2, 0, 0, 0};
    private final boolean[][][] pairs = new boolean[2][10][10];
    private final List<int[]> seen = new ArrayList<>();
    private final int[][] sheets = new int[4][];
    private final int[] forms = new int[4];
    private int finding = 0;
    private final Map<Integer, List<Day>> daysOf = new HashMap<>();
    private final Map<Integer, Day> bestOf = new HashMap<>();

    Model() {
        Arrays.fill(weight, 50);
    }

    private void changed() {
        daysOf.clear();
        bestOf.clear();
    }

    // ---- people, law

    int type(int b) {
        if (b < 0 || b > 255) {
            return BAD;
        }
        if (text.length() == 40) {
            return FULL;
        }
        text.append((char) b);
        readText();
        changed();
        return text.length();
    }

    int wipe() {
        int had = text.length();
        text.setLength(0);
        readText();
        changed();
        return had;
    }

    int fault() {
        int fault = text.length() > 0 && text.charAt(text.length() - 1) == ';' ? text.length() : 99;
        for (int i = text.length(); i > 0; i--) {
            if (!VIABLE.matcher(text.substring(0, i)).matches()) {
                fault = i - 1;
            }
        }
        int start = 0;
        int index = 0;
        for (String piece : text.toString().split(";", -1)) {
            String figures = piece.replaceAll("[^0-9].*", "");
            String age = figures.substring(0, Math.min(3, figures.length()));
            if (start <= fault && (index == 10 || !age.isEmpty() && Integer.parseInt(age) > 120)) {
                fault = Math.min(fault, start);
            }
            start += piece.length() + 1;
            index++;
        }
        return fault == 99 ? NONE : fault;
    }

    private void readText() {
        boolean nobody = text.length() == 0 || fault() != NONE;
        people = nobody ? new int[0] : Arrays.stream(text.toString().split(";")).mapToInt(Integer::parseInt).toArray();
    }

    private int everyone() {
        return (1 << people.length) - 1;
    }

    private boolean isThere(int person) {
        return person >= 0 && person < people.length;
    }

    private int told(int person) {
        return Math.max(0, people[person] + lie[person]);
    }

    int person(int person, int what) {
        if (!isThere(person) || what < 0 || what > 1) {
            return BAD;
        }
        return what == 0 ? people[person] : told(person);
    }

    int put(int number, int what, int v) {
        if (number < 0 || number > 9 || what < 0 || what > 1 || v < 0 || v > 99) {
            return BAD;
        }
        changed();
        int[] row = what == 0 ? weight : hour;
        int was = row[number];
        row[number] = v;
        return was;
    }

    int lie(int number, int v) {
        if (number < 0 || number > 9 || v < -30 || v > 30) {
            return -1002;
        }
        changed();
        int was = lie[number];
        lie[number] = v;
        return was;
    }

    private int find(int number) {
        finding = number;
        return -10 - number;
    }

    int read(int s) {
        if (s < 0 || s > 3) {
            return BAD;
        }
        if (sheets[s] == null) {
            return find(1);
        }
        changed();
        int many = 0;
        for (int item : sheets[s]) {
            if (item < 0 || item > 99 || many == 10) {
                return many;
            }
            weight[many++] = item;
        }
        return many;
    }

    int set(int what, int v) {
        if (what < 0 || what > 3 || v < new int[] {1, 0, 0, 0}[what] || v > new int[] {4, 2, 99, 9}[what]) {
            return BAD;
        }
        changed();
        int was = law[what];
        law[what] = v;
        return was;
    }

    int pair(int kind, int a, int b, int v) {
        if (kind < 0 || kind > 1 || a < 0 || a > 9 || b < 0 || b > 9 || a == b || v < 0 || v > 1) {
            return BAD;
        }
        changed();
        int was = pairs[kind][a][b] ? 1 : 0;
        pairs[kind][a][b] = v == 1;
        pairs[kind][b][a] = v == 1;
        return was;
    }

    // ---- days

    private static List<Integer> members(int set) {
        List<Integer> members = new ArrayList<>();
        for (int i = 0; i < 10; i++) {
            if ((set >> i & 1) == 1) {
                members.add(i);
            }
        }
        return members;
    }

    private int fareOf(int boat) {
        List<Integer> members = members(boat);
        if (members.size() == 1) {
            return law[2];
        }
        int years = 0;
        int weights = 0;
        for (int a : members) {
            for (int b : members) {
                years = Math.max(years, told(a) - told(b));
                weights = Math.max(weights, weight[a] - weight[b]);
            }
        }
        return law[1] == 0 ? years : law[1] == 1 ? weights : years + weights;
    }

    private int costOf(int boat) {
        int last = members(boat).stream().mapToInt(i -> hour[i]).max().orElse(0);
        int waited = members(boat).stream().mapToInt(i -> last - hour[i]).sum();
        return fareOf(boat) + law[3] * waited;
    }

    int boat(int some, int what) {
        if (some == 0 || (some & ~everyone()) != 0 || what < 0 || what > 1) {
            return BAD;
        }
        return what == 0 ? costOf(some) : fareOf(some);
    }

    private boolean fits(int boat, int set) {
        if (members(boat).size() > law[0]) {
            return false;
        }
        for (int a : members(boat)) {
            for (int b : members(set)) {
                boolean together = (boat >> b & 1) == 1;
                if (together ? pairs[0][a][b] : pairs[1][a][b]) {
                    return false;
                }
            }
        }
        return true;
    }

    /** Every DAY of a set that can be. */
    private List<Day> days(int set) {
        List<Day> known = daysOf.get(set);
        if (known != null) {
            return known;
        }
        List<Day> all = new ArrayList<>();
        int[] fitting = new int[1 << 10];
        for (int boat = set; boat > 0; boat = boat - 1 & set) {
            fitting[boat] = fits(boat, set) ? costOf(boat) : NONE;
        }
        split(set, new ArrayList<>(), 0, fitting, all);
        daysOf.put(set, all);
        return all;
    }

    private static void split(int left, List<Integer> boats, int cost, int[] fitting, List<Day> all) {
        if (left == 0) {
            all.add(new Day(cost, new ArrayList<>(boats)));
            return;
        }
        int first = Integer.lowestOneBit(left);
        for (int boat = left; boat > 0; boat = boat - 1 & left) {
            if ((boat & first) != 0 && fitting[boat] != NONE) {
                boats.add(boat);
                split(left & ~boat, boats, cost + fitting[boat], fitting, all);
                boats.remove(boats.size() - 1);
            }
        }
    }

    private Day best(int set) {
        if (bestOf.containsKey(set)) {
            return bestOf.get(set);
        }
        Day best = null;
        for (Day day : days(set)) {
            if (day.isBetterThan(best)) {
                best = day;
            }
        }
        bestOf.put(set, best);
        return best;
    }

    int day(int some, int what) {
        if ((some & ~everyone()) != 0 || what < 0 || what > 2) {
            return BAD;
        }
        Day best = best(some);
        if (best == null) {
            return NONE;
        }
        int most = days(some).stream().mapToInt(Day::cost).max().orElseThrow();
        return what == 0 ? best.cost() : what == 1 ? best.boats().size() : most;
    }

    int with(int person) {
        if (!isThere(person)) {
            return BAD;
        }
        Day best = best(everyone());
        return best == null ? NONE : best.boatOf(person);
    }

    int odd() {
        int odd = NONE;
        Day least = null;
        for (int i = 0; i < people.length; i++) {
            Day day = best(everyone() ^ 1 << i);
            if (day != null && (least == null || day.cost() < least.cost())) {
                odd = i;
                least = day;
            }
        }
        return odd;
    }

    private int refused(int s) {
        if (s < 0 || s > 3) {
            return BAD;
        }
        if (sheets[s] == null) {
            return find(1);
        }
        return sheets[s].length < people.length ? NOT : 0;
    }

    private Map<Integer, Integer> crews(int[] items) {
        Map<Integer, Integer> crews = new HashMap<>();
        for (int i = 0; i < people.length; i++) {
            crews.merge(items[i], 1 << i, Integer::sum);
        }
        return crews;
    }

    int judged(int s) {
        int refused = refused(s);
        if (refused != 0) {
            return refused;
        }
        for (int i = 0; i < people.length; i++) {
            int item = sheets[s][i];
            if (item < 0 || item > 9 || !fits(crews(sheets[s]).get(item), everyone())) {
                return i;
            }
        }
        return NONE;
    }

    int costs(int s) {
        int refused = refused(s);
        if (refused != 0) {
            return refused;
        }
        return judged(s) != NONE ? NOT : crews(sheets[s]).values().stream().mapToInt(this::costOf).sum();
    }

    // ---- shares

    private static long part(long above, long below, int what) {
        for (long d = below; d > 1; d--) {
            if (above % d == 0 && below % d == 0) {
                return (what == 0 ? above : below) / d;
            }
        }
        return what == 0 ? above : below;
    }

    long pays(int person, int what) {
        if (!isThere(person) || what < 0 || what > 1) {
            return Long.MIN_VALUE + 2;
        }
        Day best = best(everyone());
        if (best == null) {
            return Long.MIN_VALUE + 3;
        }
        int boat = best.boatOf(person);
        return part(costOf(boat), members(boat).size(), what);
    }

    long share(int person, int what) {
        if (!isThere(person) || what < 0 || what > 1) {
            return Long.MIN_VALUE + 2;
        }
        if (people.length > 6) {
            return Long.MIN_VALUE + 4;
        }
        for (int set = 0; set <= everyone(); set++) {
            if (best(set) == null) {
                return Long.MIN_VALUE + 3;
            }
        }
        int[] least = new int[64];
        for (int set = 0; set <= everyone(); set++) {
            least[set] = best(set).cost();
        }
        long[] sums = new long[2];
        order(everyone(), 0, person, least, sums, 0);
        return part(sums[0], sums[1], what);
    }

    /** All orders, one by one. */
    private static void order(int left, int ahead, int person, int[] least, long[] sums, int brought) {
        if (left == 0) {
            sums[0] += brought;
            sums[1]++;
        }
        for (int next : members(left)) {
            int more = next == person ? least[ahead | 1 << next] - least[ahead] : 0;
            order(left ^ 1 << next, ahead | 1 << next, person, least, sums, brought + more);
        }
    }

    int rather(int s) {
        int refused = refused(s);
        if (refused != 0) {
            return refused;
        }
        for (int set = 1; set <= everyone(); set++) {
            if (best(set) == null) {
                return NOT;
            }
        }
        for (int set = 1; set <= everyone(); set++) {
            int[] items = sheets[s];
            if (members(set).stream().mapToLong(i -> items[i]).sum() > best(set).cost()) {
                return set;
            }
        }
        return NONE;
    }

    int lies(int person, int most) {
        if (!isThere(person) || most < 0 || most > 30) {
            return -1002;
        }
        if (best(everyone()) == null) {
            return -1003;
        }
        int was = lie[person];
        int found = 99;
        double least = 0;
        for (int l = -most; l <= most; l++) {
            lie[person] = l;
            changed();
            int boat = best(everyone()).boatOf(person);
            // Twelfths are whole for boats of one to four.
            double pays = costOf(boat) * 12 / members(boat).size();
            if (found == 99 || pays < least || pays == least && Math.abs(l) < Math.abs(found)) {
                found = l;
                least = pays;
            }
        }
        lie[person] = was;
        changed();
        return found;
    }

    // ---- back, what was seen, days by a seed

    int back() {
        if (people.length > 8) {
            return FULL;
        }
        List<Day> days = days(everyone());
        long[] meetings = days.stream().mapToLong(Day::meetings).toArray();
        int[] costs = days.stream().mapToInt(Day::cost).toArray();
        int least = Integer.MAX_VALUE;
        for (int there = 0; there < costs.length; there++) {
            for (int back = there; back < costs.length; back++) {
                if ((meetings[there] & meetings[back]) == 0) {
                    least = Math.min(least, costs[there] + costs[back]);
                }
            }
        }
        return least == Integer.MAX_VALUE ? NONE : least;
    }

    int seen(int a, int b, int fare) {
        if (a < 0 || a > 9 || b < 0 || b > 9 || a == b || fare < 0 || fare > 200) {
            return BAD;
        }
        if (seen.size() == 8) {
            return FULL;
        }
        seen.add(new int[] {a, b, fare});
        return seen.size();
    }

    int forget() {
        int had = seen.size();
        seen.clear();
        return had;
    }

    int ages(int person, int what) {
        if (!isThere(person) || what < 0 || what > 2) {
            return BAD;
        }
        List<Integer> ages = new ArrayList<>();
        for (int age = 0; age <= 120; age++) {
            int told = Math.max(0, age + lie[person]);
            boolean fits = true;
            for (int[] one : seen) {
                int other = one[0] == person ? one[1] : one[1] == person ? one[0] : 99;
                fits &= !isThere(other) || Math.abs(told - told(other)) == one[2];
            }
            if (fits) {
                ages.add(age);
            }
        }
        if (what == 0) {
            return ages.size();
        }
        return ages.isEmpty() ? NONE : ages.get(what == 1 ? 0 : ages.size() - 1);
    }

    int lot(int seed) {
        List<Integer> places = new ArrayList<>();
        for (int i = 0; i < people.length; i++) {
            places.add(i);
        }
        Map<Integer, Integer> crews = new HashMap<>();
        long state = seed;
        for (int i = 0; i < people.length; i++) {
            state = Math.floorMod(1103515245L * (state & 0xffffffffL) + 12345L, 1L << 32);
            int place = places.remove((int) (state / 65536 % places.size()));
            crews.merge(place / law[0], 1 << i, Integer::sum);
        }
        return crews.values().stream().mapToInt(this::costOf).sum();
    }

    // ---- sheets

    int sheet(int s, int form, int n) {
        if (s < 0 || s > 3 || form < 0 || form > 2 || n > 60) {
            return BAD;
        }
        if (n < 0) {
            return find(5);
        }
        sheets[s] = new int[n];
        forms[s] = form;
        return n;
    }

    int lose(int s) {
        if (s < 0 || s > 3) {
            return BAD;
        }
        if (sheets[s] == null) {
            return find(1);
        }
        int had = sheets[s].length;
        sheets[s] = null;
        return had;
    }

    private int findingAt(int s, int form, int i) {
        if (sheets[s] == null) {
            return find(1);
        }
        if (forms[s] != form) {
            return find(3);
        }
        return i < 0 || i >= sheets[s].length ? find(2) : 0;
    }

    private static int lowest(int form, int v) {
        int bits = new int[] {24, 16, 0}[form];
        return v << bits >> bits;
    }

    int lay(int s, int form, int i, int v) {
        if (s < 0 || s > 3 || form < 0 || form > 2) {
            return BAD;
        }
        int refused = findingAt(s, form, i);
        if (refused == 0) {
            sheets[s][i] = lowest(form, v);
        }
        return refused == 0 ? 1 : refused;
    }

    int get(int s, int form, int i) {
        if (s < 0 || s > 3 || form < 0 || form > 2 || findingAt(s, form, i) != 0) {
            return Integer.MIN_VALUE;
        }
        return sheets[s][i];
    }

    int copy(int s, int i, int t, int j, int n) {
        if (s < 0 || s > 3 || t < 0 || t > 3) {
            return BAD;
        }
        if (sheets[s] == null || sheets[t] == null) {
            return find(1);
        }
        if (forms[s] != forms[t]) {
            return find(4);
        }
        if (i < 0 || j < 0 || n < 0 || (long) i + n > sheets[s].length || (long) j + n > sheets[t].length) {
            return find(2);
        }
        int[] as = sheets[s].clone();
        for (int k = 0; k < n; k++) {
            sheets[t][j + k] = as[i + k];
        }
        return 1;
    }

    int write(int s) {
        if (s < 0 || s > 3) {
            return BAD;
        }
        if (sheets[s] == null) {
            return find(1);
        }
        Day best = best(everyone());
        if (best == null) {
            return NOT;
        }
        int many = Math.min(people.length, sheets[s].length);
        for (int i = 0; i < many; i++) {
            sheets[s][i] = best.boats().indexOf(best.boatOf(i));
        }
        return many;
    }

    private int pairsOf(int kind) {
        int many = 0;
        for (int a = 0; a < 10; a++) {
            for (int b = a + 1; b < 10; b++) {
                many += pairs[kind][a][b] ? 1 : 0;
            }
        }
        return many;
    }

    int count(int what) {
        return switch (what) {
            case 0 -> people.length;
            case 1 -> text.length();
            case 2 -> Arrays.stream(people).sum();
            case 3 -> (int) members(everyone()).stream().filter(i -> lie[i] != 0).count();
            case 4 -> pairsOf(0);
            case 5 -> pairsOf(1);
            case 6 -> seen.size();
            case 7 -> law[0];
            case 8 -> finding;
            default -> BAD;
        };
    }

    long digest() {
        List<Long> all = new ArrayList<>();
        for (int what = 0; what <= 7; what++) {
            all.add((long) count(what));
        }
        all.add((long) fault());
        for (int p = 0; p < people.length; p++) {
            all.addAll(List.of((long) person(p, 0), (long) person(p, 1), (long) with(p), pays(p, 0), pays(p, 1),
                share(p, 0), share(p, 1), (long) lies(p, 3)));
            all.addAll(List.of((long) ages(p, 0), (long) ages(p, 1), (long) ages(p, 2)));
        }
        all.addAll(List.of((long) day(everyone(), 0), (long) day(everyone(), 1), (long) day(everyone(), 2),
            (long) odd(), (long) back(), (long) lot(7)));
        long h = 17;
        for (long one : all) {
            h = 31 * h + one;
        }
        return h;
    }
}
