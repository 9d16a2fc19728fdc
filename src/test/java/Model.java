import java.math.BigInteger;
import java.util.ArrayList;
import java.util.HashMap;
import java.util.List;
import java.util.Map;
import java.util.TreeMap;
import java.util.regex.Matcher;
import java.util.regex.Pattern;

/** The document once more, written another way with the Java library, to hold the class against. */
final class Model {
    /** Cells are told as they are named: 10 times x and y. */
    private static final class Things {
        Map<Integer, Integer> deep = new TreeMap<>();
        Map<Integer, Integer> toes = new TreeMap<>();
        List<Integer> where = new ArrayList<>();
        int saved;
        int voted;
        int passed;

        Things copy() {
            Things t = new Things();
            t.deep.putAll(deep);
            t.toes.putAll(toes);
            t.where.addAll(where);
            t.saved = saved;
            t.voted = voted;
            t.passed = passed;
            return t;
        }

        int deepAt(int cell) {
            return deep.getOrDefault(cell, 0);
        }
    }

    private static final Pattern TOKEN = Pattern.compile(" *(\\d+|.|\\z)", Pattern.DOTALL);
    private static final int[] DX = {-1, 1, 0, 0};
    private static final int[] DY = {0, 0, -1, 1};

    private StringBuilder text = new StringBuilder();
    private List<int[]> people = new ArrayList<>();
    private int soaked = 1;
    private Things things = new Things();
    private List<Things> past = new ArrayList<>();
    private List<int[]> found = new ArrayList<>();
    private Map<Integer, Things> images = new HashMap<>();
    private long trace;

    private static boolean in(int n, int least, int most) {
        return n >= least && n <= most;
    }

    private static boolean isCell(int cell) {
        return in(cell, 0, 55) && cell % 10 < 6;
    }

    private boolean isPerson(int p) {
        return in(p, 0, people.size() - 1);
    }

    int type(int letter) {
        if (!in(letter, 0, 255)) {
            return -1;
        }
        if (text.length() == 100) {
            return -3;
        }
        return text.append((char) letter).length();
    }

    int clear() {
        int n = text.length();
        text.setLength(0);
        return n;
    }

    int field() {
        List<String> tokens = new ArrayList<>();
        List<Integer> places = new ArrayList<>();
        Matcher m = TOKEN.matcher(text);
        int end = 0;
        while (end <= text.length() && m.find(end)) {
            tokens.add(m.group(1));
            places.add(m.start(1));
            if (m.group(1).isEmpty()) {
                break;
            }
            end = m.end();
        }
        List<int[]> newPeople = new ArrayList<>();
        Things fresh = new Things();
        int newSoaked = 1;
        boolean soakedTold = false;
        int items = 0;
        int i = 0;
        while (!tokens.get(i).isEmpty()) {
            String head = tokens.get(i);
            int[][] limits = head.equals("p") && newPeople.size() < 5 ? new int[][] {{0, 5}, {0, 5}, {1, 4}, {0, 9}}
                : head.equals("f") ? new int[][] {{0, 5}, {0, 5}, {0, 9}}
                : head.equals("s") && !soakedTold ? new int[][] {{1, 9}} : null;
            if (limits == null) {
                return -10 - places.get(i);
            }
            int[] n = new int[4];
            for (int j = 0; j < limits.length; j++) {
                i++;
                if (!tokens.get(i).matches("[0-9]|[1-9][0-9]")) {
                    return -10 - places.get(i);
                }
                n[j] = Integer.parseInt(tokens.get(i));
                if (!in(n[j], limits[j][0], limits[j][1])) {
                    return -10 - places.get(i);
                }
            }
            i++;
            if (!tokens.get(i).equals(";")) {
                return -10 - places.get(i);
            }
            i++;
            items++;
            if (head.equals("p")) {
                newPeople.add(new int[] {n[2], n[3]});
                fresh.where.add(10 * n[0] + n[1]);
            } else if (head.equals("f")) {
                fresh.deep.put(10 * n[0] + n[1], n[2]);
            } else {
                soakedTold = true;
                newSoaked = n[0];
            }
        }
        people = newPeople;
        soaked = newSoaked;
        things = fresh;
        text.setLength(0);
        past.clear();
        found.clear();
        images.clear();
        return items;
    }

    int cell(int cell, int what) {
        if (!isCell(cell) || !in(what, 0, 3)) {
            return -1;
        }
        int bits = 0;
        for (int p = 0; p < people.size(); p++) {
            bits += things.where.get(p) == cell ? 1 << p : 0;
        }
        return new int[] {things.deepAt(cell), things.toes.getOrDefault(cell, -9), bits, gone(cell)}[what];
    }

    private int gone(int cell) {
        int rains = 0;
        for (int left = things.deepAt(cell); left > 0; left -= soaked) {
            rains++;
        }
        return rains;
    }

    int person(int p, int what) {
        if (!isPerson(p) || !in(what, 0, 2)) {
            return -1;
        }
        return what == 0 ? things.where.get(p) : people.get(p)[what - 1];
    }

    int now(int what) {
        int lines = 0;
        for (int line = 0; line < 6; line++) {
            lines += passes(line) ? 1 << line : 0;
        }
        int wide = 0;
        int low = -9;
        for (int x = 0; x < 6; x++) {
            for (int y = 0; y < 6; y++) {
                int w = wideAt(x, y);
                if (w > wide) {
                    wide = w;
                    low = 10 * x + y;
                }
            }
        }
        int deep = things.deep.values().stream().mapToInt(n -> n).sum();
        int[] all = {deep, things.saved, things.voted, things.passed, lines, wide, low, past.size()};
        return in(what, 0, 7) ? all[what] : -1;
    }

    private int wideAt(int x, int y) {
        for (int w = 1; w <= 6; w++) {
            for (int i = 0; i < w; i++) {
                if (x + w > 6 || y + w > 6 || things.deepAt(10 * (x + w - 1) + y + i) > 0
                    || things.deepAt(10 * (x + i) + y + w - 1) > 0) {
                    return w - 1;
                }
            }
        }
        return 6;
    }

    private boolean passes(int line) {
        int with = 0;
        int against = 0;
        for (int p = 0; p < people.size(); p++) {
            with += things.where.get(p) / 10 < line ? people.get(p)[1] : 0;
            against += things.where.get(p) / 10 > line ? people.get(p)[1] : 0;
        }
        return with > against;
    }

    private void remember() {
        past.add(things.copy());
        if (past.size() > 10) {
            past.remove(0);
        }
    }

    private static int beside(int cell, int side) {
        int x = cell / 10 + DX[side];
        int y = cell % 10 + DY[side];
        return in(x, 0, 5) && in(y, 0, 5) ? 10 * x + y : -1;
    }

    int walks(int p, int side) {
        if (!isPerson(p) || !in(side, 0, 3)) {
            return -1;
        }
        int next = beside(things.where.get(p), side);
        if (next < 0) {
            return -2;
        }
        remember();
        things.where.set(p, next);
        return print(p, side);
    }

    private int print(int p, int side) {
        int cell = things.where.get(p);
        things.toes.put(cell, side);
        things.deep.put(cell, Math.min(9, things.deepAt(cell) + people.get(p)[0]));
        return things.deepAt(cell);
    }

    int stands(int p, int side) {
        if (!isPerson(p) || !in(side, 0, 3)) {
            return -1;
        }
        remember();
        return print(p, side);
    }

    int rains() {
        remember();
        int dried = 0;
        for (int cell : new ArrayList<>(things.deep.keySet())) {
            int before = things.deepAt(cell);
            int after = Math.max(0, before - soaked);
            things.deep.put(cell, after);
            dried += before > 0 && after == 0 ? 1 : 0;
        }
        things.toes.keySet().removeIf(cell -> things.deepAt(cell) == 0);
        return dried;
    }

    private static int[] tray(int x, int y) {
        int cell = 10 * x + y;
        return new int[] {cell, cell + 1, cell + 10, cell + 11};
    }

    int lifts(int x, int y) {
        if (!in(x, 0, 4) || !in(y, 0, 4)) {
            return -1;
        }
        int sum = 0;
        for (int cell : tray(x, y)) {
            sum += things.deepAt(cell);
        }
        if (sum == 0) {
            return -2;
        }
        remember();
        for (int cell : tray(x, y)) {
            things.deep.remove(cell);
            things.toes.remove(cell);
        }
        things.saved = Math.min(999, things.saved + sum);
        return sum;
    }

    int votes(int line) {
        if (!in(line, 0, 5)) {
            return -1;
        }
        remember();
        things.voted++;
        things.passed += passes(line) ? 1 : 0;
        return passes(line) ? 1 : 0;
    }

    int undo() {
        if (past.isEmpty()) {
            return -2;
        }
        things = past.remove(past.size() - 1);
        return past.size();
    }

    int power(int p, int quota) {
        if (!isPerson(p) || !in(quota, 1, 45)) {
            return -1;
        }
        // ways[n]: how many sets of the others have n voices
        int[] ways = new int[46];
        ways[0] = 1;
        for (int o = 0; o < people.size(); o++) {
            for (int n = 45; o != p && n >= 0; n--) {
                int v = people.get(o)[1];
                ways[n] += n >= v ? ways[n - v] : 0;
            }
        }
        int sets = 0;
        for (int n = Math.max(0, quota - people.get(p)[1]); n < quota; n++) {
            sets += ways[n];
        }
        return sets;
    }

    private int most;
    private List<Integer> mostRow;

    int best(int k, int i) {
        if (!in(k, 1, 3) || !in(i, -1, 2)) {
            return -1;
        }
        most = -1;
        rows(k, 0, 0, new ArrayList<>());
        return i == -1 ? most : i < k ? mostRow.get(i) : -9;
    }

    private void rows(int k, int next, int sum, List<Integer> row) {
        if (row.size() == k) {
            if (sum > most) {
                most = sum;
                mostRow = new ArrayList<>(row);
            }
            return;
        }
        for (int tray = next; tray <= 44; tray++) {
            if (tray % 10 > 4) {
                continue;
            }
            boolean free = true;
            int more = 0;
            for (int cell : tray(tray / 10, tray % 10)) {
                more += things.deepAt(cell);
                for (int other : row) {
                    for (int taken : tray(other / 10, other % 10)) {
                        free &= taken != cell;
                    }
                }
            }
            if (free) {
                row.add(tray);
                rows(k, tray + 1, sum + more, row);
                row.remove(row.size() - 1);
            }
        }
    }

    int way(int p, int cell) {
        if (!isPerson(p) || !isCell(cell)) {
            return -1;
        }
        Map<Integer, Integer> steps = new HashMap<>();
        steps.put(things.where.get(p), 0);
        for (int round = 1; round <= 36; round++) {
            for (int from : new ArrayList<>(steps.keySet())) {
                for (int side = 0; side < 4; side++) {
                    int to = beside(from, side);
                    if (to >= 0 && things.deepAt(to) == 0 && steps.get(from) == round - 1) {
                        steps.putIfAbsent(to, round);
                    }
                }
            }
        }
        return steps.getOrDefault(cell, -9);
    }

    int odds(int cell, int x, int n, int what) {
        if (!isCell(cell) || !in(x, 0, 10) || !in(n, 0, 8) || !in(what, 0, 1)) {
            return -1;
        }
        BigInteger upper = BigInteger.valueOf(chances(things.deepAt(cell), x, n));
        BigInteger lower = BigInteger.TEN.pow(n);
        BigInteger part = upper.gcd(lower);
        return (what == 0 ? upper : lower).divide(part).intValueExact();
    }

    private long chances(int deep, int x, int n) {
        if (deep <= 0) {
            return 0;
        }
        return n == 0 ? 1 : x * chances(deep - soaked, x, n - 1) + (10 - x) * chances(deep, x, n - 1);
    }

    int found(int elsewhere, int n) {
        if (!in(elsewhere, 0, (1 << people.size()) - 1) || !in(n, 1, 9)) {
            return -1;
        }
        if (found.size() == 6) {
            return -3;
        }
        found.add(new int[] {elsewhere, n});
        return found.size();
    }

    int forget() {
        int n = found.size();
        found.clear();
        return n;
    }

    private List<Integer> sets() {
        List<Integer> sets = new ArrayList<>();
        for (int set = 0; set < 1 << people.size(); set++) {
            boolean fits = true;
            for (int[] f : found) {
                int deep = 0;
                for (int p = 0; p < people.size(); p++) {
                    boolean there = (set >> p & 1) == 1 && (f[0] >> p & 1) == 0;
                    deep = Math.min(9, deep + (there ? people.get(p)[0] : 0));
                }
                fits &= deep == f[1];
            }
            if (fits) {
                sets.add(set);
            }
        }
        return sets;
    }

    int can(int what) {
        List<Integer> sets = sets();
        if (what == 0) {
            return sets.size();
        } else if (what == 1) {
            return sets.stream().reduce((a, b) -> a & b).orElse(-9);
        } else if (what == 2) {
            return sets.stream().reduce(0, (a, b) -> a | b);
        }
        return -1;
    }

    int ask() {
        List<Integer> sets = sets();
        int chosen = -9;
        long least = Long.MAX_VALUE;
        for (int p = people.size() - 1; p >= 0 && sets.size() > 1; p--) {
            int bit = 1 << p;
            long with = sets.stream().filter(s -> (s & bit) != 0).count();
            long greater = Math.max(with, sets.size() - with);
            if (greater <= least) {
                least = greater;
                chosen = p;
            }
        }
        return chosen;
    }

    int rate(int kind, int p) {
        if (!in(kind, 0, 5) || !isPerson(p)) {
            return -1000000;
        }
        int weight = people.get(p)[0];
        int voices = people.get(p)[1];
        int deep = things.deepAt(things.where.get(p));
        trace += new int[] {1, 11, 101, 1011, 10101, 100001}[kind];
        return new int[] {weight, weight + voices, weight - deep, 2 * (weight + voices), weight - deep + p,
            weight + things.voted}[kind];
    }

    int keep(int image) {
        if (!in(image, 0, 1)) {
            return -1;
        }
        images.put(image, things.copy());
        return things.saved;
    }

    int back(int image) {
        if (!in(image, 0, 1)) {
            return -1;
        }
        if (!images.containsKey(image)) {
            return -2;
        }
        things = images.get(image).copy();
        past.clear();
        return things.saved;
    }

    int count(int what) {
        int[] all = {people.size(), soaked, found.size(), text.length()};
        return in(what, 0, 3) ? all[what] : -1;
    }

    long trace() {
        return trace;
    }
}
