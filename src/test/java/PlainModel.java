import java.math.BigInteger;
import java.util.ArrayList;
import java.util.HashMap;
import java.util.List;
import java.util.Map;
import java.util.regex.Matcher;
import java.util.regex.Pattern;

/**
 * The document once more, written to be read beside it and not to be quick: every set, way and subset is tried.
 * It shares nothing with the program, so that a slip in one of them shows.
 */
final class PlainModel {
    private static final int BAD = -1, STATE = -2, FULL = -3, NONE = -9, NO = -1000000;

    /** What an image keeps. */
    private static final class Moment {
        int day, hour, lapses;
        List<Integer> tired = new ArrayList<>(), called = new ArrayList<>(), slept = new ArrayList<>();

        Moment copy() {
            Moment m = new Moment();
            m.day = day;
            m.hour = hour;
            m.lapses = lapses;
            m.tired.addAll(tired);
            m.called.addAll(called);
            m.slept.addAll(slept);
            return m;
        }
    }

    private final StringBuilder text = new StringBuilder();
    private int districts = 1, quota = 1;
    private int[] beds = {6, 6, 6, 6};
    private boolean[][] road = new boolean[4][4];
    private List<int[]> citizens = new ArrayList<>(), noises = new ArrayList<>();
    private Moment now = new Moment();
    private List<Moment> past = new ArrayList<>();
    private Moment[] images = new Moment[2];
    private List<int[]> counts = new ArrayList<>();
    private long trace = 0;

    int type(int letter) {
        if (letter < 0 || letter > 255) return BAD;
        if (text.length() == 200) return FULL;
        return text.append((char) letter).length();
    }

    int clear() {
        int had = text.length();
        text.setLength(0);
        return had;
    }

    // ---- the text

    private static final Pattern TOKEN = Pattern.compile("[0-9]+|[^ ]", Pattern.DOTALL);
    private static final Map<String, String> NUMBERS = new HashMap<>();
    static {
        NUMBERS.put("d", "n");
        NUMBERS.put("q", "6");
        NUMBERS.put("e", "DU");
        NUMBERS.put("b", "D6");
        NUMBERS.put("c", "DTW9");
        NUMBERS.put("n", "DH9");
    }

    int city() {
        List<String> tokens = new ArrayList<>();
        List<Integer> places = new ArrayList<>();
        Matcher m = TOKEN.matcher(text);
        while (m.find()) {
            tokens.add(m.group());
            places.add(m.start());
        }
        places.add(text.length());
        List<List<String>> items = new ArrayList<>();
        int at = 0;
        int known = 1;
        while (at < tokens.size()) {
            String letter = tokens.get(at);
            String form = NUMBERS.get(letter);
            if (form == null || !mayBegin(letter, items)) return -10 - places.get(at);
            List<String> item = new ArrayList<>();
            item.add(letter);
            for (int k = 0; k < form.length(); k++) {
                at++;
                if (at == tokens.size() || !mayStand(tokens.get(at), form.charAt(k), known, item)) return -10 - places.get(at);
                item.add(tokens.get(at));
            }
            at++;
            if (at == tokens.size() || !tokens.get(at).equals(";")) return -10 - places.get(at);
            at++;
            items.add(item);
            if (letter.equals("d")) known = Integer.parseInt(item.get(1));
        }
        apply(items);
        return items.size();
    }

    private static boolean mayBegin(String letter, List<List<String>> items) {
        int same = 0;
        for (List<String> item : items) if (item.get(0).equals(letter)) same++;
        if (letter.equals("d")) return items.isEmpty();
        if (letter.equals("q")) return same == 0;
        if (letter.equals("c") || letter.equals("n")) return same < 6;
        return true;
    }

    private static boolean mayStand(String token, char form, int known, List<String> item) {
        if (!token.matches("0|[1-9][0-9]*")) return false;
        BigInteger big = new BigInteger(token);
        if (big.bitLength() > 8) return false;
        int v = big.intValue();
        switch (form) {
            case 'n': return v >= 1 && v <= 4;
            case '6': return v <= 6;
            case 'D': return v < known;
            case 'U': return v < known && v != Integer.parseInt(item.get(1));
            case 'T': return v <= 20;
            case 'W': return true;
            case 'H': return v <= 7;
            default: return v >= 1 && v <= 9;
        }
    }

    private void apply(List<List<String>> items) {
        text.setLength(0);
        districts = 1;
        quota = 1;
        beds = new int[] {6, 6, 6, 6};
        road = new boolean[4][4];
        citizens = new ArrayList<>();
        noises = new ArrayList<>();
        now = new Moment();
        past = new ArrayList<>();
        images = new Moment[2];
        counts = new ArrayList<>();
        for (List<String> item : items) {
            int[] v = new int[item.size() - 1];
            for (int i = 0; i < v.length; i++) v[i] = Integer.parseInt(item.get(i + 1));
            switch (item.get(0)) {
                case "d": districts = v[0]; break;
                case "q": quota = v[0]; break;
                case "e": road[v[0]][v[1]] = road[v[1]][v[0]] = true; break;
                case "b": beds[v[0]] = v[1]; break;
                case "c": citizens.add(v); break;
                default: noises.add(v);
            }
        }
        now = beginning();
    }

    private Moment beginning() {
        Moment m = new Moment();
        for (int[] c : citizens) {
            m.tired.add(c[1]);
            m.called.add(0);
            m.slept.add(0);
        }
        return m;
    }

    int district(int d, int what) {
        if (d < 0 || d >= districts || what < 0 || what > 1) return BAD;
        if (what == 0) return beds[d];
        int bits = 0;
        for (int e = 0; e < districts; e++) if (road[d][e]) bits += 1 << e;
        return bits;
    }

    int citizen(int c, int what) {
        if (c < 0 || c >= citizens.size() || what < 0 || what > 5) return BAD;
        if (what == 1) return now.tired.get(c);
        if (what == 4) return now.called.get(c);
        if (what == 5) return now.slept.get(c);
        return citizens.get(c)[what];
    }

    int noise(int i, int what) {
        if (i < 0 || i >= noises.size() || what < 0 || what > 2) return BAD;
        return noises.get(i)[what];
    }

    int now(int what) {
        if (what < 0 || what > 5) return BAD;
        if (what == 0) return now.day;
        if (what == 1) return now.hour;
        if (what == 2) return now.lapses;
        if (what == 5) return past.size();
        int found = NONE;
        for (int c = citizens.size() - 1; c >= 0; c--) {
            boolean best = true;
            for (int other : now.slept) {
                best &= what == 3 ? now.slept.get(c) >= other : now.slept.get(c) <= other;
            }
            if (best) found = c;
        }
        return found;
    }

    // ---- hours

    int calls(int c, int hours) {
        if (c < 0 || c >= citizens.size() || hours < 0 || hours > 255) return BAD;
        known();
        return now.called.set(c, hours);
    }

    int hour() {
        if (now.day == 99) return STATE;
        known();
        return goBy(now, -1, -1, noises, null);
    }

    int undo() {
        if (past.isEmpty()) return STATE;
        now = past.remove(past.size() - 1);
        return past.size();
    }

    private void known() {
        past.add(now.copy());
        if (past.size() > 10) past.remove(0);
    }

    /** An hour goes by; called: the set called for it instead of what they are called for, or null. */
    private int goBy(Moment m, int absent, int sham, List<int[]> heard, Integer called) {
        int[] left = beds.clone();
        int asleep = 0;
        for (int c = 0; c < citizens.size(); c++) {
            int[] who = citizens.get(c);
            int calledNow = called == null ? m.called.get(c) / (1 << m.hour) % 2 : called / (1 << c) % 2;
            int worksNow = who[2] / (1 << m.hour) % 2;
            if (c == absent || calledNow == 0 || worksNow == 1 || m.tired.get(c) < 1 || left[who[0]] == 0) continue;
            left[who[0]]--;
            boolean woken = c == sham;
            for (int[] noise : heard) woken |= noise[0] == who[0] && noise[1] == m.hour && noise[2] > who[3];
            if (!woken) asleep += 1 << c;
        }
        int many = 0;
        for (int c = 0; c < citizens.size(); c++) {
            if (asleep / (1 << c) % 2 == 1) {
                many++;
                m.slept.set(c, m.slept.get(c) + 1);
                m.tired.set(c, m.tired.get(c) < 2 ? 0 : m.tired.get(c) - 2);
            } else if (m.tired.get(c) < 20) {
                m.tired.set(c, m.tired.get(c) + 1);
            }
        }
        if (many < quota) m.lapses++;
        if (m.hour == 7) m.day++;
        m.hour = (m.hour + 1) % 8;
        return asleep;
    }

    private boolean lapsesOnce(List<int[]> heard) {
        Moment m = now.copy();
        goBy(m, -1, -1, heard, null);
        return m.lapses > now.lapses;
    }

    int asleepIn(int n) {
        if (n < 0 || n > 80) return BAD;
        Moment m = now.copy();
        for (int i = 0; i < n; i++) goBy(m, -1, -1, noises, null);
        return goBy(m, -1, -1, noises, null);
    }

    int lapse() {
        Moment m = now.copy();
        for (int i = 0; i <= 80; i++) {
            goBy(m, -1, -1, noises, null);
            if (m.lapses > now.lapses) return i;
        }
        return NONE;
    }

    // ---- the call-up: every row of sets is tried

    private int fewest;
    private int[] best;

    int callUp(int n, int i) {
        if (n < 1 || n > 3 || i < -1) return BAD;
        if (i >= n) return -5;
        fewest = Integer.MAX_VALUE;
        best = null;
        tryRows(now, 0, n, new int[n], 0);
        if (best == null) return NONE;
        return i == -1 ? fewest : best[i];
    }

    private void tryRows(Moment from, int h, int n, int[] row, int sum) {
        if (h == n) {
            if (sum < fewest) {
                fewest = sum;
                best = row.clone();
            }
            return;
        }
        for (int set = 0; set < 1 << citizens.size(); set++) {
            Moment m = from.copy();
            goBy(m, -1, -1, noises, set);
            row[h] = set;
            if (m.lapses == now.lapses) tryRows(m, h + 1, n, row, sum + Integer.bitCount(set));
        }
    }

    int bears() {
        int bits = 0;
        for (int c = 0; c < citizens.size(); c++) {
            if (!lapsesInEight(-1) && !lapsesInEight(c)) bits += 1 << c;
        }
        return bits;
    }

    private boolean lapsesInEight(int absent) {
        Moment m = now.copy();
        for (int i = 0; i < 8; i++) goBy(m, absent, -1, noises, null);
        return m.lapses > now.lapses;
    }

    // ---- carts: every way that is in no district twice is tried

    private int[] bestWay;

    int cart(int from, int to, int v, int what) {
        if (from < 0 || from >= districts || to < 0 || to >= districts || v < 1 || v > 9 || what < 0 || what > 1) return BAD;
        bestWay = null;
        List<Integer> way = new ArrayList<>();
        way.add(from);
        tryWays(way, to, v, goBy(now.copy(), -1, -1, noises, null));
        return bestWay == null ? NONE : bestWay[what];
    }

    private void tryWays(List<Integer> way, int to, int v, int asleep) {
        int last = way.get(way.size() - 1);
        if (last == to) {
            int woken = 0;
            for (int c = 0; c < citizens.size(); c++) {
                if (asleep / (1 << c) % 2 == 1 && way.contains(citizens.get(c)[0]) && citizens.get(c)[3] < v) woken++;
            }
            int roads = way.size() - 1;
            if (bestWay == null || woken < bestWay[0] || woken == bestWay[0] && roads < bestWay[1]) bestWay = new int[] {woken, roads};
            return;
        }
        for (int d = 0; d < districts; d++) {
            if (road[last][d] && !way.contains(d)) {
                way.add(d);
                tryWays(way, to, v, asleep);
                way.remove(way.size() - 1);
            }
        }
    }

    int drum(int d) {
        if (d < 0 || d >= districts) return BAD;
        int greatest = NONE;
        for (int loud = 0; loud <= 9; loud++) {
            List<int[]> heard = new ArrayList<>(noises);
            heard.add(new int[] {d, now.hour, loud});
            if (!lapsesOnce(heard)) greatest = loud;
        }
        return greatest;
    }

    int wants(int d) {
        if (d < 0 || d >= districts) return BAD;
        int could = 0;
        for (int c = 0; c < citizens.size(); c++) {
            int hour = 1 << now.hour;
            if (citizens.get(c)[0] == d && (now.called.get(c) & hour) != 0 && (citizens.get(c)[2] & hour) == 0 && now.tired.get(c) >= 1) could++;
        }
        for (int many = 0; many <= 6; many++) if (could <= many) return many;
        return 6;
    }

    int counted(int i, int many) {
        if (i < 0 || i > 20 || many < 0 || many > 6) return BAD;
        if (counts.size() == 6) return FULL;
        counts.add(new int[] {i, many});
        return counts.size();
    }

    int forget() {
        int had = counts.size();
        counts = new ArrayList<>();
        return had;
    }

    int sham() {
        int bits = 0;
        for (int c = 0; c < citizens.size(); c++) {
            Moment m = beginning();
            m.called = new ArrayList<>(now.called);
            int[] asleep = new int[21];
            for (int i = 0; i <= 20; i++) asleep[i] = Integer.bitCount(goBy(m, -1, c, noises, null));
            boolean so = true;
            for (int[] count : counts) so &= asleep[count[0]] == count[1];
            if (so) bits += 1 << c;
        }
        return bits;
    }

    int odds(int p, int what) {
        if (p < 0 || p > 10 || what < 0 || what > 1) return BAD;
        List<int[]> maybe = new ArrayList<>();
        for (int[] noise : noises) if (noise[1] == now.hour) maybe.add(noise);
        BigInteger upper = BigInteger.ZERO;
        for (int set = 0; set < 1 << maybe.size(); set++) {
            List<int[]> heard = new ArrayList<>();
            BigInteger weight = BigInteger.ONE;
            for (int i = 0; i < maybe.size(); i++) {
                boolean there = set / (1 << i) % 2 == 1;
                if (there) heard.add(maybe.get(i));
                weight = weight.multiply(BigInteger.valueOf(there ? p : 10 - p));
            }
            if (!lapsesOnce(heard)) upper = upper.add(weight);
        }
        BigInteger lower = BigInteger.TEN.pow(maybe.size());
        BigInteger common = upper.gcd(lower);
        return (what == 0 ? upper : lower).divide(common).intValue();
    }

    int rate(int kind, int c) {
        if (kind < 0 || kind > 5 || c < 0 || c >= citizens.size()) return NO;
        int[] added = {1, 10, 100, 1000, 10000, 100000};
        int[] above = {0, 0, 0, 1, 2, 0};
        trace += added[kind];
        if (kind == 0) return now.tired.get(c);
        int up = rate(above[kind], c);
        switch (kind) {
            case 1: return up + Integer.bitCount(citizens.get(c)[2]);
            case 2: return up - citizens.get(c)[3];
            case 3: return up * 2;
            case 4: return up + c;
            default: return up + now.slept.get(c);
        }
    }

    int keep(int image) {
        if (image < 0 || image > 1) return BAD;
        images[image] = now.copy();
        return now.day;
    }

    int back(int image) {
        if (image < 0 || image > 1) return BAD;
        if (images[image] == null) return STATE;
        now = images[image].copy();
        past.clear();
        return now.day;
    }

    int count(int what) {
        int[] all = {districts, quota, citizens.size(), noises.size(), counts.size(), text.length()};
        return what < 0 || what > 5 ? BAD : all[what];
    }

    long trace() {
        return trace;
    }
}
