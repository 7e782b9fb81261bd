import java.math.BigInteger;
import java.util.ArrayList;
import java.util.Arrays;
import java.util.List;
import java.util.Random;
import java.util.regex.Matcher;
import java.util.regex.Pattern;

/**
 * Long runs of calls by chance (from told seeds), each answer against a model that is written anew from
 * the document: its kinds say "as a ..", its questions are answered by copies of the whole state.
 */
public final class ModelRunsTest {
    static final int BEYOND = -1000001;
    static final int FULL = BEYOND - 1;
    static final int KIND = BEYOND - 2;
    static final int NONE = BEYOND - 3;
    static final int STATE = BEYOND - 4;
    static final int MISSING = BEYOND - 5;
    static final int SIZE = BEYOND - 6;

    // ---- the model

    static final class One {
        int[] v = {0, 10, 2, 0, 0, 0, 0};

        One copy() {
            One o = new One();
            o.v = v.clone();
            return o;
        }
    }

    static int cries(int kind, One o, World w) {
        switch (kind) {
            case 0: return o.v[1] / 10;
            case 1: return cries(0, o, w) + (w.onions > 0 ? 3 : 0);
            case 2: return 2 * cries(0, o, w);
            case 3: return cries(2, o, w) + 2;
            case 4: return o.v[5] >= 50 ? 0 : cries(3, o, w);
            default: return 0;
        }
    }

    static int weathers(int kind, One o, int rain, int sun) {
        switch (kind) {
            case 0: return (o.v[2] * rain) / 2 + (o.v[2] > 0 ? sun : 0);
            case 1: return weathers(0, o, rain, sun);
            case 2: return weathers(0, o, rain, sun) / 2;
            case 3:
            case 4: return weathers(2, o, rain, sun);
            case 5: return Math.max(0, weathers(0, o, rain, sun) - sun);
            default: return (rain >= 8 ? 2 : 1) * weathers(1, o, rain, sun);
        }
    }

    static int needs(int kind) {
        switch (kind) {
            case 0: return 40;
            case 1: return needs(0) - 10;
            case 2: return needs(0) + 10;
            case 3: return needs(2);
            case 4: return 30;
            case 5: return 60;
            default: return needs(1) + 20;
        }
    }

    static int tint(int kind, One o) {
        switch (kind) {
            case 2: return (tint(0, o) + 3) % 8;
            case 3: return tint(2, o);
            case 4: return o.v[1] >= 50 ? 1 : 0;
            case 6: return o.v[3] >= 100 ? 7 : tint(1, o);
            default: return o.v[3] / 10 % 8;
        }
    }

    static int fetches(int kind, One o) {
        switch (kind) {
            case 0: return 10 + o.v[4];
            case 1: return 5;
            case 2: return fetches(0, o) + 10;
            case 3: return fetches(2, o);
            case 4: return 3 * fetches(3, o);
            case 5: return fetches(0, o) - 9;
            default: return 2 * fetches(1, o) + (o.v[4] == 7 ? 90 : 0);
        }
    }

    static int heals(int kind) {
        switch (kind) {
            case 0: return 1;
            case 1: return heals(0) + 1;
            case 2: return heals(0);
            case 3: return 0;
            case 4: return heals(3);
            case 5: return heals(0) + 4;
            default: return heals(1);
        }
    }

    static final String[] UP = {"0", "01", "02", "023", "0234", "05", "016"};

    static final class World {
        int[] list = new int[6];
        int onions = 0;
        int sold = 0;
        int day = 0;
        int z = 1;
        List<One> all = new ArrayList<>();
        int[] spots = {-1, -1, -1, -1, -1, -1, -1, -1, -1, -1};

        World copy() {
            World w = new World();
            w.list = list.clone();
            w.onions = onions;
            w.sold = sold;
            w.day = day;
            w.z = z;
            for (One o : all) {
                w.all.add(o.copy());
            }
            w.spots = spots.clone();
            return w;
        }

        World after(int days) {
            World w = copy();
            for (int i = 0; i < days; i++) {
                w.pass();
            }
            return w;
        }

        void pass() {
            int today = list[day % 6];
            for (One o : all) {
                int more = cries(o.v[0], o, this) + weathers(o.v[0], o, today / 10, today % 10);
                if (o.v[0] == 1 && onions > 0) {
                    onions--;
                }
                o.v[3] = Math.min(999, o.v[3] + more);
                o.v[1] = Math.max(0, o.v[1] - heals(o.v[0]));
            }
            if (day % 7 == 6) {
                for (One o : all) {
                    if (o.v[3] >= needs(o.v[0])) {
                        o.v[4] = tint(o.v[0], o);
                        o.v[5] = Math.min(9999, o.v[5] + 1);
                        sold = Math.min(99999, sold + fetches(o.v[0], o));
                    } else {
                        o.v[6] = Math.min(9999, o.v[6] + 1);
                        o.v[1] = Math.min(99, o.v[1] + 15);
                    }
                    o.v[3] = 0;
                }
            }
            day = Math.min(99999, day + 1);
        }

        int draw() {
            z = z * 1103515245 + 12345;
            return z >>> 8;
        }

        int sum(int what) {
            return all.stream().mapToInt(o -> o.v[what]).sum();
        }

        boolean hasPotOf(int colour) {
            return all.stream().anyMatch(o -> o.v[5] > 0 && o.v[4] == colour);
        }
    }

    static final class Model {
        World w = new World();
        World kept = null;
        StringBuilder tape = new StringBuilder();
        int[] bits = new int[4];
        int[][] rows = new int[4][];
        int[] found = new int[7];

        int find(int finding) {
            found[BEYOND - finding]++;
            return finding;
        }

        boolean no(int v, int least, int most) {
            return v < least || v > most;
        }

        boolean noOne(int p) {
            return no(p, 0, w.all.size() - 1);
        }

        World with(int p, int what, int v) {
            World c = w.copy();
            c.all.get(p).v[what] = v;
            return c;
        }

        boolean told(World c, int s, int p) {
            for (int k = 0; k < Math.min(10, rows[s].length); k++) {
                int t = rows[s][k];
                if (t != -1 && c.after(7 * k).all.get(p).v[4] != t) {
                    return false;
                }
            }
            return true;
        }

        static final int[] LIMITS = {6, 99, 9, 999, 7, 9999, 9999};

        long answer(String name, int[] a) {
            switch (name) {
                case "weather": {
                    if (no(a[0], 0, 5) || no(a[1], 0, 99)) return find(BEYOND);
                    int was = w.list[a[0]];
                    w.list[a[0]] = a[1];
                    return was;
                }
                case "listed": return no(a[0], 0, 5) ? find(BEYOND) : w.list[a[0]];
                case "onions": {
                    if (no(a[0], 0, 99)) return find(BEYOND);
                    int was = w.onions;
                    w.onions = a[0];
                    return was;
                }
                case "potter": {
                    if (no(a[0], 0, 6) || no(a[1], 0, 99)) return find(BEYOND);
                    if (w.all.size() == 8) return find(FULL);
                    One o = new One();
                    o.v[0] = a[0];
                    o.v[1] = a[1];
                    w.all.add(o);
                    return w.all.size() - 1;
                }
                case "of": {
                    if (noOne(a[0]) || no(a[1], 0, 12)) return find(BEYOND);
                    One o = w.all.get(a[0]);
                    int today = w.list[w.day % 6];
                    int k = o.v[0];
                    if (a[1] < 7) return o.v[a[1]];
                    return new int[] {cries(k, o, w), weathers(k, o, today / 10, today % 10), needs(k), tint(k, o),
                        fetches(k, o), heals(k)}[a[1] - 7];
                }
                case "change": {
                    if (noOne(a[0]) || no(a[1], 0, 6) || no(a[2], 0, LIMITS[a[1]])) return find(BEYOND);
                    int was = w.all.get(a[0]).v[a[1]];
                    w.all.get(a[0]).v[a[1]] = a[2];
                    return was;
                }
                case "go": {
                    if (no(a[0], 1, 60)) return find(BEYOND);
                    if (w.day + a[0] > 99999) return find(STATE);
                    w = w.after(a[0]);
                    return w.sold;
                }
                case "now": return now(a[0]);
                case "ahead":
                    if (noOne(a[0]) || !"13456".contains("" + a[1]) || no(a[2], 0, 100)) return find(BEYOND);
                    return w.after(a[2]).all.get(a[0]).v[a[1]];
                case "sold": return no(a[0], 0, 100) ? find(BEYOND) : w.after(a[0]).sold;
                default: return answerMore(name, a);
            }
        }

        long now(int what) {
            int set = 0;
            switch (what) {
                case 0: return w.day;
                case 1: return w.sold;
                case 2: return w.onions;
                case 3: return w.sum(5);
                case 4: return w.sum(6);
                case 5:
                    for (int c = 0; c < 8; c++) set += w.hasPotOf(c) ? 1 << c : 0;
                    return set;
                case 6:
                    for (int p = 0; p < w.all.size(); p++) {
                        set += w.all.get(p).v[3] >= needs(w.all.get(p).v[0]) ? 1 << p : 0;
                    }
                    return set;
                case 7: {
                    int best = w.all.isEmpty() ? -1 : 0;
                    for (int p = 1; p < w.all.size(); p++) {
                        if (w.all.get(p).v[3] > w.all.get(best).v[3]) best = p;
                    }
                    return best;
                }
                default: return find(BEYOND);
            }
        }

        long answerMore(String name, int[] a) {
            switch (name) {
                case "when":
                    if (noOne(a[0]) || no(a[1], 0, 9999)) return find(BEYOND);
                    return firstDay(0, c -> c.all.get(a[0]).v[5] >= a[1]);
                case "cracks":
                    if (noOne(a[0])) return find(BEYOND);
                    return firstDay(1, c -> c.all.get(a[0]).v[6] > w.all.get(a[0]).v[6]);
                case "tinted":
                    if (noOne(a[0]) || no(a[1], 0, 7)) return find(BEYOND);
                    return firstDay(0, c -> c.all.get(a[0]).v[5] > 0 && c.all.get(a[0]).v[4] == a[1]);
                case "hoursFor":
                    if (noOne(a[0]) || no(a[1], 0, 9999) || no(a[2], 0, 60)) return find(BEYOND);
                    for (int h = 0; h < 10; h++) if (with(a[0], 2, h).after(a[2]).all.get(a[0]).v[5] >= a[1]) return h;
                    return find(NONE);
                case "kindFor": {
                    if (noOne(a[0]) || no(a[1], 0, 60)) return find(BEYOND);
                    int best = 0;
                    for (int k = 1; k < 7; k++) {
                        if (with(a[0], 0, k).after(a[1]).sold > with(a[0], 0, best).after(a[1]).sold) best = k;
                    }
                    return best;
                }
                case "griefFor":
                    if (noOne(a[0]) || no(a[1], 0, 60)) return find(BEYOND);
                    for (int g = 0; g < 100; g++) {
                        if (with(a[0], 1, g).after(a[1]).all.get(a[0]).v[6] == w.all.get(a[0]).v[6]) return g;
                    }
                    return find(NONE);
                case "weatherFor": {
                    if (no(a[0], 0, 5) || no(a[1], 0, 40)) return find(BEYOND);
                    int[] sold = new int[100];
                    for (int v = 0; v < 100; v++) {
                        World c = w.copy();
                        c.list[a[0]] = v;
                        sold[v] = c.after(a[1]).sold;
                    }
                    int most = Arrays.stream(sold).max().getAsInt();
                    for (int v = 0; v < 100; v++) if (sold[v] == most) return v;
                    return -7;
                }
                case "onionsFor":
                    if (no(a[0], 0, 99999) || no(a[1], 0, 40)) return find(BEYOND);
                    for (int v = 0; v < 100; v++) {
                        World c = w.copy();
                        c.onions = v;
                        if (c.after(a[1]).sold >= a[0]) return v;
                    }
                    return find(NONE);
                case "stayIn": return no(a[0], 0, 7) || no(a[1], 0, 20) ? find(BEYOND) : stayIn(a[0], a[1]);
                default: return answerTold(name, a);
            }
        }

        interface Asked {
            boolean is(World c);
        }

        long firstDay(int from, Asked asked) {
            World c = w.after(from);
            for (int d = from; d <= 200; d++) {
                if (asked.is(c)) return d;
                c.pass();
            }
            return find(NONE);
        }

        long stayIn(int colour, int n) {
            int best = -1;
            for (int set = 0; set < 1 << w.all.size(); set++) {
                World c = w.copy();
                for (int p = 0; p < w.all.size(); p++) if ((set & 1 << p) != 0) c.all.get(p).v[2] = 0;
                boolean isFewer = best < 0 || Integer.bitCount(set) < Integer.bitCount(best);
                if (isFewer && !c.after(n).hasPotOf(colour)) best = set;
            }
            return best < 0 ? find(NONE) : best;
        }

        long answerTold(String name, int[] a) {
            switch (name) {
                case "fits":
                case "grief":
                case "kinds": {
                    if (no(a[0], 0, 3)) return find(BEYOND);
                    if (rows[a[0]] == null) return find(MISSING);
                    if (noOne(a[1])) return find(BEYOND);
                    if (name.equals("kinds")) {
                        int set = 0;
                        for (int k = 0; k < 7; k++) set |= told(with(a[1], 0, k), a[0], a[1]) ? 1 << k : 0;
                        return set;
                    }
                    List<Integer> fit = new ArrayList<>();
                    for (int g = 0; g < 100; g++) if (told(with(a[1], 1, g), a[0], a[1])) fit.add(g);
                    return name.equals("fits") ? fit.size() : fit.isEmpty() ? find(NONE) : fit.get(0);
                }
                case "storms": {
                    if (no(a[0], 1, 20)) return find(BEYOND);
                    if (w.day + a[0] > 99999) return find(STATE);
                    for (int i = 0; i < a[0]; i++) {
                        w.list[w.day % 6] = w.draw() % 100;
                        int p = w.draw() % 8;
                        if (p < w.all.size()) w.all.get(p).v[2] = 9;
                        w.pass();
                    }
                    return w.sold;
                }
                case "odds": {
                    if (noOne(a[0]) || no(a[1], 0, 9) || no(a[2], 0, 1)) return find(BEYOND);
                    One o = w.all.get(a[0]);
                    int good = 0;
                    for (int v = 0; v < 100; v++) {
                        if (cries(o.v[0], o, w) + weathers(o.v[0], o, v / 10, v % 10) >= needs(o.v[0])) good++;
                    }
                    BigInteger above = BigInteger.valueOf(good).pow(a[1]);
                    BigInteger below = BigInteger.valueOf(100).pow(a[1]);
                    return (a[2] == 0 ? above : below).divide(above.gcd(below)).longValueExact();
                }
                case "seed": {
                    int was = w.z;
                    w.z = a[0];
                    return was;
                }
                case "feed": {
                    if (no(a[1], 1, 4)) return find(BEYOND);
                    if (tape.length() + a[1] > 120) return find(FULL);
                    for (int i = a[1] - 1; i >= 0; i--) tape.append((char) (a[0] >> 8 * i & 255));
                    return tape.length();
                }
                case "wipe": {
                    int had = tape.length();
                    tape.setLength(0);
                    return had;
                }
                case "text": return text();
                default: return answerSheets(name, a);
            }
        }

        // The tokens of a TEXT with their places; an END stands behind them.
        List<String> tokens = new ArrayList<>();
        List<Integer> places = new ArrayList<>();
        int at;

        long text() {
            String t = tape.toString();
            tape.setLength(0);
            tokens.clear();
            places.clear();
            Matcher m = Pattern.compile("[a-z]+|[0-9]+|[^ ]", Pattern.DOTALL).matcher(t);
            while (m.find()) {
                tokens.add(m.group());
                places.add(m.start());
            }
            tokens.add("END");
            places.add(t.length());
            at = 0;
            World c = w.copy();
            int items = 0;
            do {
                if (!item(c)) return -1 - places.get(at);
                items++;
            } while (is(";"));
            if (!tokens.get(at).equals("END")) return -1 - places.get(at);
            w = c;
            return items;
        }

        boolean is(String token) {
            if (!tokens.get(at).equals(token)) return false;
            at++;
            return true;
        }

        int number(int most) {
            String t = tokens.get(at).replaceFirst("^0+(?=[0-9])", "");
            if (!t.matches("[0-9]{1,3}") || Integer.parseInt(t) > most) return -1;
            at++;
            return Integer.parseInt(t);
        }

        boolean item(World c) {
            if (is("onions")) {
                c.onions = number(99);
                return c.onions >= 0;
            }
            if (is("weather")) {
                int i = number(5);
                int rain = i < 0 ? -1 : number(9);
                int sun = rain < 0 ? -1 : number(9);
                if (sun >= 0) c.list[i] = 10 * rain + sun;
                return sun >= 0;
            }
            int kind = Arrays.asList("potter", "young", "old", "widower", "abel", "stone", "lad")
                .indexOf(tokens.get(at));
            if (kind < 0 || c.all.size() == 8) return false;
            at++;
            One o = new One();
            o.v[0] = kind;
            c.all.add(o);
            String[] words = {"grief", "hours", "run"};
            for (int i = 0; i < 3; i++) {
                if (is(words[i])) {
                    o.v[i + 1] = number(LIMITS[i + 1]);
                    if (o.v[i + 1] < 0) return false;
                }
            }
            return true;
        }

        long answerSheets(String name, int[] a) {
            switch (name) {
                case "hold":
                    if (no(a[0], 0, 9) || no(a[1], -1, w.all.size() - 1)) return find(BEYOND);
                    w.spots[a[0]] = a[1];
                    return 1;
                case "as":
                    if (no(a[0], 0, 9) || no(a[1], 0, 6)) return find(BEYOND);
                    if (w.spots[a[0]] == -1) return find(MISSING);
                    if (!UP[w.all.get(w.spots[a[0]]).v[0]].contains("" + a[1])) return find(KIND);
                    return w.spots[a[0]];
                case "sheet":
                    if (no(a[0], 0, 3) || !Arrays.asList(0, 8, 16, 32).contains(a[1])) return find(BEYOND);
                    if (a[2] < 0) return find(SIZE);
                    if (a[2] > 40) return find(BEYOND);
                    bits[a[0]] = a[1];
                    rows[a[0]] = a[1] == 0 ? null : new int[a[2]];
                    return a[1] == 0 ? 0 : a[2];
                case "write":
                    if (no(a[0], 0, 3)) return find(BEYOND);
                    if (rows[a[0]] == null) return find(MISSING);
                    if (no(a[1], 0, rows[a[0]].length - 1)) return find(BEYOND);
                    rows[a[0]][a[1]] = a[2] << 32 - bits[a[0]] >> 32 - bits[a[0]];
                    return 1;
                case "copy": {
                    if (no(a[0], 0, 3) || no(a[2], 0, 3)) return find(BEYOND);
                    if (rows[a[0]] == null || rows[a[2]] == null) return find(MISSING);
                    if (bits[a[0]] != bits[a[2]]) return find(KIND);
                    if (a[1] < 0 || a[3] < 0 || a[4] < 0 || (long) a[1] + a[4] > rows[a[0]].length
                        || (long) a[3] + a[4] > rows[a[2]].length) return find(BEYOND);
                    int[] from = rows[a[0]].clone();
                    for (int i = 0; i < a[4]; i++) rows[a[2]][a[3] + i] = from[a[1] + i];
                    return a[4];
                }
                case "load": {
                    if (no(a[0], 0, 3)) return find(BEYOND);
                    if (rows[a[0]] == null) return find(MISSING);
                    int came = 0;
                    for (int v : rows[a[0]]) {
                        if (came == 6 || no(v, 0, 99)) break;
                        w.list[came++] = v;
                    }
                    return came;
                }
                case "judge":
                    if (no(a[0], 0, 3)) return find(BEYOND);
                    if (rows[a[0]] == null) return find(MISSING);
                    for (int i = 0; i < rows[a[0]].length; i++) {
                        if (noOne(i) || w.all.get(i).v[4] != rows[a[0]][i]) return 1 + i;
                    }
                    return 0;
                default: return answerImages(name, a);
            }
        }

        long answerImages(String name, int[] a) {
            switch (name) {
                case "image":
                    kept = w.copy();
                    return 1;
                case "undo":
                    if (kept == null) return find(NONE);
                    w = kept.copy();
                    return w.day;
                case "tear": {
                    int was = kept == null ? 0 : 1;
                    kept = null;
                    return was;
                }
                case "count": {
                    if (no(a[0], 0, 7)) return find(BEYOND);
                    int held = 0;
                    for (int p : w.spots) held += p >= 0 ? 1 : 0;
                    return new int[] {w.day, w.all.size(), w.sold, w.sum(5), w.sum(6), tape.length(), w.z, held}[a[0]];
                }
                case "status":
                    if (no(a[0], -1, 6)) return find(BEYOND);
                    return a[0] < 0 ? Arrays.stream(found).sum() : found[a[0]];
                default: throw new IllegalStateException(name);
            }
        }
    }

    // ---- the class

    static long real(WeatherGlaze x, String name, int[] a) {
        switch (name) {
            case "weather": return x.weather(a[0], a[1]);
            case "listed": return x.listed(a[0]);
            case "onions": return x.onions(a[0]);
            case "potter": return x.potter(a[0], a[1]);
            case "of": return x.of(a[0], a[1]);
            case "change": return x.change(a[0], a[1], a[2]);
            case "go": return x.go(a[0]);
            case "now": return x.now(a[0]);
            case "ahead": return x.ahead(a[0], a[1], a[2]);
            case "sold": return x.sold(a[0]);
            case "when": return x.when(a[0], a[1]);
            case "cracks": return x.cracks(a[0]);
            case "tinted": return x.tinted(a[0], a[1]);
            case "hoursFor": return x.hoursFor(a[0], a[1], a[2]);
            case "kindFor": return x.kindFor(a[0], a[1]);
            case "griefFor": return x.griefFor(a[0], a[1]);
            case "weatherFor": return x.weatherFor(a[0], a[1]);
            case "onionsFor": return x.onionsFor(a[0], a[1]);
            case "stayIn": return x.stayIn(a[0], a[1]);
            case "fits": return x.fits(a[0], a[1]);
            case "grief": return x.grief(a[0], a[1]);
            case "kinds": return x.kinds(a[0], a[1]);
            case "storms": return x.storms(a[0]);
            case "odds": return x.odds(a[0], a[1], a[2]);
            case "seed": return x.seed(a[0]);
            case "feed": return x.feed(a[0], a[1]);
            case "wipe": return x.wipe();
            case "text": return x.text();
            case "hold": return x.hold(a[0], a[1]);
            case "as": return x.as(a[0], a[1]);
            case "sheet": return x.sheet(a[0], a[1], a[2]);
            case "write": return x.write(a[0], a[1], a[2]);
            case "copy": return x.copy(a[0], a[1], a[2], a[3], a[4]);
            case "load": return x.load(a[0]);
            case "judge": return x.judge(a[0]);
            case "image": return x.image();
            case "undo": return x.undo();
            case "tear": return x.tear();
            case "count": return x.count(a[0]);
            case "status": return x.status(a[0]);
            default: throw new IllegalStateException(name);
        }
    }

    // ---- the runs

    // Each argument's most (from 0 on) stands behind the name; '*' is any number.
    static final String[] CALLS = {"weather 5 99", "listed 5", "onions 99", "potter 6 99", "of 7 12", "change 7 6 9",
        "change 7 1 99", "change 7 3 999", "change 7 5 99", "change 7 2 9", "go 60", "go 9", "now 7", "ahead 7 6 100",
        "sold 100", "when 7 30", "cracks 7", "tinted 7 7", "hoursFor 7 9 60", "kindFor 7 60", "griefFor 7 60",
        "weatherFor 5 40", "onionsFor 999 40", "stayIn 7 20", "fits 3 7", "grief 3 7", "kinds 3 7", "storms 20",
        "odds 7 9 1", "seed *", "feed * 4", "wipe", "text", "hold 9 7", "as 9 6", "sheet 3 32 40", "write 3 10 8",
        "write 3 10 99", "write 3 9 *", "copy 3 9 3 9 9", "load 3", "judge 3", "image", "undo", "tear", "count 7",
        "status 6"};
    static final int[] EDGES = {-1, -2, Integer.MIN_VALUE, Integer.MAX_VALUE, 10000, 100000, 255, -1, -1};
    static final String[] WORDS = {"potter", "young", "old", "widower", "abel", "stone", "lad", "grief", "hours", "run",
        "weather", "onions", ";", ";", ";", " ", "  ", "0", "5", "9", "10", "99", "099", "100", "1000", "#", "A"};

    static int wrong = 0;
    static long asked = 0;

    static int argument(Random r, String most, int edge) {
        if (most.equals("*")) return r.nextBoolean() ? r.nextInt() : r.nextInt(12) - 2;
        int m = Integer.parseInt(most);
        if (r.nextInt(100) < edge) return r.nextBoolean() ? EDGES[r.nextInt(EDGES.length)] : m + 1;
        return r.nextInt(m + 1);
    }

    static void ask(WeatherGlaze x, Model m, String run, String name, int... a) {
        long due = m.answer(name, a);
        long got = real(x, name, a);
        asked++;
        if (got != due && wrong++ < 20) {
            System.out.println(run + ": " + name + Arrays.toString(a) + " answered " + got + ", due is " + due);
        }
    }

    static String item(Random r) {
        if (r.nextInt(4) == 0) return "onions " + r.nextInt(101);
        if (r.nextInt(4) == 0) return "weather " + r.nextInt(6) + " " + r.nextInt(10) + " " + (r.nextInt(99) / 9);
        String t = WORDS[r.nextInt(7)];
        if (r.nextBoolean()) t += " grief" + (r.nextBoolean() ? " " : "") + r.nextInt(100);
        if (r.nextBoolean()) t += " hours " + r.nextInt(10);
        if (r.nextBoolean()) t += " run " + r.nextInt(1001);
        return t;
    }

    static String chanceText(Random r) {
        StringBuilder t = new StringBuilder();
        int parts = r.nextInt(5);
        for (int i = 0; i <= parts; i++) {
            t.append(i > 0 ? ";" : "").append(item(r));
        }
        int spoilt = r.nextInt(3);
        for (int i = 0; i < spoilt; i++) {
            t.insert(r.nextInt(t.length() + 1), WORDS[r.nextInt(WORDS.length)]);
        }
        return t.toString();
    }

    static void oneRun(long seed) {
        Random r = new Random(seed);
        WeatherGlaze x = new WeatherGlaze();
        Model m = new Model();
        String run = "seed " + seed;
        // An object is promised for 512 calls; the last steps of a run take up to 60.
        long last = asked + 512 - 60;
        int edge = r.nextInt(3) * 4;
        boolean isEarly = true;
        while (asked < last) {
            if (r.nextInt(12) == 0 || isEarly && r.nextInt(3) == 0) {
                String t = chanceText(r);
                int cut = Math.min(t.length(), 50);
                for (int i = 0; i < cut; i++) ask(x, m, run, "feed", t.charAt(i), 1);
                ask(x, m, run, "text");
            } else if (r.nextInt(15) == 0) {
                int s = r.nextInt(4);
                int n = 1 + r.nextInt(4);
                ask(x, m, run, "sheet", s, 8 << r.nextInt(3), n);
                for (int i = 0; i < n; i++) ask(x, m, run, "write", s, i, r.nextInt(3) == 0 ? r.nextInt(8) : -1);
            } else {
                String[] call = CALLS[r.nextInt(CALLS.length)].split(" ");
                int[] a = new int[call.length - 1];
                for (int i = 0; i < a.length; i++) a[i] = argument(r, call[i + 1], edge);
                if (call[0].equals("sheet")) a[1] = new int[] {0, 8, 8, 16, 32, 9}[r.nextInt(6)];
                ask(x, m, run, call[0], a);
            }
            isEarly = m.w.all.size() < 3;
        }
        for (int which = -1; which < 7; which++) ask(x, m, run, "status", which);
    }

    public static void main(String[] args) {
        int runs = args.length > 0 ? Integer.parseInt(args[0]) : 150;
        for (int seed = 1; seed <= runs; seed++) {
            oneRun(seed);
        }
        System.out.println(asked + " answers in " + runs + " runs, " + wrong + " not as due");
        if (wrong != 0) {
            System.exit(1);
        }
    }
}
