import java.nio.charset.StandardCharsets;

/** Each promise of the document by hand-made runs: ordinary inputs, edges, wrong inputs. */
public final class PromisesTest {
    private static final int BEYOND = -1000001;
    private static final int FULL = -1000002;
    private static final int KIND = -1000003;
    private static final int NONE = -1000004;
    private static final int STATE = -1000005;
    private static final int MISSING = -1000006;
    private static final int SIZE = -1000007;

    private static final int LEAST = Integer.MIN_VALUE;
    private static final int MOST = Integer.MAX_VALUE;

    private static int wrong = 0;
    private static int asked = 0;
    private static int promise = 0;

    private static void due(String call, long got, long want) {
        asked++;
        if (got != want) {
            wrong++;
            System.out.println("promise " + promise + ": " + call + " answered " + got + ", due is " + want);
        }
    }

    private static int feedAll(WeatherGlaze x, String text) {
        byte[] bytes = text.getBytes(StandardCharsets.ISO_8859_1);
        int has = 0;
        for (byte b : bytes) {
            has = x.feed(b, 1);
        }
        return has;
    }

    private static int read(WeatherGlaze x, String text) {
        x.wipe();
        feedAll(x, text);
        return x.text();
    }

    /** New hills from a text that must be without a FAULT. */
    private static WeatherGlaze hills(String text) {
        WeatherGlaze x = new WeatherGlaze();
        due("text of " + text, read(x, text), text.split(";").length);
        return x;
    }

    /** The same WEATHER in all places. */
    private static WeatherGlaze steady(WeatherGlaze x, int weather) {
        for (int i = 0; i < 6; i++) {
            x.weather(i, weather);
        }
        return x;
    }

    private static void tell(WeatherGlaze x, int s, int bits, int... numbers) {
        due("sheet", x.sheet(s, bits, numbers.length), numbers.length);
        for (int i = 0; i < numbers.length; i++) {
            due("write", x.write(s, i, numbers[i]), 1);
        }
    }

    public static void main(String[] args) {
        promise = 1; newObject();
        promise = 2; weather();
        promise = 3; listed();
        promise = 4; onions();
        promise = 5; potter();
        promise = 6; of(); ofCries(); ofWeathers(); ofNeedsAndHeals(); ofTint(); ofFetches();
        promise = 7; change();
        promise = 8; go(); goOnions(); goLimits(); lastDay();
        promise = 9; now();
        promise = 10; ahead();
        promise = 11; sold();
        promise = 12; when();
        promise = 13; cracks();
        promise = 14; tinted();
        promise = 15; hoursFor();
        promise = 16; kindFor();
        promise = 17; griefFor();
        promise = 18; weatherFor();
        promise = 19; onionsFor();
        promise = 20; stayIn();
        promise = 21; fits();
        promise = 22; grief();
        promise = 23; kinds();
        promise = 24; storms();
        promise = 25; odds();
        promise = 26; seed();
        promise = 27; feed();
        promise = 28; wipe();
        promise = 29; text(); textFaults(); textNinth();
        promise = 30; hold();
        promise = 31; as();
        promise = 32; sheet();
        promise = 33; write();
        promise = 34; copy();
        promise = 35; load();
        promise = 36; judge();
        promise = 37; image();
        promise = 38; undo();
        promise = 39; tear();
        promise = 40; count();
        promise = 41; status();
        System.out.println(asked + " answers, " + wrong + " not as due");
        if (wrong != 0) {
            System.exit(1);
        }
    }

    private static void newObject() {
        WeatherGlaze x = new WeatherGlaze();
        for (int i = 0; i < 6; i++) {
            due("listed", x.listed(i), 0);
        }
        int[] counts = {0, 0, 0, 0, 0, 0, 1, 0};
        for (int what = 0; what < 8; what++) {
            due("count " + what, x.count(what), counts[what]);
        }
        for (int what = 0; what < 7; what++) {
            due("now " + what, x.now(what), 0);
        }
        due("now 7", x.now(7), -1);
        due("status", x.status(-1), 0);
        due("tear", x.tear(), 0);
        due("wipe", x.wipe(), 0);
        for (int spot = 0; spot < 10; spot++) {
            due("as", x.as(spot, 0), MISSING);
        }
        for (int s = 0; s < 4; s++) {
            due("load", x.load(s), MISSING);
        }
        due("undo", x.undo(), NONE);
    }

    private static void weather() {
        WeatherGlaze x = new WeatherGlaze();
        due("weather", x.weather(0, 99), 0);
        due("weather", x.weather(0, 7), 99);
        due("weather", x.weather(5, 40), 0);
        due("weather", x.weather(5, 0), 40);
        for (int i : new int[] {-1, 6, LEAST, MOST}) {
            due("weather", x.weather(i, 1), BEYOND);
        }
        for (int v : new int[] {-1, 100, LEAST, MOST}) {
            due("weather", x.weather(1, v), BEYOND);
        }
        due("listed", x.listed(0), 7);
        due("listed", x.listed(1), 0);
    }

    private static void listed() {
        WeatherGlaze x = new WeatherGlaze();
        for (int i = 0; i < 6; i++) {
            x.weather(i, 10 * i + 1);
        }
        for (int i = 0; i < 6; i++) {
            due("listed", x.listed(i), 10 * i + 1);
        }
        for (int i : new int[] {-1, 6, LEAST, MOST}) {
            due("listed", x.listed(i), BEYOND);
        }
    }

    private static void onions() {
        WeatherGlaze x = new WeatherGlaze();
        due("onions", x.onions(99), 0);
        due("onions", x.onions(3), 99);
        for (int v : new int[] {-1, 100, LEAST, MOST}) {
            due("onions", x.onions(v), BEYOND);
        }
        due("onions", x.onions(0), 3);
        due("now", x.now(2), 0);
    }

    private static void potter() {
        WeatherGlaze x = new WeatherGlaze();
        for (int p = 0; p < 8; p++) {
            due("potter", x.potter(p % 7, 99 - p), p);
        }
        due("potter", x.potter(0, 0), FULL);
        due("potter: BEYOND is asked first", x.potter(7, 0), BEYOND);
        for (int p = 0; p < 8; p++) {
            int[] due = {p % 7, 99 - p, 2, 0, 0, 0, 0};
            for (int what = 0; what < 7; what++) {
                due("of", x.of(p, what), due[what]);
            }
        }
        WeatherGlaze y = new WeatherGlaze();
        for (int v : new int[] {-1, LEAST, MOST}) {
            due("potter", y.potter(v, 0), BEYOND);
            due("potter", y.potter(0, v), BEYOND);
        }
        due("potter", y.potter(7, 0), BEYOND);
        due("potter", y.potter(0, 100), BEYOND);
        due("count", y.count(1), 0);
    }

    private static void of() {
        WeatherGlaze x = new WeatherGlaze();
        x.potter(0, 5);
        for (int p : new int[] {-1, 1, 8, LEAST, MOST}) {
            due("of", x.of(p, 0), BEYOND);
        }
        for (int what : new int[] {-1, 13, LEAST, MOST}) {
            due("of", x.of(0, what), BEYOND);
        }
        for (int what = 0; what < 7; what++) {
            x.change(0, what, what + 1);
        }
        for (int what = 0; what < 7; what++) {
            due("of", x.of(0, what), what + 1);
        }
    }

    /** Asks one thing of a POTTER that is made each KIND in turn. */
    private static void ofKinds(WeatherGlaze x, int what, int... due) {
        for (int kind = 0; kind < 7; kind++) {
            x.change(0, 0, kind);
            due("of kind " + kind + ", " + what, x.of(0, what), due[kind]);
        }
    }

    private static void ofCries() {
        WeatherGlaze x = new WeatherGlaze();
        x.potter(0, 59);
        ofKinds(x, 7, 5, 5, 10, 12, 12, 0, 0);
        x.onions(1);
        ofKinds(x, 7, 5, 8, 10, 12, 12, 0, 0);
        due("no ONION goes", x.now(2), 1);
        x.change(0, 1, 9);
        ofKinds(x, 7, 0, 3, 0, 2, 2, 0, 0);
        x.change(0, 5, 49);
        ofKinds(x, 7, 0, 3, 0, 2, 2, 0, 0);
        x.change(0, 5, 50);
        ofKinds(x, 7, 0, 3, 0, 2, 0, 0, 0);
    }

    private static void ofWeathers() {
        WeatherGlaze x = new WeatherGlaze();
        x.potter(0, 10);
        x.change(0, 2, 3);
        x.weather(0, 79);
        x.weather(1, 84);
        // 3 * 7 / 2 = 10, and 9
        ofKinds(x, 8, 19, 19, 9, 9, 9, 10, 19);
        x.go(1);
        // 3 * 8 / 2 = 12, and 4
        ofKinds(x, 8, 16, 16, 8, 8, 8, 12, 32);
        x.change(0, 2, 0);
        ofKinds(x, 8, 0, 0, 0, 0, 0, 0, 0);
        x.change(0, 2, 1);
        x.weather(1, 9);
        ofKinds(x, 8, 9, 9, 4, 4, 4, 0, 9);
        x.go(1);
        ofKinds(x, 8, 0, 0, 0, 0, 0, 0, 0);
        x.go(4);
        due("DAY 6 has place 0", x.now(0), 6);
        x.change(0, 2, 3);
        ofKinds(x, 8, 19, 19, 9, 9, 9, 10, 19);
    }

    private static void ofNeedsAndHeals() {
        WeatherGlaze x = new WeatherGlaze();
        x.potter(0, 0);
        ofKinds(x, 9, 40, 30, 50, 50, 30, 60, 50);
        ofKinds(x, 12, 1, 2, 1, 0, 0, 5, 2);
    }

    private static void ofTint() {
        WeatherGlaze x = new WeatherGlaze();
        x.potter(0, 49);
        x.change(0, 3, 99);
        ofKinds(x, 10, 1, 1, 4, 4, 0, 1, 1);
        x.change(0, 3, 100);
        ofKinds(x, 10, 2, 2, 5, 5, 0, 2, 7);
        x.change(0, 1, 50);
        x.change(0, 3, 79);
        ofKinds(x, 10, 7, 7, 2, 2, 1, 7, 7);
        x.change(0, 3, 999);
        ofKinds(x, 10, 3, 3, 6, 6, 1, 3, 7);
        x.change(0, 3, 0);
        ofKinds(x, 10, 0, 0, 3, 3, 1, 0, 0);
    }

    private static void ofFetches() {
        WeatherGlaze x = new WeatherGlaze();
        x.potter(0, 49);
        ofKinds(x, 11, 10, 5, 20, 20, 60, 1, 10);
        x.change(0, 4, 6);
        ofKinds(x, 11, 16, 5, 26, 26, 78, 7, 10);
        x.change(0, 4, 7);
        ofKinds(x, 11, 17, 5, 27, 27, 81, 8, 100);
    }

    private static void change() {
        WeatherGlaze x = new WeatherGlaze();
        due("change", x.change(0, 0, 0), BEYOND);
        x.potter(2, 20);
        x.potter(3, 30);
        int[] first = {2, 20, 2, 0, 0, 0, 0};
        int[] most = {6, 99, 9, 999, 7, 9999, 9999};
        for (int what = 0; what < 7; what++) {
            due("change " + what, x.change(0, what, most[what] + 1), BEYOND);
            due("change " + what, x.change(0, what, -1), BEYOND);
            due("change " + what, x.change(0, what, MOST), BEYOND);
            due("change " + what, x.change(0, what, LEAST), BEYOND);
            due("change " + what, x.change(0, what, most[what]), first[what]);
            due("change " + what, x.change(0, what, 0), most[what]);
        }
        due("change", x.change(0, 7, 0), BEYOND);
        due("change", x.change(0, -1, 0), BEYOND);
        due("change", x.change(2, 0, 0), BEYOND);
        due("change", x.change(-1, 0, 0), BEYOND);
        due("the other one is as it was", x.of(1, 0), 3);
        due("the other one is as it was", x.of(1, 1), 30);
    }

    private static void go() {
        // A POTTER with GRIEF 30 cries 3 on DAY 0 and 2 on DAYS 1 to 6: 15; WEATHER 25: 2 + 5 a DAY.
        WeatherGlaze x = steady(hills("potter grief 30;stone hours 0;widower grief 20"), 25);
        due("go", x.go(1), 0);
        due("RUN", x.of(0, 3), 10);
        due("GRIEF", x.of(0, 1), 29);
        due("STONE heals 5", x.of(1, 1), 5);
        due("STONE", x.of(1, 3), 0);
        due("WIDOWER", x.of(2, 3), 6 + 3);
        due("go", x.go(5), 0);
        due("RUN", x.of(0, 3), 55);
        due("STONE heals to 0", x.of(1, 1), 0);
        // 64: COLOUR 6, fetches 16. WIDOWER: 63: COLOUR 6 + 3 = 9, 1, fetches 21. STONE cracks.
        due("go to the FIRING", x.go(1), 16 + 21);
        due("DAY", x.now(0), 7);
        due("COLOUR", x.of(0, 4), 6);
        due("POTS", x.of(0, 5), 1);
        due("CRACKED", x.of(0, 6), 0);
        due("RUN", x.of(0, 3), 0);
        due("GRIEF", x.of(0, 1), 23);
        due("STONE cracks", x.of(1, 6), 1);
        due("STONE cracks", x.of(1, 5), 0);
        due("STONE's GRIEF", x.of(1, 1), 15);
        due("STONE's COLOUR", x.of(1, 4), 0);
        due("WIDOWER", x.of(2, 4), 1);
        due("WIDOWER heals 0", x.of(2, 1), 20);
        due("go", x.go(6), 37);
        due("the next FIRING is a WEEK on", x.go(1), 37 + 16 + 21);
    }

    private static void goOnions() {
        WeatherGlaze x = hills("lad;young grief 0;potter;young grief 0;onions 3");
        due("go", x.go(1), 0);
        due("ONIONS", x.now(2), 1);
        due("go", x.go(1), 0);
        due("ONIONS", x.now(2), 0);
        due("the first YOUNG one has the last ONION", x.of(1, 3), 6);
        due("the other YOUNG one", x.of(3, 3), 3);
        due("LAD", x.of(0, 3), 0);
        due("POTTER cries 1, then 0", x.of(2, 3), 1);
    }

    private static void goLimits() {
        WeatherGlaze x = new WeatherGlaze();
        for (int n : new int[] {0, -1, 61, LEAST, MOST}) {
            due("go", x.go(n), BEYOND);
        }
        due("DAY", x.now(0), 0);
        due("go", x.go(60), 0);
        due("DAY", x.now(0), 60);
        // RUN is 999 at most, GRIEF 99, POTS and CRACKED 9999.
        WeatherGlaze y = hills("potter grief 95 run 995;stone grief 99 hours 0;potter hours 0 run 39");
        y.change(0, 5, 9999);
        y.change(1, 6, 9999);
        y.go(1);
        due("RUN", y.of(0, 3), 999);
        y.change(1, 1, 99);
        y.change(2, 3, 39);
        y.change(2, 1, 0);
        y.go(5);
        due("RUN", y.of(0, 3), 999);
        y.change(1, 1, 94);
        // 999: 99 modulo 8 is 3.
        due("SOLD", y.go(1), 13);
        due("POTS", y.of(0, 5), 9999);
        due("CRACKED", y.of(1, 6), 9999);
        due("GRIEF 94 - 5 + 15", y.of(1, 1), 99);
        due("39 isn't enough for 40", y.of(2, 6), 1);
        soldAtMost();
    }

    /** 512 calls can't reach 99999 but with many dear pots: 8 LADS in a storm sell 800 a WEEK. */
    private static void soldAtMost() {
        WeatherGlaze x = hills("lad hours 9;lad hours 9;lad hours 9;lad hours 9;"
            + "lad hours 9;lad hours 9;lad hours 9;lad hours 9");
        steady(x, 99);
        long sold = 0;
        for (int i = 0; i < 20; i++) {
            sold = x.go(60);
            due("go", sold, Math.min(99999, (i + 1) * 60 / 7 * 800L));
        }
        due("SOLD at most", sold, 99999);
        due("now", x.now(1), 99999);
        due("sold", x.sold(100), 99999);
    }

    private static void now() {
        WeatherGlaze x = hills("potter run 39;young run 30;lad run 50;onions 7");
        x.change(0, 5, 9999);
        x.change(1, 5, 9999);
        x.change(0, 6, 5);
        x.change(1, 6, 7);
        x.change(2, 6, 9999);
        x.change(0, 4, 3);
        x.change(1, 4, 3);
        x.change(2, 4, 6);
        int[] due = {0, 0, 7, 19998, 10011, 8, 6, 2};
        for (int what = 0; what < 8; what++) {
            due("now " + what, x.now(what), due[what]);
        }
        x.change(2, 5, 1);
        due("COLOURS", x.now(5), 8 + 64);
        x.change(1, 3, 50);
        due("most RUN: the least number", x.now(7), 1);
        x.change(0, 3, 40);
        due("ready", x.now(6), 7);
        x.go(7);
        due("DAY", x.now(0), 7);
        due("now 1", x.now(1), x.count(2));
        due("most RUN, all 0", x.now(7), 0);
        for (int what : new int[] {-1, 8, LEAST, MOST}) {
            due("now", x.now(what), BEYOND);
        }
    }

    private static void ahead() {
        WeatherGlaze x = steady(hills("potter grief 30;young grief 0;onions 2"), 25);
        due("ahead", x.ahead(0, 1, 0), 30);
        due("ahead", x.ahead(0, 1, 1), 29);
        due("ahead", x.ahead(0, 3, 6), 55);
        due("ahead", x.ahead(0, 3, 7), 0);
        due("ahead", x.ahead(0, 4, 6), 0);
        due("ahead", x.ahead(0, 4, 7), 6);
        due("ahead", x.ahead(0, 5, 100), 14);
        // YOUNG: 7 a DAY and two ONIONS: 49 + 6 = 55 at the first FIRING, 49 later.
        due("ahead", x.ahead(1, 3, 6), 48);
        due("ahead", x.ahead(1, 4, 7), 5);
        due("ahead", x.ahead(1, 4, 14), 4);
        due("ahead", x.ahead(1, 6, 14), 0);
        due("nothing changes", x.now(0), 0);
        due("nothing changes", x.now(2), 2);
        due("nothing changes", x.of(0, 1), 30);
        x.change(0, 2, 0);
        due("cracks", x.ahead(0, 6, 7), 1);
        for (int what : new int[] {0, 2, 7, -1, 8, LEAST, MOST}) {
            due("ahead", x.ahead(0, what, 0), BEYOND);
        }
        for (int n : new int[] {-1, 101, LEAST, MOST}) {
            due("ahead", x.ahead(0, 1, n), BEYOND);
        }
        due("ahead", x.ahead(2, 1, 0), BEYOND);
        due("ahead", x.ahead(-1, 1, 0), BEYOND);
    }

    private static void sold() {
        WeatherGlaze x = steady(hills("potter grief 30;widower grief 20"), 25);
        due("sold", x.sold(0), 0);
        due("sold", x.sold(6), 0);
        due("sold", x.sold(7), 37);
        due("sold", x.sold(100), 37 * 2 + 21 * 12 + potterFetchesFrom(16, 12));
        for (int n : new int[] {-1, 101, LEAST, MOST}) {
            due("sold", x.sold(n), BEYOND);
        }
        due("nothing changes", x.now(0), 0);
        due("nothing changes", x.now(1), 0);
        due("go", x.go(7), 37);
        due("what was SOLD counts", x.sold(0), 37);
        due("what was SOLD counts", x.sold(7), 37 * 2);
    }

    /** What a POTTER with 7 RUN by WEATHER each DAY fetches in some WEEKS, from a GRIEF on. */
    private static int potterFetchesFrom(int grief, int weeks) {
        int sold = 0;
        int left = grief;
        for (int week = 0; week < weeks; week++) {
            int run = 0;
            for (int day = 0; day < 7; day++) {
                run += left / 10 + 7;
                left = Math.max(0, left - 1);
            }
            sold += 10 + run / 10 % 8;
        }
        return sold;
    }

    private static void when() {
        WeatherGlaze x = steady(hills("potter hours 9;potter grief 0 hours 0;potter hours 0"), 90);
        due("when", x.when(0, 0), 0);
        due("when", x.when(0, 1), 7);
        due("when", x.when(0, 2), 14);
        due("when", x.when(0, 28), 196);
        due("when", x.when(0, 29), NONE);
        due("when", x.when(0, 9999), NONE);
        // GRIEF behind FIRINGS that crack: 15, 23, 31, .., 71 behind the 8th; 71 to 65 cry 44 in the 9th WEEK.
        due("when", x.when(1, 1), 63);
        x.change(0, 5, 9999);
        due("when", x.when(0, 9999), 0);
        due("more than asked", x.when(0, 9998), 0);
        due("when", x.when(0, 10000), BEYOND);
        due("when", x.when(0, -1), BEYOND);
        due("when", x.when(3, 0), BEYOND);
        due("when", x.when(-1, 0), BEYOND);
        due("nothing changes", x.now(0), 0);
        x.go(3);
        due("when", x.when(2, 0), 0);
        x.change(0, 5, 9970);
        due("a FIRING behind 4, 11, .., 200 DAYS", x.when(0, 9999), 200);
        x.go(6);
        x.change(0, 5, 9970);
        due("behind 201 DAYS", x.when(0, 9999), NONE);
    }

    /** Hills on a DAY, whose ABEL comes to POTS 50, and no longer cries, some WEEKS later. */
    private static WeatherGlaze abelOn(int day, int grief, int potsInWeeks) {
        WeatherGlaze x = hills("abel hours 9");
        x.go(day);
        x.change(0, 1, grief);
        x.change(0, 3, 0);
        x.change(0, 5, 50 - potsInWeeks);
        return x;
    }

    private static void cracks() {
        WeatherGlaze x = steady(hills("potter hours 9;stone hours 0"), 90);
        due("cracks", x.cracks(0), NONE);
        due("cracks", x.cracks(1), 7);
        x.go(7);
        due("more than now", x.cracks(1), 7);
        x.go(5);
        due("cracks", x.cracks(1), 2);
        x.change(1, 6, 9999);
        due("9999 at most", x.cracks(1), NONE);
        due("behind 200 DAYS", abelOn(3, 99, 28).cracks(0), 200);
        due("behind 201 DAYS", abelOn(2, 99, 28).cracks(0), NONE);
        due("cracks", x.cracks(2), BEYOND);
        due("cracks", x.cracks(-1), BEYOND);
        due("nothing changes", x.now(0), 12);
    }

    private static void tinted() {
        // 7 DAYS of 7 are 49, COLOUR 4; a LAD's 2 * 49 and RUN 2 are 100, COLOUR 7.
        WeatherGlaze x = steady(hills("potter grief 0;lad run 51"), 25);
        due("a COLOUR without POTS", x.tinted(0, 0), NONE);
        due("tinted", x.tinted(0, 4), 7);
        due("tinted", x.tinted(0, 5), NONE);
        due("tinted", x.tinted(1, 7), 7);
        x.change(0, 5, 1);
        due("tinted now", x.tinted(0, 0), 0);
        for (int colour : new int[] {-1, 8, LEAST, MOST}) {
            due("tinted", x.tinted(0, colour), BEYOND);
        }
        due("tinted", x.tinted(2, 0), BEYOND);
        due("tinted", x.tinted(-1, 0), BEYOND);
        due("nothing changes", x.now(0), 0);
        tintedFar();
        // STONE has 8 RUN each DAY, 56, and cracks; with RUN 10 first it has 66.
        WeatherGlaze y = steady(hills("stone hours 2"), 80);
        due("tinted", y.tinted(0, 0), NONE);
        y.change(0, 3, 10);
        due("66 is COLOUR 6", y.tinted(0, 6), 7);
    }

    /** Place 4 gives ABEL 20, in the WEEK of DAY 202 twice: he cracks (GRIEF 55) the WEEK before, alone. */
    private static void tintedFar() {
        WeatherGlaze x = abelOn(3, 40, 27);
        x.weather(4, 84);
        due("behind 200 DAYS", x.tinted(0, 1), 200);
        WeatherGlaze y = abelOn(2, 40, 27);
        y.weather(4, 84);
        due("behind 201 DAYS", y.tinted(0, 1), NONE);
    }

    private static void hoursFor() {
        // HOURS times 2, half: HOURS a DAY; 40 need 6 HOURS in 7 DAYS.
        WeatherGlaze x = steady(hills("potter grief 0 hours 9"), 20);
        due("hoursFor", x.hoursFor(0, 1, 7), 6);
        due("hoursFor", x.hoursFor(0, 0, 0), 0);
        due("hoursFor", x.hoursFor(0, 1, 6), NONE);
        due("hoursFor", x.hoursFor(0, 2, 7), NONE);
        // The first FIRING cracks below 6 HOURS: GRIEF 15 heals to 8, 6 DAYS cry 1 more.
        due("hoursFor", x.hoursFor(0, 1, 14), 5);
        due("hoursFor", x.hoursFor(0, 2, 14), 6);
        due("hoursFor", x.hoursFor(0, 8, 60), 6);
        due("HOURS are as they were", x.of(0, 2), 9);
        x.change(0, 0, 5);
        due("60 need 9 HOURS", x.hoursFor(0, 1, 7), 9);
        due("hoursFor", x.hoursFor(0, 9999, 60), NONE);
        due("hoursFor", x.hoursFor(0, 10000, 60), BEYOND);
        due("hoursFor", x.hoursFor(0, -1, 60), BEYOND);
        due("hoursFor", x.hoursFor(0, 0, 61), BEYOND);
        due("hoursFor", x.hoursFor(0, 0, -1), BEYOND);
        due("hoursFor", x.hoursFor(1, 0, 0), BEYOND);
        due("hoursFor", x.hoursFor(-1, 0, 0), BEYOND);
    }

    private static void kindFor() {
        WeatherGlaze x = steady(hills("stone grief 60 hours 0;potter hours 0"), 0);
        due("none sells: the least", x.kindFor(0, 6), 0);
        // ABEL cries 14 each DAY: 98; GRIEF is 60: COLOUR 1: thrice 21.
        due("kindFor", x.kindFor(0, 7), 4);
        due("kindFor", x.kindFor(0, 60), 4);
        due("KIND is as it was", x.of(0, 0), 5);
        x.change(0, 2, 9);
        steady(x, 99);
        due("a LAD in a storm", x.kindFor(0, 7), 6);
        due("kindFor", x.kindFor(0, 0), 0);
        due("kindFor", x.kindFor(0, 61), BEYOND);
        due("kindFor", x.kindFor(0, -1), BEYOND);
        due("kindFor", x.kindFor(2, 0), BEYOND);
        due("kindFor", x.kindFor(-1, 0), BEYOND);
    }

    private static void griefFor() {
        // WIDOWER: twice a tenth of GRIEF and 2, for 7 DAYS: 50 need 8 a DAY: GRIEF 30.
        WeatherGlaze x = hills("widower grief 0;potter;stone");
        due("griefFor", x.griefFor(0, 7), 30);
        due("griefFor", x.griefFor(0, 60), 30);
        due("no FIRING", x.griefFor(0, 6), 0);
        due("griefFor", x.griefFor(0, 0), 0);
        // POTTER from G: the tenths of G, .., G - 6: 40 from 60 / 59 .. on: 6 + 5 * 6 = 36; 61: 37; 64: 40.
        due("griefFor", x.griefFor(1, 7), 64);
        due("64 to 58 in the 6th WEEK, from 99", x.griefFor(1, 42), 99);
        due("57 to 51 in the 7th cracks", x.griefFor(1, 49), NONE);
        due("griefFor", x.griefFor(2, 7), NONE);
        due("GRIEF is as it was", x.of(1, 1), 10);
        x.change(2, 6, 9999);
        due("CRACKED can't be more", x.griefFor(2, 60), 0);
        due("griefFor", x.griefFor(0, 61), BEYOND);
        due("griefFor", x.griefFor(0, -1), BEYOND);
        due("griefFor", x.griefFor(3, 0), BEYOND);
        due("griefFor", x.griefFor(-1, 0), BEYOND);
    }

    private static void weatherFor() {
        // Place 1 counts once in 7 DAYS: 1 * RAIN / 2 and SUN are 13 at most; RUN 60 to 73: COLOUR 7 from 70.
        WeatherGlaze x = hills("potter grief 0 hours 1 run 60");
        due("RAIN 2, SUN 9", x.weatherFor(1, 7), 29);
        due("DAYS 0 and 6 have place 0: 5 for each", x.weatherFor(0, 7), 5);
        due("no FIRING", x.weatherFor(1, 6), 0);
        due("no DAY", x.weatherFor(1, 0), 0);
        x.go(2);
        due("place 1 comes on DAY 7", x.weatherFor(1, 5), 0);
        due("THE LIST is as it was", x.listed(1), 0);
        // Place 5 counts once: 9 * 9 / 2 and 9 are 49; with RUN 21 that is 70, COLOUR 7.
        due("the most WEATHER", hills("potter grief 0 hours 9 run 21").weatherFor(5, 7), 99);
        due("weatherFor", x.weatherFor(1, 41), BEYOND);
        due("weatherFor", x.weatherFor(1, -1), BEYOND);
        due("weatherFor", x.weatherFor(6, 0), BEYOND);
        due("weatherFor", x.weatherFor(-1, 0), BEYOND);
    }

    private static void onionsFor() {
        // YOUNG: 3 for each ONION; 30 lack 12: 4 ONIONS.
        WeatherGlaze x = hills("young grief 0 run 18;onions 50");
        due("onionsFor", x.onionsFor(0, 7), 0);
        due("onionsFor", x.onionsFor(5, 7), 4);
        due("onionsFor", x.onionsFor(6, 7), NONE);
        due("onionsFor", x.onionsFor(5, 6), NONE);
        due("ONIONS are as they were", x.now(2), 50);
        // Three YOUNG ones in WEEK 5 have 15 by WEATHER and need 5 ONIONS each: 33 DAYS of 3 ONIONS.
        WeatherGlaze y = steady(hills("young grief 0;young grief 0;young grief 0"), 2);
        y.weather(0, 3);
        due("the most ONIONS", y.onionsFor(75, 35), 99);
        due("onionsFor", y.onionsFor(76, 35), NONE);
        // SOLD that is there already counts.
        x.change(0, 3, 30);
        due("go", x.go(7), 5);
        due("onionsFor", x.onionsFor(5, 0), 0);
        due("onionsFor", x.onionsFor(99999, 40), NONE);
        due("onionsFor", x.onionsFor(100000, 40), BEYOND);
        due("onionsFor", x.onionsFor(-1, 40), BEYOND);
        due("onionsFor", x.onionsFor(0, 41), BEYOND);
        due("onionsFor", x.onionsFor(0, -1), BEYOND);
    }

    private static void stayIn() {
        // HOURS 2 and WEATHER 35: 8 a DAY, 56: COLOUR 5; the OLD one: 4 a DAY and RUN 25: 53: 5 + 3: 0.
        WeatherGlaze x = steady(hills("potter grief 0;old grief 0 run 25;young grief 0;stone"), 35);
        due("stayIn", x.stayIn(5, 7), 1 + 4);
        due("stayIn", x.stayIn(0, 7), 2);
        due("stayIn", x.stayIn(1, 7), 0);
        due("no POTS", x.stayIn(0, 6), 0);
        due("no POTS", x.stayIn(0, 0), 0);
        due("HOURS are as they were", x.of(0, 2), 2);
        x.change(0, 5, 1);
        due("it's so now", x.stayIn(0, 0), NONE);
        due("it's so until the FIRING", x.stayIn(0, 6), NONE);
        due("who cracks keeps the COLOUR", x.stayIn(5, 7), 5);
        due("COLOUR 0 goes by being out", x.stayIn(0, 7), 2);
        x.change(0, 4, 5);
        due("it's so in or out", x.stayIn(5, 7), NONE);
        for (int colour : new int[] {-1, 8, LEAST, MOST}) {
            due("stayIn", x.stayIn(colour, 0), BEYOND);
        }
        for (int n : new int[] {-1, 21, LEAST, MOST}) {
            due("stayIn", x.stayIn(0, n), BEYOND);
        }
        WeatherGlaze y = steady(hills("young grief 0;young grief 0;young grief 0;young grief 0;"
            + "young grief 0;young grief 0;young grief 0;lad"), 35);
        due("all eight", y.stayIn(5, 20), 255);
    }

    private static void fits() {
        // ABEL: COLOUR 1 from GRIEF 50 on: 12 or more a DAY by crying alone are enough for 30.
        WeatherGlaze x = hills("abel;potter");
        tell(x, 0, 8, 0, 1);
        due("fits", x.fits(0, 0), 50);
        tell(x, 0, 16, -1, 1, 1, 1, -1, 1, 1, 1, 1, 1, 0, 6);
        due("the first 10 alone", x.fits(0, 0), 50);
        // 7 * (2 * tenth + 2) is 30 or more from tenth 2 on; below it cracks, COLOUR stays 0.
        tell(x, 1, 32, 0, 0);
        due("fits", x.fits(1, 0), 50);
        tell(x, 1, 32, 1);
        due("fits", x.fits(1, 0), 0);
        tell(x, 1, 32, -1);
        due("fits", x.fits(1, 0), 100);
        tell(x, 1, 8, 255, 511, -1);
        due("-1 by its lowest bits", x.fits(1, 0), 100);
        tell(x, 1, 16, 255);
        due("255 isn't -1", x.fits(1, 0), 0);
        tell(x, 1, 16);
        due("nothing is told", x.fits(1, 0), 100);
        due("GRIEF is as it was", x.of(0, 1), 10);
        due("nothing changes", x.now(0), 0);
        // POTTER: 40 to 49 (COLOUR 4) by tenths of G, .., G - 6: G 64 to 79 (5 * 6 + 2 * 5 to 7 * 7).
        tell(x, 2, 8, 0, 4);
        due("fits", x.fits(2, 1), 16);
        toldFindings(x);
    }

    /** What fits(), grief() and kinds() ask, in their order. */
    private static void toldFindings(WeatherGlaze x) {
        x.sheet(3, 0, 0);
        int[][] calls = {{-1, 0, BEYOND}, {4, 0, BEYOND}, {4, 9, BEYOND}, {LEAST, 0, BEYOND}, {MOST, 0, BEYOND},
            {3, 0, MISSING}, {3, 9, MISSING}, {0, 2, BEYOND}, {0, -1, BEYOND}, {0, LEAST, BEYOND}, {0, MOST, BEYOND}};
        for (int[] call : calls) {
            int missing = x.status(5);
            int beyond = x.status(0);
            int got = askTold(x, call[0], call[1]);
            due("told " + call[0] + ", " + call[1], got, call[2]);
            due("one finding", x.status(5) - missing + x.status(0) - beyond, 1);
        }
    }

    private static int askTold(WeatherGlaze x, int s, int potter) {
        switch (promise) {
            case 21: return x.fits(s, potter);
            case 22: return x.grief(s, potter);
            default: return x.kinds(s, potter);
        }
    }

    private static void grief() {
        WeatherGlaze x = hills("abel;potter");
        tell(x, 0, 8, 0, 1);
        due("grief", x.grief(0, 0), 50);
        due("POTTER: 10 to 19 cracks", x.grief(0, 1), NONE);
        tell(x, 2, 8, 0, 4);
        due("grief", x.grief(2, 1), 64);
        tell(x, 2, 32, 0, 5);
        due("grief", x.grief(2, 1), 80);
        tell(x, 2, 32, 8);
        due("grief", x.grief(2, 1), NONE);
        // 92 to 86 give 59 in WEEK 2, and 1 by SUN: 60; from 98 on it's 59.
        tell(x, 2, 32, -1, -1, 6);
        x.weather(0, 1);
        due("the most GRIEF", x.grief(2, 1), 99);
        tell(x, 2, 32);
        due("grief", x.grief(2, 1), 0);
        toldFindings(x);
    }

    private static void kinds() {
        // WEATHER 25 with HOURS 4: 9 a DAY, 63; OLD and its like 4 a DAY: 28; STONE 4 a DAY: 28; RUN 22 first.
        WeatherGlaze x = steady(hills("potter grief 9 hours 4 run 22;old"), 25);
        // POTTER, YOUNG, LAD 85: 0. OLD 50: 5 + 3: 0. WIDOWER 50 + 14: 6 + 3: 1. ABEL: 0. STONE 50 cracks: 0.
        tell(x, 0, 8, 0, 0);
        due("kinds", x.kinds(0, 0), 1 + 2 + 4 + 16 + 32 + 64);
        tell(x, 0, 8, -1, 1);
        due("kinds", x.kinds(0, 0), 8);
        // At the second FIRING, without RUN 22 first: POTTER, YOUNG, LAD 63: 6. OLD 28 and its cracking.
        tell(x, 0, 8, -1, -1, 6);
        due("kinds", x.kinds(0, 0), 1 + 2 + 64);
        tell(x, 0, 8, 2);
        due("kinds", x.kinds(0, 0), 0);
        tell(x, 0, 8);
        due("kinds", x.kinds(0, 0), 127);
        due("KIND is as it was", x.of(0, 0), 0);
        toldFindings(x);
    }

    private static int drawn(int z) {
        return z * 1103515245 + 12345;
    }

    private static void storms() {
        WeatherGlaze x = hills("potter hours 0;potter hours 0;potter hours 0;potter hours 0;"
            + "potter hours 0;potter hours 0;potter hours 0");
        int z = 1;
        int[] hours = new int[8];
        for (int day = 0; day < 40; day++) {
            z = drawn(z);
            int weather = (z >>> 8) % 100;
            z = drawn(z);
            hours[(z >>> 8) % 8] = 9;
            int run0 = x.of(0, 3) + x.of(0, 7) + 0;
            int sold = x.storms(1);
            due("SOLD", sold, x.now(1));
            due("WEATHER", x.listed(day % 6), weather);
            due("z", x.count(6), z);
            due("DAY", x.now(0), day + 1);
            for (int p = 0; p < 7; p++) {
                due("HOURS", x.of(p, 2), hours[p]);
            }
            if (day % 7 != 6) {
                int by = hours[0] * (weather / 10) / 2 + (hours[0] > 0 ? weather % 10 : 0);
                due("RUN by the WEATHER of the storm", x.of(0, 3), run0 + by);
            }
        }
        for (int n : new int[] {0, -1, 21, LEAST, MOST}) {
            due("storms", x.storms(n), BEYOND);
        }
        due("z is as it was", x.count(6), z);
        WeatherGlaze one = hills("potter;lad");
        WeatherGlaze many = hills("potter;lad");
        for (int i = 0; i < 20; i++) {
            one.storms(1);
        }
        due("storms", many.storms(20), one.now(1));
        due("z", many.count(6), one.count(6));
        due("RUN", many.of(1, 3), one.of(1, 3));
    }

    private static void odds() {
        // LAD with HOURS 9: 50 or more from RAIN 8 on alone: 20 of 100.
        WeatherGlaze x = hills("lad hours 9 run 999;young grief 99 hours 9;stone;"
            + "abel grief 99 hours 0;abel grief 80 hours 0");
        oddsOf(x, 0, 0, 1, 1);
        oddsOf(x, 0, 1, 1, 5);
        oddsOf(x, 0, 9, 1, 1953125);
        // YOUNG cries 9: 21 lack: RAIN 3: 13 and SUN 8, 9; 4: 18 and 3 to 9; from 5 (22) on all: 2 + 7 + 50.
        oddsOf(x, 1, 1, 59, 100);
        oddsOf(x, 1, 9, 8662995818654939L, 1000000000000000000L);
        // With ONIONS 18 lack: RAIN 2: 9 and SUN 9; 3: 5 to 9; from 4 on all: 66.
        x.onions(1);
        oddsOf(x, 1, 1, 33, 50);
        oddsOf(x, 1, 2, 1089, 2500);
        due("no ONION goes", x.now(2), 1);
        oddsOf(x, 2, 0, 1, 1);
        oddsOf(x, 2, 1, 0, 1);
        oddsOf(x, 2, 9, 0, 1);
        oddsOf(x, 3, 9, 0, 1);
        x.change(1, 0, 4);
        x.change(1, 2, 9);
        // ABEL cries 20; 10 lack, that is 20 for a POTTER: RAIN 3: 7 to 9; 4: 2 to 9; from 5 on all: 61.
        oddsOf(x, 1, 1, 61, 100);
        for (int n : new int[] {-1, 10, LEAST, MOST}) {
            due("odds", x.odds(0, n, 0), BEYOND);
        }
        for (int what : new int[] {-1, 2, LEAST, MOST}) {
            due("odds", x.odds(0, 1, what), BEYOND);
        }
        due("odds", x.odds(5, 1, 0), BEYOND);
        due("odds", x.odds(-1, 1, 0), BEYOND);
        due("z is as it was", x.count(6), 1);
        due("nothing changes", x.now(0), 0);
    }

    private static void oddsOf(WeatherGlaze x, int potter, int n, long above, long below) {
        due("odds above " + potter + ", " + n, x.odds(potter, n, 0), above);
        due("odds below " + potter + ", " + n, x.odds(potter, n, 1), below);
    }

    private static void seed() {
        WeatherGlaze x = new WeatherGlaze();
        due("seed", x.seed(LEAST), 1);
        due("seed", x.seed(MOST), LEAST);
        due("seed", x.seed(BEYOND), MOST);
        due("seed", x.seed(77), BEYOND);
        due("no finding", x.status(-1), 0);
        due("z", x.count(6), 77);
        x.storms(1);
        due("z", x.count(6), drawn(drawn(77)));
    }

    private static void feed() {
        WeatherGlaze x = new WeatherGlaze();
        for (int n : new int[] {0, 5, -1, LEAST, MOST}) {
            due("feed", x.feed(0, n), BEYOND);
        }
        // "lad;", and of the others the lowest bytes alone: "old" behind another byte.
        due("feed", x.feed(0x6c61643b, 4), 4);
        due("feed", x.feed(0xff6f6c64, 3), 7);
        due("feed", x.feed(0x58583b6c, 2), 9);
        due("feed", x.feed(0x58585861, 1), 10);
        due("feed", x.feed('d', 1), 11);
        due("text", x.text(), 3);
        due("of", x.of(0, 0), 6);
        due("of", x.of(1, 0), 2);
        due("of", x.of(2, 0), 6);
        for (int i = 1; i <= 29; i++) {
            due("feed", x.feed(0x20202020, 4), 4 * i);
        }
        due("feed", x.feed(0x202020, 3), 119);
        due("feed", x.feed(0x2020, 2), FULL);
        due("feed", x.feed(0x2020, 5), BEYOND);
        due("count", x.count(5), 119);
        due("feed", x.feed(32, 1), 120);
        due("feed", x.feed(32, 1), FULL);
        due("text of blanks ends too early", x.text(), -121);
    }

    private static void wipe() {
        WeatherGlaze x = new WeatherGlaze();
        due("wipe", x.wipe(), 0);
        feedAll(x, "xyz");
        due("wipe", x.wipe(), 3);
        due("wipe", x.wipe(), 0);
        feedAll(x, "lad");
        due("text", x.text(), 1);
        due("THE TAPE is empty", x.wipe(), 0);
    }

    private static void text() {
        WeatherGlaze x = new WeatherGlaze();
        x.potter(0, 44);
        due("text", read(x, "potter;young grief 99;old hours 9;widower run 999;abel grief 0 run 1;stone hours 0 run 2;"
            + "lad grief 5hours 6run7"), 7);
        int[][] due = {{0, 44, 2, 0}, {0, 10, 2, 0}, {1, 99, 2, 0}, {2, 10, 9, 0}, {3, 10, 2, 999}, {4, 0, 2, 1},
            {5, 10, 0, 2}, {6, 5, 6, 7}};
        for (int p = 0; p < 8; p++) {
            for (int what = 0; what < 4; what++) {
                due("of " + p + ", " + what, x.of(p, what), due[p][what]);
            }
        }
        due("text", read(x, "  onions  99 ; weather 0 9 8;weather 5 0 7;weather 0 1 2  "), 4);
        due("item by item", x.listed(0), 12);
        due("listed", x.listed(5), 7);
        due("ONIONS", x.now(2), 99);
        due("zeros ahead", read(x, "onions0000000000000000000000000000000000000000000042;weather1 002 3"), 2);
        due("ONIONS", x.now(2), 42);
        due("listed", x.listed(1), 23);
        due("no finding", x.status(-1), 0);
    }

    private static void fault(String text, int place) {
        WeatherGlaze x = new WeatherGlaze();
        due("FAULT of '" + text + "'", read(x, text), -1 - place);
        due("THE TAPE is empty", x.count(5), 0);
        due("no POTTER", x.count(1), 0);
        due("no ONION", x.now(2), 0);
        due("no WEATHER", x.listed(0), 0);
        due("no finding", x.status(-1), 0);
    }

    private static void textFaults() {
        fault("", 0);
        fault("   ", 3);
        fault(";", 0);
        fault(" 7", 1);
        fault("lad;", 4);
        fault("lad; ", 5);
        fault("lad;;lad", 4);
        fault("lad lad", 4);
        fault("Lad", 0);
        fault("lAd", 0);
        fault("lad\t", 3);
        fault("lad\n;lad", 3);
        fault("lad\u0000", 3);
        fault("lad;\u00e9", 4);
        fault("lad grief", 9);
        fault("lad grief  ", 11);
        fault("lad grief;", 9);
        fault("lad grief 100", 10);
        fault("lad grief -1", 10);
        fault("lad grief 1 2", 12);
        fault("lad grief 1 grief 2", 12);
        fault("lad hours 10", 10);
        fault("lad hours 1 grief 2", 12);
        fault("lad run 1000", 8);
        fault("lad run 4294967296", 8);
        fault("lad run 999999999999999999999999999999999999999999999999", 8);
        fault("lad run 1 hours 2", 10);
        fault("lad run 1 grief 2", 10);
        fault("lad run 1 run 2", 10);
        fault("lad runs 1", 4);
        fault("bad", 0);
        fault("lag", 0);
        fault("la", 0);
        fault("ladz", 0);
        fault("lada", 0);
        fault("lad{", 3);
        fault("lad`", 3);
        fault("onions 1:", 8);
        fault("onions 1/", 8);
        fault("ladgrief 1", 0);
        fault("onions", 6);
        fault("onions 100", 7);
        fault("onions 1 1", 9);
        fault("onions lad", 7);
        fault("onions 3;lad;weather 6 0 0", 21);
        fault("weather 0 10 0", 10);
        fault("weather 0 0 10", 12);
        fault("weather 0 0", 11);
        fault("weather 000", 11);
        fault("weather 0 0 0 0", 14);
        fault("weather 0 5 5;grief 5", 14);
        fault("5", 0);
        fault("hours 5", 0);
        fault("pott er", 0);
        fault("lad;lad;onions 5;lad #", 21);
    }

    private static void textNinth() {
        String eight = "old;old;old;old;old;old;old;old";
        WeatherGlaze x = new WeatherGlaze();
        due("a 9th POTTER", read(x, eight + ";onions 3; lad grief 100"), -1 - 42);
        due("count", x.count(1), 0);
        x.potter(0, 0);
        due("a 9th POTTER with the one that was", read(x, eight), -1 - 28);
        due("count", x.count(1), 1);
        due("text", read(x, "old;old;old;old;old;old;old"), 7);
        due("count", x.count(1), 8);
        due("text", read(x, "onions 3"), 1);
        due("a 9th POTTER", read(x, "lad"), -1);
        due("another WORD", read(x, "onions 4;lads"), -10);
        due("ONIONS", x.now(2), 3);
    }

    private static void hold() {
        WeatherGlaze x = new WeatherGlaze();
        due("hold", x.hold(0, 0), BEYOND);
        due("hold", x.hold(0, -1), 1);
        x.potter(0, 0);
        x.potter(0, 0);
        due("hold", x.hold(0, 1), 1);
        due("hold", x.hold(9, 0), 1);
        due("as", x.as(0, 0), 1);
        due("as", x.as(9, 0), 0);
        for (int v : new int[] {-1, 10, LEAST, MOST}) {
            due("hold", x.hold(v, 0), BEYOND);
        }
        for (int v : new int[] {-2, 2, LEAST, MOST}) {
            due("hold", x.hold(0, v), BEYOND);
        }
        due("as", x.as(0, 0), 1);
        due("hold", x.hold(0, -1), 1);
        due("as", x.as(0, 0), MISSING);
        due("count", x.count(7), 1);
    }

    private static void as() {
        int[] sets = {1, 1 + 2, 1 + 4, 1 + 4 + 8, 1 + 4 + 8 + 16, 1 + 32, 1 + 2 + 64};
        WeatherGlaze x = new WeatherGlaze();
        for (int kind = 0; kind < 7; kind++) {
            x.potter(kind, 0);
            x.hold(kind + 1, kind);
        }
        for (int kind = 0; kind < 7; kind++) {
            for (int asked = 0; asked < 7; asked++) {
                due("as " + kind + ", " + asked, x.as(kind + 1, asked), (sets[kind] >> asked & 1) == 1 ? kind : KIND);
            }
        }
        x.change(0, 0, 6);
        due("by its KIND now", x.as(1, 1), 0);
        due("as", x.as(0, 0), MISSING);
        due("as", x.as(0, 7), BEYOND);
        due("as", x.as(0, -1), BEYOND);
        for (int v : new int[] {-1, 10, LEAST, MOST}) {
            due("as", x.as(v, 0), BEYOND);
        }
    }

    private static void sheet() {
        WeatherGlaze x = new WeatherGlaze();
        due("sheet", x.sheet(0, 8, 40), 40);
        due("sheet", x.sheet(3, 16, 0), 0);
        due("sheet", x.sheet(1, 32, 7), 7);
        for (int s : new int[] {-1, 4, LEAST, MOST}) {
            due("sheet", x.sheet(s, 8, 1), BEYOND);
            due("sheet", x.sheet(s, 8, -1), BEYOND);
        }
        for (int bits : new int[] {-1, 1, 7, 24, 64, LEAST, MOST}) {
            due("sheet", x.sheet(0, bits, 1), BEYOND);
            due("sheet", x.sheet(0, bits, -1), BEYOND);
        }
        for (int bits : new int[] {0, 8, 16, 32}) {
            due("sheet", x.sheet(0, bits, -1), SIZE);
            due("sheet", x.sheet(0, bits, LEAST), SIZE);
            due("sheet", x.sheet(0, bits, 41), BEYOND);
            due("sheet", x.sheet(0, bits, MOST), BEYOND);
        }
        due("it is as it was", x.write(0, 39, 1), 1);
        due("judge", x.judge(0), 1);
        due("sheet", x.sheet(0, 8, 2), 2);
        due("all 0", x.load(0), 2);
        due("sheet", x.sheet(0, 8, 40), 40);
        x.write(0, 0, 98);
        x.sheet(0, 8, 1);
        due("load", x.load(0), 1);
        due("all 0", x.listed(0), 0);
        due("sheet", x.sheet(0, 0, 40), 0);
        due("MISSING", x.load(0), MISSING);
        due("no numbers", x.load(3), 0);
    }

    private static void write() {
        WeatherGlaze x = new WeatherGlaze();
        x.sheet(0, 8, 2);
        x.sheet(1, 16, 2);
        x.sheet(2, 32, 2);
        for (int s = 0; s < 3; s++) {
            due("write", x.write(s, 0, 0x12340000 + 256 * 256 + 42), 1);
            due("write", x.write(s, 1, 256 + 7), 1);
        }
        due("8 bits", x.load(0), 2);
        due("listed", x.listed(0), 42);
        due("listed", x.listed(1), 7);
        x.weather(0, 0);
        due("16 bits", x.load(1), 1);
        due("listed", x.listed(0), 42);
        due("32 bits", x.load(2), 0);
        for (int s : new int[] {-1, 4, LEAST, MOST}) {
            due("write", x.write(s, 0, 0), BEYOND);
        }
        due("write", x.write(3, 0, 0), MISSING);
        due("write", x.write(3, 50, 0), MISSING);
        for (int i : new int[] {-1, 2, 40, LEAST, MOST}) {
            due("write", x.write(0, i, 0), BEYOND);
        }
    }

    private static void copy() {
        WeatherGlaze x = new WeatherGlaze();
        tell(x, 0, 8, 1, 2, 3, 4, 5, 6);
        tell(x, 1, 8, 0, 0, 0);
        tell(x, 2, 16, 0, 0, 0);
        due("copy", x.copy(0, 3, 1, 1, 2), 2);
        due("load", x.load(1), 3);
        lists(x, 0, 4, 5);
        due("as they all were", x.copy(0, 0, 0, 1, 5), 5);
        due("load", x.load(0), 6);
        lists(x, 1, 1, 2, 3, 4, 5);
        due("as they all were", x.copy(0, 1, 0, 0, 5), 5);
        due("load", x.load(0), 6);
        lists(x, 1, 2, 3, 4, 5, 5);
        due("none", x.copy(0, 6, 1, 3, 0), 0);
        due("copy", x.copy(0, 7, 1, 3, 0), BEYOND);
        due("copy", x.copy(0, 6, 1, 4, 0), BEYOND);
        due("copy", x.copy(0, 0, 1, 0, 4), BEYOND);
        due("copy", x.copy(0, 4, 1, 0, 3), BEYOND);
        due("copy", x.copy(0, 0, 1, 1, 3), BEYOND);
        due("copy", x.copy(0, -1, 1, 0, 1), BEYOND);
        due("copy", x.copy(0, 0, 1, -1, 1), BEYOND);
        due("copy", x.copy(0, 0, 1, 0, -1), BEYOND);
        due("copy", x.copy(0, MOST, 1, 0, MOST), BEYOND);
        due("copy", x.copy(0, MOST, 1, MOST, 1), BEYOND);
        due("copy", x.copy(0, LEAST, 1, LEAST, LEAST), BEYOND);
        due("copy", x.copy(0, 0, 2, 0, 1), KIND);
        due("copy", x.copy(0, -1, 2, 0, 1), KIND);
        due("copy", x.copy(0, 0, 3, 0, 1), MISSING);
        due("copy", x.copy(3, 0, 0, 0, -1), MISSING);
        due("copy", x.copy(3, 0, 4, 0, 1), BEYOND);
        due("copy", x.copy(4, 0, 3, 0, 1), BEYOND);
        due("copy", x.copy(0, 0, -1, 0, 1), BEYOND);
        due("copy", x.copy(-1, 0, 3, 0, 1), BEYOND);
        due("copy", x.copy(LEAST, 0, MOST, 0, 1), BEYOND);
        due("as it was", x.load(1), 3);
        lists(x, 0, 4, 5);
        due("the whole", x.copy(1, 0, 0, 3, 3), 3);
        due("the whole onto itself", x.copy(0, 0, 0, 0, 6), 6);
        due("load", x.load(0), 6);
        lists(x, 1, 2, 3, 0, 4, 5);
    }

    private static void lists(WeatherGlaze x, int... due) {
        for (int i = 0; i < due.length; i++) {
            due("listed " + i, x.listed(i), due[i]);
        }
    }

    private static void load() {
        WeatherGlaze x = steady(new WeatherGlaze(), 55);
        tell(x, 0, 32, 0, 99, 10, 100, 11);
        due("load", x.load(0), 3);
        lists(x, 0, 99, 10, 55, 55, 55);
        tell(x, 1, 8, 1, 2, 3, 4, 5, 6, 7, 8);
        due("load", x.load(1), 6);
        lists(x, 1, 2, 3, 4, 5, 6);
        tell(x, 2, 8, 9, -1, 3);
        due("load", x.load(2), 1);
        lists(x, 9, 2, 3, 4, 5, 6);
        tell(x, 2, 8, 200, 1);
        due("load", x.load(2), 0);
        tell(x, 2, 8);
        due("load", x.load(2), 0);
        due("load", x.load(3), MISSING);
        for (int s : new int[] {-1, 4, LEAST, MOST}) {
            due("load", x.load(s), BEYOND);
        }
    }

    private static void judge() {
        WeatherGlaze x = hills("lad;old;stone");
        x.change(0, 4, 7);
        x.change(2, 4, 5);
        tell(x, 0, 8, 7, 0, 5);
        due("judge", x.judge(0), 0);
        tell(x, 0, 8, 7, 0);
        due("fewer", x.judge(0), 0);
        tell(x, 0, 8);
        due("none", x.judge(0), 0);
        tell(x, 0, 8, 7, 0, 4);
        due("the last", x.judge(0), 3);
        tell(x, 0, 8, 6, 0, 4);
        due("the first", x.judge(0), 1);
        tell(x, 0, 8, 7, -1, 5);
        due("-1 is no COLOUR", x.judge(0), 2);
        tell(x, 0, 8, 7, 0, 5, 0);
        due("no such POTTER", x.judge(0), 4);
        due("judge", x.judge(3), MISSING);
        for (int s : new int[] {-1, 4, LEAST, MOST}) {
            due("judge", x.judge(s), BEYOND);
        }
    }

    private static void image() {
        WeatherGlaze x = hills("lad;old grief 77 hours 3 run 5;onions 9;weather 3 2 1");
        x.seed(1234);
        x.hold(4, 1);
        x.go(20);
        x.change(1, 4, 6);
        x.change(1, 5, 60);
        x.change(1, 6, 61);
        long before = fingerprint(x);
        due("image", x.image(), 1);
        due("nothing changes", fingerprint(x), before);
        feedAll(x, "ab");
        tell(x, 0, 8, 7);
        upset(x);
        feedAll(x, "ab");
        tell(x, 0, 8, 7);
        due("something changed", fingerprint(x) == before ? 1 : 0, 0);
        due("undo", x.undo(), 20);
        due("all is as it was", fingerprint(x), before);
        due("but THE TAPE", x.count(5), 2);
        due("and SHEETS", x.write(0, 0, 7), 1);
        due("count", x.count(1), 2);
    }

    private static void upset(WeatherGlaze x) {
        x.wipe();
        read(x, "stone run 500;onions 3;weather 3 9 9;weather 0 9 9");
        x.change(0, 0, 3);
        x.hold(4, -1);
        x.hold(5, 2);
        x.storms(20);
    }

    private static long fingerprint(WeatherGlaze x) {
        long print = 17;
        for (int i = 0; i < 6; i++) {
            print = print * 31 + x.listed(i);
        }
        for (int what = 0; what < 8; what++) {
            print = print * 31 + x.now(what);
            print = print * 31 + (what == 5 ? 0 : x.count(what));
        }
        for (int p = 0; p < 8; p++) {
            for (int what = 0; what < 13; what++) {
                print = print * 31 + x.of(p, what);
            }
        }
        for (int spot = 0; spot < 10; spot++) {
            print = print * 31 + x.as(spot, 0);
        }
        return print;
    }

    private static void undo() {
        WeatherGlaze x = new WeatherGlaze();
        due("undo", x.undo(), NONE);
        x.image();
        x.potter(6, 50);
        x.go(3);
        due("undo", x.undo(), 0);
        due("count", x.count(1), 0);
        x.go(5);
        x.image();
        x.go(5);
        due("the latest", x.undo(), 5);
        x.go(1);
        due("which stays", x.undo(), 5);
        due("DAY", x.now(0), 5);
        due("findings stay", x.status(3), 1);
        undoPotter();
    }

    private static void undoPotter() {
        WeatherGlaze x = hills("lad");
        x.image();
        x.potter(5, 70);
        for (int what = 0; what < 7; what++) {
            x.change(1, what, 6);
        }
        x.change(1, 3, 900);
        due("undo", x.undo(), 0);
        int[] due = {0, 0, 0, 0, 0, 0, 0, 0};
        for (int what = 0; what < 8; what++) {
            due("nothing is left of it: now " + what, x.now(what), due[what]);
        }
        due("of", x.of(1, 0), BEYOND);
        due("a POTTER of later is new", x.potter(0, 3), 1);
        int[] first = {0, 3, 2, 0, 0, 0, 0};
        for (int what = 0; what < 7; what++) {
            due("as at first: of " + what, x.of(1, what), first[what]);
        }
    }

    private static void tear() {
        WeatherGlaze x = new WeatherGlaze();
        due("tear", x.tear(), 0);
        x.image();
        x.image();
        due("tear", x.tear(), 1);
        due("tear", x.tear(), 0);
        x.go(4);
        due("undo", x.undo(), NONE);
        due("DAY", x.now(0), 4);
        x.image();
        due("undo", x.undo(), 4);
    }

    private static void count() {
        WeatherGlaze x = steady(hills("potter hours 9;stone hours 0"), 90);
        feedAll(x, "12345");
        x.seed(-5);
        x.hold(0, 0);
        x.hold(9, 0);
        x.hold(8, -1);
        x.go(14);
        // The POTTER: 40 a DAY and 1 on DAY 0: 281: 28 modulo 8 is 4; 280 then, too.
        int[] due = {14, 2, 28, 2, 2, 5, -5, 2};
        for (int what = 0; what < 8; what++) {
            due("count " + what, x.count(what), due[what]);
        }
        x.seed(BEYOND);
        due("z looks like a finding", x.count(6), BEYOND);
        due("and is none", x.status(-1), 0);
        for (int what : new int[] {-1, 8, LEAST, MOST}) {
            due("count", x.count(what), BEYOND);
        }
    }

    private static void status() {
        WeatherGlaze x = new WeatherGlaze();
        for (int which = -1; which < 7; which++) {
            due("status", x.status(which), 0);
        }
        x.image();
        for (int i = 0; i < 9; i++) {
            x.potter(0, 0);
        }
        x.listed(6);
        x.odds(9, 0, 0);
        x.hold(0, 0);
        x.as(0, 6);
        x.as(1, 0);
        x.when(0, 9999);
        x.sheet(0, 0, -4);
        x.judge(2);
        x.text();
        x.undo();
        int[] due = {2, 1, 1, 1, 0, 2, 1};
        for (int which = 0; which < 7; which++) {
            due("status " + which, x.status(which), due[which]);
        }
        due("all", x.status(-1), 8);
        due("status", x.status(7), BEYOND);
        due("counted from then on", x.status(0), 3);
        due("status", x.status(-2), BEYOND);
        due("status", x.status(LEAST), BEYOND);
        due("status", x.status(MOST), BEYOND);
        due("all", x.status(-1), 12);
    }

    /** 512 calls come to DAY 30720 at most, so what is asked here isn't promised, but as told. */
    private static void lastDay() {
        WeatherGlaze x = hills("potter");
        x.weather(3, 90);
        for (int i = 0; i < 1666; i++) {
            x.go(60);
        }
        due("DAY", x.now(0), 99960);
        due("go", x.go(40), STATE);
        due("DAY", x.now(0), 99960);
        x.image();
        due("go to the last DAY", x.go(39), x.now(1));
        due("DAY", x.now(0), 99999);
        x.undo();
        x.go(20);
        due("storms", x.storms(20), STATE);
        due("z is as it was", x.count(6), 1);
        x.storms(17);
        due("DAY", x.now(0), 99997);
        due("go", x.go(3), STATE);
        due("go", x.go(1), x.now(1));
        due("storms", x.storms(2), STATE);
        due("storms", x.storms(1), x.now(1));
        due("DAY", x.now(0), 99999);
        due("go", x.go(1), STATE);
        due("storms", x.storms(1), STATE);
        due("go: BEYOND is asked first", x.go(61), BEYOND);
        due("DAY stays 99999, no FIRING comes", x.cracks(0), NONE);
        due("status", x.status(4), 6);
    }
}
