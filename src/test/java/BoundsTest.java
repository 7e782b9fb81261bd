/**
 * Each sentence of the document that names a boundary case, by runs at the bound, just within it and just
 * beyond it; what is refused stands in RefusedCallsTest. The titles begin with the promise's number.
 */
public final class BoundsTest {
    private static final int KINDS = 7;
    private static final int[] NEEDS = {40, 30, 50, 50, 30, 60, 50};
    private static final int[] HEALS = {1, 2, 1, 0, 0, 5, 2};
    // What one without GRIEF and HOURS cries.
    private static final int[] CRIES = {0, 0, 0, 2, 2, 0, 0};

    public static void main(String[] args) {
        newObject();
        listAndOnions();
        potters();
        cries();
        weathers();
        tintAndFetches();
        needsAndHeals();
        change();
        days();
        firings();
        mostRun();
        griefOfDays();
        mostPots();
        mostSold();
        onionsGo();
        abelsFiftyPots();
        now();
        aheadAndSold();
        when();
        cracks();
        tinted();
        hoursFor();
        kindFor();
        griefFor();
        weatherFor();
        onionsFor();
        stayIn();
        toldGriefs();
        toldKinds();
        toldWeeks();
        storms();
        odds();
        tape();
        texts();
        numbersOfTexts();
        faults();
        ninthPotter();
        spots();
        sheets();
        lowestBits();
        copies();
        loads();
        judges();
        images();
        counts();
        status();
        Script.report();
    }

    /** Asks one thing of POTTER 0 as each KIND in turn. */
    private static void asEachKind(Script s, int what, int... due) {
        for (int kind = 0; kind < KINDS; kind++) {
            s.then("change 0 0 " + kind, "of 0 " + what + " = " + due[kind]);
        }
    }

    private static Script steady(Script s, int weather) {
        for (int i = 0; i < 6; i++) {
            s.then("weather " + i + " " + weather);
        }
        return s;
    }

    // ---- promise 1

    private static void newObject() {
        Script s = new Script("1 a new object");
        for (int what = 0; what < 8; what++) {
            s.then("count " + what + " = " + (what == 6 ? 1 : 0), "now " + what + " = " + (what == 7 ? -1 : 0));
        }
        for (int i = 0; i < 6; i++) {
            s.then("listed " + i + " = 0");
        }
        for (int sheet = 0; sheet < 4; sheet++) {
            s.then("load " + sheet + " = MISSING");
        }
        for (int spot = 0; spot < 10; spot++) {
            s.then("as " + spot + " 0 = MISSING");
        }
        s.then("of 0 0 = BEYOND", "wipe = 0", "text = -1", "tear = 0", "undo = NONE", "seed 1 = 1").end();
        Script.run("1 a new object has all of its own", "potter 0 0 = 0", "count 1 = 1", "weather 0 7 = 0",
            "tape 'old'", "image = 1", "sheet 0 8 1", "hold 0 0 = 1", "seed 9 = 1");
        Script.run("1 another new object", "potter 0 0 = 0", "count 5 = 0", "listed 0 = 0", "undo = NONE",
            "load 0 = MISSING", "as 0 0 = MISSING", "count 6 = 1");
    }

    // ---- promises 2 to 5

    private static void listAndOnions() {
        Script.run("2 weather", "weather 0 99 = 0", "weather 0 98 = 99", "weather 0 0 = 98", "weather 0 1 = 0",
            "weather 5 99 = 0", "weather 5 10 = 99", "listed 0 = 1 | listed 1 = 0 | listed 4 = 0 | listed 5 = 10",
            "weather 6 0 = BEYOND", "weather -1 0 = BEYOND", "weather 5 100 = BEYOND", "weather 5 -1 = BEYOND",
            "listed 5 = 10");
        Script.run("3 listed", "weather 0 1 | weather 1 2 | weather 4 3 | weather 5 4",
            "listed 0 = 1 | listed 1 = 2 | listed 4 = 3", "listed 5 = 4", "listed -1 = BEYOND", "listed 6 = BEYOND");
        Script.run("4 onions", "onions 99 = 0", "onions 98 = 99", "onions 1 = 98", "onions 0 = 1",
            "onions 100 = BEYOND", "onions -1 = BEYOND", "onions 5 = 0", "onions 100 = BEYOND", "now 2 = 5");
        Script.run("2 THE LIST by DAY modulo 6", "potter 0 0", "weather 0 1 | weather 1 2 | weather 4 3 | weather 5 4",
            "of 0 8 = 1", "go 1", "of 0 8 = 2", "go 3", "of 0 8 = 3", "go 1", "of 0 8 = 4", "go 1", "of 0 8 = 1",
            "go 5", "of 0 8 = 4", "go 1", "of 0 8 = 1", "now 0 = 12");
    }

    private static void potters() {
        Script s = new Script("5 potter");
        for (int p = 0; p < 7; p++) {
            s.then("potter " + p + " " + p + " = " + p);
        }
        s.then("image", "potter 6 99 = 7", "count 1 = 8", "of 7 0 = 6 | of 7 1 = 99", "potter 0 0 = FULL",
            "count 1 = 8", "potter 7 0 = BEYOND", "potter 0 100 = BEYOND", "undo = 0", "count 1 = 7", "of 7 0 = BEYOND",
            "potter 0 0 = 7", "of 7 1 = 0", "potter 0 0 = FULL").end();
        Script.run("5 a POTTER is as at first but for KIND and GRIEF", "potter 6 0 = 0",
            "of 0 0 = 6 | of 0 1 = 0 | of 0 2 = 2", "of 0 3 = 0 | of 0 4 = 0 | of 0 5 = 0 | of 0 6 = 0",
            "potter 0 98 = 1", "of 1 1 = 98", "potter 1 1 = 2", "of 2 1 = 1", "potter 5 99 = 3", "of 3 0 = 5");
    }

    // ---- promise 6: what a POTTER does, by its KIND

    private static void cries() {
        int[][] tenths = {{0, 0}, {1, 0}, {9, 0}, {10, 1}, {11, 1}, {19, 1}, {20, 2}, {89, 8}, {90, 9}, {98, 9},
            {99, 9}};
        for (int[] row : tenths) {
            int t = row[1];
            Script s = new Script("6 CRIES with GRIEF " + row[0]).then("potter 0 " + row[0]);
            asEachKind(s, 7, t, t, 2 * t, 2 * t + 2, 2 * t + 2, 0, 0);
            s.then("onions 1");
            asEachKind(s, 7, t, t + 3, 2 * t, 2 * t + 2, 2 * t + 2, 0, 0);
            s.then("now 2 = 1", "onions 99");
            asEachKind(s, 7, t, t + 3, 2 * t, 2 * t + 2, 2 * t + 2, 0, 0);
            s.then("now 2 = 99", "change 0 5 49");
            asEachKind(s, 7, t, t + 3, 2 * t, 2 * t + 2, 2 * t + 2, 0, 0);
            for (int pots : new int[] {50, 51, 9999}) {
                s.then("change 0 5 " + pots);
                asEachKind(s, 7, t, t + 3, 2 * t, 2 * t + 2, 0, 0, 0);
            }
            s.end();
        }
    }

    private static void weathers() {
        // HOURS, WEATHER, then what each KIND has by these.
        int[][] rows = {
            {0, 0, 0, 0, 0, 0, 0, 0, 0}, {0, 99, 0, 0, 0, 0, 0, 0, 0}, {0, 9, 0, 0, 0, 0, 0, 0, 0},
            {1, 0, 0, 0, 0, 0, 0, 0, 0}, {1, 1, 1, 1, 0, 0, 0, 0, 1}, {1, 2, 2, 2, 1, 1, 1, 0, 2},
            {1, 10, 0, 0, 0, 0, 0, 0, 0}, {1, 20, 1, 1, 0, 0, 0, 1, 1}, {1, 99, 13, 13, 6, 6, 6, 4, 26},
            {3, 79, 19, 19, 9, 9, 9, 10, 19}, {3, 80, 12, 12, 6, 6, 6, 12, 24}, {3, 90, 13, 13, 6, 6, 6, 13, 26},
            {8, 98, 44, 44, 22, 22, 22, 36, 88}, {9, 9, 9, 9, 4, 4, 4, 0, 9}, {9, 70, 31, 31, 15, 15, 15, 31, 31},
            {9, 79, 40, 40, 20, 20, 20, 31, 40}, {9, 80, 36, 36, 18, 18, 18, 36, 72},
            {9, 99, 49, 49, 24, 24, 24, 40, 98}};
        for (int[] row : rows) {
            Script s = new Script("6 WEATHERS with HOURS " + row[0] + ", WEATHER " + row[1]).then("potter 0 99",
                "onions 5", "weather 0 " + row[1], "change 0 2 " + row[0]);
            asEachKind(s, 8, row[2], row[3], row[4], row[5], row[6], row[7], row[8]);
            s.end();
        }
    }

    private static void tintAndFetches() {
        // RUN, GRIEF, then the TINT of each KIND.
        int[][] tints = {
            {0, 49, 0, 0, 3, 3, 0, 0, 0}, {9, 50, 0, 0, 3, 3, 1, 0, 0}, {10, 51, 1, 1, 4, 4, 1, 1, 1},
            {11, 0, 1, 1, 4, 4, 0, 1, 1}, {49, 99, 4, 4, 7, 7, 1, 4, 4}, {50, 48, 5, 5, 0, 0, 0, 5, 5},
            {79, 98, 7, 7, 2, 2, 1, 7, 7}, {80, 1, 0, 0, 3, 3, 0, 0, 0}, {98, 49, 1, 1, 4, 4, 0, 1, 1},
            {99, 50, 1, 1, 4, 4, 1, 1, 1}, {100, 50, 2, 2, 5, 5, 1, 2, 7}, {101, 49, 2, 2, 5, 5, 0, 2, 7},
            {129, 49, 4, 4, 7, 7, 0, 4, 7}, {130, 49, 5, 5, 0, 0, 0, 5, 7}, {998, 0, 3, 3, 6, 6, 0, 3, 7},
            {999, 99, 3, 3, 6, 6, 1, 3, 7}};
        for (int[] row : tints) {
            Script s = new Script("6 TINT with RUN " + row[0] + ", GRIEF " + row[1]).then("potter 0 " + row[1],
                "change 0 3 " + row[0], "change 0 4 6");
            asEachKind(s, 10, row[2], row[3], row[4], row[5], row[6], row[7], row[8]);
            s.end();
        }
        int[][] fetches = {{0, 10, 5, 20, 20, 60, 1, 10}, {1, 11, 5, 21, 21, 63, 2, 10}, {6, 16, 5, 26, 26, 78, 7, 10},
            {7, 17, 5, 27, 27, 81, 8, 100}};
        for (int[] row : fetches) {
            Script s = new Script("6 FETCHES with COLOUR " + row[0]).then("potter 0 99", "change 0 3 999",
                "change 0 4 " + row[0]);
            asEachKind(s, 11, row[1], row[2], row[3], row[4], row[5], row[6], row[7]);
            s.end();
        }
    }

    private static void needsAndHeals() {
        Script s = new Script("6 NEEDS, HEALS").then("potter 0 0");
        asEachKind(s, 9, NEEDS);
        asEachKind(s, 12, HEALS);
        s.then("of 0 12 = 2 | of 0 13 = BEYOND | of 0 -1 = BEYOND | of 1 0 = BEYOND | of -1 0 = BEYOND").end();
    }

    // ---- promise 7

    private static void change() {
        int[] most = {6, 99, 9, 999, 7, 9999, 9999};
        int[] first = {3, 30, 2, 0, 0, 0, 0};
        for (int what = 0; what < most.length; what++) {
            String of = "change 1 " + what + " ";
            Script s = new Script("7 change " + what).then("potter 2 20 | potter 3 30 | potter 4 40",
                of + most[what] + " = " + first[what], of + (most[what] + 1) + " = BEYOND", of + "-1 = BEYOND",
                "of 1 " + what + " = " + most[what], of + (most[what] - 1) + " = " + most[what],
                of + "1 = " + (most[what] - 1), of + "0 = 1", "of 1 " + what + " = 0");
            for (int other = 0; other < most.length; other++) {
                s.then("of 0 " + other + " = " + new int[] {2, 20, 2, 0, 0, 0, 0}[other],
                    "of 2 " + other + " = " + new int[] {4, 40, 2, 0, 0, 0, 0}[other]);
                if (other != what) {
                    s.then("of 1 " + other + " = " + first[other]);
                }
            }
            s.end();
        }
        Script.run("7 no such what or POTTER", "change 0 0 0 = BEYOND", "potter 0 0", "change 0 7 0 = BEYOND",
            "change 0 -1 0 = BEYOND", "change 1 0 0 = BEYOND", "change -1 0 0 = BEYOND", "change 0 0 0 = 0");
    }

    // ---- promise 8: DAYS and FIRINGS

    private static void days() {
        Script.run("8 go", "go 1 = 0", "now 0 = 1", "go 2 = 0", "now 0 = 3", "go 59 = 0", "now 0 = 62", "go 60 = 0",
            "now 0 = 122", "go 0 = BEYOND", "go 61 = BEYOND", "go -1 = BEYOND", "now 0 = 122");
        // Without GRIEF and HOURS a RUN of 40 stays for the first FIRING; at the second there is none.
        String potter = "'potter grief 0 hours 0 run 40' = 1";
        Script.run("8 a FIRING as DAY 6 goes by", potter, "go 5 = 0", "of 0 5 = 0", "go 1 = 0", "now 0 = 6",
            "of 0 5 = 0", "of 0 3 = 40", "go 1 = 14", "of 0 5 = 1", "of 0 4 = 4", "of 0 3 = 0", "of 0 6 = 0",
            "go 6 = 14", "now 0 = 13", "of 0 6 = 0", "of 0 1 = 0", "go 1 = 14", "of 0 6 = 1", "of 0 1 = 15",
            "of 0 4 = 4");
        Script.run("8 six DAYS", potter, "go 6 = 0", "count 3 = 0", "count 4 = 0");
        Script.run("8 seven DAYS", potter, "go 7 = 14", "count 3 = 1", "count 4 = 0");
        Script.run("8 thirteen DAYS", potter, "go 13 = 14", "count 3 = 1", "count 4 = 0");
        Script.run("8 fourteen DAYS", potter, "go 14 = 14", "count 3 = 1", "count 4 = 1");
        Script.run("8 without POTTERS", "go 60 = 0", "count 0 = 60", "count 3 = 0", "count 4 = 0");
    }

    /** RUN one less than a KIND NEEDS, as much, and one more. */
    private static void firings() {
        for (int kind = 0; kind < KINDS; kind++) {
            for (int more = -1; more <= 1; more++) {
                boolean isPot = more >= 0;
                int run = NEEDS[kind] + more;
                new Script("8 a FIRING of KIND " + kind + ", RUN " + run).then("potter " + kind + " 0", "change 0 2 0",
                    "go 6", "change 0 4 6", "change 0 3 " + run, "now 6 = " + (isPot ? 1 : 0),
                    "change 0 3 " + (run - CRIES[kind]), "go 1", "of 0 5 = " + (isPot ? 1 : 0),
                    "of 0 6 = " + (isPot ? 0 : 1), "of 0 3 = 0", "of 0 1 = " + (isPot ? 0 : 15),
                    "of 0 4 = " + (isPot ? tintAt(kind) : 6), "now 5 = " + (isPot ? 1 << tintAt(kind) : 0)).end();
            }
        }
        // FETCHES by the new COLOUR: the LAD had 7, and has 5 by 50.
        Script.run("8 FETCHES by the COLOUR of the pot", "'lad hours 0 run 50' = 1", "change 0 4 7", "go 7 = 10",
            "of 0 4 = 5");
        Script.run("8 FETCHES by the COLOUR of the pot", "'lad hours 0 run 100' = 1", "go 7 = 100", "of 0 4 = 7");
        Script.run("8 FETCHES by the COLOUR of the pot", "'lad hours 0 run 99' = 1", "go 7 = 10", "of 0 4 = 1");
        Script.run("8 who cracks fetches nothing", "'lad hours 0 run 49' = 1", "change 0 4 7", "go 7 = 0", "of 0 4 = 7",
            "now 5 = 0");
    }

    /** The TINT of a KIND with as much RUN as it NEEDS, without GRIEF. */
    private static int tintAt(int kind) {
        return new int[] {4, 3, 0, 0, 0, 6, 5}[kind];
    }

    private static void mostRun() {
        // GRIEF 10 cries 1 on the first DAY, GRIEF 9 nothing on the next.
        for (int run : new int[] {997, 998, 999}) {
            Script.run("8 RUN 999 at most", "'potter hours 0 run " + run + "' = 1", "go 1", "of 0 3 = " + Math.min(999,
                run + 1), "ahead 0 3 5 = " + Math.min(999, run + 1), "go 5", "go 1 = 13", "of 0 3 = 0");
        }
        // A LAD with HOURS 9 has 98 in a storm.
        for (int run : new int[] {900, 901, 902, 999}) {
            steady(new Script("8 RUN 999 at most"), 99).then("'lad hours 9 run " + run + "' = 1", "go 1",
                "of 0 3 = " + Math.min(999, run + 98), "now 6 = 1").end();
        }
    }

    private static void griefOfDays() {
        for (int kind = 0; kind < KINDS; kind++) {
            int heals = HEALS[kind];
            for (int grief : new int[] {0, 1, heals, heals + 1, 98, 99}) {
                Script.run("8 GRIEF 0 at least, KIND " + kind, "potter " + kind + " " + grief, "go 1",
                    "of 0 1 = " + Math.max(0, grief - heals));
            }
        }
        Script.run("8 GRIEF 0 at least", "potter 5 4", "go 1", "of 0 1 = 0", "go 1", "of 0 1 = 0");
        // A POTTER heals 1 first; a WIDOWER doesn't heal. All of them crack with RUN 0 on DAY 6.
        for (int grief : new int[] {0, 83, 84, 85, 98, 99}) {
            Script.run("8 GRIEF 99 at most", "potter 3 0 | potter 0 0", "go 6",
                "change 0 1 " + grief + " | change 0 3 0", "change 1 1 " + grief + " | change 1 3 0", "go 1",
                "of 0 6 = 1 | of 1 6 = 1", "of 0 1 = " + Math.min(99, grief + 15), "of 1 1 = " + Math.min(99,
                Math.max(0, grief - 1) + 15));
        }
        Script.run("8 CRIES by the GRIEF ahead of healing", "potter 0 10 | potter 1 20 | potter 2 11", "go 1",
            "of 0 3 = 1 | of 0 1 = 9", "of 1 3 = 2 | of 1 1 = 18", "of 2 3 = 2 | of 2 1 = 10", "go 1", "of 0 3 = 1",
            "of 1 3 = 3", "of 2 3 = 4");
    }

    private static void mostPots() {
        for (int pots : new int[] {9997, 9998, 9999}) {
            String most = "" + Math.min(9999, pots + 1);
            Script.run("8 POTS 9999 at most", "'potter grief 0 hours 0 run 40' = 1", "change 0 5 " + pots,
                "ahead 0 5 7 = " + most, "go 7 = 14", "of 0 5 = " + most, "of 0 3 = 0", "of 0 4 = 4");
            Script.run("8 CRACKED 9999 at most", "'potter grief 0 hours 0 run 39' = 1", "change 0 6 " + pots,
                "ahead 0 6 7 = " + most, "go 7 = 0", "of 0 6 = " + most, "of 0 3 = 0", "of 0 1 = 15");
        }
    }

    /** Eight LADS in storms sell 800 a WEEK; an ABEL, an OLD one and a POTTER what is told of the last WEEK. */
    private static void mostSold() {
        Script s = steady(new Script("8 SOLD 99999 at most"),
            99).then("'lad hours 9;lad hours 9;lad hours 9;lad hours 9' = 4",
            "'lad hours 9;lad hours 9;lad hours 9;lad hours 9' = 4");
        for (int i = 1; i <= 14; i++) {
            s.then("go 60 = " + 800 * (60 * i / 7));
        }
        s.then("go 28 = 99200", "sold 6 = 99200", "sold 7 = 99999", "sold 100 = 99999", "change 7 0 5 | change 7 2 0",
            "sold 7 = 99900", "sold 14 = 99999", "go 7 = 99900", "go 6 = 99900");
        for (int p = 0; p < 8; p++) {
            s.then("change " + p + " 0 5 | change " + p + " 1 0 | change " + p + " 2 0 | change " + p + " 3 0");
        }
        s.then("change 0 0 4 | change 0 1 60 | change 0 3 100", "change 1 0 2 | change 1 3 50",
            "change 2 0 0 | change 2 3 60", "image");
        // 63 and 20 and 16 are 99; with RUN 50 the POTTER has 15, with 70 it has 17.
        s.then("sold 1 = 99999", "onionsFor 99999 1 = 0", "go 1 = 99999", "count 2 = 99999", "go 7 = 99999",
            "undo = 881");
        s.then("change 2 3 50", "sold 1 = 99998", "onionsFor 99998 1 = 0", "onionsFor 99999 1 = NONE", "go 1 = 99998",
            "now 1 = 99998", "undo = 881");
        s.then("change 2 3 70", "sold 1 = 99999", "go 1 = 99999", "now 1 = 99999", "of 2 5 = " + 126,
            "kindFor 0 60 = 0", "weatherFor 0 40 = 0", "onionsFor 99999 0 = 0", "undo = 881", "now 1 = 99900").end();
    }

    private static void onionsGo() {
        Script.run("8 one ONION, two YOUNG ones", "'young grief 0;young grief 0;onions 1' = 3", "go 1", "now 2 = 0",
            "of 0 3 = 3", "of 1 3 = 0", "go 1", "now 2 = 0", "of 0 3 = 3", "of 1 3 = 0");
        Script.run("8 two ONIONS, two YOUNG ones", "'young grief 0;young grief 0;onions 2' = 3", "go 1", "now 2 = 0",
            "of 0 3 = 3", "of 1 3 = 3", "go 1", "of 0 3 = 3");
        Script.run("8 three ONIONS, two YOUNG ones", "'young grief 0;young grief 0;onions 3' = 3", "go 1", "now 2 = 1",
            "go 1", "now 2 = 0", "of 0 3 = 6", "of 1 3 = 3");
        Script.run("8 no ONIONS", "'young grief 10' = 1", "go 1", "now 2 = 0", "of 0 3 = 1");
        Script.run("8 no ONION goes by other KINDS", "'potter;old;widower;abel;stone;lad;onions 99' = 7", "go 60",
            "now 2 = 99");
        Script.run("8 who is YOUNG by a change", "potter 6 0 | onions 2", "go 1", "now 2 = 2", "change 0 0 1", "go 1",
            "now 2 = 1", "of 0 3 = 3");
    }

    private static void abelsFiftyPots() {
        // GRIEF 20 cries 6 a DAY, 42 a WEEK; at POTS 50 nothing.
        Script.run("8 ABEL's 50th pot", "'abel grief 20' = 1", "change 0 5 48", "go 7 = 60", "of 0 5 = 49",
            "of 0 7 = 6", "go 6 = 60", "of 0 3 = 36", "go 1 = 120", "of 0 5 = 50", "of 0 7 = 0", "go 6", "of 0 3 = 0",
            "go 1 = 120", "of 0 5 = 50", "of 0 6 = 1", "of 0 1 = 35");
        Script.run("8 ABEL's COLOUR", "potter 4 49 | potter 4 50 | potter 4 51", "go 7 = 186",
            "of 0 4 = 0 | of 1 4 = 1 | of 2 4 = 1", "now 5 = 3");
    }

    // ---- promise 9

    private static void now() {
        Script s = new Script("9 now");
        for (int p = 0; p < 8; p++) {
            s.then("potter " + p % 7 + " 0", "change " + p + " 4 " + p, "change " + p + " 6 9999");
        }
        s.then("now 5 = 0", "change 0 5 1", "now 5 = 1", "change 7 5 1", "now 5 = 129", "change 0 5 0", "now 5 = 128",
            "now 3 = 1", "now 4 = 79992");
        for (int p = 0; p < 8; p++) {
            s.then("change " + p + " 5 9999", "change " + p + " 3 " + (NEEDS[p % 7] - 1));
        }
        s.then("now 3 = 79992", "now 5 = 255", "now 6 = 0", "now 7 = 5");
        for (int p = 0; p < 8; p++) {
            s.then("change " + p + " 3 " + NEEDS[p % 7], "now 6 = " + ((2 << p) - 1));
        }
        s.then("now 7 = 5", "change 7 3 60", "now 7 = 5", "change 7 3 61", "now 7 = 7", "change 0 3 61", "now 7 = 0",
            "onions 99", "now 2 = 99", "now 8 = BEYOND", "now -1 = BEYOND").end();
        Script.run("9 now without POTTERS", "now 3 = 0", "now 4 = 0", "now 5 = 0", "now 6 = 0", "now 7 = -1");
        Script.run("9 the least number has most RUN", "potter 0 0", "now 7 = 0", "potter 0 0", "now 7 = 0",
            "change 1 3 1", "now 7 = 1", "change 0 3 1", "now 7 = 0");
    }

    // ---- promises 10 to 14

    /** It cries 6 a DAY, 42 a WEEK, and cracks once; then, with GRIEF 35, 8 a DAY, 56 a WEEK: COLOUR 0, for 20. */
    private static final String WIDOWER = "'widower grief 20' = 1";

    private static void aheadAndSold() {
        Script.run("10 ahead", WIDOWER,
            "ahead 0 1 0 = 20 | ahead 0 3 0 = 0 | ahead 0 4 0 = 0 | ahead 0 5 0 = 0 | ahead 0 6 0 = 0",
            "ahead 0 3 1 = 6", "ahead 0 3 6 = 36", "ahead 0 3 7 = 0", "ahead 0 3 8 = 8", "ahead 0 1 6 = 20",
            "ahead 0 1 7 = 35", "ahead 0 6 6 = 0", "ahead 0 6 7 = 1", "ahead 0 5 13 = 0", "ahead 0 5 14 = 1",
            "ahead 0 1 99 = 35", "ahead 0 1 100 = 35", "ahead 0 3 99 = 8", "ahead 0 3 100 = 16", "ahead 0 4 100 = 0",
            "ahead 0 5 97 = 12", "ahead 0 5 98 = 13", "ahead 0 5 100 = 13", "ahead 0 6 100 = 1",
            "ahead 0 1 101 = BEYOND", "ahead 0 1 -1 = BEYOND", "ahead 0 2 0 = BEYOND", "ahead 0 0 0 = BEYOND",
            "ahead 0 7 0 = BEYOND", "now 0 = 0", "of 0 3 = 0", "change 0 4 7", "ahead 0 4 0 = 7", "ahead 0 4 13 = 7",
            "ahead 0 4 14 = 0");
        Script.run("11 sold", WIDOWER, "sold 0 = 0", "sold 1 = 0", "sold 13 = 0", "sold 14 = 20", "sold 97 = 240",
            "sold 98 = 260", "sold 99 = 260", "sold 100 = 260", "sold 101 = BEYOND", "sold -1 = BEYOND", "now 1 = 0",
            "go 14 = 20", "sold 0 = 20");
        Script.run("11 sold without POTTERS", "sold 0 = 0", "sold 100 = 0");
    }

    private static void when() {
        Script.run("12 when", WIDOWER, "when 0 0 = 0", "when 0 1 = 14", "when 0 2 = 21", "when 0 13 = 98",
            "when 0 27 = 196", "when 0 28 = NONE", "when 0 9999 = NONE", "when 0 10000 = BEYOND", "when 0 -1 = BEYOND",
            "when 1 0 = BEYOND", "now 0 = 0");
        Script.run("12 behind 200 DAYS", WIDOWER, "go 2", "when 0 28 = NONE", "go 1", "when 0 28 = 200", "go 1",
            "when 0 28 = 199", "go 2", "when 0 1 = 8", "go 1", "when 0 1 = 7");
        Script.run("12 POTS that are there", WIDOWER, "change 0 5 3", "when 0 3 = 0", "when 0 2 = 0", "when 0 4 = 14",
            "change 0 5 9998", "when 0 9998 = 0", "when 0 9999 = 14", "change 0 5 9999", "when 0 9999 = 0",
            "change 0 5 9972", "when 0 9999 = 196", "change 0 5 9971", "when 0 9999 = NONE");
        Script.run("12 a FIRING on this DAY", WIDOWER, "go 13", "when 0 1 = 1", "go 1", "when 0 1 = 0");
    }

    private static void cracks() {
        Script.run("13 cracks", WIDOWER, "cracks 0 = 7", "go 6", "cracks 0 = 1", "go 1", "cracks 0 = NONE",
            "cracks 1 = BEYOND", "cracks -1 = BEYOND");
        // Each WEEK has a pot until there are 50: 28 WEEKS from 22 on; the one behind it cracks.
        Script.run("13 behind 200 DAYS", "'abel grief 20' = 1", "change 0 5 22", "cracks 0 = NONE", "go 2",
            "cracks 0 = NONE", "go 1", "cracks 0 = 200", "go 1", "cracks 0 = 199", "change 0 6 9998", "cracks 0 = 199",
            "change 0 6 9999", "cracks 0 = NONE");
        Script.run("13 CRACKED that are there don't count", WIDOWER, "change 0 6 5", "cracks 0 = 7", "change 0 3 8",
            "cracks 0 = 14", "change 0 3 7", "cracks 0 = 7");
    }

    private static void tinted() {
        Script.run("14 tinted", WIDOWER, "tinted 0 0 = 14", "tinted 0 7 = NONE", "change 0 5 1", "tinted 0 0 = 0",
            "change 0 4 7", "tinted 0 0 = 14", "tinted 0 7 = 0", "tinted 0 8 = BEYOND", "tinted 0 -1 = BEYOND",
            "tinted 1 0 = BEYOND", "change 0 5 0", "tinted 0 7 = NONE", "now 0 = 0");
        // Place 4 gives ABEL 20, twice in the WEEK from DAY 196 on. The WEEK ahead of that is the first one without
        // crying: he cracks, and has GRIEF 55.
        Script.run("14 behind 200 DAYS", "'abel hours 9' = 1", "weather 4 84", "go 2", "change 0 1 40 | change 0 5 23",
            "tinted 0 1 = NONE", "tinted 0 0 = 0", "go 1", "tinted 0 1 = 200", "go 1", "tinted 0 1 = 199");
        Script.run("14 a FIRING on this DAY", WIDOWER, "go 12", "tinted 0 0 = 2", "go 1", "tinted 0 0 = 1", "go 1",
            "tinted 0 0 = 0");
    }

    // ---- promises 15 to 20

    private static void hoursFor() {
        // RAIN 2: a STONE has its HOURS a DAY; it NEEDS 60.
        steady(new Script("15 hoursFor"), 20).then("'stone grief 0' = 1", "hoursFor 0 1 7 = 9", "hoursFor 0 1 6 = NONE",
            "hoursFor 0 2 7 = NONE", "hoursFor 0 0 7 = 0", "hoursFor 0 0 0 = 0", "hoursFor 0 1 0 = NONE",
            "change 0 3 60", "hoursFor 0 1 7 = 0", "change 0 3 59", "hoursFor 0 1 7 = 1", "change 0 3 53",
            "hoursFor 0 1 7 = 1", "change 0 3 52", "hoursFor 0 1 7 = 2", "change 0 3 4", "hoursFor 0 1 7 = 8",
            "change 0 3 3", "hoursFor 0 1 7 = 9", "change 0 3 0", "hoursFor 0 7 55 = 9", "hoursFor 0 8 55 = NONE",
            "hoursFor 0 8 56 = 9", "hoursFor 0 8 59 = 9", "hoursFor 0 8 60 = 9", "hoursFor 0 9 60 = NONE",
            "hoursFor 0 0 61 = BEYOND", "hoursFor 0 0 -1 = BEYOND", "hoursFor 0 10000 0 = BEYOND",
            "hoursFor 0 -1 0 = BEYOND", "hoursFor 1 0 0 = BEYOND", "of 0 2 = 2", "change 0 5 9999",
            "hoursFor 0 9999 0 = 0", "change 0 5 9998", "hoursFor 0 9999 7 = 9", "hoursFor 0 9999 6 = NONE").end();
        steady(new Script("15 HOURS 9 are not enough"), 19).then("'stone grief 0' = 1", "hoursFor 0 1 7 = NONE").end();
    }

    private static void kindFor() {
        Script.run("16 the least of several", "potter 6 99", "kindFor 0 0 = 0", "kindFor 0 6 = 0", "of 0 0 = 6",
            "kindFor 1 0 = BEYOND", "kindFor -1 0 = BEYOND", "kindFor 0 61 = BEYOND", "kindFor 0 -1 = BEYOND");
        // One with POTS 50 doesn't cry as ABEL. SUN 6: 42 for a POTTER; SUN 5: 35, enough for a YOUNG one alone.
        steady(new Script("16 KIND 0"), 6).then("'potter grief 0 hours 1' = 1", "change 0 5 50",
            "kindFor 0 7 = 0").end();
        steady(new Script("16 KIND 1"), 5).then("'potter grief 0 hours 1' = 1", "change 0 5 50",
            "kindFor 0 7 = 1").end();
        // An OLD one has 126: COLOUR 7; a WIDOWER 140: COLOUR 1; a POTTER 63.
        Script.run("16 KIND 2", "'lad grief 99 hours 0' = 1", "change 0 5 50", "kindFor 0 7 = 2");
        // A WIDOWER has 70; an OLD one 44, and cracks.
        Script.run("16 KIND 3", "'lad grief 40 hours 0' = 1", "change 0 5 50", "kindFor 0 7 = 3", "kindFor 0 60 = 3");
        Script.run("16 KIND 4", "'lad grief 40 hours 0' = 1", "change 0 5 49", "kindFor 0 7 = 4", "change 0 5 50",
            "kindFor 0 7 = 3");
        Script.run("16 KIND 6", "'stone grief 0 hours 0 run 100' = 1", "kindFor 0 7 = 6", "change 0 3 99",
            "kindFor 0 7 = 4", "kindFor 0 6 = 0");
    }

    private static void griefFor() {
        // A POTTER has 40 from GRIEF 64 on, which must be left as the last WEEK begins.
        Script.run("17 griefFor", "potter 0 10", "griefFor 0 0 = 0", "griefFor 0 6 = 0", "griefFor 0 7 = 64",
            "griefFor 0 13 = 64", "griefFor 0 34 = 85", "griefFor 0 35 = 92", "griefFor 0 41 = 92",
            "griefFor 0 42 = 99", "griefFor 0 48 = 99", "griefFor 0 49 = NONE", "griefFor 0 60 = NONE",
            "griefFor 0 61 = BEYOND", "griefFor 0 -1 = BEYOND", "griefFor 1 0 = BEYOND", "of 0 1 = 10", "change 0 6 5",
            "griefFor 0 7 = 64", "change 0 6 9999", "griefFor 0 60 = 0");
        Script.run("17 GRIEF isn't needed", "'potter grief 50 run 40' = 1", "griefFor 0 7 = 0", "griefFor 0 13 = 0",
            "change 0 3 39", "griefFor 0 7 = 10");
    }

    private static void weatherFor() {
        // Place 5 counts once in a WEEK: HOURS 9 have 49 at most; COLOUR 7 is from 70 on, 6 from 60 on.
        Script.run("18 weatherFor", "'potter grief 0 hours 9 run 21' = 1", "weather 5 33", "weatherFor 5 7 = 99",
            "change 0 3 22", "weatherFor 5 7 = 98", "change 0 3 20", "weatherFor 5 7 = 79", "weatherFor 5 6 = 0",
            "weatherFor 5 0 = 0", "change 0 3 70", "weatherFor 5 7 = 0", "change 0 3 69", "weatherFor 5 7 = 1",
            "listed 5 = 33", "weatherFor 6 0 = BEYOND", "weatherFor -1 0 = BEYOND", "weatherFor 5 41 = BEYOND",
            "weatherFor 5 -1 = BEYOND");
        Script.run("18 without POTTERS", "weatherFor 0 40 = 0", "weatherFor 5 40 = 0");
        // On DAY 5 alone there is place 5; 40 DAYS have DAYS 5, 11, .., 35 and 5 FIRINGS.
        Script.run("18 the DAY of a place", "'potter grief 0 hours 9 run 69' = 1", "go 5", "weatherFor 5 2 = 1", "go 1",
            "weatherFor 5 1 = 0", "weatherFor 0 1 = 1");
    }

    private static void onionsFor() {
        // 30 lack 12, which are 4 ONIONS; each pot fetches 5.
        Script.run("19 onionsFor", "'young grief 0 run 18;onions 50' = 2", "onionsFor 0 0 = 0", "onionsFor 1 0 = NONE",
            "onionsFor 0 40 = 0", "onionsFor 1 7 = 4", "onionsFor 5 7 = 4", "onionsFor 6 7 = NONE",
            "onionsFor 5 6 = NONE", "change 0 3 30", "onionsFor 5 7 = 0", "change 0 3 29", "onionsFor 5 7 = 1",
            "change 0 3 9", "onionsFor 5 7 = 7", "change 0 3 8", "onionsFor 5 7 = NONE", "now 2 = 50",
            "onionsFor 99999 40 = NONE", "onionsFor 100000 40 = BEYOND", "onionsFor -1 40 = BEYOND",
            "onionsFor 0 41 = BEYOND", "onionsFor 0 -1 = BEYOND");
        // Three have 15 by WEATHER in WEEK 5, and need 5 ONIONS each on DAYS 28 to 32: 33 DAYS of 3 ONIONS.
        steady(new Script("19 the most ONIONS"), 2).then("'young grief 0;young grief 0;young grief 0' = 3",
            "weather 0 3", "onionsFor 75 35 = 99", "onionsFor 74 35 = 99", "onionsFor 70 35 = 98",
            "onionsFor 76 35 = NONE").end();
        Script.run("19 SOLD that is there counts", "'young grief 0 run 30' = 1", "go 7 = 5", "onionsFor 5 0 = 0",
            "onionsFor 6 0 = NONE", "onionsFor 5 40 = 0");
    }

    private static void stayIn() {
        // HOURS 2 and WEATHER 35: 8 a DAY, 56: COLOUR 5; in: they crack.
        String eight = "'" + "young grief 0;".repeat(7) + "lad' = 8";
        steady(new Script("20 stayIn"), 35).then(eight, "stayIn 5 0 = 0", "stayIn 5 6 = 0", "stayIn 5 7 = 255",
            "stayIn 5 19 = 255", "stayIn 5 20 = 255", "stayIn 4 20 = 0", "stayIn 0 20 = 0", "stayIn 7 20 = 0",
            "stayIn 5 21 = BEYOND", "stayIn 5 -1 = BEYOND", "stayIn 8 0 = BEYOND", "stayIn -1 0 = BEYOND", "of 0 2 = 2",
            "change 3 2 0", "stayIn 5 7 = 247", "change 7 2 0", "stayIn 5 7 = 119", "change 0 3 999",
            "stayIn 5 7 = 118", "change 1 5 1", "stayIn 0 0 = NONE", "stayIn 0 6 = NONE", "stayIn 0 7 = 0",
            "stayIn 5 7 = 118", "change 1 4 5", "stayIn 5 7 = NONE", "stayIn 5 0 = NONE", "change 1 5 0",
            "stayIn 5 0 = 0").end();
        Script.run("20 without POTTERS", "stayIn 0 0 = 0", "stayIn 7 20 = 0");
        // In, GRIEF 0 and RUN 50 make COLOUR 5; out, 56 and 50 are 106: COLOUR 2.
        steady(new Script("20 who must be out"), 35).then("'potter grief 0 run 50' = 1", "stayIn 5 7 = 0",
            "stayIn 2 7 = 1", "change 0 2 0", "stayIn 5 7 = NONE", "stayIn 2 7 = 0").end();
    }

    // ---- promises 21 to 23

    private static void toldGriefs() {
        // A POTTER has 40 to 49 (COLOUR 4) from GRIEF 64 to 79, 50 to 59 from 80 to 92, 60 to 63 from 93 on.
        Script.run("21 fits, 22 grief", "potter 0 10", "sheet 0 8 2", "write 0 0 -1 | write 0 1 4", "fits 0 0 = 16",
            "grief 0 0 = 64", "write 0 1 5", "fits 0 0 = 13", "grief 0 0 = 80", "write 0 1 6", "fits 0 0 = 7",
            "grief 0 0 = 93", "write 0 1 0", "fits 0 0 = 64", "grief 0 0 = 0", "write 0 1 7", "fits 0 0 = 0",
            "grief 0 0 = NONE", "write 0 1 8", "fits 0 0 = 0", "write 0 1 -2", "fits 0 0 = 0", "grief 0 0 = NONE",
            "write 0 1 -1", "fits 0 0 = 100", "grief 0 0 = 0", "of 0 1 = 10", "now 0 = 0", "write 0 0 0",
            "fits 0 0 = 100", "write 0 0 1", "fits 0 0 = 0", "change 0 4 1", "fits 0 0 = 100", "write 0 1 1",
            "fits 0 0 = 64", "fits 1 0 = MISSING", "fits 0 1 = BEYOND", "fits 4 0 = BEYOND", "grief -1 0 = BEYOND");
        // GRIEF 99 alone: 92 to 86 give 59 in WEEK 2, and SUN 1 of DAY 12 makes it 60; from 98 on 58 and 1.
        Script.run("22 the most GRIEF", "potter 0 10", "weather 0 1", "sheet 0 32 3",
            "write 0 0 -1 | write 0 1 -1 | write 0 2 6", "fits 0 0 = 1", "grief 0 0 = 99");
        Script.run("21 a sheet without numbers", "potter 0 10", "sheet 0 16 0", "fits 0 0 = 100", "grief 0 0 = 0",
            "kinds 0 0 = 127");
    }

    private static void toldKinds() {
        // RUN 60, no GRIEF, no HOURS: COLOUR 6 for POTTER, YOUNG, STONE, LAD; OLD 6 + 3; WIDOWER 74: 7 + 3; ABEL 0.
        Script.run("23 kinds", "'widower grief 0 hours 0 run 60' = 1", "sheet 0 8 2", "write 0 0 -1 | write 0 1 6",
            "kinds 0 0 = 99", "write 0 1 1", "kinds 0 0 = 4", "write 0 1 2", "kinds 0 0 = 8", "write 0 1 0",
            "kinds 0 0 = 16", "write 0 1 7", "kinds 0 0 = 0", "write 0 1 -1", "kinds 0 0 = 127", "write 0 0 0",
            "kinds 0 0 = 127", "write 0 0 7", "kinds 0 0 = 0", "of 0 0 = 3", "kinds 0 1 = BEYOND",
            "kinds 1 1 = MISSING", "kinds 4 0 = BEYOND");
        // With RUN 59 a STONE cracks and keeps COLOUR 0; the others have 5.
        Script.run("23 kinds at what they NEED", "'widower grief 0 hours 0 run 59' = 1", "sheet 0 8 2", "write 0 1 5",
            "kinds 0 0 = 67", "write 0 1 0", "kinds 0 0 = 52");
    }

    /** The 10th number is behind 63 DAYS, the last that is asked. */
    private static void toldWeeks() {
        for (int bits : new int[] {8, 16, 32}) {
            Script s = new Script("21 the first 10 numbers, of " + bits + " bits").then("'abel grief 10 hours 0' = 1",
                "sheet 0 " + bits + " 40");
            for (int i = 0; i < 10; i++) {
                s.then("write 0 " + i + " -1");
            }
            for (int i = 10; i < 40; i++) {
                s.then("write 0 " + i + " 7");
            }
            s.then("fits 0 0 = 100", "grief 0 0 = 0", "kinds 0 0 = 127", "write 0 9 7", "fits 0 0 = 0",
                "grief 0 0 = NONE", "kinds 0 0 = 0", "write 0 9 1", "write 0 10 0", "change 0 0 4", "change 0 5 41");
            // ABEL's pots have COLOUR 1 from GRIEF 50 on; GRIEF below 20 cracks at first, but comes to 34 at most.
            s.then("fits 0 0 = 50", "grief 0 0 = 50").end();
        }
        // RUN 40 and 9 at the most by crying: GRIEF 21 in 7 DAYS, 22 in 6.
        // Then, from RUN 0: it cracks up to GRIEF 63, or has 40 to 49 up to 79.
        Script.run("21 each WEEK is seven DAYS", "'potter grief 0 hours 0 run 40' = 1",
            "sheet 0 8 2 | write 0 0 0 | write 0 1 4", "fits 0 0 = 22", "grief 0 0 = 0", "go 1", "fits 0 0 = 23",
            "go 6", "of 0 4 = 4", "write 0 0 4", "fits 0 0 = 80");
    }

    // ---- promises 24 to 26

    private static void storms() {
        for (int seed : new int[] {1, 0, -1, 12345, Integer.MIN_VALUE, Integer.MAX_VALUE, 2147483, -1103515245}) {
            for (int potters : new int[] {0, 3, 8}) {
                storms(seed, potters, 1);
                storms(seed, potters, 2);
                storms(seed, potters, 20);
            }
        }
        Script.run("24 storms", "storms 0 = BEYOND", "storms 21 = BEYOND", "storms -1 = BEYOND", "count 6 = 1",
            "storms 1 = 0", "now 0 = 1", "storms 19 = 0", "now 0 = 20", "storms 20 = 0", "now 0 = 40");
    }

    private static void storms(int seed, int potters, int n) {
        Script s = new Script("24 storms from z " + seed + ", " + potters + " POTTERS");
        for (int p = 0; p < potters; p++) {
            s.then("potter 5 0", "change " + p + " 2 0");
        }
        s.then("seed " + seed + " = 1", "go 4");
        long z = seed & 0xffffffffL;
        long[] list = new long[6];
        boolean[] isOut = new boolean[8];
        for (int day = 4; day < 4 + n; day++) {
            z = (z * 1103515245L + 12345L) & 0xffffffffL;
            list[day % 6] = (z >> 8) % 100;
            z = (z * 1103515245L + 12345L) & 0xffffffffL;
            isOut[(int) ((z >> 8) % 8)] = true;
        }
        s.then("storms " + n, "count 6 = " + (int) z, "now 0 = " + (4 + n));
        for (int i = 0; i < 6; i++) {
            s.then("listed " + i + " = " + list[i]);
        }
        for (int p = 0; p < potters; p++) {
            s.then("of " + p + " 2 = " + (isOut[p] ? 9 : 0));
        }
        s.then("seed MIN = " + (int) z, "seed MAX = MIN", "seed -1 = MAX", "count 6 = -1").end();
    }

    private static void odds() {
        // STONE with HOURS 2 can't have 60: 0 of 100. With none at all the odds are 1.
        Script.run("25 odds", "potter 5 99", "odds 0 0 0 = 1", "odds 0 0 1 = 1", "odds 0 1 0 = 0", "odds 0 1 1 = 1",
            "odds 0 9 0 = 0", "odds 0 9 1 = 1", "odds 0 10 0 = BEYOND", "odds 0 -1 0 = BEYOND", "odds 0 1 2 = BEYOND",
            "odds 0 1 -1 = BEYOND", "odds 1 1 0 = BEYOND", "odds -1 1 0 = BEYOND");
        // YOUNG, HOURS 9, GRIEF 99: 21 lack, for 59 of 100; with ONIONS 18, for 66.
        Script.run("25 the longest fractions", "'young grief 99 hours 9 run 999' = 1", "odds 0 1 0 = 59",
            "odds 0 1 1 = 100", "odds 0 8 0 = 146830437604321", "odds 0 8 1 = 10000000000000000",
            "odds 0 9 0 = 8662995818654939", "odds 0 9 1 = 1000000000000000000", "onions 1", "odds 0 1 0 = 33",
            "odds 0 1 1 = 50", "odds 0 9 0 = 46411484401953", "odds 0 9 1 = 1953125000000000", "now 2 = 1");
        // POTTER, HOURS 9: 40 by RAIN 7 and SUN 9, by RAIN 8 (36) and SUN 4 to 9, by RAIN 9 (40): 1 + 6 + 10.
        // With GRIEF 10 39 are enough: 2 + 7 + 10.
        Script.run("25 as much as it NEEDS", "'potter grief 0 hours 9' = 1", "odds 0 1 0 = 17", "odds 0 1 1 = 100",
            "change 0 1 10", "odds 0 1 0 = 19", "odds 0 1 1 = 100", "change 0 2 0", "odds 0 1 0 = 0", "change 0 3 999",
            "odds 0 1 0 = 0");
        // LAD, HOURS 9: 72 from RAIN 8 on, 20 of 100.
        // HOURS 5: twice 20 (RAIN 8) and SUN 5 to 9, twice 22 (RAIN 9) and SUN 3 to 9: 12 of 100.
        Script.run("25 a LAD", "'lad grief 99 hours 9' = 1", "odds 0 1 0 = 1", "odds 0 1 1 = 5", "odds 0 9 1 = 1953125",
            "change 0 2 5", "odds 0 1 0 = 3", "odds 0 1 1 = 25", "odds 0 2 0 = 9", "odds 0 2 1 = 625");
    }

    // ---- promises 27 to 29

    private static final String BLANKS = " ".repeat(116);

    private static void tape() {
        Script.run("27 feed 4 bytes", "tape '" + BLANKS + "'", "feed 32 4 = 120", "feed 32 1 = FULL",
            "feed 32 4 = FULL", "wipe = 120", "wipe = 0", "count 5 = 0", "feed 32 1 = 1");
        Script.run("27 too many", "tape '" + BLANKS + "'", "feed 32 1 = 117", "feed 32 4 = FULL", "count 5 = 117",
            "feed 32 1 = 118", "feed 32 3 = FULL", "feed 32 4 = FULL", "feed 32 1 = 119", "feed 32 2 = FULL",
            "feed 32 0 = BEYOND", "feed 32 5 = BEYOND", "feed 32 1 = 120", "feed 32 1 = FULL", "feed 32 0 = BEYOND",
            "count 5 = 120", "text = -121");
        Script.run("27 just enough", "tape '" + BLANKS + "'", "feed 32 1 = 117", "feed 2105376 3 = 120", "text = -121",
            "count 5 = 0");
        Script.run("27 just enough", "tape '" + BLANKS + "'", "feed 8224 2 = 118", "feed 8224 2 = 120", "text = -121");
        // "lad;", "old" below another byte, ";l" below two others, "a" and "d" below three.
        Script.run("27 the n lowest bytes, the highest of these first", "feed 1818321979 4 = 4",
            "feed " + 0xff6f6c64 + " 3 = 7", "feed " + 0x58583b6c + " 2 = 9", "feed " + 0x80000061 + " 1 = 10",
            "feed " + 0xffffff64 + " 1 = 11", "text = 3", "of 0 0 = 6", "of 1 0 = 2", "of 2 0 = 6");
        Script.run("27 bytes above 127", "feed -1 4 = 4", "text = -1", "feed -1 1 = 1", "count 5 = 1", "wipe = 1",
            "feed MIN 4 = 4", "text = -1", "feed MAX 4 = 4", "wipe = 4");
        Script.run("28 wipe", "wipe = 0", "feed 0 1", "wipe = 1", "text = -1", "feed 0 4", "feed 0 4", "wipe = 8",
            "wipe = 0");
    }

    private static void texts() {
        String most = " grief 99 hours 9 run 999;";
        String full = "lad" + most + "old" + most + "abel" + most + "weather 5 9 9;onions 99";
        String longest = full + " ".repeat(119 - full.length()) + " ";
        Script.run("29 the longest TEXT", "'" + longest + "' = 5", "count 5 = 0",
            "of 2 0 = 4 | of 2 1 = 99 | of 2 2 = 9 | of 2 3 = 999", "listed 5 = 99", "now 2 = 99");
        Script.run("29 a FAULT in the last byte", "'" + longest.substring(0, 119) + ".' = -120", "count 1 = 0",
            "'" + longest.substring(0, 119)
            + ";' = -121", "count 1 = 0", "now 2 = 0");
        Script.run("29 the most ITEMS", "'" + "lad;".repeat(8) + "onions1;".repeat(10) + "onions7 ' = 19",
            "count 1 = 8", "now 2 = 7");
        Script.run("29 as at first where nothing is told",
            "'potter;young grief 0;old hours 0;widower run 0;abel;stone;lad' = 7",
            "of 0 0 = 0 | of 0 1 = 10 | of 0 2 = 2 | of 0 3 = 0 | of 0 4 = 0 | of 0 5 = 0 | of 0 6 = 0",
            "of 1 0 = 1 | of 1 1 = 0", "of 2 0 = 2 | of 2 2 = 0", "of 3 0 = 3 | of 3 3 = 0", "of 4 0 = 4", "of 5 0 = 5",
            "of 6 0 = 6");
        Script.run("29 blanks between TOKENS, or none",
            "'  lad   grief 1 hours2run   3  ;  onions4;weather 0 1 2  ' = 3", "of 0 1 = 1 | of 0 2 = 2 | of 0 3 = 3",
            "now 2 = 4", "listed 0 = 12");
        Script.run("29 item by item", "onions 5", "'onions 6;weather 0 1 1;onions 7;weather 0 2 2' = 4", "now 2 = 7",
            "listed 0 = 22", "'onions 8;weather 0 3 3;lad;onions 100' = -35", "now 2 = 7", "listed 0 = 22",
            "count 1 = 0", "count 5 = 0");
        Script.run("29 an empty TAPE", "text = -1", "text = -1", "count 5 = 0");
    }

    private static void numbersOfTexts() {
        String[] taken = {"lad grief 0", "lad grief 98", "lad grief 99", "lad hours 0", "lad hours 8", "lad hours 9",
            "lad run 0", "lad run 998", "lad run 999", "onions 0", "onions 98", "onions 99", "weather 0 0 0",
            "weather 4 8 8", "weather 5 9 9", "lad run 0999", "lad grief 00099",
            "onions 000000000000000000000000000000000000000000000000000000099"};
        for (String text : taken) {
            Script.run("29 " + text, "'" + text + "' = 1", "'" + text + ";lad' = 2");
        }
        Script.run("29 NUMBERS come as told", "'lad grief 98 hours 8 run 998;onions 98;weather 4 8 7' = 3",
            "of 0 1 = 98 | of 0 2 = 8 | of 0 3 = 998", "now 2 = 98", "listed 4 = 87", "'lad run 0999;onions 0099' = 2",
            "of 1 3 = 999", "now 2 = 99");
        fault("lad grief 100", 10);
        fault("lad grief 999", 10);
        fault("lad grief 1000", 10);
        fault("lad hours 10", 10);
        fault("lad hours 99", 10);
        fault("lad run 1000", 8);
        fault("lad run 1001", 8);
        fault("lad run 01000", 8);
        fault("lad run 65536", 8);
        fault("lad run 4294967296", 8);
        fault("lad run 4294967297", 8);
        fault("lad run 18446744073709551617", 8);
        fault("onions 100", 7);
        fault("onions 4294967299", 7);
        fault("weather 6 0 0", 8);
        fault("weather 10 0 0", 8);
        fault("weather 0 10 0", 10);
        fault("weather 0 0 10", 12);
        fault("weather 5 9 99", 12);
        fault("onions " + "9".repeat(113), 7);
    }

    private static void fault(String text, int place) {
        Script.run("29 FAULT of '" + text + "'", "potter 3 33", "weather 0 44", "onions 55",
            "'" + text + "' = " + (-1 - place), "count 1 = 1", "count 5 = 0", "now 2 = 55", "listed 0 = 44",
            "of 0 0 = 3 | of 0 1 = 33 | of 0 2 = 2 | of 0 3 = 0", "of 1 0 = BEYOND");
    }

    private static void faults() {
        fault("", 0);
        fault(" ", 1);
        fault(";", 0);
        fault("  ;", 2);
        fault("0", 0);
        fault("lad;", 4);
        fault("lad; ", 5);
        fault("lad;;lad", 4);
        fault(";lad", 0);
        fault("lad lad", 4);
        fault("lad 1", 4);
        fault("ladlad", 0);
        fault("lads", 0);
        fault("lada", 0);
        fault("ladz", 0);
        fault("zlad", 0);
        fault("la", 0);
        fault("la d", 0);
        fault("potters", 0);
        fault("abels", 0);
        fault("stoned", 0);
        fault("lad grief", 9);
        fault("lad grief ", 10);
        fault("lad grief;", 9);
        fault("lad grief hours 1", 10);
        fault("lad griefs 1", 4);
        fault("lad hours", 9);
        fault("lad run", 7);
        fault("lad run 1 run 1", 10);
        fault("lad hours 1 grief 1", 12);
        fault("lad run 1 hours 1", 10);
        fault("lad grief 1 grief 1", 12);
        fault("lad grief 1 1", 12);
        fault("onions", 6);
        fault("onions;", 6);
        fault("onions 1 1", 9);
        fault("onions 1 grief 1", 9);
        fault("weather", 7);
        fault("weather 0", 9);
        fault("weather 0 0", 11);
        fault("weather 0 0 ", 12);
        fault("weather 0 0;", 11);
        fault("weather 0 0 0 0", 14);
        fault("weather 000", 11);
        fault("grief 1", 0);
        fault("hours 1", 0);
        fault("run 1", 0);
        fault("lad;grief 1", 4);
        fault("lad;onions 1;bad", 13);
        // Bytes just beside those of which TOKENS are, and the first and the last byte.
        for (char c : new char[] {'`', '{', '/', ':', '<', 'A', 'Z', '@', '[', '!', 31, 0, 9, 10, 13, 127, 128, 160,
            255}) {
            fault("lad" + c, 3);
            fault("lad " + c, 4);
            fault("" + c, 0);
            fault("onions 1" + c, 8);
            fault("onions " + c, 7);
        }
        fault("lad,old", 3);
        fault("lad grief -1", 10);
        fault("lad grief +1", 10);
        // The first TOKEN that can't stand there, not the first byte that begins none.
        fault("lad old #", 4);
        fault("bad #", 0);
        fault("onions 100 #", 7);
    }

    private static void ninthPotter() {
        String seven = "old;old;old;old;old;old;old";
        Script.run("29 the 8th and the 9th POTTER", "'" + seven + ";old;old' = -33", "count 1 = 0",
            "'" + seven + ";old' = 8", "count 1 = 8", "'lad' = -1", "'onions 1;lad grief 100' = -10", "now 2 = 0",
            "'onions 1;lads' = -10", "'  lad' = -3", "'onions 1' = 1", "now 2 = 1");
        Script.run("29 those that are there count", "potter 0 0", "'" + seven + ";old' = -29", "count 1 = 1",
            "'" + seven + "' = 7", "count 1 = 8");
    }

    // ---- promises 30 and 31

    private static void spots() {
        Script.run("30 hold", "hold 0 -1 = 1", "hold 0 0 = BEYOND", "potter 0 0", "hold 0 0 = 1", "hold 9 0 = 1",
            "hold 8 0 = 1", "hold 10 0 = BEYOND", "hold -1 0 = BEYOND", "hold 1 1 = BEYOND", "hold 0 -2 = BEYOND",
            "hold 10 -1 = BEYOND", "count 7 = 3", "hold 0 -1 = 1", "hold 0 -1 = 1", "count 7 = 2", "as 0 0 = MISSING",
            "as 9 0 = 0", "as 8 0 = 0", "as 7 0 = MISSING");
        Script eight = new Script("30 the last POTTER");
        for (int p = 0; p < 8; p++) {
            eight.then("potter 0 0");
        }
        eight.then("hold 3 7 = 1", "as 3 0 = 7", "hold 3 8 = BEYOND", "as 3 0 = 7", "hold 3 0 = 1", "as 3 0 = 0");
        for (int spot = 0; spot < 10; spot++) {
            eight.then("hold " + spot + " 7 = 1");
        }
        eight.then("count 7 = 10").end();
        // Each KIND is one of these.
        String[] above = {"0", "0 1", "0 2", "0 2 3", "0 2 3 4", "0 5", "0 1 6"};
        for (int kind = 0; kind < KINDS; kind++) {
            Script s = new Script("31 as, KIND " + kind).then("potter 0 0 | potter " + kind + " 0", "hold 9 1");
            for (int asked = 0; asked < KINDS; asked++) {
                s.then("as 9 " + asked + " = " + (above[kind].contains("" + asked) ? "1" : "KIND"));
            }
            s.then("as 9 7 = BEYOND", "as 9 -1 = BEYOND", "as 8 7 = BEYOND", "as 8 6 = MISSING", "as 10 0 = BEYOND",
                "as -1 0 = BEYOND", "change 1 0 0", "as 9 0 = 1", "as 9 1 = KIND").end();
        }
    }

    // ---- promises 32 to 36

    private static void sheets() {
        for (int bits : new int[] {8, 16, 32}) {
            String sheet = "sheet 3 " + bits;
            Script.run("32 sheet of " + bits + " bits", sheet + " 0 = 0", "write 3 0 1 = BEYOND", "load 3 = 0",
                "judge 3 = 0", sheet + " 1 = 1", "write 3 0 9 = 1", "write 3 1 9 = BEYOND", "write 3 -1 9 = BEYOND",
                sheet + " 40 = 40", "load 3 = 6", "listed 0 = 0", "write 3 39 9 = 1", "write 3 40 9 = BEYOND",
                "copy 3 39 3 0 1 = 1", "load 3 = 6", "listed 0 = 9", sheet + " 41 = BEYOND", sheet + " -1 = SIZE",
                "load 3 = 6", "listed 0 = 9", sheet + " 39 = 39", "write 3 38 1 = 1", "write 3 39 1 = BEYOND",
                "load 3 = 6", "listed 0 = 0", "sheet 3 0 -1 = SIZE", "load 3 = 6", "sheet 3 0 40 = 0",
                "load 3 = MISSING", "sheet 3 0 0 = 0", "write 3 0 0 = MISSING", sheet + " 2 = 2", "load 3 = 2");
        }
        Script.run("32 all 0 anew", "sheet 0 8 3", "write 0 0 5 | write 0 1 6 | write 0 2 7", "sheet 0 8 3 = 3",
            "load 0 = 3", "listed 0 = 0 | listed 1 = 0 | listed 2 = 0", "write 0 2 7", "sheet 0 8 2 = 2",
            "sheet 0 16 3 = 3", "load 0 = 3", "listed 2 = 0");
        Script.run("32 each sheet of its own", "sheet 0 8 1 | sheet 1 8 1 | sheet 2 8 1 | sheet 3 8 1",
            "write 0 0 1 | write 3 0 4", "load 1 = 1", "listed 0 = 0", "load 0 = 1", "listed 0 = 1", "load 3 = 1",
            "listed 0 = 4", "sheet 0 0 1 = 0", "load 0 = MISSING", "load 1 = 1");
    }

    /** A number that THE LIST takes is told by load(); -1 by fits(), which has it for any COLOUR. */
    private static void lowestBits() {
        String at = "write 0 0 ";
        Script.run("33 8 bits", "sheet 0 8 1", "potter 0 0", at + "355 = 1", "load 0 = 1", "listed 0 = 99",
            at + "256 = 1", "load 0 = 1", "listed 0 = 0", at + "100", "load 0 = 0", at + "127", "load 0 = 0",
            at + "128", "load 0 = 0", at + "-255", "load 0 = 1", "listed 0 = 1", at + "MIN", "load 0 = 1",
            "listed 0 = 0", at + "65635", "load 0 = 1", "listed 0 = 99", at + "255", "load 0 = 0", "fits 0 0 = 100",
            at + "-1", "fits 0 0 = 100", at + "MAX", "fits 0 0 = 100", at + "254", "fits 0 0 = 0", at + "-257",
            "fits 0 0 = 100");
        Script.run("33 16 bits", "sheet 0 16 1", "potter 0 0", at + "65635 = 1", "load 0 = 1", "listed 0 = 99",
            at + "65536 = 1", "load 0 = 1", "listed 0 = 0", at + "355", "load 0 = 0", at + "256", "load 0 = 0",
            at + "32767", "load 0 = 0", at + "32768", "load 0 = 0", at + "-65535", "load 0 = 1", "listed 0 = 1",
            at + "MIN", "load 0 = 1", "listed 0 = 0", at + "255", "fits 0 0 = 0", at + "65535", "fits 0 0 = 100",
            at + "-1", "fits 0 0 = 100", at + "MAX", "fits 0 0 = 100");
        Script.run("33 32 bits", "sheet 0 32 1", "potter 0 0", at + "65635 = 1", "load 0 = 0", at + "256", "load 0 = 0",
            at + "MIN", "load 0 = 0", at + "MAX", "load 0 = 0", "fits 0 0 = 0", at + "65535", "fits 0 0 = 0", at + "-1",
            "fits 0 0 = 100", at + "99", "load 0 = 1", "listed 0 = 99");
        Script.run("33 write", "sheet 0 8 2", "write 0 0 1 = 1", "write 0 1 2 = 1", "write 0 2 3 = BEYOND",
            "write 0 -1 3 = BEYOND", "write 1 0 3 = MISSING", "write 1 9 3 = MISSING", "write 4 0 3 = BEYOND",
            "write -1 0 3 = BEYOND", "load 0 = 2", "listed 0 = 1", "listed 1 = 2");
    }

    private static void copies() {
        String six = "write 0 0 1 | write 0 1 2 | write 0 2 3 | write 0 3 4 | write 0 4 5 | write 0 5 6";
        Script.run("34 onto itself, further on", "sheet 0 8 6", six, "copy 0 0 0 1 5 = 5", "load 0 = 6",
            "listed 0 = 1 | listed 1 = 1 | listed 2 = 2 | listed 3 = 3 | listed 4 = 4 | listed 5 = 5");
        Script.run("34 onto itself, further back", "sheet 0 16 6", six, "copy 0 1 0 0 5 = 5", "load 0 = 6",
            "listed 0 = 2 | listed 1 = 3 | listed 2 = 4 | listed 3 = 5 | listed 4 = 6 | listed 5 = 6");
        Script.run("34 onto itself, whole", "sheet 0 32 6", six, "copy 0 0 0 0 6 = 6", "copy 0 0 0 0 7 = BEYOND",
            "copy 0 1 0 0 6 = BEYOND", "copy 0 0 0 1 6 = BEYOND", "load 0 = 6", "listed 0 = 1", "listed 5 = 6");
        Script.run("34 to another one", "sheet 0 8 6", six, "sheet 1 8 3", "copy 0 3 1 0 3 = 3", "load 1 = 3",
            "listed 0 = 4 | listed 1 = 5 | listed 2 = 6", "copy 0 0 1 2 1 = 1", "load 1 = 3",
            "listed 0 = 4 | listed 1 = 5 | listed 2 = 1", "copy 0 0 1 0 4 = BEYOND", "copy 0 4 1 0 3 = BEYOND",
            "copy 0 0 1 1 3 = BEYOND", "copy 0 0 1 3 1 = BEYOND", "copy 0 6 1 0 1 = BEYOND", "copy 0 -1 1 0 1 = BEYOND",
            "copy 0 0 1 -1 1 = BEYOND", "copy 0 0 1 0 -1 = BEYOND", "copy 0 6 1 3 0 = 0", "copy 0 7 1 0 0 = BEYOND",
            "copy 0 0 1 4 0 = BEYOND", "copy 0 0 1 0 0 = 0", "copy 0 MAX 1 0 1 = BEYOND", "copy 0 1 1 0 MAX = BEYOND",
            "load 1 = 3", "listed 0 = 4 | listed 1 = 5 | listed 2 = 1", "load 0 = 6", "listed 0 = 1 | listed 5 = 6");
        Script.run("34 other bits", "sheet 0 8 2 | sheet 1 16 2 | sheet 2 32 2", "copy 0 0 1 0 1 = KIND",
            "copy 1 0 2 0 1 = KIND", "copy 2 0 0 0 1 = KIND", "copy 0 0 1 0 0 = KIND", "copy 0 0 1 0 9 = KIND",
            "copy 0 0 3 0 1 = MISSING", "copy 3 0 0 0 1 = MISSING", "copy 3 0 3 0 0 = MISSING",
            "copy 4 0 3 0 1 = BEYOND", "copy 3 0 4 0 1 = BEYOND", "sheet 1 8 2", "copy 0 0 1 0 2 = 2");
        Script.run("34 numbers below 0 come as they are", "potter 0 0", "sheet 0 8 1 | sheet 1 8 1", "write 0 0 -1",
            "fits 1 0 = 100", "write 1 0 5", "fits 1 0 = 0", "copy 0 0 1 0 1 = 1", "fits 1 0 = 100");
    }

    private static void loads() {
        String list = "weather 0 50 | weather 1 51 | weather 2 52 | weather 3 53 | weather 4 54 | weather 5 55";
        Script.run("35 the places there are", list, "sheet 0 8 6", "load 0 = 6", "listed 5 = 0", "sheet 0 8 7",
            "write 0 5 5 | write 0 6 6", "load 0 = 6", "listed 5 = 5", "listed 0 = 0", "sheet 0 8 5", "write 0 4 4",
            "load 0 = 5", "listed 4 = 4", "listed 5 = 5");
        Script.run("35 no numbers", list, "sheet 0 8 0", "load 0 = 0", "listed 0 = 50", "sheet 0 8 1", "load 0 = 1",
            "listed 0 = 0", "listed 1 = 51");
        Script.run("35 the first that isn't 0 to 99", list, "sheet 0 32 4",
            "write 0 0 99 | write 0 1 98 | write 0 2 100 | write 0 3 1", "load 0 = 2",
            "listed 0 = 99 | listed 1 = 98 | listed 2 = 52 | listed 3 = 53", "write 0 2 -1", "load 0 = 2",
            "listed 2 = 52", "write 0 2 0", "load 0 = 4", "listed 2 = 0 | listed 3 = 1 | listed 4 = 54", "write 0 0 -1",
            "load 0 = 0", "listed 0 = 99", "write 0 0 100", "load 0 = 0", "load 1 = MISSING", "load 4 = BEYOND",
            "load -1 = BEYOND", "listed 0 = 99");
        Script.run("35 the last place", list, "sheet 0 32 40", "write 0 5 100", "load 0 = 5", "listed 4 = 0",
            "listed 5 = 55", "write 0 5 99", "write 0 6 100", "load 0 = 6", "listed 5 = 99");
    }

    private static void judges() {
        Script.run("36 judge", "potter 0 0 | potter 0 0 | potter 0 0", "change 0 4 7 | change 2 4 5", "sheet 0 8 3",
            "write 0 0 7 | write 0 2 5", "judge 0 = 0", "write 0 2 4", "judge 0 = 3", "write 0 1 1", "judge 0 = 2",
            "write 0 0 6", "judge 0 = 1", "write 0 0 -1", "judge 0 = 1", "sheet 0 8 0", "judge 0 = 0", "sheet 0 8 1",
            "judge 0 = 1", "write 0 0 263", "judge 0 = 0", "sheet 0 16 1", "write 0 0 263", "judge 0 = 1",
            "judge 1 = MISSING", "judge 4 = BEYOND", "judge -1 = BEYOND");
        Script.run("36 a number without a POTTER", "sheet 0 8 1", "judge 0 = 1", "potter 0 0", "judge 0 = 0",
            "sheet 0 8 2", "judge 0 = 2");
        Script eight = new Script("36 eight POTTERS").then("sheet 0 8 9 | sheet 1 8 8 | sheet 2 8 40");
        for (int p = 0; p < 8; p++) {
            eight.then("potter 0 0", "change " + p + " 4 " + p, "write 0 " + p + " " + p, "write 1 " + p + " " + p,
                "write 2 " + p + " " + p);
        }
        eight.then("judge 0 = 9", "judge 1 = 0", "judge 2 = 9", "write 1 7 6", "judge 1 = 8").end();
    }

    // ---- promises 37 to 41

    private static void images() {
        Script.run("37 image, 38 undo, 39 tear", "undo = NONE", "tear = 0", "image = 1", "undo = 0", "undo = 0", "go 5",
            "undo = 0", "now 0 = 0", "go 3", "image = 1", "go 4", "image = 1", "go 1", "undo = 7", "go 1", "undo = 7",
            "tear = 1", "tear = 0", "undo = NONE", "now 0 = 7", "image = 1", "go 1", "undo = 7");
        Script.run("37 all but THE TAPE and SHEETS", "image", "'old;onions 9;weather 5 5 5' = 3", "hold 9 0", "seed 77",
            "sheet 0 8 1 | write 0 0 42", "tape 'abc'", "undo = 0", "count 1 = 0", "count 6 = 1", "count 7 = 0",
            "count 5 = 3", "listed 5 = 0", "now 2 = 0", "as 9 0 = MISSING", "load 0 = 1", "listed 0 = 42");
        Script.run("37 THE TAPE and SHEETS as they are, not as they were", "tape 'abc'", "sheet 0 8 1 | write 0 0 42",
            "image", "wipe = 3", "sheet 0 0 0", "undo = 0", "count 5 = 0", "load 0 = MISSING");
        Script full = new Script("38 from eight POTTERS to none, and back").then("image");
        for (int p = 0; p < 8; p++) {
            full.then("potter 4 99", "hold " + p + " " + p, "change " + p + " 2 9", "change " + p + " 3 999");
            full.then("change " + p + " 4 7", "change " + p + " 5 9999", "change " + p + " 6 9999");
        }
        full.then("undo = 0", "count 1 = 0", "count 7 = 0", "of 0 0 = BEYOND", "now 3 = 0", "now 4 = 0", "now 5 = 0",
            "now 6 = 0", "now 7 = -1");
        for (int p = 0; p < 8; p++) {
            full.then("potter 1 1 = " + p);
            for (int what = 0; what < 7; what++) {
                full.then("of " + p + " " + what + " = " + new int[] {1, 1, 2, 0, 0, 0, 0}[what]);
            }
        }
        full.then("potter 0 0 = FULL", "hold 9 7", "image", "change 7 3 999", "hold 9 -1", "undo = 0", "of 7 3 = 0",
            "as 9 1 = 7", "potter 0 0 = FULL").end();
        Script.run("38 findings stay", "image", "go 0 = BEYOND", "undo = 0", "status 0 = 1", "tear = 1", "undo = NONE",
            "status 3 = 1");
        Script.run("38 SOLD and ONIONS", "'young grief 0 run 30;onions 9' = 2", "image", "go 7 = 5", "now 2 = 2",
            "count 3 = 1", "undo = 0", "now 1 = 0", "now 2 = 9", "count 3 = 0", "of 0 3 = 30", "go 7 = 5");
        Script.run("38 an image is not the hills", "potter 0 5", "image", "undo = 0", "change 0 1 9", "weather 0 9",
            "hold 0 0", "undo = 0", "of 0 1 = 5", "listed 0 = 0", "as 0 0 = MISSING");
    }

    private static void counts() {
        Script.run("40 count", "count -1 = BEYOND", "count 8 = BEYOND", "seed MIN", "count 6 = MIN", "seed MAX",
            "count 6 = MAX", "seed -1000001", "count 6 = -1000001", "seed -1000007 = -1000001", "seed 0 = -1000007",
            "go 60", "count 0 = 60", "potter 0 0", "count 1 = 1");
    }

    private static void status() {
        Script.run("41 status", "status -1 = 0", "status 0 = 0", "status 6 = 0", "status 7 = BEYOND", "status 0 = 1",
            "status -1 = 1", "status -2 = BEYOND", "status 0 = 2", "status -1 = 2", "status MIN = BEYOND",
            "status MAX = BEYOND", "status 0 = 4", "status -1 = 4", "status 1 = 0", "status 5 = 0");
        Script s = new Script("41 each finding").then("undo = NONE", "load 0 = MISSING", "load 0 = MISSING",
            "sheet 0 8 -1 = SIZE", "potter 0 0", "hold 0 0", "as 0 6 = KIND", "odds 1 0 0 = BEYOND");
        for (int p = 1; p < 8; p++) {
            s.then("potter 0 0 = " + p);
        }
        s.then("potter 0 0 = FULL", "text = -1", "count 6 = 1", "status 0 = 1", "status 1 = 1", "status 2 = 1",
            "status 3 = 1", "status 4 = 0", "status 5 = 2", "status 6 = 1", "status -1 = 7").end();
    }
}
