import java.util.ArrayList;
import java.util.List;
import java.util.Set;
import java.util.TreeSet;

/**
 * Each bound of an argument, at it, just within it and just beyond it; each finding; and the order in
 * which findings are asked. A refused call is made on one of two equal objects: it must answer its
 * finding, status() must count it, and all else must be as in the other one, which wasn't called.
 */
public final class RefusedCallsTest {
    // Eight POTTERS, an image that is not as all is now, a TAPE, sheets of all bits but sheet 3.
    private static final String[] EIGHT = {
        "'young grief 33 hours 4 run 12;old grief 99;widower grief 20;abel grief 50 hours 9;stone hours 0' = 5",
            "'lad run 999;potter grief 0 hours 1;onions 41;weather 0 9 5;weather 5 1 2;weather 3 4 4' = 6",
            "potter 4 77 = 7", "change 2 4 5 | change 2 5 49 | change 3 5 3 | change 4 6 9999 | change 0 5 9999",
            "hold 0 0 | hold 3 7 | hold 9 2", "go 9", "seed -77",
            "sheet 0 8 7 | write 0 0 5 | write 0 1 99 | write 0 5 42 | write 0 6 7",
            "sheet 1 16 3 | write 1 0 1 | write 1 2 98", "sheet 2 32 40 | write 2 0 3 | write 2 20 17 | write 2 39 99",
            "image", "go 3", "change 1 1 44 | hold 4 4 | weather 1 1 | onions 9 | seed 123456",
            "tape 'onions 7;weather 2 3 4'"};
    // Three POTTERS, nothing kept, an empty TAPE, a sheet without numbers.
    private static final String[] FEW = {"'lad;widower grief 20;stone run 40' = 3", "sheet 3 8 0", "hold 5 1"};
    private static final String[] NEW = {};
    private static final String[] FULL_TAPE = {
        "tape 'onions 0000000000000000000000000000000000000000000000000000000000000000000'",
            "tape '00000000000000000000000000000000000000000012'", "count 5 = 118"};

    private static final Set<String> ASKING = Set.of("listed", "of", "now", "ahead", "sold", "when", "cracks", "tinted",
        "hoursFor", "kindFor", "griefFor", "weatherFor", "onionsFor", "stayIn", "fits", "grief", "kinds", "odds", "as",
        "judge", "count", "status");

    public static void main(String[] args) {
        boundsEverywhere(EIGHT, 8);
        boundsEverywhere(FEW, 3);
        boundsEverywhere(NEW, 0);
        boundsOfSheets();
        boundsOfChoices(EIGHT);
        boundsOfChoices(FEW);
        full();
        kind();
        none();
        missing();
        size();
        state();
        order();
        asking();
        Script.report();
    }

    // ---- how a call is tried

    private static Script scene(String[] lines, String title) {
        return new Script(title).then(lines);
    }

    /** All that can be asked of an object, SHEETS, THE TAPE and the image too; all of these are used up by it. */
    private static List<Long> readOut(Script s) {
        List<Long> told = new ArrayList<>();
        readHills(s, told);
        for (int sheet = 0; sheet < 4; sheet++) {
            readSheet(s, sheet, told);
        }
        told.add(s.ask("text"));
        told.add(s.ask("now 2"));
        told.add(s.ask("listed 2"));
        told.add(s.ask("undo"));
        readHills(s, told);
        told.add(s.ask("tear"));
        s.checkCalls();
        return told;
    }

    private static void readHills(Script s, List<Long> told) {
        for (int i = 0; i < 6; i++) {
            told.add(s.ask("listed " + i));
        }
        for (int p = 0; p < 8; p++) {
            for (int what = 0; what < 7; what++) {
                told.add(s.ask("of " + p + " " + what));
            }
        }
        for (int what = 0; what < 3; what++) {
            told.add(s.ask("now " + what));
        }
        for (int what : new int[] {1, 5, 6, 7}) {
            told.add(s.ask("count " + what));
        }
        for (int spot = 0; spot < 10; spot++) {
            told.add(s.ask("as " + spot + " 0"));
        }
    }

    /** Its length, its numbers (0 to 99 in each scene, so that THE LIST can tell them), its bits. */
    private static void readSheet(Script s, int sheet, List<Long> told) {
        int length = 0;
        for (int step = 32; step > 0; step /= 2) {
            String whole = "copy " + sheet + " 0 " + sheet + " 0 " + (length + step);
            length += s.ask(whole) == length + step ? step : 0;
        }
        told.add((long) length);
        for (int other = 0; other < 4; other++) {
            told.add(s.ask("copy " + sheet + " 0 " + other + " 0 0"));
        }
        for (int from = 0; from < length; from += 6) {
            int n = Math.min(6, length - from);
            s.ask("copy " + sheet + " " + from + " " + sheet + " 0 " + n);
            told.add(s.ask("load " + sheet));
            for (int i = 0; i < n; i++) {
                told.add(s.ask("listed " + i));
            }
        }
        for (int v : new int[] {256 + 7, 256 * 256 + 8}) {
            told.add(s.ask("write " + sheet + " 0 " + v));
            told.add(s.ask("load " + sheet));
        }
    }

    /** The call answers the finding; that is counted, and nothing else has changed. */
    private static void refused(String[] scene, String call, String finding) {
        Script called = scene(scene, call);
        Script other = scene(scene, call);
        called.check(call, called.ask(call), Script.number(finding));
        List<Long> due = other.status();
        int place = 1 + Script.FINDINGS.indexOf(finding);
        due.set(0, due.get(0) + 1);
        due.set(place, due.get(place) + 1);
        same(called, "status", called.status(), due);
        same(called, "what is there", readOut(called), readOut(other));
    }

    /** The call isn't refused as BEYOND. What it asks for may be refused otherwise: then as refused calls are. */
    private static void taken(String[] scene, String call) {
        Script called = scene(scene, call);
        long answer = called.ask(call);
        if (Script.isFinding(answer) && !call.equals("count 6")) {
            called.check(call + " is BEYOND", answer == Script.LOW ? 1 : 0, 0);
            refused(scene, call, Script.FINDINGS.get((int) (Script.LOW - answer)));
            return;
        }
        Script other = scene(scene, call);
        same(called, "status", called.status(), other.status());
        if (ASKING.contains(call.split(" ")[0])) {
            same(called, "what is there", readOut(called), readOut(other));
        }
    }

    private static void same(Script s, String what, List<Long> got, List<Long> due) {
        if (!got.equals(due)) {
            s.fail(what + " is " + got + ", due is " + due);
        }
    }

    /** '#' in the call is each of the bounds, just within and just beyond them in turn. */
    private static void bounds(String[] scene, String call, int least, int most) {
        TreeSet<Integer> within = new TreeSet<>();
        for (int v : new int[] {least, least + 1, most - 1, most}) {
            if (v >= least && v <= most) {
                within.add(v);
            }
        }
        for (int v : within) {
            taken(scene, call.replace("#", "" + v));
        }
        TreeSet<Integer> beyond = new TreeSet<>();
        for (int v : new int[] {least - 1, most + 1, Integer.MIN_VALUE, Integer.MAX_VALUE, least + 256,
            least + 65536}) {
            if (v < least || v > most) {
                beyond.add(v);
            }
        }
        for (int v : beyond) {
            refused(scene, call.replace("#", "" + v), "BEYOND");
        }
    }

    // ---- the bounds

    private static void boundsEverywhere(String[] scene, int potters) {
        boundsWithoutPotters(scene);
        String[] byPotter = {"of # 0", "of # 12", "change # 1 5", "ahead # 1 5", "when # 0", "cracks #", "tinted # 0",
            "hoursFor # 0 7", "kindFor # 7", "griefFor # 7", "odds # 1 0", "odds # 0 1"};
        for (String call : byPotter) {
            bounds(scene, call, 0, potters - 1);
        }
        bounds(scene, "hold 2 #", -1, potters - 1);
        if (potters > 0) {
            boundsWithPotters(scene);
        }
    }

    private static void boundsWithoutPotters(String[] scene) {
        bounds(scene, "weather # 7", 0, 5);
        bounds(scene, "weather 2 #", 0, 99);
        bounds(scene, "listed #", 0, 5);
        bounds(scene, "onions #", 0, 99);
        bounds(scene, "potter # 5", 0, 6);
        bounds(scene, "potter 3 #", 0, 99);
        bounds(scene, "go #", 1, 60);
        bounds(scene, "now #", 0, 7);
        bounds(scene, "sold #", 0, 100);
        bounds(scene, "weatherFor # 7", 0, 5);
        bounds(scene, "weatherFor 2 #", 0, 40);
        bounds(scene, "onionsFor # 7", 0, 99999);
        bounds(scene, "onionsFor 0 #", 0, 40);
        bounds(scene, "stayIn # 7", 0, 7);
        bounds(scene, "stayIn 1 #", 0, 20);
        bounds(scene, "storms #", 1, 20);
        bounds(scene, "feed 32 #", 1, 4);
        bounds(scene, "hold # -1", 0, 9);
        bounds(scene, "as # 0", 0, 9);
        bounds(scene, "as 5 #", 0, 6);
        bounds(scene, "as 0 #", 0, 6);
        bounds(scene, "sheet # 8 3", 0, 3);
        bounds(scene, "sheet # 0 0", 0, 3);
        bounds(scene, "load #", 0, 3);
        bounds(scene, "judge #", 0, 3);
        bounds(scene, "count #", 0, 7);
        bounds(scene, "status #", -1, 6);
        for (int v : new int[] {0, 1, -1, Integer.MIN_VALUE, Integer.MAX_VALUE, Script.LOW}) {
            Script s = scene(scene, "seed");
            List<Long> before = s.status();
            s.ask("seed " + v);
            s.check("seed", s.ask("seed 5"), v);
            same(s, "status", s.status(), before);
        }
    }

    private static void boundsWithPotters(String[] scene) {
        bounds(scene, "hold # 1", 0, 9);
        bounds(scene, "of 1 #", 0, 12);
        bounds(scene, "change 1 # 0", 0, 6);
        int[] most = {6, 99, 9, 999, 7, 9999, 9999};
        for (int what = 0; what < most.length; what++) {
            bounds(scene, "change 1 " + what + " #", 0, most[what]);
        }
        bounds(scene, "ahead 1 1 #", 0, 100);
        bounds(scene, "ahead 1 6 #", 0, 100);
        bounds(scene, "when 1 #", 0, 9999);
        bounds(scene, "tinted 1 #", 0, 7);
        bounds(scene, "hoursFor 1 # 7", 0, 9999);
        bounds(scene, "hoursFor 1 0 #", 0, 60);
        bounds(scene, "kindFor 1 #", 0, 60);
        bounds(scene, "griefFor 1 #", 0, 60);
        bounds(scene, "odds 1 # 0", 0, 9);
        bounds(scene, "odds 1 1 #", 0, 1);
    }

    private static void boundsOfSheets() {
        for (String told : new String[] {"fits", "grief", "kinds"}) {
            bounds(EIGHT, told + " # 1", 0, 3);
            bounds(EIGHT, told + " 0 #", 0, 7);
            bounds(FEW, told + " 3 #", 0, 2);
        }
        bounds(EIGHT, "write # 0 1", 0, 3);
        bounds(EIGHT, "write 0 # 1", 0, 6);
        bounds(EIGHT, "write 1 # 1", 0, 2);
        bounds(EIGHT, "write 2 # 1", 0, 39);
        bounds(FEW, "write 3 # 1", 0, -1);
        bounds(EIGHT, "copy # 0 0 0 1", 0, 3);
        bounds(EIGHT, "copy 0 0 # 0 1", 0, 3);
        bounds(EIGHT, "copy 2 # 2 0 4", 0, 36);
        bounds(EIGHT, "copy 2 0 2 # 4", 0, 36);
        bounds(EIGHT, "copy 0 # 0 0 0", 0, 7);
        bounds(EIGHT, "copy 0 0 0 # 0", 0, 7);
        bounds(EIGHT, "copy 1 0 1 0 #", 0, 3);
        bounds(EIGHT, "copy 1 1 1 0 #", 0, 2);
        bounds(EIGHT, "copy 1 0 1 2 #", 0, 1);
        bounds(FEW, "copy 3 0 3 0 #", 0, 0);
        bounds(FEW, "copy 3 # 3 0 0", 0, 0);
        // A sum of two of these numbers would be below 0.
        refused(EIGHT, "copy 2 MAX 2 0 MAX", "BEYOND");
        refused(EIGHT, "copy 2 1 2 0 MAX", "BEYOND");
        refused(EIGHT, "copy 2 0 2 1 MAX", "BEYOND");
        refused(EIGHT, "copy 2 MAX 2 MAX 1", "BEYOND");
        refused(EIGHT, "copy 2 MIN 2 0 MIN", "BEYOND");
        refused(EIGHT, "copy 2 -1 2 -1 1", "BEYOND");
        refused(EIGHT, "copy 2 -1 2 0 0", "BEYOND");
        refused(EIGHT, "copy 2 0 2 -1 0", "BEYOND");
    }

    /** Where an argument is one of some numbers that don't stand in a row. */
    private static void boundsOfChoices(String[] scene) {
        for (int what : new int[] {1, 3, 4, 5, 6}) {
            taken(scene, "ahead 1 " + what + " 5");
        }
        for (String what : new String[] {"0", "2", "7", "8", "12", "-1", "MIN", "MAX"}) {
            refused(scene, "ahead 1 " + what + " 5", "BEYOND");
        }
        for (int bits : new int[] {0, 8, 16, 32}) {
            taken(scene, "sheet 2 " + bits + " 0");
            taken(scene, "sheet 2 " + bits + " 1");
            taken(scene, "sheet 2 " + bits + " 39");
            taken(scene, "sheet 2 " + bits + " 40");
            refused(scene, "sheet 2 " + bits + " 41", "BEYOND");
            refused(scene, "sheet 2 " + bits + " MAX", "BEYOND");
        }
        for (String bits : new String[] {"-1", "1", "7", "9", "15", "17", "24", "31", "33", "64", "-8", "264", "MIN",
            "MAX"}) {
            refused(scene, "sheet 2 " + bits + " 1", "BEYOND");
        }
    }

    // ---- the other findings

    private static void full() {
        refused(EIGHT, "potter 0 0", "FULL");
        refused(EIGHT, "potter 6 99", "FULL");
        taken(FULL_TAPE, "feed 32 1");
        taken(FULL_TAPE, "feed 32 2");
        refused(FULL_TAPE, "feed 32 3", "FULL");
        refused(FULL_TAPE, "feed 32 4", "FULL");
        taken(with(FULL_TAPE, "feed 32 1 = 119"), "feed 32 1");
        refused(with(FULL_TAPE, "feed 32 1 = 119"), "feed 32 2", "FULL");
        for (int n = 1; n <= 4; n++) {
            refused(with(FULL_TAPE, "feed 8224 2 = 120"), "feed 32 " + n, "FULL");
        }
    }

    private static void kind() {
        // Spots 0, 3, 9 hold a YOUNG one, an ABEL and a WIDOWER; spot 4 a STONE.
        String[] no = {"0 2", "0 3", "0 4", "0 5", "0 6", "3 1", "3 5", "3 6", "9 1", "9 4", "9 5", "9 6", "4 1", "4 2",
            "4 3", "4 4", "4 6"};
        for (String call : no) {
            refused(EIGHT, "as " + call, "KIND");
        }
        for (String call : new String[] {"0 0", "0 1", "3 0", "3 2", "3 3", "3 4", "9 0", "9 2", "9 3", "4 0", "4 5"}) {
            Script s = scene(EIGHT, "as " + call);
            s.check("as " + call + " is refused", Script.isFinding(s.ask("as " + call)) ? 1 : 0, 0);
        }
        for (String call : new String[] {"0 0 1 0 1", "1 0 0 0 1", "0 0 2 0 1", "2 0 1 0 0", "1 0 2 0 3",
            "2 0 0 0 7"}) {
            refused(EIGHT, "copy " + call, "KIND");
        }
    }

    private static void none() {
        refused(FEW, "when 0 1", "NONE");
        refused(FEW, "when 1 9999", "NONE");
        refused(EIGHT, "cracks 4", "NONE");
        refused(FEW, "tinted 0 0", "NONE");
        refused(FEW, "tinted 2 7", "NONE");
        refused(FEW, "hoursFor 0 1 60", "NONE");
        refused(FEW, "hoursFor 0 1 0", "NONE");
        refused(FEW, "griefFor 2 7", "NONE");
        refused(FEW, "onionsFor 1 0", "NONE");
        refused(FEW, "onionsFor 99999 40", "NONE");
        refused(with(FEW, "change 0 5 1"), "stayIn 0 0", "NONE");
        refused(with(FEW, "sheet 0 8 1 | write 0 0 7"), "grief 0 0", "NONE");
        refused(FEW, "undo", "NONE");
        refused(NEW, "undo", "NONE");
        refused(with(EIGHT, "tear = 1"), "undo", "NONE");
    }

    private static void missing() {
        String[] calls = {"fits 3 0", "grief 3 0", "kinds 3 0", "write 3 0 0", "copy 3 0 0 0 1", "copy 0 0 3 0 1",
            "copy 3 0 3 0 0", "load 3", "judge 3", "as 1 0", "as 8 6"};
        for (String call : calls) {
            refused(EIGHT, call, "MISSING");
        }
        for (String call : new String[] {"fits 0 0", "load 1", "judge 2", "write 0 0 1", "as 0 0", "as 9 0"}) {
            refused(FEW, call, "MISSING");
            refused(with(EIGHT, "sheet 0 0 0 | sheet 1 0 40 | sheet 2 0 1 | hold 0 -1 | hold 9 -1"), call, "MISSING");
        }
    }

    private static void size() {
        for (int bits : new int[] {0, 8, 16, 32}) {
            for (String n : new String[] {"-1", "-40", "-256", "MIN"}) {
                for (int s = 0; s < 4; s++) {
                    refused(EIGHT, "sheet " + s + " " + bits + " " + n, "SIZE");
                }
            }
        }
    }

    /** DAY 99960 is far beyond the calls that are promised; what is told of STATE holds there all the same. */
    private static void state() {
        Script called = lastDays("STATE");
        Script other = lastDays("STATE");
        called.then("go 40 = STATE", "go 60 = STATE", "go 61 = BEYOND", "go 0 = BEYOND", "storms 21 = BEYOND");
        same(called, "what is there", hillsOf(called), hillsOf(other));
        called.then("image", "go 39", "now 0 = 99999", "go 1 = STATE", "storms 1 = STATE", "now 0 = 99999",
            "undo = 99960", "go 38", "now 0 = 99998", "go 2 = STATE", "storms 2 = STATE", "storms 1", "now 0 = 99999",
            "undo = 99960", "go 20", "storms 20 = STATE", "count 6 = 1", "storms 19", "now 0 = 99999");
        // Reading what is there asks for POTTERS that are not, in both.
        List<Long> due = other.status();
        due.set(0, due.get(0) + 10);
        due.set(1, due.get(1) + 3);
        due.set(5, due.get(5) + 7);
        same(called, "status", called.status(), due);
    }

    private static Script lastDays(String title) {
        Script s = scene(new String[] {"'lad;young grief 99' = 2", "weather 3 77", "hold 0 1"}, title);
        for (int i = 0; i < 1666; i++) {
            s.then("go 60");
        }
        return s.then("onions 7", "now 0 = 99960");
    }

    private static List<Long> hillsOf(Script s) {
        List<Long> told = new ArrayList<>();
        readHills(s, told);
        return told;
    }

    // ---- the order in which they are asked

    private static void order() {
        refused(EIGHT, "potter 7 0", "BEYOND");
        refused(EIGHT, "potter 0 100", "BEYOND");
        refused(EIGHT, "potter -1 -1", "BEYOND");
        for (String n : new String[] {"0", "5", "-1", "MIN", "MAX"}) {
            refused(with(FULL_TAPE, "feed 8224 2 = 120"), "feed 32 " + n, "BEYOND");
        }
        String[] beyondNotNone = {"when 0 10000", "when 3 9999", "cracks 3", "tinted 0 8", "tinted 3 0",
            "hoursFor 0 10000 0", "hoursFor 3 1 0", "hoursFor 0 1 61", "griefFor 2 61", "griefFor 3 7",
            "onionsFor 100000 0", "onionsFor 1 41", "stayIn 8 0", "stayIn 0 21"};
        for (String call : beyondNotNone) {
            refused(with(FEW, "change 0 5 1"), call, "BEYOND");
        }
        for (String told : new String[] {"fits", "grief", "kinds"}) {
            refused(EIGHT, told + " 4 8", "BEYOND");
            refused(EIGHT, told + " -1 -1", "BEYOND");
            refused(EIGHT, told + " 3 8", "MISSING");
            refused(EIGHT, told + " 3 -1", "MISSING");
            refused(NEW, told + " 3 0", "MISSING");
            refused(EIGHT, told + " 0 8", "BEYOND");
        }
        refused(with(FEW, "sheet 0 8 1 | write 0 0 7"), "grief 0 3", "BEYOND");
        refused(EIGHT, "as 10 7", "BEYOND");
        refused(EIGHT, "as 1 7", "BEYOND");
        refused(EIGHT, "as 1 -1", "BEYOND");
        refused(EIGHT, "as 0 7", "BEYOND");
        orderOfSheets();
    }

    private static void orderOfSheets() {
        for (String n : new String[] {"-1", "41", "MIN", "MAX"}) {
            refused(EIGHT, "sheet 4 8 " + n, "BEYOND");
            refused(EIGHT, "sheet -1 0 " + n, "BEYOND");
            refused(EIGHT, "sheet 0 9 " + n, "BEYOND");
            refused(EIGHT, "sheet 4 9 " + n, "BEYOND");
        }
        refused(EIGHT, "write 4 40 0", "BEYOND");
        refused(EIGHT, "write 3 40 0", "MISSING");
        refused(EIGHT, "write 3 -1 0", "MISSING");
        // No such sheet ahead of a MISSING one, that ahead of other bits, these ahead of too many numbers.
        refused(EIGHT, "copy 3 0 4 0 1", "BEYOND");
        refused(EIGHT, "copy 4 0 3 0 1", "BEYOND");
        refused(EIGHT, "copy -1 0 3 0 -1", "BEYOND");
        refused(EIGHT, "copy 3 0 -1 0 -1", "BEYOND");
        refused(EIGHT, "copy 0 0 3 0 41", "MISSING");
        refused(EIGHT, "copy 3 0 2 0 -1", "MISSING");
        refused(EIGHT, "copy 3 -1 3 -1 -1", "MISSING");
        refused(EIGHT, "copy 0 -1 1 0 1", "KIND");
        refused(EIGHT, "copy 0 0 1 -1 1", "KIND");
        refused(EIGHT, "copy 0 0 2 0 -1", "KIND");
        refused(EIGHT, "copy 1 0 2 0 41", "KIND");
        refused(EIGHT, "copy 1 MAX 2 MAX MAX", "KIND");
        refused(EIGHT, "load 4", "BEYOND");
        refused(EIGHT, "judge 4", "BEYOND");
    }

    // ---- what asks and changes nothing

    private static void asking() {
        String[] calls = {"of 0 7", "of 7 8", "now 5", "now 6", "now 7", "ahead 0 3 100", "sold 100", "when 0 9999",
            "cracks 0", "tinted 2 1", "hoursFor 6 1 60", "kindFor 0 60", "griefFor 0 13", "weatherFor 3 40",
            "onionsFor 200 40", "stayIn 2 20", "fits 1 2", "grief 1 2", "kinds 1 2", "odds 5 9 0", "odds 0 9 1",
            "as 0 1", "judge 0", "judge 2", "count 6", "status -1", "status 6"};
        for (String call : calls) {
            taken(EIGHT, call);
        }
    }

    private static String[] with(String[] scene, String line) {
        String[] longer = new String[scene.length + 1];
        System.arraycopy(scene, 0, longer, 0, scene.length);
        longer[scene.length] = line;
        return longer;
    }
}
