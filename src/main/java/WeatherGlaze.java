/**
 * Hills in which pots are glazed with the weather of their makers: POTTERS, THE LIST of weathers,
 * days and firings, and the questions that can be asked about them.
 */
public final class WeatherGlaze {
    private static final int LOW = -1000001;

    // The findings by their numbers in status(); an act answers LOW less the number.
    private static final int FINE = -1;
    private static final int BEYOND = 0;
    private static final int FULL = 1;
    private static final int KIND = 2;
    private static final int NONE = 3;
    private static final int STATE = 4;
    private static final int MISSING = 5;
    private static final int SIZE = 6;
    private static final int FINDINGS = 7;

    private static final int POTTER = 0;
    private static final int YOUNG = 1;
    private static final int OLD = 2;
    private static final int WIDOWER = 3;
    private static final int ABEL = 4;
    private static final int STONE = 5;
    private static final int LAD = 6;
    private static final int KINDS = 7;

    private static final int PLACES = 6;
    private static final int POTTERS = 8;
    private static final int SPOTS = 10;
    private static final int SHEETS = 4;
    private static final int SHEET_NUMBERS = 40;
    private static final int TAPE_BYTES = 120;
    private static final int NOTHING = -1;

    private static final int MOST_WEATHER = 99;
    private static final int WEATHERS = 100;
    private static final int MOST_ONIONS = 99;
    private static final int MOST_SOLD = 99999;
    private static final int MOST_DAY = 99999;
    private static final int MOST_GRIEF = 99;
    private static final int MOST_HOURS = 9;
    private static final int MOST_RUN = 999;
    private static final int MOST_COLOUR = 7;
    private static final int MOST_POTS = 9999;

    private static final int FIRST_GRIEF = 10;
    private static final int FIRST_HOURS = 2;
    private static final int WEEK = 7;
    private static final int FIRING_DAY = 6;
    private static final int CRACK_GRIEF = 15;
    private static final int FAR_DAYS = 200;
    private static final int ANY_COLOUR = -1;
    private static final int ASKED_WEEKS = 10;

    private final Hills hills = new Hills();
    // What-if questions are played here, so that they change nothing and make no object.
    private final Hills trial = new Hills();
    private final Hills kept = new Hills();
    private boolean isKept = false;
    private final Sheet[] sheets = new Sheet[SHEETS];
    private final Reader reader = new Reader();
    private final int[] found = new int[FINDINGS];

    public WeatherGlaze() {
        for (int s = 0; s < SHEETS; s++) {
            sheets[s] = new Sheet();
        }
    }

    // ---- weather, potters

    public int weather(int i, int v) {
        if (!isWithin(i, PLACES - 1) || !isWithin(v, MOST_WEATHER)) {
            return finding(BEYOND);
        }
        int was = hills.list[i];
        hills.list[i] = v;
        return was;
    }

    public int listed(int i) {
        if (!isWithin(i, PLACES - 1)) {
            return finding(BEYOND);
        }
        return hills.list[i];
    }

    public int onions(int v) {
        if (!isWithin(v, MOST_ONIONS)) {
            return finding(BEYOND);
        }
        int was = hills.onionsLeft;
        hills.onionsLeft = v;
        return was;
    }

    public int potter(int kind, int grief) {
        if (!isWithin(kind, KINDS - 1) || !isWithin(grief, MOST_GRIEF)) {
            return finding(BEYOND);
        }
        if (hills.isFull()) {
            return finding(FULL);
        }
        return hills.addPotter(kind, grief);
    }

    public int of(int potter, int what) {
        if (!isPotter(potter) || !isWithin(what, 12)) {
            return finding(BEYOND);
        }
        Potter one = hills.potters[potter];
        switch (what) {
            case 7: return one.cries(hills.onionsLeft);
            case 8: return one.weathers(hills.weatherOfDay());
            case 9: return one.needs();
            case 10: return one.tint();
            case 11: return one.fetches();
            case 12: return one.heals();
            default: return one.told(what);
        }
    }

    public int change(int potter, int what, int v) {
        if (!isPotter(potter) || !isWithin(what, 6) || !isWithin(v, mostOf(what))) {
            return finding(BEYOND);
        }
        Potter one = hills.potters[potter];
        int was = one.told(what);
        one.put(what, v);
        return was;
    }

    // ---- days

    public int go(int n) {
        if (n < 1 || n > 60) {
            return finding(BEYOND);
        }
        if (hills.day > MOST_DAY - n) {
            return finding(STATE);
        }
        hills.passDays(n);
        return hills.takings;
    }

    public int now(int what) {
        switch (what) {
            case 0: return hills.day;
            case 1: return hills.takings;
            case 2: return hills.onionsLeft;
            case 3: return hills.allPots();
            case 4: return hills.allCracked();
            case 5: return hills.coloursOfPots();
            case 6: return hills.readyPotters();
            case 7: return hills.wettestPotter();
            default: return finding(BEYOND);
        }
    }

    // ---- what will be (nothing changes)

    public int ahead(int potter, int what, int n) {
        boolean isAsked = what == 1 || what >= 3 && what <= 6;
        if (!isPotter(potter) || !isAsked || !isWithin(n, 100)) {
            return finding(BEYOND);
        }
        trial.become(hills);
        trial.passDays(n);
        return trial.potters[potter].told(what);
    }

    public int sold(int n) {
        if (!isWithin(n, 100)) {
            return finding(BEYOND);
        }
        trial.become(hills);
        trial.passDays(n);
        return trial.takings;
    }

    public int when(int potter, int v) {
        if (!isPotter(potter) || !isWithin(v, MOST_POTS)) {
            return finding(BEYOND);
        }
        trial.become(hills);
        for (int days = 0; days <= FAR_DAYS; days++) {
            if (trial.potters[potter].pots >= v) {
                return days;
            }
            trial.passDay();
        }
        return finding(NONE);
    }

    public int cracks(int potter) {
        if (!isPotter(potter)) {
            return finding(BEYOND);
        }
        int before = hills.potters[potter].cracked;
        trial.become(hills);
        for (int days = 1; days <= FAR_DAYS; days++) {
            trial.passDay();
            if (trial.potters[potter].cracked > before) {
                return days;
            }
        }
        return finding(NONE);
    }

    public int tinted(int potter, int colour) {
        if (!isPotter(potter) || !isWithin(colour, MOST_COLOUR)) {
            return finding(BEYOND);
        }
        trial.become(hills);
        for (int days = 0; days <= FAR_DAYS; days++) {
            if (trial.potters[potter].hasPotOf(colour)) {
                return days;
            }
            trial.passDay();
        }
        return finding(NONE);
    }

    // ---- how to be

    public int hoursFor(int potter, int v, int n) {
        if (!isPotter(potter) || !isWithin(v, MOST_POTS) || !isWithin(n, 60)) {
            return finding(BEYOND);
        }
        for (int hours = 0; hours <= MOST_HOURS; hours++) {
            trial.become(hills);
            trial.potters[potter].hours = hours;
            trial.passDays(n);
            if (trial.potters[potter].pots >= v) {
                return hours;
            }
        }
        return finding(NONE);
    }

    public int kindFor(int potter, int n) {
        if (!isPotter(potter) || !isWithin(n, 60)) {
            return finding(BEYOND);
        }
        int best = 0;
        int most = -1;
        for (int kind = 0; kind < KINDS; kind++) {
            trial.become(hills);
            trial.potters[potter].kind = kind;
            trial.passDays(n);
            if (trial.takings > most) {
                most = trial.takings;
                best = kind;
            }
        }
        return best;
    }

    public int griefFor(int potter, int n) {
        if (!isPotter(potter) || !isWithin(n, 60)) {
            return finding(BEYOND);
        }
        int before = hills.potters[potter].cracked;
        for (int grief = 0; grief <= MOST_GRIEF; grief++) {
            trial.become(hills);
            trial.potters[potter].grief = grief;
            trial.passDays(n);
            if (trial.potters[potter].cracked == before) {
                return grief;
            }
        }
        return finding(NONE);
    }

    public int weatherFor(int i, int n) {
        if (!isWithin(i, PLACES - 1) || !isWithin(n, 40)) {
            return finding(BEYOND);
        }
        int best = 0;
        int most = -1;
        for (int weather = 0; weather <= MOST_WEATHER; weather++) {
            trial.become(hills);
            trial.list[i] = weather;
            trial.passDays(n);
            if (trial.takings > most) {
                most = trial.takings;
                best = weather;
            }
        }
        return best;
    }

    public int onionsFor(int v, int n) {
        if (!isWithin(v, MOST_SOLD) || !isWithin(n, 40)) {
            return finding(BEYOND);
        }
        for (int onions = 0; onions <= MOST_ONIONS; onions++) {
            trial.become(hills);
            trial.onionsLeft = onions;
            trial.passDays(n);
            if (trial.takings >= v) {
                return onions;
            }
        }
        return finding(NONE);
    }

    public int stayIn(int colour, int n) {
        if (!isWithin(colour, MOST_COLOUR) || !isWithin(n, 20)) {
            return finding(BEYOND);
        }
        int sets = 1 << hills.potterCount;
        for (int size = 0; size <= hills.potterCount; size++) {
            for (int set = 0; set < sets; set++) {
                if (Integer.bitCount(set) == size && isAvoidedBy(set, colour, n)) {
                    return set;
                }
            }
        }
        return finding(NONE);
    }

    private boolean isAvoidedBy(int set, int colour, int n) {
        trial.become(hills);
        trial.keepIn(set);
        trial.passDays(n);
        return (trial.coloursOfPots() >> colour & 1) == 0;
    }

    // ---- told colours

    public int fits(int s, int potter) {
        int fault = toldFault(s, potter);
        if (fault != FINE) {
            return finding(fault);
        }
        int fitting = 0;
        for (int grief = 0; grief <= MOST_GRIEF; grief++) {
            if (isAsTold(sheets[s], potter, 1, grief)) {
                fitting++;
            }
        }
        return fitting;
    }

    public int grief(int s, int potter) {
        int fault = toldFault(s, potter);
        if (fault != FINE) {
            return finding(fault);
        }
        for (int grief = 0; grief <= MOST_GRIEF; grief++) {
            if (isAsTold(sheets[s], potter, 1, grief)) {
                return grief;
            }
        }
        return finding(NONE);
    }

    public int kinds(int s, int potter) {
        int fault = toldFault(s, potter);
        if (fault != FINE) {
            return finding(fault);
        }
        int set = 0;
        for (int kind = 0; kind < KINDS; kind++) {
            if (isAsTold(sheets[s], potter, 0, kind)) {
                set |= 1 << kind;
            }
        }
        return set;
    }

    private int toldFault(int s, int potter) {
        int fault = sheetFault(s);
        if (fault != FINE) {
            return fault;
        }
        return isPotter(potter) ? FINE : BEYOND;
    }

    /** Whether COLOURS would be as told, if KIND (what 0) or GRIEF (1) of a POTTER were v now. */
    private boolean isAsTold(Sheet told, int potter, int what, int v) {
        trial.become(hills);
        trial.potters[potter].put(what, v);
        int asked = Math.min(told.length, ASKED_WEEKS);
        for (int week = 0; week < asked; week++) {
            if (week > 0) {
                trial.passDays(WEEK);
            }
            int colour = told.numbers[week];
            if (colour != ANY_COLOUR && colour != trial.potters[potter].colour) {
                return false;
            }
        }
        return true;
    }

    // ---- storms

    public int storms(int n) {
        if (n < 1 || n > 20) {
            return finding(BEYOND);
        }
        if (hills.day > MOST_DAY - n) {
            return finding(STATE);
        }
        for (int i = 0; i < n; i++) {
            hills.storm();
        }
        return hills.takings;
    }

    public long odds(int potter, int n, int what) {
        if (!isPotter(potter) || !isWithin(n, 9) || !isWithin(what, 1)) {
            return finding(BEYOND);
        }
        int enough = hills.enoughWeathers(hills.potters[potter]);
        long part = inLowestTerms(what == 0 ? enough : WEATHERS, enough);
        long odds = 1;
        for (int i = 0; i < n; i++) {
            odds *= part;
        }
        return odds;
    }

    /** A part of the fraction of enough WEATHERS among all; its powers stay in lowest terms. */
    private static int inLowestTerms(int part, int enough) {
        for (int d = WEATHERS; d > 1; d--) {
            if (enough % d == 0 && WEATHERS % d == 0) {
                return part / d;
            }
        }
        return part;
    }

    public int seed(int v) {
        int was = hills.z;
        hills.z = v;
        return was;
    }

    // ---- texts

    public int feed(int bytes, int n) {
        if (n < 1 || n > 4) {
            return finding(BEYOND);
        }
        if (reader.length > TAPE_BYTES - n) {
            return finding(FULL);
        }
        for (int shift = 8 * (n - 1); shift >= 0; shift -= 8) {
            reader.put(bytes >>> shift);
        }
        return reader.length;
    }

    public int wipe() {
        int had = reader.length;
        reader.length = 0;
        return had;
    }

    public int text() {
        trial.become(hills);
        int answer = reader.readInto(trial);
        reader.length = 0;
        if (answer >= 0) {
            hills.become(trial);
        }
        return answer;
    }

    // ---- spots, sheets

    public int hold(int spot, int potter) {
        if (!isWithin(spot, SPOTS - 1) || potter != NOTHING && !isPotter(potter)) {
            return finding(BEYOND);
        }
        hills.spots[spot] = potter;
        return 1;
    }

    public int as(int spot, int kind) {
        if (!isWithin(spot, SPOTS - 1) || !isWithin(kind, KINDS - 1)) {
            return finding(BEYOND);
        }
        int potter = hills.spots[spot];
        if (!isPotter(potter)) {
            return finding(MISSING);
        }
        if (!hills.potters[potter].isUnder(kind)) {
            return finding(KIND);
        }
        return potter;
    }

    public int sheet(int s, int bits, int n) {
        boolean isWidth = bits == 0 || bits == 8 || bits == 16 || bits == 32;
        if (!isWithin(s, SHEETS - 1) || !isWidth) {
            return finding(BEYOND);
        }
        if (n < 0) {
            return finding(SIZE);
        }
        if (n > SHEET_NUMBERS) {
            return finding(BEYOND);
        }
        int length = bits == 0 ? 0 : n;
        sheets[s].begin(bits, length);
        return length;
    }

    public int write(int s, int i, int v) {
        int fault = sheetFault(s);
        if (fault != FINE) {
            return finding(fault);
        }
        if (i < 0 || i >= sheets[s].length) {
            return finding(BEYOND);
        }
        sheets[s].put(i, v);
        return 1;
    }

    public int copy(int s, int from, int t, int to, int n) {
        if (!isWithin(s, SHEETS - 1) || !isWithin(t, SHEETS - 1)) {
            return finding(BEYOND);
        }
        Sheet source = sheets[s];
        Sheet target = sheets[t];
        if (source.bits == 0 || target.bits == 0) {
            return finding(MISSING);
        }
        if (source.bits != target.bits) {
            return finding(KIND);
        }
        if (!source.has(from, n) || !target.has(to, n)) {
            return finding(BEYOND);
        }
        System.arraycopy(source.numbers, from, target.numbers, to, n);
        return n;
    }

    public int load(int s) {
        int fault = sheetFault(s);
        if (fault != FINE) {
            return finding(fault);
        }
        Sheet told = sheets[s];
        int came = 0;
        while (came < PLACES && came < told.length && isWithin(told.numbers[came], MOST_WEATHER)) {
            hills.list[came] = told.numbers[came];
            came++;
        }
        return came;
    }

    public int judge(int s) {
        int fault = sheetFault(s);
        if (fault != FINE) {
            return finding(fault);
        }
        Sheet told = sheets[s];
        for (int i = 0; i < told.length; i++) {
            if (!isPotter(i) || hills.potters[i].colour != told.numbers[i]) {
                return 1 + i;
            }
        }
        return 0;
    }

    // ---- images

    public int image() {
        kept.become(hills);
        isKept = true;
        return 1;
    }

    public int undo() {
        if (!isKept) {
            return finding(NONE);
        }
        hills.become(kept);
        return hills.day;
    }

    public int tear() {
        int was = isKept ? 1 : 0;
        isKept = false;
        return was;
    }

    public int count(int what) {
        switch (what) {
            case 0: return hills.day;
            case 1: return hills.potterCount;
            case 2: return hills.takings;
            case 3: return hills.allPots();
            case 4: return hills.allCracked();
            case 5: return reader.length;
            case 6: return hills.z;
            case 7: return hills.heldSpots();
            default: return finding(BEYOND);
        }
    }

    public int status(int which) {
        if (which == -1) {
            int all = 0;
            for (int i = 0; i < FINDINGS; i++) {
                all += found[i];
            }
            return all;
        }
        if (!isWithin(which, FINDINGS - 1)) {
            return finding(BEYOND);
        }
        return found[which];
    }

    // ---- what the acts share

    private int finding(int which) {
        found[which]++;
        return LOW - which;
    }

    private static boolean isWithin(int v, int most) {
        return v >= 0 && v <= most;
    }

    private boolean isPotter(int potter) {
        return potter >= 0 && potter < hills.potterCount;
    }

    private int sheetFault(int s) {
        if (!isWithin(s, SHEETS - 1)) {
            return BEYOND;
        }
        return sheets[s].bits == 0 ? MISSING : FINE;
    }

    private static int mostOf(int what) {
        switch (what) {
            case 0: return KINDS - 1;
            case 1: return MOST_GRIEF;
            case 2: return MOST_HOURS;
            case 3: return MOST_RUN;
            case 4: return MOST_COLOUR;
            default: return MOST_POTS;
        }
    }

    /** All that an image keeps. */
    private static final class Hills {
        final int[] list = new int[PLACES];
        final Potter[] potters = new Potter[POTTERS];
        final int[] spots = new int[SPOTS];
        int potterCount = 0;
        int onionsLeft = 0;
        int takings = 0;
        int day = 0;
        int z = 1;

        Hills() {
            for (int p = 0; p < POTTERS; p++) {
                potters[p] = new Potter();
            }
            for (int spot = 0; spot < SPOTS; spot++) {
                spots[spot] = NOTHING;
            }
        }

        void become(Hills other) {
            System.arraycopy(other.list, 0, list, 0, PLACES);
            System.arraycopy(other.spots, 0, spots, 0, SPOTS);
            potterCount = other.potterCount;
            for (int p = 0; p < potterCount; p++) {
                potters[p].become(other.potters[p]);
            }
            onionsLeft = other.onionsLeft;
            takings = other.takings;
            day = other.day;
            z = other.z;
        }

        boolean isFull() {
            return potterCount >= POTTERS;
        }

        /** Only where the hills aren't full. */
        int addPotter(int kind, int grief) {
            int p = potterCount;
            potters[p].begin(kind, grief);
            potterCount++;
            return p;
        }

        int weatherOfDay() {
            return list[day % PLACES];
        }

        void passDays(int n) {
            for (int i = 0; i < n; i++) {
                passDay();
            }
        }

        void passDay() {
            int weather = weatherOfDay();
            for (int p = 0; p < potterCount; p++) {
                gather(potters[p], weather);
            }
            if (day % WEEK == FIRING_DAY) {
                for (int p = 0; p < potterCount; p++) {
                    fire(potters[p]);
                }
            }
            day = Math.min(day + 1, MOST_DAY);
        }

        private void gather(Potter one, int weather) {
            int more = one.cries(onionsLeft) + one.weathers(weather);
            one.run = Math.min(one.run + more, MOST_RUN);
            one.grief = Math.max(one.grief - one.heals(), 0);
            if (one.kind == YOUNG && onionsLeft > 0) {
                onionsLeft--;
            }
        }

        private void fire(Potter one) {
            if (one.isReady()) {
                one.colour = one.tint();
                one.pots = Math.min(one.pots + 1, MOST_POTS);
                takings = Math.min(takings + one.fetches(), MOST_SOLD);
            } else {
                one.cracked = Math.min(one.cracked + 1, MOST_POTS);
                one.grief = Math.min(one.grief + CRACK_GRIEF, MOST_GRIEF);
            }
            one.run = 0;
        }

        void storm() {
            list[day % PLACES] = draw() % WEATHERS;
            int p = draw() % POTTERS;
            if (p < potterCount) {
                potters[p].hours = MOST_HOURS;
            }
            passDay();
        }

        private int draw() {
            z = z * 1103515245 + 12345;
            return z >>> 8;
        }

        /** How many WEATHERS, with CRIES, make all the RUN that one NEEDS in a DAY. */
        int enoughWeathers(Potter one) {
            int lacking = one.needs() - one.cries(onionsLeft);
            int enough = 0;
            for (int weather = 0; weather < WEATHERS; weather++) {
                if (one.weathers(weather) >= lacking) {
                    enough++;
                }
            }
            return enough;
        }

        void keepIn(int set) {
            for (int p = 0; p < potterCount; p++) {
                if ((set >> p & 1) == 1) {
                    potters[p].hours = 0;
                }
            }
        }

        int allPots() {
            int all = 0;
            for (int p = 0; p < potterCount; p++) {
                all += potters[p].pots;
            }
            return all;
        }

        int allCracked() {
            int all = 0;
            for (int p = 0; p < potterCount; p++) {
                all += potters[p].cracked;
            }
            return all;
        }

        int coloursOfPots() {
            int set = 0;
            for (int p = 0; p < potterCount; p++) {
                if (potters[p].pots > 0) {
                    set |= 1 << potters[p].colour;
                }
            }
            return set;
        }

        int readyPotters() {
            int set = 0;
            for (int p = 0; p < potterCount; p++) {
                if (potters[p].isReady()) {
                    set |= 1 << p;
                }
            }
            return set;
        }

        int wettestPotter() {
            int wettest = NOTHING;
            int most = -1;
            for (int p = 0; p < potterCount; p++) {
                if (potters[p].run > most) {
                    most = potters[p].run;
                    wettest = p;
                }
            }
            return wettest;
        }

        int heldSpots() {
            int held = 0;
            for (int spot = 0; spot < SPOTS; spot++) {
                if (spots[spot] != NOTHING) {
                    held++;
                }
            }
            return held;
        }
    }

    /** One POTTER; its KIND is a number, as it can change. */
    private static final class Potter {
        int kind = POTTER;
        int grief = FIRST_GRIEF;
        int hours = FIRST_HOURS;
        int run = 0;
        int colour = 0;
        int pots = 0;
        int cracked = 0;

        Potter() {
        }

        void begin(int newKind, int newGrief) {
            kind = newKind;
            grief = newGrief;
            hours = FIRST_HOURS;
            run = 0;
            colour = 0;
            pots = 0;
            cracked = 0;
        }

        void become(Potter other) {
            kind = other.kind;
            grief = other.grief;
            hours = other.hours;
            run = other.run;
            colour = other.colour;
            pots = other.pots;
            cracked = other.cracked;
        }

        int told(int what) {
            switch (what) {
                case 0: return kind;
                case 1: return grief;
                case 2: return hours;
                case 3: return run;
                case 4: return colour;
                case 5: return pots;
                default: return cracked;
            }
        }

        void put(int what, int v) {
            switch (what) {
                case 0: kind = v; break;
                case 1: grief = v; break;
                case 2: hours = v; break;
                case 3: run = v; break;
                case 4: colour = v; break;
                case 5: pots = v; break;
                default: cracked = v; break;
            }
        }

        int cries(int onions) {
            int plain = grief / 10;
            switch (kind) {
                case YOUNG: return onions > 0 ? plain + 3 : plain;
                case OLD: return 2 * plain;
                case WIDOWER: return 2 * plain + 2;
                case ABEL: return pots >= 50 ? 0 : 2 * plain + 2;
                case STONE: return 0;
                case LAD: return 0;
                default: return plain;
            }
        }

        int weathers(int weather) {
            int rain = weather / 10;
            int sun = weather % 10;
            int plain = hours * rain / 2 + (hours > 0 ? sun : 0);
            switch (kind) {
                case OLD: return plain / 2;
                case WIDOWER: return plain / 2;
                case ABEL: return plain / 2;
                case STONE: return plain > sun ? plain - sun : 0;
                case LAD: return rain >= 8 ? 2 * plain : plain;
                default: return plain;
            }
        }

        int needs() {
            switch (kind) {
                case YOUNG: return 30;
                case OLD: return 50;
                case WIDOWER: return 50;
                case ABEL: return 30;
                case STONE: return 60;
                case LAD: return 50;
                default: return 40;
            }
        }

        boolean isReady() {
            return run >= needs();
        }

        int tint() {
            int plain = run / 10 % 8;
            switch (kind) {
                case OLD: return (plain + 3) % 8;
                case WIDOWER: return (plain + 3) % 8;
                case ABEL: return grief >= 50 ? 1 : 0;
                case LAD: return run >= 100 ? 7 : plain;
                default: return plain;
            }
        }

        int fetches() {
            switch (kind) {
                case YOUNG: return 5;
                case OLD: return 20 + colour;
                case WIDOWER: return 20 + colour;
                case ABEL: return 3 * (20 + colour);
                case STONE: return 1 + colour;
                case LAD: return colour == 7 ? 100 : 10;
                default: return 10 + colour;
            }
        }

        int heals() {
            switch (kind) {
                case YOUNG: return 2;
                case WIDOWER: return 0;
                case ABEL: return 0;
                case STONE: return 5;
                case LAD: return 2;
                default: return 1;
            }
        }

        boolean hasPotOf(int asked) {
            return pots > 0 && colour == asked;
        }

        boolean isUnder(int asked) {
            int above = kind;
            for (int level = 0; level < KINDS && above != NOTHING; level++) {
                if (above == asked) {
                    return true;
                }
                above = kindAbove(above);
            }
            return false;
        }

        private static int kindAbove(int kind) {
            switch (kind) {
                case YOUNG: return POTTER;
                case OLD: return POTTER;
                case STONE: return POTTER;
                case WIDOWER: return OLD;
                case ABEL: return WIDOWER;
                case LAD: return YOUNG;
                default: return NOTHING;
            }
        }
    }

    /** A SHEET; its row is made once, for the most numbers. */
    private static final class Sheet {
        final int[] numbers = new int[SHEET_NUMBERS];
        // 0: the sheet is MISSING.
        int bits = 0;
        int length = 0;

        Sheet() {
        }

        void begin(int newBits, int newLength) {
            bits = newBits;
            length = newLength;
            for (int i = 0; i < SHEET_NUMBERS; i++) {
                numbers[i] = 0;
            }
        }

        /** Only where there is a number i. The number keeps its sign, so that -1 can be told. */
        void put(int i, int v) {
            switch (bits) {
                case 8: numbers[i] = (byte) v; break;
                case 16: numbers[i] = (short) v; break;
                default: numbers[i] = v; break;
            }
        }

        /** The difference can't overflow, as a sum of from and n could. */
        boolean has(int from, int n) {
            return from >= 0 && n >= 0 && n <= length && from <= length - n;
        }
    }

    /** THE TAPE, and the reading of a TEXT from it. */
    private static final class Reader {
        private static final int END = 0;
        private static final int WORD = 1;
        private static final int NUMBER = 2;
        private static final int SIGN = 3;
        private static final int STRANGE = 4;
        private static final int FAULTY = -1;

        final byte[] tape = new byte[TAPE_BYTES];
        int length = 0;
        // The TOKEN that is looked at: its sort, its first byte, the byte behind it, its value.
        private int sort = END;
        private int start = 0;
        private int end = 0;
        private int value = 0;

        Reader() {
        }

        void put(int b) {
            if (length < TAPE_BYTES) {
                tape[length] = (byte) b;
                length++;
            }
        }

        /** How many ITEMS came into the hills, or -1 less the FAULT (the hills are spoilt then). */
        int readInto(Hills hills) {
            end = 0;
            step();
            for (int items = 1; items <= TAPE_BYTES; items++) {
                if (!readItem(hills)) {
                    break;
                }
                if (sort == END) {
                    return items;
                }
                if (sort != SIGN) {
                    break;
                }
                step();
            }
            return -1 - start;
        }

        /** Where this and its like answer false, the TOKEN that is looked at is the FAULT. */
        private boolean readItem(Hills hills) {
            if (isWord("weather")) {
                return readWeather(hills);
            }
            if (isWord("onions")) {
                return readOnions(hills);
            }
            int kind = kindOfWord();
            if (kind == NOTHING || hills.isFull()) {
                return false;
            }
            step();
            return readDetails(hills.potters[hills.addPotter(kind, FIRST_GRIEF)]);
        }

        private boolean readWeather(Hills hills) {
            step();
            int place = takeNumber(PLACES - 1);
            if (place == FAULTY) {
                return false;
            }
            int rain = takeNumber(9);
            if (rain == FAULTY) {
                return false;
            }
            int sun = takeNumber(9);
            if (sun == FAULTY) {
                return false;
            }
            hills.list[place] = 10 * rain + sun;
            return true;
        }

        private boolean readOnions(Hills hills) {
            step();
            int many = takeNumber(MOST_ONIONS);
            if (many == FAULTY) {
                return false;
            }
            hills.onionsLeft = many;
            return true;
        }

        /** GRIEF, HOURS and RUN have the numbers of of(), and stand in their order. */
        private boolean readDetails(Potter one) {
            for (int what = 1; what <= 3; what++) {
                if (isWord(wordOfDetail(what))) {
                    step();
                    int told = takeNumber(mostOf(what));
                    if (told == FAULTY) {
                        return false;
                    }
                    one.put(what, told);
                }
            }
            return true;
        }

        private int takeNumber(int most) {
            if (sort != NUMBER || value > most) {
                return FAULTY;
            }
            int taken = value;
            step();
            return taken;
        }

        private int kindOfWord() {
            for (int kind = 0; kind < KINDS; kind++) {
                if (isWord(wordOfKind(kind))) {
                    return kind;
                }
            }
            return NOTHING;
        }

        private static String wordOfKind(int kind) {
            switch (kind) {
                case YOUNG: return "young";
                case OLD: return "old";
                case WIDOWER: return "widower";
                case ABEL: return "abel";
                case STONE: return "stone";
                case LAD: return "lad";
                default: return "potter";
            }
        }

        private static String wordOfDetail(int what) {
            switch (what) {
                case 1: return "grief";
                case 2: return "hours";
                default: return "run";
            }
        }

        private boolean isWord(String name) {
            if (sort != WORD || end - start != name.length()) {
                return false;
            }
            for (int i = 0; i < name.length(); i++) {
                if (tape[start + i] != name.charAt(i)) {
                    return false;
                }
            }
            return true;
        }

        private void step() {
            start = end;
            while (start < length && tape[start] == ' ') {
                start++;
            }
            end = start;
            value = 0;
            sort = start < length ? sortOf(tape[start]) : END;
            boolean isOfMany = sort == WORD || sort == NUMBER;
            while (end < length && (end == start || isOfMany && sortOf(tape[end]) == sort)) {
                if (sort == NUMBER) {
                    // A number above every limit stays above: many digits must not wrap around.
                    value = Math.min(10 * value + (tape[end] - '0'), MOST_RUN + 1);
                }
                end++;
            }
        }

        private static int sortOf(byte b) {
            if (b >= 'a' && b <= 'z') {
                return WORD;
            }
            if (b >= '0' && b <= '9') {
                return NUMBER;
            }
            return b == ';' ? SIGN : STRANGE;
        }
    }
}
