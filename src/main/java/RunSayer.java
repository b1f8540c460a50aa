/**
 * A city learnt by heart: its ways and doors, the runs that are said between the doors, the pupils
 * who ride them, and the exams that they sit. The numbered promises of DOC.md tell every answer.
 */
public final class RunSayer {
    public static final int NONE = -1, BAD = -2, STATE = -3, FULL = -4;
    public static final long NO = -4611686018427387904L;

    private static final int NOTHING_THERE = -11, OUTSIDE = -12, OTHER_SORT = -13, BELOW_ZERO = -14;
    private static final int LAST_DAY = 299, FARTHEST_DAY = 2000;
    private static final int MOST_RUNS = 10, MOST_PUPILS = 4, MOST_RULES = 6, MOST_EXAMS = 24;
    private static final long MOST_BOUND = 2147483647L;
    private static final int SHEETS = 4, MOST_PLANNED = 4, MOST_AT_ONCE = 30;

    private final City city;
    private final Ledger ledger;
    private final Finder finder;
    private final Links links;
    private final Tape tape;
    private final Speech speech;
    private final Route found;
    private final Route[] scratch;
    private final Route[] said;
    private int saidCount;
    private final Pupil[] pupils;
    private int pupilCount;
    private final Rule[] rules;
    private int ruleCount;
    private final Exam[] exams;
    private int examCount;
    private final Sheet[] sheets;
    private final int[] planRow;
    private int planLength;
    private int takenCount;

    public RunSayer() {
        city = new City();
        ledger = new Ledger();
        finder = new Finder(city, ledger);
        links = new Links();
        tape = new Tape();
        speech = new Speech();
        found = new Route();
        scratch = new Route[MOST_PUPILS];
        pupils = new Pupil[MOST_PUPILS];
        for (int i = 0; i < MOST_PUPILS; i++) {
            scratch[i] = new Route();
            pupils[i] = new Pupil();
        }
        said = new Route[MOST_RUNS];
        for (int i = 0; i < MOST_RUNS; i++) {
            said[i] = new Route();
        }
        rules = new Rule[MOST_RULES];
        for (int i = 0; i < MOST_RULES; i++) {
            rules[i] = new Rule();
        }
        exams = new Exam[MOST_EXAMS];
        for (int i = 0; i < MOST_EXAMS; i++) {
            exams[i] = new Exam();
        }
        sheets = new Sheet[SHEETS];
        for (int i = 0; i < SHEETS; i++) {
            sheets[i] = new Sheet();
        }
        planRow = new int[MOST_PLANNED];
    }

    // ---- the city

    public int junction(int x, int y, int ring) {
        if (outside(x, 0, 99) || outside(y, 0, 99) || noBit(ring)) {
            return BAD;
        }
        return city.addJunction(x, y, ring);
    }

    public int ring(int j, int is) {
        if (outside(j, 0, city.junctionCount - 1)) {
            return NONE;
        }
        if (noBit(is)) {
            return BAD;
        }
        int was = city.rings[j];
        city.rings[j] = is;
        return was;
    }

    public int way(int kind, int a, int b, int feet, int one) {
        if (outside(a, 0, city.junctionCount - 1) || outside(b, 0, city.junctionCount - 1)) {
            return NONE;
        }
        if (outside(kind, 0, City.TOLL) || a == b || outside(feet, 2, 999) || noBit(one)) {
            return BAD;
        }
        return city.addWay(kind, a, b, feet, one);
    }

    public int door(int way, int feet, int side) {
        if (noWay(way)) {
            return NONE;
        }
        if (outside(feet, 1, city.wayFeet[way] - 1) || noBit(side)) {
            return BAD;
        }
        return city.addDoor(way, feet, side);
    }

    public int about(int way, int what, int hour) {
        if (noWay(way)) {
            return NONE;
        }
        if (outside(what, 0, 6) || noHour(hour)) {
            return BAD;
        }
        return city.tellWay(way, what, hour);
    }

    public int taken(int thing, int sort) {
        if (outside(sort, 0, 8)) {
            return BAD;
        }
        takenCount++;
        if (outside(thing, 0, city.thingCount - 1)) {
            return NOTHING_THERE;
        }
        return city.takeThing(thing, sort);
    }

    public int name(int way, long word) {
        if (noWay(way)) {
            return NONE;
        }
        if (!Ledger.isWord(word)) {
            return BAD;
        }
        return ledger.addName(way, word);
    }

    public int answers(int way, long word, int known) {
        if (noWay(way)) {
            return NONE;
        }
        if (!Ledger.isWord(word) || notKnown(known)) {
            return BAD;
        }
        return ledger.answersTo(way, word, known) ? 1 : 0;
    }

    public int shut(int way, int from, int to) {
        if (noWay(way)) {
            return NONE;
        }
        if (from < 0 || to > LAST_DAY + 1 || from >= to) {
            return BAD;
        }
        return ledger.addShut(way, from, to);
    }

    public int wasShut(int way, int day, int known) {
        if (noWay(way)) {
            return NONE;
        }
        if (outside(day, 0, LAST_DAY) || notKnown(known)) {
            return BAD;
        }
        return ledger.isShut(way, day, known) ? 1 : 0;
    }

    public int ban(int from, int to, int hours, int days) {
        if (noLeg(from) || noLeg(to)) {
            return NONE;
        }
        int first = hours / 100, behind = hours % 100;
        if (noHour(first) || outside(behind, first + 1, 24) || outside(days, 1, 127)) {
            return BAD;
        }
        if (!city.follows(from, to)) {
            return STATE;
        }
        return ledger.addBan(from, to, first, behind, days);
    }

    public int pass(int n) {
        if (outside(n, 1, 100)) {
            return BAD;
        }
        if (ledger.today + n > LAST_DAY) {
            return FULL;
        }
        ledger.today += n;
        return ledger.today;
    }

    public int turn(int e, int f) {
        if (noLeg(e) || noLeg(f)) {
            return NONE;
        }
        if (!city.follows(e, f)) {
            return STATE;
        }
        return city.howTurned(e, f);
    }

    public int drivable(int e, int day, int hour, int known) {
        if (noLeg(e)) {
            return NONE;
        }
        if (outside(day, 0, LAST_DAY) || noHour(hour) || notKnown(known)) {
            return BAD;
        }
        return city.isPassable(e, hour) && !ledger.isShut(e >> 1, day, known) ? 1 : 0;
    }

    // ---- runs

    public int best(int a, int b, int hour, int by) {
        if (noDoors(a, b)) {
            return NONE;
        }
        if (a == b || noHour(hour) || noBit(by)) {
            return BAD;
        }
        finder.setCity(ledger.today, hour, ledger.today);
        return finder.findBest(found, a, b, by == 1);
    }

    public int bestOn(int a, int b, int days, int hour, int by) {
        if (noDoors(a, b)) {
            return NONE;
        }
        int day = days / 1000, known = days % 1000;
        if (a == b || outside(day, 0, LAST_DAY) || notKnown(known) || noHour(hour) || noBit(by)) {
            return BAD;
        }
        finder.setCity(day, hour, known);
        return finder.findBest(found, a, b, by == 1);
    }

    public int leg(int i) {
        return outside(i, 0, found.length - 1) ? NONE : found.legs[i];
    }

    public long cost(int what) {
        if (noBit(what)) {
            return NO;
        }
        return what == 0 ? found.twists : found.feet;
    }

    public int prove(int a, int b, int hour) {
        if (noDoors(a, b)) {
            return NONE;
        }
        if (a == b || noHour(hour)) {
            return BAD;
        }
        finder.setCity(ledger.today, hour, ledger.today);
        int size = city.legCount();
        sheets[0].become(Sheet.INTS, size);
        finder.writeProof(sheets[0].cells, a, b);
        return size;
    }

    public int bound(int a, int b, int hour, int sheet) {
        if (noDoors(a, b)) {
            return NONE;
        }
        if (a == b || noHour(hour) || noSheet(sheet)) {
            return BAD;
        }
        Sheet proof = sheets[sheet];
        if (proof.sort == Sheet.MISSING) {
            return NOTHING_THERE;
        }
        if (proof.sort != Sheet.INTS) {
            return OTHER_SORT;
        }
        if (proof.length != city.legCount()) {
            return OUTSIDE;
        }
        finder.setCity(ledger.today, hour, ledger.today);
        int wrong = finder.firstWrong(proof.cells, b);
        if (wrong >= 0) {
            return -100 - wrong;
        }
        long least = finder.leastByProof(proof.cells, a, b);
        return least == Finder.FAR ? NONE : (int) Math.min(least, MOST_BOUND);
    }

    public int feed(long w, int n) {
        if (outside(n, 1, 8)) {
            return BAD;
        }
        if (tape.length + n > Tape.MOST) {
            return FULL;
        }
        tape.append(w, n);
        return tape.length;
    }

    public int wipe() {
        int had = tape.length;
        tape.clear();
        return had;
    }

    public int say(int a, int b, int hour) {
        if (noDoors(a, b)) {
            return NONE;
        }
        if (a == b || noHour(hour)) {
            return BAD;
        }
        if (saidCount >= MOST_RUNS) {
            return FULL;
        }
        int fault = speech.readFrom(tape);
        tape.clear();
        if (fault >= 0) {
            return -100 - fault;
        }
        finder.setCity(ledger.today, hour, ledger.today);
        Route route = said[saidCount];
        route.begin(a, b);
        route.setTime(ledger.today, hour);
        int why = finder.driveSpeech(speech, route);
        if (why != 0) {
            return -1000 - why;
        }
        finder.measure(route);
        links.addRun(saidCount, route);
        saidCount++;
        return saidCount - 1;
    }

    public int run(int r, int i) {
        if (outside(r, 0, saidCount - 1)) {
            return NONE;
        }
        if (outside(i, -1, said[r].length - 1)) {
            return BAD;
        }
        return i < 0 ? said[r].length : said[r].legs[i];
    }

    public int runTold(int r, int what) {
        if (outside(r, 0, saidCount - 1)) {
            return NONE;
        }
        switch (what) {
            case 0: return said[r].from;
            case 1: return said[r].to;
            case 2: return said[r].day;
            case 3: return said[r].hour;
            case 4: return said[r].feet;
            case 5: return said[r].twists;
            default: return BAD;
        }
    }

    // ---- pupils

    public int pupil(int keeps) {
        if (outside(keeps, 1, 30)) {
            return BAD;
        }
        if (pupilCount >= MOST_PUPILS) {
            return FULL;
        }
        pupils[pupilCount].keeps = keeps;
        pupilCount++;
        return pupilCount - 1;
    }

    public int ride(int p, int r) {
        if (noPupil(p) || outside(r, 0, saidCount - 1)) {
            return NONE;
        }
        links.rideRun(pupils[p], r, ledger.today);
        return links.heldCount(pupils[p], ledger.today);
    }

    public int holds(int p, int e, int f, int day) {
        if (noPupil(p) || noLeg(e) || noLeg(f)) {
            return NONE;
        }
        if (outside(day, ledger.today, FARTHEST_DAY)) {
            return BAD;
        }
        int link = links.numberOf(e, f);
        return link >= 0 && pupils[p].isHeld(link, day) ? 1 : 0;
    }

    public int knows(int p, int day) {
        if (noPupil(p)) {
            return NONE;
        }
        if (outside(day, ledger.today, FARTHEST_DAY)) {
            return BAD;
        }
        return links.heldCount(pupils[p], day);
    }

    public int wouldSay(int p, int a, int b, int hour) {
        if (noPupil(p) || noDoors(a, b)) {
            return NONE;
        }
        if (a == b || noHour(hour)) {
            return BAD;
        }
        finder.setHour(hour);
        return sayByHeart(found, p, a, b);
    }

    public int plan(int p, int set, int n, int day) {
        if (noPupil(p) || (set >> saidCount) != 0) {
            return NONE;
        }
        if (outside(Integer.bitCount(set), 1, 4) || outside(n, 1, MOST_PLANNED)
                || outside(day, ledger.today + n - 1, FARTHEST_DAY)) {
            return BAD;
        }
        links.gather(set);
        planLength = n;
        return links.planRides(pupils[p], planRow, n, ledger.today, day);
    }

    public int planned(int i) {
        return outside(i, 0, planLength - 1) ? NONE : planRow[i];
    }

    public int parting(int set, int hour) {
        if (set == 0 || (set >> pupilCount) != 0) {
            return NONE;
        }
        if (noHour(hour)) {
            return BAD;
        }
        finder.setHour(hour);
        int least = Integer.bitCount(set), parts = STATE;
        for (int a = 0; a < city.doorCount; a++) {
            for (int b = 0; b < city.doorCount && least > 1; b++) {
                int alike = a == b ? least : mostAlike(set, a, b);
                if (alike < least) {
                    least = alike;
                    parts = 10 * a + b;
                }
            }
        }
        return parts;
    }

    // ---- exams

    public int rule() {
        if (ruleCount >= MOST_RULES) {
            return FULL;
        }
        int fault = rules[ruleCount].readFrom(tape);
        tape.clear();
        if (fault >= 0) {
            return -100 - fault;
        }
        ruleCount++;
        return ruleCount - 1;
    }

    public int ask(int p, int a, int b, int hour) {
        if (noPupil(p) || noDoors(a, b)) {
            return NONE;
        }
        if (a == b || noHour(hour)) {
            return BAD;
        }
        if (examCount >= MOST_EXAMS) {
            return FULL;
        }
        Exam exam = exams[examCount];
        exam.pupil = p;
        finder.setHour(hour);
        sayByHeart(exam.said, p, a, b);
        exam.said.setTime(ledger.today, hour);
        markExam(exam);
        examCount++;
        return examCount - 1;
    }

    public int examTold(int k, int what) {
        if (outside(k, 0, examCount - 1)) {
            return NONE;
        }
        switch (what) {
            case 0: return exams[k].pupil;
            case 1: return exams[k].said.from;
            case 2: return exams[k].said.to;
            case 3: return exams[k].said.day;
            case 4: return exams[k].said.hour;
            case 5: return exams[k].mark;
            case 6: return exams[k].said.length;
            case 7: return exams[k].markedBy;
            default: return BAD;
        }
    }

    public int appeal(int k) {
        if (outside(k, 0, examCount - 1)) {
            return NONE;
        }
        int was = exams[k].mark;
        markExam(exams[k]);
        return exams[k].mark - was;
    }

    public int count(int what) {
        switch (what) {
            case 0: return city.junctionCount;
            case 1: return city.wayCount;
            case 2: return city.doorCount;
            case 3: return ledger.today;
            case 4: return ledger.nameCount;
            case 5: return ledger.shutCount;
            case 6: return ledger.banCount;
            case 7: return saidCount;
            case 8: return pupilCount;
            case 9: return examCount;
            case 10: return ruleCount;
            case 11: return tape.length;
            case 12: return takenCount;
            case 13: return city.thingCount;
            default: return BAD;
        }
    }

    // ---- the host

    public int sheet(int s, int sort, int n) {
        if (noSheet(s) || outside(sort, Sheet.MISSING, Sheet.INTS)) {
            return BAD;
        }
        if (sort == Sheet.MISSING) {
            sheets[s].become(Sheet.MISSING, 0);
            return 1;
        }
        if (n > Sheet.MOST) {
            return BAD;
        }
        if (n < 0) {
            return BELOW_ZERO;
        }
        sheets[s].become(sort, n);
        return 1;
    }

    public int cell(int s, int i, int v) {
        if (noSheet(s)) {
            return BAD;
        }
        if (sheets[s].sort == Sheet.MISSING) {
            return NOTHING_THERE;
        }
        if (outside(i, 0, sheets[s].length - 1)) {
            return OUTSIDE;
        }
        sheets[s].put(i, v);
        return 1;
    }

    public int read(int s, int i) {
        if (noSheet(s)) {
            return BAD;
        }
        return outside(i, 0, sheets[s].length - 1) ? 0 : sheets[s].cells[i];
    }

    public int copy(int s, int i, int other, int j, int n) {
        if (noSheet(s) || noSheet(other)) {
            return BAD;
        }
        Sheet source = sheets[s], target = sheets[other];
        if (source.sort == Sheet.MISSING || target.sort == Sheet.MISSING) {
            return NOTHING_THERE;
        }
        if (source.sort != target.sort) {
            return OTHER_SORT;
        }
        if (!source.hasRow(i, n) || !target.hasRow(j, n)) {
            return OUTSIDE;
        }
        System.arraycopy(source.cells, i, target.cells, j, n);
        return n;
    }

    public int junctions(int s, int sort, int from, int n) {
        if (noSheet(s) || outside(sort, 0, Sheet.INTS) || outside(n, 0, MOST_AT_ONCE)) {
            return BAD;
        }
        Sheet row = sheets[s];
        if (row.sort == Sheet.MISSING) {
            return NOTHING_THERE;
        }
        if (row.sort != sort) {
            return OTHER_SORT;
        }
        int came = 0;
        for (int k = 0; k < n; k++) {
            // from may stand so far out that from + 3 k would wrap around
            if (from < 0 || from > Sheet.MOST || !row.hasRow(from + 3 * k, 3)) {
                return OUTSIDE;
            }
            int at = from + 3 * k;
            if (junction(row.cells[at], row.cells[at + 1], row.cells[at + 2]) >= 0) {
                came++;
            }
        }
        return came;
    }

    // ---- what several calls share

    private static boolean outside(int value, int least, int most) {
        return value < least || value > most;
    }

    private static boolean noBit(int value) {
        return outside(value, 0, 1);
    }

    private static boolean noHour(int hour) {
        return outside(hour, 0, 23);
    }

    private static boolean noSheet(int s) {
        return outside(s, 0, SHEETS - 1);
    }

    private boolean noWay(int way) {
        return outside(way, 0, city.wayCount - 1);
    }

    private boolean noLeg(int e) {
        return outside(e, 0, city.legCount() - 1);
    }

    private boolean noDoors(int a, int b) {
        return outside(a, 0, city.doorCount - 1) || outside(b, 0, city.doorCount - 1);
    }

    private boolean noPupil(int p) {
        return outside(p, 0, pupilCount - 1);
    }

    private boolean notKnown(int day) {
        return outside(day, 0, ledger.today);
    }

    /** The finder's hour has been set ahead of this. */
    private int sayByHeart(Route route, int p, int a, int b) {
        finder.setHeld(links, pupils[p]);
        return finder.findBest(route, a, b, false);
    }

    private int mostAlike(int set, int a, int b) {
        int most = 0;
        for (int p = 0; p < pupilCount; p++) {
            if (((set >> p) & 1) == 0) {
                continue;
            }
            sayByHeart(scratch[p], p, a, b);
            int alike = 1;
            for (int q = 0; q < p; q++) {
                if (((set >> q) & 1) == 1 && scratch[p].isLike(scratch[q])) {
                    alike++;
                }
            }
            most = Math.max(most, alike);
        }
        return most;
    }

    private void markExam(Exam exam) {
        Route answer = exam.said;
        finder.setCity(answer.day, answer.hour, ledger.today);
        exam.wrong = finder.allows(answer) ? 0 : 1;
        finder.findBest(scratch[0], answer.from, answer.to, true);
        exam.compare(scratch[0]);
        int mark = 100;
        for (int i = 0; i < ruleCount; i++) {
            if (rules[i].appliesTo(exam)) {
                mark -= rules[i].take;
            }
        }
        exam.mark = Math.max(mark, 0);
        exam.markedBy = ledger.today;
    }

    /** Junctions, ways and doors; a way's legs are 2 w from a to b and 2 w + 1 back. */
    private static final class City {
        static final int MOST_JUNCTIONS = 24, MOST_WAYS = 40, MOST_DOORS = 8, MOST_LEGS = 2 * MOST_WAYS;
        static final int LANE = 1, BRIDGE = 2, ALLEY = 3, TUNNEL = 4, TOLL = 5;
        static final int LEFT = 0, RIGHT = 1, AHEAD = 2, FIRST_OF_RING = 3;
        private static final int SORT_JUNCTION = 0, SORT_WAY = 1, SORT_DOOR = 2;
        private static final int[] BROADER = {-1, 0, 0, 1, 2, 4};

        final int[] xs, ys, rings;
        int junctionCount;
        final int[] wayKind, wayFeet, wayOne;
        int wayCount;
        private final int[] legStart, legX, legY;
        final int[] doorWay, doorFeet, doorSide;
        int doorCount;
        final int[] thingSort, thingNumber;
        int thingCount;
        final int[] outLegs, outCount;

        City() {
            xs = new int[MOST_JUNCTIONS];
            ys = new int[MOST_JUNCTIONS];
            rings = new int[MOST_JUNCTIONS];
            wayKind = new int[MOST_WAYS];
            wayFeet = new int[MOST_WAYS];
            wayOne = new int[MOST_WAYS];
            legStart = new int[MOST_LEGS];
            legX = new int[MOST_LEGS];
            legY = new int[MOST_LEGS];
            doorWay = new int[MOST_DOORS];
            doorFeet = new int[MOST_DOORS];
            doorSide = new int[MOST_DOORS];
            thingSort = new int[MOST_JUNCTIONS + MOST_WAYS + MOST_DOORS];
            thingNumber = new int[MOST_JUNCTIONS + MOST_WAYS + MOST_DOORS];
            outLegs = new int[MOST_JUNCTIONS * MOST_WAYS];
            outCount = new int[MOST_JUNCTIONS];
        }

        int legCount() {
            return 2 * wayCount;
        }

        int addJunction(int x, int y, int isRing) {
            for (int j = 0; j < junctionCount; j++) {
                if (xs[j] == x && ys[j] == y) {
                    return STATE;
                }
            }
            if (junctionCount >= MOST_JUNCTIONS) {
                return FULL;
            }
            int j = junctionCount;
            xs[j] = x;
            ys[j] = y;
            rings[j] = isRing;
            junctionCount++;
            addThing(SORT_JUNCTION, j);
            return j;
        }

        int addWay(int kind, int a, int b, int feet, int one) {
            if (wayCount >= MOST_WAYS) {
                return FULL;
            }
            int w = wayCount;
            wayKind[w] = kind;
            wayFeet[w] = feet;
            wayOne[w] = one;
            wayCount++;
            addLeg(2 * w, a, b);
            addLeg(2 * w + 1, b, a);
            addThing(SORT_WAY, w);
            return w;
        }

        int addDoor(int onWay, int feet, int side) {
            if (doorCount >= MOST_DOORS) {
                return FULL;
            }
            int d = doorCount;
            doorWay[d] = onWay;
            doorFeet[d] = feet;
            doorSide[d] = side;
            doorCount++;
            addThing(SORT_DOOR, d);
            return d;
        }

        private void addThing(int sort, int number) {
            thingSort[thingCount] = sort;
            thingNumber[thingCount] = number;
            thingCount++;
        }

        /** Ways come one by one, so the legs out of a junction stand with the lesser first. */
        private void addLeg(int e, int start, int end) {
            legStart[e] = start;
            legX[e] = xs[end] - xs[start];
            legY[e] = ys[end] - ys[start];
            outLegs[start * MOST_WAYS + outCount[start]] = e;
            outCount[start]++;
        }

        int outLeg(int j, int k) {
            return outLegs[j * MOST_WAYS + k];
        }

        int takeThing(int thing, int asSort) {
            int sort = thingSort[thing], number = thingNumber[thing];
            switch (asSort) {
                case 6: return sort == SORT_JUNCTION ? xs[number] : OTHER_SORT;
                case 7: return sort == SORT_DOOR ? doorFeet[number] : OTHER_SORT;
                case 8: return sort;
                default: return sort == SORT_WAY && isOfKind(wayKind[number], asSort) ? wayFeet[number] : OTHER_SORT;
            }
        }

        private static boolean isOfKind(int kind, int wanted) {
            int is = kind;
            for (int step = 0; step < BROADER.length && is >= 0 && is != wanted; step++) {
                is = BROADER[is];
            }
            return is == wanted;
        }

        int tellWay(int w, int what, int hour) {
            switch (what) {
                case 0: return wayKind[w];
                case 1: return startOf(2 * w);
                case 2: return endOf(2 * w);
                case 3: return wayFeet[w];
                case 4: return wayOne[w];
                case 5: return priceOf(w, hour);
                default: return isOpen(w, hour) ? 1 : 0;
            }
        }

        int priceOf(int w, int hour) {
            int feet = wayFeet[w];
            int asLane = feet + 20, asBridge = feet + feet / 10;
            int asTunnel = hour >= 7 && hour <= 9 ? 2 * asBridge : asBridge;
            switch (wayKind[w]) {
                case LANE: return asLane;
                case BRIDGE: return asBridge;
                case ALLEY: return hour >= 8 && hour <= 16 ? asLane + 10 : asLane;
                case TUNNEL: return asTunnel;
                case TOLL: return asTunnel + 100;
                default: return feet;
            }
        }

        boolean isOpen(int w, int hour) {
            switch (wayKind[w]) {
                case ALLEY: return hour >= 5 && hour <= 21;
                case TOLL: return hour != 3;
                default: return true;
            }
        }

        /** What counts even for those who know of no shutting: one ways, and the hours. */
        boolean isPassable(int e, int hour) {
            boolean against = (e & 1) == 1 && wayOne[e >> 1] == 1;
            return !against && isOpen(e >> 1, hour);
        }

        int startOf(int e) {
            return legStart[e];
        }

        int endOf(int e) {
            return legStart[e ^ 1];
        }

        boolean follows(int e, int f) {
            return endOf(e) == startOf(f) && (e >> 1) != (f >> 1);
        }

        int howTurned(int e, int f) {
            if (rings[endOf(e)] == 1) {
                return FIRST_OF_RING + exitsAhead(e, f);
            }
            int cross = cross(e, f);
            if (cross < 0) {
                return RIGHT;
            }
            return cross == 0 && dot(e, f) > 0 ? AHEAD : LEFT;
        }

        /** Clockwise from the look back along e: exits of its first half come ahead of all others. */
        private int exitsAhead(int e, int f) {
            int at = endOf(e), ahead = 0;
            boolean early = isInFirstHalf(e ^ 1, f);
            for (int k = 0; k < outCount[at]; k++) {
                int g = outLeg(at, k);
                if (g == f || (g >> 1) == (e >> 1)) {
                    continue;
                }
                boolean isEarlier = isInFirstHalf(e ^ 1, g);
                if (isEarlier == early) {
                    int cross = cross(g, f);
                    isEarlier = cross < 0 || cross == 0 && g < f;
                }
                if (isEarlier) {
                    ahead++;
                }
            }
            return ahead;
        }

        /** Whether g looks as the leg back does, or less than half a turn clockwise from it. */
        private boolean isInFirstHalf(int back, int g) {
            int cross = cross(back, g);
            return cross < 0 || cross == 0 && dot(back, g) > 0;
        }

        private int cross(int e, int f) {
            return legX[e] * legY[f] - legY[e] * legX[f];
        }

        private int dot(int e, int f) {
            return legX[e] * legX[f] + legY[e] * legY[f];
        }

        int feetToEnd(int e, int d) {
            return (e & 1) == 0 ? wayFeet[e >> 1] - doorFeet[d] : doorFeet[d];
        }

        int feetFromStart(int e, int d) {
            return (e & 1) == 0 ? doorFeet[d] : wayFeet[e >> 1] - doorFeet[d];
        }

        /** How far door b lies ahead of door a on leg e; 0 or less: it does not. Both are on its way. */
        int feetAhead(int e, int a, int b) {
            int up = doorFeet[b] - doorFeet[a];
            return (e & 1) == 0 ? up : -up;
        }
    }

    /** What is told about the city day by day, each entry with the day on which it was told. */
    private static final class Ledger {
        private static final int MOST_NAMES = 60, MOST_SHUT = 40, MOST_BANS = 40;

        int today;
        private final int[] nameWay, nameDay;
        private final long[] nameWord;
        int nameCount;
        private final int[] shutWay, shutFrom, shutTo, shutDay;
        int shutCount;
        final int[] banFrom, banTo;
        private final int[] banFirst, banBehind, banDays, banDay;
        int banCount;

        Ledger() {
            nameWay = new int[MOST_NAMES];
            nameDay = new int[MOST_NAMES];
            nameWord = new long[MOST_NAMES];
            shutWay = new int[MOST_SHUT];
            shutFrom = new int[MOST_SHUT];
            shutTo = new int[MOST_SHUT];
            shutDay = new int[MOST_SHUT];
            banFrom = new int[MOST_BANS];
            banTo = new int[MOST_BANS];
            banFirst = new int[MOST_BANS];
            banBehind = new int[MOST_BANS];
            banDays = new int[MOST_BANS];
            banDay = new int[MOST_BANS];
        }

        static boolean isWord(long word) {
            long rest = word;
            for (int i = 0; i < 8 && rest != 0; i++) {
                if (!Tape.isLetter((int) (rest & 255))) {
                    return false;
                }
                rest = rest >>> 8;
            }
            return word != 0;
        }

        int addName(int way, long word) {
            if (nameCount >= MOST_NAMES) {
                return FULL;
            }
            nameWay[nameCount] = way;
            nameWord[nameCount] = word;
            nameDay[nameCount] = today;
            nameCount++;
            return nameCount - 1;
        }

        boolean answersTo(int way, long word, int known) {
            for (int i = 0; i < nameCount; i++) {
                if (nameWay[i] == way && nameWord[i] == word && nameDay[i] <= known) {
                    return true;
                }
            }
            return false;
        }

        int addShut(int way, int from, int to) {
            if (shutCount >= MOST_SHUT) {
                return FULL;
            }
            shutWay[shutCount] = way;
            shutFrom[shutCount] = from;
            shutTo[shutCount] = to;
            shutDay[shutCount] = today;
            shutCount++;
            return shutCount - 1;
        }

        boolean isShut(int way, int day, int known) {
            for (int i = 0; i < shutCount; i++) {
                if (shutWay[i] == way && shutDay[i] <= known && shutFrom[i] <= day && day < shutTo[i]) {
                    return true;
                }
            }
            return false;
        }

        int addBan(int from, int to, int first, int behind, int days) {
            if (banCount >= MOST_BANS) {
                return FULL;
            }
            banFrom[banCount] = from;
            banTo[banCount] = to;
            banFirst[banCount] = first;
            banBehind[banCount] = behind;
            banDays[banCount] = days;
            banDay[banCount] = today;
            banCount++;
            return banCount - 1;
        }

        boolean isBanOn(int i, int day, int hour) {
            return banDay[i] <= day && ((banDays[i] >> (day % 7)) & 1) == 1
                    && banFirst[i] <= hour && hour < banBehind[i];
        }
    }

    /** A row of legs between two doors, on a day, in an hour. */
    private static final class Route {
        // in a best run no leg but the first comes again, and that only as the last one
        private static final int MOST = City.MOST_LEGS + 1;

        int from, to, day, hour;
        final int[] legs;
        int length, twists, feet;

        Route() {
            legs = new int[MOST];
        }

        void begin(int a, int b) {
            from = a;
            to = b;
            length = 0;
        }

        void setTime(int onDay, int inHour) {
            day = onDay;
            hour = inHour;
        }

        void add(int leg) {
            if (length < MOST) {
                legs[length] = leg;
                length++;
            }
        }

        boolean isLike(Route other) {
            if (length != other.length) {
                return false;
            }
            for (int i = 0; i < length; i++) {
                if (legs[i] != other.legs[i]) {
                    return false;
                }
            }
            return true;
        }
    }

    /**
     * Finds and measures runs. It is set first: to the city on a day, where the marked turns are the
     * banned ones, or to an hour and a pupil, where just the marked turns may be taken.
     */
    private static final class Finder {
        static final long FAR = 0x7FFFFFFFFFFFFFFFL;
        private static final int LEGS = City.MOST_LEGS;

        private final City city;
        private final Ledger ledger;
        private final boolean[] usable;
        private final int[] price;
        private final boolean[] marked;
        private final int[] marks;
        private int markCount;
        private boolean justMarked;
        private final int[] offString;
        private final long[] through, toGoal, rest;
        private final boolean[] settled;
        private boolean byFeet;

        Finder(City itsCity, Ledger itsLedger) {
            city = itsCity;
            ledger = itsLedger;
            usable = new boolean[LEGS];
            price = new int[City.MOST_WAYS];
            marked = new boolean[LEGS * LEGS];
            marks = new int[Links.MOST];
            offString = new int[City.MOST_JUNCTIONS];
            through = new long[LEGS];
            toGoal = new long[LEGS];
            rest = new long[LEGS];
            settled = new boolean[LEGS];
        }

        void setCity(int day, int hour, int known) {
            setHour(hour);
            for (int e = 0; e < city.legCount(); e++) {
                usable[e] = usable[e] && !ledger.isShut(e >> 1, day, known);
            }
            unmark();
            justMarked = false;
            for (int i = 0; i < ledger.banCount; i++) {
                if (ledger.isBanOn(i, day, hour)) {
                    mark(ledger.banFrom[i], ledger.banTo[i]);
                }
            }
        }

        void setHour(int hour) {
            for (int e = 0; e < city.legCount(); e++) {
                usable[e] = city.isPassable(e, hour);
            }
            for (int w = 0; w < city.wayCount; w++) {
                price[w] = city.priceOf(w, hour);
            }
        }

        void setHeld(Links links, Pupil pupil) {
            unmark();
            justMarked = true;
            for (int i = 0; i < links.linkCount; i++) {
                if (pupil.isHeld(i, ledger.today)) {
                    mark(links.linkFrom[i], links.linkTo[i]);
                }
            }
        }

        private void mark(int e, int f) {
            int at = e * LEGS + f;
            if (!marked[at] && markCount < marks.length) {
                marked[at] = true;
                marks[markCount] = at;
                markCount++;
            }
        }

        private void unmark() {
            for (int i = 0; i < markCount; i++) {
                marked[marks[i]] = false;
            }
            markCount = 0;
        }

        private boolean mayTurn(int e, int f) {
            return usable[f] && (e >> 1) != (f >> 1) && marked[e * LEGS + f] == justMarked;
        }

        boolean allows(Route route) {
            for (int i = 0; i < route.length; i++) {
                if (!usable[route.legs[i]] || i > 0 && !mayTurn(route.legs[i - 1], route.legs[i])) {
                    return false;
                }
            }
            return true;
        }

        /** The route becomes the best run, and none of no legs if there is none: how many legs. */
        int findBest(Route route, int a, int b, boolean feetFirst) {
            route.begin(a, b);
            spread(a, b, feetFirst);
            int up = 2 * city.doorWay[a];
            long byUp = costFrom(up, a, b), byDown = costFrom(up + 1, a, b);
            if (byUp != FAR && byUp <= byDown) {
                trace(route, up, byUp);
            } else if (byDown != FAR) {
                trace(route, up + 1, byDown);
            }
            measure(route);
            return route.length;
        }

        private void stretchString(int a, int b) {
            int s = city.startOf(2 * city.doorWay[a]), g = city.startOf(2 * city.doorWay[b]);
            int alongX = city.xs[g] - city.xs[s], alongY = city.ys[g] - city.ys[s];
            for (int j = 0; j < city.junctionCount; j++) {
                offString[j] = Math.abs(alongX * (city.ys[j] - city.ys[s]) - alongY * (city.xs[j] - city.xs[s]));
            }
        }

        /** Fills rest: the least that is to come from each leg's end on to the goal. */
        private void spread(int a, int b, boolean feetFirst) {
            byFeet = feetFirst;
            stretchString(a, b);
            weighLegs(b);
            int legs = city.legCount(), up = 2 * city.doorWay[b];
            for (int e = 0; e < legs; e++) {
                rest[e] = FAR;
                settled[e] = false;
            }
            offer(up, toGoal[up]);
            offer(up + 1, toGoal[up + 1]);
            for (int round = 0; round < legs; round++) {
                int f = nearest(legs);
                if (f < 0) {
                    break;
                }
                settled[f] = true;
                offer(f, costThrough(f));
            }
        }

        private void weighLegs(int b) {
            for (int e = 0; e < city.legCount(); e++) {
                through[e] = key(offString[city.endOf(e)], price[e >> 1]);
                toGoal[e] = (e >> 1) == city.doorWay[b] ? key(0, city.feetFromStart(e, b)) : FAR;
            }
        }

        private int nearest(int legs) {
            int near = -1;
            long least = FAR;
            for (int e = 0; e < legs; e++) {
                if (!settled[e] && rest[e] < least) {
                    least = rest[e];
                    near = e;
                }
            }
            return near;
        }

        /** Tells all legs that may turn into f what it costs to go on so. */
        private void offer(int f, long cost) {
            int at = city.startOf(f);
            for (int k = 0; k < city.outCount[at]; k++) {
                int e = city.outLeg(at, k) ^ 1;
                if (cost < rest[e] && mayTurn(e, f)) {
                    rest[e] = cost;
                }
            }
        }

        /** One number that orders by the one and then by the other; both stay far below 2 to the 31st. */
        private long key(int twists, int feet) {
            return byFeet ? ((long) feet << 32) + twists : ((long) twists << 32) + feet;
        }

        private long costThrough(int f) {
            return rest[f] == FAR ? FAR : rest[f] + through[f];
        }

        private long costAlone(int e, int a, int b) {
            int ahead = city.doorWay[a] == city.doorWay[b] ? city.feetAhead(e, a, b) : 0;
            return ahead > 0 ? key(0, ahead) : FAR;
        }

        private long costFrom(int e, int a, int b) {
            if (!usable[e]) {
                return FAR;
            }
            long onward = rest[e] == FAR ? FAR : rest[e] + key(offString[city.endOf(e)], city.feetToEnd(e, a));
            return Math.min(onward, costAlone(e, a, b));
        }

        private void trace(Route route, int first, long best) {
            route.add(first);
            if (costAlone(first, route.from, route.to) == best) {
                return;
            }
            int e = first;
            for (int step = 0; step < city.legCount(); step++) {
                int f = nextLeg(e);
                if (f < 0) {
                    return;
                }
                route.add(f);
                if (toGoal[f] == rest[e]) {
                    return;
                }
                e = f;
            }
        }

        private int nextLeg(int e) {
            int at = city.endOf(e);
            for (int k = 0; k < city.outCount[at]; k++) {
                int f = city.outLeg(at, k);
                if (mayTurn(e, f) && Math.min(toGoal[f], costThrough(f)) == rest[e]) {
                    return f;
                }
            }
            return -1;
        }

        /** Twists and feet by the hour that is set; -1 each for no legs. */
        void measure(Route route) {
            int last = route.length - 1;
            if (last < 0) {
                route.twists = -1;
                route.feet = -1;
                return;
            }
            stretchString(route.from, route.to);
            route.twists = 0;
            if (last == 0) {
                route.feet = city.feetAhead(route.legs[0], route.from, route.to);
                return;
            }
            route.feet = city.feetToEnd(route.legs[0], route.from)
                    + city.feetFromStart(route.legs[last], route.to);
            for (int i = 0; i < last; i++) {
                route.twists += offString[city.endOf(route.legs[i])];
                if (i > 0) {
                    route.feet += price[route.legs[i] >> 1];
                }
            }
        }

        void writeProof(int[] numbers, int a, int b) {
            spread(a, b, true);
            for (int e = 0; e < city.legCount() && e < numbers.length; e++) {
                numbers[e] = rest[e] == FAR ? -1 : (int) (rest[e] >> 32);
            }
        }

        /** The first leg with which the numbers prove nothing, or -1. There is one number for each leg. */
        int firstWrong(int[] numbers, int b) {
            for (int e = 0; e < city.legCount() && e < numbers.length; e++) {
                if (numbers[e] < -1 || !isRightAt(e, numbers, b)) {
                    return e;
                }
            }
            return -1;
        }

        private boolean isRightAt(int e, int[] numbers, int b) {
            int at = city.endOf(e);
            for (int k = 0; k < city.outCount[at]; k++) {
                int f = city.outLeg(at, k);
                if (!mayTurn(e, f)) {
                    continue;
                }
                boolean ofGoal = (f >> 1) == city.doorWay[b], hasNumber = numbers[f] >= 0;
                if (numbers[e] < 0 && (ofGoal || hasNumber)) {
                    return false;
                }
                if (ofGoal && numbers[e] > city.feetFromStart(f, b)) {
                    return false;
                }
                if (hasNumber && numbers[e] > (long) price[f >> 1] + numbers[f]) {
                    return false;
                }
            }
            return true;
        }

        long leastByProof(int[] numbers, int a, int b) {
            long least = FAR;
            int up = 2 * city.doorWay[a];
            for (int e = up; e <= up + 1; e++) {
                if (!usable[e]) {
                    continue;
                }
                if (numbers[e] >= 0) {
                    least = Math.min(least, (long) city.feetToEnd(e, a) + numbers[e]);
                }
                if (city.doorWay[b] == city.doorWay[a] && city.feetAhead(e, a, b) > 0) {
                    least = Math.min(least, city.feetAhead(e, a, b));
                }
            }
            return least;
        }

        /** Adds the legs that are driven to the route: 0, or 10 times the step and why it can't be. */
        int driveSpeech(Speech speech, Route route) {
            int e = 2 * city.doorWay[route.from] + speech.firstDown;
            if (!usable[e]) {
                return 1;
            }
            route.add(e);
            for (int i = 0; i < speech.turnCount; i++) {
                int f = legCalled(e, speech.words[i], speech.turns[i]);
                int why = f < 0 ? -f : whyNotInto(e, f);
                if (why != 0) {
                    return 10 * (i + 1) + why;
                }
                route.add(f);
                e = f;
            }
            int why = whyNotSetDown(e, route, speech.setRight);
            return why == 0 ? 0 : 10 * speech.turnCount + why;
        }

        /** The least leg that is turned into so; less 2: none is called so; less 3: none of those lies so. */
        private int legCalled(int e, long word, int turned) {
            int at = city.endOf(e), none = -2;
            for (int k = 0; k < city.outCount[at]; k++) {
                int f = city.outLeg(at, k);
                if ((f >> 1) != (e >> 1) && ledger.answersTo(f >> 1, word, ledger.today)) {
                    if (city.howTurned(e, f) == turned) {
                        return f;
                    }
                    none = -3;
                }
            }
            return none;
        }

        private int whyNotInto(int e, int f) {
            if (!usable[f]) {
                return 4;
            }
            return mayTurn(e, f) ? 0 : 5;
        }

        private int whyNotSetDown(int e, Route route, int setRight) {
            if ((e >> 1) != city.doorWay[route.to]) {
                return 6;
            }
            if (route.length == 1 && city.feetAhead(e, route.from, route.to) <= 0) {
                return 6;
            }
            int side = (e & 1) ^ setRight;
            return city.doorSide[route.to] == side ? 0 : 7;
        }
    }

    /** The tape, and the small readings of which both tongues are made. */
    private static final class Tape {
        static final int MOST = 160;

        private final int[] bytes;
        int length;
        int at;

        Tape() {
            bytes = new int[MOST];
        }

        static boolean isLetter(int sign) {
            return sign >= 'a' && sign <= 'z';
        }

        private static boolean isDigit(int sign) {
            return sign >= '0' && sign <= '9';
        }

        void append(long w, int n) {
            for (int shift = 8 * (n - 1); shift >= 0 && length < MOST; shift -= 8) {
                bytes[length] = (int) (w >>> shift) & 255;
                length++;
            }
        }

        void clear() {
            length = 0;
        }

        private int signAt(int place) {
            return place >= 0 && place < length ? bytes[place] : -1;
        }

        boolean isAtEnd() {
            return at >= length;
        }

        void skipBlanks() {
            while (at < length && signAt(at) == ' ') {
                at++;
            }
        }

        /** Letters as many as there are, told as a word; 0: none, or more than 8. */
        long takeWord() {
            long word = 0;
            int letters = 0;
            while (at < length && isLetter(signAt(at))) {
                word = (word << 8) | signAt(at);
                letters++;
                at++;
            }
            return letters > 8 ? 0 : word;
        }

        /** A digit 1 to 9 with no other one behind it; 0: none. */
        int takeLoneDigit() {
            int sign = signAt(at);
            if (!isDigit(sign) || sign == '0' || isDigit(signAt(at + 1))) {
                return 0;
            }
            at++;
            return sign - '0';
        }

        /** One to four digits; -1: none. */
        int takeNumber() {
            if (!isDigit(signAt(at))) {
                return -1;
            }
            int number = 0;
            for (int i = 0; i < 4 && isDigit(signAt(at)); i++) {
                number = 10 * number + signAt(at) - '0';
                at++;
            }
            return number;
        }

        /** Whether the text stands here; if not, the place stays at the first byte that is another. */
        boolean takesText(String text) {
            for (int i = 0; i < text.length(); i++) {
                if (signAt(at) != text.charAt(i)) {
                    return false;
                }
                at++;
            }
            return true;
        }
    }

    /** A said run as it was read, not yet driven. */
    private static final class Speech {
        private static final int MOST_TURNS = 20, COMPLY = -1, NO_TURN = -2;
        // the tongue's own words, told as a name is: bytes, the highest first
        private static final long WORD_LEAVE = 0x6C65617665L, WORD_UP = 0x7570L, WORD_DOWN = 0x646F776EL;
        private static final long WORD_LEFT = 0x6C656674L, WORD_RIGHT = 0x7269676874L, WORD_AHEAD = 0x6168656164L;
        private static final long WORD_COMPLY = 0x636F6D706C79L, WORD_SET = 0x736574L;

        int firstDown, setRight, turnCount;
        final int[] turns;
        final long[] words;

        Speech() {
            turns = new int[MOST_TURNS];
            words = new long[MOST_TURNS];
        }

        /** The place of the fault, or -1. */
        int readFrom(Tape tape) {
            turnCount = 0;
            tape.at = 0;
            tape.skipBlanks();
            int start = tape.at;
            if (tape.takeWord() != WORD_LEAVE) {
                return start;
            }
            tape.skipBlanks();
            start = tape.at;
            long word = tape.takeWord();
            if (word != WORD_UP && word != WORD_DOWN) {
                return start;
            }
            firstDown = word == WORD_DOWN ? 1 : 0;
            for (int i = 0; i <= MOST_TURNS; i++) {
                tape.skipBlanks();
                start = tape.at;
                word = tape.takeWord();
                if (word == WORD_SET) {
                    return readSetDown(tape);
                }
                int fault = i < MOST_TURNS ? readTurn(tape, word, start) : start;
                if (fault >= 0) {
                    return fault;
                }
            }
            return start;
        }

        private int readTurn(Tape tape, long word, int start) {
            int turned = turnOf(word);
            if (turned == NO_TURN) {
                return start;
            }
            if (turned == COMPLY) {
                tape.skipBlanks();
                int digit = tape.takeLoneDigit();
                if (digit == 0) {
                    return tape.at;
                }
                turned = City.FIRST_OF_RING - 1 + digit;
            }
            tape.skipBlanks();
            int nameStart = tape.at;
            long called = tape.takeWord();
            if (called == 0) {
                return nameStart;
            }
            turns[turnCount] = turned;
            words[turnCount] = called;
            turnCount++;
            return -1;
        }

        private static int turnOf(long word) {
            if (word == WORD_LEFT) {
                return City.LEFT;
            }
            if (word == WORD_RIGHT) {
                return City.RIGHT;
            }
            if (word == WORD_AHEAD) {
                return City.AHEAD;
            }
            return word == WORD_COMPLY ? COMPLY : NO_TURN;
        }

        private int readSetDown(Tape tape) {
            tape.skipBlanks();
            int start = tape.at;
            long word = tape.takeWord();
            if (word != WORD_LEFT && word != WORD_RIGHT) {
                return start;
            }
            setRight = word == WORD_RIGHT ? 1 : 0;
            tape.skipBlanks();
            return tape.isAtEnd() ? -1 : tape.at;
        }
    }

    /** All links of the said runs, and what comes of riding them. */
    private static final class Links {
        private static final int MOST_IN_RUN = 20, MOST_CHOICES = 4;
        static final int MOST = MOST_RUNS * MOST_IN_RUN;
        private static final int LEGS = City.MOST_LEGS;

        final int[] linkFrom, linkTo;
        int linkCount;
        private final int[] behindNumber;
        private final int[][] runLinks;
        private final int[] runLinkCount;
        private final int[] choices;
        private int choiceCount;
        private final int[] choicesWith;
        private final int[] rowChoices;

        Links() {
            linkFrom = new int[MOST];
            linkTo = new int[MOST];
            behindNumber = new int[LEGS * LEGS];
            runLinks = new int[MOST_RUNS][MOST_IN_RUN];
            runLinkCount = new int[MOST_RUNS];
            choices = new int[MOST_CHOICES];
            choicesWith = new int[MOST];
            rowChoices = new int[MOST_PLANNED];
        }

        /** The number of a link, or -1 if no said run has it. */
        int numberOf(int e, int f) {
            return behindNumber[e * LEGS + f] - 1;
        }

        void addRun(int r, Route route) {
            runLinkCount[r] = 0;
            for (int i = 1; i < route.length; i++) {
                int link = numberedLink(route.legs[i - 1], route.legs[i]);
                if (link >= 0 && !isInRun(r, link) && runLinkCount[r] < MOST_IN_RUN) {
                    runLinks[r][runLinkCount[r]] = link;
                    runLinkCount[r]++;
                }
            }
        }

        private int numberedLink(int e, int f) {
            if (numberOf(e, f) < 0 && linkCount < MOST) {
                linkFrom[linkCount] = e;
                linkTo[linkCount] = f;
                linkCount++;
                behindNumber[e * LEGS + f] = linkCount;
            }
            return numberOf(e, f);
        }

        private boolean isInRun(int r, int link) {
            for (int i = 0; i < runLinkCount[r]; i++) {
                if (runLinks[r][i] == link) {
                    return true;
                }
            }
            return false;
        }

        void rideRun(Pupil pupil, int r, int day) {
            for (int i = 0; i < runLinkCount[r]; i++) {
                pupil.rideLink(runLinks[r][i], day);
            }
        }

        int heldCount(Pupil pupil, int day) {
            int held = 0;
            for (int i = 0; i < linkCount; i++) {
                if (pupil.isHeld(i, day)) {
                    held++;
                }
            }
            return held;
        }

        /** Gets a set of one to four runs ready to be planned. */
        void gather(int set) {
            choiceCount = 0;
            for (int i = 0; i < linkCount; i++) {
                choicesWith[i] = 0;
            }
            for (int r = 0; r < MOST_RUNS && choiceCount < MOST_CHOICES; r++) {
                if (((set >> r) & 1) == 0) {
                    continue;
                }
                for (int i = 0; i < runLinkCount[r]; i++) {
                    choicesWith[runLinks[r][i]] |= 1 << choiceCount;
                }
                choices[choiceCount] = r;
                choiceCount++;
            }
        }

        /** The best row of n days from the first one on, for a day: how many links are held with it. */
        int planRides(Pupil pupil, int[] row, int n, int first, int day) {
            int rows = 1;
            for (int i = 0; i < n; i++) {
                rows *= choiceCount;
            }
            int most = -1;
            for (int number = 0; number < rows; number++) {
                chooseRow(number, n);
                int held = heldAfter(pupil, n, first, day);
                if (held > most) {
                    most = held;
                    for (int i = 0; i < n; i++) {
                        row[i] = choices[rowChoices[i]];
                    }
                }
            }
            return most;
        }

        /** Rows count up as their numbers do, so that of like ones the first by numbers comes first. */
        private void chooseRow(int number, int n) {
            int left = number;
            for (int i = n - 1; i >= 0 && choiceCount > 0; i--) {
                rowChoices[i] = left % choiceCount;
                left = left / choiceCount;
            }
        }

        private int heldAfter(Pupil pupil, int n, int first, int day) {
            int held = 0;
            for (int link = 0; link < linkCount; link++) {
                int times = pupil.times[link], last = pupil.lastDay[link];
                for (int i = 0; i < n; i++) {
                    if (((choicesWith[link] >> rowChoices[i]) & 1) == 1) {
                        times++;
                        last = first + i;
                    }
                }
                if (pupil.wouldHold(times, last, day)) {
                    held++;
                }
            }
            return held;
        }
    }

    /** How often, and when last, a pupil rode each link. */
    private static final class Pupil {
        private static final int MOST_TIMES = 6;

        int keeps;
        final int[] times;
        final int[] lastDay;

        Pupil() {
            times = new int[Links.MOST];
            lastDay = new int[Links.MOST];
        }

        void rideLink(int link, int day) {
            times[link] = Math.min(times[link] + 1, MOST_TIMES);
            lastDay[link] = day;
        }

        boolean isHeld(int link, int day) {
            return wouldHold(times[link], lastDay[link], day);
        }

        boolean wouldHold(int often, int last, int day) {
            if (often <= 0 || day < last) {
                return false;
            }
            return day - last <= keeps << (Math.min(often, MOST_TIMES) - 1);
        }
    }

    /** So much is taken off a mark, if all its tests hold. */
    private static final class Rule {
        private static final int MOST_TESTS = 3;

        int take;
        private int testCount;
        private final int[] fields, signs, numbers;

        Rule() {
            fields = new int[MOST_TESTS];
            signs = new int[MOST_TESTS];
            numbers = new int[MOST_TESTS];
        }

        /** The place of the fault, or -1. */
        int readFrom(Tape tape) {
            testCount = 0;
            tape.at = 0;
            if (!tape.takesText("take ")) {
                return tape.at;
            }
            take = tape.takeNumber();
            if (take < 0) {
                return tape.at;
            }
            if (tape.isAtEnd()) {
                return -1;
            }
            if (!tape.takesText(" if ")) {
                return tape.at;
            }
            for (int i = 0; i < MOST_TESTS; i++) {
                if (!readTest(tape, i)) {
                    return tape.at;
                }
                testCount++;
                if (tape.isAtEnd()) {
                    return -1;
                }
                if (testCount < MOST_TESTS && !tape.takesText("&")) {
                    return tape.at;
                }
            }
            return tape.at;
        }

        private boolean readTest(Tape tape, int i) {
            int start = tape.at;
            for (int field = 0; field < Exam.FIELDS; field++) {
                // no two fields begin alike, so only one can have moved the place
                if (tape.at == start && tape.takesText(Exam.fieldName(field))) {
                    fields[i] = field;
                    return readComparison(tape, i);
                }
            }
            return false;
        }

        private boolean readComparison(Tape tape, int i) {
            if (tape.takesText("=")) {
                signs[i] = 0;
            } else if (tape.takesText("<")) {
                signs[i] = -1;
            } else if (tape.takesText(">")) {
                signs[i] = 1;
            } else {
                return false;
            }
            numbers[i] = tape.takeNumber();
            return numbers[i] >= 0;
        }

        boolean appliesTo(Exam exam) {
            for (int i = 0; i < testCount; i++) {
                if (signOf(exam.valueOf(fields[i]) - numbers[i]) != signs[i]) {
                    return false;
                }
            }
            return true;
        }

        private static int signOf(int value) {
            if (value == 0) {
                return 0;
            }
            return value < 0 ? -1 : 1;
        }
    }

    /** What a pupil said when asked, and how it was marked. */
    private static final class Exam {
        static final int FIELDS = 6;

        int pupil, mark, markedBy, wrong;
        private int over;
        final Route said;

        Exam() {
            said = new Route();
        }

        static String fieldName(int field) {
            switch (field) {
                case 0: return "said";
                case 1: return "wrong";
                case 2: return "over";
                case 3: return "turns";
                case 4: return "feet";
                default: return "day";
            }
        }

        void compare(Route shortest) {
            over = 0;
            if (said.length > 0 && shortest.length > 0 && shortest.feet > 0 && said.feet > shortest.feet) {
                over = 100 * (said.feet - shortest.feet) / shortest.feet;
            }
        }

        int valueOf(int field) {
            switch (field) {
                case 0: return Math.min(said.length, 1);
                case 1: return wrong;
                case 2: return over;
                case 3: return Math.max(said.length - 1, 0);
                case 4: return Math.max(said.feet, 0);
                default: return said.day;
            }
        }
    }

    /** A row of bytes, shorts or ints; room for the longest one is kept. */
    private static final class Sheet {
        static final int MOST = 100;
        static final int MISSING = -1, BYTES = 0, SHORTS = 1, INTS = 2;

        int sort, length;
        final int[] cells;

        Sheet() {
            sort = MISSING;
            cells = new int[MOST];
        }

        void become(int newSort, int n) {
            sort = newSort;
            length = n;
            for (int i = 0; i < MOST; i++) {
                cells[i] = 0;
            }
        }

        void put(int i, int v) {
            switch (sort) {
                case BYTES: cells[i] = (byte) v; break;
                case SHORTS: cells[i] = (short) v; break;
                default: cells[i] = v;
            }
        }

        /** Whether n numbers from i on stand in it. */
        boolean hasRow(int i, int n) {
            return i >= 0 && n >= 0 && n <= length && i <= length - n;
        }
    }
}
