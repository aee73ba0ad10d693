/**
 * A country of rings of coral, month by month, as the sea comes up.
 *
 * What each call promises stands in the project's document. Here {@code now} is
 * the country as it is, {@code kept} THE IMAGE of it, and {@code trial} the one on
 * which MONTHS are TRIED; all three are made once and filled again and again.
 */
public final class RingsUnder {
    public static final int NONE = -1;

    private static final int MONTHS = 600;
    private static final int YEAR = 12;
    private static final int RISES = 3;
    private static final int LEVELS = 200;
    private static final int RINGS = 5;
    private static final int CELLS = 40;
    private static final int SIDE = 32;
    private static final int LOTS = 5;
    private static final int PERSONS = 40;
    private static final int KINS = 10;
    private static final int GRAVES = 30;
    private static final int LONGEST_TRY = 60;
    private static final int LONGEST_ORDER = 12;
    private static final int FARTHEST_REACH = 20;

    /** PLACES of PERSONS that are no RINGS. */
    private static final int LOT = 100;
    private static final int ABROAD = 200;
    private static final int DEAD = 300;

    /** Values of LEVELS that are no numbers; both are below every number. */
    private static final int NO_NUMBER = -5000;
    private static final int UNTOLD = -6000;

    private static final int NO_LEVEL = -1000000;
    private static final int NO_ANSWER = -1000000000;

    /** Limits of THE LAW. */
    private static final int TEXTS = 10;
    private static final int FORCES = 30;
    private static final int BYTES = 300;
    private static final int CLAUSES = 20;
    private static final int KEYS = 4;
    private static final int OPEN = 8;
    private static final int STACK = 40;
    private static final int NUMBERS = 9999;
    private static final int GREATEST = 1000000000;

    /** TOKENS that are words bear the number of their place in WORDS. */
    private static final String WORDS =
        "lasts people may vote order heir council fix leave or and not age kin craft place month under ";
    private static final int LASTS = 0;
    private static final int PEOPLE = 1;
    private static final int MAY = 2;
    private static final int VOTE = 3;
    private static final int ORDER = 4;
    private static final int HEIR = 5;
    private static final int COUNCIL = 6;
    private static final int FIX = 7;
    private static final int LEAVE = 8;
    private static final int OR = 9;
    private static final int AND = 10;
    private static final int NOT = 11;
    private static final int AGE = 12;
    private static final int KIN = 13;
    private static final int CRAFT = 14;
    private static final int PLACE = 15;
    private static final int MONTH = 16;
    private static final int UNDER = 17;

    /** The other TOKENS; NEGATE is the - of one ONE, which the tape writes like MINUS. */
    private static final int NUMBER = 18;
    private static final int LESS = 19;
    private static final int LESS_OR_LIKE = 20;
    private static final int MORE = 21;
    private static final int MORE_OR_LIKE = 22;
    private static final int LIKE = 23;
    private static final int UNLIKE = 24;
    private static final int PLUS = 25;
    private static final int MINUS = 26;
    private static final int TIMES = 27;
    private static final int OVER = 28;
    private static final int LEFT = 29;
    private static final int RIGHT = 30;
    private static final int COMMA = 31;
    private static final int SEMICOLON = 32;
    private static final int END = 33;
    private static final int NO_TOKEN = 34;
    private static final int NEGATE = 35;

    /** FAULTS of a TEXT. */
    private static final int CANT_STAND = 1;
    private static final int NOT_TOLD = 2;
    private static final int TOO_DEEP = 3;
    private static final int SECOND = 4;
    private static final int TOO_MANY = 5;

    private final World now = new World();
    private final World kept = new World();
    private final World trial = new World();
    private final RingOrders ringOrders = new RingOrders();
    private final Reader reader = new Reader();

    public RingsUnder() {
    }

    // ---- the country is told

    public int ring() {
        Land land = now.land;
        if (land.rings >= RINGS) {
            return NONE;
        }
        land.rings++;
        return land.rings - 1;
    }

    public int cell(int ring, int height, int x, int y, int sand, int reef) {
        boolean fits = isRing(ring) && between(height, -500, 3000)
            && between(x, 0, SIDE - 1) && between(y, 0, SIDE - 1)
            && between(sand, 0, 500) && between(reef, 0, 400);
        if (!fits || now.clock > 0 || now.land.cells >= CELLS) {
            return NONE;
        }
        return now.land.addCell(ring, height, x, y, sand, reef);
    }

    public int level(int rise, int month, boolean number, int v) {
        if (!isRise(rise) || !isMonth(month) || number && !between(v, -1000, 5000)) {
            return NONE;
        }
        if (now.seas.levels >= LEVELS) {
            return NONE;
        }
        return now.seas.tell(rise, month, number ? v : NO_NUMBER, now.clock);
    }

    public int levelOf(int rise, int month, int known) {
        if (!isRise(rise) || !isMonth(month) || !between(known, 0, MONTHS)) {
            return NO_LEVEL;
        }
        return now.seas.known(rise, month, known);
    }

    public boolean table(int place, int low, int high, int warm, int drift, int rain) {
        boolean fits = between(place, 0, YEAR - 1) && between(low, 0, 2000) && between(high, low, 2000)
            && between(warm, 0, 40) && between(drift, 0, 50) && between(rain, 0, 100);
        if (!fits) {
            return false;
        }
        Seas seas = now.seas;
        seas.low[place] = low;
        seas.high[place] = high;
        seas.warm[place] = warm;
        seas.drift[place] = drift;
        seas.rain[place] = rain;
        return true;
    }

    public boolean rules(int bear, int grow, int die, int reach, int cost) {
        boolean fits = between(bear, 0, 40) && between(grow, 0, 5) && between(die, 0, 50)
            && between(reach, 1, FARTHEST_REACH) && between(cost, 0, 100);
        if (!fits) {
            return false;
        }
        Seas seas = now.seas;
        seas.bear = bear;
        seas.grow = grow;
        seas.die = die;
        seas.reach = reach;
        seas.cost = cost;
        return true;
    }

    public boolean wall(int cell, int v) {
        if (!isCell(cell) || !between(v, 0, 1000)) {
            return false;
        }
        now.land.wall[cell] = v;
        return true;
    }

    public boolean well(int cell, int gathers, int lens, int salt) {
        boolean fits = isCell(cell) && between(gathers, 1, 20) && between(lens, 0, 10000) && between(salt, 0, 100);
        if (!fits || now.land.wells.isAt(cell)) {
            return false;
        }
        now.land.wells.dig(cell, gathers, lens, salt);
        return true;
    }

    public int beds(int cell, int more) {
        if (!isCell(cell)) {
            return NONE;
        }
        long together = (long) now.land.beds[cell] + more;
        if (together < 0 || together > 20) {
            return NONE;
        }
        now.land.beds[cell] = (int) together;
        return now.land.beds[cell];
    }

    public int lot(int beds) {
        Folk folk = now.folk;
        if (!between(beds, 0, 60) || folk.lots >= LOTS) {
            return NONE;
        }
        folk.lotBeds[folk.lots] = beds;
        folk.lots++;
        return folk.lots - 1;
    }

    public int person(int kin, int age, int craft, int ring, int send) {
        boolean fits = between(kin, 0, KINS - 1) && between(age, 0, 99) && between(craft, 0, 7)
            && isRing(ring) && between(send, 0, 100);
        if (!fits || now.folk.persons >= PERSONS) {
            return NONE;
        }
        return now.folk.addPerson(kin, age, craft, ring, send);
    }

    // ---- what PERSONS do, and their TITLES

    public boolean go(int person, int to) {
        if (!isPerson(person)) {
            return false;
        }
        Folk folk = now.folk;
        if (folk.place[person] == DEAD || folk.place[person] == to) {
            return false;
        }
        boolean fits = isRing(to) || to == ABROAD || isLot(to) && folk.freeBeds(to - LOT) > 0;
        if (fits) {
            folk.place[person] = to;
        }
        return fits;
    }

    public int death(int person) {
        if (!isPerson(person) || now.folk.place[person] == DEAD) {
            return NONE;
        }
        now.folk.place[person] = DEAD;
        return now.passTitles(person, now.heirOf(person));
    }

    public boolean title(int cell, int person) {
        if (!isCell(cell)) {
            return false;
        }
        boolean fits = person == NONE || isPerson(person) && now.folk.place[person] != DEAD;
        if (fits) {
            now.holder[cell] = person;
        }
        return fits;
    }

    public int titleOf(int cell, int what) {
        if (!isCell(cell)) {
            return NONE;
        }
        switch (what) {
            case 0:
                return now.holder[cell];
            case 1:
                return now.titleStands(cell) ? 1 : 0;
            default:
                return NONE;
        }
    }

    public boolean choose(int person, int v) {
        if (!isPerson(person) || !between(v, NONE, 1)) {
            return false;
        }
        now.folk.vote[person] = v;
        return true;
    }

    public int council(long there) {
        if (there >>> now.folk.persons != 0) {
            return NONE;
        }
        return now.decide(there);
    }

    // ---- THE LAW

    public int feed(int a, int b, int c, int d, int e) {
        Scanner tape = reader.scanner;
        if (tape.length > BYTES - 20) {
            return NONE;
        }
        tape.append(a);
        tape.append(b);
        tape.append(c);
        tape.append(d);
        tape.append(e);
        return tape.length;
    }

    public int end(int n) {
        if (!between(n, 0, reader.scanner.length)) {
            return NONE;
        }
        reader.scanner.length = n;
        return n;
    }

    public int text() {
        Law law = now.law;
        if (law.textCount >= TEXTS) {
            return NONE;
        }
        Text read = reader.read();
        reader.scanner.length = 0;
        if (reader.fault != 0) {
            return NONE;
        }
        law.texts[law.textCount] = read;
        law.textCount++;
        return law.textCount - 1;
    }

    public int fault(int what) {
        switch (what) {
            case 0:
                return reader.fault;
            case 1:
                return reader.place;
            default:
                return NONE;
        }
    }

    public int force(int text, int from, int to) {
        Law law = now.law;
        boolean fits = between(text, 0, law.textCount - 1) && isMonth(from) && isMonth(to)
            && from >= now.clock && from <= to;
        if (!fits || law.forces >= FORCES) {
            return NONE;
        }
        return law.addForce(text, from, to);
    }

    public int is(int what, int person, int month) {
        if (!between(what, 0, 2) || !isPerson(person) || !isMonth(month)) {
            return NONE;
        }
        return now.law.whoIsSo(PEOPLE + what, month, now.folk, 1L << person) != 0 ? 1 : 0;
    }

    public int why(int what, int person, int month) {
        if (!between(what, 0, 2) || !isPerson(person) || !isMonth(month)) {
            return NONE;
        }
        return now.law.clauseBy(PEOPLE + what, month, now.folk, person);
    }

    public int says(int month, int what) {
        if (!isMonth(month)) {
            return NONE;
        }
        switch (what) {
            case 0:
                return now.law.councilIn(month);
            case 1:
                return now.law.leaveIn(month);
            case 2:
                return now.law.fixIn(month);
            default:
                return NONE;
        }
    }

    // ---- MONTHS go by, or are TRIED

    public boolean sail(int boats, int coins) {
        if (!between(boats, 0, 40) || !between(coins, 0, 100000)) {
            return false;
        }
        now.boats = boats;
        now.fund += coins;
        return true;
    }

    public int months(int n, int rise) {
        if (!canGoBy(rise, n, LONGEST_TRY)) {
            return NONE;
        }
        for (int i = 0; i < n; i++) {
            now.goBy(rise);
        }
        return now.clock;
    }

    public int sinks(int cell, int rise, int n) {
        if (!isCell(cell) || !canGoBy(rise, n, LONGEST_TRY)) {
            return NONE;
        }
        trial.copyFrom(now);
        for (int i = 0; i < n; i++) {
            trial.nature(rise);
            if (!trial.land.isDry(cell)) {
                return trial.clock;
            }
            trial.clock++;
        }
        return NONE;
    }

    public int cant(int rise, int n) {
        if (!canGoBy(rise, n, LONGEST_TRY)) {
            return NONE;
        }
        trial.copyFrom(now);
        trial.cantMonth = NONE;
        // Who is ABROAD stays there in MONTHS, so THE FUND needs nobody's drinking, sleep or BOATS.
        for (int i = 0; i < n && trial.cantMonth == NONE; i++) {
            trial.nature(rise);
            trial.reckon();
            trial.clock++;
        }
        return trial.cantMonth;
    }

    public int keeps(int wall, int cell, int rise, int n) {
        boolean fits = isCell(wall) && isCell(cell) && canGoBy(rise, n, LONGEST_TRY);
        if (!fits || now.land.wall[wall] == 0) {
            return NO_LEVEL;
        }
        trial.copyFrom(now);
        int with = trial.sandBehind(n, cell);
        trial.copyFrom(now);
        trial.land.wall[wall] = 0;
        return with - trial.sandBehind(n, cell);
    }

    public int order(int rise, int n, int what) {
        boolean fits = canGoBy(rise, n, LONGEST_ORDER) && between(what, NONE, now.land.rings - 1);
        if (!fits) {
            return NONE;
        }
        trial.copyFrom(now);
        ringOrders.seek(now, trial, rise, n);
        return what == NONE ? ringOrders.least : ringOrders.best[what];
    }

    // ---- what there is

    public int cellOf(int cell, int what) {
        if (!isCell(cell)) {
            return NO_LEVEL;
        }
        Land land = now.land;
        switch (what) {
            case 0:
                return land.ring[cell];
            case 1:
                return land.height[cell];
            case 2:
                return land.sand[cell];
            case 3:
                return land.reef[cell];
            case 4:
                return land.wall[cell];
            case 5:
                return land.topOf(cell);
            case 6:
                return land.beds[cell];
            case 7:
                return land.wells.isAt(cell) ? land.wells.lens[cell] : NONE;
            case 8:
                return land.wells.isAt(cell) ? land.wells.salt[cell] : NONE;
            case 9:
                return land.under[cell];
            case 10:
                return now.wasDry(cell);
            case 11:
                return now.wasRock(cell);
            default:
                return NO_LEVEL;
        }
    }

    public int personOf(int person, int what) {
        if (!isPerson(person)) {
            return NONE;
        }
        Folk folk = now.folk;
        switch (what) {
            case 0:
                return folk.place[person];
            case 1:
                return folk.kin[person];
            case 2:
                return folk.age[person];
            case 3:
                return folk.craft[person];
            case 4:
                return folk.send[person];
            case 5:
                return folk.thirst[person];
            case 6:
                return folk.noBed[person];
            case 7:
                return folk.went[person];
            default:
                return NONE;
        }
    }

    public int at(int place) {
        boolean fits = isRing(place) || isLot(place) || place == ABROAD || place == DEAD;
        return fits ? now.folk.countAt(place) : NONE;
    }

    public int area() {
        return now.area;
    }

    public int about(int what) {
        switch (what) {
            case 0:
                return now.clock;
            case 1:
                return now.land.rings;
            case 2:
                return now.land.cells;
            case 3:
                return now.seas.levels;
            case 4:
                return now.folk.lots;
            case 5:
                return now.folk.persons;
            case 6:
                return now.law.textCount;
            case 7:
                return now.law.forces;
            case 8:
                return now.fund;
            case 9:
                return now.land.deep;
            case 10:
                return now.graves.count;
            case 11:
                return now.boats;
            case 12:
                return now.cantMonth;
            case 13:
                return reader.scanner.length;
            case 14:
                return sum(now.land.sand, now.land.cells);
            case 15:
                return sum(now.folk.thirst, now.folk.persons);
            case 16:
                return sum(now.folk.noBed, now.folk.persons);
            default:
                return NO_ANSWER;
        }
    }

    // ---- GRAVES, and THE IMAGE

    public int grave(int cell) {
        if (!isCell(cell) || now.graves.count >= GRAVES) {
            return NONE;
        }
        return now.graves.dig(cell);
    }

    public boolean bury(int grave, int cell) {
        if (!between(grave, 0, now.graves.count - 1) || !isCell(cell)) {
            return false;
        }
        return now.graves.carry(grave, cell);
    }

    public int found(int cell, int i) {
        return isCell(cell) && i >= 0 ? now.graves.whereNow(cell, i) : NONE;
    }

    public int image() {
        kept.copyFrom(now);
        return now.clock;
    }

    public int back() {
        now.copyFrom(kept);
        return now.clock;
    }

    // ---- what arguments may be

    private static boolean between(int v, int low, int high) {
        return v >= low && v <= high;
    }

    private static boolean isRise(int rise) {
        return between(rise, 0, RISES - 1);
    }

    private static boolean isMonth(int month) {
        return between(month, 0, MONTHS - 1);
    }

    private boolean isRing(int ring) {
        return between(ring, 0, now.land.rings - 1);
    }

    private boolean isCell(int cell) {
        return between(cell, 0, now.land.cells - 1);
    }

    private boolean isPerson(int person) {
        return between(person, 0, now.folk.persons - 1);
    }

    private boolean isLot(int place) {
        return between(place, LOT, LOT + now.folk.lots - 1);
    }

    private boolean canGoBy(int rise, int n, int most) {
        return isRise(rise) && between(n, 1, most) && now.clock + n <= MONTHS;
    }

    private static int sum(int[] of, int count) {
        int all = 0;
        for (int i = 0; i < count; i++) {
            all += of[i];
        }
        return all;
    }

    private static void copy(int[] from, int[] to) {
        System.arraycopy(from, 0, to, 0, Math.min(from.length, to.length));
    }

    private static void fill(int[] of, int v) {
        for (int i = 0; i < of.length; i++) {
            of[i] = v;
        }
    }

    private static boolean hasBit(long set, int bit) {
        return (set >>> bit & 1L) != 0;
    }

    /** All that an image keeps. */
    private static final class World {
        int clock;
        int fund;
        int boats;
        int cantMonth = NONE;
        int area = NONE;
        final int[] holder = new int[CELLS];
        final Seas seas = new Seas();
        final Land land = new Land();
        final Folk folk = new Folk();
        final Law law = new Law();
        final Graves graves = new Graves();
        final int[] queue = new int[PERSONS];
        final int[] ringBeds = new int[RINGS];

        World() {
            fill(holder, NONE);
        }

        void copyFrom(World other) {
            clock = other.clock;
            fund = other.fund;
            boats = other.boats;
            cantMonth = other.cantMonth;
            area = other.area;
            copy(other.holder, holder);
            seas.copyFrom(other.seas);
            land.copyFrom(other.land);
            folk.copyFrom(other.folk);
            law.copyFrom(other.law);
            graves.copyFrom(other.graves);
        }

        /** The clock's MONTH goes by under a RISE. */
        void goBy(int rise) {
            if (clock >= MONTHS) {
                return;
            }
            nature(rise);
            land.wells.fillUp(land.cells, land.dry, seas.rain[clock % YEAR]);
            land.countBeds(ringBeds, 0);
            folk.drink(land);
            folk.sleep(ringBeds, 0);
            reckon();
            if (boats > 0) {
                law.line(ORDER, clock, folk, queue);
                long asked = law.whoIsSo(MAY, clock, folk, folk.onRings());
                folk.board(asked, queue, folk.persons, boats, clock);
            }
            clock++;
        }

        /** What no PERSON has a part in: REEF, SAND, the tides, BEDS given up. */
        void nature(int rise) {
            if (clock >= MONTHS) {
                return;
            }
            int t = clock % YEAR;
            int level = seas.known(rise, clock, clock);
            land.growReef(seas.warm[t] <= seas.bear ? seas.grow : -seas.die);
            land.walk(seas.drift[t]);
            land.tide(clock, level + seas.high[t], level + seas.low[t]);
            land.giveUpBeds();
        }

        /** AREA and THE FUND of the clock's MONTH, whose tides have been. */
        void reckon() {
            if (clock >= MONTHS) {
                return;
            }
            int fixed = law.fixIn(clock);
            int seen = fixed >= 0 && fixed < clock ? fixed : clock;
            area = land.countArea(land.rocks[seen], seas.reach);
            fund += folk.sendings() + law.leaveIn(clock) * area / 100 - seas.cost * land.countWalls();
            if (fund < 0 && cantMonth == NONE) {
                cantMonth = clock;
            }
        }

        /** SAND of a CELL when it has walked for n MONTHS more. */
        int sandBehind(int n, int cell) {
            for (int i = 0; i < n; i++) {
                land.walk(seas.drift[(clock + i) % YEAR]);
            }
            return land.sand[cell];
        }

        int wasDry(int cell) {
            if (clock == 0) {
                return NONE;
            }
            return land.isDry(cell) ? 1 : 0;
        }

        int wasRock(int cell) {
            if (clock == 0) {
                return NONE;
            }
            return hasBit(land.rocks[clock - 1], cell) ? 1 : 0;
        }

        boolean titleStands(int cell) {
            int person = holder[cell];
            if (person == NONE) {
                return false;
            }
            return wasDry(cell) != 0 || law.lastsFor(clock, folk, person, land.under[cell]);
        }

        /** The first by heir of a PERSON's KIN who isn't DEAD. */
        int heirOf(int person) {
            law.line(HEIR, clock, folk, queue);
            for (int i = 0; i < folk.persons; i++) {
                int other = queue[i];
                if (folk.kin[other] == folk.kin[person] && folk.place[other] != DEAD) {
                    return other;
                }
            }
            return NONE;
        }

        int passTitles(int person, int heir) {
            int held = 0;
            for (int c = 0; c < land.cells; c++) {
                if (holder[c] == person) {
                    holder[c] = heir;
                    held++;
                }
            }
            return held;
        }

        /** THE COUNCIL of those THERE: 2 not WHOLE, else whether more are for it. */
        int decide(long there) {
            long asked = folk.notDead();
            long members = law.whoIsSo(PEOPLE, clock, folk, asked) & law.whoIsSo(VOTE, clock, folk, asked);
            int present = Long.bitCount(members & there);
            if (100 * present < law.councilIn(clock) * Long.bitCount(members)) {
                return 2;
            }
            return folk.countVotes(members & there, 1) > folk.countVotes(members & there, 0) ? 1 : 0;
        }
    }

    /** LEVELS as they were told, TABLES and RULES. */
    private static final class Seas {
        int levels;
        final int[] rise = new int[LEVELS];
        final int[] month = new int[LEVELS];
        final int[] value = new int[LEVELS];
        final int[] told = new int[LEVELS];
        final int[] low = new int[YEAR];
        final int[] high = new int[YEAR];
        final int[] warm = new int[YEAR];
        final int[] drift = new int[YEAR];
        final int[] rain = new int[YEAR];
        int bear = 29;
        int grow = 1;
        int die = 10;
        int reach = 3;
        int cost = 5;

        Seas() {
            fill(high, 500);
            fill(warm, 25);
            fill(drift, 5);
            fill(rain, 20);
        }

        void copyFrom(Seas other) {
            levels = other.levels;
            copy(other.rise, rise);
            copy(other.month, month);
            copy(other.value, value);
            copy(other.told, told);
            copy(other.low, low);
            copy(other.high, high);
            copy(other.warm, warm);
            copy(other.drift, drift);
            copy(other.rain, rain);
            bear = other.bear;
            grow = other.grow;
            die = other.die;
            reach = other.reach;
            cost = other.cost;
        }

        int tell(int ofRise, int forMonth, int v, int clock) {
            if (levels >= LEVELS) {
                return NONE;
            }
            rise[levels] = ofRise;
            month[levels] = forMonth;
            value[levels] = v;
            told[levels] = clock;
            levels++;
            return levels;
        }

        /** LEVEL of a RISE in a MONTH as KNOWN in another. */
        int known(int ofRise, int inMonth, int known) {
            int own = UNTOLD;
            int ahead = UNTOLD;
            int behind = UNTOLD;
            int worst = UNTOLD;
            for (int i = 0; i < levels; i++) {
                if (rise[i] == ofRise && told[i] <= known) {
                    worst = Math.max(worst, value[i]);
                    if (month[i] == inMonth) {
                        own = value[i];
                    } else if (month[i] == inMonth - 1) {
                        ahead = value[i];
                    } else if (month[i] == inMonth + 1) {
                        behind = value[i];
                    }
                }
            }
            if (isNumber(own)) {
                return own;
            }
            if (own == NO_NUMBER && (isNumber(ahead) || isNumber(behind))) {
                return meanOfNumbers(ahead, behind);
            }
            return isNumber(worst) ? worst : 0;
        }

        private static boolean isNumber(int v) {
            return v > NO_NUMBER;
        }

        private static int meanOfNumbers(int a, int b) {
            if (!isNumber(a)) {
                return b;
            }
            return isNumber(b) ? (a + b) / 2 : a;
        }
    }

    /** RINGS and their CELLS. */
    private static final class Land {
        int rings;
        int cells;
        int deep;
        /** Sets of CELLS: those DRY in the latest MONTH, and the ROCKS of each MONTH. */
        long dry;
        final long[] rocks = new long[MONTHS];
        final int[] ring = new int[CELLS];
        final int[] height = new int[CELLS];
        final int[] x = new int[CELLS];
        final int[] y = new int[CELLS];
        final int[] sand = new int[CELLS];
        final int[] reef = new int[CELLS];
        final int[] wall = new int[CELLS];
        final int[] beds = new int[CELLS];
        final int[] under = new int[CELLS];
        final Wells wells = new Wells();
        /** The next CELL of a CELL's RING, and the first of a RING; NONE without. */
        final int[] next = new int[CELLS];
        final int[] first = new int[RINGS];
        private final int[] leaves = new int[CELLS];
        private final int[] rows = new int[SIDE];
        private final int[] widths = new int[FARTHEST_REACH + 1];

        Land() {
            fill(next, NONE);
            fill(first, NONE);
        }

        void copyFrom(Land other) {
            rings = other.rings;
            cells = other.cells;
            deep = other.deep;
            dry = other.dry;
            System.arraycopy(other.rocks, 0, rocks, 0, MONTHS);
            copy(other.ring, ring);
            copy(other.height, height);
            copy(other.x, x);
            copy(other.y, y);
            copy(other.sand, sand);
            copy(other.reef, reef);
            copy(other.wall, wall);
            copy(other.beds, beds);
            copy(other.under, under);
            wells.copyFrom(other.wells);
            copy(other.next, next);
            copy(other.first, first);
        }

        int addCell(int inRing, int high, int atX, int atY, int ofSand, int ofReef) {
            if (cells >= CELLS) {
                return NONE;
            }
            int c = cells;
            ring[c] = inRing;
            height[c] = high;
            x[c] = atX;
            y[c] = atY;
            sand[c] = ofSand;
            reef[c] = ofReef;
            joinRing(c, inRing);
            cells++;
            return c;
        }

        private void joinRing(int cell, int inRing) {
            int last = NONE;
            for (int c = 0; c < cell; c++) {
                if (ring[c] == inRing) {
                    last = c;
                }
            }
            if (last == NONE) {
                first[inRing] = cell;
            } else {
                next[last] = cell;
            }
        }

        int topOf(int cell) {
            return height[cell] + sand[cell] + reef[cell] / 4 + wall[cell];
        }

        boolean isDry(int cell) {
            return hasBit(dry, cell);
        }

        void growReef(int more) {
            for (int c = 0; c < cells; c++) {
                reef[c] = Math.max(0, Math.min(400, reef[c] + more));
            }
        }

        /** SAND walks, all at once: what leaves each CELL is told before any of it comes. */
        void walk(int drift) {
            for (int c = 0; c < cells; c++) {
                leaves[c] = wall[c] == 0 ? Math.min(sand[c], drift) : 0;
            }
            for (int c = 0; c < cells; c++) {
                sand[c] -= leaves[c];
                if (next[c] == NONE) {
                    deep += leaves[c];
                } else {
                    sand[next[c]] += leaves[c];
                }
            }
        }

        void tide(int month, int high, int low) {
            dry = 0;
            long rock = 0;
            for (int c = 0; c < cells; c++) {
                int top = topOf(c);
                if (top > low) {
                    rock |= 1L << c;
                }
                if (top > high) {
                    dry |= 1L << c;
                    under[c] = 0;
                } else {
                    under[c]++;
                }
            }
            if (month >= 0 && month < MONTHS) {
                rocks[month] = rock;
            }
        }

        void giveUpBeds() {
            for (int c = 0; c < cells; c++) {
                if (!isDry(c)) {
                    beds[c] = 0;
                }
            }
        }

        /** The first CELL of a RING, from one of its CELLS on, whose WELL is SWEET; NONE without. */
        int sweetFrom(int cell) {
            int c = cell;
            for (int i = 0; i < cells && c != NONE && !wells.isSweet(c); i++) {
                c = next[c];
            }
            return c;
        }

        /** BEDS of each RING's CELLS together, from a place of the row on. */
        void countBeds(int[] row, int from) {
            if (from < 0 || from + RINGS > row.length) {
                return;
            }
            for (int r = 0; r < RINGS; r++) {
                row[from + r] = 0;
            }
            for (int c = 0; c < cells; c++) {
                row[from + ring[c]] += beds[c];
            }
        }

        int countWalls() {
            int walls = 0;
            for (int c = 0; c < cells; c++) {
                if (wall[c] > 0) {
                    walls++;
                }
            }
            return walls;
        }

        /** How many places lie within reach of one of these CELLS; a row of places is an int's bits. */
        int countArea(long ofCells, int reach) {
            fill(rows, 0);
            measure(reach);
            for (int c = 0; c < cells; c++) {
                if (hasBit(ofCells, c)) {
                    mark(x[c], y[c], reach);
                }
            }
            int places = 0;
            for (int i = 0; i < SIDE; i++) {
                places += Integer.bitCount(rows[i]);
            }
            return places;
        }

        /** How far to the side reach goes in a row that lies so many rows off. */
        private void measure(int reach) {
            int w = reach;
            for (int off = 0; off <= reach && off < widths.length; off++) {
                while (w > 0 && w * w + off * off > reach * reach) {
                    w--;
                }
                widths[off] = w;
            }
        }

        private void mark(int atX, int atY, int reach) {
            int from = Math.max(0, atY - reach);
            int to = Math.min(SIDE - 1, atY + reach);
            for (int row = from; row <= to; row++) {
                int off = Math.abs(row - atY);
                if (off < widths.length) {
                    int left = Math.max(0, atX - widths[off]);
                    int right = Math.min(SIDE - 1, atX + widths[off]);
                    rows[row] |= (-1 << left) & (-1 >>> (SIDE - 1 - right));
                }
            }
        }
    }

    /** WELLS by CELLS; a CELL whose well gathers nothing has none. */
    private static final class Wells {
        final int[] gathers = new int[CELLS];
        final int[] lens = new int[CELLS];
        final int[] salt = new int[CELLS];

        void copyFrom(Wells other) {
            copy(other.gathers, gathers);
            copy(other.lens, lens);
            copy(other.salt, salt);
        }

        boolean isAt(int cell) {
            return gathers[cell] > 0;
        }

        void dig(int cell, int ofRain, int ofLens, int ofSalt) {
            gathers[cell] = ofRain;
            lens[cell] = ofLens;
            salt[cell] = ofSalt;
        }

        void fillUp(int cells, long dry, int rain) {
            for (int c = 0; c < cells; c++) {
                if (!isAt(c)) {
                    continue;
                }
                if (hasBit(dry, c)) {
                    lens[c] = Math.min(10000, lens[c] + rain * gathers[c]);
                    salt[c] = Math.max(0, salt[c] - 1);
                } else {
                    salt[c] = Math.min(100, salt[c] + 10);
                }
            }
        }

        boolean isSweet(int cell) {
            return isAt(cell) && salt[cell] <= 20 && lens[cell] >= 10;
        }
    }

    /** PERSONS and the LOTS that they go to. */
    private static final class Folk {
        private static final int GROUPS = RINGS * KINS;
        private static final int NOT_LOOKED_AT = -2;

        int persons;
        final int[] kin = new int[PERSONS];
        final int[] age = new int[PERSONS];
        final int[] craft = new int[PERSONS];
        final int[] send = new int[PERSONS];
        final int[] place = new int[PERSONS];
        final int[] thirst = new int[PERSONS];
        final int[] noBed = new int[PERSONS];
        final int[] went = new int[PERSONS];
        final int[] vote = new int[PERSONS];
        int lots;
        final int[] lotBeds = new int[LOTS];
        private final int[] ofRing = new int[RINGS];
        private final int[] free = new int[LOTS];
        private final int[] groupSize = new int[GROUPS];
        private final int[] groupLot = new int[GROUPS];

        void copyFrom(Folk other) {
            persons = other.persons;
            copy(other.kin, kin);
            copy(other.age, age);
            copy(other.craft, craft);
            copy(other.send, send);
            copy(other.place, place);
            copy(other.thirst, thirst);
            copy(other.noBed, noBed);
            copy(other.went, went);
            copy(other.vote, vote);
            lots = other.lots;
            copy(other.lotBeds, lotBeds);
        }

        int addPerson(int ofKin, int ofAge, int ofCraft, int inPlace, int sends) {
            if (persons >= PERSONS) {
                return NONE;
            }
            int p = persons;
            kin[p] = ofKin;
            age[p] = ofAge;
            craft[p] = ofCraft;
            place[p] = inPlace;
            send[p] = sends;
            thirst[p] = 0;
            noBed[p] = 0;
            went[p] = NONE;
            vote[p] = NONE;
            persons++;
            return p;
        }

        boolean isOnRing(int person) {
            return place[person] < RINGS;
        }

        long onRings() {
            long set = 0;
            for (int p = 0; p < persons; p++) {
                if (isOnRing(p)) {
                    set |= 1L << p;
                }
            }
            return set;
        }

        long notDead() {
            long set = 0;
            for (int p = 0; p < persons; p++) {
                if (place[p] != DEAD) {
                    set |= 1L << p;
                }
            }
            return set;
        }

        int countAt(int where) {
            int there = 0;
            for (int p = 0; p < persons; p++) {
                if (place[p] == where) {
                    there++;
                }
            }
            return there;
        }

        int freeBeds(int lot) {
            return lotBeds[lot] - countAt(LOT + lot);
        }

        int sendings() {
            int coins = 0;
            for (int p = 0; p < persons; p++) {
                if (place[p] == ABROAD) {
                    coins += send[p];
                }
            }
            return coins;
        }

        int countVotes(long of, int v) {
            int votes = 0;
            for (int p = 0; p < persons; p++) {
                if (hasBit(of, p) && vote[p] == v) {
                    votes++;
                }
            }
            return votes;
        }

        /** What a NAME is of a PERSON. */
        int valueOf(int person, int name, int month) {
            switch (name) {
                case AGE:
                    return age[person];
                case KIN:
                    return kin[person];
                case CRAFT:
                    return craft[person];
                case PLACE:
                    return place[person];
                case MONTH:
                    return month;
                default:
                    return 0;
            }
        }

        /**
         * PERSONS on RINGS drink: how many have THIRST. A WELL that isn't SWEET any more
         * stays so until the next MONTH, so each RING's first SWEET one is sought onwards.
         */
        int drink(Land land) {
            copy(land.first, ofRing);
            int thirsty = 0;
            for (int p = 0; p < persons; p++) {
                if (isOnRing(p)) {
                    int well = land.sweetFrom(ofRing[place[p]]);
                    ofRing[place[p]] = well;
                    if (well == NONE) {
                        thirst[p]++;
                        thirsty++;
                    } else {
                        land.wells.lens[well] -= 10;
                    }
                }
            }
            return thirsty;
        }

        /** PERSONS on RINGS sleep: how many have NO BED. The row has each RING's BEDS from a place on. */
        int sleep(int[] beds, int from) {
            if (from < 0 || from + RINGS > beds.length) {
                return 0;
            }
            System.arraycopy(beds, from, ofRing, 0, RINGS);
            int without = 0;
            for (int p = 0; p < persons; p++) {
                if (isOnRing(p)) {
                    if (ofRing[place[p]] > 0) {
                        ofRing[place[p]]--;
                    } else {
                        noBed[p]++;
                        without++;
                    }
                }
            }
            return without;
        }

        /** BOATS: of those who may, by the queue, each with its KIN of that RING. */
        void board(long may, int[] queue, int count, int boats, int month) {
            countGroups(may);
            for (int lot = 0; lot < lots; lot++) {
                free[lot] = freeBeds(lot);
            }
            int left = boats;
            for (int i = 0; i < count && i < queue.length; i++) {
                int p = queue[i];
                if (!hasBit(may, p) || !isOnRing(p)) {
                    continue;
                }
                int g = groupOf(p);
                if (groupLot[g] == NOT_LOOKED_AT) {
                    groupLot[g] = groupSize[g] <= left ? takeLot(groupSize[g]) : NONE;
                    left -= groupLot[g] == NONE ? 0 : groupSize[g];
                }
                if (groupLot[g] != NONE) {
                    place[p] = LOT + groupLot[g];
                    went[p] = month;
                }
            }
        }

        private int groupOf(int person) {
            return place[person] * KINS + kin[person];
        }

        private void countGroups(long may) {
            fill(groupSize, 0);
            fill(groupLot, NOT_LOOKED_AT);
            for (int p = 0; p < persons; p++) {
                if (hasBit(may, p) && isOnRing(p)) {
                    groupSize[groupOf(p)]++;
                }
            }
        }

        /** The first LOT with so many free BEDS, which are taken; NONE without. */
        private int takeLot(int many) {
            for (int lot = 0; lot < lots; lot++) {
                if (free[lot] >= many) {
                    free[lot] -= many;
                    return lot;
                }
            }
            return NONE;
        }
    }

    /** GRAVES: the CELL of each, and the set of those that it lay in at any time. */
    private static final class Graves {
        int count;
        final int[] cell = new int[GRAVES];
        final long[] lay = new long[GRAVES];

        void copyFrom(Graves other) {
            count = other.count;
            copy(other.cell, cell);
            System.arraycopy(other.lay, 0, lay, 0, GRAVES);
        }

        int dig(int inCell) {
            if (count >= GRAVES) {
                return NONE;
            }
            cell[count] = inCell;
            lay[count] = 1L << inCell;
            count++;
            return count - 1;
        }

        boolean carry(int grave, int to) {
            if (cell[grave] == to) {
                return false;
            }
            cell[grave] = to;
            lay[grave] |= 1L << to;
            return true;
        }

        int whereNow(int layIn, int i) {
            int ahead = 0;
            for (int g = 0; g < count; g++) {
                if (hasBit(lay[g], layIn)) {
                    if (ahead == i) {
                        return cell[g];
                    }
                    ahead++;
                }
            }
            return NONE;
        }
    }

    /** TEXTS and the FORCES by which they hold. */
    private static final class Law {
        int textCount;
        final Text[] texts = new Text[TEXTS];
        int forces;
        final int[] forceText = new int[FORCES];
        final int[] forceFrom = new int[FORCES];
        final int[] forceTo = new int[FORCES];
        private final int[] names = new int[UNDER - AGE + 1];
        private final int[] stack = new int[STACK];

        /** A TEXT never changes when it has been read, so an image may have the same one. */
        void copyFrom(Law other) {
            textCount = other.textCount;
            for (int i = 0; i < TEXTS; i++) {
                texts[i] = other.texts[i];
            }
            forces = other.forces;
            copy(other.forceText, forceText);
            copy(other.forceFrom, forceFrom);
            copy(other.forceTo, forceTo);
        }

        int addForce(int text, int from, int to) {
            if (forces >= FORCES) {
                return NONE;
            }
            forceText[forces] = text;
            forceFrom[forces] = from;
            forceTo[forces] = to;
            forces++;
            return forces - 1;
        }

        /** THE TEXT for a sort of CLAUSE in a MONTH; null without. */
        private Text textFor(int sort, int month) {
            for (int f = forces - 1; f >= 0; f--) {
                if (forceFrom[f] <= month && month <= forceTo[f]) {
                    Text text = texts[forceText[f]];
                    if (text != null && text.firstOf(sort) != NONE) {
                        return text;
                    }
                }
            }
            return null;
        }

        int councilIn(int month) {
            return numberIn(COUNCIL, month, 50);
        }

        int leaveIn(int month) {
            return numberIn(LEAVE, month, 10);
        }

        int fixIn(int month) {
            return numberIn(FIX, month, NONE);
        }

        private int numberIn(int sort, int month, int without) {
            Text text = textFor(sort, month);
            return text == null ? without : text.numberOf(sort, without);
        }

        /** Those of the PERSONS asked about for whom people, may or vote is so. */
        long whoIsSo(int sort, int month, Folk folk, long asked) {
            Text text = textFor(sort, month);
            if (text == null) {
                return asked;
            }
            long so = 0;
            for (int p = 0; p < folk.persons; p++) {
                if (hasBit(asked, p)) {
                    nameAll(folk, p, month, 0);
                    if (text.firstSo(sort, names, stack) != NONE) {
                        so |= 1L << p;
                    }
                }
            }
            return so;
        }

        /** The first CLAUSE by which it is so; NONE without. */
        int clauseBy(int sort, int month, Folk folk, int person) {
            Text text = textFor(sort, month);
            if (text == null) {
                return NONE;
            }
            nameAll(folk, person, month, 0);
            return text.firstSo(sort, names, stack);
        }

        boolean lastsFor(int month, Folk folk, int holder, int under) {
            Text text = textFor(LASTS, month);
            if (text == null) {
                return false;
            }
            nameAll(folk, holder, month, under);
            return text.firstSo(LASTS, names, stack) != NONE;
        }

        private void nameAll(Folk folk, int person, int month, int under) {
            for (int name = AGE; name < UNDER; name++) {
                names[name - AGE] = folk.valueOf(person, name, month);
            }
            names[UNDER - AGE] = under;
        }

        /** All PERSONS into a queue, by order or heir. */
        void line(int sort, int month, Folk folk, int[] queue) {
            int count = Math.min(folk.persons, queue.length);
            for (int p = 0; p < count; p++) {
                queue[p] = p;
            }
            Text text = textFor(sort, month);
            if (text == null) {
                return;
            }
            int clause = text.firstOf(sort);
            for (int i = 1; i < count; i++) {
                int p = queue[i];
                int to = i;
                while (to > 0 && text.isAhead(clause, folk, p, queue[to - 1])) {
                    queue[to] = queue[to - 1];
                    to--;
                }
                queue[to] = p;
            }
        }
    }

    /**
     * A TEXT that was read. Of each CLAUSE there is its sort and its part of the code: of an
     * EITHER what is to be done, operands first (a number is itself, else the TOKEN less than 0);
     * of KEYS each NAME (less than 0 with -); else the NUMBER.
     */
    private static final class Text {
        int clauses;
        final int[] sorts = new int[CLAUSES];
        final int[] from = new int[CLAUSES + 1];
        final int[] code = new int[BYTES];

        /** The first CLAUSE of a sort; NONE without. */
        int firstOf(int sort) {
            for (int c = 0; c < clauses; c++) {
                if (sorts[c] == sort) {
                    return c;
                }
            }
            return NONE;
        }

        int numberOf(int sort, int without) {
            int clause = firstOf(sort);
            return clause == NONE ? without : code[from[clause]];
        }

        /** The first CLAUSE of a sort that is so for these NAMES; NONE without. */
        int firstSo(int sort, int[] names, int[] stack) {
            for (int c = 0; c < clauses; c++) {
                if (sorts[c] == sort && work(c, names, stack) != 0) {
                    return c;
                }
            }
            return NONE;
        }

        /** Whether by these KEYS one PERSON comes ahead of the other. */
        boolean isAhead(int clause, Folk folk, int person, int other) {
            if (clause < 0 || clause >= clauses) {
                return false;
            }
            for (int i = from[clause]; i < from[clause + 1]; i++) {
                int name = Math.abs(code[i]);
                int compared = Integer.compare(folk.valueOf(person, name, 0), folk.valueOf(other, name, 0));
                if (compared != 0) {
                    return code[i] < 0 ? compared > 0 : compared < 0;
                }
            }
            return false;
        }

        /** What an EITHER comes to: 1 if it is so, else 0. */
        private int work(int clause, int[] names, int[] stack) {
            int top = -1;
            for (int i = from[clause]; i < from[clause + 1]; i++) {
                int token = -code[i];
                if (token <= 0 || token >= AGE && token <= UNDER) {
                    top++;
                    if (top >= stack.length) {
                        return 0;
                    }
                    stack[top] = token <= 0 ? code[i] : names[token - AGE];
                } else if (token == NOT || token == NEGATE) {
                    if (top < 0) {
                        return 0;
                    }
                    stack[top] = token == NOT ? 1 - stack[top] : -stack[top];
                } else {
                    top--;
                    if (top < 0) {
                        return 0;
                    }
                    stack[top] = join(token, stack[top], stack[top + 1]);
                }
            }
            return top == 0 ? stack[top] : 0;
        }

        private static int join(int token, int a, int b) {
            long v;
            switch (token) {
                case OR:
                    return a | b;
                case AND:
                    return a & b;
                case LESS:
                    return a < b ? 1 : 0;
                case LESS_OR_LIKE:
                    return a <= b ? 1 : 0;
                case MORE:
                    return a > b ? 1 : 0;
                case MORE_OR_LIKE:
                    return a >= b ? 1 : 0;
                case LIKE:
                    return a == b ? 1 : 0;
                case UNLIKE:
                    return a != b ? 1 : 0;
                case PLUS:
                    v = (long) a + b;
                    break;
                case MINUS:
                    v = (long) a - b;
                    break;
                case TIMES:
                    v = (long) a * b;
                    break;
                default:
                    return b == 0 ? 0 : a / b;
            }
            return (int) Math.max(-GREATEST, Math.min(GREATEST, v));
        }
    }

    /** The tape, and its TOKENS one behind the other. */
    private static final class Scanner {
        final int[] tape = new int[BYTES];
        int length;
        /** The TOKEN that was come to, its first byte, and its value if it is a NUMBER. */
        int token;
        int start;
        int value;
        private int at;

        /** Four bytes behind the tape, the highest first. */
        void append(int four) {
            for (int shift = 24; shift >= 0 && length < BYTES; shift -= 8) {
                tape[length] = four >>> shift & 255;
                length++;
            }
        }

        void rewind() {
            at = 0;
        }

        void advance() {
            while (at < length && (tape[at] == ' ' || tape[at] == '\n')) {
                at++;
            }
            start = at;
            if (at >= length) {
                token = END;
            } else if (isDigit(tape[at])) {
                takeNumber();
            } else if (isLetter(tape[at])) {
                takeWord();
            } else {
                token = signOf(tape[at]);
                at++;
                takeLonger();
            }
        }

        private static boolean isDigit(int b) {
            return b >= '0' && b <= '9';
        }

        private static boolean isLetter(int b) {
            return b >= 'a' && b <= 'z' || b >= 'A' && b <= 'Z';
        }

        /** A value above NUMBERS stays one however many digits follow. */
        private void takeNumber() {
            token = NUMBER;
            value = 0;
            while (at < length && isDigit(tape[at])) {
                value = Math.min(NUMBERS + 1, value * 10 + tape[at] - '0');
                at++;
            }
        }

        private void takeWord() {
            while (at < length && isLetter(tape[at])) {
                at++;
            }
            token = NO_TOKEN;
            int word = 0;
            int matched = start;
            boolean like = true;
            for (int i = 0; i < WORDS.length() && token == NO_TOKEN; i++) {
                if (WORDS.charAt(i) != ' ') {
                    like = like && matched < at && tape[matched] == WORDS.charAt(i);
                    matched++;
                } else if (like && matched == at) {
                    token = word;
                } else {
                    word++;
                    matched = start;
                    like = true;
                }
            }
        }

        private static int signOf(int sign) {
            switch (sign) {
                case '<':
                    return LESS;
                case '>':
                    return MORE;
                case '=':
                    return LIKE;
                case '#':
                    return UNLIKE;
                case '+':
                    return PLUS;
                case '-':
                    return MINUS;
                case '*':
                    return TIMES;
                case '/':
                    return OVER;
                case '(':
                    return LEFT;
                case ')':
                    return RIGHT;
                case ',':
                    return COMMA;
                case ';':
                    return SEMICOLON;
                default:
                    return NO_TOKEN;
            }
        }

        /** With a = behind them < and > are <= and >=. */
        private void takeLonger() {
            boolean likeFollows = at < length && tape[at] == '=';
            if (likeFollows && (token == LESS || token == MORE)) {
                token = token == LESS ? LESS_OR_LIKE : MORE_OR_LIKE;
                at++;
            }
        }
    }

    /** Reads the tape as a TEXT, or finds its first FAULT. */
    private static final class Reader {
        final Scanner scanner = new Scanner();
        /** Of the latest TEXT that was read. */
        int fault = NONE;
        int place = NONE;
        private Text draft = new Text();
        private int codes;
        /** What waits in an EITHER for what is behind it: operators, and each ( not and - that is open. */
        private final int[] waiting = new int[STACK];
        private int waits;
        private int open;
        private int brackets;
        private boolean atAsk;
        private boolean compared;
        private boolean closed;

        /** The TEXT of the tape; of no use if there is a FAULT. */
        Text read() {
            fault = 0;
            place = NONE;
            draft = new Text();
            codes = 0;
            scanner.rewind();
            scanner.advance();
            for (int i = 0; i <= BYTES && fault == 0 && scanner.token != END; i++) {
                readClause();
                scanner.advance();
            }
            return draft;
        }

        /** The TOKEN that was come to has a FAULT; the first that is told stays. */
        private void refuse(int which) {
            if (fault == 0) {
                fault = which;
                place = scanner.start;
            }
        }

        private void emit(int code) {
            if (codes < BYTES) {
                draft.code[codes] = code;
                codes++;
            }
        }

        private void readClause() {
            int sort = scanner.token;
            if (sort > LEAVE) {
                refuse(CANT_STAND);
            } else if (sort >= ORDER && draft.firstOf(sort) != NONE) {
                refuse(SECOND);
            } else if (draft.clauses >= CLAUSES) {
                refuse(TOO_MANY);
            } else {
                draft.sorts[draft.clauses] = sort;
                draft.clauses++;
                if (sort < ORDER) {
                    readEither();
                } else if (sort <= HEIR) {
                    readKeys();
                } else {
                    readNumber(mostOf(sort));
                }
                draft.from[draft.clauses] = codes;
            }
        }

        private static int mostOf(int sort) {
            switch (sort) {
                case COUNCIL:
                    return 100;
                case FIX:
                    return MONTHS - 1;
                default:
                    return 1000;
            }
        }

        private void readNumber(int most) {
            scanner.advance();
            if (scanner.token != NUMBER) {
                refuse(CANT_STAND);
            } else if (scanner.value > most) {
                refuse(NOT_TOLD);
            } else {
                emit(scanner.value);
                scanner.advance();
                expectSemicolon();
            }
        }

        private void expectSemicolon() {
            if (scanner.token != SEMICOLON) {
                refuse(CANT_STAND);
            }
        }

        private static boolean isName(int token) {
            return token >= AGE && token <= UNDER;
        }

        private void readKeys() {
            int keys = 0;
            boolean more = true;
            while (more && keys <= KEYS && fault == 0) {
                scanner.advance();
                readKey(keys);
                keys++;
                if (fault == 0) {
                    scanner.advance();
                }
                more = scanner.token == COMMA;
            }
            expectSemicolon();
        }

        private void readKey(int ahead) {
            boolean greatestFirst = scanner.token == MINUS;
            if (!greatestFirst && !isName(scanner.token)) {
                refuse(CANT_STAND);
            } else if (ahead >= KEYS) {
                refuse(TOO_MANY);
            } else if (greatestFirst) {
                scanner.advance();
                if (!isName(scanner.token)) {
                    refuse(CANT_STAND);
                }
            }
            emit(greatestFirst ? -scanner.token : scanner.token);
        }

        /** Each TOKEN has a byte at least, so the tape's length is never too few turns. */
        private void readEither() {
            waits = 0;
            open = 0;
            brackets = 0;
            atAsk = true;
            compared = false;
            closed = false;
            boolean oneIsDue = true;
            for (int i = 0; i <= BYTES && fault == 0 && !closed; i++) {
                scanner.advance();
                oneIsDue = oneIsDue ? readOne() : readBehindOne();
            }
        }

        /** A TOKEN where a ONE is due (or not): whether one is still due behind it. */
        private boolean readOne() {
            int token = scanner.token;
            if (token == NUMBER) {
                if (scanner.value > NUMBERS) {
                    refuse(NOT_TOLD);
                }
                emit(scanner.value);
                return false;
            }
            if (isName(token)) {
                emit(-token);
                return false;
            }
            if (token == MINUS || token == LEFT || token == NOT && atAsk) {
                openUp(token == MINUS ? NEGATE : token);
            } else {
                refuse(CANT_STAND);
            }
            return true;
        }

        private void openUp(int token) {
            if (open >= OPEN) {
                refuse(TOO_DEEP);
            }
            open++;
            if (token == LEFT) {
                brackets++;
            }
            atAsk = token == NOT;
            await(token);
        }

        /** A TOKEN behind a ONE: whether another is due behind it. */
        private boolean readBehindOne() {
            int token = scanner.token;
            atAsk = false;
            if (token >= PLUS && token <= OVER) {
                settle(rank(token));
                await(token);
                return true;
            }
            if (brackets > 0) {
                if (token != RIGHT) {
                    refuse(CANT_STAND);
                }
                settle(1);
                brackets--;
                open--;
                waits = Math.max(0, waits - 1);
                return false;
            }
            if (!compared && token >= LESS && token <= UNLIKE) {
                compared = true;
                settle(rank(token));
                await(token);
                return true;
            }
            if (compared && (token == OR || token == AND)) {
                compared = false;
                atAsk = true;
                settle(rank(token));
                await(token);
                return true;
            }
            if (!compared || token != SEMICOLON) {
                refuse(CANT_STAND);
            }
            settle(1);
            closed = true;
            return false;
        }

        /** How close a TOKEN holds what is beside it; a bracket holds till it is closed. */
        private static int rank(int token) {
            switch (token) {
                case OR:
                    return 1;
                case AND:
                    return 2;
                case NOT:
                    return 3;
                case PLUS:
                case MINUS:
                    return 5;
                case TIMES:
                case OVER:
                    return 6;
                case NEGATE:
                    return 7;
                case LEFT:
                    return 0;
                default:
                    return 4;
            }
        }

        private void await(int token) {
            if (waits < waiting.length) {
                waiting[waits] = token;
                waits++;
            }
        }

        /** What waits and holds as close or closer has all that it waited for. */
        private void settle(int rank) {
            while (waits > 0 && rank(waiting[waits - 1]) >= rank) {
                waits--;
                int token = waiting[waits];
                emit(-token);
                if (token == NOT || token == NEGATE) {
                    open--;
                }
            }
        }
    }

    /** THE ORDER of RINGS by which fewest have THIRST or NO BED. */
    private static final class RingOrders {
        private static final int MOST_ORDERS = 120;
        /** Each PERSON has THIRST and NO BED once in a MONTH at most. */
        private static final int MORE_THAN_LACK = 2 * PERSONS * LONGEST_ORDER + 1;

        int least;
        final int[] best = new int[RINGS];
        private final int[] order = new int[RINGS];
        private final int[] queue = new int[PERSONS];
        private int queued;
        /** Of each MONTH, for no order of RINGS changes it: who is DRY, each RING's BEDS, who may. */
        private final long[] dry = new long[LONGEST_ORDER];
        private final int[] beds = new int[LONGEST_ORDER * RINGS];
        private final long[] may = new long[LONGEST_ORDER];

        /** The trial is as it is now at first. */
        void seek(World now, World trial, int rise, int n) {
            int rings = now.land.rings;
            foresee(trial, rise, Math.min(n, LONGEST_ORDER));
            for (int i = 0; i < rings; i++) {
                order[i] = i;
            }
            least = MORE_THAN_LACK;
            boolean more = true;
            for (int i = 0; i < MOST_ORDERS && more; i++) {
                int lacks = lacksOf(now, trial, Math.min(n, LONGEST_ORDER));
                if (lacks < least) {
                    least = lacks;
                    copy(order, best);
                }
                more = toNextOrder(rings);
            }
        }

        /** Whoever is on a RING now has that PLACE until it goes, so who may can be asked once. */
        private void foresee(World trial, int rise, int n) {
            long onRings = trial.folk.onRings();
            for (int i = 0; i < n; i++) {
                trial.nature(rise);
                dry[i] = trial.land.dry;
                trial.land.countBeds(beds, i * RINGS);
                may[i] = trial.law.whoIsSo(MAY, trial.clock, trial.folk, onRings);
                trial.clock++;
            }
        }

        /** THIRST and NO BED by this order; told no further when they aren't below the least. */
        private int lacksOf(World now, World trial, int n) {
            trial.land.wells.copyFrom(now.land.wells);
            copy(now.folk.place, trial.folk.place);
            lineUp(now.folk, now.land.rings);
            int lacks = 0;
            for (int i = 0; i < n && lacks < least; i++) {
                int month = now.clock + i;
                trial.land.wells.fillUp(trial.land.cells, dry[i], now.seas.rain[month % YEAR]);
                lacks += trial.folk.drink(trial.land);
                lacks += trial.folk.sleep(beds, i * RINGS);
                if (now.boats > 0) {
                    trial.folk.board(may[i], queue, queued, now.boats, month);
                }
            }
            return lacks;
        }

        private void lineUp(Folk folk, int rings) {
            queued = 0;
            for (int i = 0; i < rings; i++) {
                for (int p = 0; p < folk.persons && queued < PERSONS; p++) {
                    if (folk.place[p] == order[i]) {
                        queue[queued] = p;
                        queued++;
                    }
                }
            }
        }

        /** The next order by RINGS' numbers; false behind the last one. */
        private boolean toNextOrder(int rings) {
            int turn = rings - 2;
            while (turn >= 0 && order[turn] > order[turn + 1]) {
                turn--;
            }
            if (turn < 0) {
                return false;
            }
            int higher = rings - 1;
            while (higher > turn && order[higher] < order[turn]) {
                higher--;
            }
            swap(turn, higher);
            for (int a = turn + 1, b = rings - 1; a < b; a++, b--) {
                swap(a, b);
            }
            return true;
        }

        private void swap(int a, int b) {
            int kept = order[a];
            order[a] = order[b];
            order[b] = kept;
        }
    }
}
