import java.util.Arrays;
import java.util.NoSuchElementException;

/** A street in which two houses whose smokes cross are wed till the wind turns. */
public final class SmokeWeds {
    public static final int NONE = -1;

    private static final int MOST_HOUSES = 8;
    private static final int MOST_SIDE = 12;
    private static final int FIELD_CELLS = 144;
    private static final int MOST_SIGNS = 1000;
    private static final int MOST_SIGHTS = 10;
    private static final int MOST_MARKS = 4;
    private static final int MOST_WITHIN = 5;
    private static final int DAY = 24;
    private static final int WINDS = 8;
    private static final int LONGEST_LAW = 20;
    // The longest row of cells in a field, and the one beyond it in which a lean house's plume may begin.
    private static final int REACH = 13;

    private static final int DRY = 0;
    private static final int WET = 1;
    private static final int PEAT = 2;
    private static final int LEAN = 3;
    private static final int OIL = 4;

    private static final int[] EASTWARD = {0, 1, 1, 1, 0, -1, -1, -1};
    private static final int[] SOUTHWARD = {-1, -1, 0, 1, 1, 1, 0, -1};

    // Above all that a house can pay in the hours of one day.
    private static final int UNPAYABLE = 1000000;

    private final Reader reader = new Reader();
    private final Tape tape = reader.tape;
    private final Smoke air = new Smoke();
    private final Life life = new Life();
    private final Mark[] marks = new Mark[MOST_MARKS];
    private final int[] wedInRun = new int[MOST_HOUSES];
    private Street here = new Street();

    public SmokeWeds() {
    }

    public int feed(long a, long b, long c) {
        tape.addBytes(a);
        tape.addBytes(b);
        tape.addBytes(c);
        return tape.length;
    }

    public int street() {
        int fault = reader.read();
        tape.length = 0;
        if (fault == 0) {
            Street last = here;
            here = reader.street;
            reader.street = last;
            life.begin();
        }
        return fault;
    }

    public int house(int house, int what) {
        if (!isHouse(house)) {
            return NONE;
        }
        switch (what) {
            case 0:
                return here.column[house];
            case 1:
                return here.row[house];
            case 2:
                return here.high[house];
            case 3:
                return here.kind[house];
            case 4:
                return life.lit >> house & 1;
            case 5:
                return life.closed >> house & 1;
            case 6:
                return life.wedTo[house];
            case 7:
                return life.paid[house];
            default:
                return NONE;
        }
    }

    public boolean light(int house, boolean lit) {
        if (!isHouse(house) || hasBit(life.lit, house) == lit) {
            return false;
        }
        life.lit ^= 1 << house;
        return true;
    }

    public boolean shut(int house, boolean shut) {
        if (!isHouse(house) || hasBit(life.closed, house) == shut) {
            return false;
        }
        life.closed ^= 1 << house;
        return true;
    }

    public int wind(int hours) {
        return hours < 0 || hours > 9999 ? NONE : here.windIn(life.hour + hours);
    }

    public int plume(int house) {
        return isHouse(house) ? lengthIfLit(house) : NONE;
    }

    public int smoke(int house, int i) {
        if (!isHouse(house) || i < 0 || i >= lengthIfLit(house)) {
            return NONE;
        }
        int way = here.windIn(life.hour);
        int column = here.firstColumn(house) + i * EASTWARD[way];
        int row = here.row[house] + i * SOUTHWARD[way];
        return here.hasCell(column, row) ? 16 * row + column : NONE;
    }

    public int meets(int house) {
        if (!isHouse(house)) {
            return NONE;
        }
        rise(0, life.burning());
        return air.met[house];
    }

    public int hours(int many) {
        if (many < 1 || many > 1000) {
            return NONE;
        }
        for (int i = 0; i < many; i++) {
            int way = here.windIn(life.hour);
            air.rise(here, life.hour, way, life.burning());
            life.pass(here, way, air);
        }
        return life.hour;
    }

    public int pair(int a, int b, int what) {
        if (!areTwo(a, b)) {
            return NONE;
        }
        int place = pairPlace(a, b);
        if (what == 0) {
            return life.hoursWed[place];
        }
        return what == 1 ? life.children[place] : NONE;
    }

    public int soot(int column, int row, int house) throws NoSuchElementException {
        if (!here.hasCell(column, row) || house != NONE && !isHouse(house)) {
            throw new NoSuchElementException();
        }
        return house == NONE ? life.drift(column, row) : life.black[sootPlace(house, column, row)];
    }

    public int only(int a, int b) {
        if (!areTwo(a, b)) {
            return NONE;
        }
        int burning = (life.lit | 1 << a | 1 << b) & ~life.closed;
        for (int behind = 0; behind < DAY; behind++) {
            rise(behind, burning);
            if (air.onlyMet(a, b)) {
                return behind;
            }
        }
        return NONE;
    }

    public int feast(int hours, int what) {
        if (hours < 0 || hours >= DAY || what < 0 || what > 1) {
            return NONE;
        }
        int open = (1 << here.houses) - 1 & ~life.closed;
        rise(hours, open);
        int guests = air.bestGuests(open);
        return what == 0 ? air.pairsIfNoneTwice(guests) : guests;
    }

    public int free(int house, int hours) {
        if (!isHouse(house) || hours < 1 || hours > DAY) {
            return NONE;
        }
        boolean isWed = life.wedTo[house] != 0;
        int leastFree = isWed ? UNPAYABLE : 0;
        int leastWed = isWed ? 0 : UNPAYABLE;
        int bit = 1 << house;
        int ahead = life.ahead;
        int price = hasBit(life.closed, house) ? here.cold : here.price(house);
        for (int behind = 0; behind < hours; behind++) {
            int way = rise(behind, (life.lit | bit) & ~life.closed);
            if (turns(ahead, way)) {
                leastFree = Math.min(leastFree, leastWed);
                leastWed = UNPAYABLE;
            }
            ahead = way;
            boolean weds = air.met[house] != 0;
            int litFree = weds ? UNPAYABLE : leastFree + price;
            int litWed = (weds ? Math.min(leastFree, leastWed) : leastWed) + price;
            leastFree = Math.min(leastFree + here.cold, litFree);
            leastWed = Math.min(leastWed + here.cold, litWed);
        }
        return leastFree < UNPAYABLE ? leastFree : NONE;
    }

    public int sight(int a, int b, boolean met) {
        if (!areTwo(a, b) || life.sights >= MOST_SIGHTS) {
            return NONE;
        }
        life.addSight(a, b, met);
        return life.sights;
    }

    public boolean clear() {
        life.sights = 0;
        return true;
    }

    public int fits() {
        int winds = 0;
        for (int way = 0; way < WINDS; way++) {
            air.rise(here, life.hour, way, life.burning());
            if (life.allSightsAreSo(air)) {
                winds |= 1 << way;
            }
        }
        return winds;
    }

    public int share(int column, int row, int house, int what) {
        if (!here.hasCell(column, row) || !isHouse(house) || what < 0 || what > 1) {
            return NONE;
        }
        int all = life.drift(column, row);
        int own = life.black[sootPlace(house, column, row)];
        int common = commonDivisor(all, own);
        if (all < 1 || common < 1) {
            return NONE;
        }
        return (what == 0 ? own : all) / common;
    }

    public int days(int seed, int runs, int hours, int what) {
        if (seed < 0 || seed > 9999 || runs < 1 || runs > 20) {
            return NONE;
        }
        if (hours < 1 || hours > 72 || what < 0 || what > 1) {
            return NONE;
        }
        long g = seed;
        int weddings = 0;
        int most = 0;
        for (int run = 0; run < runs; run++) {
            System.arraycopy(life.wedTo, 0, wedInRun, 0, MOST_HOUSES);
            int ahead = life.ahead;
            for (int behind = 0; behind < hours; behind++) {
                int way = here.windIn(life.hour + behind);
                g = nextDraw(g);
                if (drawBelow(g, 10) < here.turns) {
                    g = nextDraw(g);
                    way = drawBelow(g, WINDS);
                }
                air.rise(here, life.hour + behind, way, life.burning());
                weddings += wed(wedInRun, turns(ahead, way), air.met);
                most = Math.max(most, wedOften(wedInRun));
                ahead = way;
            }
        }
        return what == 0 ? weddings : most;
    }

    public boolean mark(int mark, boolean back) {
        if (mark < 0 || mark >= MOST_MARKS) {
            return false;
        }
        Mark laid = marks[mark];
        if (back) {
            if (laid == null) {
                return false;
            }
            here.copy(laid.street);
            life.copy(laid.life);
            return true;
        }
        if (laid == null) {
            laid = new Mark();
            marks[mark] = laid;
        }
        laid.street.copy(here);
        laid.life.copy(life);
        return true;
    }

    public int count(int what) {
        switch (what) {
            case 0:
                return here.columns;
            case 1:
                return here.rows;
            case 2:
                return here.houses;
            case 3:
                return life.hour;
            case 4:
                return pairsIn(life.wedTo);
            case 5:
                return sum(life.children);
            case 6:
                return sum(life.black);
            case 7:
                return life.sights;
            case 8:
                return tape.length;
            default:
                return NONE;
        }
    }

    private boolean isHouse(int house) {
        return house >= 0 && house < here.houses;
    }

    private boolean areTwo(int a, int b) {
        return isHouse(a) && isHouse(b) && a != b;
    }

    private int lengthIfLit(int house) {
        return hasBit(life.closed, house) ? 0 : here.plumeLength(house, life.hour, here.windIn(life.hour));
    }

    /** The smoke in the hour behind so many, by that hour's own wind, which it answers. */
    private int rise(int behind, int burning) {
        int way = here.windIn(life.hour + behind);
        air.rise(here, life.hour + behind, way, burning);
        return way;
    }

    private static boolean hasBit(int bits, int place) {
        return (bits >> place & 1) != 0;
    }

    private static boolean turns(int ahead, int way) {
        return ahead != NONE && ahead != way;
    }

    private static int pairPlace(int a, int b) {
        return Math.min(a, b) * MOST_HOUSES + Math.max(a, b);
    }

    private static int cellPlace(int column, int row) {
        return row * MOST_SIDE + column;
    }

    private static int sootPlace(int house, int column, int row) {
        return house * FIELD_CELLS + cellPlace(column, row);
    }

    private static long nextDraw(long g) {
        return (g * 1103515245L + 12345L) % 2147483648L;
    }

    private static int drawBelow(long g, int bound) {
        return (int) (g / 65536 % Math.max(bound, 1));
    }

    private static int sum(int[] numbers) {
        int all = 0;
        for (int number : numbers) {
            all += number;
        }
        return all;
    }

    private static int pairsIn(int[] others) {
        int ends = 0;
        for (int bits : others) {
            ends += Integer.bitCount(bits);
        }
        return ends / 2;
    }

    private static int wedOften(int[] wedTo) {
        int houses = 0;
        for (int bits : wedTo) {
            if (Integer.bitCount(bits) >= 2) {
                houses++;
            }
        }
        return houses;
    }

    /** Weds those who meet, behind a turn of the wind if there was one; answers how many pairs are newly wed. */
    private static int wed(int[] wedTo, boolean turned, int[] met) {
        int newEnds = 0;
        for (int house = 0; house < MOST_HOUSES; house++) {
            int still = turned ? 0 : wedTo[house];
            newEnds += Integer.bitCount(met[house] & ~still);
            wedTo[house] = still | met[house];
        }
        return newEnds / 2;
    }

    private static int commonDivisor(int a, int b) {
        int more = a;
        int less = b;
        for (int step = 0; step < 100 && less != 0; step++) {
            int rest = more % less;
            more = less;
            less = rest;
        }
        return more;
    }

    /** The words of the language; those that are not reserved may be names of houses. */
    private enum Word {
        FIELD("field", true, NONE), WIND("wind", true, NONE), PLUME("plume", true, NONE),
        COLD("cold", true, NONE), TURNS("turns", true, NONE), HOUSE("house", true, NONE),
        AT("at", true, NONE), HIGH("high", true, NONE),
        DRY_STUFF("dry", true, DRY), WET_STUFF("wet", true, WET), PEAT_STUFF("peat", true, PEAT),
        LEAN_STUFF("lean", true, LEAN), OIL_STUFF("oil", true, OIL),
        NOT("not", true, NONE), AND("and", true, NONE), OR("or", true, NONE),
        HOUR("hour", false, NONE), DAYS("day", false, NONE), WAY("way", false, NONE);

        private static final Word[] ALL = values();

        final long key;
        final boolean reserved;
        final int kind;

        Word(String text, boolean reserved, int kind) {
            long letters = 0;
            for (int i = 0; i < text.length(); i++) {
                letters = withLetter(letters, text.charAt(i));
            }
            this.key = letters;
            this.reserved = reserved;
            this.kind = kind;
        }

        /** A word of at most eight letters is one number: no text needs to be made to compare it. */
        static long withLetter(long letters, int letter) {
            return letters << 8 | letter;
        }

        static Word ofKey(long key) {
            for (int i = 0; i < ALL.length; i++) {
                if (ALL[i].key == key) {
                    return ALL[i];
                }
            }
            return null;
        }
    }

    private static final class Tape {
        final byte[] signs = new byte[MOST_SIGNS];
        int length;

        void addBytes(long bytes) {
            for (int shift = 56; shift >= 0; shift -= 8) {
                int sign = (int) (bytes >>> shift) & 255;
                boolean isSign = sign == 10 || sign >= 32 && sign <= 126;
                if (isSign && length < signs.length) {
                    signs[length] = (byte) sign;
                    length++;
                }
            }
        }
    }

    /** A told E, as a row of steps over a stack: a number is put on it, a negative step is a fact or a deed. */
    private static final class Law {
        static final int HOUR = -1;
        static final int DAYS = -2;
        static final int HIGH = -3;
        static final int WAY = -4;
        static final int NOT = -5;
        static final int AND = -6;
        static final int OR = -7;
        static final int LESS = -8;
        static final int EQUAL = -9;
        static final int PLUS = -10;
        static final int MINUS = -11;
        static final int TIMES = -12;

        final int[] steps = new int[MOST_SIGNS];
        // Each of at most five levels has at most four values waiting (for or, <, +, *) below its part.
        final int[] stack = new int[32];
        int size;

        void beginWith(int step) {
            size = 0;
            addStep(step);
        }

        void addStep(int step) {
            if (size < steps.length) {
                steps[size] = step;
                size++;
            }
        }

        void copy(Law other) {
            System.arraycopy(other.steps, 0, steps, 0, other.size);
            size = other.size;
        }

        int value(int hour, int high, int way) {
            int top = 0;
            for (int i = 0; i < size; i++) {
                int step = steps[i];
                if (step >= WAY) {
                    if (top < stack.length) {
                        stack[top] = step >= 0 ? step : fact(step, hour, high, way);
                        top++;
                    }
                } else if (step == NOT) {
                    if (top >= 1) {
                        stack[top - 1] = stack[top - 1] == 0 ? 1 : 0;
                    }
                } else if (top >= 2) {
                    top--;
                    stack[top - 1] = joined(step, stack[top - 1], stack[top]);
                }
            }
            return stack[0];
        }

        private static int fact(int step, int hour, int high, int way) {
            if (step == HOUR) {
                return hour % DAY;
            }
            if (step == DAYS) {
                return hour / DAY;
            }
            return step == HIGH ? high : way;
        }

        private static int joined(int step, int a, int b) {
            switch (step) {
                case AND:
                    return a != 0 && b != 0 ? 1 : 0;
                case OR:
                    return a != 0 || b != 0 ? 1 : 0;
                case LESS:
                    return a < b ? 1 : 0;
                case EQUAL:
                    return a == b ? 1 : 0;
                case PLUS:
                    return a + b;
                case MINUS:
                    return a - b;
                default:
                    return a * b;
            }
        }
    }

    /** What a street's text tells. */
    private static final class Street {
        final int[] column = new int[MOST_HOUSES];
        final int[] row = new int[MOST_HOUSES];
        final int[] high = new int[MOST_HOUSES];
        final int[] kind = new int[MOST_HOUSES];
        final long[] name = new long[MOST_HOUSES];
        final Law windLaw = new Law();
        final Law plumeLaw = new Law();
        int columns;
        int rows;
        int cold;
        int turns;
        int houses;

        Street() {
            begin();
        }

        void begin() {
            columns = 8;
            rows = 8;
            cold = 1;
            turns = 0;
            houses = 0;
            windLaw.beginWith(0);
            plumeLaw.beginWith(Law.HIGH);
        }

        void copy(Street other) {
            System.arraycopy(other.column, 0, column, 0, MOST_HOUSES);
            System.arraycopy(other.row, 0, row, 0, MOST_HOUSES);
            System.arraycopy(other.high, 0, high, 0, MOST_HOUSES);
            System.arraycopy(other.kind, 0, kind, 0, MOST_HOUSES);
            System.arraycopy(other.name, 0, name, 0, MOST_HOUSES);
            windLaw.copy(other.windLaw);
            plumeLaw.copy(other.plumeLaw);
            columns = other.columns;
            rows = other.rows;
            cold = other.cold;
            turns = other.turns;
            houses = other.houses;
        }

        void addHouse(long itsName, int itsColumn, int itsRow, int itsHigh, int itsKind) {
            if (houses < MOST_HOUSES) {
                name[houses] = itsName;
                column[houses] = itsColumn;
                row[houses] = itsRow;
                high[houses] = itsHigh;
                kind[houses] = itsKind;
                houses++;
            }
        }

        boolean hasName(long word) {
            for (int house = 0; house < houses; house++) {
                if (name[house] == word) {
                    return true;
                }
            }
            return false;
        }

        boolean hasHouseAt(int itsColumn, int itsRow) {
            for (int house = 0; house < houses; house++) {
                if (column[house] == itsColumn && row[house] == itsRow) {
                    return true;
                }
            }
            return false;
        }

        boolean hasCell(int itsColumn, int itsRow) {
            return itsColumn >= 0 && itsColumn < columns && itsRow >= 0 && itsRow < rows;
        }

        int firstColumn(int house) {
            return kind[house] == LEAN ? column[house] + 1 : column[house];
        }

        int windIn(int hour) {
            return Math.floorMod(windLaw.value(hour, 0, 0), WINDS);
        }

        int plumeLength(int house, int hour, int way) {
            int told = plumeLaw.value(hour, high[house], way);
            int length = Math.max(0, Math.min(LONGEST_LAW, told));
            switch (kind[house]) {
                case WET:
                    return length / 2;
                case PEAT:
                    return length * 2;
                case OIL:
                    return length + 2;
                default:
                    return length;
            }
        }

        int price(int house) {
            if (kind[house] == WET) {
                return 1;
            }
            return kind[house] == PEAT ? 3 : 2;
        }
    }

    /** The plumes of one hour, and who meets whom by them. */
    private static final class Smoke {
        final int[] met = new int[MOST_HOUSES];
        final int[] laid = new int[MOST_HOUSES];
        final int[] cells = new int[MOST_HOUSES * REACH];
        final int[] whose = new int[FIELD_CELLS];

        void rise(Street street, int hour, int way, int burning) {
            Arrays.fill(met, 0);
            Arrays.fill(laid, 0);
            Arrays.fill(whose, 0);
            for (int house = 0; house < street.houses; house++) {
                if (hasBit(burning, house)) {
                    lay(street, house, street.plumeLength(house, hour, way), way);
                }
            }
        }

        private void lay(Street street, int house, int length, int way) {
            int column = street.firstColumn(house);
            int row = street.row[house];
            int crossed = 0;
            for (int i = 0; i < length && i < REACH; i++) {
                if (street.hasCell(column, row)) {
                    int place = cellPlace(column, row);
                    crossed |= whose[place];
                    whose[place] |= 1 << house;
                    cells[house * REACH + laid[house]] = place;
                    laid[house]++;
                }
                column += EASTWARD[way];
                row += SOUTHWARD[way];
            }
            met[house] = crossed;
            for (int other = 0; other < house; other++) {
                if (hasBit(crossed, other)) {
                    met[other] |= 1 << house;
                }
            }
        }

        boolean onlyMet(int a, int b) {
            return met[a] == 1 << b && met[b] == 1 << a && pairsIn(met) == 1;
        }

        /**
         * Of the houses that are open, all being lit now, those to light for a feast. The first of equal ones is the
         * least as bits, and has the fewest houses too: without one that is in no pair it would have come earlier.
         */
        int bestGuests(int open) {
            int best = 0;
            int most = 0;
            for (int guests = 1; guests < 1 << MOST_HOUSES; guests++) {
                int pairs = (guests & ~open) == 0 ? pairsIfNoneTwice(guests) : NONE;
                if (pairs > most) {
                    best = guests;
                    most = pairs;
                }
            }
            return best;
        }

        int pairsIfNoneTwice(int guests) {
            int ends = 0;
            for (int house = 0; house < MOST_HOUSES; house++) {
                if (hasBit(guests, house)) {
                    int partners = Integer.bitCount(met[house] & guests);
                    if (partners > 1) {
                        return NONE;
                    }
                    ends += partners;
                }
            }
            return ends / 2;
        }
    }

    /** What has become of a street hour by hour, and what was done and seen in it by hand. */
    private static final class Life {
        final int[] wedTo = new int[MOST_HOUSES];
        final int[] hoursWed = new int[MOST_HOUSES * MOST_HOUSES];
        final int[] children = new int[MOST_HOUSES * MOST_HOUSES];
        final int[] paid = new int[MOST_HOUSES];
        final int[] black = new int[MOST_HOUSES * FIELD_CELLS];
        final int[] sightOf = new int[MOST_SIGHTS];
        final int[] sightWith = new int[MOST_SIGHTS];
        final int[] sightMet = new int[MOST_SIGHTS];
        int hour;
        int ahead;
        int lit;
        int closed;
        int sights;

        Life() {
            begin();
        }

        void begin() {
            Arrays.fill(wedTo, 0);
            Arrays.fill(hoursWed, 0);
            Arrays.fill(children, 0);
            Arrays.fill(paid, 0);
            Arrays.fill(black, 0);
            hour = 0;
            ahead = NONE;
            lit = 0;
            closed = 0;
            sights = 0;
        }

        void copy(Life other) {
            System.arraycopy(other.wedTo, 0, wedTo, 0, wedTo.length);
            System.arraycopy(other.hoursWed, 0, hoursWed, 0, hoursWed.length);
            System.arraycopy(other.children, 0, children, 0, children.length);
            System.arraycopy(other.paid, 0, paid, 0, paid.length);
            System.arraycopy(other.black, 0, black, 0, black.length);
            System.arraycopy(other.sightOf, 0, sightOf, 0, MOST_SIGHTS);
            System.arraycopy(other.sightWith, 0, sightWith, 0, MOST_SIGHTS);
            System.arraycopy(other.sightMet, 0, sightMet, 0, MOST_SIGHTS);
            hour = other.hour;
            ahead = other.ahead;
            lit = other.lit;
            closed = other.closed;
            sights = other.sights;
        }

        int burning() {
            return lit & ~closed;
        }

        void pass(Street street, int way, Smoke air) {
            boolean turned = SmokeWeds.turns(ahead, way);
            if (turned) {
                Arrays.fill(hoursWed, 0);
            }
            wed(wedTo, turned, air.met);
            for (int house = 0; house < street.houses; house++) {
                ageWeddings(house);
                blacken(house, air);
                paid[house] += hasBit(burning(), house) ? street.price(house) : street.cold;
            }
            ahead = way;
            hour++;
        }

        private void ageWeddings(int house) {
            for (int other = house + 1; other < MOST_HOUSES; other++) {
                if (hasBit(wedTo[house], other)) {
                    int place = pairPlace(house, other);
                    hoursWed[place]++;
                    if (hoursWed[place] % 3 == 0) {
                        children[place]++;
                    }
                }
            }
        }

        private void blacken(int house, Smoke air) {
            for (int i = 0; i < air.laid[house]; i++) {
                black[house * FIELD_CELLS + air.cells[house * REACH + i]]++;
            }
        }

        int drift(int column, int row) {
            int all = 0;
            for (int house = 0; house < MOST_HOUSES; house++) {
                all += black[sootPlace(house, column, row)];
            }
            return all;
        }

        void addSight(int a, int b, boolean met) {
            if (sights < MOST_SIGHTS) {
                sightOf[sights] = a;
                sightWith[sights] = b;
                sightMet[sights] = met ? 1 : 0;
                sights++;
            }
        }

        boolean allSightsAreSo(Smoke air) {
            for (int i = 0; i < sights; i++) {
                if ((air.met[sightOf[i]] >> sightWith[i] & 1) != sightMet[i]) {
                    return false;
                }
            }
            return true;
        }
    }

    private static final class Mark {
        final Street street = new Street();
        final Life life = new Life();
    }

    /** Reads a tape as a street. Behind the first fault no token is there any more, so that all reading ends. */
    private static final class Reader {
        static final int END = 0;
        static final int NO_TOKEN = 1;
        static final int NUMBER = 2;
        static final int WORD = 3;
        // Any other token is the sign itself.
        static final String SIGNS = "()<=+-*;";

        static final int MISPLACED = 1;
        static final int TOLD_ALREADY = 3;
        static final int NOT_AS_TOLD = 4;
        static final int TOO_MANY = 5;

        final Tape tape = new Tape();
        // A draft: where no fault is, it is taken and the street of till then comes in its place.
        Street street = new Street();
        Law law = street.windLaw;
        int at;
        int token;
        int place;
        int number;
        long letters;
        Word word;
        int fault;
        boolean fieldTold;
        boolean windTold;
        boolean plumeTold;
        boolean coldTold;
        boolean turnsTold;

        int read() {
            street.begin();
            law = street.windLaw;
            at = 0;
            fault = 0;
            fieldTold = false;
            windTold = false;
            plumeTold = false;
            coldTold = false;
            turnsTold = false;
            next();
            for (int i = 0; i <= MOST_SIGNS && fault == 0 && token != END; i++) {
                readStatement();
            }
            return fault;
        }

        private void readStatement() {
            if (word == Word.FIELD) {
                readField();
            } else if (word == Word.WIND) {
                windTold = once(windTold);
                beginLaw(street.windLaw);
                readChoice(0);
            } else if (word == Word.PLUME) {
                plumeTold = once(plumeTold);
                beginLaw(street.plumeLaw);
                readChoice(0);
            } else if (word == Word.COLD) {
                coldTold = once(coldTold);
                street.cold = numberWithin(0, 99);
            } else if (word == Word.TURNS) {
                turnsTold = once(turnsTold);
                street.turns = numberWithin(0, 10);
            } else if (word == Word.HOUSE) {
                readHouse();
            } else {
                wrong(MISPLACED);
            }
            expectSign(';');
        }

        /** Takes a word that stands only once; answers true, as told from now on. */
        private boolean once(boolean told) {
            if (told) {
                wrong(TOLD_ALREADY);
            }
            next();
            return true;
        }

        private void readField() {
            fieldTold = once(fieldTold || street.houses > 0);
            street.columns = numberWithin(1, MOST_SIDE);
            street.rows = numberWithin(1, MOST_SIDE);
        }

        private void readHouse() {
            if (street.houses >= MOST_HOUSES) {
                wrong(TOO_MANY);
            }
            next();
            long name = letters;
            expectNewName();
            expectWord(Word.AT);
            int column = numberWithin(0, street.columns - 1);
            int rowPlace = place;
            int row = numberWithin(0, street.rows - 1);
            if (fault == 0 && street.hasHouseAt(column, row)) {
                wrongAt(rowPlace, TOLD_ALREADY);
            }
            expectWord(Word.HIGH);
            int high = numberWithin(0, 9);
            int kind = expectKind();
            if (fault == 0) {
                street.addHouse(name, column, row, high, kind);
            }
        }

        private void expectNewName() {
            if (token != WORD || word != null && word.reserved) {
                wrong(MISPLACED);
            } else if (street.hasName(letters)) {
                wrong(TOLD_ALREADY);
            }
            next();
        }

        private int expectKind() {
            int kind = word == null ? NONE : word.kind;
            if (kind == NONE) {
                wrong(MISPLACED);
            }
            next();
            return kind;
        }

        private void expectWord(Word wanted) {
            if (word != wanted) {
                wrong(MISPLACED);
            }
            next();
        }

        private void expectSign(int wanted) {
            if (token != wanted) {
                wrong(MISPLACED);
            }
            next();
        }

        private int numberWithin(int least, int most) {
            if (token != NUMBER) {
                wrong(MISPLACED);
            } else if (number < least || number > most) {
                wrong(NOT_AS_TOLD);
            }
            int told = fault == 0 ? number : least;
            next();
            return told;
        }

        private void beginLaw(Law told) {
            law = told;
            law.size = 0;
        }

        // Each of the following reads what lies within so many of not and ( ).

        private void readChoice(int within) {
            readTest(within);
            for (int i = 0; i < MOST_SIGNS && (word == Word.AND || word == Word.OR); i++) {
                int step = word == Word.AND ? Law.AND : Law.OR;
                next();
                readTest(within);
                law.addStep(step);
            }
        }

        private void readTest(int within) {
            readSum(within);
            if (token == '<' || token == '=') {
                int step = token == '<' ? Law.LESS : Law.EQUAL;
                next();
                readSum(within);
                law.addStep(step);
            }
        }

        private void readSum(int within) {
            readProduct(within);
            for (int i = 0; i < MOST_SIGNS && (token == '+' || token == '-'); i++) {
                int step = token == '+' ? Law.PLUS : Law.MINUS;
                next();
                readProduct(within);
                law.addStep(step);
            }
        }

        private void readProduct(int within) {
            readPart(within);
            for (int i = 0; i < MOST_SIGNS && token == '*'; i++) {
                next();
                readPart(within);
                law.addStep(Law.TIMES);
            }
        }

        private void readPart(int within) {
            int fact = factTold();
            if (token != NUMBER && token != '(' && word != Word.NOT && fact == 0) {
                wrong(MISPLACED);
            } else if (within >= MOST_WITHIN) {
                wrong(TOO_MANY);
            } else if (token == '(') {
                next();
                readChoice(within + 1);
                expectSign(')');
            } else if (word == Word.NOT) {
                next();
                readPart(within + 1);
                law.addStep(Law.NOT);
            } else {
                law.addStep(token == NUMBER ? number : fact);
                next();
            }
        }

        /** The step of the fact that the token is in this law; 0 if it is none. */
        private int factTold() {
            if (word == Word.HOUR) {
                return Law.HOUR;
            }
            if (word == Word.DAYS) {
                return Law.DAYS;
            }
            if (law != street.plumeLaw) {
                return 0;
            }
            if (word == Word.HIGH) {
                return Law.HIGH;
            }
            return word == Word.WAY ? Law.WAY : 0;
        }

        private void wrong(int kind) {
            wrongAt(place, kind);
        }

        private void wrongAt(int where, int kind) {
            if (fault == 0) {
                fault = kind + 16 * where;
            }
            token = NO_TOKEN;
            word = null;
        }

        private void next() {
            if (fault != 0) {
                return;
            }
            word = null;
            skipBlanks();
            place = at;
            if (at >= tape.length) {
                token = END;
            } else if (isDigit(tape.signs[at])) {
                takeNumber();
            } else if (isLetter(tape.signs[at])) {
                takeWord();
            } else {
                token = SIGNS.indexOf((char) tape.signs[at]) >= 0 ? tape.signs[at] : NO_TOKEN;
                at++;
            }
        }

        private void skipBlanks() {
            while (at < tape.length && (tape.signs[at] == 32 || tape.signs[at] == 10)) {
                at++;
            }
        }

        private void takeNumber() {
            number = 0;
            while (at < tape.length && isDigit(tape.signs[at])) {
                number = number * 10 + tape.signs[at] - '0';
                at++;
            }
            token = at - place <= 4 ? NUMBER : NO_TOKEN;
        }

        private void takeWord() {
            letters = 0;
            while (at < tape.length && isLetter(tape.signs[at])) {
                letters = Word.withLetter(letters, tape.signs[at]);
                at++;
            }
            token = at - place <= 8 ? WORD : NO_TOKEN;
            word = token == WORD ? Word.ofKey(letters) : null;
        }

        private static boolean isDigit(int sign) {
            return sign >= '0' && sign <= '9';
        }

        private static boolean isLetter(int sign) {
            return sign >= 'a' && sign <= 'z';
        }
    }
}
