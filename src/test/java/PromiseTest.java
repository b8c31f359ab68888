import java.util.NoSuchElementException;

/** For each promise of the document: ordinary calls, the edges it names and wrong inputs, worked out by hand. */
public final class PromiseTest {
    private static int wrong = 0;
    private static int promise = 0;

    private static void due(String call, long got, long want) {
        if (got != want) {
            wrong++;
            System.out.println("promise " + promise + ": " + call + " answered " + got + ", due is " + want);
        }
    }

    private static void due(String call, boolean got, boolean want) {
        due(call, got ? 1 : 0, want ? 1 : 0);
    }

    static int feed(SmokeWeds x, String text) {
        int there = x.count(8);
        for (int from = 0; from < text.length(); from += 24) {
            long[] bytes = new long[3];
            for (int i = 0; i < 24; i++) {
                long sign = from + i < text.length() ? text.charAt(from + i) : 0;
                bytes[i / 8] = bytes[i / 8] << 8 | sign;
            }
            there = x.feed(bytes[0], bytes[1], bytes[2]);
        }
        return there;
    }

    static int tell(SmokeWeds x, String text) {
        feed(x, text);
        return x.street();
    }

    /** A new object with the street that the text tells and the houses of these bits lit. */
    private static SmokeWeds told(String text, int lit) {
        SmokeWeds x = new SmokeWeds();
        due("street of " + text, tell(x, text), 0);
        for (int house = 0; house < 8; house++) {
            if ((lit >> house & 1) != 0) {
                due("light " + house, x.light(house, true), true);
            }
        }
        return x;
    }

    private static void sootDue(SmokeWeds x, int column, int row, int house, int want) {
        due("soot " + column + " " + row + " " + house, x.soot(column, row, house), want);
    }

    private static void sootThrows(SmokeWeds x, int column, int row, int house) {
        boolean threw = false;
        try {
            x.soot(column, row, house);
        } catch (NoSuchElementException e) {
            threw = true;
        }
        due("soot " + column + " " + row + " " + house + " throws", threw, true);
    }

    private static final int MIN = Integer.MIN_VALUE;
    private static final int MAX = Integer.MAX_VALUE;
    private static final String HOUSE_A = "house a at 0 0 high 1 dry;";

    // East all day: a lies on columns 0 to 2 of row 2, b on 2 and 3, c on 4.
    private static final String ROW =
        "field 5 5;wind 2;house a at 0 2 high 3 dry;house b at 2 2 high 2 wet;house c at 4 2 high 1 peat;"
        + "plume high+(high=2)*2;";

    // North in the hours 0 to 2, east behind them; a and b meet by the east wind alone.
    private static final String TURNING =
        "field 5 5;cold 3;wind 2*(2<hour);house a at 0 2 high 3 dry;house b at 2 2 high 2 wet;";

    private static void aNewObject() {
        promise = 1;
        SmokeWeds x = new SmokeWeds();
        int[] counts = {8, 8, 0, 0, 0, 0, 0, 0, 0};
        for (int what = 0; what < counts.length; what++) {
            due("count " + what, x.count(what), counts[what]);
        }
        due("house", x.house(0, 0), -1);
        due("light", x.light(0, true), false);
        due("wind", x.wind(3), 0);
        due("plume", x.plume(0), -1);
        due("meets", x.meets(0), -1);
        due("only", x.only(0, 1), -1);
        due("feast", x.feast(0, 0), 0);
        due("feast", x.feast(23, 1), 0);
        due("fits", x.fits(), 255);
        due("days", x.days(0, 20, 72, 0), 0);
        due("mark", x.mark(0, true), false);
        due("street of nothing", x.street(), 0);
        due("hours", x.hours(1000), 1000);
        due("NONE", SmokeWeds.NONE, -1);
    }

    private static void feedPromise() {
        promise = 2;
        SmokeWeds x = new SmokeWeds();
        due("nothing", x.feed(0, 0, 0), 0);
        due("left out", x.feed(0x0001090b0c0d1f7fL, 0x80a0ff9fe1c3a9ffL, -1L), 0);
        due("kept", x.feed(0x0a207e2100000000L, 0, 0x7e7e7e7e7e7e7e7eL), 12);
        due("on the tape", x.count(8), 12);
        due("its first sign that is none", x.street(), 1 + 16 * 2);
        due("taken", x.count(8), 0);
        // field 0 with the signs spread over the three numbers
        due("spread", x.feed(0x0000006669656cL, 0x6400200000000030L, 0x20L), 8);
        due("the highest byte first", x.street(), 4 + 16 * 6);
        String blanks = "                        ";
        for (int i = 1; i <= 41; i++) {
            due("feed", feed(x, blanks), 24 * i);
        }
        due("the last one that goes on", feed(x, "field 2 3;              "), 1000);
        due("full", feed(x, "!!!!!!!!!!!!!!!!!!!!!!!!"), 1000);
        due("what is beyond is left out", x.street(), 0);
        due("columns", x.count(0), 2);
        due("rows", x.count(1), 3);
        for (int i = 1; i <= 41; i++) {
            feed(x, blanks);
        }
        due("cut", feed(x, "          field 2 3; cold 5;"), 1000);
        due("cut within a statement", x.street(), 1 + 16 * 1000);
    }

    private static void faultDue(String text, int kind, int place) {
        SmokeWeds x = new SmokeWeds();
        due("street of '" + text + "'", tell(x, text), kind == 0 ? 0 : kind + 16 * place);
        due("the tape behind '" + text + "'", x.count(8), 0);
    }

    private static void streetPromise() {
        promise = 3;
        faultDue("", 0, 0);
        faultDue(" \n ", 0, 0);
        faultDue("field 1 12;", 0, 0);
        faultDue("field 12 1;cold 0;turns 0;wind 0;plume 0;", 0, 0);
        faultDue("field\n1 12 ;cold99;turns10;", 0, 0);
        faultDue("field 0 1;", 4, 6);
        faultDue("field 12 13;", 4, 9);
        faultDue("field 1;", 1, 7);
        faultDue("field 1 1", 1, 9);
        faultDue("field 1 1  \n", 1, 12);
        faultDue("field a 1;", 1, 6);
        faultDue("field 1 1;;", 1, 10);
        faultDue("field 1 1;field 1 1;", 3, 10);
        faultDue(HOUSE_A + " field 2 2;", 3, 27);
        faultDue("field 2 2;" + HOUSE_A + "field 2 2;", 3, 36);
        faultDue("cold 100;", 4, 5);
        faultDue("cold 0099;", 0, 0);
        faultDue("cold 00099;", 1, 5);
        faultDue("cold 12345;", 1, 5);
        faultDue("cold 9999;", 4, 5);
        faultDue("turns 11;", 4, 6);
        faultDue("cold 1;turns 1;cold 1;", 3, 15);
        faultDue("turns 1;turns 1;", 3, 8);
        faultDue("wind 1;wind 1;", 3, 7);
        faultDue("plume 1;plume 1;", 3, 8);
        faultDue("cold cold", 1, 5);
        faultDue("Field 1 1;", 1, 0);
        faultDue("at;", 1, 0);
        faultDue("hour;", 1, 0);
        faultDue("5;", 1, 0);
        faultDue("cold 1,", 1, 6);
        faultDue("cold 1\t;", 0, 0);
        houseFaults();
        lawFaults();
        whatStays();
    }

    private static void houseFaults() {
        faultDue(HOUSE_A, 0, 0);
        faultDue("house a at0 0high 1dry;", 0, 0);
        faultDue("house abcdefgh at 0 0 high 0 oil;", 0, 0);
        faultDue("house abcdefghi at 0 0 high 0 oil;", 1, 6);
        faultDue("house 5 at 0 0 high 0 oil;", 1, 6);
        faultDue("house ; at 0 0 high 0 oil;", 1, 6);
        faultDue("house", 1, 5);
        String[] reserved = {"field", "wind", "plume", "cold", "turns", "house", "at", "high",
            "dry", "wet", "peat", "lean", "oil", "not", "and", "or"};
        for (String word : reserved) {
            faultDue("house " + word + " at 0 0 high 1 dry;", 1, 6);
        }
        for (String word : new String[] {"hour", "day", "way", "dryer", "fiel", "fields"}) {
            faultDue("house " + word + " at 0 0 high 1 dry;", 0, 0);
        }
        faultDue(HOUSE_A + "house a at 1 0 high 1 dry;", 3, 32);
        faultDue(HOUSE_A + "house b at 1 0 high 1 dry;house a at 0 0 high 1 dry;", 3, 58);
        faultDue(HOUSE_A + "house b at 0 0 high 1 dry;", 3, 39);
        faultDue(HOUSE_A + "house b at 0 1 high 1 dry;house c at 1 0 high 9 oil;", 0, 0);
        faultDue("house a at 8 0 high 1 dry;", 4, 11);
        faultDue("house a at 7 8 high 1 dry;", 4, 13);
        faultDue("house a at 7 7 high 9 dry;", 0, 0);
        faultDue("field 12 1;house a at 11 0 high 0 dry;", 0, 0);
        faultDue("field 12 1;house a at 12 0 high 0 dry;", 4, 22);
        faultDue("field 12 1;house a at 11 1 high 0 dry;", 4, 25);
        faultDue("house a in 7 7 high 9 dry;", 1, 8);
        faultDue("house a at b 7 high 9 dry;", 1, 11);
        faultDue("house a at 7;", 1, 12);
        faultDue("house a at 7 7 low 9 dry;", 1, 15);
        faultDue("house a at 7 7 high 10 dry;", 4, 20);
        faultDue("house a at 7 7 high dry;", 1, 20);
        faultDue("house a at 7 7 high 1 high;", 1, 22);
        faultDue("house a at 7 7 high 1 5;", 1, 22);
        faultDue("house a at 7 7 high 1 dry", 1, 25);
        StringBuilder eight = new StringBuilder();
        for (int i = 0; i < 8; i++) {
            eight.append("house ").append((char) ('a' + i)).append(" at ").append(i).append(" 0 high 1 dry;");
        }
        faultDue(eight.toString(), 0, 0);
        faultDue(eight + "cold 3;", 0, 0);
        faultDue(eight + "house a", 5, 8 * 26);
        faultDue(eight + " house", 5, 8 * 26 + 1);
        faultDue(eight + "field", 3, 8 * 26);
    }

    private static void lawFaults() {
        faultDue("wind hour+day*2-1<3 and not 1 or(2=3);", 0, 0);
        faultDue("plume high+way+hour+day;", 0, 0);
        faultDue("wind;", 1, 4);
        faultDue("wind 1", 1, 6);
        faultDue("wind way;", 1, 5);
        faultDue("wind high;", 1, 5);
        faultDue("wind a;", 1, 5);
        faultDue("plume wind;", 1, 6);
        faultDue("plume a;", 1, 6);
        faultDue("wind 1 2;", 1, 7);
        faultDue("wind -1;", 1, 5);
        faultDue("wind 1+;", 1, 7);
        faultDue("wind 1!;", 1, 6);
        faultDue("wind 1=2=3;", 1, 8);
        faultDue("wind 1=2<3;", 1, 8);
        faultDue("wind 1<2 and 3<4=5;", 1, 16);
        faultDue("wind (1<2)<3;", 0, 0);
        faultDue("wind 1<not 2;", 0, 0);
        faultDue("wind hour5;", 1, 9);
        faultDue("wind 5hour;", 1, 6);
        faultDue("wind 5and 3;", 0, 0);
        faultDue("wind 1 and;", 1, 10);
        faultDue("wind (1;", 1, 7);
        faultDue("wind 1);", 1, 6);
        faultDue("wind ();", 1, 6);
        faultDue("wind 12345;", 1, 5);
        faultDue("wind 9999*9999;", 0, 0);
        faultDue("wind ((((1))));", 0, 0);
        faultDue("wind (((((1)))));", 5, 10);
        faultDue("wind (((((hour)))));", 5, 10);
        faultDue("wind (((((high)))));", 1, 10);
        faultDue("plume (((((high)))));", 5, 11);
        faultDue("wind ((((((1))))));", 5, 10);
        faultDue("wind (((((not 1)))));", 5, 10);
        faultDue("wind ((((()))));", 1, 10);
        faultDue("wind (((((", 1, 10);
        faultDue("wind (((((12345", 1, 10);
        faultDue("wind not not not not 1;", 0, 0);
        faultDue("wind not not not not not 1;", 5, 25);
        faultDue("wind not not not not not not 1;", 5, 25);
        faultDue("wind ((((not 1))));", 5, 13);
        faultDue("wind (not(not(1*(2)+3)));", 5, 14);
        faultDue("wind (not(1*(2)+not 3*not(4)));", 5, 26);
        faultDue("wind ((((1))))+((((1))))+not(not(1));", 0, 0);
    }

    private static void whatStays() {
        SmokeWeds x = told(ROW, 7);
        x.shut(2, true);
        x.hours(4);
        x.sight(0, 1, true);
        x.mark(1, false);
        due("fault", tell(x, "field 3 3;house z at 2 2 high 1 dry;cold 100;"), 4 + 16 * 41);
        due("columns stay", x.count(0), 5);
        due("houses stay", x.count(2), 3);
        due("the hour stays", x.count(3), 4);
        due("who is wed stays", x.count(4), 1);
        due("sights stay", x.count(7), 1);
        due("plume stays", x.plume(1), 2);
        due("a new street", tell(x, "house z at 2 2 high 1 dry;house y at 1 1 high 7 wet;"), 0);
        int[] counts = {8, 8, 2, 0, 0, 0, 0, 0, 0};
        for (int what = 0; what < counts.length; what++) {
            due("count " + what, x.count(what), counts[what]);
        }
        for (int house = 0; house < 2; house++) {
            for (int what = 4; what < 8; what++) {
                due("house " + house + " " + what, x.house(house, what), 0);
            }
        }
        due("cold is 1 again", x.hours(1), 1);
        due("paid", x.house(0, 7), 1);
        due("no wind", x.wind(0), 0);
        due("plume is high", x.plume(1), 3);
        due("marks stay", x.mark(1, true), true);
        due("the old street", x.count(2), 3);
        due("the first hour has none ahead", tell(x, ROW), 0);
    }

    private static void housePromise() {
        promise = 4;
        SmokeWeds x = told("field 9 7;cold 7;wind 2;house a at 0 2 high 0 dry;house b at 1 6 high 9 wet;"
            + "house c at 2 0 high 3 peat;house d at 3 1 high 4 lean;house e at 8 5 high 5 oil;", 0);
        int[][] told = {{0, 2, 0, 0}, {1, 6, 9, 1}, {2, 0, 3, 2}, {3, 1, 4, 3}, {8, 5, 5, 4}};
        for (int house = 0; house < 5; house++) {
            for (int what = 0; what < 4; what++) {
                due("house " + house + " " + what, x.house(house, what), told[house][what]);
            }
        }
        due("not lit", x.house(4, 4), 0);
        x.light(4, true);
        due("lit", x.house(4, 4), 1);
        due("not shut", x.house(4, 5), 0);
        x.shut(4, true);
        due("shut", x.house(4, 5), 1);
        for (int house : new int[] {-1, 5, 8, MIN, MAX}) {
            due("no house", x.house(house, 0), -1);
        }
        for (int what : new int[] {-1, 8, MIN, MAX}) {
            due("no such what", x.house(0, what), -1);
        }
        x.shut(4, false);
        for (int house = 0; house < 4; house++) {
            x.light(house, true);
        }
        x.light(0, false);
        x.hours(3);
        int[] paid = {21, 3, 9, 6, 6};
        for (int house = 0; house < 5; house++) {
            due("paid by " + house, x.house(house, 7), paid[house]);
        }
        x.shut(2, true);
        x.hours(1);
        due("a shut one pays cold", x.house(2, 7), 16);
        SmokeWeds y = told("wind 2;house a at 0 2 high 3 dry;house b at 2 2 high 3 dry;house c at 4 2 high 1 dry;", 7);
        y.hours(1);
        due("wed", y.house(0, 6), 2);
        due("wed to two", y.house(1, 6), 5);
        due("wed", y.house(2, 6), 2);
        y.light(1, false);
        y.hours(1);
        due("stays wed", y.house(1, 6), 5);
    }

    private static void lightPromise() {
        promise = 5;
        SmokeWeds x = told(HOUSE_A, 0);
        due("put out as it is", x.light(0, false), false);
        due("lit", x.light(0, true), true);
        due("lit as it is", x.light(0, true), false);
        due("put out", x.light(0, false), true);
        due("it is out", x.house(0, 4), 0);
        for (int house : new int[] {-1, 1, 8, 32, MIN, MAX}) {
            due("no house", x.light(house, true), false);
            due("no house", x.light(house, false), false);
        }
        x.shut(0, true);
        due("a shut one is lit", x.light(0, true), true);
        due("it is lit", x.house(0, 4), 1);
    }

    private static void shutPromise() {
        promise = 6;
        SmokeWeds x = told(ROW, 7);
        due("opened as it is", x.shut(1, false), false);
        due("shut", x.shut(1, true), true);
        due("shut as it is", x.shut(1, true), false);
        due("no plume", x.meets(0), 0);
        due("still lit", x.house(1, 4), 1);
        due("opened", x.shut(1, false), true);
        due("a plume again", x.meets(0), 2);
        for (int house : new int[] {-1, 3, 8, 33, MIN, MAX}) {
            due("no house", x.shut(house, true), false);
            due("no house", x.shut(house, false), false);
        }
    }

    private static int windOf(String law, int hours) {
        SmokeWeds x = told("wind " + law + ";", 0);
        return x.wind(hours);
    }

    private static void windPromise() {
        promise = 7;
        due("none told", new SmokeWeds().wind(9999), 0);
        due("below 0", new SmokeWeds().wind(-1), -1);
        due("above", new SmokeWeds().wind(10000), -1);
        due("modulo 8", windOf("13", 0), 5);
        due("not below 0", windOf("0-1", 0), 7);
        due("not below 0", windOf("0-16", 0), 0);
        due("hour", windOf("hour", 29), 5);
        due("hour 23", windOf("hour", 23), 7);
        due("day", windOf("day", 47), 1);
        due("day", windOf("day", 48), 2);
        due("day", windOf("day", 9999), 416 % 8);
        due("from the left", windOf("7-2-1", 0), 4);
        due("products first", windOf("1+2*3", 0), 7);
        due("brackets", windOf("(1+2)*2", 0), 6);
        due("sums ahead of <", windOf("1<1+1", 0), 1);
        due("not less", windOf("2<2", 0), 0);
        due("=", windOf("3=1+2", 0), 1);
        due("and, or from the left", windOf("1 or 1 and 0", 0), 0);
        due("and, or from the left", windOf("0 and 0 or 5", 0), 1);
        due("what is not 0 is so", windOf("2 and 4", 0), 1);
        due("not so", windOf("not 4", 0), 0);
        due("not binds the part", windOf("not 0+2", 0), 3);
        due("not twice", windOf("not not 6", 0), 1);
        due("below 0 is so", windOf("(0-1) and 1", 0), 1);
        due("ints wrap", windOf("9999*9999*9999<0", 0), 9999 * 9999 * 9999 < 0 ? 1 : 0);
        due("ints wrap", windOf("9999*9999*9999", 0), Math.floorMod(9999 * 9999 * 9999, 8));
        due("many levels", windOf("0 or 1=1+1*(0 or 1=0+1*(0 or 1=0+1*(0 or 0=0+0*(0 or 1=0+1*0))))", 0), 0);
        due("many levels", windOf("0 or 2=1+1*(0 or 1=0+1*(0 or 1=0+1*(0 or 0=0+0*(0 or 1=0+1*1))))", 0), 1);
        SmokeWeds x = told("wind hour;", 0);
        x.hours(5);
        due("from now on", x.wind(0), 5);
        due("from now on", x.wind(19), 0);
    }

    private static int lengthOf(String law, String house, int hours) {
        SmokeWeds x = told("plume " + law + ";wind 3;house a at 0 0 " + house + ";", 0);
        if (hours > 0) {
            x.hours(hours);
        }
        return x.plume(0);
    }

    private static void plumePromise() {
        promise = 8;
        due("dry", lengthOf("7", "high 1 dry", 0), 7);
        due("wet", lengthOf("7", "high 1 wet", 0), 3);
        due("peat", lengthOf("7", "high 1 peat", 0), 14);
        due("lean", lengthOf("7", "high 1 lean", 0), 7);
        due("oil", lengthOf("7", "high 1 oil", 0), 9);
        due("below 0", lengthOf("0-3", "high 1 dry", 0), 0);
        due("below 0, oil", lengthOf("0-3", "high 1 oil", 0), 2);
        due("20", lengthOf("20", "high 1 dry", 0), 20);
        due("above 20", lengthOf("21", "high 1 dry", 0), 20);
        due("above 20, wet", lengthOf("99", "high 1 wet", 0), 10);
        due("above 20, peat", lengthOf("99", "high 1 peat", 0), 40);
        due("above 20, oil", lengthOf("99", "high 1 oil", 0), 22);
        due("wrapped below 0", lengthOf("9999*9999*22", "high 1 dry", 0), 9999 * 9999 * 22 < 0 ? 0 : 20);
        due("high", lengthOf("high*2", "high 9 dry", 0), 18);
        due("way", lengthOf("way", "high 9 dry", 0), 3);
        due("hour", lengthOf("hour", "high 9 dry", 17), 17);
        due("day", lengthOf("day", "high 9 dry", 72), 3);
        SmokeWeds y = told("wind hour;plume way;house a at 0 0 high 9 dry;", 0);
        y.hours(3);
        due("the way of the hour that comes", y.plume(0), 3);
        SmokeWeds x = told("house a at 1 1 high 6 dry;house b at 2 2 high 5 wet;", 0);
        due("none told", x.plume(0), 6);
        due("none told, wet", x.plume(1), 2);
        x.light(0, true);
        due("lit", x.plume(0), 6);
        x.shut(0, true);
        due("shut", x.plume(0), 0);
        for (int house : new int[] {-1, 2, 8, MIN, MAX}) {
            due("no house", x.plume(house), -1);
        }
    }

    private static int smokeOf(int wind, String house, int i) {
        SmokeWeds x = told("field 9 9;wind " + wind + ";house a at 4 4 high 6 dry;house b at 8 4 high 6 lean;"
            + "house c at 0 0 high 9 lean;", 0);
        return x.smoke(house.charAt(0) - 'a', i);
    }

    private static void smokePromise() {
        promise = 9;
        int[] columns = {4, 6, 6, 6, 4, 2, 2, 2};
        int[] rows = {2, 2, 4, 6, 6, 6, 4, 2};
        for (int wind = 0; wind < 8; wind++) {
            due("own cell", smokeOf(wind, "a", 0), 16 * 4 + 4);
            due("wind " + wind, smokeOf(wind, "a", 2), 16 * rows[wind] + columns[wind]);
            due("lost", smokeOf(wind, "a", 5), -1);
            due("no such cell", smokeOf(wind, "a", 6), -1);
        }
        due("a lean one's own cell is lost", smokeOf(6, "b", 0), -1);
        due("it comes back", smokeOf(6, "b", 1), 16 * 4 + 8);
        due("it comes back", smokeOf(6, "b", 5), 16 * 4 + 4);
        due("no such cell", smokeOf(6, "b", 6), -1);
        due("back and north", smokeOf(7, "b", 2), 16 * 2 + 7);
        due("lean", smokeOf(4, "c", 0), 1);
        due("lean", smokeOf(4, "c", 8), 16 * 8 + 1);
        due("lost at once", smokeOf(0, "c", 1), -1);
        due("no house", smokeOf(0, "d", 0), -1);
        for (int i : new int[] {-1, MIN, MAX}) {
            due("no such cell", smokeOf(2, "a", i), -1);
        }
        SmokeWeds x = told(HOUSE_A, 0);
        for (int house : new int[] {-1, 1, MIN, MAX}) {
            due("no house", x.smoke(house, 0), -1);
        }
        due("not lit", x.smoke(0, 0), 0);
        x.shut(0, true);
        due("shut", x.smoke(0, 0), -1);
    }

    private static void meetsPromise() {
        promise = 10;
        SmokeWeds x = told("wind 2;house a at 0 2 high 3 dry;house b at 2 2 high 3 dry;house c at 4 2 high 1 dry;", 0);
        due("not lit", x.meets(0), 0);
        x.light(0, true);
        due("alone", x.meets(0), 0);
        x.light(1, true);
        x.light(2, true);
        due("a", x.meets(0), 2);
        due("b", x.meets(1), 5);
        due("c", x.meets(2), 2);
        x.light(1, false);
        due("put out", x.meets(1), 0);
        due("put out", x.meets(0), 0);
        x.light(1, true);
        x.shut(1, true);
        due("shut", x.meets(1), 0);
        x.shut(1, false);
        x.hours(1);
        x.light(2, false);
        due("put out", x.meets(1), 1);
        due("wed all the same", x.house(1, 6), 5);
        for (int house : new int[] {-1, 3, 8, MIN, MAX}) {
            due("no house", x.meets(house), -1);
        }
        SmokeWeds y = told("wind 2;house a at 6 0 high 4 dry;house b at 7 0 high 0 dry;house c at 7 1 high 9 dry;", 7);
        due("without a plume nobody", y.meets(0), 0);
        SmokeWeds z = told("field 3 3;wind 2;house a at 2 0 high 9 dry;house b at 2 1 high 9 lean;house c at 1 1 high 4 dry;"
            + "plume high*(way=2);", 7);
        due("lost cells meet nobody", z.meets(0), 0);
        due("lost cells meet nobody", z.meets(1), 0);
        due("lost cells meet nobody", z.meets(2), 0);
        SmokeWeds v = told("field 3 3;wind 6;house a at 2 1 high 2 lean;house b at 2 2 high 0 oil;house c at 2 0 high 1 dry;"
            + "plume high;", 7);
        due("b lies on its row alone", v.meets(1), 0);
        SmokeWeds w = told("field 3 3;wind 6;house a at 2 1 high 3 lean;house b at 1 1 high 1 dry;", 3);
        due("back from beyond the field", w.meets(0), 2);
    }

    private static void hoursPromise() {
        promise = 11;
        SmokeWeds x = new SmokeWeds();
        for (int many : new int[] {0, -1, 1001, MIN, MAX}) {
            due("no such number", x.hours(many), -1);
        }
        due("nothing passed", x.count(3), 0);
        due("one", x.hours(1), 1);
        due("a thousand", x.hours(1000), 1001);
        SmokeWeds y = told(TURNING, 3);
        y.hours(4);
        due("wed by the east wind", y.count(4), 1);
        y.light(0, false);
        y.hours(20);
        due("stay wed while it blows", y.pair(0, 1, 0), 21);
        y.hours(1);
        due("till the wind turns", y.count(4), 0);
        SmokeWeds z = told("wind hour;house a at 2 2 high 1 dry;house b at 1 2 high 1 lean;", 3);
        z.hours(5);
        due("wed anew at each turn", z.pair(0, 1, 0), 1);
        SmokeWeds v = told("wind 5;house a at 2 2 high 1 dry;house b at 1 2 high 1 lean;", 3);
        v.hours(1);
        due("the first hour", v.pair(0, 1, 0), 1);
        v.hours(1);
        due("the second hour", v.pair(0, 1, 0), 2);
    }

    private static void pairPromise() {
        promise = 12;
        SmokeWeds x = told(ROW, 7);
        due("not wed", x.pair(0, 1, 0), 0);
        int[] children = {0, 0, 1, 1, 1, 2, 2, 2, 3};
        for (int hour = 0; hour < children.length; hour++) {
            x.hours(1);
            due("hours wed", x.pair(0, 1, 0), hour + 1);
            due("hours wed", x.pair(1, 0, 0), hour + 1);
            due("children", x.pair(0, 1, 1), children[hour]);
            due("children", x.pair(1, 0, 1), children[hour]);
        }
        due("others", x.pair(0, 2, 0), 0);
        due("others", x.pair(0, 2, 1), 0);
        due("the same", x.pair(1, 1, 0), -1);
        for (int none : new int[] {-1, 3, 8, MIN, MAX}) {
            due("no house", x.pair(none, 0, 0), -1);
            due("no house", x.pair(0, none, 1), -1);
        }
        for (int what : new int[] {-1, 2, MIN, MAX}) {
            due("no such what", x.pair(0, 1, what), -1);
        }
        SmokeWeds y = told("wind (hour=2)+(hour=5);house a at 2 2 high 1 dry;house b at 1 2 high 1 lean;", 3);
        y.hours(8);
        due("a turn begins anew", y.pair(0, 1, 0), 2);
        due("two hours never make a child", y.pair(0, 1, 1), 0);
        y.hours(17);
        due("children stay", y.pair(0, 1, 1), 6);
        due("children in all", y.count(5), 6);
        y.hours(2);
        due("children stay behind a turn", y.pair(0, 1, 1), 6);
    }

    private static void sootPromise() {
        promise = 13;
        SmokeWeds x = told(ROW, 3);
        sootDue(x, 2, 2, -1, 0);
        x.hours(3);
        sootDue(x, 2, 2, -1, 6);
        sootDue(x, 2, 2, 0, 3);
        sootDue(x, 2, 2, 1, 3);
        sootDue(x, 2, 2, 2, 0);
        sootDue(x, 0, 2, -1, 3);
        sootDue(x, 3, 2, 1, 3);
        sootDue(x, 3, 2, 0, 0);
        sootDue(x, 4, 4, -1, 0);
        x.shut(0, true);
        x.hours(1);
        sootDue(x, 2, 2, 0, 3);
        sootDue(x, 2, 2, 1, 4);
        for (int none : new int[] {-1, 5, 12, MIN, MAX}) {
            sootThrows(x, none, 0, -1);
            sootThrows(x, 0, none, 0);
        }
        for (int none : new int[] {-2, 3, 8, MIN, MAX}) {
            sootThrows(x, 0, 0, none);
        }
        SmokeWeds y = told("field 3 3;wind 2;house a at 1 1 high 9 dry;house b at 2 0 high 4 lean;", 3);
        y.hours(2);
        due("no soot beyond the field", y.count(6), 4);
        SmokeWeds z = told("field 12 2;wind 6;plume 13;house a at 11 1 high 9 lean;house b at 11 0 high 9 dry;", 3);
        z.hours(1);
        due("from beyond the field to its other end", z.count(6), 24);
        sootDue(z, 0, 1, 0, 1);
        sootDue(z, 11, 1, 0, 1);
    }

    private static void onlyPromise() {
        promise = 14;
        SmokeWeds x = told(TURNING, 0);
        due("from the fourth hour on", x.only(0, 1), 3);
        due("either way", x.only(1, 0), 3);
        due("nobody is lit by it", x.house(0, 4) + x.house(1, 4) + x.count(3), 0);
        x.shut(0, true);
        due("shut ones stay so", x.only(0, 1), -1);
        SmokeWeds y = told(TURNING, 0);
        y.hours(4);
        due("from now on", y.only(0, 1), 0);
        y.hours(20);
        due("the next day", y.only(0, 1), 3);
        SmokeWeds z = told("wind 2*(day=1 and hour=0);house a at 0 2 high 3 dry;house b at 2 2 high 2 wet;", 0);
        due("the 24 hours", z.only(0, 1), -1);
        z.hours(1);
        due("the last of the 24", z.only(0, 1), 23);
        SmokeWeds v = told("wind 2;house a at 0 2 high 3 dry;house b at 2 2 high 3 dry;house c at 4 2 high 1 dry;"
            + "house d at 0 0 high 2 dry;house e at 1 0 high 1 dry;", 0);
        due("two alone", v.only(0, 1), 0);
        v.light(2, true);
        due("one of them meets another", v.only(0, 1), -1);
        due("they do not meet", v.only(0, 2), -1);
        v.light(2, false);
        v.light(3, true);
        due("another is alone", v.only(0, 1), 0);
        v.light(4, true);
        due("others meet", v.only(0, 1), -1);
        v.shut(4, true);
        due("others are shut", v.only(0, 1), 0);
        due("the same", v.only(1, 1), -1);
        for (int none : new int[] {-1, 5, 8, MIN, MAX}) {
            due("no house", v.only(none, 0), -1);
            due("no house", v.only(0, none), -1);
        }
    }

    private static void feastPromise() {
        promise = 15;
        // a meets b, b meets c, c meets d; e and f meet one another.
        SmokeWeds x = told("wind 4-2*(hour=1);house a at 0 2 high 3 dry;house b at 2 2 high 3 dry;house c at 4 2 high 3 dry;"
            + "house d at 6 2 high 1 dry;house e at 0 0 high 2 dry;house f at 1 0 high 1 dry;", 4);
        due("south", x.feast(0, 0), 0);
        due("south", x.feast(0, 1), 0);
        due("a and b, e and f (c and d instead of a and b are more as bits)", x.feast(1, 0), 2);
        due("their bits", x.feast(1, 1), 1 | 2 | 16 | 32);
        due("all is as ahead", x.house(0, 4) + x.count(3) + x.count(6), 0);
        x.shut(0, true);
        due("not a", x.feast(1, 0), 2);
        due("b and c, e and f", x.feast(1, 1), 2 | 4 | 16 | 32);
        x.shut(5, true);
        due("b and c", x.feast(1, 0), 1);
        due("b and c", x.feast(1, 1), 6);
        x.shut(2, true);
        due("nobody", x.feast(1, 0), 0);
        due("nobody", x.feast(1, 1), 0);
        for (int hours : new int[] {-1, 24, MIN, MAX}) {
            due("no such hour", x.feast(hours, 0), -1);
        }
        for (int what : new int[] {-1, 2, MIN, MAX}) {
            due("no such what", x.feast(0, what), -1);
        }
        SmokeWeds y = told("wind 2;house a at 0 2 high 3 dry;house b at 2 2 high 1 dry;house c at 1 2 high 2 dry;", 0);
        due("three on one cell", y.feast(0, 0), 1);
        due("the least as bits", y.feast(0, 1), 3);
        SmokeWeds z = told("wind 2*(hour=23);house a at 0 2 high 3 dry;house b at 2 2 high 1 dry;", 0);
        due("the last of the hours", z.feast(23, 0), 1);
        z.hours(1);
        due("from now on", z.feast(22, 1), 3);
        due("from now on", z.feast(23, 1), 0);
    }

    private static void freePromise() {
        promise = 16;
        SmokeWeds x = told(TURNING, 2);
        due("no meeting", x.free(0, 3), 6);
        due("cold in the east wind", x.free(0, 4), 9);
        due("cold in the east wind", x.free(0, 24), 6 + 63);
        due("all is as ahead", x.house(0, 4) + x.count(3) + x.house(0, 7), 0);
        x.hours(3);
        due("cold till the turn", x.free(0, 21), 63);
        due("the turn sets free", x.free(0, 22), 44);
        x.light(0, true);
        x.hours(1);
        due("wed and no turn", x.free(0, 20), -1);
        due("wed and a turn", x.free(0, 21), 42);
        due("wed and a turn, cold in the next east wind", x.free(0, 24), 23 * 2 + 3);
        due("the other one, wet", x.free(1, 21), 21);
        x.shut(0, true);
        due("wed and shut", x.free(0, 20), -1);
        due("shut ones pay cold", x.free(0, 21), 63);
        for (int hours : new int[] {0, -1, 25, MIN, MAX}) {
            due("no such hours", x.free(0, hours), -1);
        }
        for (int house : new int[] {-1, 2, 8, MIN, MAX}) {
            due("no house", x.free(house, 1), -1);
        }
        x.shut(0, false);
        x.hours(20);
        due("wed to the day's last hour", x.house(0, 6), 2);
        due("the very first hour turns", x.free(0, 1), 2);
        SmokeWeds y = told("cold 0;wind 2;house a at 0 2 high 3 peat;house b at 2 2 high 1 dry;", 2);
        due("cold that costs nothing", y.free(0, 24), 0);
        SmokeWeds z = told("cold 9;wind 2*(hour<2)+4*(1<hour);house a at 0 2 high 3 peat;house b at 3 2 high 1 dry;", 2);
        due("cold in the second, wed and free again by a turn in the third", z.free(0, 1), 9);
        due("twice cold", z.free(0, 2), 18);
        due("always lit", z.free(0, 3), 9);
    }

    private static void sightPromise() {
        promise = 17;
        SmokeWeds x = told(ROW, 3);
        due("the same", x.sight(0, 0, true), -1);
        for (int none : new int[] {-1, 3, 8, MIN, MAX}) {
            due("no house", x.sight(none, 0, true), -1);
            due("no house", x.sight(0, none, false), -1);
        }
        due("none yet", x.count(7), 0);
        for (int i = 1; i <= 10; i++) {
            due("sight", x.sight(i % 2, 1 - i % 2, true), i);
        }
        due("10 are there", x.sight(0, 1, true), -1);
        due("10 are there", x.count(7), 10);
        SmokeWeds y = told(ROW, 3);
        y.sight(0, 1, true);
        y.light(2, true);
        due("it stays where a house is lit", y.count(7), 1);
        y.shut(2, true);
        due("it stays where a house is shut", y.count(7), 1);
        y.hours(30);
        due("it stays where hours pass", y.count(7), 1);
        due("and is looked at by the hour that comes", y.fits(), 4);
        due("all that is asked leaves it", y.only(0, 1) + y.feast(0, 0) + y.days(0, 1, 1, 1), 1);
        due("all that is asked leaves it", y.fits(), 4);
    }

    private static void clearPromise() {
        promise = 18;
        SmokeWeds x = told(ROW, 3);
        due("none", x.clear(), true);
        x.sight(0, 1, false);
        x.sight(0, 2, true);
        due("none fits", x.fits(), 0);
        due("clear", x.clear(), true);
        due("no sight", x.count(7), 0);
        due("all fit", x.fits(), 255);
        due("a first one", x.sight(0, 1, true), 1);
    }

    private static void fitsPromise() {
        promise = 19;
        SmokeWeds x = told("wind 3;house a at 3 3 high 3 dry;house b at 5 3 high 1 dry;house c at 3 1 high 1 dry;", 7);
        x.sight(0, 1, true);
        due("east", x.fits(), 4);
        x.sight(2, 0, false);
        due("east", x.fits(), 4);
        x.clear();
        x.sight(2, 0, true);
        due("north", x.fits(), 1);
        x.sight(0, 1, true);
        due("both never", x.fits(), 0);
        x.clear();
        x.sight(1, 0, false);
        due("all but east", x.fits(), 251);
        x.light(0, false);
        due("not lit", x.fits(), 255);
        x.light(0, true);
        x.shut(1, true);
        due("shut", x.fits(), 255);
        x.clear();
        x.sight(0, 1, true);
        due("shut", x.fits(), 0);
        SmokeWeds y = told("plume 3*(hour=1)*(way=2)+1;house a at 3 3 high 3 dry;house b at 5 3 high 1 dry;house c at 3 1 high 1 dry;", 7);
        y.sight(0, 1, true);
        due("not long enough", y.fits(), 0);
        y.hours(1);
        due("the way of the wind that is tried, plumes by the hour that comes", y.fits(), 4);
        y.clear();
        y.sight(0, 2, true);
        due("not by the north wind", y.fits(), 0);
    }

    private static void sharePromise() {
        promise = 20;
        SmokeWeds x = told(ROW, 1);
        due("no soot", x.share(2, 2, 0, 0), -1);
        x.hours(2);
        x.light(1, true);
        x.hours(2);
        due("4 of 6", x.share(2, 2, 0, 0), 2);
        due("4 of 6", x.share(2, 2, 0, 1), 3);
        due("2 of 6", x.share(2, 2, 1, 0), 1);
        due("2 of 6", x.share(2, 2, 1, 1), 3);
        due("0 of 6", x.share(2, 2, 2, 0), 0);
        due("0 of 6", x.share(2, 2, 2, 1), 1);
        due("4 of 4", x.share(0, 2, 0, 0), 1);
        due("4 of 4", x.share(0, 2, 0, 1), 1);
        due("no soot", x.share(4, 4, 0, 1), -1);
        for (int none : new int[] {-1, 5, 12, MIN, MAX}) {
            due("no cell", x.share(none, 2, 0, 0), -1);
            due("no cell", x.share(2, none, 0, 0), -1);
        }
        for (int none : new int[] {-1, 3, 8, MIN, MAX}) {
            due("no house", x.share(2, 2, none, 0), -1);
        }
        for (int what : new int[] {-1, 2, MIN, MAX}) {
            due("no such what", x.share(2, 2, 0, what), -1);
        }
    }

    private static void daysPromise() {
        promise = 21;
        SmokeWeds x = told(TURNING, 3);
        due("one wedding a day", x.days(7, 1, 72, 0), 3);
        due("one wedding a day, all together", x.days(7, 20, 72, 0), 60);
        due("before the east wind", x.days(7, 20, 3, 0), 0);
        due("nobody to two", x.days(7, 20, 72, 1), 0);
        due("all is as ahead", x.count(3) + x.count(4) + x.count(6), 0);
        x.hours(4);
        due("wed already", x.days(7, 5, 20, 0), 0);
        due("the next day", x.days(7, 5, 24, 0), 5);
        due("all is as ahead", x.pair(0, 1, 0), 1);
        SmokeWeds y = told("wind hour;house a at 2 2 high 1 dry;house b at 1 2 high 1 lean;house c at 3 2 high 1 dry;", 3);
        y.hours(1);
        due("wed anew by each turn", y.days(0, 2, 3, 0), 6);
        SmokeWeds z = told("wind 2;house a at 0 2 high 3 dry;house b at 2 2 high 3 dry;house c at 4 2 high 1 dry;house d at 1 2 high 2 dry;", 7);
        due("b to a and c", z.days(0, 1, 1, 1), 1);
        z.light(3, true);
        due("a to b and d, b to a, c, d, d to a and b", z.days(0, 1, 1, 1), 3);
        due("pairs ab, ad, bd, bc", z.days(0, 3, 9, 0), 12);
        drawnDays();
        wedToTwoInDays();
        for (int bad : new int[] {-1, MIN, MAX}) {
            due("no such seed", z.days(bad, 1, 1, 0), -1);
            due("no such runs", z.days(0, bad, 1, 0), -1);
            due("no such hours", z.days(0, 1, bad, 0), -1);
            due("no such what", z.days(0, 1, 1, bad), -1);
        }
        due("no such seed", z.days(10000, 1, 1, 0), -1);
        due("the last seed", z.days(9999, 1, 1, 0), 4);
        due("no such runs", z.days(0, 21, 1, 0), -1);
        due("no such runs", z.days(0, 0, 1, 0), -1);
        due("no such hours", z.days(0, 1, 73, 0), -1);
        due("no such hours", z.days(0, 1, 0, 0), -1);
        due("no such what", z.days(0, 1, 1, 2), -1);
    }

    private static void wedToTwoInDays() {
        String three = "house a at 0 2 high 3 dry;house b at 2 2 high 3 dry;house c at 4 2 high 1 dry;";
        SmokeWeds x = told("wind 2;" + three, 3);
        x.hours(1);
        x.light(0, false);
        x.light(2, true);
        due("b meets c alone and is wed to a, too", x.days(0, 1, 1, 1), 1);
        due("c is the one wedding", x.days(0, 1, 1, 0), 1);
        SmokeWeds y = told("wind 2*(hour=0);" + three, 7);
        y.hours(1);
        due("b is wed to two", y.house(1, 6), 5);
        due("in no hour from now on till the next day", y.days(0, 20, 23, 1), 0);
        due("in that day's first", y.days(0, 20, 24, 1), 1);
    }

    /** Two houses that meet by the east wind alone, where each hour's wind is drawn in so many of ten. */
    private static void drawnDays() {
        for (int turns = 0; turns <= 10; turns++) {
            SmokeWeds x = told("turns " + turns + ";house a at 2 2 high 3 dry;house b at 4 2 high 1 dry;", 3);
            x.hours(1);
            for (int seed = 0; seed < 30; seed++) {
                long g = seed;
                int weddings = 0;
                for (int run = 0; run < 4; run++) {
                    boolean wed = false;
                    for (int hour = 0; hour < 20; hour++) {
                        int way = 0;
                        g = (g * 1103515245L + 12345L) & 0x7fffffffL;
                        if ((g >> 16) % 10 < turns) {
                            g = (g * 1103515245L + 12345L) & 0x7fffffffL;
                            way = (int) ((g >> 16) % 8);
                        }
                        if (way == 2 && !wed) {
                            weddings++;
                        }
                        wed = way == 2;
                    }
                }
                due("turns " + turns + ", seed " + seed, x.days(seed, 4, 20, 0), weddings);
            }
        }
    }

    private static void markPromise() {
        promise = 22;
        SmokeWeds x = told(TURNING, 3);
        for (int mark : new int[] {-1, 4, MIN, MAX}) {
            due("no such mark", x.mark(mark, false), false);
            due("no such mark", x.mark(mark, true), false);
        }
        for (int mark = 0; mark < 4; mark++) {
            due("nothing is on it", x.mark(mark, true), false);
        }
        x.hours(5);
        x.shut(1, true);
        x.sight(0, 1, true);
        due("laid", x.mark(3, false), true);
        due("another street", tell(x, "field 3 4;" + HOUSE_A), 0);
        x.light(0, true);
        x.hours(30);
        due("laid", x.mark(0, false), true);
        due("gone back", x.mark(3, true), true);
        int[] counts = {5, 5, 2, 5, 1, 0, 20, 1, 0};
        for (int what = 0; what < counts.length; what++) {
            due("count " + what, x.count(what), counts[what]);
        }
        due("hours wed", x.pair(0, 1, 0), 2);
        due("lit", x.house(0, 4), 1);
        due("shut", x.house(1, 5), 1);
        due("paid", x.house(0, 7), 10);
        due("the sight", x.fits(), 0);
        x.hours(1);
        due("the mark is not the street", x.mark(3, true), true);
        due("the mark is not the street", x.count(3), 5);
        due("the wind ahead is held", x.hours(1), 6);
        due("no turn: still wed", x.pair(0, 1, 0), 3);
        due("the other mark", x.mark(0, true), true);
        due("its columns", x.count(0), 3);
        due("its hour", x.count(3), 30);
        due("laid anew", x.mark(3, false), true);
        due("laid anew", x.mark(3, true), true);
        due("laid anew", x.count(3), 30);
        SmokeWeds w = told("cold 4;turns 10;plume high+9;" + HOUSE_A + "house b at 1 0 high 2 peat;wind 2;", 3);
        w.hours(7);
        w.sight(0, 1, false);
        w.mark(1, false);
        int drawn = w.days(5, 9, 9, 0);
        tell(w, "house a at 5 5 high 2 oil;house b at 1 5 high 3 oil;house c at 2 5 high 4 oil;wind 4;");
        w.hours(1);
        w.sight(0, 1, true);
        w.mark(1, true);
        due("plumes are held", w.plume(0), 10);
        due("kinds are held", w.plume(1), 22);
        due("children are held", w.pair(0, 1, 1), 2);
        due("turns are held", w.days(5, 9, 9, 0), drawn);
        due("what was seen is held", w.fits(), 255 & ~(1 << 2) & ~(1 << 6));
        w.light(0, false);
        w.hours(1);
        due("cold is held", w.house(0, 7), 18);
        due("the wind ahead is held", w.pair(0, 1, 0), 8);
        SmokeWeds y = new SmokeWeds();
        due("a new object is laid", y.mark(2, false), true);
        tell(y, TURNING);
        due("gone back to a new object", y.mark(2, true), true);
        due("no house", y.count(2), 0);
        due("8 columns", y.count(0), 8);
        feed(y, "cold 5;");
        due("the tape is not in a mark", y.mark(2, true), true);
        due("the tape is not in a mark", y.count(8), 7);
        due("nor taken by one", y.mark(1, false), true);
        due("nor taken by one", y.count(8), 7);
        due("nor taken by one", y.street(), 0);
    }

    private static void countPromise() {
        promise = 23;
        SmokeWeds x = told("field 5 6;wind 2;house a at 0 2 high 3 dry;house b at 2 2 high 3 dry;house c at 4 2 high 1 dry;", 7);
        x.hours(7);
        x.sight(0, 1, false);
        feed(x, "field 12");
        int[] counts = {5, 6, 3, 7, 2, 4, 49, 1, 8};
        for (int what = 0; what < counts.length; what++) {
            due("count " + what, x.count(what), counts[what]);
        }
        for (int what : new int[] {-1, 9, MIN, MAX}) {
            due("no such what", x.count(what), -1);
        }
    }

    public static void main(String[] args) {
        aNewObject();
        feedPromise();
        streetPromise();
        housePromise();
        lightPromise();
        shutPromise();
        windPromise();
        plumePromise();
        smokePromise();
        meetsPromise();
        hoursPromise();
        pairPromise();
        sootPromise();
        onlyPromise();
        feastPromise();
        freePromise();
        sightPromise();
        clearPromise();
        fitsPromise();
        sharePromise();
        daysPromise();
        markPromise();
        countPromise();
        System.out.println(wrong == 0 ? "all promises are kept" : wrong + " answers are not as due");
        if (wrong != 0) {
            System.exit(1);
        }
    }
}
