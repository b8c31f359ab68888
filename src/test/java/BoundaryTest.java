import java.util.ArrayList;
import java.util.Arrays;
import java.util.List;
import java.util.NoSuchElementException;

/**
 * For each sentence of the document that names a boundary a method of its own, named after the sentence: the last value
 * that is taken and the first one that is not, empty and full, and refused calls, which leave all else as it was.
 */
public final class BoundaryTest {
    private static final int MIN = Integer.MIN_VALUE;
    private static final int MAX = Integer.MAX_VALUE;
    private static final int NONE = -1;
    // What stands for an exception where an answer is due.
    private static final long THROWS = Long.MIN_VALUE;

    private static final String[] RESERVED = {"field", "wind", "plume", "cold", "turns", "house", "at", "high",
        "dry", "wet", "peat", "lean", "oil", "not", "and", "or"};
    private static final String[] KINDS = {"dry", "wet", "peat", "lean", "oil"};

    // By the east wind a lies on columns 0 to 2 of row 2 and meets b, which lies on column 2; by no other wind.
    private static final String A_AND_B = "house a at 0 2 high 3 dry;house b at 2 2 high 1 dry;";

    private static int wrong = 0;
    private static String sentence = "";

    interface Call {
        long on(SmokeWeds x);
    }

    private static void due(String call, long got, long want) {
        if (got != want) {
            wrong++;
            System.out.println(sentence + ": " + call + " answered " + got + ", due is " + want);
        }
    }

    private static void due(String call, boolean got, boolean want) {
        due(call, got ? 1 : 0, want ? 1 : 0);
    }

    private static int feed(SmokeWeds x, String text) {
        int there = 0;
        for (int from = 0; from < text.length(); from += 24) {
            long[] bytes = new long[3];
            for (int i = 0; i < 24; i++) {
                long sign = from + i < text.length() ? text.charAt(from + i) : 0;
                bytes[i / 8] = bytes[i / 8] << 8 | sign;
            }
            there = x.feed(bytes[0], bytes[1], bytes[2]);
        }
        return there;
    }

    private static int tell(SmokeWeds x, String text) {
        feed(x, text);
        return x.street();
    }

    /** A new object with the street that the text tells and the houses of these bits lit. */
    private static SmokeWeds told(String text, int lit) {
        SmokeWeds x = new SmokeWeds();
        due("street of '" + text + "'", tell(x, text), 0);
        for (int house = 0; house < 8; house++) {
            if ((lit >> house & 1) != 0) {
                due("light " + house, x.light(house, true), true);
            }
        }
        return x;
    }

    private static void taken(String text) {
        due("street of '" + text + "'", tell(new SmokeWeds(), text), 0);
    }

    private static void fault(String text, int kind, int place) {
        due("street of '" + text + "'", tell(new SmokeWeds(), text), kind + 16 * place);
    }

    /** The fault lies at the first place of this part of the text. */
    private static void faultAt(String text, int kind, String part) {
        fault(text, kind, text.indexOf(part));
    }

    private static long soot(SmokeWeds x, int column, int row, int house) {
        try {
            return x.soot(column, row, house);
        } catch (NoSuchElementException e) {
            return THROWS;
        }
    }

    private static String repeated(String part, int times) {
        return part.repeat(times);
    }

    private static String eightHouses() {
        StringBuilder text = new StringBuilder();
        for (int i = 0; i < 8; i++) {
            text.append("house ").append((char) ('a' + i)).append(" at ").append(i).append(" 0 high 1 dry;");
        }
        return text.toString();
    }

    // ---- a call that is refused, or only asks, leaves all else as it was ------------------------------------------

    private static final String RICH = "field 4 4;cold 2;turns 3;wind 2*(hour<5);plume high+(way=2);"
        + "house a at 0 1 high 2 dry;house b at 1 1 high 1 lean;house c at 3 3 high 1 peat;";

    /** Somebody is wed, lit, shut and seen, two marks are laid; on the tape is what is told. */
    private static SmokeWeds rich(String tape) {
        SmokeWeds x = told(RICH, 3);
        x.mark(0, false);
        x.hours(3);
        x.sight(0, 2, false);
        x.mark(2, false);
        x.hours(1);
        x.shut(2, true);
        x.sight(0, 1, true);
        feed(x, tape);
        return x;
    }

    private static void addCounts(List<Long> all, SmokeWeds x) {
        for (int what = 0; what <= 8; what++) {
            all.add((long) x.count(what));
        }
        for (int house = 0; house < 3; house++) {
            for (int what = 0; what <= 7; what++) {
                all.add((long) x.house(house, what));
            }
            all.add((long) x.plume(house));
            all.add((long) x.meets(house));
            all.add((long) x.pair(house, (house + 1) % 3, 0));
            all.add((long) x.pair(house, (house + 1) % 3, 1));
        }
    }

    /** All that can be seen of an object like the rich one, its marks, its next hour and its tape at last. */
    private static List<Long> everything(SmokeWeds x) {
        List<Long> all = new ArrayList<>();
        addCounts(all, x);
        for (int cell = 0; cell < 16; cell++) {
            for (int house = -1; house < 3; house++) {
                all.add(soot(x, cell % 4, cell / 4, house));
            }
        }
        for (int hours = 0; hours < 4; hours++) {
            all.add((long) x.wind(hours));
            all.add((long) x.smoke(0, hours));
        }
        all.add((long) x.fits());
        all.add((long) x.days(5, 4, 10, 0));
        all.add((long) x.days(5, 4, 10, 1));
        x.hours(2);
        addCounts(all, x);
        for (int mark = 0; mark < 4; mark++) {
            all.add(x.mark(mark, true) ? 1L : 0L);
            all.add((long) x.fits());
            addCounts(all, x);
        }
        all.add((long) x.street());
        all.add((long) x.count(8));
        return all;
    }

    private static void leavesAll(String name, Call call, long want) {
        String tape = "cold 7;plume 1 2";
        SmokeWeds x = rich(tape);
        due(name, call.on(x), want);
        if (!everything(x).equals(everything(rich(tape)))) {
            wrong++;
            System.out.println(sentence + ": " + name + " does not leave all as it was");
        }
    }

    private static void refusedCallsLeaveAllAsItWas() {
        for (int none : new int[] {-1, 3, 7, 8, 31, 32, 33, MIN, MAX}) {
            leavesAll("house " + none, x -> x.house(none, 0), NONE);
            leavesAll("light " + none, x -> x.light(none, true) ? 1 : 0, 0);
            leavesAll("put out " + none, x -> x.light(none, false) ? 1 : 0, 0);
            leavesAll("shut " + none, x -> x.shut(none, true) ? 1 : 0, 0);
            leavesAll("open " + none, x -> x.shut(none, false) ? 1 : 0, 0);
            leavesAll("plume " + none, x -> x.plume(none), NONE);
            leavesAll("smoke " + none, x -> x.smoke(none, 0), NONE);
            leavesAll("meets " + none, x -> x.meets(none), NONE);
            leavesAll("pair " + none, x -> x.pair(none, 0, 0), NONE);
            leavesAll("pair with " + none, x -> x.pair(0, none, 1), NONE);
            leavesAll("only " + none, x -> x.only(none, 0), NONE);
            leavesAll("only with " + none, x -> x.only(0, none), NONE);
            leavesAll("free " + none, x -> x.free(none, 1), NONE);
            leavesAll("sight " + none, x -> x.sight(none, 0, true), NONE);
            leavesAll("sight with " + none, x -> x.sight(0, none, false), NONE);
            leavesAll("share of " + none, x -> x.share(1, 1, none, 0), NONE);
        }
        for (int none : new int[] {-2, 3, 7, 8, MIN, MAX}) {
            leavesAll("soot by " + none, x -> soot(x, 1, 1, none), THROWS);
        }
        for (int none : new int[] {-1, 4, 11, 12, MIN, MAX}) {
            leavesAll("soot at column " + none, x -> soot(x, none, 1, 0), THROWS);
            leavesAll("soot at row " + none, x -> soot(x, 1, none, -1), THROWS);
            leavesAll("share at column " + none, x -> x.share(none, 1, 0, 0), NONE);
            leavesAll("share at row " + none, x -> x.share(1, none, 0, 1), NONE);
            leavesAll("mark " + none, x -> x.mark(none, false) ? 1 : 0, 0);
            leavesAll("back to mark " + none, x -> x.mark(none, true) ? 1 : 0, 0);
        }
        leavesAll("a house that is lit", x -> x.light(0, true) ? 1 : 0, 0);
        leavesAll("a house that is out", x -> x.light(2, false) ? 1 : 0, 0);
        leavesAll("a house that is shut", x -> x.shut(2, true) ? 1 : 0, 0);
        leavesAll("a house that is open", x -> x.shut(0, false) ? 1 : 0, 0);
        leavesAll("pair of the same", x -> x.pair(1, 1, 0), NONE);
        leavesAll("only of the same", x -> x.only(1, 1), NONE);
        leavesAll("sight of the same", x -> x.sight(1, 1, true), NONE);
        leavesAll("no soot", x -> x.share(3, 0, 0, 0), NONE);
        leavesAll("nothing is on mark 1", x -> x.mark(1, true) ? 1 : 0, 0);
        leavesAll("nothing is on mark 3", x -> x.mark(3, true) ? 1 : 0, 0);
        refusedNumbersLeaveAllAsItWas();
    }

    private static void refusedNumbersLeaveAllAsItWas() {
        for (int none : new int[] {-1, MIN, MAX}) {
            leavesAll("house what " + none, x -> x.house(0, none), NONE);
            leavesAll("wind " + none, x -> x.wind(none), NONE);
            leavesAll("smoke i " + none, x -> x.smoke(0, none), NONE);
            leavesAll("hours " + none, x -> x.hours(none), NONE);
            leavesAll("pair what " + none, x -> x.pair(0, 1, none), NONE);
            leavesAll("feast hours " + none, x -> x.feast(none, 0), NONE);
            leavesAll("feast what " + none, x -> x.feast(0, none), NONE);
            leavesAll("free hours " + none, x -> x.free(0, none), NONE);
            leavesAll("share what " + none, x -> x.share(1, 1, 0, none), NONE);
            leavesAll("days seed " + none, x -> x.days(none, 1, 1, 0), NONE);
            leavesAll("days runs " + none, x -> x.days(0, none, 1, 0), NONE);
            leavesAll("days hours " + none, x -> x.days(0, 1, none, 0), NONE);
            leavesAll("days what " + none, x -> x.days(0, 1, 1, none), NONE);
            leavesAll("count " + none, x -> x.count(none), NONE);
        }
        leavesAll("house what 8", x -> x.house(0, 8), NONE);
        leavesAll("wind 10000", x -> x.wind(10000), NONE);
        leavesAll("smoke i 3", x -> x.smoke(0, 3), NONE);
        leavesAll("hours 0", x -> x.hours(0), NONE);
        leavesAll("hours 1001", x -> x.hours(1001), NONE);
        leavesAll("pair what 2", x -> x.pair(0, 1, 2), NONE);
        leavesAll("feast hours 24", x -> x.feast(24, 0), NONE);
        leavesAll("feast what 2", x -> x.feast(0, 2), NONE);
        leavesAll("free hours 0", x -> x.free(0, 0), NONE);
        leavesAll("free hours 25", x -> x.free(0, 25), NONE);
        leavesAll("share what 2", x -> x.share(1, 1, 0, 2), NONE);
        leavesAll("days seed 10000", x -> x.days(10000, 1, 1, 0), NONE);
        leavesAll("days runs 0", x -> x.days(0, 0, 1, 0), NONE);
        leavesAll("days runs 21", x -> x.days(0, 21, 1, 0), NONE);
        leavesAll("days hours 0", x -> x.days(0, 1, 0, 0), NONE);
        leavesAll("days hours 73", x -> x.days(0, 1, 73, 0), NONE);
        leavesAll("days what 2", x -> x.days(0, 1, 1, 2), NONE);
        leavesAll("count 9", x -> x.count(9), NONE);
        leavesAll("signs that are left out", x -> x.feed(0, -1L, 0x090b1f7f80a0c3ffL), 16);
    }

    private static void whatIsAskedLeavesAllAsItWas() {
        leavesAll("wind", x -> x.wind(9999), 0);
        leavesAll("plume", x -> x.plume(0), 3);
        leavesAll("smoke", x -> x.smoke(0, 2), 16 + 2);
        leavesAll("meets", x -> x.meets(0), 2);
        leavesAll("only", x -> x.only(0, 1), 0);
        leavesAll("only of one that is out", x -> x.only(0, 2), NONE);
        leavesAll("feast", x -> x.feast(0, 1), 3);
        leavesAll("free", x -> x.free(0, 24), 48);
        leavesAll("free of one that is out", x -> x.free(2, 24), 48);
        leavesAll("fits", x -> x.fits(), 4);
        leavesAll("share", x -> x.share(2, 1, 0, 1), 2);
        leavesAll("days", x -> x.days(0, 20, 72, 1), 0);
        leavesAll("soot", x -> soot(x, 2, 1, -1), 8);
    }

    // ---- the tape and its tokens --------------------------------------------------------------------------------

    private static void theTapeHasAtMostAThousandSigns() {
        SmokeWeds x = new SmokeWeds();
        due("no sign", x.feed(0, 0, 0), 0);
        due("empty", x.count(8), 0);
        due("984", feed(x, repeated(" ", 984)), 984);
        due("999", feed(x, repeated(" ", 15)), 999);
        due("the last one", feed(x, ";"), 1000);
        due("one too many", feed(x, ";"), 1000);
        due("24 too many", feed(x, repeated(";", 24)), 1000);
        due("full", x.count(8), 1000);
        due("its last sign is read", x.street(), 1 + 16 * 999);
        due("empty again", x.count(8), 0);
        due("it can be filled again", feed(x, repeated("\n", 1200)), 1000);
        due("all blanks", x.street(), 0);
        SmokeWeds y = new SmokeWeds();
        feed(y, repeated(" ", 984));
        due("16 go on, 8 are left out", feed(y, "field 12 5;wind;" + "cold 99;"), 1000);
        due("the 16", y.street(), 1 + 16 * 999);
        feed(y, repeated(" ", 984));
        due("16 go on, 8 are left out", feed(y, "field 12 5;    ;" + "!!!!!!!!"), 1000);
        due("the first 16", y.street(), 1 + 16 * 999);
        feed(y, repeated(" ", 984));
        due("16 go on, 8 are left out", feed(y, "cold 9;turns 10;" + "!!!!!!!!"), 1000);
        due("the first 16", y.street(), 0);
        SmokeWeds z = new SmokeWeds();
        due("999", feed(z, repeated(" ", 999)), 999);
        due("left out are they even if full", z.feed(0, 0, 0x0102030405060708L), 999);
        due("of three the first", z.feed(0, 0x3b00000000000000L, 0x2121000000000000L), 1000);
        due("of three the first", z.street(), 1 + 16 * 999);
    }

    private static void alongTheWholeTapeALawCanBeTold() {
        String sum = "wind " + repeated("1+", 496) + "1;";
        SmokeWeds x = told(sum, 0);
        due("497 ones", x.wind(0), 497 % 8);
        SmokeWeds y = told("house a at 0 0 high 1 dry;plume " + repeated("1*", 482) + "7;", 0);
        due("a long product", y.plume(0), 7);
        SmokeWeds z = told("wind " + repeated("1or", 248) + "0;", 0);
        due("many or", z.wind(0), 1);
        fault("wind " + repeated("1+", 497) + "1;", 1, 1000);
    }

    private static void signsAre10And32To126() {
        for (int sign = 0; sign < 256; sign++) {
            boolean isSign = sign == 10 || sign >= 32 && sign <= 126;
            for (int place = 0; place < 24; place++) {
                long[] bytes = new long[3];
                bytes[place / 8] = (long) sign << 56 - 8 * (place % 8);
                SmokeWeds x = new SmokeWeds();
                due("sign " + sign + " at " + place, x.feed(bytes[0], bytes[1], bytes[2]), isSign ? 1 : 0);
            }
        }
        SmokeWeds x = new SmokeWeds();
        due("up to 24", feed(x, "~~~~~~~~~~~~~~~~~~~~~~~~"), 24);
    }

    private static void theBytesOfEachTheHighestFirst() {
        SmokeWeds x = new SmokeWeds();
        due("field 12 3;cold 5;turns!", x.feed(0x6669656c64203132L, 0x20333b636f6c6420L, 0x353b7475726e7321L), 24);
        due("the last of 24", x.street(), 1 + 16 * 23);
        due("field 12 3;cold 5;cold 6;", feed(x, "field 12 3;cold 5;cold 6;"), 25);
        due("behind what is there", x.street(), 3 + 16 * 18);
    }

    private static void whatReadsTheTapeTakesIt() {
        SmokeWeds x = new SmokeWeds();
        feed(x, "field 3 4;");
        due("read", x.street(), 0);
        due("empty", x.count(8), 0);
        due("columns", x.count(0), 3);
        due("an empty text is a street, too", x.street(), 0);
        due("8 columns without field", x.count(0), 8);
        due("8 rows without field", x.count(1), 8);
        feed(x, "field 3 13;");
        due("a fault", x.street(), 4 + 16 * 8);
        due("empty behind a fault, too", x.count(8), 0);
        due("nothing of it stays", tell(x, "turns 3;"), 0);
        due("a longer text", tell(x, "house abcd at 0 0 high 1 dry;cold 1234;"), 4 + 16 * 34);
        due("a word ends with the text", tell(x, "cold 1; cold"), 3 + 16 * 8);
        due("a longer text", tell(x, "cold 1; coldcold"), 1 + 16 * 8);
        due("a word ends with the text", tell(x, "cold 1; turns"), 1 + 16 * 13);
        due("a longer text", tell(x, "wind 12345"), 1 + 16 * 5);
        due("a number ends with the text", tell(x, "wind 1234"), 1 + 16 * 9);
        due("a full tape that ends with a word", tell(x, repeated(" ", 996) + "cold"), 1 + 16 * 1000);
        due("a full tape that ends with a number", tell(x, repeated(" ", 994) + "cold 7"), 1 + 16 * 1000);
    }

    private static void blanksStandWhereOneLikes() {
        taken("\n  field\n\n2 \n2\n;\n \nwind\n1 + 2 ; ");
        taken("field 2 2;wind(1)<2and 3or not(4);house a at1 0high3lean;plume high*2-way;cold5;turns6;");
        taken("cold5;turns6;house a at1 0high3dry;");
        faultAt("fie ld 2 2;", 1, "fie");
        faultAt("field 2 2;wi\nnd 1;", 1, "wi");
        faultAt("cold 1 0;", 1, "0");
        faultAt("house a at 10high 3dry;", 4, "10");
    }

    private static void tokensAreAsLongAsCanBe() {
        faultAt("housea at 0 0 high 1 dry;", 1, "housea");
        faultAt("house aat 0 0 high 1 dry;", 1, "0");
        faultAt("house a at 0 0 high 1 drywet;", 1, "drywet");
        faultAt("coldx 1;", 1, "coldx");
        fault("field 12 12;", 0, 0);
        faultAt("field 1212;", 4, "1212");
        faultAt("wind not1and hour5;", 1, "5");
        faultAt("wind notnot 1;", 1, "notnot");
    }

    private static void aWordHasEightLettersAtMost() {
        taken("house abcdefgh at 0 0 high 1 dry;");
        taken("house zzzzzzzz at 0 0 high 1 dry;house zzzzzzzy at 0 1 high 1 dry;house yzzzzzzz at 0 2 high 1 dry;");
        taken("house azzzzzzz at 0 0 high 1 dry;house czzzzzzz at 0 1 high 1 dry;house ezzzzzzz at 0 2 high 1 dry;");
        faultAt("house abcdefghi at 0 0 high 1 dry;", 1, "abcdefghi");
        faultAt("house a at 0 0 high 1 abcdefghi;", 1, "abcdefghi");
        faultAt("abcdefghi", 1, "abcdefghi");
        faultAt("house aaaaafield at 0 0 high 1 dry;", 1, "aaaaafield");
        faultAt("aaaaaaaafield 1 1;", 1, "aaaa");
        faultAt("wind aaaaaaaahour;", 1, "aaaa");
        faultAt("house " + repeated("x", 300) + " at 0 0 high 1 dry;", 1, "xx");
    }

    private static void aNumberHasOneToFourDigits() {
        SmokeWeds x = told("wind 9999;", 0);
        due("9999", x.wind(0), 9999 % 8);
        SmokeWeds y = told("wind 0007;", 0);
        due("0007", y.wind(0), 7);
        taken("field 0012 0001;cold 0099;turns 0010;house a at 0011 0000 high 0009 dry;");
        faultAt("wind 10000;", 1, "10000");
        faultAt("wind 00001;", 1, "00001");
        faultAt("cold 00001;", 1, "00001");
        faultAt("field 1 00001;", 1, "00001");
        faultAt("wind 99999999999999999999;", 1, "9");
        faultAt("wind 4294967297;", 1, "4");
    }

    private static void aLetterMayStandRightBehindANumber() {
        taken("house a at 0 0 high 1dry;");
        taken("wind 1and 2or 3;");
        taken("wind 9999and 1;");
        faultAt("wind 12345and 1;", 1, "12345");
        faultAt("wind 1hour;", 1, "hour");
        faultAt("house 1a at 0 0 high 1 dry;", 1, "1a");
        faultAt("house a1 at 0 0 high 1 dry;", 1, "1 at");
    }

    private static void allOtherSignsAreNone() {
        for (char sign = 33; sign <= 126; sign++) {
            boolean letter = sign >= 'a' && sign <= 'z';
            boolean joins = "+-*<=".indexOf(sign) >= 0;
            String text = "wind 1 " + sign + " 2;";
            // Behind ; the 2 is what can't stand there.
            fault(text, joins ? 0 : 1, joins ? 0 : sign == ';' ? 9 : 7);
            fault("" + sign, 1, 0);
            if (!letter) {
                fault("house " + sign + " at 0 0 high 1 dry;", 1, 6);
            } else {
                taken("house " + sign + " at 0 0 high 1 dry;");
            }
            if (sign != ';') {
                fault("cold 1 " + sign, 1, 7);
            }
        }
        taken("wind (1);");
    }

    // ---- the street ---------------------------------------------------------------------------------------------

    private static void aFieldHas1To12ColumnsAndRows() {
        for (int side = 0; side <= 14; side++) {
            boolean as = side >= 1 && side <= 12;
            SmokeWeds x = new SmokeWeds();
            due("columns " + side, tell(x, "field " + side + " 5;"), as ? 0 : 4 + 16 * 6);
            due("columns " + side, x.count(0), as ? side : 8);
            due("rows", x.count(1), as ? 5 : 8);
            SmokeWeds y = new SmokeWeds();
            due("rows " + side, tell(y, "field 5 " + side + ";"), as ? 0 : 4 + 16 * 8);
            due("rows " + side, y.count(1), as ? side : 8);
        }
        faultAt("field 9999 1;", 4, "9999");
        faultAt("field 1 9999;", 4, "9999");
        faultAt("field 0 0;", 4, "0");
        fault("field 13 0;", 4, 6);
    }

    private static void aFieldIsToldOnceAheadOfTheFirstHouse() {
        taken("wind 1;plume 2;cold 3;turns 4;field 2 2;house a at 1 1 high 1 dry;");
        fault("field 2 2;field 2 2;", 3, 10);
        fault("field 2 2;cold 1;field", 3, 17);
        fault("house a at 0 0 high 1 dry;field 9 9;", 3, 26);
        fault("field 2 2;house a at 0 0 high 1 dry;field 2 2;", 3, 36);
        SmokeWeds x = told("house a at 7 7 high 1 dry;", 0);
        due("8 columns without", x.count(0), 8);
        due("8 rows without", x.count(1), 8);
    }

    private static void coldIs0To99AndOnce() {
        for (int cold : new int[] {0, 1, 98, 99}) {
            SmokeWeds x = told("cold " + cold + ";house a at 0 0 high 1 dry;", 0);
            x.hours(1);
            due("cold " + cold, x.house(0, 7), cold);
        }
        fault("cold 100;", 4, 5);
        fault("cold 9999;", 4, 5);
        fault("cold 1;cold 1;", 3, 7);
        SmokeWeds y = told("house a at 0 0 high 1 dry;", 0);
        y.hours(1);
        due("1 without", y.house(0, 7), 1);
    }

    private static void turnsAre0To10AndOnce() {
        for (int turns : new int[] {0, 1, 9, 10}) {
            taken("turns " + turns + ";");
        }
        fault("turns 11;", 4, 6);
        fault("turns 9999;", 4, 6);
        fault("turns 1;turns 1;", 3, 8);
        SmokeWeds x = told("wind 2;" + A_AND_B, 3);
        for (int seed = 0; seed < 40; seed++) {
            due("none drawn without turns", x.days(seed, 20, 72, 0), 20);
        }
    }

    private static void windAndPlumeAreToldOnce() {
        fault("wind 1;wind 1;", 3, 7);
        fault("plume 1;plume 1;", 3, 8);
        fault("wind 1;plume 1;cold 1;turns 1;wind", 3, 30);
        fault("wind 1;plume 1;cold 1;turns 1;plume", 3, 30);
        fault("wind 1;plume 1;cold 1;turns 1;cold", 3, 30);
        fault("wind 1;plume 1;cold 1;turns 1;turns", 3, 30);
        taken("wind 1;plume 1;cold 1;turns 1;field 1 1;house a at 0 0 high 1 dry;");
        taken("turns 1;cold 1;house a at 0 0 high 1 dry;plume 1;wind 1;");
    }

    private static void aStreetHasEightHousesAtMost() {
        String eight = eightHouses();
        SmokeWeds x = told(eight, 0);
        due("eight", x.count(2), 8);
        due("the last one", x.house(7, 0), 7);
        due("no ninth", x.house(8, 0), NONE);
        fault(eight + "house i at 0 1 high 1 dry;", 5, eight.length());
        fault(eight + "house", 5, eight.length());
        fault(eight + " \nhouse a at 0 0", 5, eight.length() + 2);
        fault(eight + "cold 1;house", 5, eight.length() + 7);
        due("they are as told ahead", tell(x, eight + "house i at 0 1 high 1 dry;"), 5 + 16 * eight.length());
        due("they are as told ahead", x.count(2), 8);
        SmokeWeds none = new SmokeWeds();
        due("none", none.count(2), 0);
        due("no first", none.house(0, 0), NONE);
    }

    private static void housesAreNumberedAsTold() {
        SmokeWeds x = told("house zz at 5 1 high 0 oil;cold 2;house b at 3 2 high 9 wet;house a at 1 4 high 5 lean;", 0);
        int[][] houses = {{5, 1, 0, 4}, {3, 2, 9, 1}, {1, 4, 5, 3}};
        for (int house = 0; house < 3; house++) {
            for (int what = 0; what < 4; what++) {
                due("house " + house + " " + what, x.house(house, what), houses[house][what]);
            }
        }
    }

    private static void aHouseStandsInTheField() {
        int[][] fields = {{1, 1}, {12, 12}, {12, 1}, {1, 12}, {8, 8}, {5, 9}};
        for (int[] field : fields) {
            String told = "field " + field[0] + " " + field[1] + ";house a at ";
            int lastColumn = field[0] - 1;
            int lastRow = field[1] - 1;
            taken(told + "0 0 high 1 dry;");
            taken(told + lastColumn + " " + lastRow + " high 1 dry;");
            fault(told + field[0] + " 0 high 1 dry;", 4, told.length());
            fault(told + "0 " + field[1] + " high 1 dry;", 4, told.length() + 2);
            fault(told + "9999 9999 high 1 dry;", 4, told.length());
        }
        taken("house a at 7 7 high 1 dry;");
        fault("house a at 8 7 high 1 dry;", 4, 11);
        fault("house a at 7 8 high 1 dry;", 4, 13);
    }

    private static void eachCellHasOneHouse() {
        String first = "house a at 3 4 high 1 dry;";
        taken(first + "house b at 4 3 high 1 dry;house c at 3 3 high 1 dry;house d at 4 4 high 1 dry;");
        fault(first + "house b at 3 4 high 1 dry;", 3, first.length() + 13);
        fault(first + "house b at 0003 04", 3, first.length() + 16);
        fault(first + "house b at 4 3 high 1 dry;house c at 4 3", 3, first.length() + 39);
        fault(eightHouses().substring(0, 7 * 26) + "house x at 0 0", 3, 7 * 26 + 13);
    }

    private static void highIs0To9() {
        for (int high : new int[] {0, 1, 8, 9}) {
            SmokeWeds x = told("house a at 0 0 high " + high + " dry;", 0);
            due("high " + high, x.house(0, 2), high);
            due("without plume", x.plume(0), high);
        }
        fault("house a at 0 0 high 10 dry;", 4, 20);
        fault("house a at 0 0 high 9999 dry;", 4, 20);
    }

    private static void aKindIsOneOfFive() {
        for (int kind = 0; kind < 5; kind++) {
            SmokeWeds x = told("house a at 0 0 high 1 " + KINDS[kind] + ";", 0);
            due(KINDS[kind], x.house(0, 3), kind);
        }
        for (String other : new String[] {"high", "not", "field", "a", "dr", "dryy", "coal", "hour", "1", ";", "("}) {
            fault("house a at 0 0 high 1 " + other + ";", 1, 22);
        }
    }

    private static void aNameIsAnotherWord() {
        for (String word : RESERVED) {
            fault("house " + word + " at 0 0 high 1 dry;", 1, 6);
            taken("house " + word + "x at 0 0 high 1 dry;house x" + word + " at 0 1 high 1 dry;");
        }
        for (String word : new String[] {"hour", "day", "way", "a", "z", "houses"}) {
            taken("house " + word + " at 0 0 high 1 dry;");
        }
        fault("house ; at 0 0 high 1 dry;", 1, 6);
        fault("house 7 at 0 0 high 1 dry;", 1, 6);
        fault("house at 0 0 high 1 dry;", 1, 6);
    }

    private static void noTwoNamesAreAlike() {
        String eight = eightHouses();
        fault("house ab at 0 0 high 1 dry;house ab", 3, 33);
        taken("house ab at 0 0 high 1 dry;house ba at 0 1 high 1 dry;house a at 0 2 high 1 dry;house b at 0 3 high 1 dry;");
        taken("house abcdefgh at 0 0 high 1 dry;house abcdefg at 0 1 high 1 dry;house bcdefgh at 0 2 high 1 dry;");
        fault(eight.substring(0, 7 * 26) + "house a at 7 7 high 1 dry;", 3, 7 * 26 + 6);
        fault(eight.substring(0, 7 * 26) + "house g at 7 7 high 1 dry;", 3, 7 * 26 + 6);
        SmokeWeds x = told("house a at 0 0 high 1 dry;", 0);
        due("a name of the street of till then", tell(x, "house a at 1 1 high 1 dry;"), 0);
    }

    // ---- laws ---------------------------------------------------------------------------------------------------

    private static int windOf(String law) {
        return told("wind " + law + ";", 0).wind(0);
    }

    private static void noPartLiesWithinFive() {
        String[] parts = {"7", "hour", "not 1", "(1)"};
        for (int opened = 0; opened <= 7; opened++) {
            for (String part : parts) {
                for (int nots = 0; nots <= opened; nots++) {
                    partWithin(opened, nots, part);
                }
            }
        }
        due("within 4", windOf("((((7))))"), 7);
        due("within 4", windOf("not not not not 7"), 1);
        due("beside one another", windOf("((((1))))+((((1))))*((((2))))"), 3);
        due("what is closed is no more around", windOf("(((1)+(1))+(((2))))"), 4);
        due("a not is over behind its part", windOf("not not not not 0+((((3))))"), 3);
        fault("plume (((((high)))));", 5, 11);
        fault("plume ((((high+way*not 1))));", 5, 23);
        taken("plume ((((high+way*1))));");
    }

    /** A part within so many, of which the inner ones are not. */
    private static void partWithin(int opened, int nots, String part) {
        int round = opened - nots;
        String text = "wind " + repeated("(", round) + repeated("not ", nots) + part + repeated(")", round) + ";";
        boolean isDeeper = part.equals("not 1") || part.equals("(1)");
        int deepest = opened + (isDeeper ? 1 : 0);
        if (deepest < 5) {
            taken(text);
            return;
        }
        int place = 5;
        for (int i = 0; i < 5; i++) {
            place += i < round ? 1 : i < opened ? 4 : part.equals("(1)") ? 1 : 4;
        }
        fault(text, 5, place);
    }

    private static void withinFiveWhatCannotStandIsThatFirst() {
        fault("wind (((((;", 1, 10);
        fault("wind ((((()))));", 1, 10);
        fault("wind (((((high)))));", 1, 10);
        fault("wind (((((way)))));", 1, 10);
        fault("wind (((((x)))));", 1, 10);
        fault("wind (((((and)))));", 1, 10);
        fault("wind (((((12345)))));", 1, 10);
        fault("wind (((((!)))));", 1, 10);
        fault("wind (((((", 1, 10);
        fault("wind not not not not not", 1, 24);
        fault("wind not not not not not ;", 1, 25);
    }

    private static void intsWrap() {
        String large = "(1024*1024*1024+(1024*1024*1024-1))";
        due("the largest", windOf("0<" + large), 1);
        due("one more is the least", windOf(large + "+1<0"), 1);
        due("one more is the least", windOf(large + "+1=0-" + large + "-1"), 1);
        due("one less than the least", windOf("0-" + large + "-1-1=" + large), 1);
        due("the least by -1", windOf("(" + large + "+1)*(0-1)=" + large + "+1"), 1);
        due("65536 by itself", windOf("256*256*(256*256)"), 0);
        due("65536 by itself", windOf("not(256*256*(256*256))"), 1);
        due("46341 by itself", windOf("(9999*4+6345)*(9999*4+6345)<0"), 1);
        due("46340 by itself", windOf("0<(9999*4+6344)*(9999*4+6344)"), 1);
        due("the least modulo 8", windOf(large + "+1"), 0);
        due("one more than the least modulo 8", windOf(large + "+1+1"), 1);
    }

    private static void whatIsNot0IsSo() {
        int[] values = {0, 1, 2, -1, 256};
        String[] told = {"0", "1", "2", "(0-1)", "256"};
        for (int a = 0; a < values.length; a++) {
            due("not " + told[a], windOf("not " + told[a]), values[a] == 0 ? 1 : 0);
            for (int b = 0; b < values.length; b++) {
                boolean first = values[a] != 0;
                boolean second = values[b] != 0;
                due(told[a] + " and " + told[b], windOf(told[a] + " and " + told[b]), first && second ? 1 : 0);
                due(told[a] + " or " + told[b], windOf(told[a] + " or " + told[b]), first || second ? 1 : 0);
                due(told[a] + "<" + told[b], windOf(told[a] + "<" + told[b]), values[a] < values[b] ? 1 : 0);
                due(told[a] + "=" + told[b], windOf(told[a] + "=" + told[b]), values[a] == values[b] ? 1 : 0);
            }
        }
    }

    private static void aTestHasOneComparisonAtMost() {
        fault("wind 1<2<3;", 1, 8);
        fault("wind 1=2=3;", 1, 8);
        fault("wind 1<2=3;", 1, 8);
        fault("wind 1=2<3;", 1, 8);
        due("one in brackets", windOf("(1<2)<3"), 1);
        due("one behind and", windOf("1<2 and 2<3"), 1);
        due("and and or from the left", windOf("1 or 0 and 0"), 0);
        due("and and or from the left", windOf("0 and 0 or 1"), 1);
        due("- from the left", windOf("9-3-2"), 4);
    }

    private static void hourIs0To23AndDayByCut() {
        SmokeWeds x = told("wind hour;plume day;house a at 0 0 high 9 dry;", 0);
        due("hour 0", x.wind(0), 0);
        due("hour 23", x.wind(23), 7);
        due("hour 0 again", x.wind(24), 0);
        due("hour 23 again", x.wind(47), 7);
        x.hours(23);
        due("day 0", x.plume(0), 0);
        due("the last hour of it", x.wind(0), 7);
        x.hours(1);
        due("day 1", x.plume(0), 1);
        due("its first hour", x.wind(0), 0);
        x.hours(23);
        due("day 1", x.plume(0), 1);
        x.hours(1);
        due("day 2", x.plume(0), 2);
        SmokeWeds y = told("wind hour=23;", 0);
        due("22", y.wind(22), 0);
        due("23", y.wind(23), 1);
        due("24", y.wind(24), 0);
        SmokeWeds z = told("wind 23<hour;", 0);
        for (int hours = 0; hours < 50; hours++) {
            due("never 24", z.wind(hours), 0);
        }
    }

    private static void highAndWayAreFactsOfPlumeAlone() {
        fault("wind high;", 1, 5);
        fault("wind way;", 1, 5);
        fault("wind 1+way;", 1, 7);
        fault("plume 1;wind high;", 1, 13);
        taken("plume high;wind 1;");
        taken("wind hour+day;plume hour+day+high+way;");
        fault("plume wind;", 1, 6);
        fault("plume wet;", 1, 6);
        fault("plume at;", 1, 6);
    }

    private static void withoutWind0AndWithoutPlumeHigh() {
        SmokeWeds x = told("house a at 0 0 high 7 dry;house b at 0 1 high 0 dry;", 0);
        due("wind", x.wind(0), 0);
        due("wind", x.wind(9999), 0);
        due("plume", x.plume(0), 7);
        due("plume", x.plume(1), 0);
        due("laws of a street ahead", tell(x, "wind 3;plume 4;"), 0);
        due("are gone with it", tell(x, "house a at 0 0 high 7 dry;"), 0);
        due("wind", x.wind(0), 0);
        due("plume", x.plume(0), 7);
    }

    private static void whatIsNotToldIsAsWithoutInEachStreet() {
        SmokeWeds x = new SmokeWeds();
        for (int time = 0; time < 4; time++) {
            due("all told", tell(x, "field 12 12;wind 1;plume 1;cold 9;turns 10;" + A_AND_B), 0);
            due("wind", x.wind(0), 1);
            due("all told", tell(x, "field 11 12;wind 1;plume 1;cold 9;turns 10;" + A_AND_B), 0);
            due("wind", x.wind(0), 1);
            for (int bare = 0; bare <= time; bare++) {
                due("nothing told", tell(x, "house a at 2 2 high 3 dry;house b at 4 2 high 1 dry;"), 0);
                due("columns", x.count(0), 8);
                due("rows", x.count(1), 8);
                due("wind", x.wind(0), 0);
                due("plume", x.plume(0), 3);
                x.light(0, true);
                x.light(1, true);
                due("no turns: no wind but the north", x.days(time, 20, 72, 0), 0);
                x.light(1, false);
                x.hours(1);
                due("cold", x.house(1, 7), 1);
            }
        }
    }

    // ---- faults -------------------------------------------------------------------------------------------------

    private static void theFirstWrongTokenFromTheLeft() {
        fault("cold 100;turns 11;", 4, 5);
        fault("turns 11;cold 100;", 4, 6);
        fault("field 0 13;!", 4, 6);
        fault("cold 1;cold 100!", 3, 7);
        fault("house wet at 9 9 high 10 x;", 1, 6);
        fault("house a at 8 8 high 10 x;", 4, 11);
        fault("house a at 7 8 high 10 x;", 4, 13);
        fault("house a at 7 7 high 10 x;", 4, 20);
        fault("house a at 7 7 high 9 x!", 1, 22);
        fault("house a at 7 7 high 9 wet!", 1, 25);
        fault("wind (((((1))))) 12345", 5, 10);
        fault("wind 1 ) (((((1", 1, 7);
    }

    private static void ofOneTokenTheLeast() {
        String eight = eightHouses();
        fault(eight + "cold house", 1, eight.length() + 5);
        fault(eight + "cold 1 house", 1, eight.length() + 7);
        fault("field 1 1;cold field", 1, 15);
        fault("cold 1;turns cold", 1, 13);
        fault("field 1 1 field", 1, 10);
        fault("wind 1 wind", 1, 7);
        fault("house field at", 1, 6);
        fault("field 2 2;house field at", 1, 16);
        fault("house a at 0 0 high 1 dry;house b at a", 1, 37);
        fault("wind (((((not", 5, 10);
        fault("field 10000 1;", 1, 6);
    }

    private static void theEndIsATokenAtTheTextsLength() {
        String[] tokens = ("field 9 9 ; wind hour + ( 1 ) ; plume not high < way and 2 ; cold 5 ; turns 10 ; "
            + "house a at 1 2 high 3 dry ; house b at 2 2 high 0 oil ;").split(" ");
        StringBuilder text = new StringBuilder();
        for (int i = 0; i < tokens.length; i++) {
            text.append(i == 0 ? "" : " ").append(tokens[i]);
            boolean whole = tokens[i].equals(";");
            for (String blanks : new String[] {"", " ", "\n", " \n  "}) {
                String told = text + blanks;
                fault(told, whole ? 0 : 1, whole ? 0 : told.length());
            }
            // A sign that is none in the place of the token.
            int place = text.length() - tokens[i].length();
            fault(text.substring(0, place) + "! ;", 1, place);
        }
        taken("");
        taken(" \n");
    }

    private static void withAFaultAllStays() {
        String[] faulty = {"!", "cold 100;", "field 3 3;wind 4;plume 1;cold 9;turns 9;house z at 0 0 high 3 oil;cold 9;",
            "field 12 12;wind 6;plume 9;cold 0;turns 10;house z at 11 11 high 3 oil;house z", "house a at 4 4 high 1 dry",
            "house a at 0 0 high 3 dry;house b at 0 0 high 3 dry;", "wind (((((1)))));", eightHouses() + "house",
            "field 1 1;plume 3"};
        for (String text : faulty) {
            SmokeWeds x = rich("");
            due("a fault in '" + text + "'", tell(x, text) != 0, true);
            if (!everything(x).equals(everything(rich("")))) {
                wrong++;
                System.out.println(sentence + ": not all stays behind '" + text + "'");
            }
        }
    }

    private static void withoutAFaultAllBeginsAnew() {
        SmokeWeds x = rich("");
        due("the same street anew", tell(x, RICH), 0);
        SmokeWeds y = told(RICH, 0);
        y.mark(1, false);
        for (int what = 0; what <= 8; what++) {
            due("count " + what, x.count(what), y.count(what));
        }
        for (int house = 0; house < 3; house++) {
            for (int what = 4; what <= 7; what++) {
                due("house " + house + " " + what, x.house(house, what), 0);
            }
            due("hours wed", x.pair(house, (house + 1) % 3, 0), 0);
            due("children", x.pair(house, (house + 1) % 3, 1), 0);
            for (int cell = 0; cell < 16; cell++) {
                due("soot", soot(x, cell % 4, cell / 4, house), 0);
            }
        }
        due("nothing was seen", x.fits(), 255);
        due("marks stay", x.mark(2, true), true);
        due("as they were laid", x.count(3), 3);
        due("marks stay", x.mark(0, true), true);
        due("as they were laid", x.count(3), 0);
        due("nothing comes on them", x.mark(1, true), false);
        due("nothing comes on them", x.mark(3, true), false);
    }

    // ---- hours --------------------------------------------------------------------------------------------------

    private static void windIsModulo8AndNotBelow0() {
        for (int value = -17; value <= 17; value++) {
            String law = value < 0 ? "0-" + -value : "" + value;
            due("wind " + law, windOf(law), ((value % 8) + 8) % 8);
        }
    }

    private static void windIsAskedBehind0To9999Hours() {
        SmokeWeds x = told("wind day;", 0);
        due("behind 0", x.wind(0), 0);
        due("behind 9999", x.wind(9999), 9999 / 24 % 8);
        due("behind 9983", x.wind(9983), 415 % 8);
        due("behind 9984", x.wind(9984), 416 % 8);
        due("behind 10000", x.wind(10000), NONE);
        due("behind -1", x.wind(-1), NONE);
        x.hours(1000);
        due("from now on", x.wind(9999), 10999 / 24 % 8);
    }

    private static int lengthOf(String law, String kind) {
        return told("plume " + law + ";house a at 0 0 high 1 " + kind + ";", 0).plume(0);
    }

    private static void aPlumeIs0BelowAnd20Above() {
        String[] laws = {"0-9999*9999", "0-1", "0", "1", "2", "3", "19", "20", "21", "9999*9999", "9999*9999*22"};
        int[] lengths = {0, 0, 0, 1, 2, 3, 19, 20, 20, 20, 9999 * 9999 * 22 < 0 ? 0 : 20};
        for (int i = 0; i < laws.length; i++) {
            due("dry " + laws[i], lengthOf(laws[i], "dry"), lengths[i]);
            due("wet " + laws[i], lengthOf(laws[i], "wet"), lengths[i] / 2);
            due("peat " + laws[i], lengthOf(laws[i], "peat"), lengths[i] * 2);
            due("lean " + laws[i], lengthOf(laws[i], "lean"), lengths[i]);
            due("oil " + laws[i], lengthOf(laws[i], "oil"), lengths[i] + 2);
        }
        SmokeWeds x = told("plume 20;house a at 0 0 high 1 oil;", 0);
        x.shut(0, true);
        due("shut", x.plume(0), 0);
        x.light(0, true);
        due("lit and shut", x.plume(0), 0);
        x.shut(0, false);
        due("opened", x.plume(0), 22);
    }

    private static void aPlumesCellsEndWithIt() {
        SmokeWeds x = told("field 12 12;wind 2;plume 3;house a at 0 5 high 1 dry;house b at 0 11 high 1 lean;"
            + "house c at 0 1 high 1 wet;house d at 11 11 high 1 peat;", 0);
        int[] a = {NONE, 80, 81, 82, NONE};
        int[] b = {NONE, 177, 178, 179, NONE};
        int[] c = {NONE, 16, NONE, NONE, NONE};
        int[] d = {NONE, 187, NONE, NONE, NONE};
        for (int i = -1; i <= 3; i++) {
            due("a " + i, x.smoke(0, i), a[i + 1]);
            due("b " + i, x.smoke(1, i), b[i + 1]);
            due("c " + i, x.smoke(2, i), c[i + 1]);
            due("d " + i, x.smoke(3, i), d[i + 1]);
        }
        x.shut(0, true);
        due("shut", x.smoke(0, 0), NONE);
        SmokeWeds y = told("plume 0;house a at 0 0 high 1 dry;house b at 1 0 high 1 oil;", 0);
        due("without length", y.smoke(0, 0), NONE);
        due("oil has two", y.smoke(1, 0), 1);
        due("by the north wind the second is lost", y.smoke(1, 1), NONE);
    }

    private static void cellsBeyondTheFieldAreLost() {
        int[] east = {0, 1, 1, 1, 0, -1, -1, -1};
        int[] south = {-1, -1, 0, 1, 1, 1, 0, -1};
        for (int way = 0; way < 8; way++) {
            // From each cell of a field of 3 by 2 a plume of three cells.
            for (int cell = 0; cell < 6; cell++) {
                for (int lean = 0; lean < 2; lean++) {
                    SmokeWeds x = told("field 3 2;plume 3;wind " + way + ";house a at " + cell % 3 + " " + cell / 3
                        + " high 0 " + (lean == 0 ? "dry;" : "lean;"), 1);
                    int kept = 0;
                    for (int i = 0; i < 3; i++) {
                        int column = cell % 3 + lean + i * east[way];
                        int row = cell / 3 + i * south[way];
                        boolean lost = column < 0 || column >= 3 || row < 0 || row >= 2;
                        kept += lost ? 0 : 1;
                        due("way " + way + " from " + cell, x.smoke(0, i), lost ? NONE : 16 * row + column);
                    }
                    due("lost cells are of its length", x.plume(0), 3);
                    x.hours(1);
                    due("lost cells have no soot", x.count(6), kept);
                }
            }
        }
    }

    private static void lostCellsMeetNobody() {
        SmokeWeds x = told("field 3 3;wind 2;plume 9;house a at 2 0 high 0 lean;house b at 2 1 high 0 lean;"
            + "house c at 0 0 high 0 dry;", 7);
        due("beyond the field", x.meets(0), 0);
        due("beyond the field", x.meets(1), 0);
        due("beyond the field", x.meets(2), 0);
        SmokeWeds y = told("field 3 3;wind 6;plume 2;house a at 2 0 high 0 lean;house b at 1 0 high 0 lean;", 3);
        due("back into the field", y.meets(0), 2);
        SmokeWeds z = told("field 12 12;wind 6;plume 20;house a at 11 0 high 0 lean;house b at 0 0 high 0 dry;", 3);
        due("to the other end", z.meets(0), 2);
        z.hours(1);
        due("the whole row and one more", z.count(6), 13);
        SmokeWeds v = told("field 12 12;wind 6;plume 12;house a at 11 0 high 0 lean;house b at 0 0 high 0 dry;", 3);
        due("one short of the other end", v.meets(0), 0);
        SmokeWeds w = told("field 12 12;wind 3;plume 20;house a at 0 0 high 0 peat;house b at 11 11 high 0 dry;", 3);
        due("from corner to corner", w.meets(0), 2);
        w.hours(1);
        due("from corner to corner", w.count(6), 13);
    }

    private static void twoMeetWhereACellHasBoth() {
        for (int length = 0; length <= 5; length++) {
            SmokeWeds x = told("wind 2;plume high;house a at 0 0 high " + length + " dry;house b at 3 0 high 1 dry;", 3);
            due("length " + length, x.meets(0), length >= 4 ? 2 : 0);
            due("length " + length, x.meets(1), length >= 4 ? 1 : 0);
        }
        SmokeWeds y = told("wind 2;house a at 0 0 high 9 dry;house b at 3 0 high 0 dry;", 3);
        due("without length nobody, though it burns", y.meets(0), 0);
        StringBuilder eight = new StringBuilder("wind 2;plume 8;");
        for (int i = 0; i < 8; i++) {
            eight.append("house ").append((char) ('a' + i)).append(" at ").append(i).append(" 0 high 1 dry;");
        }
        SmokeWeds z = told(eight.toString(), 255);
        for (int house = 0; house < 8; house++) {
            due("all meet all", z.meets(house), 255 & ~(1 << house));
        }
        z.hours(1);
        due("all pairs are wed", z.count(4), 28);
        due("as bits", z.house(7, 6), 127);
        z.hours(2);
        due("each has a child", z.count(5), 28);
        SmokeWeds v = told("wind 1;plume 2;house a at 0 1 high 0 dry;house b at 0 0 high 0 lean;house c at 1 1 high 0 dry;", 7);
        due("two ways that cross between cells do not meet", v.meets(2), 0);
        due("where a cell has both", v.meets(0), 2);
    }

    private static void theWindTurnsAndNobodyIsWed() {
        SmokeWeds x = told("wind 2*(hour<3);" + A_AND_B, 3);
        x.hours(3);
        due("no turn yet", x.pair(0, 1, 0), 3);
        x.hours(1);
        due("a turn", x.pair(0, 1, 0), 0);
        due("a turn", x.house(0, 6) + x.house(1, 6), 0);
        due("its children stay", x.pair(0, 1, 1), 1);
        SmokeWeds y = told("wind 2*(hour<3)+10*(2<hour);" + A_AND_B, 3);
        y.hours(6);
        due("10 is the wind 2: no turn", y.pair(0, 1, 0), 6);
        SmokeWeds z = told("wind hour<3;house a at 2 2 high 1 dry;house b at 1 2 high 1 lean;", 3);
        z.hours(3);
        due("wed by any wind", z.pair(0, 1, 0), 3);
        z.hours(1);
        due("wed anew in the hour of the turn", z.pair(0, 1, 0), 1);
        z.hours(20);
        due("till the day's end", z.pair(0, 1, 0), 21);
        z.hours(1);
        due("wed anew in the next day", z.pair(0, 1, 0), 1);
    }

    private static void theFirstHourOfAStreetHasNoneAhead() {
        SmokeWeds x = told("wind 6;house a at 2 2 high 1 dry;house b at 1 2 high 1 lean;", 3);
        x.hours(5);
        due("another street", tell(x, "wind 2;" + A_AND_B), 0);
        x.light(0, true);
        x.light(1, true);
        due("who meets is free but cold", x.free(0, 1), 1);
        due("a wedding", x.days(0, 1, 1, 0), 1);
        x.hours(1);
        due("wed in it", x.pair(0, 1, 0), 1);
        x.hours(1);
        due("and in the next", x.pair(0, 1, 0), 2);
    }

    private static void thoseWhoAreWedStaySo() {
        SmokeWeds x = told("wind 2;" + A_AND_B, 3);
        x.hours(1);
        x.light(0, false);
        x.hours(1);
        due("put out", x.pair(0, 1, 0), 2);
        x.shut(1, true);
        x.hours(1);
        due("shut", x.pair(0, 1, 0), 3);
        due("a child all the same", x.pair(0, 1, 1), 1);
        due("to whom", x.house(0, 6), 2);
    }

    private static void aChildAtEachThirdHour() {
        SmokeWeds x = told("wind 2;" + A_AND_B, 3);
        for (int hours = 1; hours <= 12; hours++) {
            x.hours(1);
            due("wed for", x.pair(0, 1, 0), hours);
            due("children behind " + hours, x.pair(0, 1, 1), hours / 3);
            due("in all", x.count(5), hours / 3);
        }
        SmokeWeds y = told("wind 2*(hour<2)+2*(3<hour and hour<6);" + A_AND_B, 3);
        y.hours(24);
        due("twice two hours are none", y.pair(0, 1, 1), 0);
        SmokeWeds z = told("wind 2*(hour<3)+2*(3<hour and hour<6);" + A_AND_B, 3);
        z.hours(48);
        due("three and two, each day", z.pair(0, 1, 1), 2);
        SmokeWeds v = told("wind 2;" + A_AND_B, 3);
        v.hours(1000);
        due("a thousand", v.pair(0, 1, 1), 333);
    }

    private static void whoBurnsPaysByKindOthersCold() {
        int[] prices = {2, 1, 3, 2, 2};
        for (int kind = 0; kind < 5; kind++) {
            SmokeWeds x = told("cold 99;plume 0;house a at 0 0 high 0 " + KINDS[kind] + ";", 0);
            x.hours(1);
            due("out: cold", x.house(0, 7), 99);
            x.light(0, true);
            x.hours(1);
            due(KINDS[kind], x.house(0, 7), 99 + prices[kind]);
            x.shut(0, true);
            x.hours(1);
            due("shut: cold", x.house(0, 7), 198 + prices[kind]);
            x.light(0, false);
            x.hours(1);
            due("shut and out: cold", x.house(0, 7), 297 + prices[kind]);
        }
        SmokeWeds y = told("cold 0;house a at 0 0 high 0 dry;", 0);
        y.hours(1000);
        due("cold 0", y.house(0, 7), 0);
    }

    private static void byHandAHouseIsLitOrShut() {
        SmokeWeds x = told("wind 2;" + A_AND_B, 0);
        for (int house = 0; house < 2; house++) {
            due("out already", x.light(house, false), false);
            due("lit", x.light(house, true), true);
            due("lit already", x.light(house, true), false);
            due("it is lit", x.house(house, 4), 1);
            due("open already", x.shut(house, false), false);
            due("shut", x.shut(house, true), true);
            due("shut already", x.shut(house, true), false);
            due("it is shut", x.house(house, 5), 1);
            due("it is lit all the same", x.house(house, 4), 1);
            due("opened", x.shut(house, false), true);
            due("it is not shut", x.house(house, 5), 0);
        }
        due("they meet", x.meets(0), 2);
        due("put out", x.light(0, false), true);
        due("it is out", x.house(0, 4), 0);
        due("one that is out meets nobody", x.meets(0), 0);
        due("nobody meets it", x.meets(1), 0);
        due("shut while out", x.shut(0, true), true);
        due("lit while shut", x.light(0, true), true);
        due("one that is shut meets nobody", x.meets(0), 0);
        due("nobody meets it", x.meets(1), 0);
        due("opened", x.shut(0, false), true);
        due("they meet", x.meets(1), 1);
        for (int none : new int[] {-1, 2, 32, MIN, MAX}) {
            due("no house", x.light(none, true) || x.light(none, false), false);
            due("no house", x.shut(none, true) || x.shut(none, false), false);
        }
        SmokeWeds y = told(eightHouses(), 0);
        for (int house = 0; house < 8; house++) {
            due("lit " + house, y.light(house, true), true);
            due("shut " + house, y.shut(house, true), true);
            due("no other is lit", y.house((house + 1) % 8, 4), house == 7 ? 1 : 0);
            due("no other is shut", y.house((house + 1) % 8, 5), house == 7 ? 1 : 0);
        }
    }

    private static void eachPairHasItsOwnHoursAndChildren() {
        // All lie on one cell; each house is lit three hours behind the one ahead of it.
        SmokeWeds x = told("wind 2;plume 8;" + eightHouses(), 3);
        for (int house = 2; house < 8; house++) {
            x.hours(3);
            x.light(house, true);
        }
        x.hours(3);
        for (int a = 0; a < 8; a++) {
            for (int b = 0; b < 8; b++) {
                int hours = 3 * (8 - Math.max(1, Math.max(a, b)));
                due("hours of " + a + " and " + b, x.pair(a, b, 0), a == b ? NONE : hours);
                due("children of " + a + " and " + b, x.pair(a, b, 1), a == b ? NONE : hours / 3);
            }
        }
        due("all children", x.count(5), 7 + 2 * 6 + 3 * 5 + 4 * 4 + 5 * 3 + 6 * 2 + 7);
    }

    private static void hoursAre1To1000() {
        SmokeWeds x = told("cold 99;house a at 0 0 high 1 dry;", 0);
        due("0", x.hours(0), NONE);
        due("-1", x.hours(-1), NONE);
        due("1001", x.hours(1001), NONE);
        due("nothing passed", x.count(3) + x.house(0, 7), 0);
        due("1", x.hours(1), 1);
        due("1000", x.hours(1000), 1001);
        due("paid", x.house(0, 7), 99 * 1001);
        due("999", x.hours(999), 2000);
        x.light(0, true);
        for (int i = 0; i < 400; i++) {
            x.hours(1000);
        }
        due("very many", x.count(3), 402000);
        due("their soot", soot(x, 0, 0, 0), 400000);
        due("their pay", x.house(0, 7), 99 * 2000 + 800000);
    }

    // ---- what is asked ------------------------------------------------------------------------------------------

    private static void sootIsOfCellsInTheField() {
        SmokeWeds x = told("field 3 2;house a at 2 1 high 1 dry;", 1);
        x.hours(4);
        due("the last cell", soot(x, 2, 1, 0), 4);
        due("the last cell, all", soot(x, 2, 1, NONE), 4);
        due("the first cell", soot(x, 0, 0, NONE), 0);
        due("column 3", soot(x, 3, 1, 0), THROWS);
        due("row 2", soot(x, 2, 2, 0), THROWS);
        due("column -1", soot(x, -1, 1, 0), THROWS);
        due("row -1", soot(x, 2, -1, 0), THROWS);
        due("house 1", soot(x, 2, 1, 1), THROWS);
        due("house -2", soot(x, 2, 1, -2), THROWS);
        SmokeWeds y = new SmokeWeds();
        due("without a house all", soot(y, 7, 7, NONE), 0);
        due("without a house none", soot(y, 7, 7, 0), THROWS);
        due("the field's end", soot(y, 8, 7, NONE), THROWS);
        due("the field's end", soot(y, 7, 8, NONE), THROWS);
    }

    private static void onlyLooksAt24Hours() {
        for (int hour = 0; hour <= 25; hour++) {
            SmokeWeds x = told("wind 2*(hour+24*day=" + hour + ");" + A_AND_B, 0);
            due("in hour " + hour, x.only(0, 1), hour <= 23 ? hour : NONE);
            due("either way", x.only(1, 0), hour <= 23 ? hour : NONE);
            x.hours(1);
            due("from the next on", x.only(0, 1), hour >= 1 && hour <= 24 ? hour - 1 : NONE);
        }
        SmokeWeds y = told("wind 2;" + A_AND_B + "house c at 5 5 high 3 dry;house d at 6 5 high 1 dry;", 4);
        due("a third one alone", y.only(0, 1), 0);
        y.light(3, true);
        due("two others", y.only(0, 1), NONE);
        due("these two are lit, no others", y.only(0, 2), NONE);
        y.shut(2, true);
        due("one of them is shut", y.only(0, 1), 0);
        y.shut(1, true);
        due("one of the two is shut", y.only(0, 1), NONE);
        due("none without a house", new SmokeWeds().only(0, 1), NONE);
        SmokeWeds z = told("wind 2;plume 3;house a at 0 0 high 1 dry;house b at 1 0 high 1 dry;house c at 2 0 high 1 dry;", 0);
        due("the third is out", z.only(0, 1), 0);
        z.light(2, true);
        due("the third meets one of them", z.only(0, 1), NONE);
    }

    private static void feastIsBehind0To23Hours() {
        for (int hour : new int[] {0, 1, 22, 23}) {
            SmokeWeds x = told("wind 2*(hour+24*day=" + hour + ");" + A_AND_B, 0);
            for (int hours = 0; hours <= 23; hours++) {
                due("pairs", x.feast(hours, 0), hours == hour ? 1 : 0);
                due("houses", x.feast(hours, 1), hours == hour ? 3 : 0);
            }
            due("behind 24", x.feast(24, 0), NONE);
            due("behind -1", x.feast(-1, 1), NONE);
        }
        SmokeWeds y = told("wind 2*(day=1 and hour=22);" + A_AND_B, 0);
        y.hours(23);
        due("the last of the hours from now on", y.feast(23, 0), 1);
        due("without a house", new SmokeWeds().feast(0, 0), 0);
        due("without a house", new SmokeWeds().feast(23, 1), 0);
    }

    private static void ofEqualFeastsTheFewestThenTheLeast() {
        // All eight lie on one cell: any two of them meet.
        StringBuilder row = new StringBuilder("wind 2;plume 8;");
        for (int i = 0; i < 8; i++) {
            row.append("house ").append((char) ('a' + i)).append(" at ").append(i).append(" 0 high 1 dry;");
        }
        SmokeWeds x = told(row.toString(), 0);
        due("one pair", x.feast(0, 0), 1);
        due("the least as bits", x.feast(0, 1), 3);
        x.shut(0, true);
        due("the least of the open ones", x.feast(0, 1), 6);
        for (int house = 1; house < 6; house++) {
            x.shut(house, true);
        }
        due("the last two", x.feast(0, 1), 192);
        x.shut(6, true);
        due("one alone", x.feast(0, 0), 0);
        due("is not lit", x.feast(0, 1), 0);
        x.shut(7, true);
        due("none is open", x.feast(0, 0), 0);
        due("none is open", x.feast(0, 1), 0);
        // Four rows of two: all are wed.
        StringBuilder rows = new StringBuilder("wind 2;plume 2;");
        for (int i = 0; i < 8; i++) {
            rows.append("house ").append((char) ('a' + i)).append(" at ").append(i / 4).append(' ').append(i % 4)
                .append(" high 1 dry;");
        }
        SmokeWeds y = told(rows.toString(), 0);
        due("four pairs", y.feast(5, 0), 4);
        due("all houses", y.feast(5, 1), 255);
        y.shut(7, true);
        due("three pairs", y.feast(5, 0), 3);
        due("none who is in no pair", y.feast(5, 1), 119);
        // A chain in which each meets the next: a with b, c with d, for which b or c must be out.
        SmokeWeds z = told("wind 2;plume 3;house a at 0 0 high 1 dry;house b at 2 0 high 1 dry;house c at 4 0 high 1 dry;"
            + "house d at 6 0 high 1 dry;house e at 0 5 high 1 dry;", 31);
        due("none twice", z.feast(0, 0), 1);
        due("the least as bits, of equally many", z.feast(0, 1), 3);
        z.shut(1, true);
        due("b is shut", z.feast(0, 1), 12);
    }

    private static void plumesAreByTheHourThatIsAskedOf() {
        SmokeWeds x = told("wind 2;plume 3*(hour=20 and day=1);" + A_AND_B, 2);
        x.hours(30);
        due("only", x.only(0, 1), 14);
        due("feast ahead", x.feast(13, 0), 0);
        due("feast", x.feast(14, 0), 1);
        due("feast behind", x.feast(15, 0), 0);
        due("free by the hour ahead: 1 is cheaper than 2", x.free(0, 14), 14);
        x.light(0, true);
        due("days", x.days(0, 20, 14, 0), 0);
        due("days", x.days(0, 20, 15, 0), 20);
        SmokeWeds y = told("cold 9;wind 2;plume 3*(hour=20 and day=1);" + A_AND_B, 2);
        y.hours(30);
        due("free ahead of that hour", y.free(0, 14), 28);
        due("free behind that hour", y.free(0, 15), 28 + 9);
        due("free behind that hour", y.free(0, 24), 46 + 9);
        due("not yet", y.meets(1), 0);
        y.light(0, true);
        y.hours(14);
        due("in that hour", y.meets(1), 1);
        y.sight(0, 1, true);
        due("east, or west, fits by the hour that comes", y.fits(), 4 | 64);
        y.hours(1);
        due("behind it", y.fits(), 0);
    }

    private static void freeIsBy1To24Hours() {
        SmokeWeds x = told("cold 5;wind 2*(hour<23);" + A_AND_B, 2);
        due("by 0", x.free(0, 0), NONE);
        due("by 25", x.free(0, 25), NONE);
        due("by 1", x.free(0, 1), 5);
        due("by 23", x.free(0, 23), 23 * 5);
        due("by 24 the turn sets it free", x.free(0, 24), 24 * 2);
        x.light(0, true);
        x.hours(1);
        due("wed, no turn by 22", x.free(0, 22), NONE);
        due("wed, the turn in the last hour", x.free(0, 23), 23 * 2);
        due("and again east in the first of the next day", x.free(0, 24), 23 * 2 + 5);
        due("without a house", new SmokeWeds().free(0, 1), NONE);
        SmokeWeds y = told("cold 1;wind 2;" + A_AND_B, 2);
        due("cold is cheaper", y.free(0, 24), 24);
        due("nobody else burns", y.free(1, 24), 24);
        SmokeWeds z = told("cold 99;wind 2;" + A_AND_B, 0);
        due("alone it burns", z.free(0, 24), 48);
        z.shut(0, true);
        due("shut it pays cold", z.free(0, 24), 24 * 99);
        SmokeWeds v = told("cold 99;wind 2;plume 0;" + A_AND_B, 3);
        due("without length nobody is met", v.free(0, 24), 48);
    }

    private static void sightsAreTenAtMost() {
        SmokeWeds x = told("wind 2;" + A_AND_B, 3);
        due("none", x.count(7), 0);
        due("no sight: all fit", x.fits(), 255);
        for (int i = 1; i <= 9; i++) {
            due("sight " + i, x.sight(0, 1, true), i);
        }
        due("the east wind", x.fits(), 4);
        due("the tenth", x.sight(1, 0, true), 10);
        due("the eleventh", x.sight(0, 1, false), NONE);
        due("ten stay", x.count(7), 10);
        due("the eleventh is not one", x.fits(), 4);
        due("clear", x.clear(), true);
        due("none", x.count(7), 0);
        due("all fit", x.fits(), 255);
        due("clear when there is none", x.clear(), true);
        for (int i = 1; i <= 10; i++) {
            due("ten anew", x.sight(0, 1, i < 10), i);
        }
        due("the tenth counts", x.fits(), 0);
        due("the eleventh", x.sight(0, 1, true), NONE);
    }

    private static void windsThatFitAre0To7() {
        StringBuilder text = new StringBuilder("field 3 3;plume 2;house m at 1 1 high 1 dry;");
        int[] east = {0, 1, 1, 1, 0, -1, -1};
        int[] south = {-1, -1, 0, 1, 1, 1, 0};
        for (int way = 0; way < 7; way++) {
            text.append("house ").append((char) ('a' + way)).append(" at ").append(1 + east[way]).append(' ')
                .append(1 + south[way]).append(" high 1 dry;");
        }
        for (int way = 0; way < 7; way++) {
            // m and the one that lies next to it that way, and no others, burn; by the way back they meet, too.
            SmokeWeds x = told(text.toString(), 1 | 2 << way);
            x.sight(0, 1 + way, true);
            due("met by the way there and back", x.fits(), 1 << way | 1 << (way + 4) % 8);
            x.clear();
            x.sight(1 + way, 0, false);
            due("not met by all others", x.fits(), 255 & ~(1 << way | 1 << (way + 4) % 8));
            x.sight(0, 1 + way, true);
            due("met and not met: none", x.fits(), 0);
        }
        due("without a house all", new SmokeWeds().fits(), 255);
    }

    private static void noSootNoShare() {
        SmokeWeds x = told("wind 2;" + A_AND_B + "house c at 7 7 high 0 dry;", 7);
        for (int what = 0; what < 2; what++) {
            due("no soot", x.share(2, 2, 0, what), NONE);
        }
        x.light(1, false);
        x.hours(1);
        due("1 of 1", x.share(2, 2, 0, 0), 1);
        due("1 of 1", x.share(2, 2, 0, 1), 1);
        due("0 of 1", x.share(2, 2, 1, 0), 0);
        due("0 of 1", x.share(2, 2, 1, 1), 1);
        x.light(1, true);
        x.hours(3);
        due("4 of 7", x.share(2, 2, 0, 0), 4);
        due("4 of 7", x.share(2, 2, 0, 1), 7);
        due("3 of 7", x.share(2, 2, 1, 0), 3);
        due("3 of 7", x.share(2, 2, 1, 1), 7);
        due("0 of 7", x.share(2, 2, 2, 0), 0);
        due("0 of 7, in lowest terms", x.share(2, 2, 2, 1), 1);
        x.hours(2);
        due("6 of 11", x.share(2, 2, 0, 1), 11);
        x.light(0, false);
        x.hours(1);
        due("6 of 12, in lowest terms", x.share(2, 2, 0, 0), 1);
        due("6 of 12, in lowest terms", x.share(2, 2, 0, 1), 2);
        due("its own cell, without a plume", x.share(7, 7, 2, 0), NONE);
        due("no soot", x.share(7, 0, 0, 1), NONE);
        due("what 2", x.share(2, 2, 0, 2), NONE);
        due("what -1", x.share(2, 2, 0, -1), NONE);
        due("column 8", x.share(8, 2, 0, 0), NONE);
        due("row 8", x.share(2, 8, 0, 0), NONE);
        due("house -1 is none here", x.share(2, 2, -1, 0), NONE);
        due("house 3", x.share(2, 2, 3, 0), NONE);
    }

    private static void daysAreBySeedRunsAndHoursWithinBounds() {
        SmokeWeds x = told("wind 2;" + A_AND_B, 3);
        due("seed 0", x.days(0, 1, 1, 0), 1);
        due("seed 9999", x.days(9999, 1, 1, 0), 1);
        due("seed -1", x.days(-1, 1, 1, 0), NONE);
        due("seed 10000", x.days(10000, 1, 1, 0), NONE);
        due("runs 20", x.days(0, 20, 1, 0), 20);
        due("runs 0", x.days(0, 0, 1, 0), NONE);
        due("runs 21", x.days(0, 21, 1, 0), NONE);
        due("hours 0", x.days(0, 1, 0, 0), NONE);
        due("hours 73", x.days(0, 1, 73, 0), NONE);
        due("what 2", x.days(0, 1, 1, 2), NONE);
        due("what -1", x.days(0, 1, 1, -1), NONE);
        SmokeWeds y = told("wind 2*(hour+24*day=71);" + A_AND_B, 3);
        due("71 hours", y.days(0, 20, 71, 0), 0);
        due("72 hours", y.days(0, 20, 72, 0), 20);
        due("without a house", new SmokeWeds().days(9999, 20, 72, 0), 0);
        due("without a house", new SmokeWeds().days(9999, 20, 72, 1), 0);
    }

    private static long next(long g) {
        return java.math.BigInteger.valueOf(g).multiply(java.math.BigInteger.valueOf(1103515245L))
            .add(java.math.BigInteger.valueOf(12345)).mod(java.math.BigInteger.valueOf(2147483648L)).longValue();
    }

    private static void aWindIsDrawnIfADrawIsBelowTurns() {
        for (int seed : new int[] {0, 1, 2, 3, 50, 777, 9998, 9999}) {
            long first = next(seed);
            int draw = (int) (first / 65536 % 10);
            int drawn = (int) (next(first) / 65536 % 8);
            for (int turns = 0; turns <= 10; turns++) {
                // By the drawn wind they meet, by the street's own, which is another, they do not.
                SmokeWeds x = told("turns " + turns + ";wind " + (drawn + 1) + ";plume way=" + drawn
                    + ";house a at 1 1 high 0 dry;house b at 0 1 high 0 lean;", 3);
                due("seed " + seed + ", turns " + turns, x.days(seed, 1, 1, 0), draw < turns ? 1 : 0);
            }
        }
    }

    private static void theDrawsGoOnFromRunToRun() {
        SmokeWeds x = told("turns 10;wind 2;plume 3*(way=2);" + A_AND_B, 3);
        for (int seed = 0; seed < 60; seed++) {
            long g = seed;
            int weddings = 0;
            for (int run = 1; run <= 20; run++) {
                g = next(next(g));
                weddings += g / 65536 % 8 == 2 ? 1 : 0;
                if (run == 1 || run == 2 || run == 20) {
                    due("seed " + seed + ", runs " + run, x.days(seed, run, 1, 0), weddings);
                }
            }
        }
    }

    private static void weddingsAreOfPairsThatWereNotWed() {
        SmokeWeds x = told("wind 2;" + A_AND_B, 3);
        x.hours(1);
        due("wed already", x.days(0, 20, 72, 0), 0);
        SmokeWeds y = told("wind hour;house a at 2 2 high 1 dry;house b at 1 2 high 1 lean;", 3);
        y.hours(1);
        due("not any more by each turn", y.days(0, 1, 7, 0), 7);
        due("hour 23 is by the wind 7, hour 0 by 0", y.days(0, 1, 24, 0), 24);
        SmokeWeds z = told("wind 2;" + A_AND_B, 1);
        z.hours(1);
        due("nobody else burns", z.days(0, 20, 72, 0), 0);
    }

    private static void mostHousesWedToTwoOrMoreAtOnce() {
        String three = "wind 2*(hour=1);plume 3;house a at 0 0 high 1 dry;house b at 2 0 high 1 dry;house c at 4 0 high 1 dry;"
            + "house d at 1 0 high 1 wet;";
        SmokeWeds x = told(three, 3);
        due("to one alone", x.days(0, 20, 2, 1), 0);
        x.light(2, true);
        due("b to two", x.days(0, 20, 2, 1), 1);
        due("not in the first hour", x.days(0, 20, 1, 1), 0);
        x.light(3, true);
        due("a to b and d, b to a and c", x.days(0, 20, 72, 1), 2);
        SmokeWeds y = told("wind 2;plume 8;" + eightHouses(), 255);
        due("all eight", y.days(0, 1, 1, 1), 8);
        due("and their weddings", y.days(0, 20, 72, 0), 28 * 20);
    }

    private static void marksAre0To3() {
        SmokeWeds x = new SmokeWeds();
        for (int mark = -1; mark <= 4; mark++) {
            due("nothing is on " + mark, x.mark(mark, true), false);
        }
        for (int mark = 0; mark <= 3; mark++) {
            due("another street", tell(x, "field " + (mark + 1) + " " + (mark + 5) + ";"), 0);
            x.hours(mark + 1);
            due("laid " + mark, x.mark(mark, false), true);
            for (int later = mark + 1; later <= 3; later++) {
                due("nothing is on " + later, x.mark(later, true), false);
            }
        }
        due("no mark 4", x.mark(4, false), false);
        due("no mark -1", x.mark(-1, false), false);
        for (int mark = 3; mark >= 0; mark--) {
            due("back to " + mark, x.mark(mark, true), true);
            due("columns of " + mark, x.count(0), mark + 1);
            due("rows of " + mark, x.count(1), mark + 5);
            due("hour of " + mark, x.count(3), mark + 1);
        }
        due("no mark 4", x.mark(4, true), false);
        due("no mark -1", x.mark(-1, true), false);
        x.hours(1);
        due("back to it twice", x.mark(0, true), true);
        due("as it was", x.count(3), 1);
        x.hours(7);
        due("laid anew", x.mark(0, false), true);
        x.hours(1);
        due("back", x.mark(0, true), true);
        due("as it was laid last", x.count(3), 8);
        due("marks of another object are not this one's", new SmokeWeds().mark(0, true), false);
    }

    private static void marksHoldAllAsItIs() {
        SmokeWeds x = rich("");
        x.mark(1, false);
        x.mark(3, false);
        due("a full street of another kind", tell(x, "field 12 12;wind 7;plume 20;cold 99;turns 10;" + eightHouses()), 0);
        for (int house = 0; house < 8; house++) {
            x.light(house, true);
        }
        x.hours(100);
        for (int i = 0; i < 10; i++) {
            x.sight(0, 1, i % 2 == 0);
        }
        due("back", x.mark(1, true), true);
        SmokeWeds y = rich("");
        y.mark(1, false);
        y.mark(3, false);
        due("all as it was", everything(x).equals(everything(y)), true);
        SmokeWeds v = told("wind 2;" + A_AND_B + "house c at 7 7 high 1 dry;house d at 6 7 high 2 dry;", 15);
        v.sight(2, 3, true);
        v.sight(0, 1, true);
        v.mark(2, false);
        v.clear();
        v.sight(0, 2, false);
        v.sight(1, 3, false);
        due("by all winds", v.fits(), 255);
        v.mark(2, true);
        due("who was seen with whom is held", v.fits(), 4);
        SmokeWeds z = told("wind 2*(hour<3);" + A_AND_B, 3);
        z.hours(2);
        z.mark(0, false);
        z.hours(2);
        due("not wed by the turn", z.pair(0, 1, 0), 0);
        z.mark(0, true);
        z.hours(1);
        due("the wind ahead is held: no turn", z.pair(0, 1, 0), 3);
        z.mark(1, false);
        z.mark(0, true);
        z.mark(1, true);
        z.hours(1);
        due("the wind ahead is held: a turn", z.pair(0, 1, 0), 0);
    }

    private static void whatIsAskedOfAHouseIs0To7() {
        SmokeWeds x = told("field 9 9;wind 2;house a at 8 0 high 9 oil;house b at 0 8 high 0 dry;", 1);
        int[] first = {8, 0, 9, 4, 1, 0, 0, 0};
        int[] second = {0, 8, 0, 0, 0, 0, 0, 0};
        for (int what = 0; what <= 7; what++) {
            due("a " + what, x.house(0, what), first[what]);
            due("b " + what, x.house(1, what), second[what]);
        }
        due("what 8", x.house(0, 8), NONE);
        due("what -1", x.house(0, -1), NONE);
        due("house 2", x.house(2, 0), NONE);
        due("house -1", x.house(-1, 0), NONE);
    }

    private static void whatIsAskedOfAPairIs0Or1() {
        SmokeWeds x = told("wind 2;" + A_AND_B + "house c at 7 7 high 1 dry;", 7);
        x.hours(4);
        int[][] hours = {{NONE, 4, 0}, {4, NONE, 0}, {0, 0, NONE}};
        int[][] children = {{NONE, 1, 0}, {1, NONE, 0}, {0, 0, NONE}};
        for (int a = -1; a <= 3; a++) {
            for (int b = -1; b <= 3; b++) {
                boolean two = a >= 0 && b >= 0 && a < 3 && b < 3;
                due("pair " + a + " " + b, x.pair(a, b, 0), two ? hours[a][b] : NONE);
                due("pair " + a + " " + b, x.pair(a, b, 1), two ? children[a][b] : NONE);
                due("what -1", x.pair(a, b, -1), NONE);
                due("what 2", x.pair(a, b, 2), NONE);
            }
        }
    }

    private static void whatIsCountedIs0To8() {
        SmokeWeds x = new SmokeWeds();
        due("what -1", x.count(-1), NONE);
        due("what 9", x.count(9), NONE);
        long[] fresh = new long[9];
        for (int what = 0; what <= 8; what++) {
            fresh[what] = x.count(what);
        }
        due("a new object", Arrays.equals(fresh, new long[] {8, 8, 0, 0, 0, 0, 0, 0, 0}), true);
        feed(x, "field 4 5;wind 2;" + A_AND_B);
        due("signs", x.count(8), 17 + A_AND_B.length());
        x.street();
        x.light(0, true);
        x.light(1, true);
        x.hours(6);
        x.sight(0, 1, true);
        int[] counts = {4, 5, 2, 6, 1, 2, 24, 1, 0};
        for (int what = 0; what <= 8; what++) {
            due("count " + what, x.count(what), counts[what]);
        }
    }

    private static void run(String name, Runnable test) {
        sentence = name;
        test.run();
    }

    private static void tapeAndTokens() {
        run("the tape has at most 1,000 signs", BoundaryTest::theTapeHasAtMostAThousandSigns);
        run("a law along the whole tape", BoundaryTest::alongTheWholeTapeALawCanBeTold);
        run("signs are 10 and 32 .. 126", BoundaryTest::signsAre10And32To126);
        run("of each the highest first", BoundaryTest::theBytesOfEachTheHighestFirst);
        run("what reads it takes it", BoundaryTest::whatReadsTheTapeTakesIt);
        run("blanks between where one likes", BoundaryTest::blanksStandWhereOneLikes);
        run("tokens, each as long as can be", BoundaryTest::tokensAreAsLongAsCanBe);
        run("words, 8 letters at most", BoundaryTest::aWordHasEightLettersAtMost);
        run("numbers, 1 to 4 digits", BoundaryTest::aNumberHasOneToFourDigits);
        run("a letter may stand right behind", BoundaryTest::aLetterMayStandRightBehindANumber);
        run("all else is none", BoundaryTest::allOtherSignsAreNone);
    }

    private static void streets() {
        run("field 1 to 12 each", BoundaryTest::aFieldHas1To12ColumnsAndRows);
        run("field once, ahead of the first house", BoundaryTest::aFieldIsToldOnceAheadOfTheFirstHouse);
        run("cold 0 to 99", BoundaryTest::coldIs0To99AndOnce);
        run("turns 0 to 10", BoundaryTest::turnsAre0To10AndOnce);
        run("once each", BoundaryTest::windAndPlumeAreToldOnce);
        run("8 houses at most", BoundaryTest::aStreetHasEightHousesAtMost);
        run("houses numbered as told", BoundaryTest::housesAreNumberedAsTold);
        run("a house in the field", BoundaryTest::aHouseStandsInTheField);
        run("each cell once", BoundaryTest::eachCellHasOneHouse);
        run("high 0 to 9", BoundaryTest::highIs0To9);
        run("one of five kinds", BoundaryTest::aKindIsOneOfFive);
        run("a name is another word", BoundaryTest::aNameIsAnotherWord);
        run("no two names are alike", BoundaryTest::noTwoNamesAreAlike);
        run("no part within 5", BoundaryTest::noPartLiesWithinFive);
        run("within 5 what can't stand there", BoundaryTest::withinFiveWhatCannotStandIsThatFirst);
        run("ints wrap", BoundaryTest::intsWrap);
        run("what is not 0 is so", BoundaryTest::whatIsNot0IsSo);
        run("a test has one comparison", BoundaryTest::aTestHasOneComparisonAtMost);
        run("hour 0 to 23, day by 24, cut", BoundaryTest::hourIs0To23AndDayByCut);
        run("in plume also high, way", BoundaryTest::highAndWayAreFactsOfPlumeAlone);
        run("without wind 0, without plume high", BoundaryTest::withoutWind0AndWithoutPlumeHigh);
        run("what is not told", BoundaryTest::whatIsNotToldIsAsWithoutInEachStreet);
        run("the first wrong token from the left", BoundaryTest::theFirstWrongTokenFromTheLeft);
        run("of one token the least", BoundaryTest::ofOneTokenTheLeast);
        run("the end at the text's length", BoundaryTest::theEndIsATokenAtTheTextsLength);
        run("with a fault all stays", BoundaryTest::withAFaultAllStays);
        run("without a fault all begins anew", BoundaryTest::withoutAFaultAllBeginsAnew);
    }

    private static void hoursThatPass() {
        run("wind modulo 8, not below 0", BoundaryTest::windIsModulo8AndNotBelow0);
        run("wind behind 0 to 9999", BoundaryTest::windIsAskedBehind0To9999Hours);
        run("a plume's length, 0 below and 20 above", BoundaryTest::aPlumeIs0BelowAnd20Above);
        run("the i-th cell", BoundaryTest::aPlumesCellsEndWithIt);
        run("those beyond the field are lost", BoundaryTest::cellsBeyondTheFieldAreLost);
        run("a cell that is not lost", BoundaryTest::lostCellsMeetNobody);
        run("two meet if a cell has both", BoundaryTest::twoMeetWhereACellHasBoth);
        run("a turn of the wind", BoundaryTest::theWindTurnsAndNobodyIsWed);
        run("the first hour of a street", BoundaryTest::theFirstHourOfAStreetHasNoneAhead);
        run("those who are, stay so", BoundaryTest::thoseWhoAreWedStaySo);
        run("a child at each third", BoundaryTest::aChildAtEachThirdHour);
        run("who pays what", BoundaryTest::whoBurnsPaysByKindOthersCold);
        run("by hand", BoundaryTest::byHandAHouseIsLitOrShut);
        run("each pair", BoundaryTest::eachPairHasItsOwnHoursAndChildren);
        run("hours 1 to 1,000", BoundaryTest::hoursAre1To1000);
    }

    private static void whatIsAsked() {
        run("soot", BoundaryTest::sootIsOfCellsInTheField);
        run("only: 24 hours", BoundaryTest::onlyLooksAt24Hours);
        run("feast behind 0 to 23", BoundaryTest::feastIsBehind0To23Hours);
        run("of equal feasts", BoundaryTest::ofEqualFeastsTheFewestThenTheLeast);
        run("plumes by the hour asked of", BoundaryTest::plumesAreByTheHourThatIsAskedOf);
        run("free by 1 to 24", BoundaryTest::freeIsBy1To24Hours);
        run("sights, 10 at most", BoundaryTest::sightsAreTenAtMost);
        run("winds that fit", BoundaryTest::windsThatFitAre0To7);
        run("no soot in a share", BoundaryTest::noSootNoShare);
        run("days: seed, runs, hours", BoundaryTest::daysAreBySeedRunsAndHoursWithinBounds);
        run("a draw below turns", BoundaryTest::aWindIsDrawnIfADrawIsBelowTurns);
        run("g goes on", BoundaryTest::theDrawsGoOnFromRunToRun);
        run("weddings", BoundaryTest::weddingsAreOfPairsThatWereNotWed);
        run("wed to two or more at once", BoundaryTest::mostHousesWedToTwoOrMoreAtOnce);
        run("marks 0 to 3", BoundaryTest::marksAre0To3);
        run("marks hold all as it is", BoundaryTest::marksHoldAllAsItIs);
        run("house, what 0 to 7", BoundaryTest::whatIsAskedOfAHouseIs0To7);
        run("pair, what 0 or 1", BoundaryTest::whatIsAskedOfAPairIs0Or1);
        run("count, what 0 to 8", BoundaryTest::whatIsCountedIs0To8);
        run("a refused call", BoundaryTest::refusedCallsLeaveAllAsItWas);
        run("all is as ahead then", BoundaryTest::whatIsAskedLeavesAllAsItWas);
    }

    public static void main(String[] args) {
        tapeAndTokens();
        streets();
        hoursThatPass();
        whatIsAsked();
        System.out.println(wrong == 0 ? "all boundaries hold" : wrong + " answers are not as due");
        if (wrong != 0) {
            System.exit(1);
        }
    }
}
