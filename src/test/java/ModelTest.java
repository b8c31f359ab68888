import java.util.ArrayList;
import java.util.Arrays;
import java.util.HashMap;
import java.util.HashSet;
import java.util.List;
import java.util.Map;
import java.util.NoSuchElementException;
import java.util.Random;
import java.util.Set;
import java.util.TreeSet;

/** Random runs of calls, compared with a slow model that follows the document's words without a thought of speed. */
public final class ModelTest {
    private static final int RUNS = 1500;

    // ---- the model -------------------------------------------------------------------------------------------

    static final class Fault extends Exception {
        final int code;

        Fault(int kind, int place) {
            this.code = kind + 16 * place;
        }
    }

    record Token(char type, String text, int place) {
        boolean is(String wanted) {
            return text.equals(wanted) && type != '?' && type != '$';
        }
    }

    interface E {
        int of(int hour, int day, int high, int way);
    }

    record House(String name, int column, int row, int high, String kind) {
    }

    static final class Town implements Cloneable {
        int columns = 8;
        int rows = 8;
        int cold = 1;
        int turns = 0;
        E wind = (h, d, high, way) -> 0;
        E plume = (h, d, high, way) -> high;
        List<House> houses = new ArrayList<>();
        int hour = 0;
        Integer ahead = null;
        Set<Integer> lit = new TreeSet<>();
        Set<Integer> shut = new TreeSet<>();
        Map<Set<Integer>, Integer> wed = new HashMap<>();
        Map<Set<Integer>, Integer> children = new HashMap<>();
        Map<List<Integer>, Integer> soot = new HashMap<>();
        Map<Integer, Integer> paid = new HashMap<>();
        List<int[]> sights = new ArrayList<>();

        Town copy() {
            Town t = new Town();
            t.columns = columns;
            t.rows = rows;
            t.cold = cold;
            t.turns = turns;
            t.wind = wind;
            t.plume = plume;
            t.houses = new ArrayList<>(houses);
            t.hour = hour;
            t.ahead = ahead;
            t.lit = new TreeSet<>(lit);
            t.shut = new TreeSet<>(shut);
            t.wed = new HashMap<>(wed);
            t.children = new HashMap<>(children);
            t.soot = new HashMap<>(soot);
            t.paid = new HashMap<>(paid);
            t.sights = new ArrayList<>(sights);
            return t;
        }

        int windAt(int when) {
            int w = wind.of(when % 24, when / 24, 0, 0) % 8;
            return w < 0 ? w + 8 : w;
        }

        int length(int house, int when, int way) {
            House h = houses.get(house);
            int l = plume.of(when % 24, when / 24, h.high, way);
            l = l < 0 ? 0 : l > 20 ? 20 : l;
            return switch (h.kind) {
                case "wet" -> l / 2;
                case "peat" -> l * 2;
                case "oil" -> l + 2;
                default -> l;
            };
        }

        /** All cells of a plume, null for a lost one. */
        List<List<Integer>> cells(int house, int when, int way) {
            House h = houses.get(house);
            int c = h.column;
            int r = h.row;
            if (h.kind.equals("lean")) {
                c++;
            }
            List<List<Integer>> all = new ArrayList<>();
            int n = length(house, when, way);
            for (int i = 0; i < n; i++) {
                all.add(c < 0 || r < 0 || c >= columns || r >= rows ? null : List.of(c, r));
                if (way == 7 || way == 0 || way == 1) {
                    r--;
                }
                if (way == 3 || way == 4 || way == 5) {
                    r++;
                }
                if (way == 1 || way == 2 || way == 3) {
                    c++;
                }
                if (way == 5 || way == 6 || way == 7) {
                    c--;
                }
            }
            return all;
        }

        Set<Set<Integer>> meeting(int when, int way, Set<Integer> alight) {
            Set<Set<Integer>> pairs = new HashSet<>();
            for (int a : alight) {
                for (int b : alight) {
                    if (a < b && !shut.contains(a) && !shut.contains(b)) {
                        for (List<Integer> cell : cells(a, when, way)) {
                            if (cell != null && cells(b, when, way).contains(cell)) {
                                pairs.add(Set.of(a, b));
                            }
                        }
                    }
                }
            }
            return pairs;
        }

        /** One hour by this wind; answers the weddings. */
        int pass(int way) {
            if (ahead != null && ahead != way) {
                wed.clear();
            }
            int weddings = 0;
            for (Set<Integer> pair : meeting(hour, way, lit)) {
                if (!wed.containsKey(pair)) {
                    wed.put(pair, 0);
                    weddings++;
                }
            }
            for (Set<Integer> pair : new ArrayList<>(wed.keySet())) {
                wed.merge(pair, 1, Integer::sum);
                if (wed.get(pair) % 3 == 0) {
                    children.merge(pair, 1, Integer::sum);
                }
            }
            for (int house = 0; house < houses.size(); house++) {
                if (lit.contains(house) && !shut.contains(house)) {
                    for (List<Integer> cell : cells(house, hour, way)) {
                        if (cell != null) {
                            soot.merge(List.of(house, cell.get(0), cell.get(1)), 1, Integer::sum);
                        }
                    }
                    String kind = houses.get(house).kind;
                    paid.merge(house, kind.equals("wet") ? 1 : kind.equals("peat") ? 3 : 2, Integer::sum);
                } else {
                    paid.merge(house, cold, Integer::sum);
                }
            }
            ahead = way;
            hour++;
            return weddings;
        }

        int wedTo(int house) {
            int bits = 0;
            for (Set<Integer> pair : wed.keySet()) {
                if (pair.contains(house)) {
                    for (int other : pair) {
                        bits |= other == house ? 0 : 1 << other;
                    }
                }
            }
            return bits;
        }
    }

    static List<Token> tokens(String text) {
        List<Token> all = new ArrayList<>();
        int i = 0;
        while (i < text.length()) {
            char c = text.charAt(i);
            int from = i;
            if (c == ' ' || c == '\n') {
                i++;
            } else if (c >= 'a' && c <= 'z') {
                while (i < text.length() && text.charAt(i) >= 'a' && text.charAt(i) <= 'z') {
                    i++;
                }
                all.add(new Token(i - from > 8 ? '?' : 'w', text.substring(from, i), from));
            } else if (c >= '0' && c <= '9') {
                while (i < text.length() && text.charAt(i) >= '0' && text.charAt(i) <= '9') {
                    i++;
                }
                all.add(new Token(i - from > 4 ? '?' : 'n', text.substring(from, i), from));
            } else {
                i++;
                all.add(new Token("()<=+-*;".indexOf(c) < 0 ? '?' : 's', "" + c, from));
            }
        }
        all.add(new Token('$', "", text.length()));
        return all;
    }

    static final class Telling {
        static final List<String> KINDS = List.of("dry", "wet", "peat", "lean", "oil");
        static final List<String> WORDS = List.of("field", "wind", "plume", "cold", "turns", "house", "at", "high",
            "dry", "wet", "peat", "lean", "oil", "not", "and", "or");
        final List<Token> tokens;
        int at = 0;
        final Town town = new Town();
        final Set<String> told = new HashSet<>();
        boolean plumes;

        Telling(String text) {
            tokens = tokens(text);
        }

        Token here() {
            return tokens.get(at);
        }

        Fault fault(int kind) {
            return new Fault(kind, here().place);
        }

        void want(String text) throws Fault {
            if (!here().is(text)) {
                throw fault(1);
            }
            at++;
        }

        int number(int least, int most) throws Fault {
            if (here().type != 'n') {
                throw fault(1);
            }
            int n = Integer.parseInt(here().text);
            if (n < least || n > most) {
                throw fault(4);
            }
            at++;
            return n;
        }

        Town town() throws Fault {
            while (here().type != '$') {
                Token t = here();
                if (t.type != 'w' || !List.of("field", "wind", "plume", "cold", "turns", "house").contains(t.text)) {
                    throw fault(1);
                }
                if (t.text.equals("house")) {
                    house();
                } else {
                    if (!told.add(t.text) || t.text.equals("field") && !town.houses.isEmpty()) {
                        throw fault(3);
                    }
                    at++;
                    plumes = t.text.equals("plume");
                    switch (t.text) {
                        case "field" -> {
                            town.columns = number(1, 12);
                            town.rows = number(1, 12);
                        }
                        case "cold" -> town.cold = number(0, 99);
                        case "turns" -> town.turns = number(0, 10);
                        case "wind" -> town.wind = e(0);
                        default -> town.plume = e(0);
                    }
                }
                want(";");
            }
            return town;
        }

        void house() throws Fault {
            if (town.houses.size() == 8) {
                throw fault(5);
            }
            at++;
            Token name = here();
            if (name.type != 'w' || WORDS.contains(name.text)) {
                throw fault(1);
            }
            if (town.houses.stream().anyMatch(h -> h.name.equals(name.text))) {
                throw fault(3);
            }
            at++;
            want("at");
            int column = number(0, town.columns - 1);
            if (here().type == 'n') {
                int row = Integer.parseInt(here().text);
                if (town.houses.stream().anyMatch(h -> h.column == column && h.row == row)) {
                    throw fault(3);
                }
            }
            int row = number(0, town.rows - 1);
            want("high");
            int high = number(0, 9);
            String kind = here().text;
            if (here().type != 'w' || !KINDS.contains(kind)) {
                throw fault(1);
            }
            at++;
            town.houses.add(new House(name.text, column, row, high, kind));
        }

        E e(int depth) throws Fault {
            E left = test(depth);
            while (here().is("and") || here().is("or")) {
                boolean and = here().is("and");
                at++;
                E a = left;
                E b = test(depth);
                left = (h, d, g, w) -> {
                    boolean p = a.of(h, d, g, w) != 0;
                    boolean q = b.of(h, d, g, w) != 0;
                    return (and ? p && q : p || q) ? 1 : 0;
                };
            }
            return left;
        }

        E test(int depth) throws Fault {
            E a = sum(depth);
            if (here().is("<")) {
                at++;
                E b = sum(depth);
                return (h, d, g, w) -> a.of(h, d, g, w) < b.of(h, d, g, w) ? 1 : 0;
            }
            if (here().is("=")) {
                at++;
                E b = sum(depth);
                return (h, d, g, w) -> a.of(h, d, g, w) == b.of(h, d, g, w) ? 1 : 0;
            }
            return a;
        }

        E sum(int depth) throws Fault {
            E left = product(depth);
            while (here().is("+") || here().is("-")) {
                int sign = here().is("+") ? 1 : -1;
                at++;
                E a = left;
                E b = product(depth);
                left = (h, d, g, w) -> a.of(h, d, g, w) + sign * b.of(h, d, g, w);
            }
            return left;
        }

        E product(int depth) throws Fault {
            E left = part(depth);
            while (here().is("*")) {
                at++;
                E a = left;
                E b = part(depth);
                left = (h, d, g, w) -> a.of(h, d, g, w) * b.of(h, d, g, w);
            }
            return left;
        }

        E part(int depth) throws Fault {
            Token t = here();
            boolean fact = t.is("hour") || t.is("day") || plumes && (t.is("high") || t.is("way"));
            if (t.type != 'n' && !fact && !t.is("not") && !t.is("(")) {
                throw fault(1);
            }
            if (depth == 5) {
                throw fault(5);
            }
            at++;
            if (t.type == 'n') {
                int n = Integer.parseInt(t.text);
                return (h, d, g, w) -> n;
            }
            if (t.is("not")) {
                E a = part(depth + 1);
                return (h, d, g, w) -> a.of(h, d, g, w) != 0 ? 0 : 1;
            }
            if (t.is("(")) {
                E a = e(depth + 1);
                want(")");
                return a;
            }
            return switch (t.text) {
                case "hour" -> (h, d, g, w) -> h;
                case "day" -> (h, d, g, w) -> d;
                case "high" -> (h, d, g, w) -> g;
                default -> (h, d, g, w) -> w;
            };
        }
    }

    /** Answers as the document says; a boolean counts 1 or 0, an exception THROWN. */
    static final class Model {
        static final long THROWN = Long.MIN_VALUE;
        String tape = "";
        Town town = new Town();
        final Town[] marks = new Town[4];

        boolean is(int house) {
            return house >= 0 && house < town.houses.size();
        }

        boolean two(int a, int b) {
            return is(a) && is(b) && a != b;
        }

        boolean inField(int c, int r) {
            return c >= 0 && r >= 0 && c < town.columns && r < town.rows;
        }

        long feed(long a, long b, long c) {
            for (long l : new long[] {a, b, c}) {
                for (int i = 7; i >= 0; i--) {
                    int s = (int) (l >> 8 * i & 255);
                    if ((s == 10 || s > 31 && s < 127) && tape.length() < 1000) {
                        tape += (char) s;
                    }
                }
            }
            return tape.length();
        }

        long street() {
            String text = tape;
            tape = "";
            try {
                town = new Telling(text).town();
                return 0;
            } catch (Fault f) {
                return f.code;
            }
        }

        long house(int h, int what) {
            if (!is(h) || what < 0 || what > 7) {
                return -1;
            }
            House x = town.houses.get(h);
            return new int[] {x.column, x.row, x.high, Telling.KINDS.indexOf(x.kind), town.lit.contains(h) ? 1 : 0,
                town.shut.contains(h) ? 1 : 0, town.wedTo(h), town.paid.getOrDefault(h, 0)}[what];
        }

        static boolean put(Set<Integer> set, int h, boolean in) {
            return in ? set.add(h) : set.remove(h);
        }

        long light(int h, boolean lit) {
            return is(h) && put(town.lit, h, lit) ? 1 : 0;
        }

        long shut(int h, boolean shut) {
            return is(h) && put(town.shut, h, shut) ? 1 : 0;
        }

        long wind(int hours) {
            return hours < 0 || hours > 9999 ? -1 : town.windAt(town.hour + hours);
        }

        long plume(int h) {
            return !is(h) ? -1 : town.shut.contains(h) ? 0 : town.length(h, town.hour, town.windAt(town.hour));
        }

        long smoke(int h, int i) {
            if (!is(h) || town.shut.contains(h)) {
                return -1;
            }
            List<List<Integer>> cells = town.cells(h, town.hour, town.windAt(town.hour));
            if (i < 0 || i >= cells.size() || cells.get(i) == null) {
                return -1;
            }
            return 16 * cells.get(i).get(1) + cells.get(i).get(0);
        }

        long meets(int h) {
            if (!is(h)) {
                return -1;
            }
            int bits = 0;
            for (Set<Integer> pair : town.meeting(town.hour, town.windAt(town.hour), town.lit)) {
                if (pair.contains(h)) {
                    for (int o : pair) {
                        bits |= 1 << o;
                    }
                }
            }
            return bits & ~(1 << h);
        }

        long hours(int many) {
            if (many < 1 || many > 1000) {
                return -1;
            }
            for (int i = 0; i < many; i++) {
                town.pass(town.windAt(town.hour));
            }
            return town.hour;
        }

        long pair(int a, int b, int what) {
            if (!two(a, b) || what < 0 || what > 1) {
                return -1;
            }
            return (what == 0 ? town.wed : town.children).getOrDefault(Set.of(a, b), 0);
        }

        int drift(int c, int r) {
            int all = 0;
            for (int h = 0; h < 8; h++) {
                all += town.soot.getOrDefault(List.of(h, c, r), 0);
            }
            return all;
        }

        long soot(int c, int r, int h) {
            if (!inField(c, r) || h != -1 && !is(h)) {
                return THROWN;
            }
            return h == -1 ? drift(c, r) : town.soot.getOrDefault(List.of(h, c, r), 0);
        }

        long only(int a, int b) {
            if (!two(a, b)) {
                return -1;
            }
            Set<Integer> lit = new TreeSet<>(town.lit);
            lit.add(a);
            lit.add(b);
            for (int i = 0; i < 24; i++) {
                if (town.meeting(town.hour + i, town.windAt(town.hour + i), lit).equals(Set.of(Set.of(a, b)))) {
                    return i;
                }
            }
            return -1;
        }

        long feast(int hours, int what) {
            if (hours < 0 || hours > 23 || what < 0 || what > 1) {
                return -1;
            }
            int[] best = null;
            int when = town.hour + hours;
            Set<Set<Integer>> all = new HashSet<>();
            Set<Integer> open = new TreeSet<>();
            for (int h = 0; h < town.houses.size(); h++) {
                if (!town.shut.contains(h)) {
                    open.add(h);
                }
            }
            all = town.meeting(when, town.windAt(when), open);
            for (int bits = 0; bits < 1 << town.houses.size(); bits++) {
                int pairs = 0;
                int busy = 0;
                boolean good = true;
                for (int h = 0; h < 8; h++) {
                    good &= (bits >> h & 1) == 0 || open.contains(h);
                }
                for (Set<Integer> pair : all) {
                    int two = 0;
                    for (int h : pair) {
                        two |= 1 << h;
                    }
                    if ((two & bits) == two) {
                        good &= (busy & two) == 0;
                        busy |= two;
                        pairs++;
                    }
                }
                int[] mine = {-pairs, Integer.bitCount(bits), bits};
                if (good && (best == null || Arrays.compare(mine, best) < 0)) {
                    best = mine;
                }
            }
            return what == 0 ? -best[0] : best[2];
        }

        /** Tries every way to light it. */
        long free(int house, int hours) {
            if (!is(house) || hours < 1 || hours > 24) {
                return -1;
            }
            return leastFree(town, house, hours);
        }

        // Which of the others it is wed to tells all that matters of the way that it came, beside what it paid.
        static long leastFree(Town start, int house, int hours) {
            Map<Integer, Integer> least = new HashMap<>();
            least.put(start.wedTo(house), 0);
            Integer ahead = start.ahead;
            for (int i = 0; i < hours; i++) {
                int way = start.windAt(start.hour + i);
                Map<Integer, Integer> behind = new HashMap<>();
                for (Map.Entry<Integer, Integer> e : least.entrySet()) {
                    for (boolean lit : new boolean[] {false, true}) {
                        Town t = start.copy();
                        put(t.lit, house, lit);
                        t.hour = start.hour + i;
                        t.ahead = ahead;
                        t.paid.clear();
                        t.wed.clear();
                        for (int o = 0; o < 8; o++) {
                            if ((e.getKey() >> o & 1) != 0) {
                                t.wed.put(Set.of(house, o), 1);
                            }
                        }
                        t.pass(way);
                        behind.merge(t.wedTo(house), e.getValue() + t.paid.get(house), Math::min);
                    }
                }
                least = behind;
                ahead = way;
            }
            return least.getOrDefault(0, -1);
        }

        long sight(int a, int b, boolean met) {
            if (!two(a, b) || town.sights.size() > 9) {
                return -1;
            }
            town.sights.add(new int[] {a, b, met ? 1 : 0});
            return town.sights.size();
        }

        long clear() {
            town.sights.clear();
            return 1;
        }

        long fits() {
            int bits = 0;
            for (int w = 0; w < 8; w++) {
                Set<Set<Integer>> met = town.meeting(town.hour, w, town.lit);
                boolean all = true;
                for (int[] s : town.sights) {
                    all &= met.contains(Set.of(s[0], s[1])) == (s[2] == 1);
                }
                bits |= all ? 1 << w : 0;
            }
            return bits;
        }

        long share(int c, int r, int h, int what) {
            if (!inField(c, r) || !is(h) || what < 0 || what > 1 || drift(c, r) == 0) {
                return -1;
            }
            int above = town.soot.getOrDefault(List.of(h, c, r), 0);
            int below = drift(c, r);
            for (int d = below; d > 1; d--) {
                if (above % d == 0 && below % d == 0) {
                    above /= d;
                    below /= d;
                }
            }
            return what == 0 ? above : below;
        }

        long g;

        int draw(int below) {
            g = (g * 1103515245L + 12345) % 2147483648L;
            return (int) (g / 65536 % below);
        }

        long days(int seed, int runs, int hours, int what) {
            if (seed < 0 || seed > 9999 || runs < 1 || runs > 20 || hours < 1 || hours > 72 || what < 0 || what > 1) {
                return -1;
            }
            g = seed;
            int weddings = 0;
            int most = 0;
            for (int i = 0; i < runs; i++) {
                Town t = town.copy();
                for (int j = 0; j < hours; j++) {
                    int way = t.windAt(t.hour);
                    if (draw(10) < t.turns) {
                        way = draw(8);
                    }
                    weddings += t.pass(way);
                    int often = 0;
                    for (int h = 0; h < t.houses.size(); h++) {
                        often += Integer.bitCount(t.wedTo(h)) > 1 ? 1 : 0;
                    }
                    most = Math.max(most, often);
                }
            }
            return what == 0 ? weddings : most;
        }

        long mark(int mark, boolean back) {
            if (mark < 0 || mark > 3 || back && marks[mark] == null) {
                return 0;
            }
            if (back) {
                town = marks[mark].copy();
            } else {
                marks[mark] = town.copy();
            }
            return 1;
        }

        long count(int what) {
            return switch (what) {
                case 0 -> town.columns;
                case 1 -> town.rows;
                case 2 -> town.houses.size();
                case 3 -> town.hour;
                case 4 -> town.wed.size();
                case 5 -> town.children.values().stream().mapToInt(i -> i).sum();
                case 6 -> town.soot.values().stream().mapToInt(i -> i).sum();
                case 7 -> town.sights.size();
                case 8 -> tape.length();
                default -> -1;
            };
        }
    }

    // ---- random runs -----------------------------------------------------------------------------------------

    private final Random random;
    private final SmokeWeds x = new SmokeWeds();
    private final Model m = new Model();
    private final List<String> log = new ArrayList<>();
    private boolean failed = false;

    private ModelTest(long seed) {
        random = new Random(seed);
    }

    private int below(int n) {
        return random.nextInt(n);
    }

    private boolean oneOf(int n) {
        return below(n) == 0;
    }

    private int near(int least, int most) {
        if (oneOf(40)) {
            int[] far = {Integer.MIN_VALUE, Integer.MAX_VALUE, -1, least - 1, most + 1, most + 17, 31, 32, 1 << 20};
            return far[below(far.length)];
        }
        return least + below(most - least + 1);
    }

    private int someHouse() {
        return near(0, Math.max(0, m.town.houses.size() - 1));
    }

    private String law(int depth, boolean plumes) {
        String[] facts = {"hour", "day", "hour", "high", "way"};
        int kind = depth >= 4 ? below(3) : below(12);
        if (kind < 2) {
            return "" + below(oneOf(9) ? 10000 : 9);
        }
        if (kind < 4) {
            return facts[below(plumes ? 5 : 3)];
        }
        if (kind == 4) {
            return "not " + law(depth + 2, plumes);
        }
        if (kind == 5) {
            return "(" + law(depth + 1, plumes) + ")";
        }
        String[] signs = {"+", "-", "*", "<", "=", " and ", " or ", "+", "*"};
        String sign = signs[below(signs.length)];
        return "(" + law(depth + 1, plumes) + sign + law(depth + 1, plumes) + ")";
    }

    private String streetText() {
        String[] kinds = {"dry", "wet", "peat", "lean", "oil"};
        StringBuilder text = new StringBuilder();
        int columns = 8;
        int rows = 8;
        if (!oneOf(4)) {
            columns = 1 + below(oneOf(3) ? 12 : 6);
            rows = 1 + below(oneOf(3) ? 12 : 6);
            text.append("field ").append(columns).append(' ').append(rows).append(";");
        }
        List<String> parts = new ArrayList<>();
        if (!oneOf(4)) {
            String[] winds = {"hour", "2*(hour<5)", "hour*3+day", "day", "4-2*(hour=2 or hour=3)", law(0, false)};
            parts.add("wind " + winds[below(winds.length)] + ";");
        }
        if (!oneOf(3)) {
            String[] plumes = {"high+1", "high+(way<4)*2", "high-hour*0", "9", "25-hour", law(0, true)};
            parts.add("plume " + plumes[below(plumes.length)] + ";");
        }
        if (oneOf(2)) {
            parts.add("cold " + below(oneOf(4) ? 100 : 5) + ";");
        }
        if (oneOf(2)) {
            parts.add("turns " + below(11) + ";");
        }
        int houses = below(9) + (oneOf(12) ? 1 : 0);
        Set<List<Integer>> cells = new HashSet<>();
        for (int i = 0; i < houses; i++) {
            int c = below(columns);
            int r = below(rows);
            if (cells.add(List.of(c, r)) || oneOf(9)) {
                String name = oneOf(60) ? "a" : "" + (char) ('a' + i) + (oneOf(3) ? "hour" : "");
                parts.add("house " + name + " at " + c + " " + r + " high " + below(10) + " " + kinds[below(5)] + ";");
            }
        }
        while (!parts.isEmpty()) {
            text.append(parts.remove(below(parts.size()))).append(oneOf(5) ? "\n" : "");
        }
        return text.toString();
    }

    private String harmed(String text) {
        String[] bits = {"house", "field", "wind", "plume", "cold", "turns", "at", "high", "dry", "not", "and", "or",
            "hour", "day", "way", "(", ")", "<", "=", "+", "-", "*", ";", "0", "1", "99", "100", "12345", "abcdefghi",
            "A", "!", " ", "", "((((((", "not not not not not ", "12a"};
        String all = text;
        for (int i = 1 + below(2); i > 0; i--) {
            List<Token> tokens = tokens(all);
            Token t = tokens.get(below(tokens.size()));
            String rest = all.substring(Math.min(all.length(), t.place + (oneOf(2) ? t.text.length() : 0)));
            all = all.substring(0, t.place) + (oneOf(2) ? " " : "") + bits[below(bits.length)] + (oneOf(2) ? " " : "") + rest;
        }
        return oneOf(9) ? all.substring(0, below(all.length() + 1)) : all;
    }

    private void compare(String call, long got, long want) {
        log.add(call + " = " + got);
        if (got != want && !failed) {
            failed = true;
            for (String line : log) {
                System.out.println("  " + line);
            }
            System.out.println("  .. due is " + want);
        }
    }

    private void feedText(String text) {
        int i = 0;
        while (i < text.length()) {
            long[] l = new long[3];
            for (int k = 0; k < 24; k++) {
                boolean skip = oneOf(30);
                int[] others = {0, 9, 13, 31, 127, 128, 255};
                long sign = skip || i >= text.length() ? others[below(others.length)] : text.charAt(i++);
                l[k / 8] = l[k / 8] << 8 | sign;
            }
            compare("feed " + l[0] + " " + l[1] + " " + l[2], x.feed(l[0], l[1], l[2]), m.feed(l[0], l[1], l[2]));
        }
    }

    private void tellStreet() {
        String text = streetText();
        if (oneOf(3)) {
            text = harmed(text);
        }
        log.add("text: " + text.replace("\n", "\\n"));
        feedText(text);
        if (!oneOf(40)) {
            compare("street", x.street(), m.street());
        }
        if (!oneOf(4)) {
            for (int h = 0; h < m.town.houses.size(); h++) {
                if (!oneOf(4)) {
                    compare("light " + h, x.light(h, true) ? 1 : 0, m.light(h, true));
                }
            }
        }
    }

    private long sootOf(int c, int r, int h) {
        try {
            return x.soot(c, r, h);
        } catch (NoSuchElementException e) {
            return Model.THROWN;
        }
    }

    private void someCall() {
        int h = someHouse();
        int o = someHouse();
        int w = near(0, 1);
        boolean b = oneOf(2);
        int c = near(0, m.town.columns - 1);
        int r = near(0, m.town.rows - 1);
        switch (below(24)) {
            case 0 -> {
                int n = near(0, 7);
                compare("house " + h + " " + n, x.house(h, n), m.house(h, n));
            }
            case 1, 2 -> compare("light " + h + " " + b, x.light(h, b) ? 1 : 0, m.light(h, b));
            case 3 -> {
                boolean s = oneOf(4);
                compare("shut " + h + " " + s, x.shut(h, s) ? 1 : 0, m.shut(h, s));
            }
            case 4 -> {
                int n = near(0, oneOf(2) ? 9999 : 30);
                compare("wind " + n, x.wind(n), m.wind(n));
            }
            case 5 -> compare("plume " + h, x.plume(h), m.plume(h));
            case 6 -> {
                int n = near(0, 13);
                compare("smoke " + h + " " + n, x.smoke(h, n), m.smoke(h, n));
            }
            case 7 -> compare("meets " + h, x.meets(h), m.meets(h));
            case 8, 9 -> {
                int n = near(1, oneOf(9) ? 40 : 3);
                compare("hours " + n, x.hours(n), m.hours(n));
            }
            case 10 -> compare("pair " + h + " " + o + " " + w, x.pair(h, o, w), m.pair(h, o, w));
            case 11 -> {
                int by = b ? -1 : h;
                compare("soot " + c + " " + r + " " + by, sootOf(c, r, by), m.soot(c, r, by));
            }
            case 12 -> compare("only " + h + " " + o, x.only(h, o), m.only(h, o));
            case 13 -> {
                int n = near(0, 23);
                compare("feast " + n + " " + w, x.feast(n, w), m.feast(n, w));
            }
            case 14 -> {
                int n = near(1, 24);
                compare("free " + h + " " + n, x.free(h, n), m.free(h, n));
            }
            case 15 -> {
                boolean met = m.town.meeting(m.town.hour, m.town.windAt(m.town.hour), m.town.lit).contains(
                    h == o ? Set.of() : Set.of(h, o)) ^ oneOf(9);
                compare("sight " + h + " " + o + " " + met, x.sight(h, o, met), m.sight(h, o, met));
            }
            case 16 -> {
                if (oneOf(4)) {
                    compare("clear", x.clear() ? 1 : 0, m.clear());
                }
            }
            case 17 -> compare("fits", x.fits(), m.fits());
            case 18 -> compare("share " + c + " " + r + " " + h + " " + w, x.share(c, r, h, w), m.share(c, r, h, w));
            case 19 -> {
                int seed = near(0, 9999);
                int runs = near(1, 3);
                int hours = near(1, 9);
                compare("days " + seed + " " + runs + " " + hours + " " + w, x.days(seed, runs, hours, w), m.days(seed, runs, hours, w));
            }
            case 20, 21 -> {
                int n = near(0, 3);
                compare("mark " + n + " " + b, x.mark(n, b) ? 1 : 0, m.mark(n, b));
            }
            case 22 -> {
                int n = near(0, 8);
                compare("count " + n, x.count(n), m.count(n));
            }
            default -> {
                if (oneOf(8)) {
                    tellStreet();
                }
            }
        }
    }

    private boolean run() {
        if (!oneOf(10)) {
            tellStreet();
        }
        for (int i = 0; i < 120 && !failed; i++) {
            someCall();
        }
        for (int what = 0; what < 9 && !failed; what++) {
            compare("count " + what, x.count(what), m.count(what));
        }
        return !failed;
    }

    public static void main(String[] args) {
        int runs = args.length > 0 ? Integer.parseInt(args[0]) : RUNS;
        int bad = 0;
        for (int seed = 0; seed < runs && bad < 3; seed++) {
            ModelTest test = new ModelTest(seed);
            if (!test.run()) {
                System.out.println("run " + seed + " differs");
                bad++;
            }
        }
        System.out.println(bad == 0 ? runs + " runs are as the model's" : "the model answers otherwise");
        if (bad != 0) {
            System.exit(1);
        }
    }
}
