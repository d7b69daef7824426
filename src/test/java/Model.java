import java.util.ArrayList;
import java.util.HashMap;
import java.util.HashSet;
import java.util.List;
import java.util.Map;
import java.util.Set;
import java.util.regex.Matcher;
import java.util.regex.Pattern;

/** The document read a second time, as naively as can be: no bits where sets do, no sharing between acts. */
final class Model {
    private static final int BEYOND = 0;
    private static final int FULL = 1;
    private static final int KIND = 2;
    private static final int NONE = 3;
    private static final int STATE = 4;
    private static final int MISSING = 5;
    private static final int SIZE = 6;
    private static final int[][] AROUND = {{0, -1}, {1, 0}, {0, 1}, {-1, 0}};
    private static final String CLAUSE =
        "(?:source (?:longest|most|highest)|pass [0-5] [0-9]{1,3}|bar [0-5])(?: in [0-9]{1,3}-[0-9]{1,3})?";
    private static final Pattern TEXT = Pattern.compile(CLAUSE + "(?:;" + CLAUSE + "){0,4}");
    private static final Pattern MONTHS = Pattern.compile(" in ([0-9]{1,3})(?:-([0-9]{1,3}))?");

    private record Link(int from, int to, int months) { }

    private record Row(int party, int kind, int a, int b, int day, int known) { }

    private record Text(int from, int to, List<String> clauses) { }

    private record Claim(int row, int cell) { }

    private static final class Kept {
        int day;
        int[] high = new int[48];
        int[] water = new int[48];
        int[] king = new int[48];
        int[] cell = new int[5];
        int[] goods = new int[5];
        int[] fever = new int[5];
        int[] going = {-1, -1, -1, -1, -1};
        int[] right = {3599, 3599, 3599, 3599, 3599};
        Map<List<Integer>, Integer> mean = new HashMap<>();
        List<Link> links = new ArrayList<>();
        List<Row> rows = new ArrayList<>();
        Set<Integer> struck = new HashSet<>();
        List<Text> texts = new ArrayList<>();
        List<Claim> claims = new ArrayList<>();
        Map<Integer, int[]> books = new HashMap<>();

        Kept twin() {
            Kept t = new Kept();
            t.day = day;
            t.high = high.clone();
            t.water = water.clone();
            t.king = king.clone();
            t.cell = cell.clone();
            t.goods = goods.clone();
            t.fever = fever.clone();
            t.going = going.clone();
            t.right = right.clone();
            t.mean.putAll(mean);
            t.links.addAll(links);
            t.rows.addAll(rows);
            t.struck.addAll(struck);
            t.texts.addAll(texts);
            t.claims.addAll(claims);
            t.books.putAll(books);
            return t;
        }
    }

    private Kept k = new Kept();
    private Kept image;
    private String tape = "";
    private final long[][] sheets = new long[4][];
    private final int[] bits = new int[4];
    private final int[] tally = new int[7];

    private int finding(int which) {
        tally[which]++;
        return -1000000001 - which;
    }

    private static boolean in(long v, long least, long most) {
        return least <= v && v <= most;
    }

    private static boolean cell(int c) {
        return in(c, 0, 47);
    }

    private static int far(int c, int d) {
        return Math.abs(c % 8 - d % 8) + Math.abs(c / 8 - d / 8);
    }

    private static int step(int c, int way) {
        int x = c % 8 + AROUND[way][0];
        int y = c / 8 + AROUND[way][1];
        return in(x, 0, 7) && in(y, 0, 5) ? 8 * y + x : -1;
    }

    private boolean row(int r) {
        return in(r, 0, k.rows.size() - 1);
    }

    private static long bits(Iterable<Integer> set) {
        long all = 0;
        for (int c : set) {
            all |= 1L << c;
        }
        return all;
    }

    // ---- the land

    int high(int cell, int v) {
        if (!cell(cell) || !in(v, 0, 4000)) {
            return finding(BEYOND);
        }
        int was = k.high[cell];
        k.high[cell] = v;
        for (Link link : k.links) {
            if (k.high[link.from] <= k.high[link.to]) {
                k.high[cell] = was;
                return finding(STATE);
            }
        }
        return was;
    }

    int water(int cell, int v) {
        if (!cell(cell) || !in(v, 0, 99)) {
            return finding(BEYOND);
        }
        int was = k.water[cell];
        k.water[cell] = v;
        return was;
    }

    int king(int cell, int king) {
        if (!cell(cell) || !in(king, 0, 5)) {
            return finding(BEYOND);
        }
        int was = k.king[cell];
        k.king[cell] = king;
        return was;
    }

    int link(int from, int to, int months) {
        if (!cell(from) || !cell(to) || !in(months, 1, 4095)) {
            return finding(BEYOND);
        }
        boolean beside = false;
        for (int way = 0; way < 4; way++) {
            beside |= step(from, way) == to;
        }
        if (!beside) {
            return finding(KIND);
        }
        if (k.high[from] <= k.high[to]) {
            return finding(STATE);
        }
        if (k.links.size() == 40) {
            return finding(FULL);
        }
        k.links.add(new Link(from, to, months));
        return k.links.size() - 1;
    }

    private List<Integer> course(int cell, int month) {
        List<Integer> way = new ArrayList<>();
        way.add(cell);
        int at = cell;
        while (true) {
            int to = -1;
            for (Link link : k.links) {
                if (to < 0 && link.from == at && (link.months & 1 << month) != 0) {
                    to = link.to;
                }
            }
            if (to < 0) {
                return way;
            }
            way.add(to);
            at = to;
        }
    }

    int mouth(int cell, int month) {
        if (!cell(cell) || !in(month, 0, 11)) {
            return finding(BEYOND);
        }
        List<Integer> way = course(cell, month);
        return way.get(way.size() - 1);
    }

    int run(int cell, int month) {
        if (!cell(cell) || !in(month, 0, 11)) {
            return finding(BEYOND);
        }
        return course(cell, month).size() - 1;
    }

    long above(int cell, int month) {
        if (!cell(cell) || !in(month, 0, 11)) {
            return finding(BEYOND);
        }
        Set<Integer> all = new HashSet<>();
        for (int c = 0; c < 48; c++) {
            if (course(c, month).contains(cell)) {
                all.add(c);
            }
        }
        return bits(all);
    }

    int joined(int p, int q) {
        if (!cell(p) || !cell(q)) {
            return finding(BEYOND);
        }
        int set = 0;
        for (int month = 0; month < 12; month++) {
            if (mouth(p, month) == mouth(q, month)) {
                set += 1 << month;
            }
        }
        return set;
    }

    int source(int cell, int month) {
        if (!cell(cell) || !in(month, 0, 11)) {
            return finding(BEYOND);
        }
        String clause = clause("source ");
        int best = -1;
        int most = -1;
        for (int c = 0; c < 48; c++) {
            int far = course(c, month).indexOf(cell);
            int worth = clause == null || clause.startsWith("source l") ? far
                : clause.startsWith("source m") ? k.water[c] : k.high[c];
            if (far >= 0 && worth > most) {
                most = worth;
                best = c;
            }
        }
        return best;
    }

    // ---- parties

    int goods(int party, int n) {
        if (!in(party, 0, 4) || !in(n, 0, 999)) {
            return finding(BEYOND);
        }
        int was = k.goods[party];
        k.goods[party] = n;
        return was;
    }

    int set(int party, int cell) {
        if (!in(party, 0, 4) || !cell(cell)) {
            return finding(BEYOND);
        }
        int was = k.cell[party];
        k.cell[party] = cell;
        k.going[party] = -1;
        return was;
    }

    int go(int party, int cell) {
        if (!in(party, 0, 4) || !cell(cell)) {
            return finding(BEYOND);
        }
        if (k.goods[party] == 0) {
            return finding(STATE);
        }
        k.going[party] = cell == k.cell[party] ? -1 : cell;
        return far(cell, k.cell[party]);
    }

    int party(int party, int what) {
        if (!in(party, 0, 4) || !in(what, 0, 5)) {
            return finding(BEYOND);
        }
        int[] all = {k.cell[party], k.goods[party], k.fever[party], k.going[party], book(party).size(), k.right[party]};
        return all[what];
    }

    int stop(int party, int day) {
        if (!in(party, 0, 4) || !in(day, 0, 3599)) {
            return finding(BEYOND);
        }
        if (k.right[party] < day) {
            return finding(STATE);
        }
        int was = k.right[party];
        k.right[party] = day - 1;
        return was;
    }

    // ---- rows

    int row(int party, int kind, int numbers, int late) {
        int[][] most = {{99, 99}, {4, 9}, {99, 9}, {5, 5}, {9, 3}, {47, 8}, {47, 8}};
        if (!in(party, 0, 4) || !in(kind, 0, 6) || !in(late, 0, 720) || numbers < 0) {
            return finding(BEYOND);
        }
        int a = numbers / 100;
        int b = numbers % 100;
        if (a > most[kind][0] || b > most[kind][1] || (kind == 6 && b == 0)) {
            return finding(BEYOND);
        }
        if (k.rows.size() == 40) {
            return finding(FULL);
        }
        k.rows.add(new Row(party, kind, a, b, k.day, k.day + late));
        return k.rows.size() - 1;
    }

    private List<Integer> book(int party) {
        List<Integer> book = new ArrayList<>();
        for (int r = 0; r < k.rows.size(); r++) {
            if (k.rows.get(r).party == party) {
                book.add(r);
            }
        }
        return book;
    }

    private static boolean under(int kind, int above) {
        int[] parent = {-1, 0, 0, 0, 0, 0, 5};
        for (int at = kind; at >= 0; at = parent[at]) {
            if (at == above) {
                return true;
            }
        }
        return false;
    }

    int as(int row, int kind) {
        if (!row(row) || !in(kind, 0, 6)) {
            return finding(BEYOND);
        }
        return under(k.rows.get(row).kind, kind) ? row : finding(KIND);
    }

    int of(int row, int what) {
        if (!row(row) || !in(what, 0, 9)) {
            return finding(BEYOND);
        }
        Row r = k.rows.get(row);
        if ((what == 7 && r.kind < 5) || (what > 7 && r.kind != 2)) {
            return finding(KIND);
        }
        int height = (99 - r.a) * 40;
        int off = 20 + r.b * 10;
        int[] all = {r.kind, r.a, r.b, r.party, r.day, r.known, k.struck.contains(row) ? 1 : 0, r.b, height - off,
            height + off};
        return all[what];
    }

    int strike(int row, boolean is) {
        if (!row(row)) {
            return finding(BEYOND);
        }
        return (is ? k.struck.add(row) : k.struck.remove(row)) ? 1 : 0;
    }

    int mean(int tongue, int word, int v) {
        if (!in(tongue, 0, 3) || !in(word, 0, 9) || !in(v, 0, 3)) {
            return finding(BEYOND);
        }
        Integer was = k.mean.put(List.of(tongue, word), v);
        return was == null ? 0 : was;
    }

    private boolean fit(Row r, int c, int right) {
        switch (r.kind) {
            case 2:
                return Math.abs(k.high[c] - (99 - r.a) * 40) <= 20 + 10 * r.b;
            case 3:
                return r.day > right || Math.abs(c / 8 - r.a) <= r.b;
            case 4:
                int means = k.mean.getOrDefault(List.of(r.b, r.a), 0);
                boolean river = false;
                for (Link link : k.links) {
                    river |= link.from == c;
                }
                return means == 0 || (means == 1 && river) || (means == 2 && k.water[c] > 49)
                    || (means == 3 && k.high[c] > 1999);
            default:
                return true;
        }
    }

    long fits(int row) {
        if (!row(row)) {
            return finding(BEYOND);
        }
        Set<Integer> all = new HashSet<>();
        Row r = k.rows.get(row);
        for (int c = 0; c < 48; c++) {
            if (fit(r, c, k.right[r.party])) {
                all.add(c);
            }
        }
        return bits(all);
    }

    private static Set<Integer> ends(int from, int way, int steps) {
        Set<Integer> at = new HashSet<>();
        if (way < 4) {
            int c = from;
            for (int i = 0; i < steps && c >= 0; i++) {
                c = step(c, way);
            }
            if (c >= 0) {
                at.add(c);
            }
            return at;
        }
        for (int c = 0; c < 48; c++) {
            if (far(c, from) <= steps) {
                at.add(c);
            }
        }
        return at;
    }

    private boolean counts(int r, int day, Set<Integer> struck) {
        return k.rows.get(r).known <= day && !struck.contains(r);
    }

    /** Whether the book can be as told with the party in that cell at that row. */
    private boolean can(int row, int cell, int day, Set<Integer> struck, int right) {
        Set<Integer> at = new HashSet<>();
        for (int c = 0; c < 48; c++) {
            at.add(c);
        }
        for (int r : book(k.rows.get(row).party)) {
            Row told = k.rows.get(r);
            if (counts(r, day, struck)) {
                Set<Integer> then = new HashSet<>();
                for (int c : at) {
                    then.addAll(told.kind == 1 ? ends(c, told.a, told.b) : Set.of(c));
                }
                then.removeIf(c -> !fit(told, c, right));
                at = then;
            }
            if (r == row) {
                at.removeIf(c -> c != cell);
            }
        }
        return !at.isEmpty();
    }

    private Set<Integer> places(int row, int day, Set<Integer> struck, int right) {
        Set<Integer> all = new HashSet<>();
        for (int c = 0; c < 48; c++) {
            if (can(row, c, day, struck, right)) {
                all.add(c);
            }
        }
        return all;
    }

    private Set<Integer> places(int row, int day) {
        return places(row, day, k.struck, k.right[k.rows.get(row).party]);
    }

    long where(int row, int day) {
        if (!row(row) || !in(day, 0, 3599)) {
            return finding(BEYOND);
        }
        return bits(places(row, day));
    }

    int count(int row, int day) {
        if (!row(row) || !in(day, 0, 3599)) {
            return finding(BEYOND);
        }
        return places(row, day).size();
    }

    int same(int r, int s) {
        if (!row(r) || !row(s)) {
            return finding(BEYOND);
        }
        if (k.rows.get(r).party != k.rows.get(s).party) {
            return finding(KIND);
        }
        Set<Integer> both = places(r, k.day);
        both.retainAll(places(s, k.day));
        return both.isEmpty() ? 0 : 1;
    }

    // ---- texts, kings

    int feed(int bytes, int n) {
        if (!in(n, 1, 4)) {
            return finding(BEYOND);
        }
        if (tape.length() + n > 100) {
            return finding(FULL);
        }
        String all = "" + (char) (bytes >> 24 & 255) + (char) (bytes >> 16 & 255) + (char) (bytes >> 8 & 255)
            + (char) (bytes & 255);
        tape += all.substring(4 - n);
        return tape.length();
    }

    private static int fault(String text) {
        int end = 0;
        while (end < text.length() && begins(text.substring(0, end + 1))) {
            end++;
        }
        Matcher months = MONTHS.matcher(text.substring(0, end));
        while (months.find()) {
            int first = Integer.parseInt(months.group(1));
            if (first > 11) {
                return months.end(1);
            }
            if (months.group(2) != null) {
                int second = Integer.parseInt(months.group(2));
                if (second > 11 || second < first) {
                    return months.end(2);
                }
            }
        }
        return TEXT.matcher(text).matches() ? -1 : end;
    }

    private static boolean begins(String text) {
        Matcher matcher = TEXT.matcher(text);
        return matcher.matches() || matcher.hitEnd();
    }

    int text(int from, int to) {
        if (!in(from, 0, 9) || !in(to, 0, 9) || from > to) {
            return finding(BEYOND);
        }
        if (k.texts.size() == 8) {
            return finding(FULL);
        }
        int fault = fault(tape);
        if (fault >= 0) {
            return -1 - fault;
        }
        k.texts.add(new Text(from, to, List.of(tape.split(";"))));
        tape = "";
        return k.texts.size() - 1;
    }

    int wipe() {
        int n = tape.length();
        tape = "";
        return n;
    }

    private int[] clausePlace(String... begin) {
        for (int t = k.texts.size() - 1; t >= 0; t--) {
            Text text = k.texts.get(t);
            for (int c = 0; c < text.clauses.size() && in(k.day / 360, text.from, text.to); c++) {
                String clause = text.clauses.get(c);
                Matcher months = MONTHS.matcher(clause);
                boolean open = !months.find() || in(k.day % 360 / 30, Integer.parseInt(months.group(1)),
                    Integer.parseInt(months.group(2)));
                for (String b : begin) {
                    if (open && clause.startsWith(b)) {
                        return new int[] {t, c};
                    }
                }
            }
        }
        return null;
    }

    private String clause(String... begin) {
        int[] place = clausePlace(begin);
        return place == null ? null : k.texts.get(place[0]).clauses.get(place[1]);
    }

    int why(int king) {
        if (!in(king, -1, 5)) {
            return finding(BEYOND);
        }
        int[] place = king < 0 ? clausePlace("source") : clausePlace("pass " + king, "bar " + king);
        return place == null ? finding(NONE) : 10 * place[0] + place[1];
    }

    /** -1: he bars. */
    private int toll(int king) {
        String clause = clause("pass " + king, "bar " + king);
        if (clause == null) {
            return 1;
        }
        return clause.startsWith("bar") ? -1 : Integer.parseInt(clause.split(" ")[2]);
    }

    int price(int king) {
        if (!in(king, 0, 5)) {
            return finding(BEYOND);
        }
        return toll(king) < 0 ? finding(STATE) : toll(king);
    }

    private int[] costs(int from) {
        int[] cost = new int[48];
        java.util.Arrays.fill(cost, Integer.MAX_VALUE);
        cost[from] = 0;
        int[] toll = new int[6];
        for (int king = 0; king < 6; king++) {
            toll[king] = toll(king);
        }
        for (boolean more = true; more;) {
            more = false;
            for (int c = 0; c < 48; c++) {
                for (int way = 0; way < 4 && cost[c] < Integer.MAX_VALUE; way++) {
                    int to = step(c, way);
                    if (to >= 0 && toll[k.king[to]] >= 0) {
                        int sum = cost[c] + (k.king[to] == k.king[c] ? 0 : toll[k.king[to]]);
                        more |= sum < cost[to];
                        cost[to] = Math.min(cost[to], sum);
                    }
                }
            }
        }
        return cost;
    }

    int path(int from, int to) {
        if (!cell(from) || !cell(to)) {
            return finding(BEYOND);
        }
        int cost = costs(from)[to];
        return cost == Integer.MAX_VALUE ? finding(NONE) : cost;
    }

    long pass(int from, int goods) {
        if (!cell(from) || goods < 0) {
            return finding(BEYOND);
        }
        int[] cost = costs(from);
        Set<Integer> all = new HashSet<>();
        for (int c = 0; c < 48; c++) {
            if (cost[c] < Integer.MAX_VALUE && cost[c] <= goods) {
                all.add(c);
            }
        }
        return bits(all);
    }

    // ---- maps

    private Set<Integer> drawn(int map) {
        Set<Integer> all = new HashSet<>();
        for (int r = 0; r < k.rows.size(); r++) {
            Row told = k.rows.get(r);
            if (told.kind >= 5 && told.b == map && !k.struck.contains(r)) {
                all.add(told.a);
            }
        }
        return all;
    }

    long map(int map) {
        return in(map, 0, 8) ? bits(drawn(map)) : finding(BEYOND);
    }

    private int slipped(int map, int from) {
        if (from < 0) {
            return drawn(map).size() + 2;
        }
        Set<Integer> one = drawn(map);
        one.removeAll(drawn(from));
        Set<Integer> other = drawn(from);
        other.removeAll(drawn(map));
        return one.size() + other.size();
    }

    int slips(int map, int from) {
        if (!in(map, 0, 8) || !in(from, -1, map - 1)) {
            return finding(BEYOND);
        }
        return slipped(map, from);
    }

    private int model(int map) {
        int best = map - 1;
        for (int from = map - 1; from >= -1; from--) {
            if (slipped(map, from) <= slipped(map, best)) {
                best = from;
            }
        }
        return best;
    }

    int copied(int map) {
        return in(map, 0, 8) ? model(map) : finding(BEYOND);
    }

    int guesses() {
        int sum = 0;
        for (int map = 0; map < 9; map++) {
            sum += drawn(map).isEmpty() ? 0 : slipped(map, model(map));
        }
        return sum;
    }

    int shore(int cell) {
        if (!cell(cell)) {
            return finding(BEYOND);
        }
        for (int map = 0; map < 9; map++) {
            if (drawn(map).contains(cell)) {
                boolean borne = false;
                for (int r = 0; r < k.rows.size(); r++) {
                    borne |= counts(r, k.day, k.struck) && !under(k.rows.get(r).kind, 5)
                        && can(r, cell, k.day, k.struck, k.right[k.rows.get(r).party]);
                }
                if (!borne) {
                    return map;
                }
            }
        }
        return finding(NONE);
    }

    // ---- claims

    int claim(int row, int cell) {
        if (!row(row) || !cell(cell)) {
            return finding(BEYOND);
        }
        if (k.claims.size() == 20) {
            return finding(FULL);
        }
        k.claims.add(new Claim(row, cell));
        return k.claims.size() - 1;
    }

    private int verdict(Claim claim) {
        Set<Integer> all = places(claim.row, k.day);
        return !all.contains(claim.cell) ? 0 : all.size() > 1 ? 1 : 2;
    }

    int call(int claim) {
        return in(claim, 0, k.claims.size() - 1) ? verdict(k.claims.get(claim)) : finding(BEYOND);
    }

    int fall(int row) {
        if (!row(row)) {
            return finding(BEYOND);
        }
        int set = 0;
        Set<Integer> struck = new HashSet<>(k.struck);
        for (int i = 0; i < k.claims.size(); i++) {
            int was = verdict(k.claims.get(i));
            if (!k.struck.remove(row)) {
                k.struck.add(row);
            }
            set |= verdict(k.claims.get(i)) == was ? 0 : 1 << i;
            k.struck = new HashSet<>(struck);
        }
        return set;
    }

    int next() {
        List<Set<Integer>> open = new ArrayList<>();
        for (Claim claim : k.claims) {
            if (verdict(claim) > 0) {
                open.add(places(claim.row, k.day));
            }
        }
        if (open.isEmpty()) {
            return finding(NONE);
        }
        int best = 47;
        int most = -1;
        for (int c = 47; c >= 0; c--) {
            int with = 0;
            for (Set<Integer> set : open) {
                with += set.contains(c) ? 1 : 0;
            }
            if (Math.min(with, open.size() - with) >= most) {
                most = Math.min(with, open.size() - with);
                best = c;
            }
        }
        return best;
    }

    // ---- plans

    int plan(long rows) {
        List<Integer> set = new ArrayList<>();
        Set<Integer> parties = new HashSet<>();
        for (int r = 0; r < 64; r++) {
            if ((rows & 1L << r) != 0) {
                if (!row(r)) {
                    return finding(BEYOND);
                }
                set.add(r);
                parties.add(k.rows.get(r).party);
            }
        }
        if (set.isEmpty()) {
            return finding(BEYOND);
        }
        if (parties.size() > 1) {
            return finding(KIND);
        }
        if (set.size() > 8) {
            return finding(SIZE);
        }
        int party = parties.iterator().next();
        List<Integer> book = book(party);
        int last = book.get(book.size() - 1);
        for (int n = 0; n <= set.size(); n++) {
            for (int choice = 0; choice < 1 << set.size(); choice++) {
                if (Integer.bitCount(choice) == n && leaves(set, choice, last, party)) {
                    return choice;
                }
            }
        }
        return finding(NONE);
    }

    private boolean leaves(List<Integer> set, int choice, int last, int party) {
        Set<Integer> struck = new HashSet<>(k.struck);
        for (int i = 0; i < set.size(); i++) {
            if ((choice >> i & 1) == 1) {
                struck.add(set.get(i));
            }
        }
        for (int c = 0; c < 48; c++) {
            if (can(last, c, k.day, struck, k.right[party])) {
                return true;
            }
        }
        return false;
    }

    int judge(int party, int s) {
        if (!in(party, 0, 4) || !in(s, 0, 3)) {
            return finding(BEYOND);
        }
        if (sheets[s] == null) {
            return finding(MISSING);
        }
        List<Integer> book = book(party);
        if (sheets[s].length != book.size()) {
            return finding(SIZE);
        }
        for (int i = 0; i < book.size(); i++) {
            if (!in(sheets[s][i], 0, 47)) {
                return i;
            }
            int c = (int) sheets[s][i];
            int before = i == 0 ? -1 : (int) sheets[s][i - 1];
            Row told = k.rows.get(book.get(i));
            if (!counts(book.get(i), k.day, k.struck)) {
                if (i > 0 && c != before) {
                    return i;
                }
            } else if (!fit(told, c, k.right[party])) {
                return i;
            } else if (told.kind == 1) {
                boolean led = false;
                for (int d = 0; d < 48; d++) {
                    led |= (i == 0 || d == before) && ends(d, told.a, told.b).contains(c);
                }
                if (!led) {
                    return i;
                }
            } else if (i > 0 && c != before) {
                return i;
            }
        }
        return book.size();
    }

    int beside(int row) {
        return row(row) ? places(row, k.day, k.struck, 3599).size() : finding(BEYOND);
    }

    // ---- days, the book

    int tick(int n) {
        if (!in(n, 1, 360)) {
            return finding(BEYOND);
        }
        if (k.day + n > 3599) {
            return finding(FULL);
        }
        for (int i = 0; i < n; i++) {
            close();
        }
        return k.day;
    }

    private void close() {
        for (int p = 0; p < 5; p++) {
            if (k.going[p] >= 0 && k.goods[p] > 0) {
                int best = -1;
                for (int way = 3; way >= 0; way--) {
                    int to = step(k.cell[p], way);
                    if (to >= 0 && (best < 0 || far(to, k.going[p]) <= far(best, k.going[p]))) {
                        best = to;
                    }
                }
                k.cell[p] = best;
                k.going[p] = best == k.going[p] ? -1 : k.going[p];
            }
        }
        int month = k.day % 360 / 30;
        for (int p = 0; p < 5; p++) {
            k.goods[p] = Math.max(0, k.goods[p] - 1);
            if (k.water[k.cell[p]] >= 50 && month >= 3 && month <= 5 && ++k.fever[p] == 20) {
                k.fever[p] = 0;
                if (k.right[p] >= k.day) {
                    k.right[p] = k.day - 1;
                }
            }
        }
        if ((k.day + 1) % 30 == 0) {
            int[] book = new int[6];
            for (int r = 0; r < k.rows.size(); r++) {
                if (k.rows.get(r).known <= k.day) {
                    book[0]++;
                    book[1] += k.struck.contains(r) ? 1 : 0;
                }
            }
            book[2] = k.claims.size();
            for (int p = 0; p < 5; p++) {
                book[3] += k.goods[p];
                book[4] += k.fever[p];
                book[5] += k.going[p] >= 0 ? 1 : 0;
            }
            k.books.put(k.day / 30, book);
        }
        k.day++;
    }

    int book(int month, int what) {
        if (!in(month, 0, 119) || !in(what, 0, 5)) {
            return finding(BEYOND);
        }
        return k.books.containsKey(month) ? k.books.get(month)[what] : finding(NONE);
    }

    int check(int month, int s) {
        if (!in(month, 0, 119) || !in(s, 0, 3)) {
            return finding(BEYOND);
        }
        if (!k.books.containsKey(month)) {
            return finding(NONE);
        }
        if (sheets[s] == null) {
            return finding(MISSING);
        }
        if (sheets[s].length != 6) {
            return finding(SIZE);
        }
        int i = 0;
        while (i < 6 && sheets[s][i] == k.books.get(month)[i]) {
            i++;
        }
        return i;
    }

    int known(int day) {
        if (!in(day, 0, 3599)) {
            return finding(BEYOND);
        }
        int n = 0;
        for (Row r : k.rows) {
            n += r.known <= day ? 1 : 0;
        }
        return n;
    }

    // ---- sheets

    int sheet(int s, int bits, int n) {
        if (!in(s, 0, 3) || !List.of(0, 8, 16, 64).contains(bits)) {
            return finding(BEYOND);
        }
        if (n < 0) {
            return finding(SIZE);
        }
        if (n > 40) {
            return finding(BEYOND);
        }
        this.bits[s] = bits;
        sheets[s] = bits == 0 ? null : new long[n];
        return bits == 0 ? 0 : n;
    }

    long write(int s, int i, long v) {
        if (!in(s, 0, 3)) {
            return finding(BEYOND);
        }
        if (sheets[s] == null) {
            return finding(MISSING);
        }
        if (!in(i, 0, sheets[s].length - 1)) {
            return finding(BEYOND);
        }
        long was = sheets[s][i];
        sheets[s][i] = v << 64 - bits[s] >> 64 - bits[s];
        return was;
    }

    int copy(int s, int from, int t, int to, int n) {
        if (!in(s, 0, 3) || !in(t, 0, 3)) {
            return finding(BEYOND);
        }
        if (sheets[s] == null || sheets[t] == null) {
            return finding(MISSING);
        }
        if (bits[s] != bits[t]) {
            return finding(KIND);
        }
        if (from < 0 || to < 0 || n < 0 || (long) from + n > sheets[s].length || (long) to + n > sheets[t].length) {
            return finding(BEYOND);
        }
        long[] were = sheets[s].clone();
        for (int i = 0; i < n; i++) {
            sheets[t][to + i] = were[from + i];
        }
        return n;
    }

    // ---- images

    int image() {
        image = k.twin();
        return 1;
    }

    int undo() {
        if (image == null) {
            return finding(NONE);
        }
        k = image.twin();
        return k.day;
    }

    int tear() {
        int was = image == null ? 0 : 1;
        image = null;
        return was;
    }

    int look(int what) {
        if (!in(what, 0, 7)) {
            return finding(BEYOND);
        }
        int force = 0;
        for (Text text : k.texts) {
            force += in(k.day / 360, text.from, text.to) ? 1 : 0;
        }
        int[] all = {k.links.size(), k.rows.size(), k.struck.size(), k.texts.size(), k.claims.size(), k.day, tape.length(),
            force};
        return all[what];
    }

    int status(int which) {
        if (!in(which, -1, 6)) {
            return finding(BEYOND);
        }
        int sum = 0;
        for (int i = 0; i < 7; i++) {
            sum += which < 0 || which == i ? tally[i] : 0;
        }
        return sum;
    }
}
