/**
 * Where a river begins: the books of parties, the waters, the texts, the maps and the claims
 * of ../shared/DOC.md. Findings are answers, never exceptions.
 */
public final class RiverHead {
    private static final int BEYOND = -1000000001;
    private static final int FULL = -1000000002;
    private static final int KIND = -1000000003;
    private static final int NONE = -1000000004;
    private static final int STATE = -1000000005;
    private static final int MISSING = -1000000006;
    private static final int SIZE = -1000000007;
    private static final int FINDINGS = 7;

    private static final int CELLS = 48;
    private static final int WIDTH = 8;
    private static final int TOP = 4000;
    private static final int LINKS = 40;
    private static final int MONTHS = 12;
    private static final int PARTIES = 5;
    private static final int ROWS = 40;
    private static final int WORDS = 10;
    private static final int TONGUES = 4;
    private static final int KINGS = 6;
    private static final int TEXTS = 8;
    private static final int CLAUSES = 5;
    private static final int YEARS = 10;
    private static final int MAPS = 9;
    private static final int CLAIMS = 20;
    private static final int LAST_DAY = 3599;
    private static final int BOOKS = 120;
    private static final int BOOK_NUMBERS = 6;
    private static final int SHEETS = 4;
    private static final int SHEET_NUMBERS = 40;
    private static final int PLAN_ROWS = 8;
    private static final int NOWHERE = -1;

    private static final int KINDS = 7;
    private static final int PLAIN = 0;
    private static final int MARCH = 1;
    private static final int BOIL = 2;
    private static final int STAR = 3;
    private static final int TOLD = 4;
    private static final int DRAWN = 5;
    private static final int COPIED = 6;
    private static final int ANY_WAY = 4;

    private static final int RIVER = 1;
    private static final int LAKE = 2;
    private static final int MOUNTAIN = 3;

    private static final int LONGEST = 0;
    private static final int MOST = 1;
    private static final int HIGHEST = 2;
    /** Whom a source clause is about, where other clauses have a king. */
    private static final int THE_SOURCE = -1;
    /** Stands for the price of a king who bars. */
    private static final int BARRED = -1;

    private final World world = new World();
    private final Reader reader = new Reader();
    private final Trail trail = new Trail();
    private final Tolls tolls = new Tolls();
    private final Sheet[] sheets = new Sheet[SHEETS];
    private final int[] tally = new int[FINDINGS];
    /** Made at the first image only, as most objects never keep one; then used again. */
    private World kept;
    private boolean keeps;

    public RiverHead() {
        for (int i = 0; i < SHEETS; i++) {
            sheets[i] = new Sheet();
        }
    }

    // ---- the land

    public int high(int cell, int v) {
        if (!isCell(cell) || !within(v, TOP)) {
            return finding(BEYOND);
        }
        if (!world.land.leadsDownWith(cell, v)) {
            return finding(STATE);
        }
        int was = world.land.height[cell];
        world.land.height[cell] = v;
        return was;
    }

    public int water(int cell, int v) {
        if (!isCell(cell) || !within(v, 99)) {
            return finding(BEYOND);
        }
        int was = world.land.wet[cell];
        world.land.wet[cell] = v;
        return was;
    }

    public int king(int cell, int king) {
        if (!isCell(cell) || !within(king, KINGS - 1)) {
            return finding(BEYOND);
        }
        int was = world.land.lord[cell];
        world.land.lord[cell] = king;
        return was;
    }

    public int link(int from, int to, int months) {
        Land land = world.land;
        if (!isCell(from) || !isCell(to) || months < 1 || months >= 1 << MONTHS) {
            return finding(BEYOND);
        }
        if (apart(from, to) != 1) {
            return finding(KIND);
        }
        if (land.height[from] <= land.height[to]) {
            return finding(STATE);
        }
        if (land.size >= LINKS) {
            return finding(FULL);
        }
        return land.addLink(from, to, months);
    }

    public int mouth(int cell, int month) {
        if (!isCell(cell) || !isMonth(month)) {
            return finding(BEYOND);
        }
        world.land.turnTo(month);
        return world.land.endOf(cell);
    }

    public int run(int cell, int month) {
        if (!isCell(cell) || !isMonth(month)) {
            return finding(BEYOND);
        }
        world.land.turnTo(month);
        return world.land.linksBetween(cell, world.land.endOf(cell));
    }

    public long above(int cell, int month) {
        if (!isCell(cell) || !isMonth(month)) {
            return finding(BEYOND);
        }
        world.land.turnTo(month);
        return world.land.leadingTo(cell);
    }

    public int joined(int p, int q) {
        if (!isCell(p) || !isCell(q)) {
            return finding(BEYOND);
        }
        int set = 0;
        for (int month = 0; month < MONTHS; month++) {
            world.land.turnTo(month);
            if (world.land.endOf(p) == world.land.endOf(q)) {
                set |= 1 << month;
            }
        }
        return set;
    }

    public int source(int cell, int month) {
        if (!isCell(cell) || !isMonth(month)) {
            return finding(BEYOND);
        }
        world.land.turnTo(month);
        return world.land.headOf(cell, world.sourceRule());
    }

    // ---- parties

    public int goods(int party, int n) {
        if (!isParty(party) || !within(n, 999)) {
            return finding(BEYOND);
        }
        int was = world.camp.stock[party];
        world.camp.stock[party] = n;
        return was;
    }

    public int set(int party, int cell) {
        if (!isParty(party) || !isCell(cell)) {
            return finding(BEYOND);
        }
        int was = world.camp.place[party];
        world.camp.place[party] = cell;
        world.camp.goal[party] = NOWHERE;
        return was;
    }

    public int go(int party, int cell) {
        if (!isParty(party) || !isCell(cell)) {
            return finding(BEYOND);
        }
        if (world.camp.stock[party] == 0) {
            return finding(STATE);
        }
        int far = apart(world.camp.place[party], cell);
        world.camp.goal[party] = far == 0 ? NOWHERE : cell;
        return far;
    }

    public int party(int party, int what) {
        if (!isParty(party)) {
            return finding(BEYOND);
        }
        switch (what) {
            case 0: return world.camp.place[party];
            case 1: return world.camp.stock[party];
            case 2: return world.camp.fever[party];
            case 3: return world.camp.goal[party];
            case 4: return world.rows.inBookOf(party);
            case 5: return world.camp.right[party];
            default: return finding(BEYOND);
        }
    }

    public int stop(int party, int day) {
        if (!isParty(party) || !isDay(day)) {
            return finding(BEYOND);
        }
        if (!world.camp.isRightOn(party, day)) {
            return finding(STATE);
        }
        int was = world.camp.right[party];
        world.camp.haltWatch(party, day);
        return was;
    }

    // ---- rows

    public int row(int party, int kind, int numbers, int late) {
        if (!isParty(party) || !isKind(kind) || !within(late, 720) || !areNumbers(kind, numbers)) {
            return finding(BEYOND);
        }
        if (world.rows.size >= ROWS) {
            return finding(FULL);
        }
        return world.rows.addRow(party, kind, numbers, world.day, world.day + late);
    }

    public int as(int row, int kind) {
        if (!isRow(row) || !isKind(kind)) {
            return finding(BEYOND);
        }
        if (!world.rows.isUnder(row, kind)) {
            return finding(KIND);
        }
        return row;
    }

    public int of(int row, int what) {
        if (!isRow(row) || !within(what, 9)) {
            return finding(BEYOND);
        }
        Rows rows = world.rows;
        switch (what) {
            case 0: return rows.kind[row];
            case 1: return rows.a[row];
            case 2: return rows.b[row];
            case 3: return rows.owner[row];
            case 4: return rows.day[row];
            case 5: return rows.from[row];
            case 6: return rows.isStruck(row) ? 1 : 0;
            case 7: return rows.isUnder(row, DRAWN) ? rows.b[row] : finding(KIND);
            case 8: return rows.isUnder(row, BOIL) ? rows.leastHeight(row) : finding(KIND);
            default: return rows.isUnder(row, BOIL) ? rows.greatestHeight(row) : finding(KIND);
        }
    }

    public int strike(int row, boolean is) {
        if (!isRow(row)) {
            return finding(BEYOND);
        }
        if (world.rows.isStruck(row) == is) {
            return 0;
        }
        world.rows.turnStruck(row);
        return 1;
    }

    public int mean(int tongue, int word, int v) {
        if (!within(tongue, TONGUES - 1) || !within(word, WORDS - 1) || !within(v, MOUNTAIN)) {
            return finding(BEYOND);
        }
        int place = tongue * WORDS + word;
        int was = world.rows.meaning[place];
        world.rows.meaning[place] = v;
        return was;
    }

    public long fits(int row) {
        if (!isRow(row)) {
            return finding(BEYOND);
        }
        return world.rows.fitting(row, world.land, world.watchOf(row));
    }

    public long where(int row, int day) {
        if (!isRow(row) || !isDay(day)) {
            return finding(BEYOND);
        }
        return spotOf(row, day);
    }

    public int count(int row, int day) {
        if (!isRow(row) || !isDay(day)) {
            return finding(BEYOND);
        }
        return Long.bitCount(spotOf(row, day));
    }

    public int same(int r, int s) {
        if (!isRow(r) || !isRow(s)) {
            return finding(BEYOND);
        }
        if (world.rows.owner[r] != world.rows.owner[s]) {
            return finding(KIND);
        }
        trail.trace(world, world.rows.owner[r], world.day);
        return (trail.spot[r] & trail.spot[s]) != 0 ? 1 : 0;
    }

    // ---- texts, kings

    public int feed(int bytes, int n) {
        if (n < 1 || n > 4) {
            return finding(BEYOND);
        }
        if (reader.length + n > Reader.ROOM) {
            return finding(FULL);
        }
        return reader.append(bytes, n);
    }

    public int text(int from, int to) {
        if (!within(from, YEARS - 1) || !within(to, YEARS - 1) || from > to) {
            return finding(BEYOND);
        }
        if (world.laws.size >= TEXTS) {
            return finding(FULL);
        }
        int fault = reader.readInto(world.laws);
        if (fault >= 0) {
            return -1 - fault;
        }
        reader.length = 0;
        return world.laws.enact(from, to);
    }

    public int wipe() {
        int was = reader.length;
        reader.length = 0;
        return was;
    }

    public int why(int king) {
        if (king != THE_SOURCE && !within(king, KINGS - 1)) {
            return finding(BEYOND);
        }
        int slot = world.clauseAbout(king);
        if (slot < 0) {
            return finding(NONE);
        }
        return slot / CLAUSES * 10 + slot % CLAUSES;
    }

    public int price(int king) {
        if (!within(king, KINGS - 1)) {
            return finding(BEYOND);
        }
        int toll = world.tollOf(king);
        return toll == BARRED ? finding(STATE) : toll;
    }

    public int path(int from, int to) {
        if (!isCell(from) || !isCell(to)) {
            return finding(BEYOND);
        }
        tolls.spread(world, from);
        int cost = tolls.cost[to];
        return cost < 0 ? finding(NONE) : cost;
    }

    public long pass(int from, int goods) {
        if (!isCell(from) || goods < 0) {
            return finding(BEYOND);
        }
        tolls.spread(world, from);
        return tolls.reachedFor(goods);
    }

    // ---- maps

    public long map(int map) {
        if (!within(map, MAPS - 1)) {
            return finding(BEYOND);
        }
        return world.rows.drawnOn(map);
    }

    public int slips(int map, int from) {
        if (!within(map, MAPS - 1) || from < NOWHERE || from >= map) {
            return finding(BEYOND);
        }
        return world.rows.slipsFrom(map, from);
    }

    public int copied(int map) {
        if (!within(map, MAPS - 1)) {
            return finding(BEYOND);
        }
        return world.rows.modelOf(map);
    }

    public int guesses() {
        int sum = 0;
        for (int map = 0; map < MAPS; map++) {
            if (world.rows.drawnOn(map) != 0) {
                sum += world.rows.slipsFrom(map, world.rows.modelOf(map));
            }
        }
        return sum;
    }

    public int shore(int cell) {
        if (!isCell(cell)) {
            return finding(BEYOND);
        }
        traceAll();
        int map = world.rows.firstMapWith(cell);
        if (map < 0 || isBorneOut(cell)) {
            return finding(NONE);
        }
        return map;
    }

    // ---- claims

    public int claim(int row, int cell) {
        if (!isRow(row) || !isCell(cell)) {
            return finding(BEYOND);
        }
        if (world.claims.size >= CLAIMS) {
            return finding(FULL);
        }
        return world.claims.addClaim(row, cell);
    }

    public int call(int claim) {
        if (claim < 0 || claim >= world.claims.size) {
            return finding(BEYOND);
        }
        long spot = spotOf(world.claims.row[claim], world.day);
        return world.claims.verdict(claim, spot);
    }

    public int fall(int row) {
        if (!isRow(row)) {
            return finding(BEYOND);
        }
        Rows rows = world.rows;
        int party = rows.owner[row];
        long before = verdictsIn(party);
        rows.turnStruck(row);
        long changed = before ^ verdictsIn(party);
        rows.turnStruck(row);
        return (int) ((changed | changed >>> CLAIMS) & (1L << CLAIMS) - 1);
    }

    public int next() {
        traceAll();
        Claims claims = world.claims;
        int held = claims.holding(trail, NOWHERE);
        if (held == 0) {
            return finding(NONE);
        }
        int best = 0;
        int most = -1;
        for (int cell = 0; cell < CELLS; cell++) {
            int with = claims.holding(trail, cell);
            int lesser = Math.min(with, held - with);
            if (lesser > most) {
                most = lesser;
                best = cell;
            }
        }
        return best;
    }

    // ---- plans

    public int plan(long rows) {
        if (rows == 0 || (rows >>> world.rows.size) != 0) {
            return finding(BEYOND);
        }
        int party = world.rows.onlyOwner(rows);
        if (party < 0) {
            return finding(KIND);
        }
        int n = Long.bitCount(rows);
        if (n > PLAN_ROWS) {
            return finding(SIZE);
        }
        trail.load(world, party, world.day, world.camp.right[party]);
        int best = fewestStruck(rows, n);
        return best < 0 ? finding(NONE) : best;
    }

    public int judge(int party, int s) {
        if (!isParty(party) || !isSheet(s)) {
            return finding(BEYOND);
        }
        Sheet sheet = sheets[s];
        if (sheet.bits == 0) {
            return finding(MISSING);
        }
        if (sheet.size != world.rows.inBookOf(party)) {
            return finding(SIZE);
        }
        trail.load(world, party, world.day, world.camp.right[party]);
        return trail.firstAstray(sheet.numbers);
    }

    public int beside(int row) {
        if (!isRow(row)) {
            return finding(BEYOND);
        }
        trail.load(world, world.rows.owner[row], world.day, LAST_DAY);
        trail.spread();
        return Long.bitCount(trail.spot[row]);
    }

    // ---- days, the book

    public int tick(int n) {
        if (n < 1 || n > 360) {
            return finding(BEYOND);
        }
        if (world.day + n > LAST_DAY) {
            return finding(FULL);
        }
        for (int i = 0; i < n; i++) {
            world.closeDay();
        }
        return world.day;
    }

    public int book(int month, int what) {
        if (!within(month, BOOKS - 1) || !within(what, BOOK_NUMBERS - 1)) {
            return finding(BEYOND);
        }
        if (!world.isClosed(month)) {
            return finding(NONE);
        }
        return world.books[month * BOOK_NUMBERS + what];
    }

    public int check(int month, int s) {
        if (!within(month, BOOKS - 1) || !isSheet(s)) {
            return finding(BEYOND);
        }
        if (!world.isClosed(month)) {
            return finding(NONE);
        }
        Sheet sheet = sheets[s];
        if (sheet.bits == 0) {
            return finding(MISSING);
        }
        if (sheet.size != BOOK_NUMBERS) {
            return finding(SIZE);
        }
        for (int i = 0; i < BOOK_NUMBERS; i++) {
            if (sheet.numbers[i] != world.books[month * BOOK_NUMBERS + i]) {
                return i;
            }
        }
        return BOOK_NUMBERS;
    }

    public int known(int day) {
        if (!isDay(day)) {
            return finding(BEYOND);
        }
        return world.rows.knownOn(day, false);
    }

    // ---- sheets

    public int sheet(int s, int bits, int n) {
        if (!isSheet(s) || (bits != 0 && bits != 8 && bits != 16 && bits != 64)) {
            return finding(BEYOND);
        }
        if (n < 0) {
            return finding(SIZE);
        }
        if (n > SHEET_NUMBERS) {
            return finding(BEYOND);
        }
        return sheets[s].lay(bits, n);
    }

    public long write(int s, int i, long v) {
        if (!isSheet(s)) {
            return finding(BEYOND);
        }
        Sheet sheet = sheets[s];
        if (sheet.bits == 0) {
            return finding(MISSING);
        }
        if (i < 0 || i >= sheet.size) {
            return finding(BEYOND);
        }
        long was = sheet.numbers[i];
        sheet.numbers[i] = sheet.lowest(v);
        return was;
    }

    public int copy(int s, int from, int t, int to, int n) {
        if (!isSheet(s) || !isSheet(t)) {
            return finding(BEYOND);
        }
        Sheet giver = sheets[s];
        Sheet taker = sheets[t];
        if (giver.bits == 0 || taker.bits == 0) {
            return finding(MISSING);
        }
        if (giver.bits != taker.bits) {
            return finding(KIND);
        }
        if (!giver.has(from, n) || !taker.has(to, n)) {
            return finding(BEYOND);
        }
        System.arraycopy(giver.numbers, from, taker.numbers, to, n);
        return n;
    }

    // ---- images

    public int image() {
        if (kept == null) {
            kept = new World();
        }
        kept.takeFrom(world);
        keeps = true;
        return 1;
    }

    public int undo() {
        if (!keeps || kept == null) {
            return finding(NONE);
        }
        world.takeFrom(kept);
        return world.day;
    }

    public int tear() {
        boolean was = keeps;
        keeps = false;
        return was ? 1 : 0;
    }

    public int look(int what) {
        switch (what) {
            case 0: return world.land.size;
            case 1: return world.rows.size;
            case 2: return Long.bitCount(world.rows.struck);
            case 3: return world.laws.size;
            case 4: return world.claims.size;
            case 5: return world.day;
            case 6: return reader.length;
            case 7: return world.laws.inForce(world.year());
            default: return finding(BEYOND);
        }
    }

    public int status(int which) {
        if (which < -1 || which >= FINDINGS) {
            return finding(BEYOND);
        }
        if (which >= 0) {
            return tally[which];
        }
        int all = 0;
        for (int i = 0; i < FINDINGS; i++) {
            all += tally[i];
        }
        return all;
    }

    // ---- what the acts share

    private int finding(int code) {
        tally[BEYOND - code]++;
        return code;
    }

    private boolean isRow(int row) {
        return row >= 0 && row < world.rows.size;
    }

    private long spotOf(int row, int day) {
        trail.trace(world, world.rows.owner[row], day);
        return trail.spot[row];
    }

    private void traceAll() {
        for (int party = 0; party < PARTIES; party++) {
            trail.trace(world, party, world.day);
        }
    }

    /** Asks the spots of all books, which have been traced before. */
    private boolean isBorneOut(int cell) {
        Rows rows = world.rows;
        for (int row = 0; row < rows.size; row++) {
            boolean speaks = rows.counts(row, world.day) && !rows.isUnder(row, DRAWN);
            if (speaks && hasBit(trail.spot[row], cell)) {
                return true;
            }
        }
        return false;
    }

    /** Of the claims of a party: those that can be, and CLAIMS bits higher those that must be. */
    private long verdictsIn(int party) {
        trail.trace(world, party, world.day);
        Claims claims = world.claims;
        long set = 0;
        for (int i = 0; i < claims.size; i++) {
            int row = claims.row[i];
            int verdict = world.rows.owner[row] == party ? claims.verdict(i, trail.spot[row]) : 0;
            if (verdict == 1) {
                set |= 1L << i;
            } else if (verdict == 2) {
                set |= 1L << i + CLAIMS;
            }
        }
        return set;
    }

    /** Striking more is not always better (a march may lead out of an impasse), so each choice is tried. */
    private int fewestStruck(long rows, int n) {
        int best = -1;
        int fewest = n + 1;
        for (int choice = 0; choice < 1 << n; choice++) {
            int size = Integer.bitCount(choice);
            if (size < fewest && trail.endsSomewhere(chosenOf(rows, choice))) {
                fewest = size;
                best = choice;
            }
        }
        return best;
    }

    private static long chosenOf(long rows, int choice) {
        long chosen = 0;
        int bit = 0;
        for (int row = 0; row < ROWS; row++) {
            if (hasBit(rows, row)) {
                if (hasBit(choice, bit)) {
                    chosen |= 1L << row;
                }
                bit++;
            }
        }
        return chosen;
    }

    private static boolean within(int n, int greatest) {
        return n >= 0 && n <= greatest;
    }

    private static boolean isCell(int cell) {
        return within(cell, CELLS - 1);
    }

    private static boolean isMonth(int month) {
        return within(month, MONTHS - 1);
    }

    private static boolean isParty(int party) {
        return within(party, PARTIES - 1);
    }

    private static boolean isDay(int day) {
        return within(day, LAST_DAY);
    }

    private static boolean isKind(int kind) {
        return within(kind, KINDS - 1);
    }

    private static boolean isSheet(int s) {
        return within(s, SHEETS - 1);
    }

    private static boolean areNumbers(int kind, int numbers) {
        if (!within(numbers, 9999)) {
            return false;
        }
        int a = numbers / 100;
        int b = numbers % 100;
        switch (kind) {
            case PLAIN: return true;
            case MARCH: return a <= ANY_WAY && b <= 9;
            case BOIL: return b <= 9;
            case STAR: return a <= 5 && b <= 5;
            case TOLD: return a < WORDS && b < TONGUES;
            case DRAWN: return a < CELLS && b < MAPS;
            case COPIED: return a < CELLS && b >= 1 && b < MAPS;
            default: return false;
        }
    }

    private static boolean hasBit(long set, int bit) {
        return (set >>> bit & 1L) != 0;
    }

    private static int apart(int p, int q) {
        return Math.abs(p % WIDTH - q % WIDTH) + Math.abs(p / WIDTH - q / WIDTH);
    }

    /** Sets of cells as bits, and the steps that all cells of a set take at once. */
    private static final class Cells {
        static final long ALL = 0xFFFFFFFFFFFFL;
        static final long WEST = 0x010101010101L;
        static final long EAST = 0x808080808080L;

        static int neighbour(int cell, int way) {
            long there = shifted(1L << cell, way);
            return there == 0 ? NOWHERE : Long.numberOfTrailingZeros(there);
        }

        static long shifted(long set, int way) {
            switch (way) {
                case 0: return set >>> WIDTH;
                case 1: return (set & ~EAST) << 1;
                case 2: return set << WIDTH & ALL;
                default: return (set & ~WEST) >>> 1;
            }
        }

        static long marched(long set, int way, int steps) {
            long at = set;
            for (int i = 0; i < steps; i++) {
                at = way == ANY_WAY ? spreadOnce(at) : shifted(at, way);
            }
            return at;
        }

        static long spreadOnce(long set) {
            return set | shifted(set, 0) | shifted(set, 1) | shifted(set, 2) | shifted(set, 3);
        }

        static int wayBack(int way) {
            return way == ANY_WAY ? ANY_WAY : (way + 2) % 4;
        }
    }

    /** Heights, waters, kings, and the links between cells. */
    private static final class Land {
        final int[] height = new int[CELLS];
        final int[] wet = new int[CELLS];
        final int[] lord = new int[CELLS];
        final int[] start = new int[LINKS];
        final int[] end = new int[LINKS];
        final int[] months = new int[LINKS];
        int size;
        /** Where each cell runs in the month last turned to: scratch, so no image has it. */
        private final int[] down = new int[CELLS];

        void takeFrom(Land other) {
            System.arraycopy(other.height, 0, height, 0, CELLS);
            System.arraycopy(other.wet, 0, wet, 0, CELLS);
            System.arraycopy(other.lord, 0, lord, 0, CELLS);
            System.arraycopy(other.start, 0, start, 0, LINKS);
            System.arraycopy(other.end, 0, end, 0, LINKS);
            System.arraycopy(other.months, 0, months, 0, LINKS);
            size = other.size;
        }

        boolean leadsDownWith(int cell, int v) {
            for (int i = 0; i < size; i++) {
                if (start[i] == cell && v <= height[end[i]]) {
                    return false;
                }
                if (end[i] == cell && height[start[i]] <= v) {
                    return false;
                }
            }
            return true;
        }

        int addLink(int from, int to, int when) {
            start[size] = from;
            end[size] = to;
            months[size] = when;
            size++;
            return size - 1;
        }

        /** Later links are written first, so that the least one of a cell stands in the end. */
        void turnTo(int month) {
            for (int cell = 0; cell < CELLS; cell++) {
                down[cell] = NOWHERE;
            }
            for (int i = size - 1; i >= 0; i--) {
                if (hasBit(months[i], month)) {
                    down[start[i]] = end[i];
                }
            }
        }

        int endOf(int cell) {
            int at = cell;
            for (int i = 0; i < CELLS && down[at] != NOWHERE; i++) {
                at = down[at];
            }
            return at;
        }

        /** How many links lead from a cell to another one; -1 if its way does not. */
        int linksBetween(int cell, int to) {
            int at = cell;
            for (int i = 0; i < CELLS; i++) {
                if (at == to) {
                    return i;
                }
                if (down[at] == NOWHERE) {
                    return -1;
                }
                at = down[at];
            }
            return -1;
        }

        long leadingTo(int cell) {
            long set = 0;
            for (int c = 0; c < CELLS; c++) {
                if (linksBetween(c, cell) >= 0) {
                    set |= 1L << c;
                }
            }
            return set;
        }

        int headOf(int cell, int rule) {
            int best = cell;
            int most = -1;
            for (int c = 0; c < CELLS; c++) {
                int links = linksBetween(c, cell);
                int worth = rule == MOST ? wet[c] : rule == HIGHEST ? height[c] : links;
                if (links >= 0 && worth > most) {
                    most = worth;
                    best = c;
                }
            }
            return best;
        }

        long withLinks() {
            long set = 0;
            for (int i = 0; i < size; i++) {
                set |= 1L << start[i];
            }
            return set;
        }

        boolean isLake(int cell) {
            return wet[cell] >= 50;
        }

        long lakes() {
            long set = 0;
            for (int cell = 0; cell < CELLS; cell++) {
                if (isLake(cell)) {
                    set |= 1L << cell;
                }
            }
            return set;
        }
    }

    /** The parties, where they are and what they have. */
    private static final class Camp {
        final int[] place = new int[PARTIES];
        final int[] stock = new int[PARTIES];
        final int[] fever = new int[PARTIES];
        final int[] goal = new int[PARTIES];
        /** The last day on which each watch is right. */
        final int[] right = new int[PARTIES];

        Camp() {
            for (int p = 0; p < PARTIES; p++) {
                goal[p] = NOWHERE;
                right[p] = LAST_DAY;
            }
        }

        void takeFrom(Camp other) {
            System.arraycopy(other.place, 0, place, 0, PARTIES);
            System.arraycopy(other.stock, 0, stock, 0, PARTIES);
            System.arraycopy(other.fever, 0, fever, 0, PARTIES);
            System.arraycopy(other.goal, 0, goal, 0, PARTIES);
            System.arraycopy(other.right, 0, right, 0, PARTIES);
        }

        void stepOn(int p) {
            if (goal[p] == NOWHERE || stock[p] == 0) {
                return;
            }
            place[p] = nearestTo(goal[p], place[p]);
            if (place[p] == goal[p]) {
                goal[p] = NOWHERE;
            }
        }

        private static int nearestTo(int aim, int from) {
            int best = from;
            int least = CELLS;
            for (int way = 0; way < 4; way++) {
                int cell = Cells.neighbour(from, way);
                if (cell != NOWHERE && apart(cell, aim) < least) {
                    least = apart(cell, aim);
                    best = cell;
                }
            }
            return best;
        }

        void wear(int p, boolean feverish, int day) {
            if (stock[p] > 0) {
                stock[p]--;
            }
            if (!feverish) {
                return;
            }
            fever[p]++;
            if (fever[p] >= 20) {
                fever[p] = 0;
                if (isRightOn(p, day)) {
                    haltWatch(p, day);
                }
            }
        }

        boolean isRightOn(int p, int day) {
            return right[p] >= day;
        }

        /** A watch that stops on a day is not right on that day any more. */
        void haltWatch(int p, int day) {
            right[p] = day - 1;
        }
    }

    /** The rows of all books in the order in which they came, and what words mean. */
    private static final class Rows {
        final int[] kind = new int[ROWS];
        final int[] a = new int[ROWS];
        final int[] b = new int[ROWS];
        final int[] owner = new int[ROWS];
        final int[] day = new int[ROWS];
        /** The day from which each row is known. */
        final int[] from = new int[ROWS];
        /** The struck rows, as bits. */
        long struck;
        int size;
        final int[] meaning = new int[TONGUES * WORDS];

        void takeFrom(Rows other) {
            System.arraycopy(other.kind, 0, kind, 0, ROWS);
            System.arraycopy(other.a, 0, a, 0, ROWS);
            System.arraycopy(other.b, 0, b, 0, ROWS);
            System.arraycopy(other.owner, 0, owner, 0, ROWS);
            System.arraycopy(other.day, 0, day, 0, ROWS);
            System.arraycopy(other.from, 0, from, 0, ROWS);
            System.arraycopy(other.meaning, 0, meaning, 0, TONGUES * WORDS);
            struck = other.struck;
            size = other.size;
        }

        int addRow(int party, int sort, int numbers, int today, int knownFrom) {
            kind[size] = sort;
            a[size] = numbers / 100;
            b[size] = numbers % 100;
            owner[size] = party;
            day[size] = today;
            from[size] = knownFrom;
            size++;
            return size - 1;
        }

        boolean isUnder(int row, int sort) {
            return sort == PLAIN || kind[row] == sort || (sort == DRAWN && kind[row] == COPIED);
        }

        boolean isStruck(int row) {
            return hasBit(struck, row);
        }

        void turnStruck(int row) {
            struck ^= 1L << row;
        }

        /** Whether a row is known on a day and not struck. */
        boolean counts(int row, int asOf) {
            return from[row] <= asOf && !isStruck(row);
        }

        int inBookOf(int party) {
            int n = 0;
            for (int row = 0; row < size; row++) {
                if (owner[row] == party) {
                    n++;
                }
            }
            return n;
        }

        int knownOn(int asOf, boolean onlyStruck) {
            int n = 0;
            for (int row = 0; row < size; row++) {
                if (from[row] <= asOf && (isStruck(row) || !onlyStruck)) {
                    n++;
                }
            }
            return n;
        }

        /** The one party in whose book all rows of a set are; -1 if there are several. */
        int onlyOwner(long set) {
            int found = -1;
            for (int row = 0; row < size; row++) {
                if (hasBit(set, row)) {
                    if (found >= 0 && owner[row] != found) {
                        return -1;
                    }
                    found = owner[row];
                }
            }
            return found;
        }

        int leastHeight(int row) {
            return 40 * (99 - a[row]) - 20 - 10 * b[row];
        }

        int greatestHeight(int row) {
            return 40 * (99 - a[row]) + 20 + 10 * b[row];
        }

        long fitting(int row, Land land, int watchRight) {
            switch (kind[row]) {
                case BOIL: return highCells(land, leastHeight(row), greatestHeight(row));
                case STAR: return day[row] > watchRight ? Cells.ALL : starCells(a[row], b[row]);
                case TOLD: return toldCells(land, meaning[b[row] * WORDS + a[row]]);
                default: return Cells.ALL;
            }
        }

        private static long highCells(Land land, int least, int greatest) {
            long set = 0;
            for (int cell = 0; cell < CELLS; cell++) {
                if (land.height[cell] >= least && land.height[cell] <= greatest) {
                    set |= 1L << cell;
                }
            }
            return set;
        }

        private static long starCells(int y, int off) {
            long set = 0;
            for (int cell = 0; cell < CELLS; cell++) {
                if (Math.abs(cell / WIDTH - y) <= off) {
                    set |= 1L << cell;
                }
            }
            return set;
        }

        private static long toldCells(Land land, int sense) {
            switch (sense) {
                case RIVER: return land.withLinks();
                case LAKE: return land.lakes();
                case MOUNTAIN: return highCells(land, 2000, TOP);
                default: return Cells.ALL;
            }
        }

        long drawnOn(int map) {
            long set = 0;
            for (int row = 0; row < size; row++) {
                if (isUnder(row, DRAWN) && !isStruck(row) && b[row] == map) {
                    set |= 1L << a[row];
                }
            }
            return set;
        }

        int slipsFrom(int map, int earlier) {
            if (earlier == NOWHERE) {
                return Long.bitCount(drawnOn(map)) + 2;
            }
            return Long.bitCount(drawnOn(map) ^ drawnOn(earlier));
        }

        int modelOf(int map) {
            int best = NOWHERE;
            int fewest = slipsFrom(map, NOWHERE);
            for (int earlier = 0; earlier < map; earlier++) {
                int n = slipsFrom(map, earlier);
                if (n < fewest) {
                    fewest = n;
                    best = earlier;
                }
            }
            return best;
        }

        int firstMapWith(int cell) {
            for (int map = 0; map < MAPS; map++) {
                if (hasBit(drawnOn(map), cell)) {
                    return map;
                }
            }
            return -1;
        }
    }

    /** The texts; clause c of text t stands in slot t * CLAUSES + c. */
    private static final class Laws {
        final int[] firstYear = new int[TEXTS];
        final int[] lastYear = new int[TEXTS];
        final int[] clauses = new int[TEXTS];
        final int[] about = new int[TEXTS * CLAUSES];
        /** A price, or BARRED; of a source clause its rule. */
        final int[] number = new int[TEXTS * CLAUSES];
        final int[] firstMonth = new int[TEXTS * CLAUSES];
        final int[] lastMonth = new int[TEXTS * CLAUSES];
        int size;

        void takeFrom(Laws other) {
            System.arraycopy(other.firstYear, 0, firstYear, 0, TEXTS);
            System.arraycopy(other.lastYear, 0, lastYear, 0, TEXTS);
            System.arraycopy(other.clauses, 0, clauses, 0, TEXTS);
            System.arraycopy(other.about, 0, about, 0, TEXTS * CLAUSES);
            System.arraycopy(other.number, 0, number, 0, TEXTS * CLAUSES);
            System.arraycopy(other.firstMonth, 0, firstMonth, 0, TEXTS * CLAUSES);
            System.arraycopy(other.lastMonth, 0, lastMonth, 0, TEXTS * CLAUSES);
            size = other.size;
        }

        /** The clauses of the new text have been put into its slots by the reader before. */
        int enact(int from, int to) {
            firstYear[size] = from;
            lastYear[size] = to;
            size++;
            return size - 1;
        }

        boolean isInForce(int t, int year) {
            return firstYear[t] <= year && year <= lastYear[t];
        }

        int inForce(int year) {
            int n = 0;
            for (int t = 0; t < size; t++) {
                if (isInForce(t, year)) {
                    n++;
                }
            }
            return n;
        }

        /** The slot of the clause that counts; -1 if there is none. */
        int slotAbout(int whom, int year, int month) {
            for (int t = size - 1; t >= 0; t--) {
                if (isInForce(t, year)) {
                    int slot = slotIn(t, whom, month);
                    if (slot >= 0) {
                        return slot;
                    }
                }
            }
            return -1;
        }

        private int slotIn(int t, int whom, int month) {
            for (int c = 0; c < clauses[t]; c++) {
                int slot = t * CLAUSES + c;
                if (about[slot] == whom && firstMonth[slot] <= month && month <= lastMonth[slot]) {
                    return slot;
                }
            }
            return -1;
        }
    }

    /** What parties say of where they were at a row. */
    private static final class Claims {
        final int[] row = new int[CLAIMS];
        final int[] cell = new int[CLAIMS];
        int size;

        void takeFrom(Claims other) {
            System.arraycopy(other.row, 0, row, 0, CLAIMS);
            System.arraycopy(other.cell, 0, cell, 0, CLAIMS);
            size = other.size;
        }

        int addClaim(int atRow, int inCell) {
            row[size] = atRow;
            cell[size] = inCell;
            size++;
            return size - 1;
        }

        int verdict(int i, long spot) {
            if (!hasBit(spot, cell[i])) {
                return 0;
            }
            return spot == 1L << cell[i] ? 2 : 1;
        }

        /** How many claims that can or must be have a cell in where their row was (NOWHERE: all such). */
        int holding(Trail trail, int asked) {
            int n = 0;
            for (int i = 0; i < size; i++) {
                long spot = trail.spot[row[i]];
                if (verdict(i, spot) > 0 && (asked == NOWHERE || hasBit(spot, asked))) {
                    n++;
                }
            }
            return n;
        }
    }

    /** All that an image keeps. */
    private static final class World {
        final Land land = new Land();
        final Camp camp = new Camp();
        final Rows rows = new Rows();
        final Laws laws = new Laws();
        final Claims claims = new Claims();
        final int[] books = new int[BOOKS * BOOK_NUMBERS];
        int day;

        void takeFrom(World other) {
            land.takeFrom(other.land);
            camp.takeFrom(other.camp);
            rows.takeFrom(other.rows);
            laws.takeFrom(other.laws);
            claims.takeFrom(other.claims);
            System.arraycopy(other.books, 0, books, 0, BOOKS * BOOK_NUMBERS);
            day = other.day;
        }

        int year() {
            return day / 360;
        }

        int month() {
            return day % 360 / 30;
        }

        int watchOf(int row) {
            return camp.right[rows.owner[row]];
        }

        int clauseAbout(int whom) {
            return laws.slotAbout(whom, year(), month());
        }

        int sourceRule() {
            int slot = clauseAbout(THE_SOURCE);
            return slot < 0 ? LONGEST : laws.number[slot];
        }

        int tollOf(int king) {
            int slot = clauseAbout(king);
            return slot < 0 ? 1 : laws.number[slot];
        }

        boolean isClosed(int bookMonth) {
            return bookMonth < day / 30;
        }

        void closeDay() {
            for (int p = 0; p < PARTIES; p++) {
                camp.stepOn(p);
            }
            boolean season = month() >= 3 && month() <= 5;
            for (int p = 0; p < PARTIES; p++) {
                camp.wear(p, season && land.isLake(camp.place[p]), day);
            }
            if (day % 30 == 29) {
                closeBook(day / 30 * BOOK_NUMBERS);
            }
            day++;
        }

        private void closeBook(int at) {
            books[at] = rows.knownOn(day, false);
            books[at + 1] = rows.knownOn(day, true);
            books[at + 2] = claims.size;
            books[at + 3] = 0;
            books[at + 4] = 0;
            books[at + 5] = 0;
            for (int p = 0; p < PARTIES; p++) {
                books[at + 3] += camp.stock[p];
                books[at + 4] += camp.fever[p];
                books[at + 5] += camp.goal[p] == NOWHERE ? 0 : 1;
            }
        }
    }

    /** The tape, and the reading of a text from it. */
    private static final class Reader {
        static final int ROOM = 100;
        private final int[] tape = new int[ROOM];
        int length;
        private int at;

        int append(int bytes, int n) {
            for (int i = n - 1; i >= 0; i--) {
                tape[length] = bytes >>> 8 * i & 255;
                length++;
            }
            return length;
        }

        /** Fills the slots of the text that comes next; the fault, or -1 if there is none. */
        int readInto(Laws laws) {
            at = 0;
            for (int c = 0; c < CLAUSES; c++) {
                if (!readClause(laws, laws.size * CLAUSES + c)) {
                    return at;
                }
                if (at == length) {
                    laws.clauses[laws.size] = c + 1;
                    return -1;
                }
                if (tape[at] != ';' || c == CLAUSES - 1) {
                    return at;
                }
                at++;
            }
            return at;
        }

        /** Like all that read here: if it fails, the place reached is the fault. */
        private boolean readClause(Laws laws, int slot) {
            boolean good = false;
            switch (sign()) {
                case 's': good = readSource(laws, slot); break;
                case 'p': good = readPass(laws, slot); break;
                case 'b': good = readBar(laws, slot); break;
                default: break;
            }
            return good && readMonths(laws, slot);
        }

        private boolean readSource(Laws laws, int slot) {
            if (!readWord("source ")) {
                return false;
            }
            laws.about[slot] = THE_SOURCE;
            switch (sign()) {
                case 'l': laws.number[slot] = LONGEST; return readWord("longest");
                case 'm': laws.number[slot] = MOST; return readWord("most");
                case 'h': laws.number[slot] = HIGHEST; return readWord("highest");
                default: return false;
            }
        }

        private boolean readPass(Laws laws, int slot) {
            if (!readWord("pass ") || !readKing(laws, slot) || !readWord(" ")) {
                return false;
            }
            laws.number[slot] = readNumber();
            return laws.number[slot] >= 0;
        }

        private boolean readBar(Laws laws, int slot) {
            laws.number[slot] = BARRED;
            return readWord("bar ") && readKing(laws, slot);
        }

        private boolean readKing(Laws laws, int slot) {
            int king = sign() - '0';
            if (!within(king, KINGS - 1)) {
                return false;
            }
            laws.about[slot] = king;
            at++;
            return true;
        }

        private boolean readMonths(Laws laws, int slot) {
            laws.firstMonth[slot] = 0;
            laws.lastMonth[slot] = MONTHS - 1;
            if (sign() != ' ') {
                return true;
            }
            if (!readWord(" in ")) {
                return false;
            }
            int first = readNumber();
            if (!isMonth(first) || !readWord("-")) {
                return false;
            }
            int last = readNumber();
            laws.firstMonth[slot] = first;
            laws.lastMonth[slot] = last;
            return isMonth(last) && last >= first;
        }

        /** The sign at the place reached; -1 behind the last one. */
        private int sign() {
            return at < length ? tape[at] : -1;
        }

        private boolean readWord(String word) {
            for (int i = 0; i < word.length(); i++) {
                if (sign() != word.charAt(i)) {
                    return false;
                }
                at++;
            }
            return true;
        }

        /** One to three digits; -1 if there is none. */
        private int readNumber() {
            int n = -1;
            for (int i = 0; i < 3; i++) {
                int digit = sign() - '0';
                if (!within(digit, 9)) {
                    return n;
                }
                n = Math.max(n, 0) * 10 + digit;
                at++;
            }
            return n;
        }
    }

    /** The book of one party with what each row lets stand, and from it where the party can have been. */
    private static final class Trail {
        /** Where its party can have been, by the row's number. */
        final long[] spot = new long[ROWS];
        private final int[] row = new int[ROWS];
        private final long[] fit = new long[ROWS];
        private final int[] way = new int[ROWS];
        private final int[] steps = new int[ROWS];
        private int size;

        void trace(World world, int party, int asOf) {
            load(world, party, asOf, world.camp.right[party]);
            spread();
        }

        /** A row that does not count is taken as one without steps that any cell fits. */
        void load(World world, int party, int asOf, int watchRight) {
            Rows rows = world.rows;
            size = 0;
            for (int r = 0; r < rows.size; r++) {
                if (rows.owner[r] == party) {
                    boolean counts = rows.counts(r, asOf);
                    boolean marches = counts && rows.kind[r] == MARCH;
                    row[size] = r;
                    fit[size] = counts ? rows.fitting(r, world.land, watchRight) : Cells.ALL;
                    way[size] = marches ? rows.a[r] : 0;
                    steps[size] = marches ? rows.b[r] : 0;
                    size++;
                }
            }
        }

        void spread() {
            long ahead = Cells.ALL;
            for (int i = 0; i < size; i++) {
                ahead = behind(i, ahead);
                spot[row[i]] = ahead;
            }
            long open = Cells.ALL;
            for (int i = size - 1; i >= 0; i--) {
                spot[row[i]] &= open;
                open = Cells.marched(open & fit[i], Cells.wayBack(way[i]), steps[i]);
            }
        }

        private long behind(int i, long ahead) {
            return Cells.marched(ahead, way[i], steps[i]) & fit[i];
        }

        /** Whether a cell is left behind the last row if a set of rows were struck. */
        boolean endsSomewhere(long skipped) {
            long at = Cells.ALL;
            for (int i = 0; i < size; i++) {
                if (!hasBit(skipped, row[i])) {
                    at = behind(i, at);
                }
            }
            return at != 0;
        }

        int firstAstray(long[] cells) {
            long at = Cells.ALL;
            for (int i = 0; i < size; i++) {
                long cell = cells[i];
                if (cell < 0 || cell >= CELLS || !hasBit(behind(i, at), (int) cell)) {
                    return i;
                }
                at = 1L << cell;
            }
            return size;
        }
    }

    /** What ways from a cell cost. */
    private static final class Tolls {
        /** The least cost by cell; -1: there is no way. */
        final int[] cost = new int[CELLS];
        /** The cells whose least cost is sure, as bits. */
        private long settled;
        private final int[] toll = new int[KINGS];

        void spread(World world, int from) {
            for (int king = 0; king < KINGS; king++) {
                toll[king] = world.tollOf(king);
            }
            for (int cell = 0; cell < CELLS; cell++) {
                cost[cell] = -1;
            }
            settled = 0;
            cost[from] = 0;
            for (int i = 0; i < CELLS; i++) {
                int cell = cheapestOpen();
                if (cell < 0) {
                    return;
                }
                settled |= 1L << cell;
                leave(cell, world.land.lord);
            }
        }

        private int cheapestOpen() {
            int best = -1;
            for (int cell = 0; cell < CELLS; cell++) {
                if (!hasBit(settled, cell) && cost[cell] >= 0 && (best < 0 || cost[cell] < cost[best])) {
                    best = cell;
                }
            }
            return best;
        }

        private void leave(int cell, int[] lord) {
            for (int way = 0; way < 4; way++) {
                int to = Cells.neighbour(cell, way);
                if (to != NOWHERE && toll[lord[to]] != BARRED) {
                    int sum = cost[cell] + (lord[to] == lord[cell] ? 0 : toll[lord[to]]);
                    if (cost[to] < 0 || sum < cost[to]) {
                        cost[to] = sum;
                    }
                }
            }
        }

        long reachedFor(int most) {
            long set = 0;
            for (int cell = 0; cell < CELLS; cell++) {
                if (cost[cell] >= 0 && cost[cell] <= most) {
                    set |= 1L << cell;
                }
            }
            return set;
        }
    }

    /** A row of numbers; bits 0: it is missing. */
    private static final class Sheet {
        final long[] numbers = new long[SHEET_NUMBERS];
        int bits;
        int size;

        int lay(int width, int n) {
            bits = width;
            size = width == 0 ? 0 : n;
            for (int i = 0; i < SHEET_NUMBERS; i++) {
                numbers[i] = 0;
            }
            return size;
        }

        long lowest(long v) {
            if (bits == 8) {
                return (byte) v;
            }
            return bits == 16 ? (short) v : v;
        }

        boolean has(int from, int n) {
            return from >= 0 && n >= 0 && n <= size && from <= size - n;
        }
    }
}
