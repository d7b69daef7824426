/** The boundary cases of promises 48 to 50 and of section 6, sentence by sentence. */
public final class SheetsEdgesTest {
    public static void main(String[] args) {
        sheetBeyond();
        sheetSize();
        sheetTooMany();
        sheetOrder();
        sheetEmpty();
        sheetFull();
        sheetMissing();
        sheetAnew();
        writeBeyond();
        writeMissing();
        writeNoSuchNumber();
        writeLowestBits();
        writeIsNoFinding();
        copyBeyond();
        copyMissing();
        copyKind();
        copyNotSoMany();
        copyBelowNone();
        copyFar();
        copyOrder();
        copyNothing();
        copyAll();
        copyAsTheyAllWere();
        Due.end();
    }

    // Promise 48: "BEYOND: no such sheet, other bits."
    // Terms 6: "SHEETS 0 to 3 are rows of at most 40 numbers of 8, 16 or 64 bits"
    private static void sheetBeyond() {
        Due.promise(48);
        Edge.beyondEnds("sheet(#, 8, 1)", 0, 3);
        Edge.beyondEnds("sheet(#, 0, 0)", 0, 3);
        for (int bits : new int[] {-1, 1, 7, 9, 15, 17, 32, 63, 65, -8, -64, Edge.LEAST, Edge.GREATEST}) {
            Edge.refused(Due.BEYOND, "sheet(0, " + bits + ", 1)");
        }
        for (int bits : new int[] {8, 16, 64}) {
            Edge.taken(1, "sheet(0, " + bits + ", 1)");
            Edge.taken(2, "sheet(3, " + bits + ", 2)");
        }
    }

    // Promise 48: "SIZE: n is below 0."
    private static void sheetSize() {
        Due.promise(48);
        for (int bits : new int[] {8, 16, 64}) {
            Edge.refused(Due.SIZE, "sheet(0, " + bits + ", -1)");
            Edge.refused(Due.SIZE, "sheet(3, " + bits + ", " + Edge.LEAST + ")");
            Edge.taken(0, "sheet(0, " + bits + ", 0)");
        }
        // of bits 0, too
        Edge.refused(Due.SIZE, "sheet(0, 0, -1)");
    }

    // Promise 48: "BEYOND: n is above 40."
    private static void sheetTooMany() {
        Due.promise(48);
        for (int bits : new int[] {8, 16, 64}) {
            Edge.refused(Due.BEYOND, "sheet(0, " + bits + ", 41)");
            Edge.refused(Due.BEYOND, "sheet(0, " + bits + ", " + Edge.GREATEST + ")");
            Edge.taken(40, "sheet(0, " + bits + ", 40)");
        }
        Edge.refused(Due.BEYOND, "sheet(0, 0, 41)");
    }

    // Terms 0: "Each act tells its findings in the order in which they are asked"
    private static void sheetOrder() {
        Due.promise(48);
        Edge.refused(Due.BEYOND, "sheet(4, 8, -1)");
        Edge.refused(Due.BEYOND, "sheet(0, 7, -1)");
        Edge.refused(Due.BEYOND, "sheet(-1, 7, -1)");
    }

    // Promise 48: "A sheet has n numbers, all 0, of 8, 16 or 64 bits;"
    private static void sheetEmpty() {
        Due.promise(48);
        // a sheet of no numbers is not missing
        RiverHead x = Edge.after("sheet(0, 8, 0)");
        Edge.due(x, "write(0, 0, 1)", Due.BEYOND);
        Edge.due(x, "copy(0, 0, 0, 0, 0)", 0);
        Edge.due(x, "copy(0, 0, 0, 0, 1)", Due.BEYOND);
        Edge.due(x, "judge(0, 0)", 0);
    }

    // Terms 6: "SHEETS 0 to 3 are rows of at most 40 numbers of 8, 16 or 64 bits, or MISSING (at first)."
    private static void sheetFull() {
        Due.promise(48);
        RiverHead x = new RiverHead();
        for (int s = 0; s < 4; s++) {
            Edge.due(x, "sheet(" + s + ", 64, 40)", 40);
            for (int i = 0; i < 40; i++) {
                Edge.due(x, "write(" + s + ", " + i + ", " + (100 * s + i) + ")", 0);
            }
        }
        for (int s = 0; s < 4; s++) {
            for (int i = 0; i < 40; i += 13) {
                Edge.due(x, "write(" + s + ", " + i + ", 0)", 100 * s + i);
            }
            Edge.due(x, "write(" + s + ", 40, 0)", Due.BEYOND);
        }
    }

    // Promise 48: "bits 0: it is MISSING: n (0 if it is MISSING)."
    private static void sheetMissing() {
        Due.promise(48);
        for (int n : new int[] {0, 1, 40}) {
            RiverHead x = Edge.after("sheet(1, 16, 3)", "sheet(2, 16, 3)");
            Edge.due(x, "sheet(1, 0, " + n + ")", 0);
            Edge.due(x, "write(1, 0, 0)", Due.MISSING);
            Edge.due(x, "write(2, 0, 0)", 0);
            Edge.due(x, "sheet(1, 0, " + n + ")", 0);
            Edge.due(x, "status(-1)", 1);
        }
    }

    // Promise 48: "A sheet has n numbers, all 0"
    private static void sheetAnew() {
        Due.promise(48);
        RiverHead x = Edge.after("sheet(0, 8, 3)", "write(0, 0, 1)", "write(0, 2, 3)", "sheet(0, 8, 1)", "sheet(0, 8, 3)");
        for (int i = 0; i < 3; i++) {
            Edge.due(x, "write(0, " + i + ", 7)", 0);
        }
        Edge.on(x, "sheet(0, 0, 0)", "sheet(0, 64, 3)");
        for (int i = 0; i < 3; i++) {
            Edge.due(x, "write(0, " + i + ", 7)", 0);
        }
        Edge.due(x, "sheet(0, 64, 2)", 2);
        Edge.due(x, "write(0, 2, 0)", Due.BEYOND);
    }

    // Promise 49: "BEYOND: no such sheet."
    private static void writeBeyond() {
        Due.promise(49);
        Edge.beyondEnds("write(#, 0, 1)", 0, 3);
        // ahead of a number that is none
        Edge.beyondEnds("write(#, 99, 1)", 0, 3);
    }

    // Promise 49: "MISSING."
    private static void writeMissing() {
        Due.promise(49);
        Edge.allRefused(Due.MISSING, "write(3, 0, 1)");
        // ahead of BEYOND: no such number
        Edge.allRefused(Due.MISSING, "write(3, -1, 1)", "write(3, 40, 1)");
        Edge.refused(Due.MISSING, "write(0, 0, 1)", "sheet(0, 0, 6)");
    }

    // Promise 49: "BEYOND: no such number."
    private static void writeNoSuchNumber() {
        Due.promise(49);
        Edge.beyondEnds("write(0, #, 1)", 0, 5);
        Edge.beyondEnds("write(1, #, 1)", 0, 2);
        Edge.beyondEnds("write(2, #, 1)", 0, 1);
        Edge.taken(0, "write(0, 0, 1)");
        Edge.taken(0, "write(0, 5, 1)");
        Edge.taken(99, "write(2, 0, 1)");
        // within the forty, but not within the sheet; and of an empty one
        Edge.refused(Due.BEYOND, "write(0, 39, 1)");
        Edge.refused(Due.BEYOND, "write(0, 0, 1)", "sheet(0, 8, 0)");
        Edge.taken(0, "write(0, 39, 1)", "sheet(0, 8, 40)");
        Edge.refused(Due.BEYOND, "write(0, 40, 1)", "sheet(0, 8, 40)");
    }

    // Promise 49: "Number i of a sheet becomes v (its lowest bits): what it was."
    private static void writeLowestBits() {
        Due.promise(49);
        long[][] due = {
            {127, 127, 127, 127}, {128, -128, 128, 128}, {255, -1, 255, 255}, {256, 0, 256, 256}, {-128, -128, -128, -128},
            {-129, 127, -129, -129}, {32767, -1, 32767, 32767}, {32768, 0, -32768, 32768}, {65535, -1, -1, 65535},
            {65536, 0, 0, 65536}, {-32769, -1, 32767, -32769}, {1L << 31, 0, 0, 1L << 31}, {1L << 32, 0, 0, 1L << 32},
            {(1L << 32) + 5, 5, 5, (1L << 32) + 5}, {Long.MAX_VALUE, -1, -1, Long.MAX_VALUE}, {Long.MIN_VALUE, 0, 0, Long.MIN_VALUE}};
        RiverHead x = Edge.after("sheet(0, 8, 1)", "sheet(1, 16, 1)", "sheet(2, 64, 1)");
        for (long[] one : due) {
            for (int s = 0; s < 3; s++) {
                x.write(s, 0, one[0]);
                Due.due("sheet " + s + " behind " + one[0], x.write(s, 0, 0), one[s + 1]);
            }
        }
    }

    // Terms 0: "FINDINGS are answers below -1000000000"
    // Promise 49: "what it was."
    private static void writeIsNoFinding() {
        Due.promise(49);
        // a number that looks like a finding is none, and is not counted
        RiverHead x = Edge.after("sheet(0, 64, 1)", "write(0, 0, -1000000001)");
        Edge.due(x, "write(0, 0, -1000000007)", Due.BEYOND);
        Edge.due(x, "write(0, 0, 0)", Due.SIZE);
        Edge.due(x, "status(-1)", 0);
    }

    // Promise 50: "BEYOND: no such sheet (either)."
    private static void copyBeyond() {
        Due.promise(50);
        Edge.beyondEnds("copy(#, 0, 0, 0, 1)", 0, 3);
        Edge.beyondEnds("copy(0, 0, #, 0, 1)", 0, 3);
        Edge.refused(Due.BEYOND, "copy(4, 0, 4, 0, 0)");
        // ahead of MISSING
        Edge.refused(Due.BEYOND, "copy(3, 0, 4, 0, 0)");
        Edge.refused(Due.BEYOND, "copy(-1, 0, 3, 0, 0)");
    }

    // Promise 50: "MISSING: one is."
    private static void copyMissing() {
        Due.promise(50);
        Edge.allRefused(Due.MISSING, "copy(0, 0, 3, 0, 1)", "copy(3, 0, 0, 0, 1)", "copy(3, 0, 3, 0, 0)", "copy(0, 0, 3, 0, 0)");
        // ahead of KIND and of BEYOND
        Edge.allRefused(Due.MISSING, "copy(3, -1, 1, 0, 1)", "copy(1, 0, 3, 99, 1)");
    }

    // Promise 50: "KIND: they are not of as many bits."
    private static void copyKind() {
        Due.promise(50);
        Edge.allRefused(Due.KIND, "copy(0, 0, 1, 0, 1)", "copy(1, 0, 0, 0, 1)", "copy(1, 0, 2, 0, 1)", "copy(2, 0, 0, 0, 0)");
        // ahead of BEYOND
        Edge.allRefused(Due.KIND, "copy(0, -1, 1, 0, 1)", "copy(0, 0, 1, 0, 99)", "copy(0, 0, 2, -1, -1)");
        Edge.refused(Due.KIND, "copy(0, 0, 3, 0, 0)", "sheet(3, 16, 0)");
        Edge.taken(0, "copy(0, 0, 3, 0, 0)", "sheet(3, 8, 0)");
    }

    // Promise 50: "BEYOND: one has not so many"
    private static void copyNotSoMany() {
        Due.promise(50);
        String[] four = {"sheet(3, 8, 4)"};
        // sheet 0 has six numbers, sheet 3 four
        Edge.taken(4, "copy(0, 2, 3, 0, 4)", four);
        Edge.refused(Due.BEYOND, "copy(0, 3, 3, 0, 4)", four);
        Edge.refused(Due.BEYOND, "copy(0, 0, 3, 0, 5)", four);
        Edge.refused(Due.BEYOND, "copy(0, 0, 3, 1, 4)", four);
        Edge.taken(3, "copy(0, 0, 3, 1, 3)", four);
        Edge.taken(4, "copy(3, 0, 0, 2, 4)", four);
        Edge.refused(Due.BEYOND, "copy(3, 0, 0, 3, 4)", four);
        Edge.refused(Due.BEYOND, "copy(3, 0, 0, 0, 5)", four);
        Edge.refused(Due.BEYOND, "copy(3, 1, 0, 0, 4)", four);
        Edge.refused(Due.BEYOND, "copy(0, 0, 0, 0, 7)");
        Edge.refused(Due.BEYOND, "copy(0, 0, 0, 1, 6)");
        Edge.refused(Due.BEYOND, "copy(0, 6, 0, 0, 1)");
    }

    // Promise 50: "or from, to or n is below 0."
    private static void copyBelowNone() {
        Due.promise(50);
        Edge.allRefused(Due.BEYOND, "copy(0, -1, 0, 0, 1)", "copy(0, 0, 0, -1, 1)", "copy(0, 0, 0, 0, -1)", "copy(0, -1, 0, 0, 0)",
            "copy(0, 0, 0, -1, 0)", "copy(0, 1, 0, 1, -1)", "copy(0, " + Edge.LEAST + ", 0, 0, 1)", "copy(0, 0, 0, " + Edge.LEAST + ", 1)",
            "copy(0, 0, 0, 0, " + Edge.LEAST + ")");
    }

    // Promise 50: "BEYOND: one has not so many, or from, to or n is below 0."
    private static void copyFar() {
        Due.promise(50);
        int most = Edge.GREATEST;
        // sums that would wrap around
        Edge.allRefused(Due.BEYOND, "copy(0, " + most + ", 0, 0, 1)", "copy(0, 0, 0, " + most + ", 1)", "copy(0, 0, 0, 0, " + most + ")",
            "copy(0, 1, 0, 1, " + most + ")", "copy(0, " + most + ", 0, " + most + ", " + most + ")", "copy(0, " + most + ", 0, 0, 0)",
            "copy(0, 6, 0, 6, " + Edge.LEAST + ")");
    }

    // Terms 0: "Each act tells its findings in the order in which they are asked"
    private static void copyOrder() {
        Due.promise(50);
        Edge.refused(Due.BEYOND, "copy(4, 0, 3, -1, -1)");
        Edge.refused(Due.MISSING, "copy(3, 0, 1, -1, -1)");
        Edge.refused(Due.KIND, "copy(1, 0, 2, -1, -1)");
        Edge.refused(Due.BEYOND, "copy(1, 0, 1, -1, -1)");
    }

    // Promise 50: "n numbers of a sheet from one on come to another one from one on (as they all were): n."
    private static void copyNothing() {
        Due.promise(50);
        // none, at the beginning and behind the last
        Edge.taken(0, "copy(0, 0, 0, 0, 0)");
        Edge.taken(0, "copy(0, 6, 0, 6, 0)");
        Edge.taken(0, "copy(0, 6, 0, 0, 0)");
        Edge.refused(Due.BEYOND, "copy(0, 7, 0, 0, 0)");
        Edge.refused(Due.BEYOND, "copy(0, 0, 0, 7, 0)");
        RiverHead x = Edge.rich("copy(0, 2, 0, 0, 0)");
        Edge.due(x, "write(0, 0, 0)", 0);
        Edge.due(x, "write(0, 2, 0)", 7);
    }

    /** A sheet of so many numbers: 1, 2, 3 and so on. */
    private static RiverHead counted(int n) {
        RiverHead x = Edge.after("sheet(0, 16, " + n + ")", "sheet(1, 16, " + n + ")");
        for (int i = 0; i < n; i++) {
            x.write(0, i, i + 1);
        }
        return x;
    }

    private static void holds(RiverHead x, int s, int... due) {
        for (int i = 0; i < due.length; i++) {
            Due.due("number " + i + " of sheet " + s, x.write(s, i, due[i]), due[i]);
        }
    }

    // Promise 50: "n numbers of a sheet from one on come to another one from one on"
    private static void copyAll() {
        Due.promise(50);
        RiverHead x = counted(40);
        Edge.due(x, "copy(0, 0, 1, 0, 40)", 40);
        for (int i = 0; i < 40; i++) {
            Edge.due(x, "write(1, " + i + ", 0)", i + 1);
        }
        Edge.due(x, "copy(0, 0, 1, 0, 41)", Due.BEYOND);
        // the first to the last, the last to the first
        RiverHead y = counted(4);
        Edge.due(y, "copy(0, 0, 1, 3, 1)", 1);
        Edge.due(y, "copy(0, 3, 1, 0, 1)", 1);
        holds(y, 1, 4, 0, 0, 1);
        holds(y, 0, 1, 2, 3, 4);
    }

    // Promise 50: "(as they all were)"
    private static void copyAsTheyAllWere() {
        Due.promise(50);
        RiverHead up = counted(5);
        Edge.due(up, "copy(0, 0, 0, 1, 4)", 4);
        holds(up, 0, 1, 1, 2, 3, 4);
        RiverHead down = counted(5);
        Edge.due(down, "copy(0, 1, 0, 0, 4)", 4);
        holds(down, 0, 2, 3, 4, 5, 5);
        RiverHead same = counted(5);
        Edge.due(same, "copy(0, 0, 0, 0, 5)", 5);
        holds(same, 0, 1, 2, 3, 4, 5);
        RiverHead two = counted(5);
        Edge.due(two, "copy(0, 0, 0, 2, 3)", 3);
        holds(two, 0, 1, 2, 1, 2, 3);
    }
}
