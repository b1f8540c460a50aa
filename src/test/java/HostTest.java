/** Promises 40 to 44: sheets. */
final class HostTest {
    private static final Check check = new Check("HostTest");
    private static final int MIN = Integer.MIN_VALUE, MAX = Integer.MAX_VALUE;

    public static void main(String[] args) {
        sheet();
        cell();
        read();
        copy();
        copyRefused();
        junctions();
        junctionsRefused();
        check.end();
    }

    private static void due(String call, long got, long want) {
        check.due(call, got, want);
    }

    private static void write(RunSayer x, int s, int sort, int... numbers) {
        x.sheet(s, sort, numbers.length);
        for (int i = 0; i < numbers.length; i++) {
            x.cell(s, i, numbers[i]);
        }
    }

    private static void stands(RunSayer x, int s, int... numbers) {
        for (int i = 0; i < numbers.length; i++) {
            due("read(" + s + ", " + i + ")", x.read(s, i), numbers[i]);
        }
    }

    private static void sheet() {
        check.promise(40, "sheet");
        RunSayer x = new RunSayer();
        int[][] bad = {{4, 0, 1}, {-1, 0, 1}, {0, 3, 1}, {0, -2, 1}, {0, 0, 101}, {0, 2, MAX}, {4, 0, -1}, {0, 3, -1}};
        for (int[] b : bad) {
            due("a bad sheet", x.sheet(b[0], b[1], b[2]), RunSayer.BAD);
        }
        due("below 0", x.sheet(0, 0, -1), -14);
        due("far below 0", x.sheet(3, 2, MIN), -14);
        due("nothing came of these", x.cell(0, 0, 1), -11);
        due("none at all", x.sheet(0, 0, 0), 1);
        due("it is there", x.cell(0, 0, 1), -12);
        due("100", x.sheet(0, 2, 100), 1);
        due("the last cell", x.cell(0, 99, 5), 1);
        due("a refusal changes nothing", x.sheet(0, 2, -1), -14);
        due("the last cell", x.read(0, 99), 5);
        due("anew: all 0", x.sheet(0, 2, 100), 1);
        due("the last cell", x.read(0, 99), 0);
        due("missing, whatever n", x.sheet(0, -1, -7), 1);
        due("missing", x.cell(0, 0, 1), -11);
        due("missing, whatever n", x.sheet(0, -1, 1000), 1);
        for (int s = 0; s < 4; s++) {
            due("sheet " + s, x.sheet(s, s % 3, s + 1), 1);
            due("its last cell", x.cell(s, s, 1), 1);
            due("behind it", x.cell(s, s + 1, 1), -12);
        }
        due("the first one stands still", x.read(0, 0), 1);
    }

    private static void cell() {
        check.promise(41, "cell");
        RunSayer x = new RunSayer();
        due("sheet 4", x.cell(4, 0, 1), RunSayer.BAD);
        due("sheet -1", x.cell(-1, 0, 1), RunSayer.BAD);
        due("missing", x.cell(1, 0, 1), -11);
        due("missing, a place outside", x.cell(1, -1, 1), -11);
        for (int sort = 0; sort < 3; sort++) {
            x.sheet(sort, sort, 9);
            due("place 9", x.cell(sort, 9, 1), -12);
            due("place -1", x.cell(sort, -1, 1), -12);
        }
        int[] values = {127, 128, 255, 256, -129, 32767, 32768, 65535, 65536, MIN, MAX, 0x12345678};
        for (int v : values) {
            due("cell of bytes", x.cell(0, 8, v), 1);
            due("a byte of " + v, x.read(0, 8), (byte) v);
            due("cell of shorts", x.cell(1, 8, v), 1);
            due("a short of " + v, x.read(1, 8), (short) v);
            due("cell of ints", x.cell(2, 8, v), 1);
            due("an int", x.read(2, 8), v);
        }
        due("200 as a byte", x.cell(0, 0, 200) + x.read(0, 0), 1 - 56);
    }

    private static void read() {
        check.promise(42, "read");
        RunSayer x = new RunSayer();
        due("sheet 4", x.read(4, 0), RunSayer.BAD);
        due("sheet -1", x.read(-1, 0), RunSayer.BAD);
        due("missing", x.read(0, 0), 0);
        write(x, 0, 2, 7, 8, 9);
        stands(x, 0, 7, 8, 9, 0);
        due("place -1", x.read(0, -1), 0);
        due("place MIN", x.read(0, MIN), 0);
        due("place MAX", x.read(0, MAX), 0);
        due("place 100", x.read(0, 100), 0);
        x.sheet(0, 2, 2);
        stands(x, 0, 0, 0, 0);
        write(x, 0, 2, 7, 8, 9);
        x.sheet(0, -1, 0);
        stands(x, 0, 0, 0, 0);
    }

    private static void copy() {
        check.promise(43, "copy");
        RunSayer x = new RunSayer();
        write(x, 0, 1, 1, 2, 3, 4, 5);
        write(x, 1, 1, 0, 0, 0);
        due("three to the other one", x.copy(0, 1, 1, 0, 3), 3);
        stands(x, 1, 2, 3, 4);
        stands(x, 0, 1, 2, 3, 4, 5);
        due("one to its end", x.copy(0, 4, 1, 2, 1), 1);
        stands(x, 1, 2, 3, 5);
        due("in itself, on", x.copy(0, 0, 0, 1, 4), 4);
        stands(x, 0, 1, 1, 2, 3, 4);
        due("in itself, back", x.copy(0, 1, 0, 0, 4), 4);
        stands(x, 0, 1, 2, 3, 4, 4);
        due("none, at the ends", x.copy(0, 5, 1, 3, 0), 0);
        due("none, from the beginning", x.copy(0, 0, 1, 0, 0), 0);
        due("all", x.copy(1, 0, 1, 0, 3), 3);
        stands(x, 1, 2, 3, 5);
        x.sheet(2, 1, 0);
        due("none of none", x.copy(2, 0, 2, 0, 0), 0);
    }

    private static void copyRefused() {
        RunSayer x = new RunSayer();
        write(x, 0, 1, 1, 2, 3, 4, 5);
        write(x, 1, 1, 0, 0, 0);
        write(x, 2, 2, 0, 0, 0);
        due("sheet 4", x.copy(4, 0, 0, 0, 1), RunSayer.BAD);
        due("to sheet 4", x.copy(0, 0, 4, 0, 1), RunSayer.BAD);
        due("sheet -1", x.copy(-1, 0, 3, 0, 1), RunSayer.BAD);
        due("to sheet -1", x.copy(3, 0, -1, 0, 1), RunSayer.BAD);
        due("from a missing one", x.copy(3, 0, 0, 0, 1), -11);
        due("to a missing one", x.copy(0, -1, 3, 0, 1), -11);
        due("unlike sorts", x.copy(0, 0, 2, 0, 1), -13);
        due("unlike sorts, a place outside", x.copy(2, 0, 0, -1, 9), -13);
        int[][] outside = {{-1, 0, 1}, {0, -1, 1}, {0, 0, -1}, {0, 0, 4}, {5, 0, 1}, {6, 0, 0}, {0, 3, 1}, {0, 4, 0},
            {3, 0, 3}, {0, 1, 3}, {MAX, 0, 1}, {0, MAX, 1}, {0, 0, MAX}, {MAX, MAX, MAX}, {MIN, 0, 1}, {0, 0, MIN},
            {1, 0, MAX}, {-1, 0, 0}, {0, -1, 0}};
        for (int[] o : outside) {
            due("outside: " + o[0] + ", " + o[1] + ", " + o[2], x.copy(0, o[0], 1, o[1], o[2]), -12);
        }
        stands(x, 0, 1, 2, 3, 4, 5);
        stands(x, 1, 0, 0, 0);
    }

    private static void junctions() {
        check.promise(44, "junctions");
        RunSayer x = new RunSayer();
        write(x, 0, 0, 9, 1, 2, 1, 3, 4, 0, 1, 2, 0, 100, 4, 0, 5, 6, 1);
        due("four from place 1 on: two are left out", x.junctions(0, 0, 1, 4), 2);
        due("count(0)", x.count(0), 2);
        due("the fifth", x.junctions(0, 0, 13, 1), 1);
        due("x of the first one", x.taken(0, 6), 1);
        due("it is a ring", x.ring(0, 0), 1);
        due("x of the second one", x.taken(1, 6), 3);
        due("it is none", x.ring(1, 0), 0);
        due("x of the third one", x.taken(2, 6), 5);
        due("none", x.junctions(0, 0, 0, 0), 0);
        due("the same ones again", x.junctions(0, 0, 1, 5), 0);
        write(x, 1, 2, 50, 50, 0, 51, 51, 0, 52);
        due("the third one is outside", x.junctions(1, 2, 0, 3), -12);
        due("what stood ahead came", x.count(0), 5);
        write(x, 1, 1, 60, 50, 0, 61, 51, 0, 62, 52);
        due("its ring is outside", x.junctions(1, 1, 0, 30), -12);
        due("what stood ahead came", x.count(0), 7);
        for (int k = 0; k < 2; k++) {
            x.sheet(2, 2, 90);
            for (int i = 0; i < 30; i++) {
                x.cell(2, 3 * i, 70 + k);
                x.cell(2, 3 * i + 1, i);
            }
            due("30 of 24 at most", x.junctions(2, 2, 0, 30), k == 0 ? 17 : 0);
        }
        due("count(0)", x.count(0), 24);
        due("count(13)", x.count(13), 24);
    }

    private static void junctionsRefused() {
        RunSayer x = new RunSayer();
        write(x, 0, 2, 1, 2, 0);
        due("sheet 4", x.junctions(4, 2, 0, 1), RunSayer.BAD);
        due("sheet -1", x.junctions(-1, 2, 0, 1), RunSayer.BAD);
        due("sort 3", x.junctions(0, 3, 0, 1), RunSayer.BAD);
        due("sort -1", x.junctions(0, -1, 0, 1), RunSayer.BAD);
        due("sort -1 of a missing one", x.junctions(1, -1, 0, 1), RunSayer.BAD);
        due("n 31", x.junctions(0, 2, 0, 31), RunSayer.BAD);
        due("n -1", x.junctions(1, 2, 0, -1), RunSayer.BAD);
        due("missing", x.junctions(1, 2, 0, 1), -11);
        due("of another sort", x.junctions(0, 1, 0, 1), -13);
        due("of another sort, a place outside", x.junctions(0, 0, 9, 1), -13);
        int[] outside = {-1, 1, 3, 100, 101, MAX, MAX - 1, MAX - 2, MIN, -3};
        for (int from : outside) {
            due("from " + from, x.junctions(0, 2, from, 1), -12);
            due("from " + from + ", 30 of them", x.junctions(0, 2, from, 30), -12);
        }
        due("none came", x.count(0), 0);
        due("that one", x.junctions(0, 2, 0, 1), 1);
    }
}
