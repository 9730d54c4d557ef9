/** Promises 10, 12 to 14, 16: hold, thing, item, field, trace; with the ACTS 12 to 57, by answers written out. */
public final class ThingPromisesTest {
    private static final int ENDED = 0, NULL = -11, INDEX = -12, CAST = -13, STORE = -14, SIZE = -15, ENDLESS = -18,
            ROOM = -19, KIND = -20;
    private static final long LOST = Long.MIN_VALUE;

    public static void main(String[] args) {
        refusals();
        holds();
        newRows();
        newRowsOfRows();
        roomForThings();
        itemsOfEachSort();
        itemFailures();
        parts();
        partFailures();
        reflected();
        copiedItems();
        copiedRows();
        kinds();
        fields();
        weigh();
        measure();
        tally();
        bloomAndHardness();
        Check.end();
    }

    /** A THING of each SORT in turn: T 0 of THREAD 0 holds the one asked for; rows have three items. */
    private static MachineWitness holding(int sort) {
        MachineWitness x = new MachineWitness();
        if (sort < 8) {
            Script.run(x, 0, 0, 0, 3, 0, 14, 0, sort, 0);
        } else if (sort < 13) {
            Script.run(x, 0, 0, 0, 3, 0, 15, 0, sort - 8, 0);
        } else if (sort < 15) {
            Script.run(x, 0, 0, 0, 3, 0, 0, 1, 2, 0, sort + 3, 0, 0, 1);
        } else {
            Script.run(x, 0, 18, 0, sort - 16, 0);
        }
        Script.run(x, 0, 0, 0, 0, 0, 0, 1, 0, 0);
        Check.due("holding " + sort, x.thing(0, 0), sort);
        return x;
    }

    private static void refusals() {
        MachineWitness x = holding(4);
        int[] bad = {-1, 1, Integer.MIN_VALUE, Integer.MAX_VALUE};
        for (int t : bad) {
            Check.due("thing BAD", x.thing(t, 0), -2);
            Check.due("item LOST", x.item(t, 0), LOST);
            Check.due("field LOST", x.field(t, 0), LOST);
        }
        Check.due("thing BAD", x.thing(0, -1), -2);
        Check.due("thing BAD", x.thing(0, 4), -2);
        Check.due("item LOST", x.item(0, -1), LOST);
        Check.due("item LOST", x.item(0, 3), LOST);
        Check.due("item", x.item(0, 2), 0);
        Check.due("field of a ROW", x.field(0, 0), LOST);
        MachineWitness y = holding(16);
        Check.due("item of an OBJECT", y.item(0, 0), LOST);
        Check.due("field LOST", y.field(0, -1), LOST);
        Check.due("field LOST", y.field(0, 9), LOST);
        Check.due("an OBJECT has no ITEMS", y.thing(0, 1), 0);
    }

    private static void holds() {
        MachineWitness x = new MachineWitness();
        Script.run(x, 0, 18, 0, 0, 0, 18, 7, 1, 0, 12, 3, 0, 7, 50, 0, 3, 7, 50, 1, 3, 0, 50, 2, 4, 5, 13, 0, 0, 0);
        Check.due("T 0 is none again", x.hold(0, 0), -1);
        Check.due("T 3", x.hold(0, 3), 1);
        Check.due("T 7", x.hold(0, 7), 1);
        Check.due("the same", x.number(0, 0), 1);
        Check.due("not the same", x.number(0, 1), 0);
        Check.due("none both", x.number(0, 2), 1);
        Check.due("another thread's", x.hold(1, 7), -1);
    }

    private static void newRows() {
        for (int sort = 0; sort <= 12; sort++) {
            int op = sort < 8 ? 14 : 15;
            int b = sort < 8 ? sort : sort - 8;
            for (int n = -1; n <= 13; n += 1) {
                MachineWitness x = new MachineWitness();
                int due = n < 0 ? SIZE : n > 12 ? ROOM : ENDED;
                Check.due("a row of " + n, Script.run(x, 0, 0, 2, n, 0, op, 5, b, 2), due);
                Check.due("things", x.count(0), due == ENDED ? 1 : 0);
                Check.due("T 5", x.hold(0, 5), due == ENDED ? 0 : -1);
                Check.due("sort", x.thing(0, 0), due == ENDED ? sort : -2);
                Check.due("items", x.thing(0, 1), due == ENDED ? n : -2);
                Check.due("an item", x.item(0, 0), n > 0 && n <= 12 ? sort < 8 ? 0 : -1 : LOST);
            }
        }
        MachineWitness x = new MachineWitness();
        Check.due("of the number all bits count",
                Script.run(x, 0, 0, 0, 1, 0, 0, 1, 32, 0, 3, 0, 5, 1, 14, 0, 4, 0), ROOM);
    }

    private static void newRowsOfRows() {
        for (int op = 16; op <= 17; op++) {
            MachineWitness x = new MachineWitness();
            Check.due("rows of rows", Script.run(x, 0, 0, 0, 6, 0, 0, 1, 12, 0, op, 4, 0, 1), ENDED);
            Check.due("things", x.count(0), 7);
            Check.due("T 4", x.hold(0, 4), 0);
            Check.due("sort", x.thing(0, 0), op - 3);
            Check.due("items", x.thing(0, 1), 6);
            for (int i = 0; i < 6; i++) {
                Check.due("item " + i, x.item(0, i), i + 1);
                Check.due("its sort", x.thing(i + 1, 0), op == 16 ? 4 : 7);
                Check.due("its items", x.thing(i + 1, 1), 12);
                Check.due("its item", x.item(i + 1, 11), 0);
            }
            int[][] others = {
                {7, 0, ROOM}, {0, 13, ROOM}, {7, -1, ROOM}, {-1, 13, ROOM}, {-1, 3, SIZE}, {3, -1, SIZE}, {0, -1, SIZE},
                {-1, -1, SIZE}, {0, 0, ENDED}, {0, 12, ENDED}, {6, 0, ENDED}};
            for (int[] other : others) {
                MachineWitness y = new MachineWitness();
                Check.due("rows of rows " + other[0] + " " + other[1],
                        Script.run(y, 0, 0, 0, other[0], 0, 0, 1, other[1], 0, op, 4, 0, 1), other[2]);
                Check.due("things", y.count(0), other[2] == ENDED ? other[0] + 1 : 0);
            }
        }
    }

    private static MachineWitness withThings(int many) {
        MachineWitness x = new MachineWitness();
        Script.add(x, 0, 18, 0, 0, 0);
        for (int k = 0; k < many; k++) {
            x.start(0, 0);
            x.turn(0, 1);
        }
        Check.due("things", x.count(0), many);
        return x;
    }

    private static void roomForThings() {
        MachineWitness x = withThings(159);
        Check.due("no room for three", Script.run(x, 0, 0, 1, 2, 0, 16, 1, 1, 1), ROOM);
        Check.due("no room for two", Script.run(x, 0, 0, 1, 1, 0, 17, 1, 1, 1), ROOM);
        Check.due("ROOM before SIZE", Script.run(x, 0, 0, 2, -1, 0, 16, 1, 1, 2), ROOM);
        Check.due("of -1 rows just the one: SIZE", Script.run(x, 0, 16, 1, 2, 1), SIZE);
        Check.due("nothing was made", x.count(0), 159);
        Check.due("the last", Script.run(x, 0, 0, 1, 2, 0, 14, 1, 4, 1), ENDED);
        Check.due("it is 159", x.hold(0, 1), 159);
        Check.due("ROOM", Script.run(x, 0, 18, 1, 0, 0), ROOM);
        Check.due("ROOM", Script.run(x, 0, 14, 1, 0, 1), ROOM);
        Check.due("ROOM", Script.run(x, 0, 15, 1, 0, 1), ROOM);
        Check.due("ROOM before SIZE", Script.run(x, 0, 14, 1, 0, 2), ROOM);
        Check.due("ROOM before SIZE", Script.run(x, 0, 16, 1, 2, 2), ROOM);
        Check.due("ROOM of a copy", Script.run(x, 0, 47, 1, 1, 0), ROOM);
        Check.due("CAST before ROOM", Script.run(x, 0, 47, 1, 0, 0), CAST);
        Check.due("NULL before ROOM", Script.run(x, 0, 47, 1, 6, 0), NULL);
        Check.due("160", x.count(0), 160);
        Check.due("T 1 stays", x.hold(0, 1), 159);
        Check.due("clear", x.clear(), 160);
    }

    private static void itemsOfEachSort() {
        long[] due = {1, -1, -1, 65535, -1, -1};
        for (int sort = 0; sort <= 5; sort++) {
            MachineWitness x = holding(sort);
            Check.due("set, get", Script.run(x, 0, 0, 4, -1, 0, 0, 2, 2, 0, 28 + sort, 4, 0, 2, 20 + sort, 5, 0, 2), ENDED);
            Check.due("got of sort " + sort, x.number(0, 5), due[sort]);
            Check.due("item of sort " + sort, x.item(0, 2), due[sort]);
            Check.due("item beside it", x.item(0, 1), 0);
        }
        long[] lowest = {1, -128, 128, 128, 128, 1L << 32 | 128};
        for (int sort = 0; sort <= 5; sort++) {
            MachineWitness x = holding(sort);
            Script.run(x, 0, 0, 4, 1, 0, 0, 3, 32, 0, 3, 4, 5, 3, 0, 3, 128, 0, 3, 4, 9, 3, 28 + sort, 4, 0, 0);
            Check.due("lowest bits of sort " + sort, x.item(0, 0), lowest[sort]);
        }
        MachineWitness truths = holding(0);
        Script.run(truths, 0, 0, 4, 1, 0, 0, 3, 32, 0, 3, 4, 5, 3, 28, 4, 0, 0);
        Check.due("a truth by all bits", truths.item(0, 0), 1);
        Script.run(truths, 0, 0, 4, 0, 0, 28, 4, 0, 0);
        Check.due("not a truth", truths.item(0, 0), 0);
        MachineWitness floats = holding(6);
        Script.run(floats, 0, 2, 1, -3, -1, 34, 1, 0, 0, 26, 2, 0, 0, 44, 3, 0, 0);
        Check.dueSmallBits("a float", floats.item(0, 0), -1.5f);
        Check.dueSmallBits("a float", floats.small(0, 2), -1.5f);
        Check.dueBits("as a double", floats.real(0, 3), -1.5);
        MachineWitness doubles = holding(7);
        Script.run(doubles, 0, 1, 1, 0, 0, 7, 1, 5, 1, 35, 1, 0, 0, 27, 2, 0, 0);
        Check.dueBits("a double", doubles.item(0, 0), -0.0);
        Check.dueBits("a double", doubles.real(0, 2), -0.0);
    }

    private static void itemFailures() {
        for (int sort = 0; sort <= 20; sort += sort == 14 ? 2 : 1) {
            MachineWitness x = holding(sort);
            for (int k = 0; k <= 7; k++) {
                int due = k == sort ? ENDED : CAST;
                Check.due("get " + k + " of " + sort, Script.run(x, 0, 20 + k, 0, 0, 0), due);
                Check.due("set " + k + " of " + sort, Script.run(x, 0, 28 + k, 0, 0, 0), due);
                Check.due("CAST before INDEX", Script.run(x, 0, 0, 6, -1, 0, 20 + k, 0, 0, 6), k == sort ? INDEX : CAST);
                Check.due("INDEX", Script.run(x, 0, 0, 6, 3, 0, 28 + k, 0, 0, 6), k == sort ? INDEX : CAST);
                Check.due("NULL before INDEX", Script.run(x, 0, 0, 6, -1, 0, 20 + k, 0, 1, 6), NULL);
                Check.due("NULL", Script.run(x, 0, 28 + k, 0, 1, 0), NULL);
            }
        }
        MachineWitness x = holding(4);
        Check.due("of the index all bits count",
                Script.run(x, 0, 0, 5, 1, 0, 0, 6, 32, 0, 3, 5, 5, 6, 24, 3, 0, 5), INDEX);
    }

    private static void parts() {
        MachineWitness x = new MachineWitness();
        Script.run(x, 0, 0, 0, 2, 0, 0, 1, 1, 0, 15, 0, 1, 0, 18, 1, 3, 0, 39, 1, 0, 1, 36, 2, 0, 1, 36, 3, 0, 4);
        Check.due("item", x.item(0, 1), 1);
        Check.due("item none", x.item(0, 0), -1);
        Check.due("got", x.hold(0, 2), 1);
        Check.due("got none", x.hold(0, 3), -1);
        Check.due("none is stored", Script.run(x, 0, 39, 6, 0, 1), ENDED);
        Check.due("item none", x.item(0, 1), -1);
        for (int op = 16; op <= 17; op++) {
            MachineWitness y = new MachineWitness();
            Script.run(y, 0, 0, 0, 2, 0, 0, 1, 1, 0, op, 0, 0, 1, 14, 1, op == 16 ? 4 : 7, 0,
                    op + 24, 1, 0, 1, op + 21, 2, 0, 1, op + 24, 7, 0, 4);
            Check.due("got", y.hold(0, 2), 3);
            Check.due("item", y.item(0, 1), 3);
            Check.due("item none", y.item(0, 0), -1);
        }
    }

    private static void partFailures() {
        for (int sort = 0; sort <= 20; sort += sort == 14 ? 2 : 1) {
            MachineWitness x = holding(sort);
            boolean ofNodes = sort >= 8 && sort <= 12;
            Check.due("36 of " + sort, Script.run(x, 0, 36, 1, 0, 0), ofNodes ? ENDED : CAST);
            Check.due("37 of " + sort, Script.run(x, 0, 37, 1, 0, 0), sort == 13 ? ENDED : CAST);
            Script.run(x, 0, 13, 1, 0, 0);
            Check.due("38 of " + sort, Script.run(x, 0, 38, 1, 0, 0), sort == 14 ? ENDED : CAST);
            Script.run(x, 0, 13, 1, 0, 0);
            Check.due("39 into " + sort, Script.run(x, 0, 39, 1, 0, 0), ofNodes ? ENDED : CAST);
            Check.due("40 into " + sort, Script.run(x, 0, 40, 1, 0, 0), sort == 13 ? ENDED : CAST);
            Check.due("41 into " + sort, Script.run(x, 0, 41, 1, 0, 0), sort == 14 ? ENDED : CAST);
            boolean node = sort >= 16;
            Check.due("39 of " + sort + ": CAST before NULL", Script.run(x, 0, 39, 0, 2, 0), node ? NULL : CAST);
            Check.due("40 of " + sort + ": CAST before NULL", Script.run(x, 0, 40, 0, 2, 0), sort == 4 ? NULL : CAST);
            Check.due("41 of " + sort + ": CAST before NULL", Script.run(x, 0, 41, 0, 2, 0), sort == 7 ? NULL : CAST);
            Check.due("NULL", Script.run(x, 0, 36, 0, 2, 0), NULL);
            Check.due("INDEX", Script.run(x, 0, 0, 3, 3, 0, 36, 1, 0, 3), ofNodes ? INDEX : CAST);
        }
        boolean[][] under = {
            {true, true, true, true, true}, {false, true, true, true, false}, {false, false, true, true, false},
            {false, false, false, true, false}, {false, false, false, false, true}};
        for (int row = 0; row < 5; row++) {
            for (int object = 0; object < 5; object++) {
                MachineWitness x = holding(8 + row);
                Check.due("an OBJECT of " + object + " into a ROW of " + row,
                        Script.run(x, 0, 18, 1, object, 0, 39, 1, 0, 0), under[row][object] ? ENDED : STORE);
                Check.due("item", x.item(0, 0), under[row][object] ? 1 : -1);
                Check.due("INDEX before STORE", Script.run(x, 0, 0, 2, -1, 0, 39, 1, 0, 2), INDEX);
            }
        }
    }

    private static void reflected() {
        for (int sort = 0; sort <= 20; sort += sort == 14 ? 2 : 1) {
            MachineWitness x = holding(sort);
            Check.due("42 of " + sort, Script.run(x, 0, 42, 2, 0, 0), sort < 16 ? ENDED : KIND);
            Check.due("how many", x.number(0, 2), sort < 16 ? 3 : 0);
            Check.due("43 of " + sort, Script.run(x, 0, 43, 2, 0, 0), sort >= 1 && sort <= 5 ? ENDED : KIND);
            Check.due("44 of " + sort, Script.run(x, 0, 44, 2, 0, 0), sort >= 1 && sort <= 7 ? ENDED : KIND);
            Check.due("45 of " + sort, Script.run(x, 0, 45, 2, 0, 0), sort >= 4 && sort <= 7 ? ENDED : KIND);
            Check.due("KIND before INDEX", Script.run(x, 0, 0, 3, 3, 0, 43, 2, 0, 3), sort >= 1 && sort <= 5 ? INDEX : KIND);
            Check.due("KIND before INDEX", Script.run(x, 0, 44, 2, 0, 3), sort >= 1 && sort <= 7 ? INDEX : KIND);
            Check.due("KIND before INDEX", Script.run(x, 0, 45, 2, 0, 3), sort >= 4 && sort <= 7 ? INDEX : KIND);
            for (int op = 42; op <= 45; op++) {
                Check.due("NULL", Script.run(x, 0, op, 2, 4, 3), NULL);
            }
        }
        MachineWitness chars = holding(3);
        Script.run(chars, 0, 0, 2, -1, 0, 31, 2, 0, 0, 43, 3, 0, 0, 44, 3, 0, 0);
        Check.due("a char as a long", chars.number(0, 3), 65535);
        Check.dueBits("a char as a double", chars.real(0, 3), 65535);
        MachineWitness longs = holding(5);
        Script.run(longs, 0, 0, 1, 1, 0, 0, 2, 1, 0, 0, 3, 33, 0, 3, 2, 5, 3, 0, 3, -2, 0, 3, 2, 1, 3, 45, 2, 0, 0, 45, 3, 0, 1);
        Check.due("as an int, widened", longs.item(0, 0), 2);
        Check.due("as an int, widened", longs.item(0, 1), -2);
        MachineWitness floats = holding(6);
        Script.run(floats, 0, 0, 2, 16777217, 0, 45, 2, 0, 0);
        Check.dueSmallBits("as a float", floats.item(0, 0), 16777216f);
        MachineWitness doubles = holding(7);
        Script.run(doubles, 0, 0, 2, 16777217, 0, 45, 2, 0, 0, 44, 1, 0, 0);
        Check.dueBits("as a double", doubles.item(0, 0), 16777217);
        Check.dueBits("as a double", doubles.real(0, 1), 16777217);
    }

    private static void copiedItems() {
        // ints 1 2 3 4 5 in T 0; its first four come to 1 on
        MachineWitness x = new MachineWitness();
        Script.run(x, 0, 0, 0, 5, 0, 14, 0, 4, 0, 14, 1, 4, 0, 0, 1, 1, 0, 0, 2, 0, 0, 32, 1, 0, 2, 3, 2, 0, 3);
        for (int i = 0; i < 5; i++) {
            Script.run(x, 0, 0, 1, i + 1, 0, 0, 2, i, 0, 32, 1, 0, 2);
        }
        Check.due("46", Script.run(x, 0, 0, 5, 0, 0, 0, 6, 1, 0, 0, 7, 4, 0, 46, 0, 0, 0), ENDED);
        int[] due = {1, 1, 2, 3, 4};
        for (int i = 0; i < 5; i++) {
            Check.due("item " + i, x.item(0, i), due[i]);
        }
        Check.due("46 to another", Script.run(x, 0, 0, 5, 3, 0, 0, 6, 0, 0, 0, 7, 2, 0, 46, 0, 1, 0), ENDED);
        Check.due("item", x.item(1, 0), 3);
        Check.due("item", x.item(1, 1), 4);
        Check.due("item", x.item(1, 2), 0);
        int[][] runs = {
            {-1, 0, 1, INDEX}, {0, -1, 1, INDEX}, {0, 0, -1, INDEX}, {5, 0, 1, INDEX}, {0, 5, 1, INDEX}, {5, 5, 0, ENDED},
            {6, 0, 0, INDEX}, {0, 6, 0, INDEX}, {0, 0, 5, ENDED}, {0, 0, 6, INDEX}, {1, 0, 5, INDEX}, {0, 1, 5, INDEX}};
        for (int[] run : runs) {
            Check.due("46 " + run[0] + " " + run[1] + " " + run[2],
                    Script.run(x, 0, 0, 5, run[0], 0, 0, 6, run[1], 0, 0, 7, run[2], 0, 46, 0, 1, 0), run[3]);
        }
        // sums that would wrap: N 5 and N 7 both the greatest long
        Check.due("46 of very many", Script.run(x, 0, 0, 5, -1, 0, 0, 6, 1, 0, 3, 5, 7, 6, 0, 6, 0, 0, 0, 7, -1, 0,
                0, 4, 1, 0, 3, 7, 7, 4, 46, 0, 1, 0), INDEX);
        Check.due("NULL", Script.run(x, 0, 46, 4, 0, 0), NULL);
        Check.due("NULL", Script.run(x, 0, 46, 0, 4, 0), NULL);
        Check.due("STORE before INDEX", Script.run(x, 0, 14, 3, 5, 0, 46, 0, 3, 0), STORE);
        Check.due("STORE", Script.run(x, 0, 15, 3, 0, 0, 46, 3, 3, 0), STORE);
        Check.due("STORE", Script.run(x, 0, 18, 3, 0, 0, 46, 3, 3, 0), STORE);
    }

    private static void copiedRows() {
        MachineWitness x = holding(13);
        Check.due("47", Script.run(x, 0, 64, 0, 0, 0, 47, 1, 0, 0), ENDED);
        Check.due("a new THING", x.hold(0, 1), 4);
        Check.due("sort", x.thing(4, 0), 13);
        Check.due("items", x.thing(4, 1), 3);
        for (int i = 0; i < 3; i++) {
            Check.due("the same item", x.item(4, i), i + 1);
        }
        MachineWitness y = holding(7);
        Script.run(y, 0, 1, 0, 5, 0, 35, 0, 0, 0, 47, 1, 0, 0, 1, 0, 6, 0, 35, 0, 0, 0);
        Check.dueBits("the copy stays", y.item(1, 0), 5);
        Check.dueBits("the other one changes", y.item(0, 0), 6);
        Check.due("NULL", Script.run(y, 0, 47, 1, 5, 0), NULL);
        Check.due("CAST", Script.run(y, 0, 18, 6, 0, 0, 47, 1, 6, 0), CAST);
        Check.due("T 1 stays", y.hold(0, 1), 1);
    }

    private static boolean isOfKind(int sort, int kind) {
        int[] above = {-1, 0, 1, 2, 0};
        if (kind == 21) {
            return sort >= 16;
        }
        if (kind == 22) {
            return sort == 18 || sort == 19;
        }
        if (kind == 23) {
            return sort == 20;
        }
        if (kind == 24 || kind == 25) {
            return kind == 25 && sort < 16;
        }
        int base = sort >= 16 ? 16 : sort >= 8 && sort <= 12 ? 8 : -1;
        for (int c = sort - base; base > 0 && c >= 0; c = above[c]) {
            if (base + c == kind) {
                return true;
            }
        }
        return sort == kind;
    }

    private static void kinds() {
        for (int sort = 0; sort <= 20; sort += sort == 14 ? 2 : 1) {
            for (int kind = 0; kind <= 25; kind += kind == 14 ? 2 : 1) {
                MachineWitness x = holding(sort);
                boolean is = isOfKind(sort, kind);
                Check.due("48", Script.run(x, 0, 48, 3, 0, kind, 48, 4, 1, kind), ENDED);
                Check.due("sort " + sort + " of kind " + kind, x.number(0, 3), is ? 1 : 0);
                Check.due("none", x.number(0, 4), 0);
                Check.due("49", Script.run(x, 0, 49, 3, 0, kind), is ? ENDED : CAST);
                Check.due("T 3", x.hold(0, 3), is ? 0 : -1);
                Check.due("49 of none", Script.run(x, 0, 49, 0, 1, kind), ENDED);
                Check.due("T 0", x.hold(0, 0), -1);
            }
        }
    }

    private static void fields() {
        for (int c = 0; c <= 4; c++) {
            MachineWitness x = holding(16 + c);
            boolean leaf = c >= 1 && c <= 3;
            boolean twig = c == 3;
            Script.run(x, 0, 18, 1, 4, 0, 0, 0, 2, 0, 14, 2, 4, 0, 0, 0, 1, 0, 0, 1, 33, 0, 3, 0, 5, 1, 0, 1, -6, 0,
                    3, 0, 9, 1, 1, 0, -5, 0, 2, 0, 7, -1);
            Check.due("set", Script.run(x, 0, 52, 0, 0, 0, 52, 0, 1, 0, 52, 0, 2, 0, 52, 1, 3, 0, 52, 2, 4, 0,
                    52, 1, 6, 0), ENDED);
            Check.due("set 7", Script.run(x, 0, 0, 2, 70, 0, 52, 2, 7, 0), leaf ? ENDED : CAST);
            Check.due("set 8", Script.run(x, 0, 0, 3, 80, 0, 52, 3, 8, 0), twig ? ENDED : CAST);
            long[] due = {-6, Double.doubleToRawLongBits(-5), Float.floatToRawIntBits(3.5f), 1, 2, 0, -6,
                leaf ? 70 : LOST, twig ? 80 : LOST};
            for (int b = 0; b <= 8; b++) {
                Check.due("field " + b + " of class " + c, x.field(0, b), due[b]);
            }
            Check.due("get", Script.run(x, 0, 55, 4, 0, 0, 51, 0, 0, 0, 51, 2, 1, 0, 51, 2, 2, 0, 51, 5, 3, 0,
                    51, 6, 4, 0, 51, 1, 5, 0, 51, 2, 6, 0), ENDED);
            Check.due("n", x.number(0, 0), -6);
            Check.dueBits("x", x.real(0, 2), -5);
            Check.dueSmallBits("f", x.small(0, 2), 3.5f);
            Check.due("NEXT", x.hold(0, 5), 1);
            Check.due("LINE", x.hold(0, 6), 2);
            Check.due("TALLY", x.number(0, 1), leaf ? 2 : 1);
            Check.due("MARK", x.number(0, 2), -6);
            Check.due("get 7", Script.run(x, 0, 51, 3, 7, 0), leaf ? ENDED : CAST);
            Check.due("get 8", Script.run(x, 0, 51, 4, 8, 0), twig ? ENDED : CAST);
        }
        MachineWitness x = holding(16);
        Script.run(x, 0, 14, 1, 4, 0, 14, 2, 5, 0);
        for (int b = 0; b <= 8; b++) {
            Check.due("CAST", Script.run(x, 0, 51, 0, b, 1), CAST);
            Check.due("NULL", Script.run(x, 0, 51, 0, b, 7), NULL);
            if (b != 5) {
                Check.due("CAST", Script.run(x, 0, 52, 3, b, 1), CAST);
                Check.due("NULL", Script.run(x, 0, 52, 3, b, 7), NULL);
            }
        }
        Check.due("NEXT is no NODE: CAST before NULL", Script.run(x, 0, 52, 1, 3, 7), CAST);
        Check.due("LINE is not of ints: CAST before NULL", Script.run(x, 0, 52, 2, 4, 7), CAST);
        Check.due("LINE is no ROW", Script.run(x, 0, 18, 0, 1, 0, 52, 0, 4, 0), CAST);
        Check.due("none, too", Script.run(x, 0, 52, 0, 3, 0, 52, 5, 3, 0, 52, 5, 4, 0), ENDED);
        Check.due("MARKS are ints", Script.run(x, 0, 0, 0, 1, 0, 0, 1, 32, 0, 3, 0, 5, 1, 52, 0, 6, 0), ENDED);
        Check.due("MARK", x.field(x.hold(0, 0), 6), 0);
    }

    private static int traced(int... bodies) {
        int trace = 0;
        for (int body : bodies) {
            trace = 31 * trace + body;
        }
        return trace;
    }

    /** n 5, x -5.5, f -3.5, MARKS 7, 70, 700 where it has them; N 0 is 1000. */
    private static MachineWitness filled(int c) {
        MachineWitness x = holding(16 + c);
        Script.run(x, 0, 0, 0, 5, 0, 0, 1, 7, 0, 1, 0, -11, -1, 2, 0, -7, -1, 52, 0, 0, 0, 52, 0, 1, 0, 52, 0, 2, 0,
                52, 1, 6, 0, 0, 1, 70, 0, 52, 1, 7, 0);
        Script.run(x, 0, 0, 1, 700, 0, 52, 1, 8, 0);
        Script.run(x, 0, 0, 0, 1000, 0);
        return x;
    }

    private static void weigh() {
        long[] due = {1005, 2080, 2080, 1380, -1005};
        int[] traces = {traced(1), traced(2, 1), traced(2, 1), traced(3, 2, 1), traced(4, 1)};
        for (int c = 0; c <= 4; c++) {
            MachineWitness x = filled(c);
            Check.due("WEIGH", Script.run(x, 0, 53, 3, 0, 0), ENDED);
            Check.due("WEIGH of class " + c, x.number(0, 3), due[c]);
            Check.due("trace", x.trace(), traces[c]);
        }
        MachineWitness x = filled(0);
        Check.due("NULL", Script.run(x, 0, 53, 3, 7, 0), NULL);
        Check.due("CAST", Script.run(x, 0, 0, 0, 1, 0, 14, 6, 4, 0, 53, 3, 6, 0), CAST);
        Check.due("nothing begun", x.trace(), 0);
        Check.due("twice", Script.run(x, 0, 53, 3, 0, 0, 53, 3, 0, 0), ENDED);
        Check.due("trace", x.trace(), traced(1, 1));
    }

    private static void measure() {
        double[] due = {-5.5, -11, -22, -22, -1.5};
        int[] traces = {traced(5), traced(6, 5), traced(7, 6, 5), traced(7, 6, 5), traced(8)};
        for (int c = 0; c <= 4; c++) {
            MachineWitness x = filled(c);
            Check.due("MEASURE", Script.run(x, 0, 54, 3, 0, 0), ENDED);
            Check.dueBits("MEASURE of class " + c, x.real(0, 3), due[c]);
            Check.due("trace", x.trace(), traces[c]);
            boolean stone = c == 4;
            Script.run(x, 0, 1, 1, -1, 0, 1, 2, 0, 0, 5, 1, 3, 2, 52, 1, 1, 0);
            Check.due("MEASURE of endless", Script.run(x, 0, 1, 3, 9, 0, 54, 3, 0, 0), stone ? ENDLESS : ENDED);
            Check.dueBits("X 3", x.real(0, 3), stone ? 9 : Double.NEGATIVE_INFINITY);
            if (stone) {
                Check.due("its body was begun", x.trace(), traced(8, 8));
            }
        }
        MachineWitness x = filled(0);
        Check.due("NULL", Script.run(x, 0, 54, 3, 7, 0), NULL);
        Check.due("CAST", Script.run(x, 0, 0, 0, 1, 0, 14, 6, 4, 0, 54, 3, 6, 0), CAST);
    }

    private static void tally() {
        long[] due = {1, 2, 2, 9, 1};
        int[] traces = {traced(9), traced(10, 9, 9), traced(10, 9, 9), traced(11, 10, 9, 9), traced(9)};
        for (int c = 0; c <= 4; c++) {
            MachineWitness x = filled(c);
            Check.due("COUNT", Script.run(x, 0, 55, 3, 0, 0), ENDED);
            Check.due("COUNT of class " + c, x.number(0, 3), due[c]);
            Check.due("TALLY", x.field(0, 5), c >= 1 && c <= 3 ? 2 : 1);
            Check.due("trace", x.trace(), traces[c]);
        }
        MachineWitness x = filled(3);
        Check.due("COUNT is an int", Script.run(x, 0, 0, 1, 2147483647, 0, 52, 1, 6, 0, 55, 3, 0, 0), ENDED);
        Check.due("COUNT is an int", x.number(0, 3), -2147483647);
        Check.due("NULL", Script.run(x, 0, 55, 3, 7, 0), NULL);
        Check.due("CAST", Script.run(x, 0, 0, 0, 1, 0, 14, 6, 4, 0, 55, 3, 6, 0), CAST);
    }

    private static void bloomAndHardness() {
        for (int c = 0; c <= 4; c++) {
            MachineWitness x = filled(c);
            boolean blooms = c == 2 || c == 3;
            Check.due("BLOOM", Script.run(x, 0, 56, 3, 0, 0), blooms ? ENDED : CAST);
            Check.due("BLOOM", x.number(0, 3), c == 2 ? 3005 : c == 3 ? 3077 : 0);
            Check.due("trace", x.trace(), c == 2 ? traced(12, 13) : c == 3 ? traced(12, 14) : 0);
            MachineWitness y = filled(c);
            Check.due("HARDNESS", Script.run(y, 0, 57, 3, 0, 0), c == 4 ? ENDED : CAST);
            Check.dueBits("HARDNESS", y.real(0, 3), c == 4 ? 7 : 0);
            Check.due("trace", y.trace(), c == 4 ? traced(15) : 0);
            Check.due("NULL", Script.run(x, 0, 56, 3, 7, 0), NULL);
            Check.due("NULL", Script.run(x, 0, 57, 3, 7, 0), NULL);
        }
        MachineWitness x = filled(3);
        Check.due("PETALS are ints", Script.run(x, 0, 0, 1, 2147483647, 0, 52, 1, 7, 0, 0, 0, 0, 0, 56, 3, 0, 0), ENDED);
        Check.due("PETALS are ints", x.number(0, 3), -2147483642);
        MachineWitness y = filled(4);
        Script.run(y, 0, 2, 1, 0, 0, 8, 1, 5, 1, 52, 1, 2, 0, 57, 3, 0, 0);
        Check.dueBits("HARDNESS of -0.0", y.real(0, 3), 0.0);
    }
}
