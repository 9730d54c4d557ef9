import java.util.function.Consumer;

/** ACTS 20 to 45: the first and the last ITEM, those beside them, and the order CAST, NULL, KIND, INDEX, STORE. */
public final class ItemBoundsTest {
    private static final int NULL = 1, INDEX = 2, CAST = 3, STORE = 4, KIND = 10;
    private static final long LEAST = Long.MIN_VALUE, MOST = Long.MAX_VALUE;
    private static final int[] SORTS = {0, 1, 2, 3, 4, 5, 6, 7, 8, 9, 10, 11, 12, 13, 14, 16, 17, 18, 19, 20};
    // An index that no ROW has: what comes before INDEX is told, not INDEX.
    private static final long FAR = 12;

    public static void main(String[] args) {
        firstAndLastItem();
        itemSorts();
        itemsOfNone();
        itemsThere();
        valuesAtTheirEdges();
        truths();
        parts();
        partSorts();
        partsOfNone();
        castBeforeNull();
        castsFromTheLeft();
        stores();
        indexBeforeStore();
        lengths();
        kindsOfItems();
        kindBeforeIndex();
        widenedAtTheirEdges();
        Check.end();
    }

    /** T 5 a THING of that SORT, N 6 the index, N 7, X 3 and F 3 not 0. */
    private static Consumer<Witness> holding(int sort, int items, long index) {
        return x -> {
            x.holdThing(5, sort, items);
            x.setNumber(6, index);
            x.setNumber(7, 1);
            x.setReal(3, 0.25);
        };
    }

    private static int register(int sort) {
        return sort == 6 || sort == 7 ? 3 : 7;
    }

    private static void dueIndex(String what, Consumer<Witness> made, boolean has, int... act) {
        if (has) {
            Twins.does(what, made, act);
        } else {
            Twins.fails(what, INDEX, made, act);
        }
    }

    private static final long[] INDEXES = {
        LEAST, -(1L << 32), -1, 0, 1, 11, 12, 1L << 31, 1L << 32, (1L << 32) + 1, MOST};

    /** "INDEX (of N c all bits count)": of ROWS of 0, 1 and 12 ITEMS; 20 + k, 28 + k, 43 to 45. */
    private static void firstAndLastItem() {
        for (int items : new int[] {0, 1, 12}) {
            for (long index : INDEXES) {
                boolean has = index >= 0 && index < items;
                for (int sort = 0; sort <= 7; sort++) {
                    Consumer<Witness> made = holding(sort, items, index);
                    String what = "item " + index + " of " + items + " of sort " + sort;
                    dueIndex("get " + what, made, has, 20 + sort, register(sort), 5, 6);
                    dueIndex("set " + what, made, has, 28 + sort, register(sort), 5, 6);
                    if (sort >= 1 && sort <= 5) {
                        dueIndex("43: " + what, made, has, 43, 7, 5, 6);
                    }
                    if (sort >= 1) {
                        dueIndex("44: " + what, made, has, 44, 3, 5, 6);
                    }
                    if (sort >= 4) {
                        dueIndex("45: " + what, made, has, 45, 7, 5, 6);
                    }
                }
            }
        }
    }

    /** "TAKEN as SORT k": CAST of every other SORT, with an index that is there and with one that is not. */
    private static void itemSorts() {
        for (int sort : SORTS) {
            for (int k = 0; k <= 7; k++) {
                for (long index : new long[] {0, FAR}) {
                    if (sort == k) {
                        continue;
                    }
                    Consumer<Witness> made = holding(sort, sort < 16 ? 1 : 0, index);
                    Twins.fails("sort " + sort + " taken as " + k, CAST, made, 20 + k, register(k), 5, 6);
                    Twins.fails("sort " + sort + " taken as " + k, CAST, made, 28 + k, register(k), 5, 6);
                }
            }
        }
    }

    /** "none may be TAKEN as all": NULL, not CAST, and before INDEX. */
    private static void itemsOfNone() {
        for (int op = 20; op <= 45; op++) {
            int opOnly = op;
            boolean real = op == 26 || op == 27 || op == 34 || op == 35 || op == 44;
            for (long index : new long[] {0, -1, FAR}) {
                Consumer<Witness> made = x -> {
                    x.setNumber(6, index);
                    x.setReal(3, 0.25);
                };
                Twins.fails(opOnly + " of none", NULL, made, opOnly, real ? 3 : 7, 4, 6);
            }
        }
    }

    /** The ITEM that is meant is the one that changes, and the one that is got. */
    private static void itemsThere() {
        for (int sort = 0; sort <= 7; sort++) {
            for (int index : new int[] {0, 1, 10, 11}) {
                Witness x = Twins.does("set", holding(sort, 12, index), 28 + sort, register(sort), 5, 6);
                long due = sort < 6 ? 1 : sort == 6 ? Float.floatToRawIntBits(0.25f) : Double.doubleToRawLongBits(0.25);
                for (int i = 0; i < 12; i++) {
                    Check.due("item " + i, x.item(0, i), i == index ? due : 0);
                }
                Check.due("get", x.run(0, 0, 7, 5, 0, 1, 3, 5, 0, 2, 3, 5, 0, 20 + sort, register(sort), 5, 6), 0);
                Check.due("got", sort < 6 ? x.number(0, 7) : sort == 6 ? x.small(0, 3) : x.real(0, 3), due);
                if (sort >= 1) {
                    Check.due("44", x.run(0, 44, 2, 5, 6), 0);
                    Check.dueBits("44 of sort " + sort, x.real(0, 2), sort < 6 ? 1 : 0.25);
                }
            }
        }
    }

    /** "its lowest bits": what is just inside a SORT, and what wraps. */
    private static void valuesAtTheirEdges() {
        long[] edges = {
            0, 127, 128, 255, 256, -128, -129, 32767, 32768, 65535, 65536, -32768, -32769, -1, Integer.MAX_VALUE,
            1L << 31, Integer.MIN_VALUE, Integer.MIN_VALUE - 1L, (1L << 32) - 1, 1L << 32, LEAST, MOST};
        for (long edge : edges) {
            long[] due = {edge != 0 ? 1 : 0, (byte) edge, (short) edge, (char) edge, (int) edge, edge};
            for (int sort = 0; sort <= 5; sort++) {
                Consumer<Witness> row = holding(sort, 12, 11);
                Witness x = Twins.does("set", w -> {
                    row.accept(w);
                    w.setNumber(7, edge);
                }, 28 + sort, 7, 5, 6);
                Check.due(edge + " in a row of sort " + sort, x.item(0, 11), due[sort]);
                Check.due("N 7 stays", x.number(0, 7), edge);
                Check.due("get", x.run(0, 20 + sort, 4, 5, 6), 0);
                Check.due("got of sort " + sort, x.number(0, 4), due[sort]);
                if (sort >= 1) {
                    Check.due("43, 44", x.run(0, 43, 3, 5, 6, 44, 3, 5, 6), 0);
                    Check.due("43 of sort " + sort, x.number(0, 3), due[sort]);
                    Check.dueBits("44 of sort " + sort, x.real(0, 3), (double) due[sort]);
                }
            }
        }
    }

    /** "(truths: whether it is not 0)", and what was one may be none again. */
    private static void truths() {
        Witness x = new Witness();
        holding(0, 1, 0).accept(x);
        for (long value : new long[] {1, 0, -1, 0, 1L << 63, 0, 1L << 32}) {
            x.setNumber(7, value);
            x.setNumber(6, 0);
            Check.due("set", x.run(0, 28, 7, 5, 6), 0);
            Check.due("a truth by " + value, x.item(0, 0), value != 0 ? 1 : 0);
        }
    }

    /** 36 to 41: T 5 a ROW of THINGS, T 4 what fits it, T 3 another such one. */
    private static Consumer<Witness> holdingParts(int sort, int items, long index) {
        return x -> {
            int part = sort < 13 ? sort + 8 : sort == 13 ? 4 : 7;
            x.holdThing(5, sort, items);
            x.holdThing(4, part, part < 16 ? 1 : 0);
            x.holdThing(3, part, part < 16 ? 1 : 0);
            x.setNumber(6, index);
        };
    }

    private static int getter(int sort) {
        return sort < 13 ? 36 : sort + 24;
    }

    private static void parts() {
        for (int sort = 8; sort <= 14; sort++) {
            int most = sort < 13 ? 12 : 6;
            for (int items : new int[] {0, 1, most}) {
                for (long index : INDEXES) {
                    boolean has = index >= 0 && index < items;
                    String what = "part " + index + " of " + items + " of sort " + sort;
                    dueIndex("get " + what, holdingParts(sort, items, index), has, getter(sort), 7, 5, 6);
                    dueIndex("set " + what, holdingParts(sort, items, index), has, getter(sort) + 3, 4, 5, 6);
                    dueIndex("none as " + what, holdingParts(sort, items, index), has, getter(sort) + 3, 2, 5, 6);
                }
            }
            for (int index = 0; index < most; index += most - 1) {
                Witness x = Twins.does("set", holdingParts(sort, most, index), getter(sort) + 3, 4, 5, 6);
                Check.due("the part", x.item(x.hold(0, 5), index), x.hold(0, 4));
                Check.due("get", x.run(0, getter(sort), 7, 5, 6), 0);
                Check.due("got", x.hold(0, 7), x.hold(0, 4));
                Check.due("none", x.run(0, getter(sort) + 3, 2, 5, 6, getter(sort), 7, 5, 6), 0);
                Check.due("none", x.item(x.hold(0, 5), index), -1);
                Check.due("none got", x.hold(0, 7), -1);
            }
        }
    }

    /** "TAKEN as a ROW of NODES; 37, 38 as one of SORT 13, 14": ROWS of all CLASSES are the first. */
    private static void partSorts() {
        for (int sort : SORTS) {
            for (int op = 36; op <= 41; op++) {
                int which = (op - 36) % 3;
                boolean fits = which == 0 ? sort >= 8 && sort <= 12 : sort == 12 + which;
                for (long index : new long[] {0, FAR}) {
                    Consumer<Witness> made = holding(sort, sort < 16 ? 1 : 0, index);
                    String what = op + " of sort " + sort + " at " + index;
                    if (!fits) {
                        Twins.fails(what, CAST, made, op, 2, 5, 6);
                    } else {
                        dueIndex(what, made, index == 0, op, 2, 5, 6);
                    }
                }
            }
        }
    }

    private static void partsOfNone() {
        for (int op = 36; op <= 41; op++) {
            int opOnly = op;
            int part = op < 40 ? 17 : op == 40 ? 4 : 7;
            Consumer<Witness> made = x -> {
                x.holdThing(4, part, part < 16 ? 1 : 0);
                x.setNumber(6, -1);
            };
            Twins.fails(opOnly + " of none with a part that fits", NULL, made, opOnly, 4, 2, 6);
            Twins.fails(opOnly + " of none with none", NULL, made, opOnly, 3, 2, 6);
        }
    }

    /** "first CAST ..": T a is no part of such a ROW, and T b is none, or has no such ITEM. */
    private static void castBeforeNull() {
        for (int sort : SORTS) {
            for (int op = 39; op <= 41; op++) {
                boolean fits = op == 39 ? sort >= 16 : sort == (op == 40 ? 4 : 7);
                int opOnly = op;
                Consumer<Witness> made = x -> {
                    x.holdThing(5, opOnly == 39 ? 8 : opOnly - 27, 1);
                    x.holdThing(4, sort, sort < 16 ? 1 : 0);
                    x.setNumber(6, FAR);
                };
                Twins.fails(op + " of sort " + sort + " into none", fits ? NULL : CAST, made, op, 4, 2, 6);
                Twins.fails(op + " of sort " + sort + " far off", fits ? INDEX : CAST, made, op, 4, 5, 6);
            }
        }
    }

    /** Either of the two, and both, are TAKEN as what they are not. */
    private static void castsFromTheLeft() {
        Consumer<Witness> made = x -> {
            x.holdThing(5, 13, 1);
            x.holdThing(4, 14, 1);
            x.holdThing(3, 8, 1);
            x.holdThing(2, 4, 1);
            x.holdThing(1, 16, 0);
        };
        Twins.fails("the row is one of doubles", CAST, made, 40, 2, 4, 6);
        Twins.fails("the part is an object", CAST, made, 40, 1, 5, 6);
        Twins.fails("both", CAST, made, 40, 1, 4, 6);
        Twins.fails("the row is one of rows", CAST, made, 39, 1, 5, 6);
        Twins.fails("the part is a row", CAST, made, 39, 2, 3, 6);
        Twins.fails("none into what is no such row", CAST, made, 41, 7, 5, 6);
        Twins.does("a row of ints into its own", made, 40, 2, 5, 6);
    }

    /** "STORE (39: the ROW's CLASS has it not)": NODES and LEAVES into each ROW of a CLASS. */
    private static void stores() {
        String[] has = {"01234", "123", "23", "3", "4"};
        for (int row = 0; row <= 4; row++) {
            for (int c = 0; c <= 4; c++) {
                int rowSort = 8 + row;
                int objectSort = 16 + c;
                Consumer<Witness> made = x -> {
                    x.holdThing(5, rowSort, 12);
                    x.holdThing(4, objectSort, 0);
                    x.setNumber(6, 11);
                };
                String what = "class " + c + " into a row of class " + row;
                if (has[row].indexOf('0' + c) >= 0) {
                    Witness x = Twins.does(what, made, 39, 4, 5, 6);
                    Check.due(what, x.item(0, 11), 1);
                } else {
                    Twins.fails(what, STORE, made, 39, 4, 5, 6);
                }
            }
        }
    }

    private static void indexBeforeStore() {
        for (long index : new long[] {LEAST, -1, 12, MOST}) {
            Twins.fails("INDEX before STORE", INDEX, x -> {
                x.holdThing(5, 12, 12);
                x.holdThing(4, 17, 0);
                x.setNumber(6, index);
            }, 39, 4, 5, 6);
        }
    }

    /** "42 N a becomes how many ITEMS T b has: NULL; KIND (no ROW)". */
    private static void lengths() {
        for (int sort : SORTS) {
            if (sort >= 16) {
                Twins.fails("42 of sort " + sort, KIND, holding(sort, 0, 0), 42, 7, 5, 0);
                continue;
            }
            for (int items : new int[] {0, 1, sort < 13 ? 12 : 6}) {
                Witness x = Twins.does("42 of sort " + sort, holding(sort, items, 0), 42, 7, 5, 0);
                Check.due("how many of sort " + sort, x.number(0, 7), items);
            }
        }
    }

    /** "KIND (not of SORTS 1 to 5)", "(not of SORTS 1 to 7)", "(not of SORTS 4 to 7)". */
    private static void kindsOfItems() {
        int[][] taken = {{43, 1, 5, 7}, {44, 1, 7, 3}, {45, 4, 7, 7}};
        for (int[] row : taken) {
            for (int sort : SORTS) {
                Consumer<Witness> made = holding(sort, sort < 16 ? 1 : 0, 0);
                String what = row[0] + " of sort " + sort;
                if (sort >= row[1] && sort <= row[2]) {
                    Twins.does(what, made, row[0], row[3], 5, 6);
                } else {
                    Twins.fails(what, KIND, made, row[0], row[3], 5, 6);
                }
            }
        }
    }

    private static void kindBeforeIndex() {
        for (int sort : SORTS) {
            Consumer<Witness> made = holding(sort, sort < 16 ? 1 : 0, FAR);
            Twins.fails("43 of sort " + sort, sort >= 1 && sort <= 5 ? INDEX : KIND, made, 43, 7, 5, 6);
            Twins.fails("44 of sort " + sort, sort >= 1 && sort <= 7 ? INDEX : KIND, made, 44, 3, 5, 6);
            Twins.fails("45 of sort " + sort, sort >= 4 && sort <= 7 ? INDEX : KIND, made, 45, 7, 5, 6);
        }
    }

    /** "45 ITEM N c of T b becomes N a as an int, widened as Java does". */
    private static void widenedAtTheirEdges() {
        long[] edges = {
            Integer.MAX_VALUE, Integer.MIN_VALUE, 1L << 31, 1L << 32, (1L << 32) - 1, LEAST, MOST, 16777216, 16777217,
            16777219, -16777217, 0, -1};
        for (long edge : edges) {
            int value = (int) edge;
            long[] due = {value, value, Float.floatToRawIntBits((float) value), Double.doubleToRawLongBits(value)};
            for (int sort = 4; sort <= 7; sort++) {
                Consumer<Witness> row = holding(sort, 12, 11);
                Witness x = Twins.does("45", w -> {
                    row.accept(w);
                    w.setNumber(7, edge);
                }, 45, 7, 5, 6);
                Check.due(edge + " widened in a row of sort " + sort, x.item(0, 11), due[sort - 4]);
                Check.due("the one beside it", x.item(0, 10), 0);
            }
        }
    }
}
