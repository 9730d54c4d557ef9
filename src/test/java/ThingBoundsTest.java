import java.util.function.Consumer;

/** ACTS 12 to 18 and 46 to 50: SIZE and ROOM from both sides, copies at the ends of ROWS, all kinds; their order. */
public final class ThingBoundsTest {
    private static final int NULL = 1, INDEX = 2, CAST = 3, STORE = 4, SIZE = 5, ROOM = 9;
    private static final long LEAST = Long.MIN_VALUE, MOST = Long.MAX_VALUE;
    // Every SORT that a THING can have.
    private static final int[] SORTS = {0, 1, 2, 3, 4, 5, 6, 7, 8, 9, 10, 11, 12, 13, 14, 16, 17, 18, 19, 20};

    public static void main(String[] args) {
        sizesOfRows();
        sizesOfRowsOfRows();
        roomForOneThing();
        roomForRowsOfRows();
        roomBeforeSize();
        numbersOfRowsOfRows();
        holds();
        copiedItemsAtTheEnds();
        copiedItemsWithin();
        copiedItemsOrder();
        copiedSorts();
        copies();
        copyOrder();
        kinds();
        sameThings();
        Check.end();
    }

    /** "ROWS .. with 0 to 12 ITEMS": SIZE below 0, ROOM above 12; all bits of N c count. */
    private static void sizesOfRows() {
        long[][] sizes = {
            {LEAST, SIZE}, {-(1L << 32), SIZE}, {-2, SIZE}, {-1, SIZE}, {0, 0}, {1, 0}, {11, 0}, {12, 0}, {13, ROOM},
            {1L << 31, ROOM}, {1L << 32, ROOM}, {(1L << 32) + 1, ROOM}, {MOST, ROOM}};
        for (int sort = 0; sort <= 12; sort++) {
            int[] act = {sort < 8 ? 14 : 15, 7, sort < 8 ? sort : sort - 8, 7};
            for (long[] size : sizes) {
                String what = "a row of sort " + sort + " with " + size[0] + " items";
                Consumer<Witness> made = x -> x.setNumber(7, size[0]);
                if (size[1] != 0) {
                    Twins.fails(what, (int) size[1], made, act);
                    continue;
                }
                Witness x = Twins.does(what, made, act);
                Check.due(what + ": T 7", x.hold(0, 7), 0);
                Check.due(what + ": its sort", x.thing(0, 0), sort);
                Check.due(what + ": its items", x.thing(0, 1), size[0]);
                for (int i = 0; i < size[0]; i++) {
                    Check.due(what + ": item", x.item(0, i), sort < 8 ? 0 : -1);
                }
            }
        }
    }

    private static Consumer<Witness> twoNumbers(long b, long c) {
        return x -> {
            x.setNumber(6, b);
            x.setNumber(7, c);
        };
    }

    /** "ROOM: above 12 ITEMS (N b above 6) ..; then SIZE (either)". */
    private static void sizesOfRowsOfRows() {
        long[] rows = {LEAST, -1, 0, 1, 6, 7, 1L << 32, MOST};
        long[] items = {LEAST, -1, 0, 1, 12, 13, 1L << 32, MOST};
        for (int op = 16; op <= 17; op++) {
            for (long b : rows) {
                for (long c : items) {
                    String what = op + " of " + b + " rows of " + c;
                    if (b > 6 || c > 12) {
                        Twins.fails(what, ROOM, twoNumbers(b, c), op, 7, 6, 7);
                    } else if (b < 0 || c < 0) {
                        Twins.fails(what, SIZE, twoNumbers(b, c), op, 7, 6, 7);
                    } else {
                        dueRowsOfRows(what, op, (int) b, (int) c);
                    }
                }
            }
        }
    }

    private static void dueRowsOfRows(String what, int op, int rows, int items) {
        Witness x = Twins.does(what, twoNumbers(rows, items), op, 7, 6, 7);
        Check.due(what + ": things", x.count(0), 1 + rows);
        Check.due(what + ": T 7", x.hold(0, 7), 0);
        Check.due(what + ": sort", x.thing(0, 0), op - 3);
        Check.due(what + ": items", x.thing(0, 1), rows);
        for (int i = 0; i < rows; i++) {
            Check.due(what + ": item", x.item(0, i), 1 + i);
            Check.due(what + ": its sort", x.thing(1 + i, 0), op == 16 ? 4 : 7);
            Check.due(what + ": its items", x.thing(1 + i, 1), items);
        }
    }

    /** "THINGS (160 at most)": with 159 there is room for one more, with 160 for none. */
    private static void roomForOneThing() {
        int[][] acts = {{14, 7, 0, 6}, {14, 7, 7, 6}, {15, 7, 0, 6}, {15, 7, 4, 6}, {16, 7, 6, 6}, {17, 7, 6, 6},
            {18, 7, 0, 0}, {18, 7, 4, 0}};
        for (int[] act : acts) {
            Witness x = Twins.does("thing 159 by " + act[0], w -> w.makeThings(159), act);
            Check.due("T 7", x.hold(0, 7), 159);
            Check.due("things", x.count(0), 160);
            Twins.fails("a 161st thing by " + act[0], ROOM, w -> w.makeThings(160), act);
        }
        Consumer<Witness> rowThenThings = w -> {
            w.holdThing(5, 4, 12);
            w.makeThings(158);
        };
        Witness x = Twins.does("a copy is thing 159", rowThenThings, 47, 7, 5, 0);
        Check.due("T 7", x.hold(0, 7), 159);
        Twins.fails("a copy has no room", ROOM, w -> {
            rowThenThings.accept(w);
            w.makeThings(1);
        }, 47, 7, 5, 0);
    }

    /** "or not all THINGS have room": 1 and N b of them, none of which is made where one has none. */
    private static void roomForRowsOfRows() {
        for (int op = 16; op <= 17; op++) {
            int[] act = {op, 7, 6, 7};
            for (int rows = 0; rows <= 6; rows++) {
                int fits = 160 - 1 - rows;
                int many = rows;
                Witness x = Twins.does(op + " of " + rows + " at " + fits, w -> {
                    w.makeThings(fits);
                    twoNumbers(many, 12).accept(w);
                }, act);
                Check.due("things", x.count(0), 160);
                Check.due("T 7", x.hold(0, 7), fits);
                Check.due("items", x.thing(fits, 1), rows);
                Check.due("the last", x.thing(159, 1), rows == 0 ? 0 : 12);
                Twins.fails(op + " of " + rows + " at " + (fits + 1), ROOM, w -> {
                    w.makeThings(fits + 1);
                    twoNumbers(many, 12).accept(w);
                }, act);
            }
        }
    }

    /** "(those of N b below 0: none)": the ROW itself needs room, those in it do not; "then SIZE". */
    private static void roomBeforeSize() {
        for (int op = 16; op <= 17; op++) {
            int[] act = {op, 7, 6, 7};
            for (long rows : new long[] {LEAST, -6, -1}) {
                Twins.fails("room for the row alone", SIZE, w -> {
                    w.makeThings(159);
                    twoNumbers(rows, 1).accept(w);
                }, act);
                Twins.fails("room for none", ROOM, w -> {
                    w.makeThings(160);
                    twoNumbers(rows, 1).accept(w);
                }, act);
            }
            Twins.fails("no room for two, N c below 0", ROOM, w -> {
                w.makeThings(159);
                twoNumbers(1, -1).accept(w);
            }, act);
            Twins.fails("room for two, N c below 0", SIZE, w -> {
                w.makeThings(158);
                twoNumbers(1, -1).accept(w);
            }, act);
        }
        for (int op = 14; op <= 15; op++) {
            int[] act = {op, 7, 4, 7};
            Twins.fails("no room, N c below 0", ROOM, w -> {
                w.makeThings(160);
                w.setNumber(7, -1);
            }, act);
            Twins.fails("room, N c below 0", SIZE, w -> {
                w.makeThings(159);
                w.setNumber(7, -1);
            }, act);
        }
    }

    /** "these numbered behind it, in order": behind others, too. */
    private static void numbersOfRowsOfRows() {
        Witness x = new Witness();
        x.makeThings(3);
        x.holdThing(2, 13, 6);
        x.holdThing(3, 14, 1);
        x.holdThing(4, 13, 0);
        Check.due("T 2", x.hold(0, 2), 3);
        Check.due("T 3", x.hold(0, 3), 10);
        Check.due("T 4", x.hold(0, 4), 12);
        for (int i = 0; i < 6; i++) {
            Check.due("item", x.item(3, i), 4 + i);
        }
        Check.due("item", x.item(10, 0), 11);
        Check.due("things", x.count(0), 13);
    }

    private static void holds() {
        Witness x = new Witness();
        x.makeThings(1);
        Check.due("12, 13", x.run(0, 12, 7, 0, 0, 12, 7, 0, 7, 12, 6, 0, 5, 12, 0, 0, 1, 13, 5, 0, 0), 0);
        Check.due("T 7", x.hold(0, 7), 0);
        Check.due("T 6 of none", x.hold(0, 6), -1);
        Check.due("T 0 of none", x.hold(0, 0), -1);
        Check.due("T 5 none as before", x.hold(0, 5), -1);
        Check.due("13 of T 7", x.run(0, 13, 7, 0, 0), 0);
        Check.due("T 7", x.hold(0, 7), -1);
        Check.due("the thing is still there", x.count(0), 1);
    }

    /** T 2 a ROW of 4, T 3 one of 12, with N 5, N 6, N 7 as told. */
    private static Consumer<Witness> forCopy(int sort, long from, long to, long many) {
        return x -> {
            x.holdThing(2, sort, 4);
            x.holdThing(3, sort, 12);
            x.setNumber(5, from);
            x.setNumber(6, to);
            x.setNumber(7, many);
        };
    }

    /** "INDEX (N 5, N 6, N 7 below 0; N 5 and N 7 above how many T a has, N 6 and N 7 above how many T b has)". */
    private static void copiedItemsAtTheEnds() {
        long[][] edges = {
            {0, 0, 4, 0}, {0, 8, 4, 0}, {0, 9, 4, INDEX}, {1, 0, 4, INDEX}, {1, 0, 3, 0}, {0, 0, 5, INDEX},
            {4, 0, 0, 0}, {5, 0, 0, INDEX}, {4, 0, 1, INDEX}, {0, 12, 0, 0}, {0, 13, 0, INDEX}, {0, 12, 1, INDEX},
            {0, 11, 1, 0}, {3, 11, 1, 0}, {-1, 0, 1, INDEX}, {-1, 0, 0, INDEX}, {0, -1, 1, INDEX}, {0, -1, 0, INDEX},
            {0, 0, -1, INDEX}, {4, 12, 0, 0}, {4, 12, -1, INDEX}, {-1, 0, 5, INDEX}, {1L << 32, 0, 0, INDEX},
            {0, 1L << 32, 0, INDEX}, {0, 0, 1L << 32, INDEX}, {MOST, 0, 1, INDEX}, {1, 0, MOST, INDEX},
            {MOST, 0, MOST, INDEX}, {0, MOST, 1, INDEX}, {0, 1, MOST, INDEX}, {LEAST, 0, 1, INDEX},
            {0, LEAST, 1, INDEX}, {0, 0, LEAST, INDEX}, {LEAST, 0, LEAST, INDEX}, {0, LEAST, LEAST, INDEX}};
        for (long[] edge : edges) {
            String what = "46 of " + edge[2] + " from " + edge[0] + " to " + edge[1];
            if (edge[3] != 0) {
                Twins.fails(what, (int) edge[3], forCopy(4, edge[0], edge[1], edge[2]), 46, 2, 3, 0);
            } else {
                Twins.does(what, forCopy(4, edge[0], edge[1], edge[2]), 46, 2, 3, 0);
            }
        }
    }

    /** A ROW of 12 ints 1 .. 12 in T 2. */
    private static Witness twelve() {
        Witness x = new Witness();
        x.holdThing(2, 4, 12);
        x.add(0, 0, 0, 1, 0, 3, 1, 0, 0, 32, 1, 2, 3, 3, 3, 0, 0, 0, 4, 12, 0, 4, 4, 1, 3, 60, 1, 4, 1);
        x.start(0, 0);
        Check.due("twelve ints", x.turn(0, 500), 0);
        return x;
    }

    /** "(as if by way of others)": within one ROW, forwards and backwards, none, and all of it. */
    private static void copiedItemsWithin() {
        int[][] moves = {{0, 1, 11}, {1, 0, 11}, {0, 0, 12}, {0, 6, 6}, {6, 0, 6}, {0, 11, 1}, {11, 0, 1}, {3, 3, 0},
            {2, 5, 7}, {5, 2, 7}};
        for (int[] move : moves) {
            Witness x = twelve();
            Check.due("46", x.run(0, 0, 5, move[0], 0, 0, 6, move[1], 0, 0, 7, move[2], 0, 46, 2, 2, 0), 0);
            for (int i = 0; i < 12; i++) {
                boolean moved = i >= move[1] && i < move[1] + move[2];
                Check.due("item " + i + " behind " + move[0] + " to " + move[1], x.item(0, i),
                        1 + (moved ? i - move[1] + move[0] : i));
            }
        }
    }

    /** "NULL (T a, T b); STORE (not both of one SORT 0 .. 7); INDEX", each before what comes behind it. */
    private static void copiedItemsOrder() {
        Consumer<Witness> badIndex = forCopy(4, -1, -1, -1);
        Twins.fails("T a none", NULL, badIndex, 46, 4, 3, 0);
        Twins.fails("T b none", NULL, badIndex, 46, 2, 4, 0);
        Twins.fails("none both", NULL, badIndex, 46, 4, 4, 0);
        Twins.fails("NULL before STORE", NULL, w -> {
            badIndex.accept(w);
            w.makeThings(1);
        }, 46, 0, 4, 0);
        Twins.fails("STORE before INDEX", STORE, w -> {
            badIndex.accept(w);
            w.makeThings(1);
        }, 46, 0, 2, 0);
    }

    private static void copiedSorts() {
        for (int from : SORTS) {
            for (int to : SORTS) {
                Consumer<Witness> made = x -> {
                    x.holdThing(2, from, from < 16 ? 2 : 0);
                    x.holdThing(3, to, to < 16 ? 2 : 0);
                    x.setNumber(7, 2);
                };
                if (from == to && from <= 7) {
                    Twins.does("46 of sort " + from, made, 46, 2, 3, 0);
                } else {
                    Twins.fails("46 of sort " + from + " to " + to, STORE, made, 46, 2, 3, 0);
                }
            }
        }
        copiedValues();
    }

    /** Each SORT 0 .. 7 brings its own values. */
    private static void copiedValues() {
        for (int sort = 0; sort <= 7; sort++) {
            Witness x = new Witness();
            x.holdThing(2, sort, 2);
            x.holdThing(3, sort, 12);
            x.setReal(1, -0.25);
            Check.due("46", x.run(0, 0, 1, -1, 0, 0, 2, 1, 0, 28 + sort, 1, 2, 2, 0, 6, 10, 0, 0, 7, 2, 0, 46, 2, 3, 0), 0);
            Check.due("the item of sort " + sort, x.item(1, 11), x.item(0, 1));
            Check.due("it is not 0", x.item(1, 11) != 0 ? 1 : 0, 1);
            Check.due("the one beside it", x.item(1, 10), 0);
            Check.due("47 of sort " + sort, x.run(0, 47, 4, 3, 0), 0);
            for (int i = 0; i < 12; i++) {
                Check.due("the copy's item " + i + " of sort " + sort, x.item(2, i), x.item(1, i));
            }
        }
    }

    /** "47 T a becomes a copy of T b .. ITEMS that are THINGS are the same ones": of 0 and of 12 ITEMS, too. */
    private static void copies() {
        for (int sort = 0; sort <= 14; sort++) {
            for (int items : new int[] {0, 1, sort < 13 ? 12 : 6}) {
                int many = items;
                int kind = sort;
                Witness x = Twins.does("47 of sort " + sort, w -> w.holdThing(6, kind, many), 47, 7, 6, 0);
                int copy = x.count(0) - 1;
                Check.due("T 7", x.hold(0, 7), copy);
                Check.due("T 6 stays", x.hold(0, 6), 0);
                Check.due("sort", x.thing(copy, 0), sort);
                Check.due("items", x.thing(copy, 1), items);
                for (int i = 0; i < items; i++) {
                    Check.due("item", x.item(copy, i), sort < 8 ? 0 : sort < 13 ? -1 : 1 + i);
                }
            }
        }
        Witness x = twelve();
        Check.due("47 into its own hold", x.run(0, 47, 2, 2, 0, 32, 7, 2, 7), 0);
        Check.due("T 2", x.hold(0, 2), 1);
        for (int i = 0; i < 12; i++) {
            Check.due("the first one's item " + i, x.item(0, i), 1 + i);
            Check.due("the copy's item " + i, x.item(1, i), i == 0 ? 0 : 1 + i);
        }
    }

    /** "NULL; CAST (no ROW); ROOM". */
    private static void copyOrder() {
        Twins.fails("47 of none", NULL, Twins::nothing, 47, 7, 6, 0);
        Twins.fails("47 of none, without room", NULL, w -> w.makeThings(160), 47, 7, 6, 0);
        Twins.fails("47 of an object, without room", CAST, w -> w.makeThings(160), 47, 7, 0, 0);
        for (int c = 0; c <= 4; c++) {
            int sort = 16 + c;
            Twins.fails("47 of an object", CAST, w -> w.holdThing(6, sort, 0), 47, 7, 6, 0);
        }
    }

    /** For each kind the SORTS that are of it, as the document tells them. */
    private static int[] ofKind(int kind) {
        switch (kind) {
            case 8: return new int[] {8, 9, 10, 11, 12};
            case 9: return new int[] {9, 10, 11};
            case 10: return new int[] {10, 11};
            case 16: case 21: return new int[] {16, 17, 18, 19, 20};
            case 17: return new int[] {17, 18, 19};
            case 18: case 22: return new int[] {18, 19};
            case 23: return new int[] {20};
            case 24: return new int[] {};
            case 25: return new int[] {0, 1, 2, 3, 4, 5, 6, 7, 8, 9, 10, 11, 12, 13, 14};
            default: return new int[] {kind};
        }
    }

    private static boolean isIn(int sort, int[] sorts) {
        for (int each : sorts) {
            if (each == sort) {
                return true;
            }
        }
        return false;
    }

    /** "48 .. (none: 0); 49 T a becomes T b, TAKEN as kind c": all SORTS and none, by all kinds. */
    private static void kinds() {
        for (int kind = 0; kind <= 25; kind += kind == 14 ? 2 : 1) {
            for (int sort : SORTS) {
                boolean is = isIn(sort, ofKind(kind));
                Consumer<Witness> made = x -> {
                    x.holdThing(6, sort, sort < 16 ? 1 : 0);
                    x.setNumber(7, 5);
                };
                Witness x = Twins.does("48", made, 48, 7, 6, kind);
                Check.due("sort " + sort + " is of kind " + kind, x.number(0, 7), is ? 1 : 0);
                if (is) {
                    Check.due("49", Twins.does("49", made, 49, 7, 6, kind).hold(0, 7), 0);
                } else {
                    Twins.fails("sort " + sort + " taken as " + kind, CAST, made, 49, 7, 6, kind);
                }
            }
            Witness none = Twins.does("48 of none", w -> w.setNumber(7, 5), 48, 7, 6, kind);
            Check.due("none is of no kind", none.number(0, 7), 0);
            Witness taken = Twins.does("49 of none", w -> w.holdThing(7, 16, 0), 49, 7, 6, kind);
            Check.due("none is taken as all", taken.hold(0, 7), -1);
        }
    }

    private static void sameThings() {
        Witness x = new Witness();
        x.makeThings(2);
        Check.due("50", x.run(0, 12, 7, 0, 0, 18, 6, 0, 0, 0, 1, 5, 0, 0, 2, 5, 0, 0, 3, 5, 0, 0, 4, 5, 0, 0, 5, 5, 0,
                50, 1, 0, 7, 50, 2, 0, 6, 50, 3, 4, 5, 50, 4, 4, 0, 50, 5, 0, 4), 0);
        long[] due = {1, 0, 1, 0, 0};
        for (int k = 0; k < 5; k++) {
            Check.due("the same " + k, x.number(0, 1 + k), due[k]);
        }
    }
}
