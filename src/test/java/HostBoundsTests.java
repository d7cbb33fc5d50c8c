/** Promises 25 to 29: the boundary cases that they name. */
public final class HostBoundsTests {
    private static final Bounds B = new Bounds("HostBoundsTests");
    private static final int LOWEST = Bounds.LOWEST;
    private static final int HIGHEST = Bounds.HIGHEST;
    private static final int[] NONE_SUCH = {LOWEST, -1, 4, 5, HIGHEST};
    private static final String IDLE = "irons crease;takes 1;crumples 0;";

    public static void main(String[] args) {
        sheet();
        sheetMissing();
        sheetRefused();
        cell();
        cellBits();
        cellRefused();
        copy();
        copyOntoItself();
        copyNone();
        copyRefused();
        copyOutside();
        parts();
        partsLeftOut();
        partsRefused();
        partsOutside();
        taken();
        takenUnder();
        takenRefused();
        B.end();
    }

    private static Bounds.Calls row(int sheet, int sort, int... items) {
        return x -> Bounds.row(x, sheet, sort, items);
    }

    private static void sheet() {
        B.sentence("Promise 25", "A SHEET becomes a row of n of a sort, all 0");
        for (int s = 0; s < 4; s++) {
            int sheet = s;
            for (int t = 0; t < 3; t++) {
                int sort = t;
                for (int n : new int[] {0, 1, 39, 40}) {
                    String which = "SHEET " + sheet + ", sort " + sort + ", of " + n;
                    Bounds.Calls made = x -> x.sheet(sheet, sort, n);
                    B.due(which, 1, Bounds.SOME, x -> x.sheet(sheet, sort, n));
                    B.due(which + ": its last item", n == 0 ? -12 : 1, made, x -> x.cell(sheet, n - 1, 7));
                    B.due(which + ": none behind", -12, made, x -> x.cell(sheet, n, 7));
                    B.alike(which + ": nothing is left of what it was", Bounds.then(Bounds.SOME, made), x -> {
                        Bounds.SOME.on(x);
                        x.sheet(sheet, -1, 0);
                        x.sheet(sheet, sort, n);
                    });
                }
            }
        }
        B.due("all 0, where 40 other items were", 0, x -> {
            x.sheet(0, 2, 40);
            for (int i = 0; i < 40; i++) {
                x.cell(0, i, -1);
            }
            x.sheet(0, 2, 7);
            Bounds.parts(7).on(x);
            Bounds.rule(x, "irons 0;takes 1;crumples 0;");
        }, x -> x.tells(0, 0));
        B.due("all 0, where it had fewer", 0, x -> {
            x.sheet(0, 2, 40);
            for (int i = 0; i < 40; i++) {
                x.cell(0, i, -1);
            }
            x.sheet(0, 2, 1);
            x.sheet(0, 2, 7);
            Bounds.parts(7).on(x);
            Bounds.rule(x, "irons 0;takes 1;crumples 0;");
        }, x -> x.tells(0, 0));
        B.due("all 0, where it was missing in between", 0, x -> {
            Bounds.row(x, 0, 2, 9);
            x.sheet(0, -1, 1);
            x.sheet(0, 2, 1);
            Bounds.parts(1).on(x);
            Bounds.rule(x, "irons 0;takes 1;crumples 0;");
        }, x -> x.tells(0, 0));
    }

    private static void sheetMissing() {
        B.sentence("Promise 25", "or missing (sort -1: n does not matter): 1.");
        for (int n : new int[] {LOWEST, -1, 0, 1, 40, 41, HIGHEST}) {
            B.due("n " + n, 1, Bounds.SOME, x -> x.sheet(0, -1, n));
            B.due("n " + n + ": it is missing", -11, Bounds.SOME, x -> {
                x.sheet(0, -1, n);
                return x.cell(0, 0, 1);
            });
            B.changesNothing("n " + n + ", one that is missing already", 1, Bounds.SOME, x -> x.sheet(3, -1, n));
            B.changesNothing("n " + n + ", one that is missing at first", 1, Bounds.NEW, x -> x.sheet(0, -1, n));
        }
        B.alike("the others stay", Bounds.then(Bounds.SOME, x -> x.sheet(3, 0, 1)), x -> {
            Bounds.SOME.on(x);
            x.sheet(3, -1, 0);
            x.sheet(3, 0, 1);
        });
    }

    private static void sheetRefused() {
        B.sentence("Promise 25", "BAD: no such SHEET, sort; n above 40; -14.");
        for (int none : NONE_SUCH) {
            B.refused("SHEET " + none, -2, Bounds.SOME, x -> x.sheet(none, 0, 1));
            B.refused("SHEET " + none + ", to be missing", -2, Bounds.SOME, x -> x.sheet(none, -1, 1));
            B.refused("SHEET " + none + ", of a size below 0", -2, Bounds.SOME, x -> x.sheet(none, 0, -1));
        }
        for (int none : new int[] {LOWEST, -2, 3, 4, HIGHEST}) {
            B.refused("sort " + none, -2, Bounds.SOME, x -> x.sheet(0, none, 1));
            B.refused("sort " + none + ", of a size below 0", -2, Bounds.SOME, x -> x.sheet(0, none, -1));
            B.refused("sort " + none + ", n above 40", -2, Bounds.SOME, x -> x.sheet(0, none, 41));
        }
        for (int sort = 0; sort < 3; sort++) {
            int t = sort;
            for (int n : new int[] {41, 42, 256, HIGHEST}) {
                B.refused("n " + n, -2, Bounds.SOME, x -> x.sheet(t, t, n));
                B.refused("n " + n + ", of a missing one", -2, Bounds.SOME, x -> x.sheet(3, t, n));
            }
            for (int n : new int[] {-1, -2, -40, LOWEST}) {
                B.refused("n " + n, -14, Bounds.SOME, x -> x.sheet(t, t, n));
                B.refused("n " + n + ", of a missing one", -14, Bounds.SOME, x -> x.sheet(3, t, n));
            }
        }
    }

    private static void cell() {
        B.sentence("Promise 26", "Item i of a SHEET becomes v");
        for (int t = 0; t < 3; t++) {
            int sort = t;
            for (int i : new int[] {0, 1, 39}) {
                B.due("item " + i + " of 40, of sort " + sort, 1, x -> x.sheet(3, sort, 40), x -> x.cell(3, i, 7));
            }
            B.changesNothing("what it is already", 1, row(0, sort, 5, 6, 7), x -> x.cell(0, 2, 7));
            B.alike("the others stay, of sort " + sort, row(0, sort, 5, 6, 7), x -> {
                x.sheet(0, sort, 3);
                x.cell(0, 2, 7);
                x.cell(0, 0, 5);
                x.cell(0, 1, 99);
                x.cell(0, 1, 6);
            });
            for (int v : new int[] {0, 99}) {
                Bounds.Calls idle = x -> {
                    Bounds.parts(1).on(x);
                    Bounds.rule(x, IDLE);
                    Bounds.row(x, 0, sort, v);
                };
                B.due("v " + v + ", of sort " + sort, v, idle, x -> x.tells(0, 40));
            }
        }
    }

    /** The CREASES that an item is, or NONE. */
    private static void becomes(String which, int want, int sort, int v) {
        B.due(which, want, x -> {
            Bounds.parts(1).on(x);
            Bounds.rule(x, IDLE);
            Bounds.row(x, 0, sort, v);
        }, x -> x.tells(0, 40));
    }

    private static void cellBits() {
        B.sentence("Promise 26", "becomes v (of bytes, shorts its lowest 8, 16 bits): 1.");
        becomes("of bytes 255", -1, 0, 255);
        becomes("of bytes 256", 0, 0, 256);
        becomes("of bytes 257", 1, 0, 257);
        becomes("of bytes -256", 0, 0, -256);
        becomes("of bytes -157", 99, 0, -157);
        becomes("of bytes -1", -1, 0, -1);
        becomes("of bytes the lowest int", 0, 0, LOWEST);
        becomes("of bytes the highest int", -1, 0, HIGHEST);
        becomes("of bytes the highest int but 255", 0, 0, HIGHEST - 255);
        becomes("of shorts 65535", -1, 1, 65535);
        becomes("of shorts 65536", 0, 1, 65536);
        becomes("of shorts 65537", 1, 1, 65537);
        becomes("of shorts -65536", 0, 1, -65536);
        becomes("of shorts -65437", 99, 1, -65437);
        becomes("of shorts 256", -1, 1, 256);
        becomes("of shorts the lowest int", 0, 1, LOWEST);
        becomes("of shorts the highest int", -1, 1, HIGHEST);
        becomes("of ints 256", -1, 2, 256);
        becomes("of ints 65536", -1, 2, 65536);
        becomes("of ints 65537", -1, 2, 65537);
        becomes("of ints the lowest int", -1, 2, LOWEST);
        becomes("of ints the highest int", -1, 2, HIGHEST);
    }

    private static void cellRefused() {
        B.sentence("Promise 26", "BAD: no such SHEET; -11; -12.");
        for (int none : NONE_SUCH) {
            B.refused("SHEET " + none, -2, Bounds.SOME, x -> x.cell(none, 0, 7));
            B.refused("SHEET " + none + ", a place outside", -2, Bounds.SOME, x -> x.cell(none, -1, 7));
        }
        B.refused("a missing one", -11, Bounds.SOME, x -> x.cell(3, 0, 7));
        B.refused("a missing one, a place outside", -11, Bounds.SOME, x -> x.cell(3, -1, 7));
        B.refused("a missing one, the highest place", -11, Bounds.SOME, x -> x.cell(3, HIGHEST, 7));
        int[] size = {3, 5, 3};
        for (int sheet = 0; sheet < 3; sheet++) {
            int s = sheet;
            for (int i : new int[] {LOWEST, -1, size[s], size[s] + 1, 39, 40, HIGHEST}) {
                B.refused("item " + i + " of SHEET " + s, -12, Bounds.SOME, x -> x.cell(s, i, 7));
            }
        }
        B.refused("item 40 of 40", -12, Bounds.BRIMFUL, x -> x.cell(0, 40, 7));
        B.refused("item 0 of none", -12, x -> x.sheet(0, 2, 0), x -> x.cell(0, 0, 7));
        B.refused("what was an item of a longer one", -12, Bounds.then(Bounds.SOME, x -> x.sheet(1, 1, 2)),
                x -> x.cell(1, 2, 7));
    }

    private static Bounds.Calls rows(int sort) {
        return x -> {
            Bounds.row(x, 0, sort, 11, 12, 13, 14);
            Bounds.row(x, 1, sort, 21, 22, 23);
            x.sheet(2, (sort + 1) % 3, 4);
        };
    }

    private static void copied(String which, int sort, int[] want, int i, int j, int n) {
        B.due(which + ", of sort " + sort, n, rows(sort), x -> x.copy(0, i, 1, j, n));
        B.alike(which + ", of sort " + sort + ": what they are then",
                Bounds.then(rows(sort), x -> x.copy(0, i, 1, j, n)),
                Bounds.then(rows(sort), row(1, sort, want)));
    }

    private static void copy() {
        B.sentence("Promise 27", "n numbers of a SHEET, from item i on, come to another one's item j on (as they"
                + " were): n.");
        for (int sort = 0; sort < 3; sort++) {
            copied("none", sort, new int[] {21, 22, 23}, 0, 0, 0);
            copied("the first", sort, new int[] {11, 22, 23}, 0, 0, 1);
            copied("the last to the last", sort, new int[] {21, 22, 14}, 3, 2, 1);
            copied("the last to the first", sort, new int[] {14, 22, 23}, 3, 0, 1);
            copied("up to the end of the one", sort, new int[] {12, 13, 14}, 1, 0, 3);
            copied("up to the end of the other", sort, new int[] {21, 11, 12}, 0, 1, 2);
            copied("all of the other", sort, new int[] {11, 12, 13}, 0, 0, 3);
        }
        Bounds.Calls forty = x -> {
            Bounds.SOME.on(x);
            x.sheet(3, 2, 40);
            x.sheet(2, 2, 40);
            x.cell(2, 39, 7);
            x.cell(2, 0, 8);
        };
        B.due("all of 40", 40, forty, x -> x.copy(2, 0, 3, 0, 40));
        B.alike("all of 40: what they are then", Bounds.then(forty, x -> x.copy(2, 0, 3, 0, 40)),
                Bounds.then(forty, x -> {
            x.cell(3, 39, 7);
            x.cell(3, 0, 8);
        }));
    }

    private static void copyOntoItself() {
        B.sentence("Promise 27", "(as they were)");
        for (int sort = 0; sort < 3; sort++) {
            int t = sort;
            B.alike("onto itself, forth, of sort " + t, Bounds.then(rows(t), x -> x.copy(0, 0, 0, 1, 3)),
                    Bounds.then(rows(t), row(0, t, 11, 11, 12, 13)));
            B.alike("onto itself, back, of sort " + t, Bounds.then(rows(t), x -> x.copy(0, 1, 0, 0, 3)),
                    Bounds.then(rows(t), row(0, t, 12, 13, 14, 14)));
            B.alike("onto itself, the first to the last, of sort " + t,
                    Bounds.then(rows(t), x -> x.copy(0, 0, 0, 3, 1)),
                    Bounds.then(rows(t), row(0, t, 11, 12, 13, 11)));
            B.changesNothing("onto itself, in place, of sort " + t, 4, rows(t), x -> x.copy(0, 0, 0, 0, 4));
        }
        B.alike("what was copied does not change with the other", Bounds.then(rows(2), x -> {
            x.copy(0, 0, 1, 0, 3);
            x.cell(0, 0, 99);
        }), Bounds.then(rows(2), x -> {
            x.cell(0, 0, 99);
            Bounds.row(x, 1, 2, 11, 12, 13);
        }));
        B.due("ints are copied whole", 1, x -> {
            Bounds.parts(1).on(x);
            Bounds.row(x, 0, 2, 4 + 65536);
            Bounds.row(x, 1, 2, 4);
            x.copy(0, 0, 1, 0, 1);
        }, x -> x.tells(1, 0));
    }

    private static void copyNone() {
        B.sentence("Promise 27", "-12 (also with n below 0).");
        for (int i = 0; i <= 4; i++) {
            for (int j = 0; j <= 3; j++) {
                int from = i;
                int to = j;
                B.changesNothing("none from " + i + " to " + j + " is inside", 0, rows(1),
                        x -> x.copy(0, from, 1, to, 0));
            }
        }
        B.refused("none from behind the end", -12, rows(1), x -> x.copy(0, 5, 1, 0, 0));
        B.refused("none to behind the end", -12, rows(1), x -> x.copy(0, 0, 1, 4, 0));
        B.refused("none from below", -12, rows(1), x -> x.copy(0, -1, 1, 0, 0));
        B.refused("none to below", -12, rows(1), x -> x.copy(0, 0, 1, -1, 0));
        B.changesNothing("none of rows of none", 0, x -> {
            x.sheet(0, 0, 0);
            x.sheet(1, 0, 0);
        }, x -> x.copy(0, 0, 1, 0, 0));
        for (int n : new int[] {-1, -2, LOWEST}) {
            B.refused("n " + n, -12, rows(1), x -> x.copy(0, 0, 1, 0, n));
            B.refused("n " + n + " from 3", -12, rows(1), x -> x.copy(0, 3, 1, 2, n));
            B.refused("n " + n + " onto itself", -12, rows(1), x -> x.copy(0, 3, 0, 2, n));
        }
    }

    private static void copyRefused() {
        B.sentence("Promise 27", "BAD: no such SHEET; -11; -13: they are of unlike sorts;");
        for (int none : NONE_SUCH) {
            B.refused("SHEET " + none, -2, Bounds.SOME, x -> x.copy(none, 0, 0, 0, 1));
            B.refused("another one " + none, -2, Bounds.SOME, x -> x.copy(0, 0, none, 0, 1));
            B.refused("another one " + none + ", of a missing one", -2, Bounds.SOME, x -> x.copy(3, 0, none, 0, 1));
            B.refused("SHEET " + none + ", to a missing one", -2, Bounds.SOME, x -> x.copy(none, 0, 3, 0, 1));
            B.refused("neither, n below 0", -2, Bounds.SOME, x -> x.copy(none, -1, none, -1, -1));
        }
        B.refused("of a missing one", -11, Bounds.SOME, x -> x.copy(3, 0, 0, 0, 1));
        B.refused("to a missing one", -11, Bounds.SOME, x -> x.copy(0, 0, 3, 0, 1));
        B.refused("both are missing", -11, Bounds.NEW, x -> x.copy(0, 0, 1, 0, 0));
        B.refused("a missing one onto itself", -11, Bounds.SOME, x -> x.copy(3, 0, 3, 0, 0));
        B.refused("a missing one, outside", -11, Bounds.SOME, x -> x.copy(0, -1, 3, -1, -1));
        for (int s = 0; s < 3; s++) {
            for (int o = 0; o < 3; o++) {
                int sheet = s;
                int other = o;
                if (s != o) {
                    B.refused("sorts " + s + ", " + o, -13, Bounds.SOME, x -> x.copy(sheet, 0, other, 0, 1));
                    B.refused("sorts " + s + ", " + o + ", none", -13, Bounds.SOME, x -> x.copy(sheet, 0, other, 0, 0));
                    B.refused("sorts " + s + ", " + o + ", outside", -13, Bounds.SOME,
                            x -> x.copy(sheet, 9, other, -1, -1));
                }
            }
        }
    }

    private static void copyOutside() {
        B.sentence("Promise 27", "-13: they are of unlike sorts; -12");
        int[][] outside = {{-1, 0, 1}, {0, -1, 1}, {4, 0, 1}, {0, 3, 1}, {3, 0, 2}, {0, 2, 2}, {0, 0, 4}, {1, 0, 4},
            {0, 0, 5}, {0, 1, 3}, {2, 1, 3}, {LOWEST, 0, 1}, {0, LOWEST, 1}, {HIGHEST, 0, 1}, {0, HIGHEST, 1},
            {0, 0, HIGHEST}, {1, 1, HIGHEST}, {HIGHEST, 0, HIGHEST}, {0, HIGHEST, HIGHEST}, {HIGHEST, HIGHEST, 2},
            {LOWEST, LOWEST, LOWEST}, {HIGHEST - 1, 0, 3}, {5, 0, LOWEST}, {-1, 0, HIGHEST}, {0, 0, 40}, {0, 0, 41}};
        for (int sort = 0; sort < 3; sort++) {
            int t = sort;
            for (int[] o : outside) {
                B.refused("from " + o[0] + " to " + o[1] + ", " + o[2] + " of sort " + t, -12, rows(t),
                        x -> x.copy(0, o[0], 1, o[1], o[2]));
            }
        }
        B.refused("what was an item of a longer one", -12, Bounds.then(rows(0), x -> x.sheet(0, 0, 2)),
                x -> x.copy(0, 2, 1, 0, 1));
        B.refused("41 of 40", -12, Bounds.BRIMFUL, x -> x.copy(0, 0, 0, 0, 41));
        B.refused("40 of 40, one later", -12, Bounds.BRIMFUL, x -> x.copy(0, 0, 3, 1, 40));
    }

    private static void parts() {
        B.sentence("Promise 28", "from one on, two by two (as of part()), n of them (0 .. 7): how many came (others"
                + " are left out).");
        for (int t = 0; t < 3; t++) {
            int sort = t;
            Bounds.Calls pairs = row(0, sort, 0, 0, 1, 1, 2, 2, 3, 3, 4, 4, 5, 5, 0, 9);
            for (int many = 0; many <= 7; many++) {
                int n = many;
                B.due(n + " of sort " + sort, n, pairs, x -> x.parts(0, sort, 0, n));
                B.alike(n + " of sort " + sort + ", as of part()", Bounds.then(pairs, x -> x.parts(0, sort, 0, n)),
                        Bounds.then(pairs, x -> {
                            for (int i = 0; i < n; i++) {
                                x.part(i % 6, i < 6 ? i : 9);
                            }
                        }));
            }
            B.due("from the last pair on", 1, pairs, x -> x.parts(0, sort, 12, 1));
            B.due("from an odd place on: KIND is what was a NUMBER", 1, row(0, sort, 9, 4, 7, 6),
                    x -> x.parts(0, sort, 1, 1));
            B.due("its KIND", 4, row(0, sort, 9, 4, 7, 6), x -> {
                x.parts(0, sort, 1, 1);
                return x.told(0, 5);
            });
            B.due("its NUMBER", 7, row(0, sort, 9, 4, 7, 6), x -> {
                x.parts(0, sort, 1, 1);
                return x.told(0, 2);
            });
            B.changesNothing("none", 0, pairs, x -> x.parts(0, sort, 0, 0));
            B.changesNothing("none of a row of none", 0, x -> x.sheet(0, sort, 0), x -> x.parts(0, sort, 0, 0));
            B.changesNothing("none from outside: no item is asked for", 0, pairs, x -> x.parts(0, sort, -1, 0));
        }
    }

    private static void partsLeftOut() {
        B.sentence("Promise 28", "how many came (others are left out).");
        int[][] others = {{-1, 0}, {6, 0}, {0, -1}, {0, 10}, {6, 10}, {127, 0}, {0, -128}};
        for (int[] o : others) {
            Bounds.Calls between = row(0, 0, 1, 1, o[0], o[1], 2, 2);
            B.due(o[0] + ", " + o[1] + " is left out", 2, between, x -> x.parts(0, 0, 0, 3));
            B.alike(o[0] + ", " + o[1] + " is left out: who came", Bounds.then(between, x -> x.parts(0, 0, 0, 3)),
                    Bounds.then(between, x -> {
                        x.part(1, 1);
                        x.part(2, 2);
                    }));
            B.changesNothing(o[0] + ", " + o[1] + " alone", 0, row(0, 0, o[0], o[1]), x -> x.parts(0, 0, 0, 1));
        }
        B.due("of ints all bits count", 0, row(0, 2, 256, 256), x -> x.parts(0, 2, 0, 1));
        B.due("of bytes the lowest 8", 1, row(0, 0, 256, 256), x -> x.parts(0, 0, 0, 1));
        for (int many = 0; many <= 7; many++) {
            int there = many;
            B.due("behind " + many + " the others have no room", 7 - many, x -> {
                Bounds.parts(there).on(x);
                x.sheet(0, 0, 14);
            }, x -> x.parts(0, 0, 0, 7));
        }
        B.changesNothing("nothing has room", 0, Bounds.BRIMFUL, x -> x.parts(0, 0, 0, 7));
    }

    private static void partsRefused() {
        B.sentence("Promise 28", "BAD: no such SHEET, sort, n; -13; -11;");
        for (int none : NONE_SUCH) {
            B.refused("SHEET " + none, -2, Bounds.SOME, x -> x.parts(none, 0, 0, 1));
        }
        for (int none : new int[] {LOWEST, -1, 3, 4, HIGHEST}) {
            B.refused("sort " + none, -2, Bounds.SOME, x -> x.parts(0, none, 0, 1));
            B.refused("sort " + none + " of a missing one", -2, Bounds.SOME, x -> x.parts(3, none, 0, 1));
        }
        for (int none : new int[] {LOWEST, -1, 8, 9, HIGHEST}) {
            B.refused("n " + none, -2, Bounds.SOME, x -> x.parts(1, 1, 0, none));
            B.refused("n " + none + " of another sort", -2, Bounds.SOME, x -> x.parts(1, 0, 0, none));
            B.refused("n " + none + " of a missing one", -2, Bounds.SOME, x -> x.parts(3, 0, 0, none));
        }
        for (int s = 0; s < 3; s++) {
            for (int t = 0; t < 3; t++) {
                int sheet = s;
                int sort = t;
                if (s != t) {
                    B.refused("sort " + s + " taken for " + t, -13, Bounds.SOME, x -> x.parts(sheet, sort, 0, 1));
                    B.refused("sort " + s + " taken for " + t + ", none", -13, Bounds.SOME,
                            x -> x.parts(sheet, sort, 0, 0));
                    B.refused("sort " + s + " taken for " + t + ", outside", -13, Bounds.SOME,
                            x -> x.parts(sheet, sort, -1, 7));
                }
            }
            int sort = s;
            B.refused("a missing one taken for " + s, -11, Bounds.SOME, x -> x.parts(3, sort, 0, 1));
            B.refused("a missing one taken for " + s + ", none", -11, Bounds.SOME, x -> x.parts(3, sort, 0, 0));
            B.refused("a missing one taken for " + s + ", outside", -11, Bounds.SOME, x -> x.parts(3, sort, -1, 7));
        }
    }

    private static void partsOutside() {
        B.sentence("Promise 28", "-12: what stood ahead came.");
        Bounds.Calls five = x -> {
            Bounds.SOME.on(x);
            Bounds.row(x, 1, 1, 4, 7, 3, 8, 2);
        };
        for (int from : new int[] {LOWEST, LOWEST + 1, -2, -1, 4, 5, 6, 40, HIGHEST - 1, HIGHEST}) {
            B.refused("at once, from " + from, -12, five, x -> x.parts(1, 1, from, 1));
            B.refused("at once, from " + from + ", 7", -12, five, x -> x.parts(1, 1, from, 7));
        }
        for (int n = 3; n < 8; n++) {
            int many = n;
            B.due("two pairs and a half, " + n, -12, five, x -> x.parts(1, 1, 0, many));
            B.alike("two pairs and a half, " + n + ": two came", Bounds.then(five, x -> x.parts(1, 1, 0, many)),
                    Bounds.then(five, x -> {
                        x.part(4, 7);
                        x.part(3, 8);
                    }));
        }
        B.alike("from 2 on: one came", Bounds.then(five, x -> x.parts(1, 1, 2, 7)),
                Bounds.then(five, x -> x.part(3, 8)));
        B.alike("from 3 on: none that could", Bounds.then(five, x -> x.parts(1, 1, 3, 7)), five);
        B.refused("of a row of none", -12, x -> x.sheet(0, 0, 0), x -> x.parts(0, 0, 0, 1));
        B.refused("of a row of one", -12, x -> x.sheet(0, 0, 1), x -> x.parts(0, 0, 0, 1));
        B.refused("where nothing has room", -12, Bounds.BRIMFUL, x -> x.parts(0, 0, 39, 1));
        B.refused("where nothing has room, behind others", -12, Bounds.BRIMFUL, x -> x.parts(0, 0, 36, 3));
        B.refused("behind others that are left out", -12, x -> Bounds.row(x, 0, 0, 6, 0, 0, 10),
                x -> x.parts(0, 0, 0, 3));
        B.due("what was an item of a longer one", -12, Bounds.then(five, x -> x.sheet(1, 1, 2)),
                x -> x.parts(1, 1, 0, 2));
    }

    private static void taken() {
        B.sentence("Promise 29", "A PART taken for one of KIND k (0 .. 5)");
        for (int kind = 0; kind < 6; kind++) {
            int k = kind;
            for (int number : new int[] {0, 9}) {
                B.changesNothing("KIND " + k + " for its own, NUMBER " + number, number, x -> x.part(k, number),
                        x -> x.taken(0, k));
                B.changesNothing("KIND " + k + " for PART, NUMBER " + number, number, x -> x.part(k, number),
                        x -> x.taken(0, 0));
            }
            B.due("the last of seven", 9, Bounds.then(Bounds.parts(6), x -> x.part(k, 9)), x -> x.taken(6, k));
            B.due("NUMBER as it was set", 4, x -> {
                x.part(k, 9);
                x.set(2, 0, 4);
            }, x -> x.taken(0, k));
        }
    }

    private static void takenUnder() {
        B.sentence("Promise 29", "or one under that one (also by others between): its NUMBER.");
        int[][] under = {{1, 0}, {2, 0}, {5, 0}, {3, 1}, {4, 2}, {3, 0}, {4, 0}};
        for (int[] u : under) {
            B.changesNothing("KIND " + u[0] + " is under " + u[1], 7, x -> x.part(u[0], 7), x -> x.taken(0, u[1]));
            B.refused("KIND " + u[1] + " is not under " + u[0], -13, x -> x.part(u[1], 7), x -> x.taken(0, u[0]));
        }
        int[][] apart = {{1, 2}, {1, 5}, {2, 5}, {3, 2}, {3, 4}, {3, 5}, {4, 1}, {4, 5}};
        for (int[] a : apart) {
            B.refused("KIND " + a[0] + " is not under " + a[1], -13, x -> x.part(a[0], 7), x -> x.taken(0, a[1]));
            B.refused("KIND " + a[1] + " is not under " + a[0], -13, x -> x.part(a[1], 7), x -> x.taken(0, a[0]));
        }
    }

    private static void takenRefused() {
        B.sentence("Promise 29", "BAD: k; -11: no such PART; -13.");
        for (int none : new int[] {LOWEST, -1, 6, 7, HIGHEST}) {
            B.refused("k " + none, -2, Bounds.SOME, x -> x.taken(0, none));
            B.refused("k " + none + ", no such PART", -2, Bounds.SOME, x -> x.taken(3, none));
            B.refused("k " + none + ", no PARTS", -2, Bounds.NEW, x -> x.taken(0, none));
        }
        for (int none : new int[] {LOWEST, -1, 3, 7, HIGHEST}) {
            B.refused("PART " + none, -11, Bounds.SOME, x -> x.taken(none, 0));
            B.refused("PART " + none + ", the largest k", -11, Bounds.SOME, x -> x.taken(none, 5));
        }
        B.refused("PART 0, where there are none", -11, Bounds.NEW, x -> x.taken(0, 0));
        B.refused("PART 7, where there are seven", -11, Bounds.BRIMFUL, x -> x.taken(7, 0));
        B.refused("of another KIND", -13, Bounds.SOME, x -> x.taken(0, 5));
    }
}
