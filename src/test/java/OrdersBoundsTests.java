/** Promises 9 to 17: the boundary cases that they name. */
public final class OrdersBoundsTests {
    private static final Bounds B = new Bounds("OrdersBoundsTests");
    private static final int LOWEST = Bounds.LOWEST;
    private static final int HIGHEST = Bounds.HIGHEST;
    /** Three in a ring: 0 lies on 1, 1 on 2, 2 on 0. */
    private static final Bounds.Calls RING = x -> {
        x.part(0, 0);
        x.part(2, 1);
        x.part(1, 0);
        x.set(4, 0, 2);
        x.set(4, 1, 4);
        x.set(4, 2, 1);
    };

    public static void main(String[] args) {
        plain();
        plainRefused();
        order();
        orderNone();
        orderWhat();
        orderTellsNoneSuch();
        best();
        worst();
        change();
        leave();
        spray();
        how();
        enough();
        B.end();
    }

    private static boolean isOfOrder(int what, int many) {
        return what == 0 || what == 1 || what >= 10 && what < 10 + many || what >= 20 && what < 20 + many;
    }

    private static void plain() {
        B.sentence("Promise 9", "PLAIN: CREASED (what 0), MINUTES (1); of PART what modulo 10 CREASES at last (10"
                + " ..), the MINUTE behind which it was ironed (20 ..).");
        B.changesNothing("no PARTS: CREASED", 0, Bounds.NEW, x -> x.plain(0));
        B.changesNothing("no PARTS: MINUTES", 0, Bounds.NEW, x -> x.plain(1));
        B.changesNothing("CREASED", 8 + 5 + 6, RING, x -> x.plain(0));
        B.changesNothing("MINUTES", 8, RING, x -> x.plain(1));
        B.changesNothing("CREASES of the first", 8, RING, x -> x.plain(10));
        B.changesNothing("CREASES of the last", 2, RING, x -> x.plain(12));
        B.changesNothing("the MINUTE of the first", 2, RING, x -> x.plain(20));
        B.changesNothing("the MINUTE of the last", 8, RING, x -> x.plain(22));
        B.due("CREASES of the last of seven", 4, Bounds.parts(7), x -> x.plain(16));
        B.due("the MINUTE of the last of seven", 14, Bounds.parts(7), x -> x.plain(26));
        B.due("again the same", 19, RING, x -> {
            x.plain(0);
            return x.plain(0);
        });
        B.due("of some of all", 8 + 11 + 2 * 5, Bounds.SOME, x -> x.plain(1));
    }

    private static void plainRefused() {
        B.sentence("Promise 9", "it was ironed (20 ..). BAD.");
        for (int many = 0; many < 8; many++) {
            int there = many;
            for (int w = -12; w < 50; w++) {
                int what = w;
                if (isOfOrder(what, many)) {
                    B.due("what " + what + " of " + many + " PARTS is answered", 1, Bounds.parts(there),
                            x -> x.plain(what) >= 0 ? 1 : 0);
                } else {
                    B.due("what " + what + " of " + many + " PARTS", -2, Bounds.parts(there), x -> x.plain(what));
                }
            }
        }
        for (int what : new int[] {LOWEST, -20, -10, -1, 2, 9, 13, 19, 23, 29, 30, 31, 100, 110, HIGHEST}) {
            B.refused("what " + what, -2, Bounds.SOME, x -> x.plain(what));
        }
    }

    private static Bounds.Calls row(Bounds.Calls before, int sort, int... items) {
        return x -> {
            before.on(x);
            Bounds.row(x, 0, sort, items);
        };
    }

    private static void order() {
        B.sentence("Promise 10", "By a SHEET's order (some PARTS, none twice): likewise (20 ..: NONE, if it isn't"
                + " ironed).");
        for (int sort = 0; sort < 3; sort++) {
            B.changesNothing("no PARTS, of sort " + sort, 0, row(Bounds.NEW, sort), x -> x.order(0, 0));
            Bounds.Calls none = row(RING, sort);
            B.changesNothing("nobody is ironed: CREASED", 250, none, x -> x.order(0, 0));
            B.changesNothing("nobody is ironed: MINUTES", 0, none, x -> x.order(0, 1));
            B.changesNothing("nobody is ironed: CREASES", 50, none, x -> x.order(0, 12));
            B.changesNothing("nobody is ironed: NONE", -1, none, x -> x.order(0, 20));
            B.changesNothing("nobody is ironed: NONE, the last", -1, none, x -> x.order(0, 22));
            Bounds.Calls one = row(RING, sort, 2);
            B.changesNothing("one is ironed: CREASED", 54 + 50 + 6, one, x -> x.order(0, 0));
            B.changesNothing("one is ironed: its MINUTE", 4, one, x -> x.order(0, 22));
            B.changesNothing("one is ironed: NONE of another", -1, one, x -> x.order(0, 21));
            Bounds.Calls all = row(RING, sort, 0, 1, 2);
            B.changesNothing("all are ironed, as PLAIN", 19, all, x -> x.order(0, 0));
            B.changesNothing("all are ironed: the MINUTE of the last", 8, all, x -> x.order(0, 22));
        }
        B.due("all of seven, the last first: MINUTE of 6", 2, row(Bounds.parts(7), 0, 6, 5, 4, 3, 2, 1, 0),
                x -> x.order(0, 26));
        B.due("all of seven, the last first: MINUTE of 0", 14, row(Bounds.parts(7), 0, 6, 5, 4, 3, 2, 1, 0),
                x -> x.order(0, 20));
        B.due("behind another call: nothing of its order is left", 54 + 50 + 6, row(RING, 0, 2), x -> {
            x.best(0);
            return x.order(0, 0);
        });
        B.due("behind a refused one: nothing of its order is left", 54 + 50 + 6, row(RING, 0, 2), x -> {
            Bounds.row(x, 1, 0, 0, 1, 1);
            x.order(1, 0);
            return x.order(0, 0);
        });
        B.due("again the same", 54 + 50 + 6, row(RING, 0, 2), x -> {
            x.order(0, 0);
            return x.order(0, 0);
        });
        B.due("SHEET 3", 4, Bounds.parts(1), x -> {
            Bounds.row(x, 3, 0, 0);
            return x.order(3, 0);
        });
    }

    private static void orderNone() {
        B.sentence("Promise 10", "BAD: SHEET, what, no such PART; -11;");
        for (int none : new int[] {LOWEST, -1, 4, 5, HIGHEST}) {
            B.refused("SHEET " + none, -2, Bounds.SOME, x -> x.order(none, 0));
        }
        for (int what : new int[] {LOWEST, -1, 2, 9, 13, 17, 19, 23, 27, 29, 30, 40, HIGHEST}) {
            B.refused("what " + what, -2, Bounds.SOME, x -> x.order(2, what));
            B.refused("what " + what + " of a missing one: ahead of -11", -2, Bounds.SOME, x -> x.order(3, what));
            B.refused("what " + what + " of none such in it: BAD all the same", -2, Bounds.SOME, x -> x.order(0, what));
        }
        B.refused("a missing one", -11, Bounds.SOME, x -> x.order(3, 0));
        B.refused("a missing one, the largest what", -11, Bounds.SOME, x -> x.order(3, 22));
        B.refused("a missing one, no PARTS", -11, Bounds.NEW, x -> x.order(0, 1));
        B.refused("one that is missing again", -11, Bounds.then(Bounds.SOME, x -> x.sheet(2, -1, 3)),
                x -> x.order(2, 0));
    }

    private static void orderWhat() {
        B.sentence("Promise 10", "what, no such PART;");
        for (int many = 0; many < 8; many++) {
            int there = many;
            for (int w = -12; w < 50; w++) {
                int what = w;
                B.due("what " + what + " of " + many + " PARTS", isOfOrder(what, many) ? 1 : 0,
                        row(Bounds.parts(there), 0),
                        x -> x.order(0, what) == -2 ? 0 : 1);
            }
        }
    }

    private static void orderTellsNoneSuch() {
        B.sentence("Promise 10", "BAD: it tells none such.");
        for (int none : new int[] {LOWEST, -256, -1, 3, 7, 31, 32, 33, 256, 65536, HIGHEST}) {
            B.refused("item " + none, -2, row(RING, 2, none), x -> x.order(0, 0));
            B.refused("item " + none + " at last", -2, row(RING, 2, 0, 1, none), x -> x.order(0, 1));
        }
        for (int none : new int[] {-128, -1, 3, 127, 128, 255}) {
            B.refused("of bytes " + none, -2, row(RING, 0, none), x -> x.order(0, 0));
        }
        for (int none : new int[] {-32768, -1, 3, 256, 32767, 65535}) {
            B.refused("of shorts " + none, -2, row(RING, 1, none), x -> x.order(0, 0));
        }
        B.due("of bytes 256 is 0", 2, row(RING, 0, 256), x -> x.order(0, 20));
        B.due("of shorts 65536 is 0", 2, row(RING, 1, 65536), x -> x.order(0, 20));
        B.refused("one twice", -2, row(RING, 0, 0, 0), x -> x.order(0, 0));
        B.refused("one twice, far apart", -2, row(RING, 0, 2, 1, 2), x -> x.order(0, 0));
        B.refused("one more than there are", -2, row(RING, 0, 0, 1, 2, 0), x -> x.order(0, 0));
        B.refused("one more than seven", -2, row(Bounds.parts(7), 0, 0, 1, 2, 3, 4, 5, 6, 6), x -> x.order(0, 0));
        B.refused("none such behind seven", -2, row(Bounds.parts(7), 0, 0, 1, 2, 3, 4, 5, 6, 7), x -> x.order(0, 0));
        B.refused("of 40", -2, Bounds.BRIMFUL, x -> x.order(0, 0));
        B.refused("no PARTS, one item", -2, row(Bounds.NEW, 0, 0), x -> x.order(0, 0));
        B.due("then PLAIN is as it was", 19, row(RING, 0, 2, 1, 1), x -> {
            x.order(0, 0);
            return x.plain(0);
        });
    }

    private static void best() {
        B.sentence("Promise 11", "BEST: CREASED (what 0), the order as digits (1; 0: no PARTS). BAD.");
        B.changesNothing("no PARTS", 0, Bounds.NEW, x -> x.best(0));
        B.changesNothing("no PARTS: 0", 0, Bounds.NEW, x -> x.best(1));
        B.changesNothing("one PART", 4, Bounds.parts(1), x -> x.best(0));
        B.changesNothing("one PART: 1", 1, Bounds.parts(1), x -> x.best(1));
        B.changesNothing("a ring", 19, RING, x -> x.best(0));
        B.changesNothing("a ring: digits", 123, RING, x -> x.best(1));
        B.changesNothing("seven", 1234567, Bounds.parts(7), x -> x.best(1));
        // whoever is first keeps 0; behind it 0 keeps 4, 1 keeps 11
        B.changesNothing("the last of all", 21, x -> {
            Bounds.parts(2).on(x);
            Bounds.rule(x, "irons 4 * (0 < minute) + 7 * part * minute;takes 1;crumples 0;");
        }, x -> x.best(1));
        for (int what : new int[] {LOWEST, -1, 2, 10, HIGHEST}) {
            B.refused("what " + what, -2, Bounds.SOME, x -> x.best(what));
            B.refused("what " + what + ", no PARTS", -2, Bounds.NEW, x -> x.best(what));
        }
    }

    private static void worst() {
        B.sentence("Promise 12", "WORST FIRST: likewise. BAD.");
        B.changesNothing("no PARTS", 0, Bounds.NEW, x -> x.worst(0));
        B.changesNothing("no PARTS: 0", 0, Bounds.NEW, x -> x.worst(1));
        B.changesNothing("one PART", 4, Bounds.parts(1), x -> x.worst(0));
        B.changesNothing("one PART: 1", 1, Bounds.parts(1), x -> x.worst(1));
        B.changesNothing("a ring", 21, RING, x -> x.worst(0));
        B.changesNothing("a ring: digits", 312, RING, x -> x.worst(1));
        B.changesNothing("seven", 1234567, Bounds.parts(7), x -> x.worst(1));
        for (int what : new int[] {LOWEST, -1, 2, 10, HIGHEST}) {
            B.refused("what " + what, -2, Bounds.SOME, x -> x.worst(what));
            B.refused("what " + what + ", no PARTS", -2, Bounds.NEW, x -> x.worst(what));
        }
    }

    private static void change() {
        B.sentence("Promise 13", "CHANGE: 10 times the one, and the other (what 0; NONE), CREASED then (1; PLAIN,"
                + " if none). BAD.");
        B.changesNothing("no PARTS: NONE", -1, Bounds.NEW, x -> x.change(0));
        B.changesNothing("no PARTS: PLAIN", 0, Bounds.NEW, x -> x.change(1));
        B.changesNothing("one PART: NONE", -1, Bounds.parts(1), x -> x.change(0));
        B.changesNothing("one PART: PLAIN", 4, Bounds.parts(1), x -> x.change(1));
        Bounds.Calls lastTwo = x -> {
            Bounds.parts(7).on(x);
            for (int i = 0; i < 5; i++) {
                x.set(4, i, 127 >> i + 1 << i + 1);
            }
            x.set(4, 6, 32);
        };
        B.changesNothing("the last two of seven", 56, lastTwo, x -> x.change(0));
        B.changesNothing("the last two of seven: CREASED then", 28, lastTwo, x -> x.change(1));
        B.changesNothing("the first two", 1, x -> {
            Bounds.parts(2).on(x);
            x.set(4, 1, 1);
        }, x -> x.change(0));
        B.changesNothing("a ring: NONE", -1, RING, x -> x.change(0));
        B.changesNothing("a ring: PLAIN", 19, RING, x -> x.change(1));
        for (int what : new int[] {LOWEST, -1, 2, 10, HIGHEST}) {
            B.refused("what " + what, -2, Bounds.SOME, x -> x.change(what));
            B.refused("what " + what + ", no PARTS", -2, Bounds.NEW, x -> x.change(what));
        }
    }

    private static void leave() {
        B.sentence("Promise 14", "LEAVE (what 0; NONE), CREASED then (1; PLAIN, if none). BAD.");
        B.changesNothing("no PARTS: NONE", -1, Bounds.NEW, x -> x.leave(0));
        B.changesNothing("no PARTS: PLAIN", 0, Bounds.NEW, x -> x.leave(1));
        B.changesNothing("one PART: NONE", -1, Bounds.parts(1), x -> x.leave(0));
        B.changesNothing("one PART: PLAIN", 4, Bounds.parts(1), x -> x.leave(1));
        Bounds.Calls smooth = x -> {
            Bounds.parts(1).on(x);
            x.set(3, 0, 0);
        };
        B.changesNothing("one smooth PART: it", 0, smooth, x -> x.leave(0));
        B.changesNothing("one smooth PART: CREASED then", 0, smooth, x -> x.leave(1));
        Bounds.Calls last = x -> {
            Bounds.parts(7).on(x);
            x.set(3, 6, 3);
        };
        B.changesNothing("the last of seven", 6, last, x -> x.leave(0));
        B.changesNothing("the last of seven: CREASED then", 27, last, x -> x.leave(1));
        B.changesNothing("one that crumples more than it keeps", 1, x -> {
            Bounds.parts(2).on(x);
            x.set(3, 1, 7);
            x.set(4, 1, 1);
        }, x -> x.leave(0));
        B.changesNothing("one that crumples as much as it keeps: NONE", -1, x -> {
            Bounds.parts(2).on(x);
            x.set(3, 1, 8);
            x.set(4, 1, 1);
        }, x -> x.leave(0));
        for (int what : new int[] {LOWEST, -1, 2, 10, HIGHEST}) {
            B.refused("what " + what, -2, Bounds.SOME, x -> x.leave(what));
            B.refused("what " + what + ", no PARTS", -2, Bounds.NEW, x -> x.leave(what));
        }
    }

    private static void spray() {
        B.sentence("Promise 15", "SPRAY (what 0; NONE), CREASED then (1; PLAIN, if none). BAD.");
        B.changesNothing("no PARTS: NONE", -1, Bounds.NEW, x -> x.spray(0));
        B.changesNothing("no PARTS: PLAIN", 0, Bounds.NEW, x -> x.spray(1));
        B.changesNothing("DAMP does not matter: NONE", -1, Bounds.parts(7), x -> x.spray(0));
        B.changesNothing("DAMP does not matter: PLAIN", 28, Bounds.parts(7), x -> x.spray(1));
        Bounds.Calls damper = x -> {
            Bounds.parts(7).on(x);
            x.set(1, 0, 6);
            Bounds.rule(x, "irons 6 - damp;takes 1;crumples 0;");
        };
        // 0 1 2 3 4 5 6; from place 3 or 4 on anew: 0 1 2 0 1 2 3, 0 1 2 3 0 1 2
        B.changesNothing("of like ones the first", 3, damper, x -> x.spray(0));
        B.changesNothing("CREASED then", 9, damper, x -> x.spray(1));
        B.due("PLAIN behind it", 21, damper, x -> {
            x.spray(1);
            return x.plain(0);
        });
        for (int what : new int[] {LOWEST, -1, 2, 10, HIGHEST}) {
            B.refused("what " + what, -2, Bounds.SOME, x -> x.spray(what));
            B.refused("what " + what + ", no PARTS", -2, Bounds.NEW, x -> x.spray(what));
        }
    }

    private static void how() {
        B.sentence("Promise 16", "HOW DAMP (what 0), CREASED then (1), HOW HOT (2), CREASED then (3). BAD.");
        for (int item = 0; item < 4; item++) {
            int what = item;
            B.changesNothing("no PARTS: what " + what, 0, Bounds.NEW, x -> x.how(what));
        }
        Bounds.Calls ruled = x -> {
            Bounds.parts(2).on(x);
            x.set(0, 0, 3);
            x.set(1, 0, 70);
            Bounds.rule(x, "irons 99 - damp + heat;takes 1;crumples 0;");
        };
        B.changesNothing("the largest DAMP", 99, ruled, x -> x.how(0));
        B.changesNothing("CREASED then, by HEAT as it is", 3 + 4, ruled, x -> x.how(1));
        B.changesNothing("the smallest HEAT", 0, ruled, x -> x.how(2));
        B.changesNothing("CREASED then, by DAMP as it is", 29 + 30, ruled, x -> x.how(3));
        B.changesNothing("the largest HEAT", 9, Bounds.parts(7), x -> x.how(2));
        B.changesNothing("the smallest DAMP", 0, Bounds.parts(7), x -> x.how(0));
        for (int what : new int[] {LOWEST, -1, 4, 10, HIGHEST}) {
            B.refused("what " + what, -2, Bounds.SOME, x -> x.how(what));
            B.refused("what " + what + ", no PARTS", -2, Bounds.NEW, x -> x.how(what));
        }
    }

    private static void enough() {
        B.sentence("Promise 17", "ENOUGH. BAD; NONE.");
        B.changesNothing("no PARTS, the smallest k", 0, Bounds.NEW, x -> x.enough(0));
        B.changesNothing("no PARTS, the largest k", 0, Bounds.NEW, x -> x.enough(9999));
        B.changesNothing("seven, the smallest k: NONE", -1, Bounds.parts(7), x -> x.enough(0));
        B.changesNothing("seven, the largest k", 0, Bounds.parts(7), x -> x.enough(9999));
        B.changesNothing("as much as there is", 0, Bounds.parts(7), x -> x.enough(350));
        B.changesNothing("one less", 1, Bounds.parts(7), x -> x.enough(349));
        B.changesNothing("all are needed", 127, Bounds.parts(7), x -> x.enough(28));
        B.changesNothing("all are too few: NONE", -1, Bounds.parts(7), x -> x.enough(27));
        // a ring: who is ironed at last crumples the next one
        B.changesNothing("a ring, of all", 7, RING, x -> x.enough(19));
        B.changesNothing("a ring, none", -1, RING, x -> x.enough(18));
        for (int k : new int[] {LOWEST, -1, 10000, HIGHEST}) {
            B.refused("k " + k, -2, Bounds.SOME, x -> x.enough(k));
            B.refused("k " + k + ", no PARTS", -2, Bounds.NEW, x -> x.enough(k));
        }
    }
}
