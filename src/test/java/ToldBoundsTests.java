/** Promises 18 to 24: the boundary cases that they name. */
public final class ToldBoundsTests {
    private static final Bounds B = new Bounds("ToldBoundsTests");
    private static final int LOWEST = Bounds.LOWEST;
    private static final int HIGHEST = Bounds.HIGHEST;
    private static final String IDLE = "irons crease;takes 1;crumples 0;";

    public static void main(String[] args) {
        tells();
        tellsRefused();
        tellsWhat();
        tellsSize();
        film();
        filmRefused();
        drawn();
        chance();
        chanceRefused();
        image();
        back();
        backRefused();
        count();
        countRefused();
        B.end();
    }

    /** So many of KIND PART, and SHEET 0 of as many items. */
    private static Bounds.Calls told(int parts, int sort, int... items) {
        return x -> {
            Bounds.parts(parts).on(x);
            Bounds.row(x, 0, sort, items);
        };
    }

    private static void tells() {
        B.sentence("Promise 18", "TOLD: who isn't so (what 0), HEATS (1), TEXTS (2), KINDS of PART what modulo 10"
                + " (10 ..), NUMBERS (20 ..), CREASES: how many (30 ..), the least (40 ..; NONE).");
        for (int t = 0; t < 3; t++) {
            int sort = t;
            B.changesNothing("no PARTS: nobody", 0, told(0, sort), x -> x.tells(0, 0));
            B.changesNothing("no PARTS: any HEAT", 1023, told(0, sort), x -> x.tells(0, 1));
            B.changesNothing("no PARTS: any TEXT", 1, told(0, sort), x -> x.tells(0, 2));
            Bounds.Calls so = told(7, sort, 4, 4, 4, 4, 4, 4, 4);
            B.changesNothing("all are so", 0, so, x -> x.tells(0, 0));
            B.changesNothing("HEATS", 32, so, x -> x.tells(0, 1));
            B.changesNothing("TEXTS", 1, so, x -> x.tells(0, 2));
            for (int p : new int[] {0, 6}) {
                B.changesNothing("KINDS of " + p + ": PART, SLEEVE, CUFF", 1 + 4 + 16, so, x -> x.tells(0, 10 + p));
                B.changesNothing("NUMBERS of " + p, 1023, so, x -> x.tells(0, 20 + p));
                B.changesNothing("CREASES of " + p + ": how many", 100, so, x -> x.tells(0, 30 + p));
                B.changesNothing("CREASES of " + p + ": the least", 0, so, x -> x.tells(0, 40 + p));
            }
            Bounds.Calls other = told(7, sort, 4, 4, 4, 4, 4, 4, 5);
            B.changesNothing("one isn't", 64, other, x -> x.tells(0, 0));
            B.changesNothing("one isn't: no HEAT", 0, other, x -> x.tells(0, 1));
            B.changesNothing("one isn't: no TEXT", 0, other, x -> x.tells(0, 2));
            for (int p : new int[] {0, 6}) {
                B.changesNothing("one isn't: no KIND of " + p, 0, other, x -> x.tells(0, 10 + p));
                B.changesNothing("one isn't: no NUMBER of " + p, 0, other, x -> x.tells(0, 20 + p));
                B.changesNothing("one isn't: no CREASES of " + p, 0, other, x -> x.tells(0, 30 + p));
                B.changesNothing("one isn't: NONE of " + p, -1, other, x -> x.tells(0, 40 + p));
            }
        }
        B.changesNothing("the largest CREASES alone", 99, x -> {
            told(7, 0, 50, 50, 50, 50, 50, 50, 99).on(x);
            Bounds.rule(x, IDLE);
        }, x -> x.tells(0, 46));
    }

    private static void tellsRefused() {
        B.sentence("Promise 18", "BAD: SHEET, what, no such PART; -11;");
        for (int none : new int[] {LOWEST, -1, 4, 5, HIGHEST}) {
            B.refused("SHEET " + none, -2, Bounds.SOME, x -> x.tells(none, 0));
        }
        for (int what : new int[] {LOWEST, -1, 3, 9, 13, 19, 23, 29, 33, 39, 43, 47, 49, 50, 51, 60, 100, 110,
                HIGHEST}) {
            B.refused("what " + what, -2, Bounds.SOME, x -> x.tells(0, what));
            B.refused("what " + what + " of a missing one: ahead of -11", -2, Bounds.SOME, x -> x.tells(3, what));
            B.refused("what " + what + " of another size", -2, Bounds.SOME, x -> x.tells(1, what));
        }
        for (int what : new int[] {0, 1, 2, 10, 12, 20, 22, 30, 32, 40, 42}) {
            B.refused("a missing one, what " + what, -11, Bounds.SOME, x -> x.tells(3, what));
        }
        B.refused("a missing one, no PARTS", -11, Bounds.NEW, x -> x.tells(0, 0));
        B.refused("one that is missing again", -11, Bounds.then(Bounds.SOME, x -> x.sheet(0, -1, 3)),
                x -> x.tells(0, 0));
    }

    private static void tellsWhat() {
        B.sentence("Promise 18", "what, no such PART;");
        for (int many = 0; many < 8; many++) {
            int there = many;
            for (int w = -12; w < 70; w++) {
                int what = w;
                boolean is = what >= 0 && what < 3 || what >= 10 && what < 50 && what % 10 < many;
                B.due("what " + what + " of " + many + " PARTS", is ? 1 : 0, told(there, 0, new int[there]),
                        x -> x.tells(0, what) == -2 ? 0 : 1);
            }
        }
    }

    private static void tellsSize() {
        B.sentence("Promise 18", "BAD: its size isn't how many PARTS there are.");
        for (int many = 0; many < 8; many++) {
            for (int size : new int[] {0, many - 1, many, many + 1, 7, 8, 40}) {
                if (size >= 0) {
                    B.changesNothing("a size of " + size + ", " + many + " PARTS", size == many ? 127 >> 7 - many : -2,
                            told(many, 1, new int[size]), x -> x.tells(0, 0));
                }
            }
        }
        B.refused("none is left, one has come since", -2, Bounds.then(told(2, 0, 4, 4), x -> x.part(0, 0)),
                x -> x.tells(0, 1));
    }

    private static void film() {
        B.sentence("Promise 19", "A SHEET truly becomes CREASES of all PARTS behind PLAIN (bytes): how many.");
        for (int many = 0; many < 8; many++) {
            int there = many;
            B.due(many + " PARTS: how many", many, Bounds.parts(many), x -> x.film(3));
            B.due(many + " PARTS: they are so", 0, Bounds.parts(many), x -> {
                x.film(3);
                return x.tells(3, 0);
            });
            B.due(many + " PARTS: no item more", -12, Bounds.parts(many), x -> {
                x.film(3);
                return x.cell(3, there, 0);
            });
            B.alike(many + " PARTS: as a row of bytes", x -> {
                Bounds.parts(there).on(x);
                x.film(0);
            }, told(many, 0, many == 0 ? new int[0] : fours(many)));
        }
        for (int sheet = 0; sheet < 4; sheet++) {
            int s = sheet;
            B.due("a SHEET of another sort, or missing: bytes then: " + s, 0, Bounds.SOME, x -> {
                x.film(s);
                return x.parts(s, 0, 0, 0);
            });
            B.due("of another size: how many PARTS then: " + s, -12, Bounds.SOME, x -> {
                x.film(s);
                return x.cell(s, 3, 0);
            });
        }
        B.due("0 and 99 CREASES", 0, x -> {
            Bounds.parts(2).on(x);
            Bounds.rule(x, "irons 99 * part;takes 1;crumples 0;");
            x.film(0);
            Bounds.row(x, 1, 0, 0, 99);
            x.copy(1, 0, 0, 0, 2);
        }, x -> x.tells(0, 0));
        B.alike("nothing but the SHEET changes", Bounds.then(Bounds.SOME, x -> {
            x.film(2);
            x.sheet(2, -1, 0);
        }), Bounds.then(Bounds.SOME, x -> x.sheet(2, -1, 0)));
    }

    private static int[] fours(int many) {
        int[] all = new int[many];
        java.util.Arrays.fill(all, 4);
        return all;
    }

    private static void filmRefused() {
        B.sentence("Promise 19", "(bytes): how many. BAD.");
        for (int none : new int[] {LOWEST, -1, 4, 5, HIGHEST}) {
            B.refused("SHEET " + none, -2, Bounds.SOME, x -> x.film(none));
            B.refused("SHEET " + none + ", no PARTS", -2, Bounds.NEW, x -> x.film(none));
        }
    }

    private static void drawn() {
        B.sentence("Promise 20", "DRAWN.");
        for (int seed : new int[] {LOWEST, LOWEST + 1, -1, 0, 1, HIGHEST - 1, HIGHEST}) {
            B.changesNothing("no PARTS, SEED " + seed, 0, Bounds.NEW, x -> x.drawn(seed));
            int[] z = {seed * 1103515245 + 12345, 0};
            z[1] = z[0] * 1103515245 + 12345;
            int creased = (z[0] >>> 9) % 100 + (z[1] >>> 9) % 100;
            Bounds.Calls idle = x -> {
                Bounds.parts(2).on(x);
                Bounds.rule(x, IDLE);
            };
            B.changesNothing("two PARTS, SEED " + seed, creased, idle, x -> x.drawn(seed));
            B.due("the same again, SEED " + seed, creased, idle, x -> {
                x.drawn(seed + 1);
                return x.drawn(seed);
            });
        }
    }

    private static void chance() {
        B.sentence("Promise 21", "IN n seeds: part 0 above, 1 below the line, in lowest terms.");
        for (int n = 1; n <= 20; n++) {
            int many = n;
            B.changesNothing("all of " + n + ": above", 1, Bounds.parts(7), x -> x.chance(HIGHEST, many, 0));
            B.changesNothing("all of " + n + ": below", 1, Bounds.parts(7), x -> x.chance(HIGHEST, many, 1));
        }
        // 0 crumples 1: it is worse to iron 1 first, and WORST FIRST does if 1 has more CREASES
        Bounds.Calls behind = x -> {
            Bounds.parts(2).on(x);
            x.set(4, 0, 2);
        };
        for (int n = 1; n <= 20; n++) {
            int many = n;
            int good = 0;
            for (int seed = 0; seed < n; seed++) {
                int z = seed * 1103515245 + 12345;
                int y = z * 1103515245 + 12345;
                good += (z >>> 9) % 100 >= (y >>> 9) % 100 ? 1 : 0;
            }
            int above = good;
            B.due("some of " + n + ", the same quotient", 0, behind,
                    x -> x.chance(0, many, 0) * many - x.chance(0, many, 1) * above);
            B.due("some of " + n + ", lowest terms", 1, behind, x -> java.math.BigInteger.valueOf(x.chance(0, many, 0))
                    .gcd(java.math.BigInteger.valueOf(x.chance(0, many, 1))).longValue());
        }
        Bounds.Calls never = x -> {
            x.part(0, 0);
            x.part(0, 0);
            x.part(1, 0);
            x.set(4, 2, 3);
            x.set(4, 0, 4);
            x.set(4, 1, 4);
            Bounds.rule(x, "irons 10 * (part = 2) * (minute < 2);takes 1;crumples 3;");
        };
        int seed = seedOfNone(never);
        B.changesNothing("none of one: above", 0, never, x -> x.chance(seed, 1, 0));
        B.changesNothing("none of one: below", 1, never, x -> x.chance(seed, 1, 1));
    }

    private static int seedOfNone(Bounds.Calls shirt) {
        CreasedAgain x = new CreasedAgain();
        shirt.on(x);
        for (int seed = 0; seed < 300; seed++) {
            if (x.chance(seed, 1, 0) == 0) {
                return seed;
            }
        }
        return 0;
    }

    private static void chanceRefused() {
        B.sentence("Promise 21", "NO: n, part.");
        for (int none : new int[] {LOWEST, -1, 0, 21, 22, HIGHEST}) {
            B.refused("n " + none, CreasedAgain.NO, Bounds.SOME, x -> x.chance(1, none, 0));
            B.refused("n " + none + ", no PARTS", CreasedAgain.NO, Bounds.NEW, x -> x.chance(1, none, 1));
        }
        for (int none : new int[] {LOWEST, -1, 2, 3, HIGHEST}) {
            B.refused("part " + none, CreasedAgain.NO, Bounds.SOME, x -> x.chance(1, 20, none));
            B.refused("part " + none + ", no PARTS", CreasedAgain.NO, Bounds.NEW, x -> x.chance(1, 1, none));
        }
    }

    private static void image() {
        B.sentence("Promise 22", "AN IMAGE is kept: how many PARTS.");
        for (int many = 0; many < 8; many++) {
            B.due(many + " PARTS", many, Bounds.parts(many), x -> x.image());
            B.due(many + " PARTS, back", many, Bounds.parts(many), x -> {
                x.image();
                return x.back();
            });
        }
        B.due("a later one is kept", 2, x -> {
            Bounds.parts(1).on(x);
            x.image();
            x.part(0, 0);
            x.image();
            x.part(0, 0);
        }, x -> x.back());
        B.due("a later one of fewer is kept", 0, x -> {
            x.image();
            x.part(0, 0);
            x.back();
            x.image();
            x.part(0, 0);
        }, x -> x.back());
        B.changesNothing("what is kept already", 3, Bounds.then(Bounds.SOME, x -> x.image()), x -> x.image());
        B.due("what comes behind it is not in it", 50, x -> {
            Bounds.parts(1).on(x);
            x.image();
            x.iron(0);
            x.back();
        }, x -> x.told(0, 3));
    }

    private static void back() {
        B.sentence("Promise 23", "All that it keeps is as in THE IMAGE: how many PARTS.");
        Bounds.Calls kept = Bounds.then(Bounds.SOME, x -> x.image());
        B.changesNothing("nothing was changed", 3, kept, x -> x.back());
        for (int i = 0; i < 5; i++) {
            int what = i;
            B.alike("what " + what + " was set", kept, Bounds.then(kept, x -> {
                x.set(what, 1, 0);
                x.back();
            }));
        }
        B.alike("another RULE", kept, Bounds.then(kept, x -> {
            x.force(0);
            x.back();
        }));
        B.alike("four came", kept, Bounds.then(kept, x -> {
            for (int i = 0; i < 4; i++) {
                x.part(5, 9);
            }
            x.back();
        }));
        B.alike("all were ironed", kept, Bounds.then(kept, x -> {
            x.iron(0);
            x.iron(1);
            x.iron(2);
            x.back();
        }));
        B.due("of none", 0, Bounds.then(x -> x.image(), Bounds.parts(7)), x -> x.back());
        B.due("of none: none are there", 0, Bounds.then(x -> x.image(), Bounds.parts(7)), x -> {
            x.back();
            return x.count(0);
        });
        B.due("of seven", 7, Bounds.then(Bounds.parts(7), x -> x.image()), x -> x.back());
        B.due("there is room again", 0, Bounds.then(x -> x.image(), Bounds.parts(7)), x -> {
            x.back();
            return x.part(0, 0);
        });
    }

    private static void backRefused() {
        B.sentence("Promise 23", "STATE: there is none.");
        B.refused("of a new object", -3, Bounds.NEW, x -> x.back());
        B.refused("of seven PARTS", -3, Bounds.parts(7), x -> x.back());
        B.refused("again", -3, x -> {
            Bounds.parts(2).on(x);
            x.back();
        }, x -> x.back());
        B.due("an image of no PARTS is one", 0, x -> x.image(), x -> x.back());
    }

    private static void count() {
        B.sentence("Promise 24", "How many: 0 PARTS, 1 TEXTS, 2 bytes of THE TAPE, 3 THE RULE, 4 CREASES of all"
                + " times SHOWS, together.");
        int[] least = {0, 1, 0, 0, 0};
        int[] some = {3, 3, 26, 2, 70 + 33 + 3 * 50};
        // 50 of a PART; 91 of a PART, 92 of a COLLAR, 93 of a SLEEVE, 94 of a YOKE, 95 of a CUFF, 96 of a POCKET
        int[] most = {7, 6, 160, 5, 50 + 91 + 3 * 92 + 93 + 2 * 94 + 2 * 95 + 96};
        for (int item = 0; item < 5; item++) {
            int what = item;
            B.changesNothing("what " + what + " of a new object", least[what], Bounds.NEW, x -> x.count(what));
            B.changesNothing("what " + what + " of some of all", some[what], Bounds.SOME, x -> x.count(what));
            B.changesNothing("what " + what + " where nothing has room", most[what], Bounds.BRIMFUL,
                    x -> x.count(what));
        }
        B.due("the most CREASES", 7 * 3 * 99, x -> {
            for (int i = 0; i < 7; i++) {
                x.part(1, 0);
                x.set(3, i, 99);
            }
        }, x -> x.count(4));
    }

    private static void countRefused() {
        B.sentence("Promise 24", "together. BAD.");
        for (int what : new int[] {LOWEST, -1, 5, 6, HIGHEST}) {
            B.refused("what " + what, -2, Bounds.SOME, x -> x.count(what));
            B.refused("what " + what + " of a new object", -2, Bounds.NEW, x -> x.count(what));
        }
    }
}
