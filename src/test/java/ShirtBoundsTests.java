/** Promises 1 to 8: the boundary cases that they name. */
public final class ShirtBoundsTests {
    private static final Bounds B = new Bounds("ShirtBoundsTests");
    private static final int LOWEST = Bounds.LOWEST;
    private static final int HIGHEST = Bounds.HIGHEST;

    public static void main(String[] args) {
        manyCalls();
        aNewObject();
        setHeatAndDamp();
        setOfPart();
        setWas();
        setRefused();
        part();
        partRefused();
        told();
        toldNow();
        toldRefused();
        iron();
        ironRefused();
        feed();
        feedRefused();
        text();
        textFull();
        force();
        forceRefused();
        B.end();
    }

    /** The last of 512 calls, of which the first so many were others. */
    private static void last(String which, long want, int others, Bounds.Calls before, Bounds.Call call) {
        B.due(which, want, x -> {
            before.on(x);
            for (int i = others; i < 511; i++) {
                call.on(x);
            }
        }, call);
    }

    private static void manyCalls() {
        B.sentence("What it is", "An object is used for at most 512 calls after it has been made");
        last("part", -4, 0, Bounds.NEW, x -> x.part(0, 0));
        last("set", 9, 0, Bounds.NEW, x -> x.set(0, 0, 9));
        last("iron", 4, 1, Bounds.parts(1), x -> x.iron(0));
        last("feed", -4, 0, Bounds.NEW, x -> x.feed(' '));
        last("text", -100, 0, Bounds.NEW, x -> x.text());
        last("force", 0, 0, Bounds.NEW, x -> x.force(0));
        last("told", 4, 7, Bounds.parts(7), x -> x.told(6, 7));
        last("plain", 28, 7, Bounds.parts(7), x -> x.plain(0));
        last("best", 1234567, 7, Bounds.parts(7), x -> x.best(1));
        last("worst", 1234567, 7, Bounds.parts(7), x -> x.worst(1));
        last("change", 28, 7, Bounds.parts(7), x -> x.change(1));
        last("leave", 28, 7, Bounds.parts(7), x -> x.leave(1));
        last("spray", 28, 7, Bounds.parts(7), x -> x.spray(1));
        last("how", 0, 7, Bounds.parts(7), x -> x.how(3));
        last("enough", 127, 7, Bounds.parts(7), x -> x.enough(28));
        last("film", 7, 7, Bounds.parts(7), x -> x.film(0));
        last("tells", 100, 8, Bounds.then(Bounds.parts(7), x -> x.film(0)), x -> x.tells(0, 36));
        last("order", -2, 8, Bounds.then(Bounds.parts(7), x -> x.film(0)), x -> x.order(0, 0));
        last("drawn", 28, 7, Bounds.parts(7), x -> x.drawn(-1));
        last("chance", 1, 7, Bounds.parts(7), x -> x.chance(-1, 20, 1));
        last("image", 7, 7, Bounds.parts(7), x -> x.image());
        last("back", 7, 8, Bounds.then(Bounds.parts(7), x -> x.image()), x -> x.back());
        last("count", 350, 7, Bounds.parts(7), x -> x.count(4));
        last("sheet", 1, 0, Bounds.NEW, x -> x.sheet(0, 2, 40));
        last("cell", 1, 1, x -> x.sheet(0, 2, 40), x -> x.cell(0, 39, 7));
        last("copy", 39, 1, x -> x.sheet(0, 2, 40), x -> x.copy(0, 0, 0, 1, 39));
        last("parts", 0, 1, x -> x.sheet(0, 2, 40), x -> x.parts(0, 2, 0, 7));
        last("taken", 0, 7, Bounds.parts(7), x -> x.taken(6, 0));
    }

    private static void aNewObject() {
        B.sentence("Promise 1", "No PARTS.");
        B.due("none", 0, Bounds.NEW, x -> x.count(0));
        B.refused("nothing is told of one", -2, Bounds.NEW, x -> x.told(0, 2));
        B.refused("nothing is set", -2, Bounds.NEW, x -> x.set(2, 0, 1));
        B.refused("none is ironed", -2, Bounds.NEW, x -> x.iron(0));
        B.refused("none is taken", -11, Bounds.NEW, x -> x.taken(0, 0));
        B.refused("there is no image", -3, Bounds.NEW, x -> x.back());
        B.due("TEXT 0 alone", 1, Bounds.NEW, x -> x.count(1));
        B.due("an empty tape", 0, Bounds.NEW, x -> x.count(2));
        B.due("TEXT 0 is THE RULE", 0, Bounds.NEW, x -> x.count(3));
        B.due("no CREASES", 0, Bounds.NEW, x -> x.count(4));
        B.due("HEAT", 5, Bounds.NEW, x -> x.told(0, 0));
        B.due("DAMP", 40, Bounds.NEW, x -> x.told(0, 1));
        B.due("the first one that comes is 0", 0, Bounds.NEW, x -> x.part(0, 0));
        B.alike("objects have nothing in common", Bounds.NEW, x -> {
            CreasedAgain other = new CreasedAgain();
            Bounds.BRIMFUL.on(other);
            other.iron(3);
        });
        CreasedAgain full = new CreasedAgain();
        Bounds.BRIMFUL.on(full);
        B.due("one that comes behind a full one has no PARTS", 0, Bounds.NEW, x -> x.count(0));
        B.due("the full one stays full", -4, Bounds.NEW, x -> full.part(0, 0));
    }

    private static void setHeatAndDamp() {
        B.sentence("Promise 2", "HEAT (what 0; of does not matter), DAMP (1; nor)");
        for (int of : new int[] {LOWEST, -1, 0, 6, 7, HIGHEST}) {
            B.due("HEAT, of " + of + ", no PARTS", 5, Bounds.NEW, x -> x.set(0, of, 9));
            B.due("DAMP, of " + of + ", no PARTS", 40, Bounds.NEW, x -> x.set(1, of, 99));
            B.due("HEAT, of " + of + ", becomes it", 0, Bounds.SOME, x -> {
                x.set(0, of, 0);
                return x.told(0, 0);
            });
            B.due("DAMP, of " + of + ", becomes it", 99, Bounds.SOME, x -> {
                x.set(1, of, 99);
                return x.told(0, 1);
            });
        }
    }

    private static void setOfPart() {
        B.sentence("Promise 2", "NUMBER (2), CREASES (3), on which it LIES (4; bits) of a PART");
        int[] most = {0, 0, 9, 99, 127};
        for (int item = 2; item < 5; item++) {
            int what = item;
            B.due("what " + what + " of the first, the largest", most[what], Bounds.parts(7), x -> {
                x.set(what, 0, most[what]);
                return x.told(0, what);
            });
            B.due("what " + what + " of the last, the largest", most[what], Bounds.parts(7), x -> {
                x.set(what, 6, most[what]);
                return x.told(6, what);
            });
            B.due("what " + what + " of the last, the smallest", 0, Bounds.parts(7), x -> {
                x.set(what, 6, 1);
                x.set(what, 6, 0);
                return x.told(6, what);
            });
            for (int none : new int[] {LOWEST, -1, 3, 7, HIGHEST}) {
                B.refused("what " + what + " of no such PART " + none, -2, Bounds.SOME, x -> x.set(what, none, 1));
            }
            B.refused("what " + what + " of PART 0, where there are none", -2, Bounds.NEW, x -> x.set(what, 0, 1));
            B.refused("what " + what + " of PART 7, where there are seven", -2, Bounds.BRIMFUL, x -> x.set(what, 7, 1));
        }
        B.alike("the others stay as they are", x -> {
            Bounds.SOME.on(x);
            x.set(2, 1, 0);
            x.set(3, 1, 99);
            x.set(4, 1, 127);
            x.set(2, 1, 8);
            x.set(3, 1, 33);
            x.set(4, 1, 0);
        }, Bounds.SOME);
    }

    private static void setWas() {
        B.sentence("Promise 2", "of a PART becomes v: what it was.");
        B.due("NUMBER", 3, x -> x.part(0, 3), x -> x.set(2, 0, 9));
        B.due("NUMBER 0", 0, x -> x.part(0, 0), x -> x.set(2, 0, 9));
        B.due("CREASES", 50, x -> x.part(0, 3), x -> x.set(3, 0, 99));
        B.due("LIES", 0, x -> x.part(0, 3), x -> x.set(4, 0, 127));
        B.due("again: the last one", 127, x -> x.part(0, 3), x -> {
            x.set(4, 0, 127);
            return x.set(4, 0, 0);
        });
        B.changesNothing("what it is already", 5, Bounds.SOME, x -> x.set(2, 0, 5));
        B.changesNothing("HEAT as it is already", 7, Bounds.SOME, x -> x.set(0, 0, 7));
        B.changesNothing("DAMP as it is already", 25, Bounds.SOME, x -> x.set(1, 0, 25));
        B.changesNothing("CREASES as they are already", 70, Bounds.SOME, x -> x.set(3, 0, 70));
        B.changesNothing("LIES as it does already", 6, Bounds.SOME, x -> x.set(4, 0, 6));
    }

    private static void setRefused() {
        B.sentence("Promise 2", "what it was. BAD.");
        for (int what : new int[] {LOWEST, -1, 5, 6, 9, HIGHEST}) {
            B.refused("what " + what, -2, Bounds.SOME, x -> x.set(what, 0, 1));
        }
        int[] most = {9, 99, 9, 99, 127};
        for (int item = 0; item < 5; item++) {
            int what = item;
            for (int v : new int[] {LOWEST, -1, most[what] + 1, 256, 65536, HIGHEST}) {
                B.refused("what " + what + ", v " + v, -2, Bounds.SOME, x -> x.set(what, 1, v));
            }
            B.refused("what " + what + ", what it was last stays", -2, x -> {
                Bounds.SOME.on(x);
                x.set(what, 1, most[what]);
            }, x -> x.set(what, 1, most[what] + 1));
        }
    }

    private static void part() {
        B.sentence("Promise 3", "A PART: its number.");
        for (int many = 0; many < 7; many++) {
            B.due("with " + many, many, Bounds.parts(many), x -> x.part(5, 9));
        }
        for (int kind : new int[] {0, 5}) {
            for (int number : new int[] {0, 9}) {
                Bounds.Calls came = x -> {
                    Bounds.parts(1).on(x);
                    x.part(kind, number);
                };
                B.due("KIND " + kind, kind, came, x -> x.told(1, 5));
                B.due("NUMBER " + number, number, came, x -> x.told(1, 2));
                B.due("50 CREASES", 50, came, x -> x.told(1, 3));
                B.due("it LIES ON none", 0, came, x -> x.told(1, 4));
            }
        }
        B.due("where one has gone", 1, x -> {
            Bounds.parts(1).on(x);
            x.image();
            x.part(0, 0);
            x.back();
        }, x -> x.part(0, 0));
    }

    private static void partRefused() {
        B.sentence("Promise 3", "BAD; FULL.");
        for (int none : new int[] {LOWEST, -1, 6, 7, HIGHEST}) {
            B.refused("KIND " + none, -2, Bounds.SOME, x -> x.part(none, 0));
        }
        for (int none : new int[] {LOWEST, -1, 10, 11, HIGHEST}) {
            B.refused("NUMBER " + none, -2, Bounds.SOME, x -> x.part(0, none));
        }
        B.refused("FULL", -4, Bounds.BRIMFUL, x -> x.part(0, 0));
        B.refused("FULL, of the largest", -4, Bounds.BRIMFUL, x -> x.part(5, 9));
        B.refused("BAD is ahead of it: KIND", -2, Bounds.BRIMFUL, x -> x.part(6, 0));
        B.refused("BAD is ahead of it: NUMBER", -2, Bounds.BRIMFUL, x -> x.part(5, 10));
    }

    private static void told() {
        B.sentence("Promise 4", "What 0 .. 4 as of set(), 5 KIND, 6 SHOWS;");
        for (int of : new int[] {LOWEST, -1, 0, 6, 7, HIGHEST}) {
            B.changesNothing("HEAT, of " + of, 5, Bounds.NEW, x -> x.told(of, 0));
            B.changesNothing("DAMP, of " + of, 40, Bounds.NEW, x -> x.told(of, 1));
        }
        int[] first = {7, 25, 5, 70, 6, 0, 1};
        int[] last = {7, 25, 2, 50, 1, 1, 3};
        for (int item = 0; item < 7; item++) {
            int what = item;
            B.changesNothing("what " + what + " of the first", first[what], Bounds.SOME, x -> x.told(0, what));
            B.changesNothing("what " + what + " of the last", last[what], Bounds.SOME, x -> x.told(2, what));
        }
    }

    private static void toldNow() {
        B.sentence("Promise 4", "7 KEEPS, 8 TAKES, 9 CRUMPLES (were it now, in MINUTE 0).");
        Bounds.Calls ruled = x -> {
            Bounds.parts(2).on(x);
            x.set(1, 0, 33);
            x.set(4, 0, 2);
            Bounds.rule(x, "irons minute*40+damp;takes minute*9+7;crumples minute*40+damp+crease;");
        };
        B.changesNothing("KEEPS", 33, ruled, x -> x.told(1, 7));
        B.changesNothing("TAKES", 7, ruled, x -> x.told(1, 8));
        B.changesNothing("CRUMPLES", 83, ruled, x -> x.told(1, 9));
        B.due("MINUTE 0 again behind an order", 33, ruled, x -> {
            x.plain(0);
            return x.told(1, 7);
        });
        B.due("behind one that was sprayed", 83, ruled, x -> {
            x.spray(0);
            return x.told(1, 9);
        });
        B.due("behind one that was ironed", 7, ruled, x -> {
            x.iron(0);
            return x.told(1, 8);
        });
        B.due("behind another HEAT that was tried", 5, Bounds.parts(1), x -> {
            Bounds.rule(x, "irons heat;takes 1;crumples 0;");
            x.how(2);
            return x.told(0, 7);
        });
    }

    private static void toldRefused() {
        B.sentence("Promise 4", "in MINUTE 0). BAD.");
        for (int what : new int[] {LOWEST, -1, 10, 11, HIGHEST}) {
            B.refused("what " + what, -2, Bounds.SOME, x -> x.told(0, what));
        }
        for (int item = 2; item < 10; item++) {
            int what = item;
            for (int none : new int[] {LOWEST, -1, 3, 7, HIGHEST}) {
                B.refused("what " + what + " of no such PART " + none, -2, Bounds.SOME, x -> x.told(none, what));
            }
            B.refused("what " + what + " of PART 7, where there are seven", -2, Bounds.BRIMFUL, x -> x.told(7, what));
            B.refused("what " + what + " of PART 0, where there are none", -2, Bounds.NEW, x -> x.told(0, what));
        }
    }

    private static void iron() {
        B.sentence("Promise 5", "A PART is truly ironed (MINUTE 0): its CREASES then.");
        B.due("the first of one", 4, Bounds.parts(1), x -> x.iron(0));
        B.due("the last of seven", 4, Bounds.parts(7), x -> x.iron(6));
        B.due("truly", 4 + 6 * 50, Bounds.parts(7), x -> {
            x.iron(6);
            return x.count(4);
        });
        B.changesNothing("what it has already", 4, x -> {
            Bounds.parts(3).on(x);
            x.set(3, 1, 4);
        }, x -> x.iron(1));
        Bounds.Calls onAll = x -> {
            Bounds.parts(7).on(x);
            x.set(4, 3, 127);
        };
        B.due("all the others are crumpled, itself not", 4 + 6 * 54, onAll, x -> {
            x.iron(3);
            return x.count(4);
        });
        B.due("up to 99", 99, onAll, x -> {
            x.set(3, 6, 97);
            x.iron(3);
            return x.told(6, 3);
        });
        Bounds.Calls ruled = x -> {
            Bounds.parts(2).on(x);
            x.set(1, 0, 3);
            x.set(4, 0, 2);
            Bounds.rule(x, "irons minute*40+damp;takes 4;crumples minute+damp;");
        };
        B.due("in MINUTE 0", 3, ruled, x -> x.iron(0));
        B.due("in MINUTE 0 again", 3, ruled, x -> {
            x.iron(0);
            x.iron(1);
            return x.iron(0);
        });
        B.due("the other one is crumpled in MINUTE 4, as in an order", 54, ruled, x -> {
            x.iron(0);
            return x.told(1, 3);
        });
        B.due("to 0", 0, Bounds.parts(1), x -> {
            x.set(0, 0, 9);
            return x.iron(0);
        });
    }

    private static void ironRefused() {
        B.sentence("Promise 5", "its CREASES then. BAD.");
        for (int none : new int[] {LOWEST, -1, 3, 7, 32, HIGHEST}) {
            B.refused("no such PART " + none, -2, Bounds.SOME, x -> x.iron(none));
        }
        B.refused("no PARTS", -2, Bounds.NEW, x -> x.iron(0));
        B.refused("PART 7, where there are seven", -2, Bounds.BRIMFUL, x -> x.iron(7));
    }

    private static void feed() {
        B.sentence("Promise 6", "A byte (0 .. 255) comes behind THE TAPE: how many it has.");
        B.due("the smallest", 1, Bounds.NEW, x -> x.feed(0));
        B.due("the largest", 1, Bounds.NEW, x -> x.feed(255));
        B.due("the second", 2, x -> x.feed(0), x -> x.feed(255));
        B.due("the 160th", 160, x -> Bounds.write(x, " ".repeat(159)), x -> x.feed(255));
        B.due("it counts", 160, x -> Bounds.write(x, " ".repeat(160)), x -> x.count(2));
        B.due("it comes behind", -102, x -> Bounds.write(x, "  "), x -> {
            x.feed(0);
            x.feed('i');
            return x.text();
        });
    }

    private static void feedRefused() {
        B.sentence("Promise 6", "BAD; FULL.");
        for (int none : new int[] {LOWEST, -256, -1, 256, 256 + ';', HIGHEST}) {
            B.refused("byte " + none, -2, Bounds.SOME, x -> x.feed(none));
            B.refused("BAD is ahead of FULL: " + none, -2, Bounds.BRIMFUL, x -> x.feed(none));
        }
        B.refused("the 161st, the smallest", -4, Bounds.BRIMFUL, x -> x.feed(0));
        B.refused("the 161st, the largest", -4, Bounds.BRIMFUL, x -> x.feed(255));
        String text = "irons 7;takes 3;crumples 2;";
        B.refused("the 161st of a text", -4, x -> Bounds.write(x, text + " ".repeat(133)), x -> x.feed(';'));
        B.due("the text of 160 is as it was", 1, x -> Bounds.write(x, text + " ".repeat(133) + ";"), x -> x.text());
    }

    private static void text() {
        B.sentence("Promise 7", "THE TAPE, which is empty then (by a FAULT, too), is a TEXT: its number; -100 less"
                + " the place of its FAULT.");
        B.changesNothing("of an empty tape", -100, Bounds.NEW, x -> x.text());
        B.due("the FAULT at the end of a full tape", -260, x -> Bounds.write(x, " ".repeat(160)), x -> x.text());
        B.due("the FAULT at its last byte", -259, x -> Bounds.write(x, " ".repeat(159) + "1"), x -> x.text());
        B.due("the FAULT at its first byte", -100, x -> Bounds.write(x, "1" + " ".repeat(159)), x -> x.text());
        B.due("empty by a FAULT", 0, x -> Bounds.write(x, "irons"), x -> {
            x.text();
            return x.count(2);
        });
        B.due("empty by a TEXT", 0, x -> Bounds.text(x, "irons 1;takes 1;crumples 1;"), x -> x.count(2));
        B.due("nothing of it is left by a FAULT", 1, x -> Bounds.text(x, "irons "),
                x -> Bounds.text(x, "irons 1;takes 1;crumples 1;"));
        B.due("a FAULT takes no number", 1, x -> {
            Bounds.text(x, "irons 1;takes 1;crumples 1;;");
            Bounds.text(x, "irons 1;takes 1;crumples 1");
        }, x -> Bounds.text(x, "irons 1;takes 1;crumples 1;"));
        B.due("the last number", 5, x -> {
            for (int i = 1; i < 5; i++) {
                Bounds.text(x, "irons 1;takes 1;crumples 1;");
            }
        }, x -> Bounds.text(x, "irons 1;takes 1;crumples 1;"));
        B.due("THE RULE stays", 4, x -> {
            x.part(0, 0);
            Bounds.text(x, "irons 9;takes 9;crumples 9;");
        }, x -> x.told(0, 7));
        B.due("a FAULT leaves the TEXTS as they tell", 9, x -> {
            x.part(0, 0);
            Bounds.rule(x, "irons 9;takes 9;crumples 9;");
            Bounds.text(x, "irons 8;takes 8;crumples 8");
        }, x -> x.told(0, 7));
    }

    private static void textFull() {
        B.sentence("Promise 7", "FULL (ahead of all): no TEXT more has room (THE TAPE stays).");
        B.refused("of a text that could be one", -4, Bounds.BRIMFUL, x -> x.text());
        Bounds.Calls six = x -> {
            for (int i = 1; i < 6; i++) {
                Bounds.text(x, "irons 1;takes 1;crumples 1;");
            }
        };
        B.refused("of an empty tape", -4, six, x -> x.text());
        B.refused("of a FAULT", -4, Bounds.then(six, x -> Bounds.write(x, "irons $")), x -> x.text());
        B.due("THE TAPE stays", 7, Bounds.then(six, x -> Bounds.write(x, "irons $")), x -> {
            x.text();
            return x.count(2);
        });
    }

    private static void force() {
        B.sentence("Promise 8", "A TEXT is THE RULE: which was.");
        B.changesNothing("the first, which is it already", 0, Bounds.NEW, x -> x.force(0));
        B.changesNothing("the last, which is it already", 5, Bounds.BRIMFUL, x -> x.force(5));
        B.due("the last of six", 0, Bounds.BRIMFUL, x -> {
            x.force(0);
            return x.force(5);
        });
        B.due("it is THE RULE", 5, Bounds.BRIMFUL, x -> {
            x.force(0);
            x.force(5);
            return x.count(3);
        });
        B.due("the first of six", 5, Bounds.BRIMFUL, x -> x.force(0));
        B.due("by it", 4, Bounds.BRIMFUL, x -> {
            x.force(0);
            return x.told(0, 7);
        });
    }

    private static void forceRefused() {
        B.sentence("Promise 8", "which was. BAD.");
        for (int none : new int[] {LOWEST, -1, 3, 6, HIGHEST}) {
            B.refused("no such TEXT " + none, -2, Bounds.SOME, x -> x.force(none));
        }
        B.refused("TEXT 1, where there is TEXT 0 alone", -2, Bounds.NEW, x -> x.force(1));
        B.refused("TEXT 1, where there was a FAULT", -2, x -> Bounds.text(x, "irons 1;takes 1;crumples 1"),
                x -> x.force(1));
        B.refused("TEXT 6, where there are six", -2, Bounds.BRIMFUL, x -> x.force(6));
    }
}
