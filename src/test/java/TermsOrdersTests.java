import java.math.BigInteger;

/** Terms, the second and the third section: the boundary cases of orders, of what is told and drawn, and of sheets. */
public final class TermsOrdersTests {
    private static final Bounds B = new Bounds("TermsOrdersTests");
    private static final String TERMS = "Terms";
    private static final BigInteger INTS = BigInteger.ONE.shiftLeft(32);
    /** Each keeps what it has, and crumples nobody. */
    private static final String IDLE = "irons crease;takes 1;crumples 0;";

    public static void main(String[] args) {
        ironing();
        ninetyNine();
        creased();
        best();
        worstFirst();
        change();
        leave();
        spray();
        howDamp();
        howHot();
        enough();
        whoIsNotSo();
        heatsAndTexts();
        kindsAndNumbers();
        creasesTold();
        drawn();
        seeds();
        anImage();
        sheets();
        B.end();
    }

    private static Bounds.Calls by(int parts, String rule) {
        return x -> {
            Bounds.parts(parts).on(x);
            Bounds.rule(x, rule);
        };
    }

    private static void creases(CreasedAgain x, int... all) {
        for (int part = 0; part < all.length; part++) {
            x.set(3, part, all[part]);
        }
    }

    private static void ironing() {
        B.sentence(TERMS, "(MINUTES 0 at first): TAKES is told, and KEEPS; MINUTES are so many more, it has so many"
                + " CREASES");
        B.due("no PARTS: no MINUTES", 0, Bounds.NEW, x -> x.plain(1));
        B.due("MINUTES are 0 as the first one TAKES", 1, by(2, "irons 1;takes 1+9*minute;crumples 0;"),
                x -> x.plain(20));
        B.due("and 1 as the second one does", 11, by(2, "irons 1;takes 1+9*minute;crumples 0;"), x -> x.plain(21));
        B.due("KEEPS is told ahead of its own MINUTES", 0, by(2, "irons minute;takes 7;crumples 0;"), x -> x.plain(10));
        B.due("and behind those of the others", 7, by(2, "irons minute;takes 7;crumples 0;"), x -> x.plain(11));
        B.due("TAKES is told ahead of KEEPS, by CREASES that it had", 30, by(1, "irons 1;takes crease;crumples 0;"),
                x -> x.plain(1));
        B.due("MINUTES begin at 0 for each call", 2, Bounds.parts(1), x -> {
            x.plain(1);
            x.best(0);
            return x.plain(1);
        });
        B.sentence(TERMS, "then each PART, by numbers, that it LIES ON, CRUMPLES (told then)");
        B.due("in the MINUTE behind its own", 57, by(2, "irons 1;takes 7;crumples minute;"), x -> {
            x.set(4, 0, 2);
            x.iron(0);
            return x.told(1, 3);
        });
        B.due("DAMP by then", 53, by(2, "irons 1;takes 7;crumples damp;"), x -> {
            x.set(1, 0, 10);
            x.set(4, 0, 2);
            x.iron(0);
            return x.told(1, 3);
        });
    }

    /** Creases of a part of a kind and of so many creases, as one that lies on it is ironed. */
    private static void crumpled(String which, int want, int kind, int creases, int more) {
        B.due(which, want, x -> {
            x.part(kind, 0);
            x.part(0, 0);
            x.set(3, 0, creases);
            x.set(4, 1, 1);
            Bounds.rule(x, "irons 1;takes 1;crumples " + more + ";");
        }, x -> {
            x.iron(1);
            return x.told(0, 3);
        });
    }

    private static void ninetyNine() {
        B.sentence(TERMS, "it has so many CREASES more (99 at most)");
        crumpled("94 and 4", 98, 0, 94, 4);
        crumpled("95 and 4", 99, 0, 95, 4);
        crumpled("96 and 4", 99, 0, 96, 4);
        crumpled("99 and 0", 99, 0, 99, 0);
        crumpled("99 and 99", 99, 0, 99, 99);
        crumpled("0 and 99", 99, 0, 0, 99);
        crumpled("0 and 0", 0, 0, 0, 0);
        crumpled("0 and 198, of a SLEEVE", 99, 2, 0, 99);
        crumpled("0 and 98, of a SLEEVE", 98, 2, 0, 49);
        B.due("by two of them", 99, by(3, "irons 90;takes 1;crumples 6;"), x -> {
            x.set(4, 1, 1);
            x.set(4, 2, 1);
            return x.plain(10);
        });
    }

    private static void creased() {
        B.sentence(TERMS, "CREASED: of all PARTS (ironed or not) CREASES at last times SHOWS, together.");
        B.due("no PARTS", 0, Bounds.NEW, x -> x.plain(0));
        B.due("none is ironed", 7 * 50, Bounds.parts(7), x -> {
            x.sheet(0, 0, 0);
            return x.order(0, 0);
        });
        B.due("one of seven is ironed", 6 * 50 + 4, Bounds.parts(7), x -> {
            Bounds.row(x, 0, 0, 6);
            return x.order(0, 0);
        });
        Bounds.Calls sevenCollars = x -> {
            for (int i = 0; i < 7; i++) {
                x.part(1, 0);
                x.set(3, i, 99);
            }
        };
        B.due("the most that there can be", 7 * 3 * 99, sevenCollars, x -> x.count(4));
        B.due("the least that there can be", 0, by(7, "irons 0;takes 1;crumples 0;"), x -> x.plain(0));
    }

    private static void best() {
        B.sentence(TERMS, "of like ones the first (digits: 1 more than each, the first the highest)");
        B.due("no PARTS: no digits", 0, Bounds.NEW, x -> x.best(1));
        B.due("no PARTS: CREASED", 0, Bounds.NEW, x -> x.best(0));
        B.due("one PART", 1, Bounds.parts(1), x -> x.best(1));
        B.due("two alike", 12, Bounds.parts(2), x -> x.best(1));
        B.due("seven alike", 1234567, Bounds.parts(7), x -> x.best(1));
        Bounds.Calls heap = x -> {
            Bounds.parts(7).on(x);
            for (int i = 1; i < 7; i++) {
                x.set(4, i, 1 << i - 1);
            }
        };
        B.due("the last of all is the best one", 7654321, heap, x -> x.best(1));
        B.due("CREASED by it", 28, heap, x -> x.best(0));
        B.due("CREASED by the first of all", 6 * 8 + 4, heap, x -> x.plain(0));
        B.due("of like ones that aren't PLAIN", 2134567, Bounds.parts(7), x -> {
            x.set(4, 1, 1);
            return x.best(1);
        });
        B.due("the last one lies on the first", 2345671, Bounds.parts(7), x -> {
            x.set(4, 6, 1);
            return x.best(1);
        });
    }

    private static void worstFirst() {
        B.sentence(TERMS, "WORST FIRST: the PARTS by CREASES now times SHOWS, most first; of like ones by numbers.");
        B.due("no PARTS", 0, Bounds.NEW, x -> x.worst(1));
        B.due("no PARTS: CREASED", 0, Bounds.NEW, x -> x.worst(0));
        B.due("one PART", 1, Bounds.parts(1), x -> x.worst(1));
        B.due("seven alike", 1234567, Bounds.parts(7), x -> x.worst(1));
        B.due("one more each", 7654321, Bounds.parts(7), x -> {
            creases(x, 0, 1, 2, 3, 4, 5, 6);
            return x.worst(1);
        });
        B.due("like ones among others", 7415263, Bounds.parts(7), x -> {
            creases(x, 20, 10, 0, 98, 20, 10, 99);
            return x.worst(1);
        });
        Bounds.Calls collarBehind = x -> {
            x.part(0, 0);
            x.part(1, 0);
        };
        B.due("51 and 3 * 17 are alike", 12, collarBehind, x -> {
            creases(x, 51, 17);
            return x.worst(1);
        });
        B.due("50 and 3 * 17", 21, collarBehind, x -> {
            creases(x, 50, 17);
            return x.worst(1);
        });
        B.due("52 and 3 * 17", 12, collarBehind, x -> {
            creases(x, 52, 17);
            return x.worst(1);
        });
        B.due("all are 0", 12, collarBehind, x -> {
            creases(x, 0, 0);
            return x.worst(1);
        });
    }

    private static void change() {
        B.sentence(TERMS, "CHANGE: the two places of PLAIN, the lesser first, by whose changing CREASED would be"
                + " least, if less than PLAIN; of like ones the first.");
        for (int many = 0; many < 8; many++) {
            B.due(many + " PARTS alike: NONE", -1, Bounds.parts(many), x -> x.change(0));
            B.due(many + " PARTS alike: PLAIN", 4 * many, Bounds.parts(many), x -> x.change(1));
        }
        Bounds.Calls firstTwo = x -> {
            Bounds.parts(2).on(x);
            x.set(4, 1, 1);
        };
        B.due("the first two", 1, firstTwo, x -> x.change(0));
        B.due("the first two: CREASED then", 8, firstTwo, x -> x.change(1));
        Bounds.Calls firstAndLast = x -> {
            Bounds.parts(7).on(x);
            x.set(4, 6, 1);
        };
        B.due("the first and the last", 6, firstAndLast, x -> x.change(0));
        B.due("the first and the last: CREASED then", 28, firstAndLast, x -> x.change(1));
        Bounds.Calls onlyEqual = x -> {
            Bounds.parts(2).on(x);
            x.set(4, 0, 2);
            x.set(4, 1, 1);
        };
        B.due("as much as PLAIN is not less", -1, onlyEqual, x -> x.change(0));
        B.due("as much as PLAIN: PLAIN", 12, onlyEqual, x -> x.change(1));
        Bounds.Calls alike = x -> {
            Bounds.parts(3).on(x);
            x.set(4, 2, 1);
            x.set(4, 1, 1);
            x.set(4, 0, 8);
        };
        // 0 behind both, or behind one of them only: 2 and 0 changed brings both ahead; 1 and 0 one of them
        B.due("the least, not the first that is less", 2, alike, x -> x.change(0));
        B.due("of like ones the first", 1, x -> {
            Bounds.parts(3).on(x);
            x.set(4, 1, 1);
        }, x -> x.change(0));
    }

    private static void leave() {
        B.sentence(TERMS, "LEAVE: the PART without which (it stays as it is) PLAIN, CREASED would be least, if less"
                + " than PLAIN; of like ones the first.");
        B.due("no PARTS: NONE", -1, Bounds.NEW, x -> x.leave(0));
        B.due("no PARTS: PLAIN", 0, Bounds.NEW, x -> x.leave(1));
        for (int creases = 3; creases < 6; creases++) {
            int c = creases;
            B.due("one PART that keeps 4 has " + c, c < 4 ? 0 : -1, Bounds.parts(1), x -> {
                creases(x, c);
                return x.leave(0);
            });
            B.due("one PART that keeps 4 has " + c + ": CREASED then", Math.min(4, c), Bounds.parts(1), x -> {
                creases(x, c);
                return x.leave(1);
            });
        }
        B.due("the last of seven", 6, Bounds.parts(7), x -> {
            creases(x, 50, 50, 50, 50, 50, 50, 3);
            return x.leave(0);
        });
        B.due("the last of seven: CREASED then", 27, Bounds.parts(7), x -> {
            creases(x, 50, 50, 50, 50, 50, 50, 3);
            return x.leave(1);
        });
        B.due("of like ones the first", 2, Bounds.parts(7), x -> {
            creases(x, 3, 3, 2, 2, 3, 2, 3);
            return x.leave(0);
        });
    }

    private static void spray() {
        B.sentence(TERMS, "SPRAY: the place k of PLAIN (0 .. how many PARTS there are less 1) ahead of which, were"
                + " it so DAMP as at first again (MINUTES for damp from 0 on), CREASED would be least, if less than"
                + " PLAIN; of like ones the first.");
        B.due("no PARTS: NONE", -1, Bounds.NEW, x -> x.spray(0));
        B.due("no PARTS: PLAIN", 0, Bounds.NEW, x -> x.spray(1));
        Bounds.Calls one = by(1, "irons 9 - damp;takes 1;crumples 0;");
        B.due("ahead of place 0 it is as PLAIN", -1, one, x -> x.spray(0));
        String damper = "irons 60 - damp;takes 1;crumples 0;";
        B.due("DAMP 0 is never more", -1, by(7, damper), x -> {
            x.set(1, 0, 0);
            return x.spray(0);
        });
        B.due("place 1 of two", 1, by(2, damper), x -> x.spray(0));
        B.due("place 1 of two: CREASED then", 40, by(2, damper), x -> x.spray(1));
        Bounds.Calls last = by(7, "irons 9 - damp * (part = 6);takes 1;crumples 0;");
        B.due("the last place of seven", 6, last, x -> {
            x.set(1, 0, 2);
            return x.spray(0);
        });
        B.due("the last place of seven: CREASED then", 61, last, x -> {
            x.set(1, 0, 2);
            return x.spray(1);
        });
        B.due("of like ones the first", 5, by(7, "irons 9 - (0 < damp) * (part = 6);takes 1;crumples 0;"), x -> {
            x.set(1, 0, 2);
            return x.spray(0);
        });
        B.due("as much as PLAIN is not less", -1, by(7, "irons 9 - (damp < 99);takes 1;crumples 0;"), x -> x.spray(0));
        // damp 6 4 2 0 ahead of each; from place 2 on 6 4 again, MINUTES are 0 2 4 6 all the same
        B.due("MINUTES themselves go on", 4 + 6 + 4 + 6 + 12, by(4, "irons 10 - damp + minute;takes 2;crumples 0;"),
                x -> {
            x.set(1, 0, 6);
            return x.spray(1);
        });
    }

    private static void how(String which, String irons, int what, int best, int creased) {
        Bounds.Calls before = by(2, "irons " + irons + ";takes 1;crumples 0;");
        B.due(which, best, before, x -> x.how(what));
        B.due(which + ": CREASED then", creased, before, x -> x.how(what + 1));
    }

    private static void howDamp() {
        B.sentence(TERMS, "HOW DAMP, HOW HOT: DAMP 0 .. 99, HEAT 0 .. 9 by which PLAIN, CREASED would be least; of"
                + " like ones the least.");
        how("DAMP does not matter", "7", 0, 0, 14);
        how("the more the better: 99", "99 - damp", 0, 99, 1);
        how("98 is not enough", "50 - 9 * (98 < damp)", 0, 99, 91);
        how("the less the better: 0", "damp", 0, 0, 0);
        how("1 is too much", "9 - 5 * (damp = 0)", 0, 0, 8);
        // the second one is told a MINUTE later
        how("from 57 on alike", "9 - (56 < damp + minute)", 0, 57, 16);
        B.due("no PARTS", 0, Bounds.NEW, x -> x.how(0));
        B.due("no PARTS: CREASED then", 0, Bounds.NEW, x -> x.how(1));
    }

    private static void howHot() {
        how("HEAT does not matter", "7", 2, 0, 14);
        how("the hotter the better: 9", "9 - heat", 2, 9, 0);
        how("8 is not enough", "50 - 9 * (8 < heat)", 2, 9, 82);
        how("the less the better: 0", "heat", 2, 0, 0);
        how("1 is too much", "9 - 5 * (heat = 0)", 2, 0, 8);
        how("from 7 on alike", "9 - (6 < heat)", 2, 7, 16);
        B.due("no PARTS: HEAT", 0, Bounds.NEW, x -> x.how(2));
        B.due("no PARTS: CREASED by HEAT", 0, Bounds.NEW, x -> x.how(3));
    }

    private static void enough() {
        B.sentence(TERMS, "ENOUGH (k 0 .. 9999): the fewest PARTS (bits; of like ones the least as bits) which,"
                + " ironed by numbers, make CREASED k or less; NONE.");
        B.due("no PARTS, k 0", 0, Bounds.NEW, x -> x.enough(0));
        B.due("the largest k", 0, Bounds.parts(7), x -> x.enough(9999));
        B.refused("the first below", -2, Bounds.SOME, x -> x.enough(-1));
        B.refused("the first above", -2, Bounds.SOME, x -> x.enough(10000));
        B.due("k is what there is", 0, Bounds.parts(3), x -> x.enough(150));
        B.due("k is one less: of like ones the least", 1, Bounds.parts(3), x -> x.enough(149));
        B.due("k is what one makes of it", 1, Bounds.parts(3), x -> x.enough(104));
        B.due("k is one less again: two", 3, Bounds.parts(3), x -> x.enough(103));
        B.due("k is what all make of it", 127, Bounds.parts(7), x -> x.enough(28));
        B.due("k is one less than all make of it", -1, Bounds.parts(7), x -> x.enough(27));
        B.due("k 0, all become 0", 127, by(7, "irons 0;takes 1;crumples 0;"), x -> x.enough(0));
        B.due("k 0, none has any", 0, Bounds.parts(7), x -> {
            creases(x, 0, 0, 0, 0, 0, 0, 0);
            return x.enough(0);
        });
        B.due("the last one alone", 64, Bounds.parts(7), x -> {
            creases(x, 4, 4, 4, 4, 4, 4, 50);
            return x.enough(28);
        });
        B.due("fewer ones of more bits", 4, Bounds.parts(3), x -> {
            creases(x, 10, 10, 16);
            return x.enough(24);
        });
    }

    private static void whoIsNotSo() {
        B.sentence(TERMS, "TOLD: a SHEET tells CREASES of all PARTS behind PLAIN: who isn't so (bits)");
        B.due("no PARTS", 0, x -> x.sheet(0, 0, 0), x -> x.tells(0, 0));
        B.due("all are so", 0, Bounds.parts(7), x -> {
            Bounds.row(x, 0, 0, 4, 4, 4, 4, 4, 4, 4);
            return x.tells(0, 0);
        });
        B.due("none is so", 127, Bounds.parts(7), x -> {
            Bounds.row(x, 0, 0, 3, 5, 0, 99, -4, 127, -128);
            return x.tells(0, 0);
        });
        B.due("the last isn't so", 64, Bounds.parts(7), x -> {
            Bounds.row(x, 0, 0, 4, 4, 4, 4, 4, 4, 5);
            return x.tells(0, 0);
        });
        B.due("of bytes the lowest 8 bits", 0, Bounds.parts(1), x -> {
            Bounds.row(x, 0, 0, 4 + 256);
            return x.tells(0, 0);
        });
        B.due("of shorts the lowest 16 bits", 0, Bounds.parts(1), x -> {
            Bounds.row(x, 0, 1, 4 - 65536);
            return x.tells(0, 0);
        });
        B.due("of shorts not 8 bits", 1, Bounds.parts(1), x -> {
            Bounds.row(x, 0, 1, 4 + 256);
            return x.tells(0, 0);
        });
        B.due("of ints all bits", 1, Bounds.parts(1), x -> {
            Bounds.row(x, 0, 2, 4 + 65536);
            return x.tells(0, 0);
        });
    }

    private static void told(String which, int want, Bounds.Calls before, int what, int item) {
        B.due(which, want, before, x -> {
            Bounds.row(x, 0, 2, item);
            return x.tells(0, what);
        });
    }

    private static void heatsAndTexts() {
        B.sentence(TERMS, "HEATS (bits 0 .. 9), TEXTS (bits), were they THE RULE");
        Bounds.Calls heat = by(1, "irons heat;takes 1;crumples 0;");
        told("HEAT 0 alone", 1, heat, 1, 0);
        told("HEAT 9 alone", 512, heat, 1, 9);
        told("no HEAT, one below", 0, heat, 1, -1);
        told("no HEAT, one above", 0, heat, 1, 10);
        told("any HEAT", 1023, by(1, "irons 7;takes 1;crumples 0;"), 1, 7);
        told("HEATS below the bound alike", 512 + 256, by(1, "irons 8 - heat;takes 1;crumples 0;"), 1, 0);
        Bounds.Calls texts = x -> {
            x.part(0, 0);
            for (int i = 1; i < 6; i++) {
                Bounds.text(x, "irons " + i % 5 + ";takes 1;crumples 0;");
            }
        };
        told("TEXT 5 alone", 32, texts, 2, 0);
        told("TEXT 0 and one more", 1 + 16, texts, 2, 4);
        told("no TEXT", 0, texts, 2, 5);
        told("TEXT 0 alone, there is no other", 1, Bounds.parts(1), 2, 4);
        told("six TEXTS alike", 63, x -> {
            x.part(0, 0);
            for (int i = 1; i < 6; i++) {
                Bounds.text(x, "irons 4;takes 1;crumples 0;");
            }
        }, 2, 4);
        B.due("no PARTS: any HEAT", 1023, x -> x.sheet(0, 0, 0), x -> x.tells(0, 1));
        B.due("no PARTS: any TEXT", 3, x -> x.sheet(0, 0, 0), x -> {
            Bounds.text(x, IDLE);
            return x.tells(0, 2);
        });
    }

    private static void kindsAndNumbers() {
        B.sentence(TERMS, "KINDS (bits 0 .. 5), NUMBERS (bits 0 .. 9) of one");
        Bounds.Calls plain = by(1, "irons 40;takes 1;crumples 0;");
        told("KIND 0 and 2 are alike of NUMBER 0", 5, plain, 10, 40);
        told("KIND 1 and 3", 10, plain, 10, 20);
        told("KIND 4 alone", 16, plain, 10, 25);
        told("KIND 5 alone", 32, plain, 10, 16);
        told("no KIND", 0, plain, 10, 41);
        told("all KINDS", 63, x -> {
            by(1, "irons 0;takes 1;crumples 0;").on(x);
            creases(x, 0);
        }, 10, 0);
        told("KIND 0 alone", 1, x -> {
            plain.on(x);
            x.set(2, 0, 1);
        }, 10, 40);
        Bounds.Calls sleeve = x -> {
            x.part(2, 5);
            Bounds.rule(x, "irons 40;takes 1;crumples 0;");
        };
        told("NUMBER 0 alone", 1, sleeve, 20, 40);
        told("NUMBER 9 alone", 512, sleeve, 20, 49);
        told("no NUMBER, one below", 0, sleeve, 20, 39);
        told("no NUMBER, one above", 0, sleeve, 20, 50);
        told("any NUMBER", 1023, plain, 20, 40);
        B.due("of the last of seven", 512, Bounds.parts(7), x -> {
            Bounds.rule(x, "irons number * (part = 6);takes 1;crumples 0;");
            Bounds.row(x, 0, 0, 0, 0, 0, 0, 0, 0, 9);
            return x.tells(0, 26);
        });
        B.due("nobody would be otherwise: another one is", 0, Bounds.parts(2), x -> {
            Bounds.row(x, 0, 0, 4, 5);
            return x.tells(0, 20);
        });
    }

    private static void creasesTold() {
        B.sentence(TERMS, "CREASES that it could have had (0 .. 99: how many, the least), by which nobody would be"
                + " otherwise.");
        Bounds.Calls idle = by(1, IDLE);
        told("0: how many", 1, idle, 30, 0);
        told("0: the least", 0, idle, 40, 0);
        told("99: how many", 1, idle, 30, 99);
        told("99: the least", 99, idle, 40, 99);
        told("one below: how many", 0, idle, 30, -1);
        told("one below: NONE", -1, idle, 40, -1);
        told("one above: how many", 0, idle, 30, 100);
        told("one above: NONE", -1, idle, 40, 100);
        told("any: how many", 100, Bounds.parts(1), 30, 4);
        told("any: the least", 0, Bounds.parts(1), 40, 4);
        told("of a POCKET of 96, 97, 98: how many", 3, x -> x.part(5, 0), 30, 32);
        told("of a POCKET of 96, 97, 98: the least", 96, x -> x.part(5, 0), 40, 32);
        told("of a POCKET of 99 alone: how many", 1, x -> x.part(5, 0), 30, 33);
        told("of a POCKET of 99 alone: the least", 99, x -> x.part(5, 0), 40, 33);
        told("of a POCKET of 0, 1, 2: the least", 0, x -> x.part(5, 0), 40, 0);
    }

    /** CREASES of so many, drawn by a SEED; reckoned without ints. */
    private static int[] drawnBy(int seed, int many) {
        int[] all = new int[many];
        BigInteger z = BigInteger.valueOf(seed).mod(INTS);
        for (int i = 0; i < many; i++) {
            z = z.multiply(BigInteger.valueOf(1103515245)).add(BigInteger.valueOf(12345)).mod(INTS);
            all[i] = z.shiftRight(9).mod(BigInteger.valueOf(100)).intValue();
        }
        return all;
    }

    private static int sum(int[] all) {
        int sum = 0;
        for (int v : all) {
            sum += v;
        }
        return sum;
    }

    private static int seedThatDraws(int creases) {
        int seed = 0;
        while (drawnBy(seed, 1)[0] != creases) {
            seed++;
        }
        return seed;
    }

    private static void drawn() {
        B.sentence(TERMS, "(z >>> 9) % 100, z being z * 1103515245 + 12345 (an int; SEED at first) anew for each");
        for (int seed : new int[] {0, 1, 2, -1, -2, 12345, -740551042, Bounds.LOWEST, Bounds.LOWEST + 1,
                Bounds.HIGHEST}) {
            for (int many = 0; many < 8; many++) {
                B.due("SEED " + seed + ", of " + many, sum(drawnBy(seed, many)), by(many, IDLE), x -> x.drawn(seed));
            }
        }
        int least = seedThatDraws(0);
        int most = seedThatDraws(99);
        B.due("0 CREASES are drawn", 0, by(1, IDLE), x -> x.drawn(least));
        B.due("99 CREASES are drawn", 99, by(1, IDLE), x -> x.drawn(most));
        // 0 * 1103515245 + 12345, and 12345 >>> 9 is 24
        B.due("SEED 0, of one", 24, by(1, IDLE), x -> x.drawn(0));
        // 2147483647 * 1103515245 + 12345 wraps to 1043980748
        B.due("SEED 2147483647, of one", 1043980748 / 512 % 100, by(1, IDLE), x -> x.drawn(Bounds.HIGHEST));
        // -2147483648 * 1103515245 + 12345 wraps to -2147471303, without a sign 2147495993
        B.due("SEED -2147483648, of one", 2147495993L / 512 % 100, by(1, IDLE), x -> x.drawn(Bounds.LOWEST));
    }

    /** 1 if WORST FIRST comes to no more than PLAIN by that SEED: by a shirt that truly has these CREASES. */
    private static int isGood(Bounds.Calls shirt, int seed) {
        CreasedAgain x = new CreasedAgain();
        shirt.on(x);
        creases(x, drawnBy(seed, x.count(0)));
        return x.worst(0) <= x.plain(0) ? 1 : 0;
    }

    private static void chance(String which, Bounds.Calls shirt, int seed, int n) {
        int good = 0;
        for (int i = 0; i < n; i++) {
            good += isGood(shirt, BigInteger.valueOf(seed).add(BigInteger.valueOf(i)).intValue());
        }
        int shared = BigInteger.valueOf(good).gcd(BigInteger.valueOf(n)).intValue();
        B.due(which + ", " + good + " of " + n + ": above", good / shared, shirt, x -> x.chance(seed, n, 0));
        B.due(which + ", " + good + " of " + n + ": below", n / shared, shirt, x -> x.chance(seed, n, 1));
    }

    private static void seeds() {
        B.sentence(TERMS, "IN n seeds (1 .. 20), SEED and each 1 more (an int): of these those by which WORST FIRST"
                + " comes to no more than PLAIN.");
        Bounds.Calls chain = x -> {
            Bounds.parts(4).on(x);
            x.set(4, 0, 2);
            x.set(4, 1, 4);
            x.set(4, 2, 8);
        };
        for (int n = 1; n <= 20; n++) {
            chance("n " + n, chain, 77, n);
            chance("the SEEDS wrap", chain, Bounds.HIGHEST - n / 2, n);
        }
        for (int seed = 0; seed < 40; seed++) {
            chance("SEED " + seed, chain, seed, 1);
        }
        chance("the last SEED, the first, and one more", chain, Bounds.HIGHEST, 3);
        chance("the first SEED", chain, Bounds.LOWEST, 1);
        chance("SEEDS about 0", chain, -10, 20);
        chance("as much as PLAIN is no more", Bounds.parts(3), 5, 20);
        chance("no PARTS", Bounds.NEW, 5, 20);
        // who is ironed behind another keeps more: a COLLAR ahead is better, it shows more
        chance("some of them", x -> {
            x.part(0, 0);
            x.part(1, 0);
            Bounds.rule(x, "irons 10 + 40 * (0 < minute);takes 1;crumples 0;");
        }, 9, 20);
        chance("hardly any of them", x -> {
            Bounds.parts(7).on(x);
            Bounds.rule(x, "irons minute * part;takes part + 1;crumples 0;");
        }, 9, 20);
        B.refused("n 0", CreasedAgain.NO, Bounds.SOME, x -> x.chance(1, 0, 0));
        B.refused("n 21", CreasedAgain.NO, Bounds.SOME, x -> x.chance(1, 21, 0));
    }

    private static void anImage() {
        B.sentence(TERMS, "AN IMAGE keeps HEAT, DAMP, NUMBERS, CREASES, on what all LIE, THE RULE (PARTS that came"
                + " since go).");
        Bounds.Calls image = x -> {
            Bounds.SOME.on(x);
            x.image();
        };
        B.alike("all is as in it", image, x -> {
            image.on(x);
            x.set(0, 0, 0);
            x.set(1, 0, 99);
            for (int part = 0; part < 3; part++) {
                x.set(2, part, 0);
                x.set(3, part, 99);
                x.set(4, part, 127);
            }
            x.force(0);
            x.part(5, 5);
            x.iron(2);
            x.back();
        });
        B.alike("as many times as one likes", image, x -> {
            image.on(x);
            x.iron(0);
            x.back();
            x.iron(1);
            x.part(0, 0);
            x.back();
        });
        B.alike("who comes where one has gone is as one comes", x -> {
            x.image();
            x.part(0, 0);
        }, x -> {
            x.image();
            x.part(3, 9);
            x.set(3, 0, 99);
            x.set(4, 0, 127);
            x.back();
            x.part(0, 0);
        });
        B.alike("an image of no PARTS", x -> x.image(), x -> {
            x.image();
            x.part(3, 9);
            x.back();
        });
        B.alike("what isn't kept stays: THE TAPE, TEXTS, SHEETS", x -> {
            image.on(x);
            x.sheet(3, 2, 2);
            x.text();
            Bounds.text(x, IDLE);
            Bounds.write(x, "irons");
        }, x -> {
            image.on(x);
            x.sheet(3, 2, 2);
            x.text();
            Bounds.text(x, IDLE);
            Bounds.write(x, "irons");
            x.back();
        });
    }

    private static void sheets() {
        B.sentence(TERMS, "SHEETS 0 .. 3 are rows of numbers, or missing (as all are at first): of sort 0 bytes, 1"
                + " shorts, 2 ints.");
        for (int sheet = 0; sheet < 4; sheet++) {
            int s = sheet;
            B.refused("missing at first: " + s, -11, Bounds.NEW, x -> x.cell(s, 0, 0));
            for (int sort = 0; sort < 3; sort++) {
                int t = sort;
                B.due("sort " + t + " of " + s, 1, Bounds.NEW, x -> x.sheet(s, t, 1));
                for (int other = 0; other < 3; other++) {
                    int o = other;
                    B.changesNothing("sort " + t + " of " + s + " taken for " + o, o == t ? 0 : -13,
                            x -> x.sheet(s, t, 1),
                            x -> x.parts(s, o, 0, 0));
                }
            }
        }
        for (int none : new int[] {-1, 4, Bounds.LOWEST, Bounds.HIGHEST}) {
            B.refused("no SHEET " + none, -2, Bounds.SOME, x -> x.sheet(none, 0, 1));
            B.refused("no SHEET " + none + ", cell", -2, Bounds.SOME, x -> x.cell(none, 0, 1));
        }
        B.refused("no sort -2", -2, Bounds.SOME, x -> x.sheet(0, -2, 1));
        B.refused("no sort 3", -2, Bounds.SOME, x -> x.sheet(0, 3, 1));
    }
}
