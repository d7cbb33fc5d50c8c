/** Terms, the first section: the boundary cases of the iron, of parts and of what kinds make of a text's values. */
public final class TermsThingsTests {
    private static final Bounds B = new Bounds("TermsThingsTests");
    private static final String TERMS = "Terms";
    private static final int LOWEST = Bounds.LOWEST;
    private static final int HIGHEST = Bounds.HIGHEST;

    public static void main(String[] args) {
        heat();
        damp();
        parts();
        kinds();
        numbers();
        creases();
        liesOn();
        liesOnNone();
        names();
        quotients();
        refusals();
        hostRefusals();
        keepsOfPart();
        keepsOfCuff();
        keepsOfPocket();
        takes();
        crumples();
        shows();
        inTheEnd();
        B.end();
    }

    /** One part of a kind, and a rule of three values. */
    private static Bounds.Calls one(int kind, int number, int creases, String irons, String takes, String crumples) {
        return x -> {
            x.part(kind, number);
            x.set(3, 0, creases);
            Bounds.rule(x, "irons " + irons + ";takes " + takes + ";crumples " + crumples + ";");
        };
    }

    private static void keeps(String which, int want, int kind, int number, int creases, String irons) {
        Bounds.Calls before = one(kind, number, creases, irons, "1", "0");
        B.due(which + ", told", want, before, x -> x.told(0, 7));
        B.due(which + ", ironed", want, before, x -> x.iron(0));
        B.due(which + ", in PLAIN", want, before, x -> x.plain(10));
    }

    private static void takes(String which, int want, int kind, int number, String takes) {
        Bounds.Calls before = one(kind, number, 50, "1", takes, "0");
        B.due(which + ", told", want, before, x -> x.told(0, 8));
        B.due(which + ", in PLAIN", want, before, x -> x.plain(1));
    }

    private static void crumples(String which, int want, int kind, String crumples) {
        Bounds.Calls before = one(kind, 9, 0, "1", "1", crumples);
        B.due(which + ", told", want, before, x -> x.told(0, 9));
        B.due(which + ", by another", Math.min(99, want), before, x -> {
            x.part(0, 0);
            x.set(4, 1, 1);
            x.iron(1);
            return x.told(0, 3);
        });
    }

    private static void heat() {
        B.sentence(TERMS, "HEAT (0 .. 9; 5 at first)");
        B.due("5 at first", 5, Bounds.NEW, x -> x.told(0, 0));
        B.due("5 at first, as a text sees it", 5, one(0, 0, 50, "heat", "1", "1"), x -> x.told(0, 7));
        B.due("the smallest is taken", 0, x -> x.set(0, 0, 0), x -> x.told(0, 0));
        B.due("the largest is taken", 9, x -> x.set(0, 0, 9), x -> x.told(0, 0));
        B.refused("the first below", -2, Bounds.SOME, x -> x.set(0, 0, -1));
        B.refused("the first above", -2, Bounds.SOME, x -> x.set(0, 0, 10));
        B.refused("the lowest int", -2, Bounds.SOME, x -> x.set(0, 0, LOWEST));
        B.refused("the highest int", -2, Bounds.SOME, x -> x.set(0, 0, HIGHEST));
    }

    private static void damp() {
        B.sentence(TERMS, "DAMP (0 .. 99; 40 at first)");
        B.due("40 at first", 40, Bounds.NEW, x -> x.told(0, 1));
        B.due("40 at first, as a text sees it", 40, one(0, 0, 50, "damp", "1", "1"), x -> x.told(0, 7));
        B.due("the smallest is taken", 0, x -> x.set(1, 0, 0), x -> x.told(0, 1));
        B.due("the largest is taken", 99, x -> x.set(1, 0, 99), x -> x.told(0, 1));
        B.refused("the first below", -2, Bounds.SOME, x -> x.set(1, 0, -1));
        B.refused("the first above", -2, Bounds.SOME, x -> x.set(1, 0, 100));
        B.refused("the lowest int", -2, Bounds.SOME, x -> x.set(1, 0, LOWEST));
        B.refused("the highest int", -2, Bounds.SOME, x -> x.set(1, 0, HIGHEST));
    }

    private static void parts() {
        B.sentence(TERMS, "PARTS (7 at most, numbered from 0)");
        for (int many = 0; many < 7; many++) {
            B.due("with " + many + " there is room, and that is its number", many, Bounds.parts(many),
                    x -> x.part(0, 0));
        }
        B.refused("an eighth", -4, Bounds.BRIMFUL, x -> x.part(0, 0));
        B.due("an eighth by a SHEET", 0, x -> {
            Bounds.BRIMFUL.on(x);
            x.sheet(0, 0, 2);
        }, x -> x.parts(0, 0, 0, 1));
        B.due("the highest number there is", 50, Bounds.parts(7), x -> x.told(6, 3));
        B.refused("none of number 7", -2, Bounds.BRIMFUL, x -> x.told(7, 3));
        B.refused("none of number -1", -2, Bounds.BRIMFUL, x -> x.told(-1, 3));
    }

    private static void kinds() {
        B.sentence(TERMS, "0 PART, 1 COLLAR under PART, 2 SLEEVE under PART, 3 YOKE under COLLAR, 4 CUFF under"
                + " SLEEVE, 5 POCKET under PART");
        for (int k = 0; k < 6; k++) {
            int kind = k;
            B.due("KIND " + kind, kind, x -> x.part(kind, 0), x -> x.told(0, 5));
            String under = new String[] {"0", "01", "02", "013", "024", "05"}[kind];
            for (int over = 0; over < 6; over++) {
                int other = over;
                int want = under.indexOf('0' + other) >= 0 ? 7 : -13;
                B.changesNothing("KIND " + kind + " under " + other, want, x -> x.part(kind, 7),
                        x -> x.taken(0, other));
            }
        }
        B.refused("the first below", -2, Bounds.SOME, x -> x.part(-1, 0));
        B.refused("the first above", -2, Bounds.SOME, x -> x.part(6, 0));
    }

    private static void numbers() {
        B.sentence(TERMS, "a NUMBER (0 .. 9)");
        B.due("the smallest comes", 0, x -> x.part(0, 0), x -> x.told(0, 2));
        B.due("the largest comes", 9, x -> x.part(0, 9), x -> x.told(0, 2));
        B.refused("the first below, as one comes", -2, Bounds.SOME, x -> x.part(0, -1));
        B.refused("the first above, as one comes", -2, Bounds.SOME, x -> x.part(0, 10));
        B.due("the smallest is set", 0, x -> {
            x.part(0, 4);
            x.set(2, 0, 0);
        }, x -> x.told(0, 2));
        B.due("the largest is set", 9, x -> {
            x.part(0, 4);
            x.set(2, 0, 9);
        }, x -> x.told(0, 2));
        B.refused("the first below is not set", -2, Bounds.SOME, x -> x.set(2, 0, -1));
        B.refused("the first above is not set", -2, Bounds.SOME, x -> x.set(2, 0, 10));
    }

    private static void creases() {
        B.sentence(TERMS, "CREASES (0 .. 99; 50 as one comes)");
        for (int kind = 0; kind < 6; kind++) {
            int k = kind;
            B.due("50 as one comes of KIND " + kind, 50, x -> x.part(k, 9), x -> x.told(0, 3));
        }
        B.due("the smallest is set", 0, x -> {
            x.part(0, 4);
            x.set(3, 0, 0);
        }, x -> x.told(0, 3));
        B.due("the largest is set", 99, x -> {
            x.part(0, 4);
            x.set(3, 0, 99);
        }, x -> x.told(0, 3));
        B.refused("the first below", -2, Bounds.SOME, x -> x.set(3, 0, -1));
        B.refused("the first above", -2, Bounds.SOME, x -> x.set(3, 0, 100));
    }

    private static void liesOn() {
        B.sentence(TERMS, "LIE ON others (bits 0 .. 6; none as one comes;");
        B.due("none as one comes", 0, x -> x.part(5, 9), x -> x.told(0, 4));
        B.due("none as one comes, where one that lay on others has gone", 0, x -> {
            x.image();
            x.part(0, 0);
            x.set(4, 0, 127);
            x.back();
            x.part(0, 0);
        }, x -> x.told(0, 4));
        for (int bit = 0; bit < 7; bit++) {
            int on = bit;
            B.due("bit " + bit, 1 << bit, x -> {
                x.part(0, 0);
                x.set(4, 0, 1 << on);
            }, x -> x.told(0, 4));
            B.due("it crumples " + bit, on == 3 ? 4 : 54, Bounds.parts(7), x -> {
                x.set(4, 3, 1 << on);
                x.iron(3);
                return x.told(on, 3);
            });
        }
        B.due("no bits", 0, x -> {
            x.part(0, 0);
            x.set(4, 0, 5);
            x.set(4, 0, 0);
        }, x -> x.told(0, 4));
        B.due("all bits", 127, x -> {
            x.part(0, 0);
            x.set(4, 0, 127);
        }, x -> x.told(0, 4));
        B.refused("the first below", -2, Bounds.SOME, x -> x.set(4, 0, -1));
        B.refused("the first above", -2, Bounds.SOME, x -> x.set(4, 0, 128));
        B.refused("bit 31", -2, Bounds.SOME, x -> x.set(4, 0, LOWEST));
    }

    private static void liesOnNone() {
        B.sentence(TERMS, "bits of none there are, of itself do nothing)");
        B.due("bits of none are told as they were set", 124, Bounds.parts(2), x -> {
            x.set(4, 0, 124);
            return x.told(0, 4);
        });
        B.due("they crumple nobody", 4 + 50, Bounds.parts(2), x -> {
            x.set(4, 0, 124);
            x.iron(0);
            return x.count(4);
        });
        B.due("of itself", 4, Bounds.parts(1), x -> {
            x.set(4, 0, 1);
            return x.iron(0);
        });
        B.due("of itself, in PLAIN", 4, Bounds.parts(1), x -> {
            x.set(4, 0, 127);
            return x.plain(0);
        });
        B.due("of itself, the last of seven", 4, Bounds.parts(7), x -> {
            x.set(4, 6, 64);
            return x.plain(16);
        });
        B.due("the bit of one that comes later does something then", 54, Bounds.parts(2), x -> {
            x.set(4, 0, 4);
            x.part(0, 0);
            x.iron(0);
            return x.told(2, 3);
        });
        B.due("the bit of one that has gone does nothing", 4, Bounds.parts(1), x -> {
            x.set(4, 0, 2);
            x.image();
            x.part(0, 0);
            x.back();
            return x.plain(0);
        });
    }

    private static void names() {
        B.sentence(TERMS, "NONE is -1; NO, where a long is answered, -4611686018427387904");
        B.due("NONE", -1, Bounds.NEW, x -> CreasedAgain.NONE);
        B.due("NO", -(1L << 62), Bounds.NEW, x -> CreasedAgain.NO);
        B.due("where nothing is left", CreasedAgain.NONE, Bounds.NEW, x -> x.leave(0));
        B.due("where a long is answered", CreasedAgain.NO, Bounds.NEW, x -> x.chance(0, 0, 0));
        B.sentence(TERMS, "BAD (-2: a number is none such or not as told), STATE (-3), FULL (-4)");
        B.due("BAD", -2, Bounds.NEW, x -> CreasedAgain.BAD);
        B.due("STATE", -3, Bounds.NEW, x -> CreasedAgain.STATE);
        B.due("FULL", -4, Bounds.NEW, x -> CreasedAgain.FULL);
    }

    private static void quotients() {
        B.sentence(TERMS, "Quotients are cut toward 0");
        keeps("half of 0", 0, 1, 0, 50, "0");
        keeps("half of 1", 0, 1, 0, 50, "1");
        keeps("half of 2", 1, 1, 0, 50, "2");
        keeps("half of 3", 1, 1, 0, 50, "3");
        keeps("half of 99", 49, 1, 0, 50, "99");
        keeps("a third of 2", 0, 5, 0, 2, "99");
        keeps("a third of 5", 1, 5, 0, 5, "99");
        takes("half of 3", 1, 4, 0, "3");
        takes("half of 29", 14, 4, 0, "29");
    }

    private static void refusals() {
        B.sentence(TERMS, "Refusals, the first that the call's words name; they change nothing");
        B.refused("BAD ahead of FULL: part, KIND", -2, Bounds.BRIMFUL, x -> x.part(6, 0));
        B.refused("BAD ahead of FULL: part, NUMBER", -2, Bounds.BRIMFUL, x -> x.part(0, 10));
        B.refused("BAD ahead of FULL: feed", -2, Bounds.BRIMFUL, x -> x.feed(256));
        B.refused("FULL ahead of a FAULT: text", -4, Bounds.BRIMFUL, x -> x.text());
        B.refused("BAD ahead of -11: order, what", -2, Bounds.SOME, x -> x.order(3, 2));
        B.refused("BAD ahead of -11: order, PART", -2, Bounds.SOME, x -> x.order(3, 13));
        B.refused("-11 ahead of BAD: order", -11, Bounds.NEW, x -> x.order(3, 0));
        B.refused("BAD ahead of -11: tells, what", -2, Bounds.SOME, x -> x.tells(3, 3));
        B.refused("BAD ahead of -11: tells, PART", -2, Bounds.SOME, x -> x.tells(3, 13));
        B.refused("-11 ahead of BAD: tells", -11, Bounds.SOME, x -> x.tells(3, 0));
        B.refused("BAD ahead of -14: sheet, SHEET", -2, Bounds.SOME, x -> x.sheet(4, 0, -1));
        B.refused("BAD ahead of -14: sheet, sort", -2, Bounds.SOME, x -> x.sheet(0, 3, -1));
        B.refused("BAD ahead of -11: taken", -2, Bounds.SOME, x -> x.taken(3, 6));
        B.refused("-11 ahead of -12: cell", -11, Bounds.SOME, x -> x.cell(3, -1, 0));
    }

    private static void hostRefusals() {
        B.sentence(TERMS, "-11 nothing where something is asked, -12 a place outside, -13 a thing of another sort"
                + " or KIND, -14 a size below 0");
        B.refused("-11 ahead of -13, -12: copy", -11, Bounds.SOME, x -> x.copy(0, -1, 3, -1, -1));
        B.refused("-13 ahead of -12: copy", -13, Bounds.SOME, x -> x.copy(0, -1, 1, -1, -1));
        B.refused("-12: copy", -12, Bounds.SOME, x -> x.copy(0, -1, 0, 0, 1));
        B.refused("-13 ahead of -12: parts", -13, Bounds.SOME, x -> x.parts(0, 1, -1, 7));
        B.refused("-11 ahead of -12: parts", -11, Bounds.SOME, x -> x.parts(3, 1, -1, 7));
        B.refused("-12: parts", -12, Bounds.SOME, x -> x.parts(1, 1, -1, 7));
        B.refused("-12: cell", -12, Bounds.SOME, x -> x.cell(1, 5, 7));
        B.refused("-13: taken", -13, Bounds.SOME, x -> x.taken(0, 1));
        B.refused("-11: taken", -11, Bounds.SOME, x -> x.taken(3, 1));
        B.refused("-14: sheet", -14, Bounds.SOME, x -> x.sheet(1, 0, -1));
    }

    private static void keepsOfPart() {
        B.sentence(TERMS, "PART: v; COLLAR: half (cut) of a PART's; SLEEVE: NUMBER more than a PART; YOKE: as a"
                + " COLLAR;");
        keeps("a PART's least", 0, 0, 9, 99, "0");
        keeps("a PART's most", 99, 0, 9, 0, "99");
        keeps("a COLLAR's least", 0, 1, 9, 99, "0");
        keeps("a COLLAR's most", 49, 1, 9, 0, "99");
        keeps("a SLEEVE's least", 0, 2, 0, 99, "0");
        keeps("a SLEEVE's, NUMBER alone", 9, 2, 9, 99, "0");
        keeps("a SLEEVE's, v alone", 99, 2, 0, 99, "99");
        keeps("a YOKE's least", 0, 3, 9, 99, "1");
        keeps("a YOKE's most", 49, 3, 9, 0, "99");
    }

    private static void keepsOfCuff() {
        B.sentence(TERMS, "CUFF: v, half (cut) of c, whichever is less, and NUMBER;");
        keeps("v is 0", 0, 4, 0, 99, "0");
        keeps("c is 0", 0, 4, 0, 0, "99");
        keeps("c is 1", 0, 4, 0, 1, "99");
        keeps("c is 2", 1, 4, 0, 2, "99");
        keeps("c is 3", 1, 4, 0, 3, "99");
        keeps("NUMBER alone, v is 0", 9, 4, 9, 99, "0");
        keeps("NUMBER alone, c is 1", 9, 4, 9, 1, "99");
        keeps("v is one less than half of c", 19, 4, 0, 40, "19");
        keeps("v is half of c", 20, 4, 0, 40, "20");
        keeps("v is one more than half of c", 20, 4, 0, 40, "21");
        keeps("the most", 58, 4, 9, 99, "99");
    }

    private static void keepsOfPocket() {
        B.sentence(TERMS, "POCKET: c by 3 (cut). TAKES");
        keeps("c is 0", 0, 5, 9, 0, "99");
        keeps("c is 2", 0, 5, 9, 2, "99");
        keeps("c is 3", 1, 5, 9, 3, "99");
        keeps("c is 98", 32, 5, 9, 98, "99");
        keeps("c is 99", 33, 5, 9, 99, "0");
    }

    private static void takes() {
        B.sentence(TERMS, "PART: v; COLLAR: twice a PART's; SLEEVE: as a PART; YOKE: NUMBER more than a COLLAR;"
                + " CUFF: half (cut) of a SLEEVE's; POCKET: 1. CRUMPLES");
        takes("a PART's least", 1, 0, 9, "1");
        takes("a PART's most", 30, 0, 9, "30");
        takes("a COLLAR's", 2, 1, 9, "1");
        takes("a COLLAR's most", 60, 1, 9, "30");
        takes("a SLEEVE's least", 1, 2, 9, "1");
        takes("a SLEEVE's most", 30, 2, 9, "30");
        takes("a YOKE's, NUMBER 0", 2, 3, 0, "1");
        takes("a YOKE's most", 69, 3, 9, "30");
        takes("a CUFF's, of 2", 1, 4, 9, "2");
        takes("a CUFF's, of 4", 2, 4, 9, "4");
        takes("a CUFF's most", 15, 4, 9, "30");
        takes("a POCKET's, of 0", 1, 5, 9, "0");
        takes("a POCKET's, of 30", 1, 5, 9, "30");
    }

    private static void crumples() {
        B.sentence(TERMS, "PART: v; COLLAR: 2 less than a PART; SLEEVE: twice a PART's; YOKE: as a COLLAR; CUFF: as"
                + " a SLEEVE; POCKET: 0. SHOWS");
        int[] most = {99, 97, 198, 97, 198, 0};
        int[] ofOne = {1, 0, 2, 0, 2, 0};
        int[] ofThree = {3, 1, 6, 1, 6, 0};
        for (int kind = 0; kind < 6; kind++) {
            crumples("KIND " + kind + ", of 0", 0, kind, "0");
            crumples("KIND " + kind + ", of 1", ofOne[kind], kind, "1");
            crumples("KIND " + kind + ", of 3", ofThree[kind], kind, "3");
            crumples("KIND " + kind + ", of 99", most[kind], kind, "99");
        }
    }

    private static void shows() {
        B.sentence(TERMS, "SHOWS: PART: 1; COLLAR: 3 times a PART's; SLEEVE: as a PART; YOKE: 1 less than a COLLAR;"
                + " CUFF: 1 more than a SLEEVE; POCKET: as a PART");
        int[] want = {1, 3, 1, 2, 2, 1};
        for (int kind = 0; kind < 6; kind++) {
            int k = kind;
            B.due("KIND " + kind, want[kind], x -> x.part(k, 9), x -> x.told(0, 6));
            B.due("KIND " + kind + ", of 99 CREASES", 99 * want[kind], x -> {
                x.part(k, 9);
                x.set(3, 0, 99);
            }, x -> x.count(4));
            B.due("KIND " + kind + ", of 0 CREASES", 0, x -> {
                x.part(k, 9);
                x.set(3, 0, 0);
            }, x -> x.count(4));
        }
    }

    private static void inTheEnd() {
        B.sentence(TERMS, "(KEEPS 0 .. 99, TAKES 1 at least, CRUMPLES 0 at least, in the end.)");
        keeps("a SLEEVE's of 90 and 9", 99, 2, 9, 50, "90");
        keeps("a SLEEVE's of 89 and 9", 98, 2, 9, 50, "89");
        keeps("a SLEEVE's of 91 and 9", 99, 2, 9, 50, "91");
        keeps("a SLEEVE's of 99 and 9", 99, 2, 9, 50, "99");
        keeps("a SLEEVE's of the bound and 9", 99, 2, 9, 50, "1000");
        keeps("a SLEEVE's of less than 0 and 9: v's bound comes first", 9, 2, 9, 50, "-5");
        takes("a PART's of 0", 1, 0, 0, "0");
        takes("a COLLAR's of 0, not twice the least", 1, 1, 0, "0");
        takes("a SLEEVE's of 0", 1, 2, 9, "0");
        takes("a YOKE's of 0 and 0", 1, 3, 0, "0");
        takes("a YOKE's of 0 and 1", 1, 3, 1, "0");
        takes("a YOKE's of 0 and 2", 2, 3, 2, "0");
        takes("a CUFF's of 0", 1, 4, 0, "0");
        takes("a CUFF's of 1", 1, 4, 0, "1");
        crumples("a COLLAR's of 0", 0, 1, "0");
        crumples("a COLLAR's of 1", 0, 1, "1");
        crumples("a COLLAR's of 2", 0, 1, "2");
        crumples("a COLLAR's of 3", 1, 1, "3");
        crumples("a YOKE's of 0", 0, 3, "0");
        crumples("a YOKE's of 2", 0, 3, "2");
        crumples("a YOKE's of 3", 1, 3, "3");
    }
}
