/** Promise by promise what the document says, in numbers worked out by hand. */
public final class PromiseTests {
    private static final Tally TALLY = new Tally("PromiseTests");
    private static CreasedAgain x;

    public static void main(String[] args) {
        aNewObject();
        set();
        part();
        told();
        toldBounds();
        iron();
        feed();
        text();
        textFaults();
        textDepth();
        textValues();
        force();
        plain();
        order();
        best();
        worst();
        change();
        leave();
        spray();
        how();
        enough();
        tells();
        film();
        drawn();
        chance();
        image();
        back();
        count();
        sheet();
        cell();
        copy();
        parts();
        taken();
        TALLY.end();
    }

    private static void promise(String name) {
        TALLY.promise(name);
        x = new CreasedAgain();
    }

    private static void due(String call, long got, long want) {
        TALLY.due(call, got, want);
    }

    private static void write(String text) {
        for (int i = 0; i < text.length(); i++) {
            x.feed(text.charAt(i));
        }
    }

    private static int text(String text) {
        write(text);
        return x.text();
    }

    private static void rule(String text) {
        due("force(" + text + ")", x.force(text(text)) >= 0 ? 1 : 0, 1);
    }

    private static void row(int sheet, int sort, int... items) {
        due("sheet", x.sheet(sheet, sort, items.length), 1);
        for (int i = 0; i < items.length; i++) {
            due("cell", x.cell(sheet, i, items[i]), 1);
        }
    }

    /** Creases, lies-on, kinds, numbers, heat, damp, the rule: all that a refused call must leave as it is. */
    private static int[] all() {
        int[] all = new int[48];
        int n = 0;
        for (int what = 0; what < 5; what++) {
            all[n++] = x.count(what);
        }
        all[n++] = x.told(0, 0);
        all[n++] = x.told(0, 1);
        for (int p = 0; p < 7; p++) {
            for (int what = 2; what < 6; what++) {
                all[n++] = x.told(p, what);
            }
        }
        return all;
    }

    private static void aNewObject() {
        promise("1 a new object");
        due("count(0)", x.count(0), 0);
        due("count(1)", x.count(1), 1);
        due("count(2)", x.count(2), 0);
        due("count(3)", x.count(3), 0);
        due("count(4)", x.count(4), 0);
        due("told(0, 0)", x.told(0, 0), 5);
        due("told(0, 1)", x.told(0, 1), 40);
        due("told(0, 2)", x.told(0, 2), -2);
        for (int s = 0; s < 4; s++) {
            due("cell", x.cell(s, 0, 0), -11);
        }
        due("back()", x.back(), -3);
        due("NONE", CreasedAgain.NONE, -1);
        due("BAD", CreasedAgain.BAD, -2);
        due("STATE", CreasedAgain.STATE, -3);
        due("FULL", CreasedAgain.FULL, -4);
        due("NO", CreasedAgain.NO, -4611686018427387904L);
    }

    private static void set() {
        promise("2 set");
        due("heat, whatever of is", x.set(0, -9, 9), 5);
        due("heat again", x.set(0, 99, 0), 9);
        due("damp, whatever of is", x.set(1, -9, 99), 40);
        due("damp again", x.set(1, 7, 0), 99);
        due("of no part", x.set(2, 0, 1), -2);
        x.part(2, 7);
        due("number", x.set(2, 0, 9), 7);
        due("creases", x.set(3, 0, 99), 50);
        due("lies", x.set(4, 0, 127), 0);
        due("number was", x.set(2, 0, 0), 9);
        due("creases were", x.set(3, 0, 0), 99);
        due("lay", x.set(4, 0, 3), 127);
        int[] before = all();
        int[][] bad = {{-1, 0, 0}, {5, 0, 0}, {6, 0, 0}, {0, 0, 10}, {0, 0, -1}, {1, 0, 100}, {1, 0, -1}, {2, 0, 10},
            {2, 0, -1}, {3, 0, 100}, {3, 0, -1}, {4, 0, 128}, {4, 0, -1}, {2, 1, 0}, {3, -1, 0}, {4, 7, 0},
            {Integer.MIN_VALUE, 0, 0}, {4, Integer.MAX_VALUE, 0}};
        for (int[] b : bad) {
            due("set(" + b[0] + ", " + b[1] + ", " + b[2] + ")", x.set(b[0], b[1], b[2]), -2);
        }
        TALLY.due("nothing changed", all(), before);
    }

    private static void part() {
        promise("3 part");
        due("part(6, 0)", x.part(6, 0), -2);
        due("part(-1, 0)", x.part(-1, 0), -2);
        due("part(0, 10)", x.part(0, 10), -2);
        due("part(0, -1)", x.part(0, -1), -2);
        for (int k = 0; k < 6; k++) {
            due("part", x.part(k, 9 - k), k);
            due("number", x.told(k, 2), 9 - k);
            due("creases", x.told(k, 3), 50);
            due("lies", x.told(k, 4), 0);
            due("kind", x.told(k, 5), k);
        }
        due("the seventh", x.part(0, 0), 6);
        due("an eighth", x.part(5, 9), -4);
        due("BAD is ahead of FULL", x.part(6, 9), -2);
        due("BAD is ahead of FULL", x.part(0, 10), -2);
        due("count(0)", x.count(0), 7);
    }

    private static void sixKinds(int number) {
        for (int k = 0; k < 6; k++) {
            x.part(k, number);
        }
    }

    private static void toldOfKinds(int what, int... want) {
        for (int k = 0; k < 6; k++) {
            due("told(" + k + ", " + what + ")", x.told(k, what), want[k]);
        }
    }

    private static void told() {
        promise("4 told");
        sixKinds(3);
        x.set(0, 0, 4);
        x.set(4, 2, 5);
        x.set(3, 4, 7);
        x.set(3, 5, 20);
        due("heat", x.told(-7, 0), 4);
        due("damp", x.told(7, 1), 40);
        toldOfKinds(2, 3, 3, 3, 3, 3, 3);
        toldOfKinds(3, 50, 50, 50, 50, 7, 20);
        toldOfKinds(4, 0, 0, 5, 0, 0, 0);
        toldOfKinds(5, 0, 1, 2, 3, 4, 5);
        toldOfKinds(6, 1, 3, 1, 2, 2, 1);
        toldOfKinds(7, 5, 2, 8, 2, 6, 6);
        toldOfKinds(8, 2, 4, 2, 7, 1, 1);
        toldOfKinds(9, 4, 2, 8, 2, 8, 0);
        x.set(3, 4, 99);
        due("a cuff's v is the less", x.told(4, 7), 8);
        rule("irons damp - 30 + part * 100 ; takes minute + part + 1; crumples number * 5 + heat;");
        toldOfKinds(7, 10, 49, 99, 49, 52, 6);
        toldOfKinds(8, 1, 4, 3, 11, 2, 1);
        toldOfKinds(9, 19, 17, 38, 17, 38, 0);
        int[] before = all();
        due("told(6, 3)", x.told(6, 3), -2);
        due("told(-1, 2)", x.told(-1, 2), -2);
        due("told(0, 10)", x.told(0, 10), -2);
        due("told(0, -1)", x.told(0, -1), -2);
        due("told(-1, 10)", x.told(-1, 10), -2);
        TALLY.due("nothing changed", all(), before);
    }

    private static void toldBounds() {
        promise("4 told, bounds");
        sixKinds(9);
        rule("irons 100*crease ; takes 31 ; crumples 100 ;");
        toldOfKinds(7, 99, 49, 99, 49, 34, 16);
        toldOfKinds(8, 30, 60, 30, 69, 15, 1);
        toldOfKinds(9, 99, 97, 198, 97, 198, 0);
        rule("irons 0-5 ; takes 0 - 1 ; crumples -1 ;");
        toldOfKinds(7, 0, 0, 9, 0, 9, 16);
        toldOfKinds(8, 1, 1, 1, 9, 1, 1);
        toldOfKinds(9, 0, 0, 0, 0, 0, 0);
        rule("irons 95 ; takes 1 ; crumples 1 ;");
        x.set(3, 4, 99);
        x.set(3, 5, 2);
        toldOfKinds(7, 95, 47, 99, 47, 58, 0);
        toldOfKinds(8, 1, 2, 1, 11, 1, 1);
        toldOfKinds(9, 1, 0, 2, 0, 2, 0);
        x.set(2, 3, 0);
        rule("irons 1 ; takes 0 ; crumples 3 ;");
        due("a yoke's take at least", x.told(3, 8), 1);
        toldOfKinds(9, 3, 1, 6, 1, 6, 0);
    }

    private static void iron() {
        promise("5 iron");
        sixKinds(3);
        due("it alone", x.iron(0), 4);
        due("nobody else", x.told(1, 3), 50);
        x.set(4, 1, 127);
        x.set(3, 4, 95);
        due("a collar on all", x.iron(1), 2);
        toldOfKinds(3, 8, 2, 58, 52, 99, 50);
        due("the minute is 0 again", x.told(0, 8), 2);
        rule("irons minute + damp ; takes 4 ; crumples minute + crease*0 + damp ;");
        x.set(1, 0, 3);
        x.set(4, 0, 2);
        due("minute 0, damp 3", x.iron(0), 3);
        due("crumpled at minute 4, damp 0: 4 less 2", x.told(1, 3), 4);
        int[] before = all();
        due("iron(6)", x.iron(6), -2);
        due("iron(-1)", x.iron(-1), -2);
        TALLY.due("nothing changed", all(), before);
        x = new CreasedAgain();
        due("of no parts", x.iron(0), -2);
    }

    private static void feed() {
        promise("6 feed");
        due("feed(-1)", x.feed(-1), -2);
        due("feed(256)", x.feed(256), -2);
        due("feed(0)", x.feed(0), 1);
        due("feed(255)", x.feed(255), 2);
        for (int i = 3; i <= 160; i++) {
            due("feed", x.feed(32), i);
        }
        due("one more", x.feed(32), -4);
        due("BAD is ahead of FULL", x.feed(256), -2);
        due("count(2)", x.count(2), 160);
        due("a byte that begins none", x.text(), -100);
        due("then it is empty", x.count(2), 0);
        due("and takes more", x.feed(105), 1);
    }

    private static void text() {
        promise("7 text");
        due("the first", text("irons 1 ; takes 2 ; crumples 3 ;"), 1);
        due("the tape is empty", x.count(2), 0);
        due("no blanks, a line feed", text("\n irons 1;takes\n2;crumples 3; \n"), 2);
        due("a fault", text("irons"), -105);
        due("the tape is empty by a fault too", x.count(2), 0);
        due("a fault takes no room", x.count(1), 3);
        due("4 digits", text("irons 9999;takes 0000;crumples 0;"), 3);
        due("all that there is", text("irons a;"), -106);
        due("the fifth", text("irons(minute+damp-heat*number<crease and not part=- 1 or 0);takes 1;crumples 1;"), 4);
        due("the sixth with TEXT 0", text("irons not not 0 = 1;takes 1;crumples 1;"), 5);
        write("irons");
        due("FULL", x.text(), -4);
        due("the tape stays", x.count(2), 5);
        due("six", x.count(1), 6);
        due("the rule is as it was", x.count(3), 0);
        promise("7 text of 160 bytes");
        StringBuilder s = new StringBuilder("irons 1");
        while (s.length() < 160 - 24) {
            s.append("+1");
        }
        s.append(" ;takes 1;crumples 1;   ");
        s.setLength(160);
        due("it", text(s.toString().trim()), 1);
    }

    private static void fault(String text, int place) {
        due("text() of " + text, text(text), -100 - place);
    }

    private static void textFaults() {
        promise("7 text, faults");
        due("no bytes", x.text(), -100);
        fault("   ", 3);
        fault("takes 1;", 0);
        fault("irons ;", 6);
        fault("irons 1 takes", 8);
        fault("irons 1 2;", 8);
        fault("irons 12345;", 6);
        fault("irons 00001;", 6);
        fault("irons 1;takes 2;crumples 3", 26);
        fault("irons 1;takes 2;crumples 3 ", 27);
        fault("irons 1;takes 2;crumples 3;;", 27);
        fault("irons 1;takes 2;crumples 3; 4", 28);
        fault("irons 1;takes 2;crumples 3; $", 28);
        fault("irons 1;crumples 2;", 8);
        fault("irons heats;", 6);
        fault("irons Heat;", 6);
        fault("irons heatz;", 6);
        fault("irons zheat;", 6);
        fault("irons teat;", 6);
        fault("irons hea;", 6);
        fault("irons 1 ind 2;", 8);
        fault("irons crumpled;", 6);
        fault("irons heat9;", 10);
        fault("irons 9heat;", 7);
        fault("ironsheat;", 0);
        fault("irons irons;", 6);
        fault("irons takes;", 6);
        fault("irons or;", 6);
        fault("irons 1 or;", 10);
        fault("irons 1 and and 2;", 12);
        fault("irons 1 + not 2;", 10);
        fault("irons - not 2;", 8);
        fault("irons 1 < not 2;", 10);
        fault("irons 1 < 2 < 3;", 12);
        fault("irons 1 = 2 = 3;", 12);
        fault("irons 1 < 2 = 3;", 12);
        fault("irons 1 +;", 9);
        fault("irons 1 + * 2;", 10);
        fault("irons + 1;", 6);
        fault("irons 1 * / 2;", 10);
        fault("irons (1;", 8);
        fault("irons 1);", 7);
        fault("irons ();", 7);
        fault("irons 1 ! 2;", 8);
        fault("irons 1\t;", 7);
        fault("irons 1\r\n;", 7);
        fault("irons 1 ; takes 2 ; crumples \u00e9", 29);
        fault("irons 1;takes (1)(2);", 17);
        fault("irons 1 not 2;", 8);
        fault("irons 1 (2);", 8);
        fault("irons (1", 8);
        fault("irons -", 7);
        fault("irons 1 =", 9);
        due("none of them is a text", x.count(1), 1);
    }

    private static void textDepth() {
        promise("7 text, depth");
        due("5 (", text("irons (((((1)))));takes 1;crumples 1;"), 1);
        fault("irons ((((((1))))));", 11);
        due("5 not", text("irons not not not not not 1;takes 1;crumples 1;"), 2);
        fault("irons not not not not not not 1;", 26);
        due("5 -", text("irons -----1-1;takes 1;crumples 1;"), 3);
        fault("irons ------1;", 11);
        fault("irons not(-(not(-1)));", 15);
        fault("irons not (-(not 1 < 2+3)+(-(-(4))));", 29);
        due("they end: one behind the other", text("irons (1)*-(2)--(((1)))+(((((1)))))or not((1)) and"
                + " not not (1);takes ((((1))));crumples (-(-(1)));"), 4);
        due("not ends with its NOT, - with its ONE", text("irons not 1 < ----1 and -----1 * -----1;takes 1;"
                + "crumples ----(1);"), 5);
        promise("7 text, depth again");
        fault("irons not 1 < -----1;", 18);
        fault("irons ----- (1);", 12);
        fault("irons (((((-1)))));", 11);
        fault("irons (((((not 1)))));", 11);
        fault("irons (((((1 - 1) - -1) - --1) - ---1) - -----1;", 45);
        fault("irons (((((1 - 1) - -1) - --1) - ---1) - ----1) - -----1 - ------1;", 64);
        due("binary - is none of these", text("irons (((((1-1-1)))));takes 1;crumples 1;"), 1);
    }

    /** What an expression of irons tells, of part 1 (NUMBER 7, 33 CREASES; HEAT 5, DAMP 40), in minute 0. */
    private static void tells(String expression, int want) {
        x = new CreasedAgain();
        x.part(5, 0);
        x.part(0, 7);
        x.set(3, 1, 33);
        rule("irons " + expression + ";takes 1;crumples 1;");
        due(expression, x.told(1, 7), want);
    }

    private static void textValues() {
        promise("7 text, values");
        tells("minute", 0);
        tells("damp", 40);
        tells("heat", 5);
        tells("number", 7);
        tells("crease", 33);
        tells("part", 1);
        tells("1 + 2 * 3", 7);
        tells("(1 + 2) * 3", 9);
        tells("9 - 3 - 2", 4);
        tells("9 - 3 + 2", 8);
        tells("2 * 3 * 4", 24);
        tells("- 3 + 5", 2);
        tells("2 - - 3", 5);
        tells("-2 * -3", 6);
        tells("50 + (3 < 3)", 50);
        tells("50 + (2 < 3)", 51);
        tells("50 + (3 = 3)", 51);
        tells("50 + (3 = 4)", 50);
        tells("not 7", 0);
        tells("not 0", 1);
        tells("50 + (not 0)", 51);
        tells("50 + (7 and 2)", 51);
        tells("50 + (7 and 0)", 50);
        tells("50 + (0 and 7)", 50);
        tells("50 + (0 or 7)", 51);
        tells("50 + (-7 or 0)", 51);
        tells("50 + (0 or 0)", 50);
        tells("50 + (4 or 0 and 0)", 51);
        tells("50 + ((4 or 0) and 0)", 50);
        tells("not 1 = 2", 1);
        tells("50 + (not 1 and 0)", 50);
        tells("not 0 < 0 - 1", 1);
        tells("1 + 1 < 3", 1);
        tells("3 < 1 + 1 or 8 - 8 = 0", 1);
        tells("9999 * 9999 * 9999 * 9999 * 9999 * 9999 < 0", wrapped() < 0 ? 1 : 0);
        tells("50 + 1024 * 2048 * 2048", 50);
        tells("9999 * 9999 * 22", 0);
    }

    private static int wrapped() {
        int v = 1;
        for (int i = 0; i < 6; i++) {
            v *= 9999;
        }
        return v;
    }

    private static void force() {
        promise("8 force");
        x.part(0, 0);
        due("force(1)", x.force(1), -2);
        due("force(-1)", x.force(-1), -2);
        due("force(0)", x.force(0), 0);
        text("irons 7;takes 7;crumples 7;");
        due("a text is not the rule at once", x.told(0, 7), 4);
        due("force(1)", x.force(1), 0);
        due("by it", x.told(0, 7), 7);
        due("count(3)", x.count(3), 1);
        due("force(2)", x.force(2), -2);
        due("it stays", x.count(3), 1);
        due("force(0)", x.force(0), 1);
        due("by the first", x.told(0, 7), 4);
    }

    /** Part 0 lies on 1, 1 on 2, 2 on 0: with TEXT 0, whoever is ironed ahead is crumpled. */
    private static void ring() {
        x.part(0, 0);
        x.part(2, 1);
        x.part(1, 0);
        x.set(4, 0, 2);
        x.set(4, 1, 4);
        x.set(4, 2, 1);
    }

    private static void plain() {
        promise("9 plain");
        due("no parts", x.plain(0), 0);
        due("no parts", x.plain(1), 0);
        due("no such part", x.plain(10), -2);
        ring();
        // 0: 4, 1 crumpled; 1: 4 + 1 = 5, 2 crumpled; 2: 2, 0 crumpled by 4
        due("plain(10)", x.plain(10), 8);
        due("plain(11)", x.plain(11), 5);
        due("plain(12)", x.plain(12), 2);
        due("plain(0)", x.plain(0), 8 + 5 + 6);
        due("plain(1)", x.plain(1), 8);
        due("plain(20)", x.plain(20), 2);
        due("plain(21)", x.plain(21), 4);
        due("plain(22)", x.plain(22), 8);
        due("nothing was ironed", x.told(0, 3), 50);
        for (int what : new int[] {-1, 2, 9, 13, 17, 19, 23, 29, 30, 31, 100, Integer.MIN_VALUE, Integer.MAX_VALUE}) {
            due("plain(" + what + ")", x.plain(what), -2);
        }
        promise("9 plain, told then");
        x.part(0, 2);
        x.part(0, 3);
        x.set(1, 0, 10);
        x.set(4, 0, 3);
        x.set(3, 1, 97);
        rule("irons damp + crease ; takes 3 + minute ; crumples damp - 6 ;");
        // 0: damp 10, crease 50: 60, 3 minutes; 1: crumpled by 7 - 6 at minute 3, 98 then; damp 7: 99
        due("plain(10)", x.plain(10), 60);
        due("plain(11)", x.plain(11), 99);
        due("plain(20)", x.plain(20), 3);
        due("plain(21)", x.plain(21), 9);
        x.set(4, 1, 1);
        x.set(1, 0, 5);
        // 0: 55; 1 not crumpled (damp 2 - 6), damp 2 and 97: 99; 0 not crumpled: damp is 0 by minute 9
        due("plain(10)", x.plain(10), 55);
        due("plain(11)", x.plain(11), 99);
        rule("irons 9 - damp ; takes 4 ; crumples minute * (1 - damp) ;");
        // 0: 4, minute 4; damp 1: 0; 1: minute 4, damp 1: 8, minute 8: 0 crumpled by 8
        due("plain(10)", x.plain(10), 12);
        due("plain(11)", x.plain(11), 8);
        due("99 at most", x.set(3, 1, 99) + x.set(4, 0, 0), 97 + 3);
        rule("irons 98 ; takes 1 ; crumples 99 ;");
        due("99 at most", x.plain(10), 99);
    }

    private static void order() {
        promise("10 order");
        ring();
        row(0, 0, 2, 0);
        // 2: 2, 0 crumpled; 0: 4, 1 crumpled by 8 (a sleeve)
        due("creased", x.order(0, 0), 6 + 4 + 58);
        due("minutes", x.order(0, 1), 6);
        due("of 0", x.order(0, 10), 4);
        due("of 1", x.order(0, 11), 58);
        due("of 2", x.order(0, 12), 2);
        due("0 done", x.order(0, 20), 6);
        due("1 not done", x.order(0, 21), -1);
        due("2 done", x.order(0, 22), 4);
        row(1, 2);
        due("nobody is ironed", x.order(1, 0), 50 + 50 + 150);
        due("no minutes", x.order(1, 1), 0);
        due("none", x.order(1, 20), -1);
        row(1, 1, 2, 1, 0);
        // 2: 2, 0 to 54; 1: 5, 2 crumpled by 2; 0: 4, 1 crumpled by 8
        due("all", x.order(1, 0), 4 + 13 + 12);
        due("sheet 4", x.order(4, 0), -2);
        due("sheet -1", x.order(-1, 0), -2);
        due("BAD what ahead of -11", x.order(3, 2), -2);
        due("no such part ahead of -11", x.order(3, 13), -2);
        due("no such part ahead of -11", x.order(3, 29), -2);
        due("what 30", x.order(0, 30), -2);
        due("what -1", x.order(0, -1), -2);
        due("missing", x.order(3, 0), -11);
        row(2, 2, 0, 1, 0);
        due("one twice", x.order(2, 0), -2);
        row(2, 2, 3);
        due("no such part", x.order(2, 0), -2);
        row(2, 2, -1);
        due("no such part", x.order(2, 0), -2);
        row(2, 2, 0, 1, 2, 0);
        due("too long", x.order(2, 0), -2);
        row(2, 2, 32);
        due("far outside", x.order(2, 0), -2);
        due("nothing was ironed", x.count(4), 250);
    }

    private static void best() {
        promise("11 best");
        due("no parts", x.best(0), 0);
        due("no parts", x.best(1), 0);
        ring();
        // 123: 19; 132: 4, 2 and 0 to 8, 5 and 2 to 4: 8+5+12; 213: 5, 4 and 1 to 13, 2, 0 to 8: 27;
        // 231: 5, 2, 4 and 1 to 13: 23; 312: 2, 4, 5 and 2 to 4: 21; 321: 29
        due("best(0)", x.best(0), 19);
        due("best(1)", x.best(1), 123);
        x.set(2, 1, 9);
        due("best(0)", x.best(0), 27);
        due("best(1)", x.best(1), 123);
        x.set(4, 0, 0);
        x.set(4, 1, 1);
        x.set(4, 2, 2);
        // 2 on 1 on 0: 2 ahead of 1 ahead of 0
        due("best(0)", x.best(0), 6 + 13 + 4);
        due("best(1)", x.best(1), 321);
        x.set(4, 2, 0);
        due("of like ones the first", x.best(1), 213);
        for (int what : new int[] {-1, 2, 10, Integer.MIN_VALUE}) {
            due("best(" + what + ")", x.best(what), -2);
        }
        promise("11 best of seven");
        for (int i = 0; i < 7; i++) {
            x.part(0, 0);
            x.set(4, i, i == 0 ? 0 : 1 << i - 1);
        }
        due("best(0)", x.best(0), 28);
        due("best(1)", x.best(1), 7654321);
        due("nothing was ironed", x.count(4), 350);
    }

    private static void worst() {
        promise("12 worst");
        due("no parts", x.worst(0), 0);
        due("no parts", x.worst(1), 0);
        ring();
        due("50, 50, 150", x.worst(1), 312);
        due("creased", x.worst(0), 21);
        x.set(3, 2, 17);
        due("50, 50, 51", x.worst(1), 312);
        x.set(3, 1, 51);
        due("50, 51, 51: by numbers", x.worst(1), 231);
        due("creased", x.worst(0), 23);
        x.set(3, 0, 99);
        due("99, 51, 51", x.worst(1), 123);
        due("creased", x.worst(0), 19);
        due("worst(2)", x.worst(2), -2);
        due("worst(-1)", x.worst(-1), -2);
    }

    private static void change() {
        promise("13 change");
        due("no parts", x.change(0), -1);
        due("no parts", x.change(1), 0);
        ring();
        due("none is less", x.change(0), -1);
        due("then PLAIN", x.change(1), 19);
        x.set(4, 0, 0);
        x.set(4, 1, 1);
        x.set(4, 2, 2);
        // plain: 4 + 4, 5 + 8, 6: 27; 213: 5 + 8, 4, 2: 23; 321: 15; 132: 4 + 4, 5: 19
        due("change(0)", x.change(0), 2);
        due("change(1)", x.change(1), 15);
        x.set(4, 2, 1);
        // plain: 4 + 8, 5, 6: 23; 213: 5, 4 + 4, 6: 19; 321: 6, 5, 4: 15; 132: 23
        due("change(0)", x.change(0), 2);
        x.set(4, 2, 0);
        // plain: 4 + 4, 5, 6; 213 and 321: 15 alike
        due("of like ones the first", x.change(0), 1);
        due("change(1)", x.change(1), 15);
        due("change(2)", x.change(2), -2);
        due("change(-1)", x.change(-1), -2);
        due("nothing was ironed", x.count(4), 250);
        promise("13 change, of seven");
        // each of the first lies on all behind it, so that none of these may come later; 6 lies on 5
        for (int i = 0; i < 7; i++) {
            x.part(0, 0);
            x.set(4, i, i < 5 ? 127 >> i + 1 << i + 1 : 0);
        }
        x.set(4, 6, 32);
        due("the last two", x.change(0), 56);
        due("creased then", x.change(1), 28);
    }

    private static void leave() {
        promise("14 leave");
        due("no parts", x.leave(0), -1);
        due("no parts", x.leave(1), 0);
        x.part(0, 0);
        x.part(0, 0);
        due("none", x.leave(0), -1);
        due("then PLAIN", x.leave(1), 8);
        x.set(3, 1, 5);
        x.set(4, 1, 1);
        // plain: 4 + 4, 4; without 1: 4, 5
        due("leave(0)", x.leave(0), 1);
        due("leave(1)", x.leave(1), 9);
        x.set(3, 0, 1);
        // without 0: 1 + 4, 4
        due("of like ones the first", x.leave(0), 0);
        due("leave(1)", x.leave(1), 9);
        x.set(3, 1, 3);
        // without 1: 4, 3
        due("leave(0)", x.leave(0), 1);
        due("leave(1)", x.leave(1), 7);
        due("leave(2)", x.leave(2), -2);
        due("leave(-1)", x.leave(-1), -2);
    }

    private static void spray() {
        promise("15 spray");
        due("no parts", x.spray(0), -1);
        due("no parts", x.spray(1), 0);
        for (int i = 0; i < 4; i++) {
            x.part(0, 0);
        }
        due("none", x.spray(0), -1);
        due("then PLAIN", x.spray(1), 16);
        x.set(1, 0, 6);
        rule("irons 10 - damp ; takes 2 ; crumples 0 ;");
        // damp 6 4 2 0: 4 6 8 10; ahead of 1: 6 6 4 2; of 2: 6 4 6 4: the most; of 3: 6 4 2 6
        due("spray(0)", x.spray(0), 2);
        due("spray(1)", x.spray(1), 20);
        rule("irons 10 - damp + minute ; takes 2 ; crumples 0 ;");
        // the minutes themselves go on
        due("spray(0)", x.spray(0), 2);
        due("spray(1)", x.spray(1), 20 + 12);
        rule("irons damp ; takes 2 ; crumples 0 ;");
        due("more damp is worse", x.spray(0), -1);
        due("then PLAIN", x.spray(1), 12);
        x.set(1, 0, 2);
        rule("irons 2 - damp ; takes 2 ; crumples 0 ;");
        // damp 2 0 0 0: 0 2 2 2; any one: 0
        due("of like ones the first", x.spray(0), 1);
        due("spray(1)", x.spray(1), 4);
        x.set(4, 0, 2);
        x.set(4, 1, 1);
        rule("irons 0 ; takes 1 ; crumples (2 - damp) * 5;");
        // 0 crumples 1 (ironed to 0 then); 1 crumples 0 at minute 2, damp 0: 10; sprayed ahead of 1: damp 1
        due("crumpling is told by it too", x.spray(0), 1);
        due("spray(1)", x.spray(1), 5);
        due("plain is as it was", x.plain(0), 10);
        due("spray(2)", x.spray(2), -2);
        due("spray(-1)", x.spray(-1), -2);
    }

    private static void how() {
        promise("16 how");
        due("no parts", x.how(0), 0);
        due("no parts", x.how(1), 0);
        due("no parts", x.how(2), 0);
        due("no parts", x.how(3), 0);
        x.part(0, 0);
        x.part(0, 0);
        due("damp does not matter", x.how(0), 0);
        due("creased then", x.how(1), 8);
        due("hot", x.how(2), 9);
        due("creased then", x.how(3), 0);
        rule("irons (damp - 33) * (damp - 33) + (heat - 4) * (heat - 4) ; takes 2 ; crumples 1 ;");
        // damp 34: 1, 32: 1; heat 5: 1 each
        due("how(0)", x.how(0), 34);
        due("how(1)", x.how(1), 4);
        x.set(1, 0, 35);
        due("how(2)", x.how(2), 4);
        due("how(3)", x.how(3), 4);
        due("heat is as it was", x.told(0, 0), 5);
        due("damp is as it was", x.told(0, 1), 35);
        rule("irons 99 - damp ; takes 2 ; crumples 1 ;");
        due("99", x.how(0), 99);
        due("0 and 2", x.how(1), 2);
        due("heat does not matter", x.how(2), 0);
        due("how(4)", x.how(4), -2);
        due("how(-1)", x.how(-1), -2);
    }

    private static void enough() {
        promise("17 enough");
        due("no parts", x.enough(0), 0);
        x.part(0, 0);
        x.part(1, 0);
        x.part(2, 2);
        // 50 150 50; ironed 4, 6, 6
        due("250", x.enough(250), 0);
        due("249", x.enough(249), 1);
        due("204", x.enough(204), 1);
        due("203", x.enough(203), 2);
        due("106", x.enough(106), 2);
        due("105", x.enough(105), 3);
        due("60", x.enough(60), 3);
        due("59", x.enough(59), 7);
        due("16", x.enough(16), 7);
        due("15", x.enough(15), -1);
        due("0", x.enough(0), -1);
        due("9999", x.enough(9999), 0);
        x.set(4, 0, 2);
        x.set(3, 1, 10);
        // 50 30 50; 0: 4 36 50; 2: 50 30 6; 0, 2: 4 36 6; 0, 1: 4 6 50
        due("90", x.enough(90), 1);
        due("86", x.enough(86), 4);
        due("60", x.enough(60), 3);
        due("46", x.enough(46), 5);
        due("-1", x.enough(-1), -2);
        due("10000", x.enough(10000), -2);
        due("nothing was ironed", x.count(4), 130);
        promise("17 enough, of seven");
        for (int i = 0; i < 7; i++) {
            x.part(0, 0);
        }
        due("all seven", x.enough(28), 127);
        due("no fewer", x.enough(27), -1);
        due("six", x.enough(74), 63);
        due("nothing was ironed", x.count(4), 350);
    }

    private static void tells() {
        promise("18 tells");
        row(0, 0);
        due("no parts", x.tells(0, 0), 0);
        due("any heat", x.tells(0, 1), 1023);
        due("any text", x.tells(0, 2), 1);
        due("no such part", x.tells(0, 10), -2);
        x.part(0, 3);
        x.part(2, 1);
        x.part(5, 1);
        text("irons 4 ; takes 1 ; crumples 1 ;");
        text("irons 4 ; takes 1 ; crumples 2 * heat ;");
        text("irons 9 - heat + (number = 3) ; takes 1 ; crumples 1 ;");
        row(0, 2, 4, 5, 16);
        due("all so", x.tells(0, 0), 0);
        due("heats", x.tells(0, 1), 32);
        due("texts", x.tells(0, 2), 7);
        due("kinds of 0", x.tells(0, 10), 1);
        due("kinds of 1", x.tells(0, 11), 20);
        due("kinds of 2", x.tells(0, 12), 32);
        due("numbers of 0", x.tells(0, 20), 1023);
        due("numbers of 1", x.tells(0, 21), 2);
        due("numbers of 2", x.tells(0, 22), 1023);
        due("creases of 0: how many", x.tells(0, 30), 100);
        due("creases of 0: the least", x.tells(0, 40), 0);
        due("creases of 2: how many", x.tells(0, 32), 3);
        due("creases of 2: the least", x.tells(0, 42), 48);
        x.cell(0, 0, 5);
        x.cell(0, 1, 3);
        x.cell(0, 2, 16);
        due("0 and 1 aren't so", x.tells(0, 0), 3);
        due("no heat", x.tells(0, 1), 0);
        due("no text", x.tells(0, 2), 0);
        due("no kind", x.tells(0, 10), 0);
        due("no number", x.tells(0, 21), 0);
        due("no creases", x.tells(0, 32), 0);
        due("none is the least", x.tells(0, 42), -1);
        x.cell(0, 1, 5);
        due("the text that looks at the number", x.tells(0, 2), 8);
        due("nothing else changed", x.count(3), 0);
        tellsRefused();
    }

    private static void tellsRefused() {
        row(1, 0, 1, 2);
        due("sheet 4", x.tells(4, 0), -2);
        due("sheet -1", x.tells(-1, 0), -2);
        for (int what : new int[] {-1, 3, 9, 13, 19, 23, 33, 43, 49, 50, 51, 100}) {
            due("BAD what ahead of -11: " + what, x.tells(3, what), -2);
            due("what " + what, x.tells(0, what), -2);
        }
        due("missing", x.tells(3, 0), -11);
        due("another size", x.tells(1, 0), -2);
        row(1, 0, 1, 2, 3, 4);
        due("another size", x.tells(1, 0), -2);
    }

    private static void film() {
        promise("19 film");
        row(0, 2, 70000, 1, 2, 3, 4);
        due("no parts", x.film(0), 0);
        due("of none", x.cell(0, 0, 1), -12);
        x.part(0, 0);
        x.part(1, 0);
        x.part(2, 0);
        x.set(4, 1, 1);
        due("film(1), which was missing", x.film(1), 3);
        due("all so", x.tells(1, 0), 0);
        due("three", x.cell(1, 3, 1), -12);
        due("its size is 3", x.cell(1, 2, 4 + 256), 1);
        due("they are bytes", x.tells(1, 0), 0);
        row(2, 0, 8, 2, 4);
        x.copy(2, 0, 1, 0, 3);
        due("8 2 4", x.tells(1, 0), 0);
        due("nothing was ironed", x.count(4), 50 + 150 + 50);
        due("film(4)", x.film(4), -2);
        due("film(-1)", x.film(-1), -2);
    }

    private static void drawn() {
        promise("20 drawn");
        due("no parts", x.drawn(7), 0);
        rule("irons crease ; takes 1 ; crumples 0 ;");
        x.part(0, 0);
        int z = 7 * 1103515245 + 12345;
        due("drawn(7)", x.drawn(7), (z >>> 9) % 100);
        x.part(1, 0);
        // a collar keeps half of what irons tells, and shows it 3 times
        int y = z * 1103515245 + 12345;
        due("drawn(7)", x.drawn(7), (z >>> 9) % 100 + (y >>> 9) % 100 / 2 * 3);
        // 12345 >>> 9 is 24; then 12345 * 1103515245 + 12345 is -740551042
        due("drawn(0)", x.drawn(0), 24 + (-740551042 >>> 9) % 100 / 2 * 3);
        due("nothing changed", x.count(4), 50 + 150);
        due("any int", x.drawn(Integer.MIN_VALUE), x.drawn(Integer.MIN_VALUE));
    }

    private static void chance() {
        promise("21 chance");
        due("no parts", x.chance(3, 20, 0), 1);
        due("no parts", x.chance(3, 20, 1), 1);
        x.part(0, 0);
        x.part(0, 0);
        x.set(4, 1, 1);
        // 0 ahead of 1 leaves 12, 1 ahead of 0 leaves 8: WORST FIRST is never worse
        due("always", x.chance(3, 20, 0), 1);
        due("always", x.chance(3, 20, 1), 1);
        x.set(4, 1, 0);
        x.set(4, 0, 2);
        int good = 0;
        for (int i = 0; i < 20; i++) {
            int z = (Integer.MAX_VALUE - 9 + i) * 1103515245 + 12345;
            int y = z * 1103515245 + 12345;
            // PLAIN leaves 8; 1 first, if it is creased more, leaves 12
            good += (z >>> 9) % 100 >= (y >>> 9) % 100 ? 1 : 0;
        }
        int shared = 1;
        for (int d = 1; d <= 20; d++) {
            shared = good % d == 0 && 20 % d == 0 ? d : shared;
        }
        due("above", x.chance(Integer.MAX_VALUE - 9, 20, 0), good / shared);
        due("below", x.chance(Integer.MAX_VALUE - 9, 20, 1), 20 / shared);
        due("of one", x.chance(5, 1, 1), 1);
        long no = CreasedAgain.NO;
        due("n 0", x.chance(5, 0, 0), no);
        due("n -1", x.chance(5, -1, 0), no);
        due("n 21", x.chance(5, 21, 0), no);
        due("part 2", x.chance(5, 1, 2), no);
        due("part -1", x.chance(5, 1, -1), no);
        due("nothing changed", x.count(4), 100);
    }

    private static void image() {
        promise("22 image");
        due("no parts", x.image(), 0);
        x.part(0, 0);
        x.part(0, 0);
        due("back to none", x.back(), 0);
        due("count(0)", x.count(0), 0);
        x.part(4, 4);
        x.part(3, 3);
        due("two", x.image(), 2);
        x.set(3, 0, 1);
        due("the later one is kept", x.image(), 2);
        x.set(3, 0, 9);
        due("back()", x.back(), 2);
        due("as in the later one", x.told(0, 3), 1);
    }

    private static void back() {
        promise("23 back");
        due("there is none", x.back(), -3);
        x.part(4, 4);
        x.part(3, 3);
        x.set(0, 0, 8);
        x.set(1, 0, 80);
        x.set(3, 1, 77);
        x.set(4, 1, 5);
        text("irons 1;takes 1;crumples 1;");
        x.force(1);
        x.image();
        int[] before = all();
        x.set(0, 0, 1);
        x.set(1, 0, 1);
        x.set(2, 0, 1);
        x.set(3, 0, 1);
        x.set(4, 0, 1);
        x.set(3, 1, 1);
        x.set(4, 1, 1);
        x.part(5, 5);
        x.set(4, 2, 7);
        x.iron(1);
        x.force(0);
        text("irons 2;takes 2;crumples 2;");
        row(1, 0, 7);
        x.feed(32);
        due("back()", x.back(), 2);
        due("the tape stays", x.count(2), 1);
        due("the texts stay", x.count(1), 3);
        due("the sheets stay", x.cell(1, 0, 7), 1);
        due("the rule as it was", x.count(3), 1);
        due("heat", x.told(0, 0), 8);
        due("damp", x.told(0, 1), 80);
        due("number", x.told(0, 2), 4);
        due("creases", x.told(0, 3), 50);
        due("lies", x.told(0, 4), 0);
        due("creases", x.told(1, 3), 77);
        due("lies", x.told(1, 4), 5);
        due("who came since is gone", x.told(2, 5), -2);
        x.iron(1);
        due("again", x.back(), 2);
        before[1] = 3;
        before[2] = 1;
        TALLY.due("all as it was", all(), before);
        due("one anew", x.part(1, 2), 2);
        due("as one comes", x.told(2, 4), 0);
        due("as one comes", x.told(2, 3), 50);
        due("its kind", x.told(2, 5), 1);
    }

    private static void count() {
        promise("24 count");
        sixKinds(0);
        write("irons 1;takes 1;crumples 1;");
        due("bytes", x.count(2), 27);
        x.text();
        x.force(1);
        due("parts", x.count(0), 6);
        due("texts", x.count(1), 2);
        due("the tape", x.count(2), 0);
        due("the rule", x.count(3), 1);
        due("creases times shows", x.count(4), 50 * (1 + 3 + 1 + 2 + 2 + 1));
        due("count(5)", x.count(5), -2);
        due("count(-1)", x.count(-1), -2);
    }

    private static void sheet() {
        promise("25 sheet");
        x.part(0, 0);
        due("sheet(0, 0, 40)", x.sheet(0, 0, 40), 1);
        due("the last", x.cell(0, 39, 1), 1);
        due("none behind", x.cell(0, 40, 1), -12);
        due("of none", x.sheet(1, 1, 0), 1);
        due("none", x.cell(1, 0, 0), -12);
        row(2, 2, 5, 5);
        due("anew", x.sheet(2, 2, 1), 1);
        due("all are 0", x.order(2, 0), 4);
        due("missing, n does not matter", x.sheet(2, -1, -7), 1);
        due("missing, n does not matter", x.sheet(0, -1, 41), 1);
        due("missing", x.order(2, 0), -11);
        row(2, 2, 0);
        due("sheet(4, 0, 1)", x.sheet(4, 0, 1), -2);
        due("sheet(-1, 0, 1)", x.sheet(-1, 0, 1), -2);
        due("sheet(2, 3, 1)", x.sheet(2, 3, 1), -2);
        due("sheet(2, -2, 1)", x.sheet(2, -2, 1), -2);
        due("sheet(2, 0, 41)", x.sheet(2, 0, 41), -2);
        due("sheet(2, 0, -1)", x.sheet(2, 0, -1), -14);
        due("BAD ahead of -14", x.sheet(2, 3, -1), -2);
        due("BAD ahead of -14", x.sheet(4, 0, -1), -2);
        due("sheet(2, 0, MIN)", x.sheet(2, 0, Integer.MIN_VALUE), -14);
        due("it stays", x.order(2, 0), 4);
        due("it stays ints", x.copy(2, 0, 2, 0, 1), 1);
    }

    private static void cell() {
        promise("26 cell");
        x.part(0, 0);
        x.part(0, 0);
        row(0, 0, 257);
        due("the lowest 8 bits", x.order(0, 21), 2);
        row(1, 1, 65537);
        due("the lowest 16 bits", x.order(1, 21), 2);
        row(1, 1, 257);
        due("of shorts not 8", x.order(1, 21), -2);
        row(2, 2, 65537);
        due("of ints all", x.order(2, 21), -2);
        row(0, 0, 255);
        due("255 is no part", x.order(0, 0), -2);
        row(0, 0, 1);
        due("cell(4, 0, 0)", x.cell(4, 0, 0), -2);
        due("cell(-1, 0, 0)", x.cell(-1, 0, 0), -2);
        due("cell(3, 9, 0)", x.cell(3, 9, 0), -11);
        due("cell(0, 1, 0)", x.cell(0, 1, 0), -12);
        due("cell(0, -1, 0)", x.cell(0, -1, 0), -12);
        due("cell(0, MAX, 0)", x.cell(0, Integer.MAX_VALUE, 0), -12);
        due("it stays", x.order(0, 21), 2);
    }

    private static void copy() {
        promise("27 copy");
        for (int i = 0; i < 7; i++) {
            x.part(0, 0);
        }
        row(0, 0, 0, 1, 2, 3, 4);
        row(1, 0, 6, 6, 5);
        due("two", x.copy(0, 3, 1, 0, 2), 2);
        due("3 first", x.order(1, 23), 2);
        due("4 then", x.order(1, 24), 4);
        due("5 at last", x.order(1, 25), 6);
        due("0 is not", x.order(1, 20), -1);
        row(2, 0, 0, 1, 2, 3, 9);
        due("onto itself, as they were", x.copy(2, 0, 2, 1, 4), 4);
        x.cell(2, 0, 6);
        due("6 0 1 2 3", x.order(2, 23), 10);
        due("6 0 1 2 3", x.order(2, 20), 4);
        due("none at the ends", x.copy(0, 5, 1, 3, 0), 0);
        due("past the end", x.copy(0, 6, 1, 0, 0), -12);
        due("past the end", x.copy(0, 0, 1, 4, 0), -12);
        due("below", x.copy(0, -1, 1, 0, 1), -12);
        due("below", x.copy(0, 0, 1, -1, 1), -12);
        due("n below 0", x.copy(0, 0, 1, 0, -1), -12);
        due("too many", x.copy(0, 4, 1, 0, 2), -12);
        due("too many", x.copy(0, 0, 1, 2, 2), -12);
        due("wraps", x.copy(0, Integer.MAX_VALUE, 1, 0, 1), -12);
        due("wraps", x.copy(0, 1, 1, 0, Integer.MAX_VALUE), -12);
        row(3, 1, 1, 2, 3);
        due("unlike", x.copy(0, 0, 3, 0, 1), -13);
        due("unlike ahead of outside", x.copy(0, 0, 3, 9, -1), -13);
        x.sheet(3, -1, 0);
        due("missing", x.copy(0, 0, 3, 9, -1), -11);
        due("missing", x.copy(3, 0, 0, 9, -1), -11);
        due("both missing", x.copy(3, 0, 3, 0, 0), -11);
        due("no such", x.copy(3, 0, 4, 0, 1), -2);
        due("no such", x.copy(4, 0, 3, 0, 1), -2);
        due("no such", x.copy(-1, 0, 0, 0, 1), -2);
        due("it stays", x.order(1, 23), 2);
    }

    private static void parts() {
        promise("28 parts");
        row(0, 2, 9, 4, 7, 6, 1, 3, 10, 5, 0);
        due("from 1 on", x.parts(0, 2, 1, 2), 1);
        due("one came", x.count(0), 1);
        due("its kind", x.told(0, 5), 4);
        due("its number", x.told(0, 2), 7);
        due("none asked", x.parts(0, 2, 99, 0), 0);
        due("a half pair", x.parts(0, 2, 8, 1), -12);
        due("what stood ahead came", x.parts(0, 2, 7, 2), -12);
        due("one came", x.count(0), 2);
        due("its kind", x.told(1, 5), 5);
        due("as one comes", x.told(1, 3), 50);
        due("outside at once", x.parts(0, 2, -1, 1), -12);
        due("outside at once", x.parts(0, 2, Integer.MAX_VALUE, 7), -12);
        due("outside at once", x.parts(0, 2, Integer.MIN_VALUE, 7), -12);
        due("count(0)", x.count(0), 2);
        partsRefused();
        x.sheet(1, 0, 14);
        due("five have room", x.parts(1, 0, 0, 7), 5);
        due("seven", x.count(0), 7);
        due("none has room", x.parts(1, 0, 0, 7), 0);
        due("outside all the same", x.parts(1, 0, 2, 7), -12);
    }

    private static void partsRefused() {
        due("no such sheet", x.parts(4, 0, 0, 1), -2);
        due("no such sheet", x.parts(-1, 0, 0, 1), -2);
        due("no such sort", x.parts(1, 3, 0, 1), -2);
        due("no such sort", x.parts(1, -1, 0, 1), -2);
        due("n 8", x.parts(1, 0, 0, 8), -2);
        due("n -1", x.parts(1, 0, 0, -1), -2);
        due("another sort", x.parts(0, 1, 0, 0), -13);
        due("another sort ahead of outside", x.parts(0, 0, 99, 1), -13);
        due("missing", x.parts(1, 0, 0, 0), -11);
        due("missing ahead of outside", x.parts(1, 2, 99, 1), -11);
        due("count(0)", x.count(0), 2);
    }

    private static void taken() {
        promise("29 taken");
        for (int k = 0; k < 6; k++) {
            x.part(k, k + 3);
        }
        String[] under = {"0", "01", "02", "013", "024", "05"};
        for (int p = 0; p < 6; p++) {
            for (int k = 0; k < 6; k++) {
                boolean is = under[p].indexOf((char) ('0' + k)) >= 0;
                due("taken(" + p + ", " + k + ")", x.taken(p, k), is ? p + 3 : -13);
            }
        }
        due("BAD ahead of -11", x.taken(6, 6), -2);
        due("taken(0, -1)", x.taken(0, -1), -2);
        due("taken(6, 0)", x.taken(6, 0), -11);
        due("taken(-1, 0)", x.taken(-1, 0), -11);
    }
}
