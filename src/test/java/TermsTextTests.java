/** Terms, the first section: the boundary cases of the tape, of texts, of their faults and of what they tell. */
public final class TermsTextTests {
    private static final Bounds B = new Bounds("TermsTextTests");
    private static final String TERMS = "Terms";
    private static final int LEAST = Integer.MIN_VALUE;
    private static final String REST = ";takes 1;crumples 0;";

    public static void main(String[] args) {
        tape();
        emptyThen();
        tokens();
        words();
        numbers();
        signs();
        blanks();
        text();
        chains();
        comparisons();
        ones();
        wrapping();
        truth();
        faultPlaces();
        faultyTokens();
        openBrackets();
        openNots();
        openMinuses();
        sixTexts();
        minuteAndDamp();
        otherNames();
        ironsBounds();
        takesAndCrumplesBounds();
        theRule();
        B.end();
    }

    private static void read(String text) {
        B.due("read: " + text, 1, Bounds.NEW, x -> Bounds.text(x, text));
    }

    /** A fault leaves all as it was, but for the tape, which is empty then. */
    private static void fault(String text, int place) {
        B.due("fault of " + text, -100 - place, Bounds.NEW, x -> Bounds.text(x, text));
        B.alike("nothing but the tape has changed by the fault of " + text, x -> {
            Bounds.SOME.on(x);
            x.text();
            Bounds.text(x, text);
        }, x -> {
            Bounds.SOME.on(x);
            x.text();
        });
    }

    /** What irons tells of part 0 (NUMBER 9, 50 CREASES; HEAT 5, DAMP 40). */
    private static void tells(String expression, int want) {
        B.due(expression, want, x -> {
            x.part(0, 9);
            Bounds.rule(x, "irons " + expression + REST);
        }, x -> x.told(0, 7));
    }

    private static void tape() {
        B.sentence(TERMS, "THE TAPE (160 bytes at most)");
        B.due("the first byte", 1, Bounds.NEW, x -> x.feed(' '));
        B.due("the last that has room", 160, x -> Bounds.write(x, " ".repeat(159)), x -> x.feed(' '));
        B.refused("one more", -4, Bounds.BRIMFUL, x -> x.feed(' '));
        B.refused("one more, of blanks", -4, x -> Bounds.write(x, " ".repeat(160)), x -> x.feed(' '));
        String full = "irons 1" + "+1".repeat(66) + " ;takes 1;crumples 1;";
        B.due("a text of 160 bytes has all of them", 67, x -> {
            x.part(0, 0);
            Bounds.rule(x, full);
        }, x -> x.told(0, 7));
        B.due("it is of 160 bytes", 160, Bounds.NEW, x -> full.length());
        B.due("it takes as many again when it has been read", 160, x -> {
            Bounds.write(x, " ".repeat(160));
            x.text();
            Bounds.write(x, " ".repeat(159));
        }, x -> x.feed(' '));
        fault(" ".repeat(155) + "irons", 160);
        fault("irons 1" + "+1".repeat(74) + "+heat", 160);
        fault("irons 1" + "+1".repeat(74) + "+9999", 160);
        fault("irons 1" + "+1".repeat(74) + "+heap", 156);
        fault("irons 1" + "+1".repeat(75) + "  ;", 160);
    }

    /** A tape, and behind its FAULT a shorter one: what stood on the longer one is gone. */
    private static void shorter(String longer, String text, int answer) {
        B.due(text + " behind " + longer, answer, x -> Bounds.text(x, longer), x -> Bounds.text(x, text));
    }

    private static void emptyThen() {
        B.sentence("Promise 7", "THE TAPE, which is empty then (by a FAULT, too)");
        shorter("irons heatheat", "irons heat", -110);
        shorter("irons 99999999", "irons 9999", -110);
        shorter("irons 1                 ;", "irons 1", -107);
        shorter("irons 1;takes 2;crumples 3;;", "irons 1;takes 2;crumples 3", -126);
        shorter("irons 1;takes 2;crumples 33", "irons 1;takes 2;crumples 3", -126);
        shorter("x".repeat(160), "irons 1;takes 1;crumples 1;", 1);
        for (int what = 7; what < 10; what++) {
            int told = what;
            B.due("what a FAULT ended is not told: " + told, told - 4, x -> {
                x.part(0, 0);
                Bounds.text(x, "irons 1" + "+1".repeat(17) + ";takes 1" + "-1".repeat(13) + ";crumples");
                Bounds.rule(x, "irons 3;takes 4;crumples 5;");
            }, x -> x.told(0, told));
        }
    }

    private static void tokens() {
        B.sentence(TERMS, "TOKENS, each as long as can be:");
        read("irons heat" + REST);
        fault("ironsheat" + REST, 0);
        fault("irons heator 1" + REST, 6);
        fault("irons notheat" + REST, 6);
        fault("irons 1 orheat" + REST, 8);
        fault("irons 1 2" + REST, 8);
        fault("irons heat heat" + REST, 11);
        fault("irons heat2" + REST, 10);
        fault("irons 2heat" + REST, 7);
        read("irons 2or 3and 4" + REST);
        read("irons1;takes1;crumples1;");
        tells("2+3and 0+1", 1);
    }

    private static void words() {
        B.sentence(TERMS, "WORDS (a .. z)");
        fault("irons a" + REST, 6);
        fault("irons z" + REST, 6);
        fault("irons heaz" + REST, 6);
        fault("irons zeat" + REST, 6);
        fault("irons zheat" + REST, 6);
        fault("irons aheat" + REST, 6);
        fault("irons heata" + REST, 6);
        fault("irons heatz" + REST, 6);
        fault("irons `" + REST, 6);
        fault("irons {" + REST, 6);
        fault("irons heat`" + REST, 10);
        fault("irons heat{" + REST, 10);
        fault("irons A" + REST, 6);
        fault("irons Z" + REST, 6);
        fault("irons heaT" + REST, 6);
        fault("Irons 1" + REST, 0);
    }

    private static void numbers() {
        B.sentence(TERMS, "NUMBERS (as many digits as stand there, 4 at most)");
        tells("0", 0);
        tells("9", 9);
        tells("10", 10);
        tells("0099", 99);
        tells("9999 - 9901", 98);
        tells("0000", 0);
        fault("irons 00000" + REST, 6);
        fault("irons 10000" + REST, 6);
        fault("irons 1 + 99999" + REST, 10);
        fault("irons " + "0".repeat(100) + REST, 6);
        fault("irons 4294967296" + REST, 6);
        fault("irons 1 12345" + REST, 8);
        fault("irons /" + REST, 6);
        fault("irons :" + REST, 6);
        fault("irons 1/" + REST, 7);
        fault("irons 1:" + REST, 7);
    }

    private static void signs() {
        B.sentence(TERMS, "SIGNS ( ) ; + - * < =");
        read("irons (1)+2-3*4<5;takes 6=7;crumples 8;");
        for (char sign : ")+*<=;".toCharArray()) {
            fault("irons " + sign + "1" + REST, 6);
        }
        for (char sign : "(;+-*<=)".toCharArray()) {
            fault(sign + " irons 1" + REST, 0);
        }
        fault("irons 1==1" + REST, 8);
        fault("irons 1<=1" + REST, 8);
        fault("irons 1>1" + REST, 7);
        fault("irons 1++1" + REST, 8);
        fault("irons 1**1" + REST, 8);
        tells("1--1", 2);
    }

    private static void blanks() {
        B.sentence(TERMS, "blanks (32, 10) may stand between");
        read("irons 1;takes 1;crumples 1;");
        read(" \n irons \n 1 \n ; \n takes \n 1 \n ; \n crumples \n 1 \n ; \n ");
        read("irons(1)\n;takes\n1;crumples\n1\n;\n");
        for (int letter : new int[] {0, 9, 11, 13, 31, 33, 127, 128, 160, 255}) {
            fault("irons 1" + (char) letter + REST, 7);
        }
        fault("ir ons 1" + REST, 0);
        fault("irons he at" + REST, 6);
        fault("irons 1\n2" + REST, 8);
    }

    private static void text() {
        B.sentence(TERMS, "TEXT: irons E ; takes E ; crumples E ;");
        read("irons 1;takes 2;crumples 3;");
        fault("takes 2;irons 1;crumples 3;", 0);
        fault("irons 1;crumples 3;takes 2;", 8);
        fault("irons 1;irons 1;crumples 3;", 8);
        fault("irons 1;takes 2;takes 2;", 16);
        fault("irons ;takes 2;crumples 3;", 6);
        fault("irons 1;takes ;crumples 3;", 14);
        fault("irons 1;takes 2;crumples ;", 25);
        fault("irons 1 takes 2;crumples 3;", 8);
        fault("irons 1;takes 2 crumples 3;", 16);
        fault("irons 1;takes 2;crumples 3", 26);
        fault("irons 1;takes 2;crumples 3;;", 27);
        fault("irons 1;takes 2;crumples 3;irons 1;", 27);
        fault("irons 1;takes 2;crumples 3; 0", 28);
        fault(";irons 1;takes 2;crumples 3;", 0);
        fault("heat", 0);
        fault("1", 0);
    }

    private static void chains() {
        B.sentence(TERMS, "E: AND { or AND }. AND: NOT { and NOT }.");
        tells("7", 7);
        tells("0 or 0", 0);
        tells("0 or 0 or 3", 1);
        tells("1 and 1 and 0", 0);
        tells("2 and 3 and 4", 1);
        tells("1 or 0 and 0", 1);
        tells("0 and 0 or 1", 1);
        fault("irons 1 or" + REST, 10);
        fault("irons or 1" + REST, 6);
        fault("irons 1 or or 1" + REST, 11);
        fault("irons 1 and" + REST, 11);
        fault("irons and 1" + REST, 6);
        fault("irons 1 and or 1" + REST, 12);
        B.sentence(TERMS, "SUM: TERM { + or - TERM }. TERM: ONE { * ONE }.");
        tells("9 - 4 - 3", 2);
        tells("9 - 4 + 3", 8);
        tells("9 + 4 - 3", 10);
        tells("2 * 3 * 4", 24);
        tells("2 + 3 * 4", 14);
        tells("2 * 3 + 4", 10);
        fault("irons 1 +" + REST, 9);
        fault("irons + 1" + REST, 6);
        fault("irons 1 + + 1" + REST, 10);
        fault("irons 1 * * 1" + REST, 10);
        fault("irons * 1" + REST, 6);
        fault("irons 1 *" + REST, 9);
        fault("irons 1 + not 1" + REST, 10);
        fault("irons 2 * not 1" + REST, 10);
    }

    private static void comparisons() {
        B.sentence(TERMS, "NOT: not NOT, or SUM, perhaps < or = and a SUM.");
        tells("not 5", 0);
        tells("not not 5", 1);
        tells("not 1 < 1", 1);
        tells("not 1 = 1", 0);
        tells("1 + 1 < 1 + 2", 1);
        tells("2 < 2", 0);
        tells("1 < 2", 1);
        tells("3 < 2", 0);
        tells("1 = 2", 0);
        tells("2 = 2", 1);
        tells("3 = 2", 0);
        tells("0 - 1 < 0", 1);
        tells("0 < 0 - 1", 0);
        fault("irons 1 < 2 < 3" + REST, 12);
        fault("irons 1 < 2 = 3" + REST, 12);
        fault("irons 1 = 2 < 3" + REST, 12);
        fault("irons 1 = 2 = 3" + REST, 12);
        fault("irons 1 <= 2" + REST, 9);
        fault("irons 1 <" + REST, 9);
        fault("irons < 1" + REST, 6);
        fault("irons 1 = not 2" + REST, 10);
        fault("irons 1 not 2" + REST, 8);
        fault("irons not" + REST, 9);
    }

    private static void ones() {
        B.sentence(TERMS, "ONE: a NUMBER, a NAME, - ONE, ( E ).");
        tells("- 1 + 3", 2);
        tells("-1 * -3", 3);
        tells("3 - - 4", 7);
        tells("3 --- 1", 2);
        tells("(0 or 2) * 7", 7);
        tells("(not 0) * 7", 7);
        fault("irons (1" + REST, 8);
        fault("irons 1)" + REST, 7);
        fault("irons ()" + REST, 7);
        fault("irons (1)(2)" + REST, 9);
        fault("irons 1 (2)" + REST, 8);
        fault("irons -" + REST, 7);
        fault("irons - not 1" + REST, 8);
        B.sentence(TERMS, "irons, takes, crumples, or, and, not are KEYS");
        for (String key : new String[] {"irons", "takes", "crumples", "or", "and"}) {
            fault("irons " + key + REST, 6);
            fault("irons 1 + " + key + REST, 10);
        }
        fault("irons heats" + REST, 6);
        fault("irons hea" + REST, 6);
    }

    private static void wrapping() {
        B.sentence(TERMS, "An E is an int (32 bits, wrapping)");
        tells("8192 * 8192 * 32 < 0", 1);
        tells("8192 * 8192 * 32 - 1 < 0", 0);
        tells("8192 * 8192 * 64 = 0", 1);
        tells("8192 * 8192 * 64 + 7", 7);
        tells("- (8192 * 8192 * 32) = 8192 * 8192 * 32", 1);
        tells("8192 * 8192 * 31 + 8192 * 8192 < 0", 1);
        tells("8192 * 8192 * 31 + (8192 * 8192 - 1) < 0", 0);
        tells("8192 * 8192 * 32 - 1 + 1 < 0", 1);
        tells("-8192 * 8192 * 32 - 1 = 8192 * 8192 * 32 - 1", 1);
        // 9999 * 9999 * 9999 is 999700029999, which leaves -1027349969 as an int; 9999 * 9999 is 99980001
        tells("9999 * 9999 * 9999 < 0", 1);
        tells("9999 * 9999 * 9999 + 9999 * 9999 * 10 < 0", 1);
        tells("9999 * 9999 * 9999 + 9999 * 9999 * 11 < 0", 0);
        tells("0 - 8192 * 8192 * 32 < 1", 1);
        tells("0 < 8192 * 8192 * 32", 0);
    }

    private static void truth() {
        B.sentence(TERMS, "of or, and, not, <, = 1 or 0 (what is not 0 is true)");
        for (String yes : new String[] {"1", "7", "(-1)", "9999", "(8192 * 8192 * 32)"}) {
            tells(yes + " or 0", 1);
            tells("0 or " + yes, 1);
            tells(yes + " and 7", 1);
            tells("7 and " + yes, 1);
            tells("not " + yes, 0);
        }
        for (String no : new String[] {"0", "(1 - 1)", "(8192 * 8192 * 64)"}) {
            tells(no + " or 0", 0);
            tells("7 and " + no, 0);
            tells(no + " and 7", 0);
            tells("not " + no, 1);
        }
    }

    private static void faultPlaces() {
        B.sentence(TERMS, "FAULT: the place of the first byte of the first TOKEN that can't stand there (the text's"
                + " size, if it ends too early)");
        B.due("of no bytes", -100, Bounds.NEW, x -> x.text());
        fault(" ", 1);
        fault("\n\n", 2);
        fault("irons", 5);
        fault("irons ", 6);
        fault("irons 1", 7);
        fault("irons 1;", 8);
        fault("irons 1;takes 2;crumples 3   ", 29);
        fault("irons (", 7);
        fault("irons 1+", 8);
        fault("irons   takes", 8);
        fault(" ".repeat(160), 160);
        fault("irons 1;takes 1;crumples 1" + "+1".repeat(67), 160);
        fault(" ".repeat(159) + "1", 159);
        fault("irons 1;takes 2;crumples 3;" + " ".repeat(132) + ";", 159);
        fault("takes 99999 $", 0);
        fault("irons 1 2 99999 $", 8);
    }

    private static void faultyTokens() {
        B.sentence(TERMS, "also of a byte that begins none, a WORD that is neither KEY nor NAME, a NUMBER that is"
                + " too long");
        String begins = "();+-*<= \nabcdefghijklmnopqrstuvwxyz0123456789";
        for (int letter = 0; letter < 256; letter++) {
            if (begins.indexOf(letter) < 0) {
                fault("irons 1+" + (char) letter + "2" + REST, 8);
            }
        }
        fault((char) 0 + "irons 1" + REST, 0);
        fault("irons 1" + REST + (char) 255, 27);
        fault("irons mine" + REST, 6);
        fault("irons 1 nor 2" + REST, 8);
        fault("irons 1;take 1;", 8);
        fault("iron 1" + REST, 0);
        fault("ironss 1" + REST, 0);
        fault("irons 1;takes 11111;", 14);
        fault("irons 12345", 6);
    }

    private static void openBrackets() {
        B.sentence(TERMS, "a ( , a not, a - ahead of a ONE while 5 of these are open (a ( till its ) , not and -"
                + " till what they belong to ends)");
        tells("(((((7)))))", 7);
        fault("irons ((((((7))))))" + REST, 11);
        tells("(((((7))))) + (((((8)))))", 15);
        tells("(1)+(1)+(1)+(1)+(1)+(1)+(1)", 7);
        fault("irons (((((7)) + (((8))))))" + REST, 19);
        tells("(((((7)) + ((8)))))", 15);
        fault("irons ((((not (7)))))" + REST, 14);
        fault("irons ((((-(7)))))" + REST, 11);
        fault("irons (((((not 7)))))" + REST, 11);
        fault("irons (((((-7)))))" + REST, 11);
        tells("(((((7-1-1-1)))))", 4);
        tells("((((not 7))))", 0);
        tells("((((-7)))) + 9", 2);
    }

    private static void openNots() {
        tells("not not not not not 0", 1);
        fault("irons not not not not not not 0" + REST, 26);
        tells("not not not not not 0 and not not not not not 0", 1);
        tells("not not not not not 1 or not not not not not 1", 0);
        tells("not not not not -1 < 0", 1);
        fault("irons not not not not --1 < 0" + REST, 23);
        fault("irons not not not not not 1 < -1" + REST, 30);
        fault("irons not not not not not 1 + (1)" + REST, 30);
        fault("irons not not not not not (1)" + REST, 26);
        tells("not not not not (1)", 1);
        tells("not not not not (0) = (0)", 1);
        tells("not not not not not 1 and (((((1)))))", 0);
    }

    private static void openMinuses() {
        tells("9 + -----1", 8);
        fault("irons 9 + ------1" + REST, 15);
        fault("irons -----(1)" + REST, 11);
        tells("9 - ----(1)", 8);
        tells("9 ------1", 10);
        fault("irons 9 -------1" + REST, 14);
        tells("-----1 * -----1", 1);
        tells("-----1 + -----1 + 9", 7);
        tells("9 - (-1) - (-1)", 11);
        fault("irons (((((1 - 1) - -1) - --1) - ---1) - -----1" + REST, 45);
        tells("not ----1 < ----1 and 7", 1);
        fault("irons not ----1 < -----1" + REST, 22);
    }

    private static void sixTexts() {
        B.sentence(TERMS, "There are 6 TEXTS at most, TEXT 0 with them.");
        B.due("one at first", 1, Bounds.NEW, x -> x.count(1));
        for (int many = 1; many < 6; many++) {
            int there = many;
            B.due("with " + many + " there is room, and that is its number", many, x -> {
                for (int i = 1; i < there; i++) {
                    Bounds.text(x, "irons " + i + REST);
                }
            }, x -> Bounds.text(x, "irons 9" + REST));
        }
        B.refused("a seventh", -4, Bounds.BRIMFUL, x -> x.text());
        Bounds.Calls four = x -> {
            x.part(0, 0);
            for (int i = 1; i < 5; i++) {
                Bounds.text(x, "irons " + i + "+1".repeat(30) + ";takes 1;crumples " + i + "+1".repeat(i) + ";");
            }
        };
        for (int text = 1; text < 5; text++) {
            int t = text;
            B.due("four long ones tell their own: " + t, 30 + t, four, x -> {
                x.force(t);
                return x.told(0, 7);
            });
            B.due("four long ones tell their own to the end: " + t, 2 * t, four, x -> {
                x.force(t);
                return x.told(0, 9);
            });
        }
        B.due("all six tell their own", 123456, x -> {
            x.part(0, 0);
            x.set(0, 0, 8);
            for (int i = 2; i < 7; i++) {
                Bounds.text(x, "irons " + i + REST);
            }
        }, x -> {
            int all = 0;
            for (int i = 0; i < 6; i++) {
                x.force(i);
                all = all * 10 + x.told(0, 7);
            }
            return all;
        });
    }

    /** Two parts; the first takes 5 minutes. */
    private static Bounds.Calls twoParts(int damp, String irons) {
        return x -> {
            x.part(0, 0);
            x.part(0, 0);
            x.set(1, 0, damp);
            Bounds.rule(x, "irons " + irons + ";takes 5;crumples 0;");
        };
    }

    private static void minuteAndDamp() {
        B.sentence(TERMS, "minute: MINUTES that are over; damp: how DAMP it is by then (DAMP less MINUTES, 0 at"
                + " least)");
        B.due("minute 0", 0, twoParts(5, "minute"), x -> x.plain(10));
        B.due("minute 5", 5, twoParts(5, "minute"), x -> x.plain(11));
        B.due("DAMP is one more than MINUTES", 1, twoParts(6, "damp"), x -> x.plain(11));
        B.due("DAMP is MINUTES", 0, twoParts(5, "damp"), x -> x.plain(11));
        B.due("DAMP is one less than MINUTES", 9, twoParts(4, "damp + 9"), x -> x.plain(11));
        B.due("DAMP 0 in minute 0", 9, twoParts(0, "damp + 9"), x -> x.plain(10));
        B.due("DAMP 99 in minute 0", 99, twoParts(99, "damp"), x -> x.plain(10));
        Bounds.Calls sevenYokes = x -> {
            for (int i = 0; i < 7; i++) {
                x.part(3, 9);
            }
            Bounds.rule(x, "irons (minute = 414) * 2;takes 30;crumples 0;");
        };
        B.due("the most MINUTES that can be over ahead of one: 6 * 69", 1, sevenYokes, x -> x.plain(16));
        B.due("the most MINUTES that can be over: 7 * 69", 483, sevenYokes, x -> x.plain(1));
    }

    private static void otherNames() {
        B.sentence(TERMS, "heat: HEAT; number: NUMBER; crease: its CREASES then; part: its number.");
        for (int v : new int[] {0, 9}) {
            B.due("heat " + v, v, twoParts(5, "heat"), x -> {
                x.set(0, 0, v);
                return x.told(1, 7);
            });
            B.due("number " + v, v, twoParts(5, "number"), x -> {
                x.set(2, 1, v);
                return x.told(1, 7);
            });
        }
        for (int v : new int[] {0, 99}) {
            B.due("crease " + v, v, twoParts(5, "crease"), x -> {
                x.set(3, 1, v);
                return x.told(1, 7);
            });
        }
        for (int part = 0; part < 7; part++) {
            int p = part;
            B.due("part " + part, part, x -> {
                Bounds.parts(7).on(x);
                Bounds.rule(x, "irons part" + REST);
            }, x -> x.told(p, 7));
        }
        B.due("crease then: as one that is crumpled", 53, x -> {
            Bounds.parts(2).on(x);
            x.set(4, 0, 2);
            Bounds.rule(x, "irons crease;takes 1;crumples 3;");
        }, x -> x.plain(11));
        B.due("crease then: as one is crumpled, it was ironed ahead", 2, x -> {
            Bounds.parts(2).on(x);
            x.set(4, 1, 1);
            Bounds.rule(x, "irons 1;takes 1;crumples crease;");
        }, x -> x.plain(10));
    }

    private static void ironsBounds() {
        B.sentence(TERMS, "irons (0 .. 99, else the bound)");
        tells("0", 0);
        tells("-1", 0);
        tells("-9999", 0);
        tells("8192 * 8192 * 32", 0);
        tells("1", 1);
        tells("98", 98);
        tells("99", 99);
        tells("100", 99);
        tells("9999", 99);
        tells("8192 * 8192 * 32 - 1", 99);
    }

    private static void takesOf(String expression, int want) {
        B.due("takes " + expression, want, x -> {
            x.part(0, 0);
            Bounds.rule(x, "irons 1;takes " + expression + ";crumples 1;");
        }, x -> x.told(0, 8));
    }

    private static void crumplesOf(String expression, int want) {
        B.due("crumples " + expression, want, x -> {
            x.part(0, 0);
            Bounds.rule(x, "irons 1;takes 1;crumples " + expression + ";");
        }, x -> x.told(0, 9));
    }

    private static void takesAndCrumplesBounds() {
        B.sentence(TERMS, "takes (0 .. 30, else the bound), crumples (0 .. 99, else the bound)");
        // a PART takes 1 at least
        takesOf("-1", 1);
        takesOf("8192 * 8192 * 32", 1);
        takesOf("0", 1);
        takesOf("1", 1);
        takesOf("2", 2);
        takesOf("29", 29);
        takesOf("30", 30);
        takesOf("31", 30);
        takesOf("8192 * 8192 * 32 - 1", 30);
        B.due("takes 31, of a COLLAR: the bound comes first", 60, x -> {
            x.part(1, 0);
            Bounds.rule(x, "irons 1;takes 31;crumples 1;");
        }, x -> x.told(0, 8));
        B.due("takes -1, of a YOKE: the bound comes first", 9, x -> {
            x.part(3, 9);
            Bounds.rule(x, "irons 1;takes -1;crumples 1;");
        }, x -> x.told(0, 8));
        crumplesOf("-1", 0);
        crumplesOf("8192 * 8192 * 32", 0);
        crumplesOf("0", 0);
        crumplesOf("1", 1);
        crumplesOf("98", 98);
        crumplesOf("99", 99);
        crumplesOf("100", 99);
        crumplesOf("8192 * 8192 * 32 - 1", 99);
        B.due("crumples 100, of a SLEEVE: the bound comes first", 198, x -> {
            x.part(2, 0);
            Bounds.rule(x, "irons 1;takes 1;crumples 100;");
        }, x -> x.told(0, 9));
        B.due("crumples 100, of a COLLAR: the bound comes first", 97, x -> {
            x.part(1, 0);
            Bounds.rule(x, "irons 1;takes 1;crumples 100;");
        }, x -> x.told(0, 9));
    }

    private static void theRule() {
        B.sentence(TERMS, "TEXT 0, at first THE RULE, is: irons 9 - heat ; takes 2 ; crumples 4 ;");
        B.due("at first THE RULE", 0, Bounds.NEW, x -> x.count(3));
        for (int heat = 0; heat < 10; heat++) {
            int h = heat;
            B.due("HEAT " + heat, 9 - heat, Bounds.parts(1), x -> {
                x.set(0, 0, h);
                return x.told(0, 7);
            });
        }
        B.due("takes", 2, Bounds.parts(1), x -> x.told(0, 8));
        B.due("crumples", 4, Bounds.parts(1), x -> x.told(0, 9));
        B.alike("the same text read is the same rule", x -> {
            Bounds.SOME.on(x);
            x.text();
            x.force(0);
            Bounds.text(x, "irons 9 - heat ; takes 2 ; crumples 4 ;");
        }, x -> {
            Bounds.SOME.on(x);
            x.text();
            Bounds.text(x, "irons 9-heat;takes 2;crumples 4;");
            x.force(0);
        });
    }
}
