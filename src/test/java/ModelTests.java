import java.util.Random;

/** Drawn runs of calls (the same each time), on the class and on the model: the answers must be the same. */
public final class ModelTests {
    private static final Tally TALLY = new Tally("ModelTests");

    private final Random random;
    private final CreasedAgain x = new CreasedAgain();
    private final Model m = new Model();
    private final int oddness;

    private ModelTests(int seed) {
        random = new Random(seed);
        oddness = seed % 3 == 0 ? 4 : 25;
    }

    public static void main(String[] args) {
        for (int seed = 0; seed < 1500; seed++) {
            TALLY.promise("run " + seed);
            ModelTests run = new ModelTests(seed);
            int calls = seed % 50 == 0 ? 512 : 160;
            run.begin();
            for (int i = 0; i < calls && TALLY.wrong() == 0; i++) {
                run.call();
            }
        }
        TALLY.end();
    }

    private int below(int n) {
        return random.nextInt(n);
    }

    /** 0 .. most, seldom something about or far outside. */
    private int upTo(int most) {
        int odd = below(oddness * 3);
        switch (odd) {
            case 0: return -1 - below(2);
            case 1: return most + 1 + below(2);
            case 2: return below(4) == 0 ? random.nextInt() : most;
            default: return below(most + 1);
        }
    }

    private void begin() {
        int parts = below(8);
        for (int i = 0; i < parts; i++) {
            int kind = below(6);
            int number = below(10);
            due("part(" + kind + ", " + number + ")", x.part(kind, number), m.part(kind, number));
            set(4, i, below(3) == 0 ? 0 : below(128));
            set(3, i, below(100));
        }
        set(1, 0, below(2) == 0 ? below(100) : below(12));
        set(0, 0, below(10));
        int texts = below(4);
        for (int i = 0; i < texts; i++) {
            write();
            text();
            force(1 + i);
        }
    }

    private void due(String call, long got, long want) {
        TALLY.due(call, got, want);
    }

    private void set(int what, int of, int v) {
        due("set(" + what + ", " + of + ", " + v + ")", x.set(what, of, v), m.set(what, of, v));
    }

    private void force(int text) {
        due("force(" + text + ")", x.force(text), m.force(text));
    }

    private void text() {
        String tape = m.tape.toString();
        due("text() of " + tape, x.text(), m.text());
    }

    private void feed(int letter) {
        due("feed(" + letter + ")", x.feed(letter), m.feed(letter));
    }

    private void write() {
        StringBuilder s = new StringBuilder();
        s.append("irons ");
        expression(s, below(4));
        s.append(";takes ");
        expression(s, below(3));
        s.append("; crumples ");
        expression(s, below(3));
        s.append(";");
        if (below(oddness) < 2) {
            spoil(s);
        }
        for (int i = 0; i < s.length(); i++) {
            feed(s.charAt(i));
        }
    }

    private void spoil(StringBuilder s) {
        int at = below(s.length());
        String[] bits = {"(", ")", "-", "not ", " ", ";", "12345", "abc", "$", "\u00e9", "<", "=", "or", "and ", "9", "\n",
            "-(-(-", "not not ", "((((((", "------", "A"};
        switch (below(3)) {
            case 0: s.deleteCharAt(at); break;
            case 1: s.insert(at, bits[below(bits.length)]); break;
            default: s.setLength(at);
        }
    }

    private void expression(StringBuilder s, int depth) {
        String[] names = {"minute", "damp", "heat", "number", "crease", "part"};
        if (depth <= 0) {
            int which = below(9);
            s.append(which < 6 ? names[which] : which < 8 ? "" + below(40) : "" + below(10000));
            return;
        }
        switch (below(10)) {
            case 0: s.append("("); expression(s, depth - 1); s.append(")"); break;
            case 1: s.append("-"); expression(s, depth - 1); break;
            case 2: s.append("(not "); expression(s, depth - 1); s.append(")"); break;
            case 3: pair(s, depth, "<"); break;
            case 4: pair(s, depth, "="); break;
            case 5: pair(s, depth, below(2) == 0 ? " and " : " or "); break;
            case 6: expression(s, depth - 1); s.append(" * "); expression(s, 0); break;
            case 7: expression(s, depth - 1); s.append("+"); expression(s, 0); break;
            default: expression(s, depth - 1); s.append("-"); expression(s, depth - 1); break;
        }
    }

    private void pair(StringBuilder s, int depth, String between) {
        boolean brackets = below(3) == 0;
        s.append(brackets ? "(" : "");
        expression(s, depth - 1);
        s.append(between);
        expression(s, depth - 1);
        s.append(brackets ? ")" : "");
    }

    private int whatOfOrder() {
        int most = Math.max(0, m.count(0) - 1);
        switch (below(4)) {
            case 0: return upTo(1);
            case 1: return 10 + upTo(most);
            case 2: return 20 + upTo(most);
            default: return below(20) == 0 ? below(60) - 10 : 0;
        }
    }

    private int whatOfTold() {
        return below(3) == 0 ? upTo(2) : 10 * (1 + below(5)) + upTo(Math.max(0, m.count(0) - 1));
    }

    private void call() {
        int which = below(29);
        if (which < 10) {
            callShirt(which);
        } else if (which < 19) {
            callOrders(which);
        } else {
            callHost(which);
        }
    }

    private void callShirt(int which) {
        int a = upTo(6);
        switch (which) {
            case 0: set(below(oddness) == 0 ? upTo(4) : 2 + below(3), a, upTo(below(2) == 0 ? 9 : 127)); break;
            case 1: set(below(5), a, upTo(99)); break;
            case 2: {
                int kind = upTo(5);
                int number = upTo(9);
                due("part(" + kind + ", " + number + ")", x.part(kind, number), m.part(kind, number));
                break;
            }
            case 3:
            case 4: {
                int what = upTo(9);
                due("told(" + a + ", " + what + ")", x.told(a, what), m.told(a, what));
                break;
            }
            case 5: due("iron(" + a + ")", x.iron(a), m.iron(a)); break;
            case 6:
                if (below(4) == 0) {
                    feed(upTo(255));
                } else {
                    write();
                }
                break;
            case 7: text(); break;
            case 8: force(upTo(Math.max(0, m.count(1) - 1))); break;
            default: {
                int what = upTo(4);
                due("count(" + what + ")", x.count(what), m.count(what));
            }
        }
    }

    private void callOrders(int which) {
        int b = upTo(1);
        switch (which) {
            case 10: {
                int what = whatOfOrder();
                due("plain(" + what + ")", x.plain(what), m.plain(what));
                break;
            }
            case 11:
                if (m.count(0) < 6 || below(25) == 0) {
                    due("best(" + b + ")", x.best(b), m.best(b));
                }
                break;
            case 12: due("worst(" + b + ")", x.worst(b), m.worst(b)); break;
            case 13: due("change(" + b + ")", x.change(b), m.change(b)); break;
            case 14: due("leave(" + b + ")", x.leave(b), m.leave(b)); break;
            case 15: due("spray(" + b + ")", x.spray(b), m.spray(b)); break;
            case 16: {
                int what = upTo(3);
                due("how(" + what + ")", x.how(what), m.how(what));
                break;
            }
            case 17: {
                int k = below(2) == 0 ? m.plain(0) + below(60) : upTo(9999);
                due("enough(" + k + ")", x.enough(k), m.enough(k));
                break;
            }
            default: {
                int seed = random.nextInt();
                int n = upTo(20);
                due("drawn(" + seed + ")", x.drawn(seed), m.drawn(seed));
                due("chance(" + seed + ", " + n + ", " + b + ")", x.chance(seed, n, b), m.chance(seed, n, b));
            }
        }
    }

    private void callHost(int which) {
        int s = upTo(3);
        switch (which) {
            case 19:
            case 20: {
                int what = whatOfOrder();
                if (s >= 0 && s < 4 && below(4) != 0) {
                    writeOrder(s);
                }
                due("order(" + s + ", " + what + ")", x.order(s, what), m.order(s, what));
                break;
            }
            case 21:
                due("film(" + s + ")", x.film(s), m.film(s));
                tells(s);
                if (below(2) == 0) {
                    set(2 + below(2), upTo(6), upTo(9));
                }
                tells(s);
                break;
            case 22: tells(s); break;
            case 23:
                due("image()", x.image(), m.image());
                break;
            case 24:
                due("back()", x.back(), m.back());
                break;
            case 25: sheet(s, upTo(3) - 1, upTo(below(2) == 0 ? 40 : 7)); break;
            case 26: cell(s, upTo(7), below(2) == 0 ? random.nextInt() : below(8)); break;
            case 27: copy(s); break;
            default: parts(s);
        }
    }

    private void tells(int s) {
        for (int i = 0; i < 3; i++) {
            int what = whatOfTold();
            due("tells(" + s + ", " + what + ")", x.tells(s, what), m.tells(s, what));
        }
    }

    private void sheet(int s, int sort, int n) {
        due("sheet(" + s + ", " + sort + ", " + n + ")", x.sheet(s, sort, n), m.sheet(s, sort, n));
    }

    private void cell(int s, int i, int v) {
        due("cell(" + s + ", " + i + ", " + v + ")", x.cell(s, i, v), m.cell(s, i, v));
    }

    private void writeOrder(int s) {
        int n = below(Math.max(1, m.count(0)) + 1);
        sheet(s, below(3), n);
        int part = below(7);
        for (int i = 0; i < n; i++) {
            cell(s, i, part % Math.max(1, m.count(0)) + (below(8) == 0 ? 256 : 0) + (below(16) == 0 ? 65536 : 0));
            part += below(20) == 0 ? below(7) : 1;
        }
    }

    private void copy(int s) {
        int other = upTo(3);
        int i = upTo(5);
        int j = upTo(5);
        int n = upTo(6);
        due("copy(" + s + ", " + i + ", " + other + ", " + j + ", " + n + ")", x.copy(s, i, other, j, n),
                m.copy(s, i, other, j, n));
        if (other >= 0 && other < 4) {
            due("order(" + other + ", 1)", x.order(other, 1), m.order(other, 1));
        }
    }

    private void parts(int s) {
        if (s >= 0 && s < 4 && below(2) == 0) {
            int sort = below(3);
            sheet(s, sort, 10);
            for (int i = 0; i < 10; i++) {
                cell(s, i, upTo(i % 2 == 0 ? 5 : 9));
            }
            due("image()", x.image(), m.image());
        }
        int sort = upTo(2);
        int from = upTo(4);
        int n = upTo(below(2) == 0 ? 3 : 7);
        due("parts(" + s + ", " + sort + ", " + from + ", " + n + ")", x.parts(s, sort, from, n),
                m.parts(s, sort, from, n));
        int part = upTo(6);
        int k = upTo(5);
        due("taken(" + part + ", " + k + ")", x.taken(part, k), m.taken(part, k));
    }
}
