import java.util.ArrayList;
import java.util.Arrays;
import java.util.Collections;
import java.util.List;

/**
 * The document again, written apart from the class and in another way (a tree of kinds, trees of expressions,
 * recursion over orders), so that a slip in the one shows beside the other.
 */
final class Model {
    static final long NO = -4611686018427387904L;

    interface Expression {
        int of(int minute, int damp, int heat, Piece piece);
    }

    static final class Fault extends RuntimeException {
        private static final long serialVersionUID = 1L;
        final int place;

        Fault(int place) {
            super("fault at " + place);
            this.place = place;
        }
    }

    static final class Rule {
        Expression irons;
        Expression takes;
        Expression crumples;
    }

    /** A part; its numbers are told by the tree of kinds, each kind by the one that it is under. */
    static final class Piece {
        int index;
        int kind;
        int number;
        int creases = 50;
        int lies;

        Piece copy() {
            Piece p = new Piece();
            p.index = index;
            p.kind = kind;
            p.number = number;
            p.creases = creases;
            p.lies = lies;
            return p;
        }

        int keeps(int k, int v) {
            switch (k) {
                case 0: return v;
                case 1: return keeps(0, v) / 2;
                case 2: return keeps(0, v) + number;
                case 3: return keeps(1, v);
                case 4: return (v < creases / 2 ? v : creases / 2) + number;
                case 5: return creases / 3;
                default: throw new IllegalStateException();
            }
        }

        int takes(int k, int v) {
            switch (k) {
                case 0: return v;
                case 1: return takes(0, v) * 2;
                case 2: return takes(0, v);
                case 3: return takes(1, v) + number;
                case 4: return takes(2, v) / 2;
                case 5: return 1;
                default: throw new IllegalStateException();
            }
        }

        int crumples(int k, int v) {
            switch (k) {
                case 0: return v;
                case 1: return crumples(0, v) - 2;
                case 2: return crumples(0, v) * 2;
                case 3: return crumples(1, v);
                case 4: return crumples(2, v);
                case 5: return 0;
                default: throw new IllegalStateException();
            }
        }

        int shows(int k) {
            switch (k) {
                case 0: return 1;
                case 1: return 3 * shows(0);
                case 2: return shows(0);
                case 3: return shows(1) - 1;
                case 4: return shows(2) + 1;
                case 5: return shows(0);
                default: throw new IllegalStateException();
            }
        }
    }

    static final class State {
        int heat = 5;
        int damp = 40;
        int rule;
        List<Piece> pieces = new ArrayList<>();

        State copy() {
            State s = new State();
            s.heat = heat;
            s.damp = damp;
            s.rule = rule;
            for (Piece p : pieces) {
                s.pieces.add(p.copy());
            }
            return s;
        }

        int creased() {
            int all = 0;
            for (Piece p : pieces) {
                all += p.creases * p.shows(p.kind);
            }
            return all;
        }
    }

    static final class Outcome {
        State at;
        int minutes;
        int[] behind = new int[7];
    }

    State state = new State();
    State image;
    final List<Rule> rules = new ArrayList<>();
    final StringBuilder tape = new StringBuilder();
    final Object[] sheets = new Object[4];

    Model() {
        rules.add(new Parser("irons 9 - heat ; takes 2 ; crumples 4 ;").rule());
    }

    static int clamp(int v, int from, int to) {
        return v < from ? from : v > to ? to : v;
    }

    // ---- texts

    static final class Parser {
        final String text;
        final List<String> tokens = new ArrayList<>();
        final List<Integer> places = new ArrayList<>();
        int at;
        int open;

        Parser(String text) {
            this.text = text;
            int i = 0;
            while (i < text.length()) {
                char c = text.charAt(i);
                int j = i + 1;
                if (c == 32 || c == 10) {
                    i = j;
                    continue;
                }
                if (c >= 'a' && c <= 'z') {
                    while (j < text.length() && text.charAt(j) >= 'a' && text.charAt(j) <= 'z') {
                        j++;
                    }
                } else if (c >= '0' && c <= '9') {
                    while (j < text.length() && text.charAt(j) >= '0' && text.charAt(j) <= '9') {
                        j++;
                    }
                }
                tokens.add(text.substring(i, j));
                places.add(i);
                i = j;
            }
            tokens.add("");
            places.add(text.length());
        }

        Fault fault() {
            return new Fault(places.get(at));
        }

        void expect(String token) {
            if (!tokens.get(at).equals(token)) {
                throw fault();
            }
            at++;
        }

        boolean skip(String token) {
            if (tokens.get(at).equals(token)) {
                at++;
                return true;
            }
            return false;
        }

        void opens() {
            if (open == 5) {
                throw fault();
            }
            open++;
            at++;
        }

        Rule rule() {
            Rule r = new Rule();
            expect("irons");
            r.irons = e();
            expect(";");
            expect("takes");
            r.takes = e();
            expect(";");
            expect("crumples");
            r.crumples = e();
            expect(";");
            expect("");
            return r;
        }

        Expression e() {
            Expression a = and();
            while (skip("or")) {
                Expression l = a;
                Expression r = and();
                a = (m, d, h, p) -> l.of(m, d, h, p) != 0 || r.of(m, d, h, p) != 0 ? 1 : 0;
            }
            return a;
        }

        Expression and() {
            Expression a = not();
            while (skip("and")) {
                Expression l = a;
                Expression r = not();
                a = (m, d, h, p) -> l.of(m, d, h, p) != 0 && r.of(m, d, h, p) != 0 ? 1 : 0;
            }
            return a;
        }

        Expression not() {
            if (tokens.get(at).equals("not")) {
                opens();
                Expression a = not();
                open--;
                return (m, d, h, p) -> a.of(m, d, h, p) == 0 ? 1 : 0;
            }
            Expression a = sum();
            if (skip("<")) {
                Expression b = sum();
                return (m, d, h, p) -> a.of(m, d, h, p) < b.of(m, d, h, p) ? 1 : 0;
            }
            if (skip("=")) {
                Expression b = sum();
                return (m, d, h, p) -> a.of(m, d, h, p) == b.of(m, d, h, p) ? 1 : 0;
            }
            return a;
        }

        Expression sum() {
            Expression a = term();
            while (true) {
                Expression l = a;
                if (skip("+")) {
                    Expression r = term();
                    a = (m, d, h, p) -> l.of(m, d, h, p) + r.of(m, d, h, p);
                } else if (skip("-")) {
                    Expression r = term();
                    a = (m, d, h, p) -> l.of(m, d, h, p) - r.of(m, d, h, p);
                } else {
                    return a;
                }
            }
        }

        Expression term() {
            Expression a = one();
            while (skip("*")) {
                Expression l = a;
                Expression r = one();
                a = (m, d, h, p) -> l.of(m, d, h, p) * r.of(m, d, h, p);
            }
            return a;
        }

        Expression one() {
            String token = tokens.get(at);
            if (token.matches("[0-9]{1,4}")) {
                at++;
                int v = Integer.parseInt(token);
                return (m, d, h, p) -> v;
            }
            switch (token) {
                case "minute": at++; return (m, d, h, p) -> m;
                case "damp": at++; return (m, d, h, p) -> d;
                case "heat": at++; return (m, d, h, p) -> h;
                case "number": at++; return (m, d, h, p) -> p.number;
                case "crease": at++; return (m, d, h, p) -> p.creases;
                case "part": at++; return (m, d, h, p) -> p.index;
                case "-": {
                    opens();
                    Expression a = one();
                    open--;
                    return (m, d, h, p) -> -a.of(m, d, h, p);
                }
                case "(": {
                    opens();
                    Expression a = e();
                    expect(")");
                    open--;
                    return a;
                }
                default: throw fault();
            }
        }
    }

    int feed(int letter) {
        if (letter < 0 || letter > 255) {
            return -2;
        }
        if (tape.length() == 160) {
            return -4;
        }
        tape.append((char) letter);
        return tape.length();
    }

    int text() {
        if (rules.size() == 6) {
            return -4;
        }
        String read = tape.toString();
        tape.setLength(0);
        try {
            rules.add(new Parser(read).rule());
            return rules.size() - 1;
        } catch (Fault f) {
            return -100 - f.place;
        }
    }

    int force(int text) {
        if (text < 0 || text >= rules.size()) {
            return -2;
        }
        int was = state.rule;
        state.rule = text;
        return was;
    }

    // ---- ironing

    int tell(State s, int what, Piece p, int minutes, int since) {
        Rule rule = rules.get(s.rule);
        int damp = Math.max(0, s.damp - since);
        if (what == 7) {
            return clamp(p.keeps(p.kind, clamp(rule.irons.of(minutes, damp, s.heat, p), 0, 99)), 0, 99);
        }
        if (what == 8) {
            return Math.max(1, p.takes(p.kind, clamp(rule.takes.of(minutes, damp, s.heat, p), 0, 30)));
        }
        return Math.max(0, p.crumples(p.kind, clamp(rule.crumples.of(minutes, damp, s.heat, p), 0, 99)));
    }

    Outcome iron(State from, List<Integer> order, int spray) {
        Outcome out = new Outcome();
        out.at = from.copy();
        Arrays.fill(out.behind, -1);
        int since = 0;
        int place = 0;
        for (int which : order) {
            if (place++ == spray) {
                since = 0;
            }
            Piece p = out.at.pieces.get(which);
            int takes = tell(out.at, 8, p, out.minutes, since);
            p.creases = tell(out.at, 7, p, out.minutes, since);
            out.minutes += takes;
            since += takes;
            out.behind[which] = out.minutes;
            for (Piece other : out.at.pieces) {
                if (other != p && (p.lies >> other.index) % 2 == 1) {
                    other.creases = Math.min(99, other.creases + tell(out.at, 9, other, out.minutes, since));
                }
            }
        }
        return out;
    }

    static List<Integer> byNumbers(State s) {
        List<Integer> all = new ArrayList<>();
        for (Piece p : s.pieces) {
            all.add(p.index);
        }
        return all;
    }

    Outcome plainOf(State s) {
        return iron(s, byNumbers(s), -1);
    }

    int creasedPlain(State s) {
        return plainOf(s).at.creased();
    }

    static int digits(List<Integer> order) {
        int all = 0;
        for (int p : order) {
            all = all * 10 + p + 1;
        }
        return all;
    }

    static void orders(List<Integer> begun, List<Integer> rest, List<List<Integer>> all) {
        if (rest.isEmpty()) {
            all.add(new ArrayList<>(begun));
        }
        for (int p : rest) {
            List<Integer> left = new ArrayList<>(rest);
            left.remove(Integer.valueOf(p));
            begun.add(p);
            orders(begun, left, all);
            begun.remove(begun.size() - 1);
        }
    }

    static List<Integer> worstFirst(State s) {
        List<Integer> order = byNumbers(s);
        order.sort((a, b) -> {
            Piece p = s.pieces.get(a);
            Piece q = s.pieces.get(b);
            return q.creases * q.shows(q.kind) - p.creases * p.shows(p.kind);
        });
        return order;
    }

    boolean has(int part) {
        return part >= 0 && part < state.pieces.size();
    }

    int set(int what, int of, int v) {
        int[] most = {9, 99, 9, 99, 127};
        if (what < 0 || what > 4 || what > 1 && !has(of) || v < 0 || v > most[what]) {
            return -2;
        }
        int was = told(of, what);
        switch (what) {
            case 0: state.heat = v; break;
            case 1: state.damp = v; break;
            case 2: state.pieces.get(of).number = v; break;
            case 3: state.pieces.get(of).creases = v; break;
            default: state.pieces.get(of).lies = v; break;
        }
        return was;
    }

    int part(int kind, int number) {
        if (kind < 0 || kind > 5 || number < 0 || number > 9) {
            return -2;
        }
        if (state.pieces.size() == 7) {
            return -4;
        }
        Piece p = new Piece();
        p.kind = kind;
        p.number = number;
        p.index = state.pieces.size();
        state.pieces.add(p);
        return p.index;
    }

    int told(int of, int what) {
        if (what < 0 || what > 9 || what > 1 && !has(of)) {
            return -2;
        }
        if (what < 2) {
            return what == 0 ? state.heat : state.damp;
        }
        Piece p = state.pieces.get(of);
        switch (what) {
            case 2: return p.number;
            case 3: return p.creases;
            case 4: return p.lies;
            case 5: return p.kind;
            case 6: return p.shows(p.kind);
            default: return tell(state, what, p, 0, 0);
        }
    }

    int iron(int part) {
        if (!has(part)) {
            return -2;
        }
        state = iron(state, List.of(part), -1).at;
        return state.pieces.get(part).creases;
    }

    int answer(Outcome out, int what) {
        if (what < 2) {
            return what == 0 ? out.at.creased() : out.minutes;
        }
        return what < 20 ? out.at.pieces.get(what - 10).creases : out.behind[what - 20];
    }

    boolean isOfOrder(int what) {
        return what == 0 || what == 1 || what >= 10 && what < 20 && has(what - 10) || what >= 20 && has(what - 20);
    }

    int plain(int what) {
        return isOfOrder(what) ? answer(plainOf(state), what) : -2;
    }

    int[] row(int sheet) {
        if (sheets[sheet] instanceof byte[] b) {
            int[] all = new int[b.length];
            for (int i = 0; i < b.length; i++) {
                all[i] = b[i];
            }
            return all;
        }
        if (sheets[sheet] instanceof short[] b) {
            int[] all = new int[b.length];
            for (int i = 0; i < b.length; i++) {
                all[i] = b[i];
            }
            return all;
        }
        return (int[]) sheets[sheet];
    }

    int order(int sheet, int what) {
        if (sheet < 0 || sheet > 3 || !isOfOrder(what)) {
            return -2;
        }
        if (sheets[sheet] == null) {
            return -11;
        }
        List<Integer> order = new ArrayList<>();
        for (int p : row(sheet)) {
            if (!has(p) || order.contains(p)) {
                return -2;
            }
            order.add(p);
        }
        return answer(iron(state, order, -1), what);
    }

    int best(int what) {
        if (what != 0 && what != 1) {
            return -2;
        }
        List<List<Integer>> all = new ArrayList<>();
        orders(new ArrayList<>(), byNumbers(state), all);
        int least = 99999;
        int first = 0;
        for (List<Integer> order : all) {
            int creased = iron(state, order, -1).at.creased();
            if (creased < least) {
                least = creased;
                first = digits(order);
            }
        }
        return what == 0 ? least : first;
    }

    int worst(int what) {
        if (what != 0 && what != 1) {
            return -2;
        }
        List<Integer> order = worstFirst(state);
        return what == 0 ? iron(state, order, -1).at.creased() : digits(order);
    }

    int change(int what) {
        if (what != 0 && what != 1) {
            return -2;
        }
        int least = creasedPlain(state);
        int which = -1;
        for (int code = 0; code < 70; code++) {
            int i = code / 10;
            int j = code % 10;
            if (i < j && has(j)) {
                List<Integer> order = byNumbers(state);
                Collections.swap(order, i, j);
                int creased = iron(state, order, -1).at.creased();
                if (creased < least) {
                    least = creased;
                    which = code;
                }
            }
        }
        return what == 0 ? which : least;
    }

    int leave(int what) {
        if (what != 0 && what != 1) {
            return -2;
        }
        int least = creasedPlain(state);
        int which = -1;
        for (int i = 0; has(i); i++) {
            List<Integer> order = byNumbers(state);
            order.remove(i);
            int creased = iron(state, order, -1).at.creased();
            if (creased < least) {
                least = creased;
                which = i;
            }
        }
        return what == 0 ? which : least;
    }

    int spray(int what) {
        if (what != 0 && what != 1) {
            return -2;
        }
        int least = creasedPlain(state);
        int which = -1;
        for (int i = 0; has(i); i++) {
            int creased = iron(state, byNumbers(state), i).at.creased();
            if (creased < least) {
                least = creased;
                which = i;
            }
        }
        return what == 0 ? which : least;
    }

    int how(int what) {
        if (what < 0 || what > 3) {
            return -2;
        }
        int least = 99999;
        int which = -1;
        for (int v = 0; v < (what < 2 ? 100 : 10); v++) {
            State s = state.copy();
            if (what < 2) {
                s.damp = v;
            } else {
                s.heat = v;
            }
            int creased = creasedPlain(s);
            if (creased < least) {
                least = creased;
                which = v;
            }
        }
        return what % 2 == 0 ? which : least;
    }

    int enough(int k) {
        if (k < 0 || k > 9999) {
            return -2;
        }
        for (int many = 0; many <= state.pieces.size(); many++) {
            for (int bits = 0; bits < 128; bits++) {
                List<Integer> order = new ArrayList<>();
                for (int p = 0; p < 7; p++) {
                    if ((bits >> p) % 2 == 1) {
                        order.add(p);
                    }
                }
                if (bits < 1 << state.pieces.size() && order.size() == many
                        && iron(state, order, -1).at.creased() <= k) {
                    return bits;
                }
            }
        }
        return -1;
    }

    int otherwise(State s, int[] row) {
        State at = plainOf(s).at;
        int bits = 0;
        for (int p = 0; p < row.length; p++) {
            bits += at.pieces.get(p).creases == row[p] ? 0 : 1 << p;
        }
        return bits;
    }

    int tells(int sheet, int what) {
        if (sheet < 0 || sheet > 3 || what < 0 || what >= 50 || what > 2 && what < 10) {
            return -2;
        }
        int p = what % 10;
        if (what >= 10 && !has(p)) {
            return -2;
        }
        if (sheets[sheet] == null) {
            return -11;
        }
        int[] row = row(sheet);
        if (row.length != state.pieces.size()) {
            return -2;
        }
        if (what == 0) {
            return otherwise(state, row);
        }
        int[] candidates = {0, 10, 6, 10, 100, 100};
        int of = what < 10 ? 1 : what / 10 + 1;
        int many = what == 2 ? rules.size() : candidates[of];
        List<Integer> fit = new ArrayList<>();
        for (int v = 0; v < many; v++) {
            State s = state.copy();
            if (what == 1) {
                s.heat = v;
            } else if (what == 2) {
                s.rule = v;
            } else if (of == 2) {
                s.pieces.get(p).kind = v;
            } else if (of == 3) {
                s.pieces.get(p).number = v;
            } else {
                s.pieces.get(p).creases = v;
            }
            if (otherwise(s, row) == 0) {
                fit.add(v);
            }
        }
        if (of == 4) {
            return fit.size();
        }
        if (of == 5) {
            return fit.isEmpty() ? -1 : fit.get(0);
        }
        return fit.stream().mapToInt(v -> 1 << v).sum();
    }

    int film(int sheet) {
        if (sheet < 0 || sheet > 3) {
            return -2;
        }
        byte[] row = new byte[state.pieces.size()];
        for (Piece p : plainOf(state).at.pieces) {
            row[p.index] = (byte) p.creases;
        }
        sheets[sheet] = row;
        return row.length;
    }

    State draw(int seed) {
        State s = state.copy();
        int z = seed;
        for (Piece p : s.pieces) {
            z = z * 1103515245 + 12345;
            p.creases = (z >>> 9) % 100;
        }
        return s;
    }

    int drawn(int seed) {
        return creasedPlain(draw(seed));
    }

    long chance(int seed, int n, int part) {
        if (n < 1 || n > 20 || part < 0 || part > 1) {
            return NO;
        }
        int good = 0;
        for (int i = 0; i < n; i++) {
            State s = draw(seed + i);
            if (iron(s, worstFirst(s), -1).at.creased() <= creasedPlain(s)) {
                good++;
            }
        }
        int g = java.math.BigInteger.valueOf(good).gcd(java.math.BigInteger.valueOf(n)).intValue();
        return part == 0 ? good / g : n / g;
    }

    int image() {
        image = state.copy();
        return image.pieces.size();
    }

    int back() {
        if (image == null) {
            return -3;
        }
        state = image.copy();
        return state.pieces.size();
    }

    int count(int what) {
        switch (what) {
            case 0: return state.pieces.size();
            case 1: return rules.size();
            case 2: return tape.length();
            case 3: return state.rule;
            case 4: return state.creased();
            default: return -2;
        }
    }

    // ---- the host: here the machine itself tells what it refuses

    int sheet(int sheet, int sort, int n) {
        if (sheet < 0 || sheet > 3 || sort < -1 || sort > 2) {
            return -2;
        }
        if (sort >= 0 && n > 40) {
            return -2;
        }
        try {
            sheets[sheet] = sort == -1 ? null : sort == 0 ? new byte[n] : sort == 1 ? new short[n] : new int[n];
        } catch (NegativeArraySizeException e) {
            return -14;
        }
        return 1;
    }

    int cell(int sheet, int i, int v) {
        if (sheet < 0 || sheet > 3) {
            return -2;
        }
        if (sheets[sheet] == null) {
            return -11;
        }
        try {
            if (sheets[sheet] instanceof byte[] b) {
                b[i] = (byte) v;
            } else if (sheets[sheet] instanceof short[] b) {
                b[i] = (short) v;
            } else {
                ((int[]) sheets[sheet])[i] = v;
            }
        } catch (ArrayIndexOutOfBoundsException e) {
            return -12;
        }
        return 1;
    }

    int copy(int sheet, int i, int other, int j, int n) {
        if (sheet < 0 || sheet > 3 || other < 0 || other > 3) {
            return -2;
        }
        try {
            System.arraycopy(sheets[sheet], i, sheets[other], j, n);
        } catch (NullPointerException e) {
            return -11;
        } catch (ArrayStoreException e) {
            return -13;
        } catch (ArrayIndexOutOfBoundsException e) {
            return -12;
        }
        return n;
    }

    int parts(int sheet, int sort, int from, int n) {
        if (sheet < 0 || sheet > 3 || sort < 0 || sort > 2 || n < 0 || n > 7) {
            return -2;
        }
        int came = 0;
        try {
            Object of = sheets[sheet];
            Object taken = sort == 0 ? (byte[]) of : sort == 1 ? (short[]) of : (int[]) of;
            taken.hashCode();
            int[] row = row(sheet);
            for (int i = 0; i < n; i++) {
                if (part(row[from + 2 * i], row[from + 2 * i + 1]) >= 0) {
                    came++;
                }
            }
        } catch (ClassCastException e) {
            return -13;
        } catch (NullPointerException e) {
            return -11;
        } catch (ArrayIndexOutOfBoundsException e) {
            return -12;
        }
        return came;
    }

    int taken(int part, int k) {
        if (k < 0 || k > 5) {
            return -2;
        }
        if (!has(part)) {
            return -11;
        }
        Piece p = state.pieces.get(part);
        List<Integer> over = List.of(List.of(0), List.of(1, 0), List.of(2, 0), List.of(3, 1, 0), List.of(4, 2, 0),
                List.of(5, 0)).get(p.kind);
        return over.contains(k) ? p.number : -13;
    }
}
