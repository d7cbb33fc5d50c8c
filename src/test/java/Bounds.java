import java.io.IOException;
import java.nio.file.Files;
import java.nio.file.Path;
import java.util.ArrayList;
import java.util.IdentityHashMap;
import java.util.List;
import java.util.Map;

/**
 * Tests of boundary cases, each on objects of its own, each named after the heading and the sentence of the document
 * that names it. A sentence that the document does not have under that heading is itself a failure.
 */
final class Bounds {
    /** Calls that lead to a state. */
    interface Calls {
        void on(CreasedAgain x);
    }

    /** One call, and what it answers. */
    interface Call {
        long on(CreasedAgain x);
    }

    static final int LOWEST = Integer.MIN_VALUE;
    static final int HIGHEST = Integer.MAX_VALUE;
    private static final Path DOCUMENT = Path.of("../shared/DOC.md");

    private final String name;
    private final String document;
    private final Map<Calls, List<Long>> seen = new IdentityHashMap<>();
    private String sentence = "";
    private int tests;
    private int wrong;

    Bounds(String name) {
        this.name = name;
        this.document = document();
    }

    private static String document() {
        try {
            return Files.exists(DOCUMENT) ? squeeze(Files.readString(DOCUMENT)) : "";
        } catch (IOException e) {
            return "";
        }
    }

    private static String squeeze(String text) {
        return text.replaceAll("\\s+", " ");
    }

    /** The tests that follow are named after this one: What it is, Terms, or Promise 1 .. 29, and words there. */
    void sentence(String heading, String words) {
        sentence = heading + ", \"" + words + "\"";
        if (document.isEmpty()) {
            return;
        }
        int from = document.indexOf("## " + heading + (heading.startsWith("Promise") ? ":" : " "));
        int till = document.indexOf(" ## ", from + 3);
        String section = from < 0 ? "" : document.substring(from, till < 0 ? document.length() : till);
        check("the document says so", section.contains(squeeze(words)), "it does not");
    }

    private void check(String which, boolean holds, String said) {
        tests++;
        if (!holds) {
            wrong++;
            if (wrong <= 50) {
                System.out.println(name + ": " + sentence + ": " + which + ": " + said);
            }
        }
    }

    /** After the calls, the call answers what is due. */
    void due(String which, long want, Calls before, Call call) {
        CreasedAgain x = new CreasedAgain();
        before.on(x);
        long got = call.on(x);
        check(which, got == want, "answered " + got + ", due is " + want);
    }

    /** The call answers what is due, and all that can be asked is answered as if it had not been called. */
    void changesNothing(String which, long want, Calls before, Call call) {
        due(which, want, before, call);
        List<Long> without = seen.computeIfAbsent(before, Bounds::all);
        List<Long> with = all(x -> {
            before.on(x);
            call.on(x);
        });
        check(which + ", and nothing has changed", with.equals(without), difference(with, without));
    }

    /** A refusal: BAD, STATE, FULL, the host's or NO. */
    void refused(String which, long want, Calls before, Call call) {
        check(which, want < -1, "is no refusal");
        changesNothing(which, want, before, call);
    }

    /** Both lead to a state in which all that can be asked is answered alike. */
    void alike(String which, Calls one, Calls other) {
        List<Long> a = all(one);
        List<Long> b = all(other);
        check(which, a.equals(b), difference(a, b));
    }

    private static String difference(List<Long> got, List<Long> want) {
        int i = 0;
        while (i < got.size() && i < want.size() && got.get(i).equals(want.get(i))) {
            i++;
        }
        return "question " + i + " is answered " + (i < got.size() ? got.get(i) : "not at all") + " behind it, "
                + (i < want.size() ? want.get(i) : "not at all") + " without it";
    }

    void end() {
        System.out.println(name + ": " + tests + " tests, " + wrong + " wrong");
        if (wrong != 0) {
            System.exit(1);
        }
    }

    // ---- all that can be asked; each group of questions on an object of its own, some of them change it

    private static CreasedAgain led(Calls calls) {
        CreasedAgain x = new CreasedAgain();
        calls.on(x);
        return x;
    }

    private static List<Long> all(Calls calls) {
        List<Long> all = new ArrayList<>();
        askShirt(all, led(calls));
        CreasedAgain x = led(calls);
        all.add((long) x.back());
        askShirt(all, x);
        askTape(all, led(calls));
        askTexts(all, led(calls));
        for (int sheet = 0; sheet < 4; sheet++) {
            askSheet(all, led(calls), sheet);
        }
        return all;
    }

    private static void askShirt(List<Long> all, CreasedAgain x) {
        for (int what = 0; what < 5; what++) {
            all.add((long) x.count(what));
        }
        for (int part = 0; part < x.count(0); part++) {
            for (int what = 0; what < 10; what++) {
                all.add((long) x.told(part, what));
            }
        }
        all.add((long) x.told(0, 0));
        all.add((long) x.told(0, 1));
        all.add((long) x.plain(0));
        all.add((long) x.plain(1));
    }

    private static void askTape(List<Long> all, CreasedAgain x) {
        all.add((long) x.feed(';'));
        int text = x.text();
        all.add((long) text);
        all.add((long) x.force(text));
        all.add((long) x.plain(0));
    }

    private static void askTexts(List<Long> all, CreasedAgain x) {
        for (int text = 0; text < 6; text++) {
            all.add((long) x.force(text));
            for (int what = 7; what < 10; what++) {
                all.add((long) x.told(0, what));
            }
            all.add((long) x.plain(0));
        }
    }

    /** Its sort, its size, and (where the image has one PART, and TEXT 1 keeps) its items that are 0 .. 99. */
    private static void askSheet(List<Long> all, CreasedAgain x, int sheet) {
        int sort = -1;
        for (int i = 0; i < 3; i++) {
            int answer = x.parts(sheet, i, 0, 0);
            all.add((long) answer);
            sort = answer == 0 ? i : sort;
        }
        int size = -1;
        for (int i = 0; i <= 41 && size == i - 1; i++) {
            size = x.copy(sheet, i, sheet, i, 0) == 0 ? i : size;
        }
        all.add((long) size);
        int other = (sheet + 1) % 4;
        x.back();
        x.force(1);
        x.sheet(other, sort, 1);
        for (int i = 0; i < size; i++) {
            x.copy(sheet, i, other, 0, 1);
            all.add((long) x.tells(other, 40));
        }
    }

    // ---- states to begin with

    static final Calls NEW = x -> { };

    static void write(CreasedAgain x, String text) {
        for (int i = 0; i < text.length(); i++) {
            x.feed(text.charAt(i));
        }
    }

    static int text(CreasedAgain x, String text) {
        write(x, text);
        return x.text();
    }

    static void rule(CreasedAgain x, String text) {
        x.force(text(x, text));
    }

    static void row(CreasedAgain x, int sheet, int sort, int... items) {
        x.sheet(sheet, sort, items.length);
        for (int i = 0; i < items.length; i++) {
            x.cell(sheet, i, items[i]);
        }
    }

    /** So many of KIND PART, of NUMBER 0. */
    static Calls parts(int many) {
        return x -> {
            for (int i = 0; i < many; i++) {
                x.part(0, 0);
            }
        };
    }

    static Calls then(Calls first, Calls second) {
        return x -> {
            first.on(x);
            second.on(x);
        };
    }

    /**
     * Some of all: an image of one PART, three PARTS that lie on one another, three TEXTS, a tape that lacks its last
     * sign, sheets 0 bytes, 1 shorts and 2 ints, 3 missing.
     */
    static final Calls SOME = x -> {
        x.part(0, 3);
        x.set(0, 0, 4);
        x.set(1, 0, 30);
        x.set(3, 0, 61);
        x.set(4, 0, 8);
        text(x, "irons crease;takes 1;crumples 0;");
        text(x, "irons 20-damp+minute;takes 3+number;crumples 5+part;");
        x.force(1);
        x.image();
        x.set(0, 0, 7);
        x.set(1, 0, 25);
        x.set(2, 0, 5);
        x.set(3, 0, 70);
        x.set(4, 0, 6);
        x.part(2, 8);
        x.part(1, 2);
        x.set(3, 1, 33);
        x.set(4, 2, 1);
        x.force(2);
        row(x, 0, 0, 11, 22, 33);
        row(x, 1, 1, 5, 4, 3, 2, 1);
        row(x, 2, 2, 2, 0, 1);
        write(x, "irons 7;takes 3;crumples 2");
    };

    /** No room for a PART, a TEXT or a byte more; the image has one PART; sheets of 40. */
    static final Calls BRIMFUL = x -> {
        x.part(0, 9);
        text(x, "irons crease;takes 1;crumples 0;");
        x.image();
        for (int i = 1; i < 7; i++) {
            x.part(i - 1, i);
            x.set(3, i, 90 + i);
        }
        for (int i = 2; i < 6; i++) {
            text(x, "irons " + i + ";takes 2;crumples 3;");
        }
        x.force(5);
        for (int sheet = 0; sheet < 4; sheet++) {
            x.sheet(sheet, sheet % 3, 40);
            x.cell(sheet, 39, 50 + sheet);
        }
        write(x, "irons 7;takes 3;crumples 2;");
        for (int i = 27; i < 160; i++) {
            x.feed(' ');
        }
    };
}
