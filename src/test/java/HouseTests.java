import java.io.IOException;
import java.lang.management.ManagementFactory;
import java.lang.reflect.Constructor;
import java.lang.reflect.Field;
import java.lang.reflect.Method;
import java.lang.reflect.Modifier;
import java.nio.file.Files;
import java.nio.file.Path;
import java.util.Random;
import java.util.TreeSet;
import java.util.regex.Matcher;
import java.util.regex.Pattern;

/** The face, LANGUAGE.md's rules where they can be seen by machine, the room that calls take, and arguments at random. */
public final class HouseTests {
    private static final Tally TALLY = new Tally("HouseTests");
    private static final Path SOURCE = Path.of("src/main/java/CreasedAgain.java");
    private static final String FACE = "back best cell chance change copy count drawn enough feed film force how image"
            + " iron leave order part parts plain set sheet spray taken tells text told worst";

    public static void main(String[] args) throws Exception {
        face();
        words();
        methods();
        room();
        anyArguments();
        TALLY.end();
    }

    private static void face() {
        TALLY.promise("the face");
        TreeSet<String> open = new TreeSet<>();
        for (Method m : CreasedAgain.class.getDeclaredMethods()) {
            if (!Modifier.isPrivate(m.getModifiers()) && !m.isSynthetic()) {
                TALLY.due(m.getName() + " is public", Modifier.isPublic(m.getModifiers()) ? 1 : 0, 1);
                open.add(m.getName());
            } else {
                TALLY.due(m.getName() + " bears a public name", FACE.contains(m.getName() + " ") ? 1 : 0, 0);
            }
        }
        TALLY.due("the methods " + open, String.join(" ", open).equals(FACE) ? 1 : 0, 1);
        int constants = 0;
        for (Field f : CreasedAgain.class.getDeclaredFields()) {
            constants += Modifier.isPrivate(f.getModifiers()) ? 0 : 1;
        }
        TALLY.due("constants", constants, 5);
        for (Constructor<?> c : CreasedAgain.class.getDeclaredConstructors()) {
            TALLY.due("public constructor", Modifier.isPublic(c.getModifiers()) ? c.getParameterCount() : -1, 0);
        }
        TALLY.due("classes inside", CreasedAgain.class.getDeclaredClasses().length < 12 ? 1 : 0, 1);
        for (Class<?> c : CreasedAgain.class.getDeclaredClasses()) {
            TALLY.due(c.getName() + " is static", Modifier.isStatic(c.getModifiers()) ? 1 : 0, 1);
        }
    }

    private static String bare(String source) {
        return source.replaceAll("(?s)/\\*.*?\\*/", "").replaceAll("//[^\n]*", "").replaceAll("\"[^\"\n]*\"", "\"\"");
    }

    private static void words() throws IOException {
        TALLY.promise("the words of LANGUAGE.md");
        String source = bare(Files.readString(SOURCE));
        for (String word : new String[] {"throw", "try", "catch", "finally", "synchronized", "assert", "protected",
            "volatile", "transient", "native", "double", "float", "equals", "hashCode", "toString", "package"}) {
            TALLY.due(word, Pattern.compile("\\b" + word + "\\b").matcher(source).find() ? 1 : 0, 0);
        }
        for (String sign : new String[] {"->", "::", "Exact", "\" +", "+ \"", "while (true)", "for (;;)", "@",
            "MAX_VALUE", "MIN_VALUE"}) {
            TALLY.due(sign, source.contains(sign) ? 1 : 0, 0);
        }
        Matcher imports = Pattern.compile("import ([^;]*);").matcher(source);
        while (imports.find()) {
            TALLY.due(imports.group(1), imports.group(1).equals("java.util.Arrays") ? 1 : 0, 1);
        }
    }

    private static void methods() throws IOException {
        TALLY.promise("short methods");
        int begun = -1;
        int indent = 0;
        String[] lines = Files.readString(SOURCE).split("\n");
        for (int i = 0; i < lines.length; i++) {
            Matcher head = Pattern.compile("^( {4}| {8})\\S.*\\) \\{$").matcher(lines[i]);
            if (begun < 0 && head.matches()) {
                begun = i;
                indent = head.group(1).length();
            } else if (begun >= 0 && lines[i].equals(" ".repeat(indent) + "}")) {
                TALLY.due("lines of" + lines[begun], i - begun < 60 ? 1 : 0, 1);
                begun = -1;
            }
        }
    }

    private static long bytes() {
        return ((com.sun.management.ThreadMXBean) ManagementFactory.getThreadMXBean())
                .getThreadAllocatedBytes(Thread.currentThread().getId());
    }

    private static void room() {
        TALLY.promise("the room");
        full(new CreasedAgain());
        long before = bytes();
        CreasedAgain x = new CreasedAgain();
        long made = bytes();
        full(x);
        long used = bytes();
        TALLY.due("bytes of an object: " + (made - before), made - before < 12000 ? 1 : 0, 1);
        TALLY.due("bytes of all calls: " + (used - made), used - made < 1000 ? 1 : 0, 1);
    }

    private static void write(CreasedAgain x, String text) {
        for (int i = 0; i < text.length(); i++) {
            x.feed(text.charAt(i));
        }
    }

    /** Every call, with all parts. */
    private static void full(CreasedAgain x) {
        for (int i = 0; i < 7; i++) {
            x.part(i % 6, i);
            x.set(4, i, 127);
        }
        write(x, "irons not(heat<3)*9-minute or crease;takes 1+2*damp=part;crumples -number and 1;");
        x.force(x.text());
        write(x, "irons 12345");
        x.text();
        x.image();
        for (int what = 0; what < 50; what++) {
            x.plain(what);
            x.best(what);
            x.worst(what);
            x.change(what);
            x.leave(what);
            x.spray(what);
            x.how(what);
            x.enough(what * 100);
            x.film(what % 4);
            x.order(what % 4, what);
            x.tells(what % 4, what);
            x.drawn(what);
            x.chance(what, 20, what % 2);
            x.count(what);
            x.told(what % 7, what % 10);
        }
        x.sheet(0, 1, 40);
        x.cell(0, 1, 1);
        x.copy(0, 1, 0, 2, 30);
        x.parts(0, 1, 0, 7);
        x.taken(1, 0);
        x.iron(1);
        x.back();
    }

    /** Whatever is asked, the machine itself must throw nothing. */
    private static void anyArguments() {
        TALLY.promise("any arguments");
        Random random = new Random(11);
        Method[] methods = CreasedAgain.class.getMethods();
        for (int run = 0; run < 200; run++) {
            CreasedAgain x = new CreasedAgain();
            if (run % 2 == 0) {
                write(x, "irons 99-minute*crease*crease;takes -(damp-heat);crumples part<number or 9999*9999;");
                x.force(x.text());
            }
            for (int call = 0; call < 400; call++) {
                Method m = methods[random.nextInt(methods.length)];
                if (m.getDeclaringClass() != CreasedAgain.class) {
                    continue;
                }
                Object[] arguments = new Object[m.getParameterCount()];
                for (int i = 0; i < arguments.length; i++) {
                    int odd = random.nextInt(8);
                    arguments[i] = odd == 0 ? random.nextInt() : odd == 1 ? -1 - random.nextInt(50)
                            : odd == 2 ? Integer.MAX_VALUE - random.nextInt(3)
                            : odd == 3 ? Integer.MIN_VALUE + random.nextInt(3) : random.nextInt(8);
                }
                try {
                    m.invoke(x, arguments);
                } catch (ReflectiveOperationException e) {
                    TALLY.due(m.getName() + " threw " + e.getCause(), 1, 0);
                }
            }
        }
        TALLY.due("all answered", 1, 1);
    }
}
