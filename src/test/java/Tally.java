import java.util.Arrays;

/** Counts answers that are not the ones that are due, and tells them. */
final class Tally {
    private final String name;
    private String promise = "";
    private int checked;
    private int wrong;

    Tally(String name) {
        this.name = name;
    }

    void promise(String which) {
        promise = which;
    }

    void due(String call, long got, long want) {
        checked++;
        if (got != want) {
            wrong++;
            if (wrong <= 50) {
                System.out.println(name + ", " + promise + ": " + call + " answered " + got + ", due is " + want);
            }
        }
    }

    void due(String call, int[] got, int... want) {
        checked++;
        if (!Arrays.equals(got, want)) {
            wrong++;
            System.out.println(name + ", " + promise + ": " + call + " answered " + Arrays.toString(got)
                    + ", due is " + Arrays.toString(want));
        }
    }

    int wrong() {
        return wrong;
    }

    void end() {
        System.out.println(name + ": " + checked + " checked, " + wrong + " wrong");
        if (wrong != 0) {
            System.exit(1);
        }
    }
}
