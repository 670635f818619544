import java.util.Arrays;

/** Counts the answers that are not as due, and writes texts on THE PAGE. */
final class Check {
    private static final int MOST_PRINTED = 40;
    private int asked;
    private int wrong;

    void due(String what, long got, long want) {
        asked++;
        if (got == want) {
            return;
        }
        wrong++;
        if (wrong <= MOST_PRINTED) {
            System.out.println(what + " answered " + got + ", due is " + want);
        }
    }

    void so(String what, boolean holds) {
        due(what, holds ? 1 : 0, 1);
    }

    /** All eight HEIGHTS, as a text with a blank between two of them. */
    void heights(String what, DuneMaps x, String want) {
        heights(what, x, Arrays.stream(want.split(" ")).mapToInt(Integer::parseInt).toArray());
    }

    void heights(String what, DuneMaps x, int[] want) {
        for (int cell = 0; cell < 8; cell++) {
            due(what + ", cell(" + cell + ", 0)", x.cell(cell, 0), want[cell]);
        }
    }

    boolean hasFailed() {
        return wrong > 0;
    }

    void end(String name) {
        System.out.println(name + ": " + asked + " asked, " + wrong + " wrong");
        if (wrong > 0) {
            System.exit(1);
        }
    }

    static void write(DuneMaps x, String text) {
        for (int i = 0; i < text.length(); i++) {
            x.letter(text.charAt(i));
        }
    }

    /** HEIGHTS of one digit each, as a text. */
    static String digits(int[] heights) {
        StringBuilder text = new StringBuilder();
        for (int height : heights) {
            text.append(height);
        }
        return text.toString();
    }

    static int[] heightsOf(DuneMaps x) {
        int[] heights = new int[8];
        for (int cell = 0; cell < 8; cell++) {
            heights[cell] = x.cell(cell, 0);
        }
        return heights;
    }

    static DuneMaps with(String dunes) {
        DuneMaps x = new DuneMaps();
        write(x, dunes);
        x.dunes();
        return x;
    }

    static DuneMaps with(String dunes, int kind, int cell) {
        DuneMaps x = with(dunes);
        x.walker(kind, cell);
        return x;
    }
}
