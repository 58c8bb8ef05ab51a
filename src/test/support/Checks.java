/** What the tests share: roofs to begin with, weather, and the telling of wrong answers. */
public abstract class Checks {
    protected interface Call {
        long answer();
    }

    protected static final String INDEX = "IndexOutOfBoundsException";
    protected static final String ARGUMENT = "IllegalArgumentException";
    protected static final String STATE = "IllegalStateException";

    private static int wrong = 0;
    private static int checked = 0;
    private static String heading = "";

    protected static void head(String words) {
        heading = words;
    }

    private static void tell(String call, String got, String want) {
        checked++;
        if (!got.equals(want)) {
            wrong++;
            System.out.println(heading + ": " + call + " gave " + got + ", due is " + want);
        }
    }

    protected static void due(String call, long got, long want) {
        tell(call, String.valueOf(got), String.valueOf(want));
    }

    protected static void dueExactly(String call, double got, double want) {
        tell(call, String.valueOf(got), String.valueOf(want));
    }

    /** A method that throws changes nothing, so the checksum is asked before and behind it. */
    protected static void refuses(SlateRoofs roof, String call, String want, Call made) {
        long before = roof.digest();
        tell(call, outcome(made), want);
        due(call + " leaves the digest", roof.digest(), before);
    }

    protected static void changesNothing(SlateRoofs roof, String call, Call made) {
        long before = roof.digest();
        made.answer();
        due(call + " leaves the digest", roof.digest(), before);
    }

    /** The answer in figures, or the name of what the call throws. */
    protected static String outcome(Call made) {
        try {
            return String.valueOf(made.answer());
        } catch (RuntimeException e) {
            return e.getClass().getSimpleName();
        }
    }

    /** Numbers just outside a range, and far outside of it. */
    protected static int[] outside(int least, int most) {
        return new int[] {least - 1, most + 1, least - 100, most + 100, Integer.MIN_VALUE, Integer.MAX_VALUE};
    }

    /** A roof with slates, each told by its row, its first place, its width and its nails. */
    protected static SlateRoofs roofOf(int... told) {
        SlateRoofs roof = new SlateRoofs();
        for (int i = 0; i < told.length; i += 4) {
            roof.lay(told[i], told[i + 1], told[i + 2], told[i + 3]);
        }
        return roof;
    }

    /** Two rows: 0 and 1 below, 2 upon both of them, 3 upon 1 alone. */
    protected static SlateRoofs small() {
        return roofOf(0, 0, 4, 2, 0, 4, 4, 1, 1, 2, 4, 3, 1, 6, 1, 1);
    }

    /** 60 slates, one at each place of the rows 0 to 4. */
    protected static SlateRoofs full() {
        SlateRoofs roof = new SlateRoofs();
        for (int i = 0; i < 60; i++) {
            roof.lay(i / 12, i % 12, 1, 1);
        }
        return roof;
    }

    /** 200 slates were laid, and all of them are taken up again. */
    protected static SlateRoofs spent() {
        SlateRoofs roof = new SlateRoofs();
        for (int i = 0; i < 200; i++) {
            roof.take(roof.lay(7, 11, 1, 1));
        }
        return roof;
    }

    protected static void layRow(SlateRoofs roof, int row, int nails) {
        for (int from = 0; from < 12; from += 4) {
            roof.lay(row, from, 4, nails);
        }
    }

    /** Each place of the roof is covered. */
    protected static SlateRoofs covered() {
        SlateRoofs roof = new SlateRoofs();
        for (int row = 1; row < 8; row += 2) {
            layRow(roof, row, 2);
        }
        return roof;
    }

    protected static void weather(SlateRoofs roof, int force, boolean fromRight, int hail, int rain) {
        for (int day = 0; day < 7; day++) {
            roof.setDay(day, force, fromRight, hail, rain);
        }
    }

    protected static void hailOn(SlateRoofs roof, int hail) {
        weather(roof, 0, false, hail, 0);
        roof.pass(1);
        weather(roof, 0, false, 0, 0);
    }

    protected static void rainOn(SlateRoofs roof, int rain, int days) {
        weather(roof, 0, false, 0, rain);
        roof.pass(days);
        weather(roof, 0, false, 0, 0);
    }

    protected static SlateRoofs rained(int rain, int days) {
        SlateRoofs roof = new SlateRoofs();
        rainOn(roof, rain, days);
        return roof;
    }

    /** Lets one storm come, and tells how many slates it takes. */
    protected static int stormOn(SlateRoofs roof, int force, boolean fromRight) {
        weather(roof, force, fromRight, 0, 0);
        int taken = roof.pass(1);
        weather(roof, 0, false, 0, 0);
        return taken;
    }

    protected static int yes(boolean is) {
        return is ? 1 : 0;
    }

    protected static void finish() {
        System.out.println(checked + " answers looked at, " + wrong + " not as due");
        if (wrong != 0 || checked == 0) {
            System.exit(1);
        }
    }
}
