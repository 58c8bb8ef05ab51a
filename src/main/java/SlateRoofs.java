/** A roof of slates laid by overlaps. */
public final class SlateRoofs {
    private static final int WIDTH = 12;
    private static final int HEIGHT = 8;
    private static final int PLACES = WIDTH * HEIGHT;
    private static final int NONE = -1;

    private static final int MOST_THERE = 60;
    private static final int MOST_LAID = 200;
    private static final int MOST_WIDE = 4;
    private static final int MOST_NAILS = 3;

    private static final int MOST_ROT = 9;
    private static final int BAD_ROT = 5;
    private static final int ROTTING_RAIN = 6;

    private static final int MOST_FORCE = 20;
    private static final int MOST_HAIL = 9;
    private static final int MOST_RAIN = 9;
    private static final int TABLE_DAYS = 7;
    private static final int MOST_DAYS = 60;

    private static final int LAST_SLATE_WHAT = 7;
    private static final int LAST_PLACE_WHAT = 2;
    private static final int LAST_COUNT_WHAT = 6;
    private static final int LAST_STORM_WHAT = 2;
    private static final int LAST_FORESEE_WHAT = 2;

    private final Roof roof;
    /** Stands in for the roof where a question must change nothing; made once, as objects are counted. */
    private final Roof trial;
    private final Cover cover;
    private final Table table;

    public SlateRoofs() {
        roof = new Roof();
        trial = new Roof();
        cover = new Cover();
        table = new Table();
    }

    // ---- slates

    public int lay(int row, int from, int wide, int nails)
            throws IllegalArgumentException, IllegalStateException {
        if (!fits(row, from, wide) || !isNails(nails)) {
            throw new IllegalArgumentException("no such row, place, width or nails");
        }
        if (roof.there >= MOST_THERE || roof.laid >= MOST_LAID || !roof.isFree(row, from, wide)) {
            throw new IllegalStateException("too many slates, or one is in the way");
        }
        return roof.add(row, from, wide, nails);
    }

    public int take(int slate) throws IndexOutOfBoundsException, IllegalStateException {
        if (!roof.isKnown(slate)) {
            throw new IndexOutOfBoundsException("no such slate");
        }
        if (!roof.isOpen(slate)) {
            throw new IllegalStateException("the slate is off the roof, or one lies upon it");
        }
        roof.remove(slate);
        return roof.nailsOf(slate);
    }

    public int nail(int slate, int nails)
            throws IndexOutOfBoundsException, IllegalArgumentException, IllegalStateException {
        if (!roof.isKnown(slate)) {
            throw new IndexOutOfBoundsException("no such slate");
        }
        if (!isNails(nails)) {
            throw new IllegalArgumentException("nails are 1 to 3");
        }
        if (!roof.isOpen(slate)) {
            throw new IllegalStateException("the slate is off the roof, or one lies upon it");
        }
        int before = roof.nailsOf(slate);
        roof.setNails(slate, nails);
        return before;
    }

    public int board(int x, int y) throws IndexOutOfBoundsException, IllegalStateException {
        if (!isPlace(x, y)) {
            throw new IndexOutOfBoundsException("no such place");
        }
        if (roof.numberAt(x, y) != NONE) {
            throw new IllegalStateException("a slate is there");
        }
        int before = roof.rotAt(x, y);
        roof.setRot(x, y, 0);
        return before;
    }

    public int setDay(int day, int force, boolean fromRight, int hail, int rain)
            throws IndexOutOfBoundsException, IllegalArgumentException {
        if (!isUpTo(day, TABLE_DAYS - 1)) {
            throw new IndexOutOfBoundsException("no such day of the table");
        }
        if (!isUpTo(force, MOST_FORCE) || !isUpTo(hail, MOST_HAIL) || !isUpTo(rain, MOST_RAIN)) {
            throw new IllegalArgumentException("no such force, hail or rain");
        }
        int before = table.told(day);
        table.write(day, force, fromRight, hail, rain);
        return before;
    }

    // ---- what is there

    public int slate(int slate, int what) throws IndexOutOfBoundsException {
        if (!roof.isKnown(slate) || !isUpTo(what, LAST_SLATE_WHAT)) {
            throw new IndexOutOfBoundsException("no such slate, or nothing to tell by this number");
        }
        return roof.tellSlate(slate, what);
    }

    public int place(int x, int y, int what) throws IndexOutOfBoundsException {
        if (!isPlace(x, y) || !isUpTo(what, LAST_PLACE_WHAT)) {
            throw new IndexOutOfBoundsException("no such place, or nothing to tell by this number");
        }
        switch (what) {
            case 0:
                return roof.numberAt(x, y);
            case 1:
                return roof.isCovered(x, y) ? 1 : 0;
            default:
                return roof.rotAt(x, y);
        }
    }

    public int count(int what) throws IndexOutOfBoundsException {
        if (!isUpTo(what, LAST_COUNT_WHAT)) {
            throw new IndexOutOfBoundsException("nothing to count by this number");
        }
        switch (what) {
            case 0:
                return roof.day;
            case 1:
                return roof.laid;
            case 2:
                return roof.there;
            case 3:
                return roof.crackedThere();
            case 4:
                return roof.coveredPlaces();
            case 5:
                return roof.blownAway;
            default:
                return roof.allRot();
        }
    }

    // ---- what would be

    public int lift(int slate, int force, boolean fromRight)
            throws IndexOutOfBoundsException, IllegalArgumentException, IllegalStateException {
        if (!roof.isKnown(slate)) {
            throw new IndexOutOfBoundsException("no such slate");
        }
        if (!isUpTo(force, MOST_FORCE)) {
            throw new IllegalArgumentException("no such force");
        }
        if (!roof.isThere(slate)) {
            throw new IllegalStateException("the slate is off the roof");
        }
        return roof.liftOf(slate, force, fromRight);
    }

    public int storm(int force, boolean fromRight, int what)
            throws IllegalArgumentException, IndexOutOfBoundsException {
        if (!isUpTo(force, MOST_FORCE)) {
            throw new IllegalArgumentException("no such force");
        }
        if (!isUpTo(what, LAST_STORM_WHAT)) {
            throw new IndexOutOfBoundsException("nothing to tell by this number");
        }
        trial.copyFrom(roof);
        int rounds = trial.blow(force, fromRight);
        switch (what) {
            case 0:
                return trial.blownAway - roof.blownAway;
            case 1:
                return rounds;
            default:
                return trial.coveredPlaces();
        }
    }

    public int bears(boolean fromRight) {
        for (int force = 1; force <= MOST_FORCE; force++) {
            if (roof.markLifted(force, fromRight) > 0) {
                return force - 1;
            }
        }
        return MOST_FORCE;
    }

    public int comes(int rain, int x, int y) throws IllegalArgumentException, IndexOutOfBoundsException {
        if (!isUpTo(rain, MOST_RAIN)) {
            throw new IllegalArgumentException("no such rain");
        }
        if (!isPlace(x, y)) {
            throw new IndexOutOfBoundsException("no such place");
        }
        cover.readFrom(roof);
        return cover.comesInAt(rain, x, y);
    }

    public int leaks(int rain) throws IllegalArgumentException {
        if (!isUpTo(rain, MOST_RAIN)) {
            throw new IllegalArgumentException("no such rain");
        }
        cover.readFrom(roof);
        return cover.comesInAtAll(rain);
    }

    public int needs(int row, int from, int wide) throws IllegalArgumentException {
        if (!fits(row, from, wide)) {
            throw new IllegalArgumentException("no such row, place or width");
        }
        return roof.inTheWay(row, from, wide);
    }

    public int best() {
        cover.readFrom(roof);
        int least = cover.comesInAtAll(MOST_RAIN);
        int answer = NONE;
        for (int row = 0; row < HEIGHT; row++) {
            for (int from = 0; from <= WIDTH - MOST_WIDE; from++) {
                if (roof.isFree(row, from, MOST_WIDE)) {
                    int in = comesInWith(row, from, MOST_WIDE);
                    if (in < least) {
                        least = in;
                        answer = 100 * row + from;
                    }
                }
            }
        }
        return answer;
    }

    // ---- days

    public int pass(int days) throws IllegalArgumentException {
        if (!isDays(days)) {
            throw new IllegalArgumentException("days are 1 to 60");
        }
        int before = roof.blownAway;
        letGoBy(roof, days);
        return roof.blownAway - before;
    }

    public int foresee(int days, int what) throws IllegalArgumentException, IndexOutOfBoundsException {
        if (!isDays(days)) {
            throw new IllegalArgumentException("days are 1 to 60");
        }
        if (!isUpTo(what, LAST_FORESEE_WHAT)) {
            throw new IndexOutOfBoundsException("nothing to foresee by this number");
        }
        trial.copyFrom(roof);
        letGoBy(trial, days);
        switch (what) {
            case 0:
                return trial.there;
            case 1:
                return trial.crackedThere();
            default:
                return trial.allRot();
        }
    }

    public double share() {
        return (double) roof.coveredPlaces() / (double) PLACES;
    }

    public long digest() {
        long sum = 919;
        for (int what = 0; what <= LAST_COUNT_WHAT; what++) {
            sum = sum * 31 + count(what);
        }
        for (int number = 0; number < roof.laid; number++) {
            for (int what = 0; what <= LAST_SLATE_WHAT; what++) {
                sum = sum * 31 + slate(number, what);
            }
        }
        for (int y = 0; y < HEIGHT; y++) {
            for (int x = 0; x < WIDTH; x++) {
                for (int what = 0; what <= LAST_PLACE_WHAT; what++) {
                    sum = sum * 31 + place(x, y, what);
                }
            }
        }
        for (int day = 0; day < TABLE_DAYS; day++) {
            sum = sum * 31 + table.told(day);
            sum = sum * 31 + (table.isFromRight(day) ? 1 : 0);
        }
        return sum;
    }

    private int comesInWith(int row, int from, int wide) {
        cover.readFrom(roof);
        cover.addSlate(row, from, wide);
        return cover.comesInAtAll(MOST_RAIN);
    }

    private void letGoBy(Roof which, int days) {
        for (int i = 0; i < days; i++) {
            int today = Math.floorMod(which.day, TABLE_DAYS);
            which.blow(table.forceOf(today), table.isFromRight(today));
            which.crackBy(table.hailOf(today));
            cover.readFrom(which);
            which.rotBy(cover, table.rainOf(today));
            which.day++;
        }
    }

    private static boolean isUpTo(int number, int most) {
        return number >= 0 && number <= most;
    }

    private static boolean isPlace(int x, int y) {
        return x >= 0 && x < WIDTH && y >= 0 && y < HEIGHT;
    }

    private static boolean fits(int row, int from, int wide) {
        return isPlace(from, row) && wide >= 1 && wide <= MOST_WIDE && wide <= WIDTH - from;
    }

    private static boolean isNails(int nails) {
        return nails >= 1 && nails <= MOST_NAILS;
    }

    private static boolean isDays(int days) {
        return days >= 1 && days <= MOST_DAYS;
    }

    /** The slates and the boards on one day. */
    private static final class Roof {
        private final int[] numbers;
        private final int[] rot;

        private final int[] rows;
        private final int[] froms;
        private final int[] wides;
        private final int[] nails;
        private final boolean[] cracked;
        private final boolean[] onRoof;

        /** Who goes is found out for all slates before one of them goes. */
        private final boolean[] goes;

        private int day;
        private int laid;
        private int there;
        private int blownAway;

        Roof() {
            numbers = new int[PLACES];
            rot = new int[PLACES];
            rows = new int[MOST_LAID];
            froms = new int[MOST_LAID];
            wides = new int[MOST_LAID];
            nails = new int[MOST_LAID];
            cracked = new boolean[MOST_LAID];
            onRoof = new boolean[MOST_LAID];
            goes = new boolean[MOST_LAID];
            for (int i = 0; i < PLACES; i++) {
                numbers[i] = NONE;
            }
        }

        void copyFrom(Roof other) {
            day = other.day;
            laid = other.laid;
            there = other.there;
            blownAway = other.blownAway;
            for (int i = 0; i < PLACES; i++) {
                numbers[i] = other.numbers[i];
                rot[i] = other.rot[i];
            }
            for (int s = 0; s < MOST_LAID; s++) {
                rows[s] = other.rows[s];
                froms[s] = other.froms[s];
                wides[s] = other.wides[s];
                nails[s] = other.nails[s];
                cracked[s] = other.cracked[s];
                onRoof[s] = other.onRoof[s];
            }
        }

        boolean isKnown(int s) {
            return s >= 0 && s < laid && s < MOST_LAID;
        }

        // The calls of a storm go deep already, so the checks are written out in what stands lowest.

        boolean isThere(int s) {
            return s >= 0 && s < laid && s < MOST_LAID && onRoof[s];
        }

        boolean isOpen(int s) {
            return isThere(s) && uponIt(s) == 0;
        }

        /** Beside and above the roof there is no slate, so that its edges need no case of their own. */
        int numberAt(int x, int y) {
            if (x < 0 || x >= WIDTH || y < 0 || y >= HEIGHT) {
                return NONE;
            }
            return numbers[WIDTH * y + x];
        }

        int rotAt(int x, int y) {
            if (x < 0 || x >= WIDTH || y < 0 || y >= HEIGHT) {
                return 0;
            }
            return rot[WIDTH * y + x];
        }

        private void setNumbers(int row, int from, int wide, int number) {
            for (int x = from; x < from + wide; x++) {
                if (isPlace(x, row)) {
                    numbers[WIDTH * row + x] = number;
                }
            }
        }

        void setRot(int x, int y, int much) {
            if (isPlace(x, y)) {
                rot[WIDTH * y + x] = much;
            }
        }

        int nailsOf(int s) {
            return isKnown(s) ? nails[s] : 0;
        }

        void setNails(int s, int many) {
            if (isKnown(s)) {
                nails[s] = many;
            }
        }

        /** Whether nothing lies at these places of the row, and nothing would lie upon a slate there. */
        boolean isFree(int row, int from, int wide) {
            for (int x = from; x < from + wide; x++) {
                if (numberAt(x, row) != NONE || numberAt(x, row + 1) != NONE) {
                    return false;
                }
            }
            return true;
        }

        int add(int row, int from, int wide, int many) {
            int s = laid;
            if (s < 0 || s >= MOST_LAID) {
                return NONE;
            }
            rows[s] = row;
            froms[s] = from;
            wides[s] = wide;
            nails[s] = many;
            cracked[s] = false;
            onRoof[s] = true;
            setNumbers(row, from, wide, s);
            laid++;
            there++;
            return s;
        }

        void remove(int s) {
            if (isThere(s)) {
                onRoof[s] = false;
                setNumbers(rows[s], froms[s], wides[s], NONE);
                there--;
            }
        }

        int tellSlate(int s, int what) {
            if (!isKnown(s)) {
                return 0;
            }
            switch (what) {
                case 0:
                    return rows[s];
                case 1:
                    return froms[s];
                case 2:
                    return wides[s];
                case 3:
                    return nails[s];
                case 4:
                    return cracked[s] ? 1 : 0;
                case 5:
                    return onRoof[s] ? 1 : 0;
                case 6:
                    return holdOf(s);
                default:
                    return uponIt(s);
            }
        }

        int uponIt(int s) {
            if (!isThere(s)) {
                return 0;
            }
            int many = 0;
            int last = NONE;
            for (int x = froms[s]; x < froms[s] + wides[s]; x++) {
                int above = numberAt(x, rows[s] + 1);
                if (above != NONE && above != last) {
                    many++;
                    last = above;
                }
            }
            return many;
        }

        int holdOf(int s) {
            if (!isThere(s)) {
                return 0;
            }
            int each = isOnRot(s) ? 2 : 3;
            int hold = each * nails[s] + 2 * uponIt(s);
            return cracked[s] ? hold / 2 : hold;
        }

        private boolean isOnRot(int s) {
            if (!isKnown(s)) {
                return false;
            }
            for (int x = froms[s]; x < froms[s] + wides[s]; x++) {
                if (rotAt(x, rows[s]) >= BAD_ROT) {
                    return true;
                }
            }
            return false;
        }

        int liftOf(int s, int force, boolean fromRight) {
            if (!isKnown(s)) {
                return 0;
            }
            int beside = fromRight ? froms[s] + wides[s] : froms[s] - 1;
            int shelter = numberAt(beside, rows[s]) != NONE ? 2 : 0;
            return force + rows[s] - shelter;
        }

        /** Lets a storm take slates, and tells its rounds. */
        int blow(int force, boolean fromRight) {
            if (force < 1) {
                return 0;
            }
            // Each round but the last one takes a slate, so that there are no more than these.
            for (int round = 1; round <= MOST_THERE; round++) {
                if (markLifted(force, fromRight) == 0) {
                    return round;
                }
                blownAway += removeMarked();
            }
            return MOST_THERE + 1;
        }

        int markLifted(int force, boolean fromRight) {
            int many = 0;
            for (int s = 0; s < laid && s < MOST_LAID; s++) {
                goes[s] = onRoof[s] && liftOf(s, force, fromRight) > holdOf(s);
                if (goes[s]) {
                    many++;
                }
            }
            return many;
        }

        private int removeMarked() {
            int before = there;
            for (int s = 0; s < laid && s < MOST_LAID; s++) {
                if (goes[s]) {
                    remove(s);
                }
            }
            return before - there;
        }

        void crackBy(int hail) {
            for (int s = 0; s < laid && s < MOST_LAID; s++) {
                if (onRoof[s] && hail > nails[s] + 3 && isBareSomewhere(s)) {
                    cracked[s] = true;
                }
            }
        }

        private boolean isBareSomewhere(int s) {
            if (!isKnown(s)) {
                return false;
            }
            for (int x = froms[s]; x < froms[s] + wides[s]; x++) {
                if (numberAt(x, rows[s] + 1) == NONE) {
                    return true;
                }
            }
            return false;
        }

        void rotBy(Cover cover, int rain) {
            for (int x = 0; x < WIDTH; x++) {
                int in = 0;
                for (int y = HEIGHT - 1; y >= 0; y--) {
                    in = cover.comesIn(rain, in, x, y);
                    if (in >= ROTTING_RAIN) {
                        setRot(x, y, Math.min(rotAt(x, y) + 1, MOST_ROT));
                    }
                }
            }
        }

        private boolean isWholeAt(int x, int y) {
            int s = numberAt(x, y);
            return isKnown(s) && !cracked[s];
        }

        boolean isCovered(int x, int y) {
            return isWholeAt(x, y) || isWholeAt(x, y + 1);
        }

        int coveredPlaces() {
            int many = 0;
            for (int y = 0; y < HEIGHT; y++) {
                for (int x = 0; x < WIDTH; x++) {
                    if (isCovered(x, y)) {
                        many++;
                    }
                }
            }
            return many;
        }

        int crackedThere() {
            int many = 0;
            for (int s = 0; s < laid && s < MOST_LAID; s++) {
                if (onRoof[s] && cracked[s]) {
                    many++;
                }
            }
            return many;
        }

        int allRot() {
            int much = 0;
            for (int i = 0; i < PLACES; i++) {
                much += rot[i];
            }
            return much;
        }

        /** How many slates have to be taken up before one can be laid there. */
        int inTheWay(int row, int from, int wide) {
            for (int s = 0; s < MOST_LAID; s++) {
                goes[s] = false;
            }
            int many = 0;
            for (int x = from; x < from + wide; x++) {
                many += letGo(numberAt(x, row));
                many += letGo(numberAt(x, row + 1));
            }
            // From below upwards, as what lies upon a slate that goes is a row above it.
            for (int y = row; y < HEIGHT; y++) {
                for (int x = 0; x < WIDTH; x++) {
                    if (isGoing(numberAt(x, y))) {
                        many += letGo(numberAt(x, y + 1));
                    }
                }
            }
            return many;
        }

        private boolean isGoing(int s) {
            return isKnown(s) && goes[s];
        }

        private int letGo(int s) {
            if (!isKnown(s) || goes[s]) {
                return 0;
            }
            goes[s] = true;
            return 1;
        }
    }

    /** Which places are covered: a roof's, and those of a slate that is only thought of. */
    private static final class Cover {
        private final boolean[] covered;

        Cover() {
            covered = new boolean[PLACES];
        }

        void readFrom(Roof roof) {
            for (int y = 0; y < HEIGHT; y++) {
                for (int x = 0; x < WIDTH; x++) {
                    covered[WIDTH * y + x] = roof.isCovered(x, y);
                }
            }
        }

        void addSlate(int row, int from, int wide) {
            for (int x = from; x < from + wide; x++) {
                coverOne(x, row);
                coverOne(x, row - 1);
            }
        }

        private void coverOne(int x, int y) {
            if (isPlace(x, y)) {
                covered[WIDTH * y + x] = true;
            }
        }

        /** What comes in at a place, by what comes in above it. */
        int comesIn(int rain, int above, int x, int y) {
            if (!isPlace(x, y) || covered[WIDTH * y + x]) {
                return 0;
            }
            return rain + above / 2;
        }

        int comesInAt(int rain, int x, int y) {
            int in = 0;
            for (int row = HEIGHT - 1; row >= 0 && row >= y; row--) {
                in = comesIn(rain, in, x, row);
            }
            return in;
        }

        int comesInAtAll(int rain) {
            int all = 0;
            for (int x = 0; x < WIDTH; x++) {
                int in = 0;
                for (int y = HEIGHT - 1; y >= 0; y--) {
                    in = comesIn(rain, in, x, y);
                    all += in;
                }
            }
            return all;
        }
    }

    /** What the weather is on each of the days that come round. */
    private static final class Table {
        private final int[] forces;
        private final boolean[] fromRights;
        private final int[] hails;
        private final int[] rains;

        Table() {
            forces = new int[TABLE_DAYS];
            fromRights = new boolean[TABLE_DAYS];
            hails = new int[TABLE_DAYS];
            rains = new int[TABLE_DAYS];
        }

        private boolean isDay(int day) {
            return day >= 0 && day < TABLE_DAYS;
        }

        void write(int day, int force, boolean fromRight, int hail, int rain) {
            if (isDay(day)) {
                forces[day] = force;
                fromRights[day] = fromRight;
                hails[day] = hail;
                rains[day] = rain;
            }
        }

        int told(int day) {
            return 100 * forceOf(day) + 10 * hailOf(day) + rainOf(day);
        }

        int forceOf(int day) {
            return isDay(day) ? forces[day] : 0;
        }

        boolean isFromRight(int day) {
            return isDay(day) && fromRights[day];
        }

        int hailOf(int day) {
            return isDay(day) ? hails[day] : 0;
        }

        int rainOf(int day) {
            return isDay(day) ? rains[day] : 0;
        }
    }
}
