import java.util.ArrayList;
import java.util.HashSet;
import java.util.List;
import java.util.Set;

/** Long runs of mixed calls, each answer against a second, plainer writing-down of the document. */
public final class ModelTest extends Checks {
    private static final int RUNS = 500;
    /** With a digest at each eighth one these are the 512 calls that an object is used for. */
    private static final int CALLS = 455;

    /** One slate, of which only the model knows. */
    private static final class Tile {
        int number;
        int row;
        int from;
        int wide;
        int nails;
        boolean cracked;
        boolean there = true;

        boolean has(int x) {
            return x >= from && x < from + wide;
        }

        boolean meets(int first, int width) {
            return first < from + wide && from < first + width;
        }

        Tile copy() {
            Tile t = new Tile();
            t.number = number;
            t.row = row;
            t.from = from;
            t.wide = wide;
            t.nails = nails;
            t.cracked = cracked;
            t.there = there;
            return t;
        }
    }

    private static final class Model {
        List<Tile> tiles = new ArrayList<>();
        int[][] rot = new int[8][12];
        int[][] table = new int[7][4];
        int day = 0;
        int blown = 0;
        int rounds = 0;

        Model copy() {
            Model m = new Model();
            for (Tile t : tiles) {
                m.tiles.add(t.copy());
            }
            for (int y = 0; y < 8; y++) {
                m.rot[y] = rot[y].clone();
            }
            for (int d = 0; d < 7; d++) {
                m.table[d] = table[d].clone();
            }
            m.day = day;
            m.blown = blown;
            return m;
        }

        List<Tile> there() {
            List<Tile> some = new ArrayList<>();
            for (Tile t : tiles) {
                if (t.there) {
                    some.add(t);
                }
            }
            return some;
        }

        List<Tile> inRow(int row, int from, int wide) {
            List<Tile> some = new ArrayList<>();
            for (Tile t : there()) {
                if (t.row == row && t.meets(from, wide)) {
                    some.add(t);
                }
            }
            return some;
        }

        List<Tile> upon(Tile t) {
            return t.there ? inRow(t.row + 1, t.from, t.wide) : new ArrayList<>();
        }

        Tile at(int x, int y) {
            List<Tile> some = inRow(y, x, 1);
            return some.isEmpty() ? null : some.get(0);
        }

        boolean covered(int x, int y) {
            for (Tile t : there()) {
                if (!t.cracked && t.has(x) && (t.row == y || t.row == y + 1)) {
                    return true;
                }
            }
            return false;
        }

        int allCovered() {
            int many = 0;
            for (int i = 0; i < 96; i++) {
                many += covered(i % 12, i / 12) ? 1 : 0;
            }
            return many;
        }

        int hold(Tile t) {
            if (!t.there) {
                return 0;
            }
            boolean bad = false;
            for (int x = t.from; x < t.from + t.wide; x++) {
                bad |= rot[t.row][x] >= 5;
            }
            int all = t.nails * (bad ? 2 : 3) + upon(t).size() * 2;
            return t.cracked ? all / 2 : all;
        }

        int lift(Tile t, int force, boolean right) {
            int x = right ? t.from + t.wide : t.from - 1;
            return force + t.row - (inRow(t.row, x, 1).isEmpty() ? 0 : 2);
        }

        int storm(int force, boolean right) {
            rounds = 0;
            int all = 0;
            while (force >= 1) {
                rounds++;
                List<Tile> gone = new ArrayList<>();
                for (Tile t : there()) {
                    if (lift(t, force, right) > hold(t)) {
                        gone.add(t);
                    }
                }
                for (Tile t : gone) {
                    t.there = false;
                }
                all += gone.size();
                if (gone.isEmpty()) {
                    break;
                }
            }
            blown += all;
            return all;
        }

        int comes(int rain, int x, int y) {
            if (y > 7 || covered(x, y)) {
                return 0;
            }
            return rain + comes(rain, x, y + 1) / 2;
        }

        int leaks(int rain) {
            int all = 0;
            for (int i = 0; i < 96; i++) {
                all += comes(rain, i % 12, i / 12);
            }
            return all;
        }

        void oneDay() {
            int[] told = table[day % 7];
            storm(told[0], told[1] == 1);
            for (Tile t : there()) {
                boolean bare = false;
                for (int x = t.from; x < t.from + t.wide; x++) {
                    bare |= at(x, t.row + 1) == null;
                }
                if (!t.cracked && told[2] > t.nails + 3 && bare) {
                    t.cracked = true;
                }
            }
            for (int i = 0; i < 96; i++) {
                if (comes(told[3], i % 12, i / 12) >= 6 && rot[i / 12][i % 12] < 9) {
                    rot[i / 12][i % 12]++;
                }
            }
            day++;
        }

        int pass(int days) {
            int before = blown;
            for (int i = 0; i < days; i++) {
                oneDay();
            }
            return blown - before;
        }

        int needs(int row, int from, int wide) {
            Set<Tile> gone = new HashSet<>(inRow(row, from, wide));
            gone.addAll(inRow(row + 1, from, wide));
            int before = -1;
            while (before != gone.size()) {
                before = gone.size();
                for (Tile t : new ArrayList<>(gone)) {
                    gone.addAll(upon(t));
                }
            }
            return gone.size();
        }

        int best() {
            int least = leaks(9);
            int best = -1;
            for (int i = 0; i < 8 * 9; i++) {
                int row = i / 9;
                int from = i % 9;
                if (inRow(row, from, 4).isEmpty() && inRow(row + 1, from, 4).isEmpty()) {
                    Tile t = add(row, from, 4, 2);
                    int in = leaks(9);
                    tiles.remove(t);
                    if (in < least) {
                        least = in;
                        best = 100 * row + from;
                    }
                }
            }
            return best;
        }

        Tile add(int row, int from, int wide, int nails) {
            Tile t = new Tile();
            t.number = tiles.size();
            t.row = row;
            t.from = from;
            t.wide = wide;
            t.nails = nails;
            tiles.add(t);
            return t;
        }

        int count(int what) {
            int cracked = 0;
            for (Tile t : there()) {
                cracked += t.cracked ? 1 : 0;
            }
            int rotten = 0;
            for (int[] row : rot) {
                for (int r : row) {
                    rotten += r;
                }
            }
            return new int[] {day, tiles.size(), there().size(), cracked, allCovered(), blown, rotten}[what];
        }

        int tell(Tile t, int what) {
            return new int[] {t.row, t.from, t.wide, t.nails, t.cracked ? 1 : 0, t.there ? 1 : 0, hold(t),
                upon(t).size()}[what];
        }

        int tellPlace(int x, int y, int what) {
            Tile t = at(x, y);
            return new int[] {t == null ? -1 : t.number, covered(x, y) ? 1 : 0, rot[y][x]}[what];
        }

        long digest() {
            List<Integer> all = new ArrayList<>();
            for (int i = 0; i < 7; i++) {
                all.add(count(i));
            }
            for (Tile t : tiles) {
                for (int i = 0; i < 8; i++) {
                    all.add(tell(t, i));
                }
            }
            for (int i = 0; i < 96 * 3; i++) {
                all.add(tellPlace(i / 3 % 12, i / 36, i % 3));
            }
            for (int[] told : table) {
                all.add(100 * told[0] + 10 * told[2] + told[3]);
                all.add(told[1]);
            }
            long d = 919;
            for (int x : all) {
                d = d * 31 + x;
            }
            return d;
        }
    }

    private static final String[] NAMES = {"lay", "take", "nail", "board", "setDay", "slate", "place", "count",
        "lift", "storm", "bears", "comes", "leaks", "needs", "best", "pass", "foresee", "share", "digest"};
    /** How often each call comes, by its place in NAMES. */
    private static final int[][] OFTEN = {
        {60, 8, 6, 3, 4, 6, 4, 4, 4, 6, 3, 3, 3, 6, 3, 3, 3, 1, 2},
        {60, 3, 3, 3, 12, 5, 3, 3, 4, 8, 4, 3, 2, 4, 2, 16, 6, 1, 2},
        {90, 20, 2, 1, 1, 2, 2, 2, 2, 3, 1, 1, 1, 3, 1, 1, 1, 1, 2},
        {90, 4, 2, 1, 3, 2, 2, 2, 2, 5, 2, 1, 2, 4, 2, 1, 4, 1, 2},
        {170, 150, 2, 1, 1, 2, 2, 2, 2, 2, 1, 1, 1, 3, 1, 1, 1, 1, 2}};
    /** Runs of these kinds, and of those behind them, lay and take what can be laid and taken. */
    private static final int FILLING = 3;
    private static final int TRIES = 40;

    private static long seed;

    /** A fixed row of numbers, so that each run of the test is the same one. */
    private static int next(int bound) {
        seed = seed * 6364136223846793005L + 1442695040888963407L;
        return (int) ((seed >>> 33) % bound);
    }

    private static int nearly(int least, int most) {
        int chance = next(60);
        if (chance == 0) {
            return least - 1;
        }
        if (chance == 1) {
            return most + 1;
        }
        if (chance == 2) {
            return new int[] {Integer.MIN_VALUE, Integer.MAX_VALUE, -7, 1 << 20}[next(4)];
        }
        return least + next(most - least + 1);
    }

    private static int call(int kind) {
        int[] often = OFTEN[kind];
        int all = 0;
        for (int o : often) {
            all += o;
        }
        int left = next(all);
        int which = 0;
        while (left >= often[which]) {
            left -= often[which];
            which++;
        }
        return which;
    }

    private static int force(int kind) {
        return kind == 1 ? nearly(0, 20) : nearly(0, next(4) == 0 ? 20 : 5);
    }

    /** A place where a small slate can be laid, if there is one and it is soon found. */
    private static int[] freePlace(Model m) {
        int[] a = new int[4];
        for (int i = 0; i < TRIES; i++) {
            a = new int[] {nearly(0, 7), nearly(0, 11), next(4) == 0 ? 2 : 1, nearly(1, 3)};
            if (m.inRow(a[0], a[1], a[2]).isEmpty() && m.inRow(a[0] + 1, a[1], a[2]).isEmpty()) {
                return a;
            }
        }
        return a;
    }

    private static int openSlate(Model m) {
        for (int i = 0; i < TRIES && !m.tiles.isEmpty(); i++) {
            Tile t = m.tiles.get(next(m.tiles.size()));
            if (t.there && m.upon(t).isEmpty()) {
                return t.number;
            }
        }
        return nearly(0, m.tiles.size());
    }

    private static int[] arguments(int which, int kind, Model m) {
        int some = Math.max(m.tiles.size() - 1, 0);
        int right = next(2);
        switch (NAMES[which]) {
            case "lay":
                return kind >= FILLING ? freePlace(m) : new int[] {
                    next(3) == 0 ? nearly(0, 7) : nearly(0, Math.min(7, next(8))), nearly(0, 11),
                    kind == 2 ? nearly(1, 2) : nearly(1, 4), nearly(1, 3)};
            case "take":
                return new int[] {kind >= FILLING ? openSlate(m) : nearly(0, some)};
            case "nail":
                return new int[] {nearly(0, some), nearly(1, 3)};
            case "board":
                return new int[] {nearly(0, 11), nearly(0, 7)};
            case "setDay":
                return new int[] {nearly(0, 6), force(kind) * (kind == 1 || next(3) == 0 ? 1 : 0), right,
                    next(2) * nearly(0, 9), nearly(0, 9)};
            case "slate":
                return new int[] {nearly(0, some), nearly(0, 7)};
            case "place":
                return new int[] {nearly(0, 11), nearly(0, 7), nearly(0, 2)};
            case "count":
                return new int[] {nearly(0, 6)};
            case "lift":
                return new int[] {nearly(0, some), nearly(0, 20), right};
            case "storm":
                return new int[] {force(kind), right, nearly(0, 2)};
            case "bears":
                return new int[] {right};
            case "comes":
                return new int[] {nearly(0, 9), nearly(0, 11), nearly(0, 7)};
            case "leaks":
                return new int[] {nearly(0, 9)};
            case "needs":
                return new int[] {nearly(0, 7), nearly(0, 11), nearly(1, 4)};
            case "pass":
                return new int[] {next(8) == 0 ? nearly(1, 60) : nearly(1, 3)};
            case "foresee":
                return new int[] {next(8) == 0 ? nearly(1, 60) : nearly(1, 9), nearly(0, 2)};
            default:
                return new int[0];
        }
    }

    private static String made(SlateRoofs r, int which, int[] a) {
        return NAMES[which].equals("share") ? "" + r.share() : outcome(() -> answer(r, which, a));
    }

    private static long answer(SlateRoofs r, int which, int[] a) {
        switch (NAMES[which]) {
            case "lay": return r.lay(a[0], a[1], a[2], a[3]);
            case "take": return r.take(a[0]);
            case "nail": return r.nail(a[0], a[1]);
            case "board": return r.board(a[0], a[1]);
            case "setDay": return r.setDay(a[0], a[1], a[2] == 1, a[3], a[4]);
            case "slate": return r.slate(a[0], a[1]);
            case "place": return r.place(a[0], a[1], a[2]);
            case "count": return r.count(a[0]);
            case "lift": return r.lift(a[0], a[1], a[2] == 1);
            case "storm": return r.storm(a[0], a[1] == 1, a[2]);
            case "bears": return r.bears(a[0] == 1);
            case "comes": return r.comes(a[0], a[1], a[2]);
            case "leaks": return r.leaks(a[0]);
            case "needs": return r.needs(a[0], a[1], a[2]);
            case "best": return r.best();
            case "pass": return r.pass(a[0]);
            case "foresee": return r.foresee(a[0], a[1]);
            default: return r.digest();
        }
    }

    private static boolean off(int n, int least, int most) {
        return n < least || n > most;
    }

    private static boolean offPart(int row, int from, int wide) {
        return off(row, 0, 7) || off(from, 0, 11) || off(wide, 1, 4) || from + wide > 12;
    }

    private static String due(Model m, int which, int[] a) {
        if (which < 5) {
            return dueChange(m, which, a);
        }
        int known = m.tiles.size() - 1;
        switch (NAMES[which]) {
            case "slate":
                return off(a[0], 0, known) || off(a[1], 0, 7) ? INDEX : "" + m.tell(m.tiles.get(a[0]), a[1]);
            case "place":
                return off(a[0], 0, 11) || off(a[1], 0, 7) || off(a[2], 0, 2) ? INDEX
                    : "" + m.tellPlace(a[0], a[1], a[2]);
            case "count":
                return off(a[0], 0, 6) ? INDEX : "" + m.count(a[0]);
            case "lift":
                if (off(a[0], 0, known) || off(a[1], 0, 20)) {
                    return off(a[0], 0, known) ? INDEX : ARGUMENT;
                }
                Tile t = m.tiles.get(a[0]);
                return t.there ? "" + m.lift(t, a[1], a[2] == 1) : STATE;
            case "storm":
                if (off(a[0], 0, 20) || off(a[2], 0, 2)) {
                    return off(a[0], 0, 20) ? ARGUMENT : INDEX;
                }
                Model s = m.copy();
                int taken = s.storm(a[0], a[1] == 1);
                return "" + new int[] {taken, s.rounds, s.allCovered()}[a[2]];
            case "bears":
                int force = 0;
                while (force < 20 && m.copy().storm(force + 1, a[0] == 1) == 0) {
                    force++;
                }
                return "" + force;
            case "comes":
                return off(a[0], 0, 9) ? ARGUMENT : off(a[1], 0, 11) || off(a[2], 0, 7) ? INDEX
                    : "" + m.comes(a[0], a[1], a[2]);
            case "leaks":
                return off(a[0], 0, 9) ? ARGUMENT : "" + m.leaks(a[0]);
            case "needs":
                return offPart(a[0], a[1], a[2]) ? ARGUMENT : "" + m.needs(a[0], a[1], a[2]);
            case "best":
                return "" + m.best();
            case "pass":
                return off(a[0], 1, 60) ? ARGUMENT : "" + m.pass(a[0]);
            case "foresee":
                if (off(a[0], 1, 60) || off(a[1], 0, 2)) {
                    return off(a[0], 1, 60) ? ARGUMENT : INDEX;
                }
                Model later = m.copy();
                later.pass(a[0]);
                return "" + later.count(new int[] {2, 3, 6}[a[1]]);
            case "share":
                return "" + m.allCovered() / 96.0;
            default:
                return "" + m.digest();
        }
    }

    private static String dueChange(Model m, int which, int[] a) {
        int known = m.tiles.size() - 1;
        switch (NAMES[which]) {
            case "lay":
                if (offPart(a[0], a[1], a[2]) || off(a[3], 1, 3)) {
                    return ARGUMENT;
                }
                if (m.there().size() == 60 || m.tiles.size() == 200 || !m.inRow(a[0], a[1], a[2]).isEmpty()
                        || !m.inRow(a[0] + 1, a[1], a[2]).isEmpty()) {
                    return STATE;
                }
                return "" + m.add(a[0], a[1], a[2], a[3]).number;
            case "board":
                if (off(a[0], 0, 11) || off(a[1], 0, 7)) {
                    return INDEX;
                }
                if (m.at(a[0], a[1]) != null) {
                    return STATE;
                }
                int rot = m.rot[a[1]][a[0]];
                m.rot[a[1]][a[0]] = 0;
                return "" + rot;
            case "setDay":
                if (off(a[0], 0, 6)) {
                    return INDEX;
                }
                if (off(a[1], 0, 20) || off(a[3], 0, 9) || off(a[4], 0, 9)) {
                    return ARGUMENT;
                }
                int[] old = m.table[a[0]];
                m.table[a[0]] = new int[] {a[1], a[2], a[3], a[4]};
                return "" + (100 * old[0] + 10 * old[2] + old[3]);
            default:
                if (off(a[0], 0, known)) {
                    return INDEX;
                }
                boolean nails = NAMES[which].equals("nail");
                if (nails && off(a[1], 1, 3)) {
                    return ARGUMENT;
                }
                Tile t = m.tiles.get(a[0]);
                if (!t.there || !m.upon(t).isEmpty()) {
                    return STATE;
                }
                int before = t.nails;
                t.nails = nails ? a[1] : before;
                t.there = nails;
                return "" + before;
        }
    }

    private static String told(int which, int[] a) {
        StringBuilder text = new StringBuilder(NAMES[which]).append('(');
        for (int i = 0; i < a.length; i++) {
            text.append(i == 0 ? "" : ", ").append(a[i]);
        }
        return text.append(')').toString();
    }

    /** Plays a run up to its first wrong answer. */
    private static boolean isAsDue(int run, int[] most) {
        seed = 1000003L * run + 17;
        SlateRoofs roof = new SlateRoofs();
        Model model = new Model();
        for (int i = 0; i < CALLS; i++) {
            int which = call(run % OFTEN.length);
            int[] a = arguments(which, run % OFTEN.length, model);
            String got = made(roof, which, a);
            String want = due(model, which, a);
            if (!got.equals(want)) {
                System.out.println("run " + run + ", call " + i + ": " + told(which, a) + " answered " + got
                    + ", due is " + want);
                return false;
            }
            if (i % 8 == 0 && roof.digest() != model.digest()) {
                System.out.println("run " + run + ", call " + i + ": the digest is wrong behind " + told(which, a));
                return false;
            }
            most[0] = Math.max(most[0], model.there().size());
            most[1] = Math.max(most[1], model.tiles.size());
            most[2] = Math.max(most[2], model.count(3));
        }
        return true;
    }

    public static void main(String[] args) {
        int wrong = 0;
        int[] most = new int[3];
        for (int run = 0; run < RUNS; run++) {
            wrong += isAsDue(run, most) ? 0 : 1;
        }
        System.out.println(RUNS + " runs, " + wrong + " not as due; at most " + most[0] + " slates on a roof, "
            + most[1] + " laid, " + most[2] + " cracked");
        if (wrong != 0) {
            System.exit(1);
        }
    }
}
