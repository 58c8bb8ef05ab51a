/** Each sentence of the document's promises that names a boundary case has a test here, headed by its words. */
public final class EdgeTests extends Checks {
    private static final int[] NO_ROWS = outside(0, 7);
    private static final int[] NO_XS = outside(0, 11);
    private static final int[] NO_WIDES = outside(1, 4);
    private static final int[] NO_NAILS = outside(1, 3);
    private static final int[] NO_FORCES = outside(0, 20);
    private static final int[] NO_SIZES = outside(0, 9);
    private static final int[] NO_DAYS = outside(1, 60);

    /** Behind two days of bad weather: of five slates two are gone, and two are cracked. */
    private static SlateRoofs weathered() {
        SlateRoofs roof = small();
        roof.lay(7, 0, 4, 1);
        weather(roof, 1, true, 6, 9);
        roof.pass(2);
        return roof;
    }

    /** Empty, with some slates, full, with no number left, and behind bad weather. */
    private static SlateRoofs[] roofs() {
        return new SlateRoofs[] {new SlateRoofs(), small(), full(), spent(), weathered()};
    }

    private interface RoofCall {
        long answer(SlateRoofs roof, int given);
    }

    /** Refused for each of the numbers, on a roof of each kind. */
    private static void refusesAll(String call, String want, int[] given, RoofCall made) {
        for (SlateRoofs roof : roofs()) {
            for (int g : given) {
                refuses(roof, call + " with " + g, want, () -> made.answer(roof, g));
            }
        }
    }

    /** On a roof of each kind, numbers of slates that there are not. */
    private static void refusesNoSlate(String call, RoofCall made) {
        for (SlateRoofs roof : roofs()) {
            for (int g : outside(0, roof.count(1) - 1)) {
                refuses(roof, call + " with the slate " + g, INDEX, () -> made.answer(roof, g));
            }
        }
    }

    // ---- promise 1

    private static void newRoof() {
        head("1: Creates a roof without slates, on the day 0");
        SlateRoofs roof = new SlateRoofs();
        for (int what = 0; what <= 6; what++) {
            due("count(" + what + ")", roof.count(what), 0);
        }
        for (int i = 0; i < 96; i++) {
            due("no slate at the place " + i, roof.place(i % 12, i / 12, 0), -1);
        }
        due("storm takes", roof.storm(20, true, 0), 0);
        due("bears", roof.bears(true), 20);
        due("leaks", roof.leaks(9), 12 * 121);
        due("needs", roof.needs(0, 0, 4), 0);
        due("best", roof.best(), 400);
        due("foresee", roof.foresee(60, 0), 0);
        dueExactly("share", roof.share(), 0.0);
        refuses(roof, "take(0)", INDEX, () -> roof.take(0));
        refuses(roof, "nail(0, 1)", INDEX, () -> roof.nail(0, 1));
        refuses(roof, "slate(0, 0)", INDEX, () -> roof.slate(0, 0));
        refuses(roof, "lift(0, 0, ..)", INDEX, () -> roof.lift(0, 0, true));
        due("pass", roof.pass(60), 0);
    }

    // ---- promise 2

    private static void layArguments() {
        head("2: IllegalArgumentException if the row is not 0 to 7");
        refusesAll("lay row", ARGUMENT, NO_ROWS, (r, g) -> r.lay(g, 0, 1, 1));
        due("row 0", new SlateRoofs().lay(0, 0, 1, 1), 0);
        due("row 7", new SlateRoofs().lay(7, 0, 1, 1), 0);
        head("2: from is not 0 to 11");
        refusesAll("lay from", ARGUMENT, NO_XS, (r, g) -> r.lay(7, g, 1, 1));
        due("from 0", new SlateRoofs().lay(3, 0, 1, 1), 0);
        due("from 11", new SlateRoofs().lay(3, 11, 1, 1), 0);
        head("2: wide is not 1 to 4");
        refusesAll("lay wide", ARGUMENT, NO_WIDES, (r, g) -> r.lay(7, 0, g, 1));
        refusesAll("lay wide at the right edge", ARGUMENT, NO_WIDES, (r, g) -> r.lay(7, 11, g, 1));
        due("wide 1", new SlateRoofs().lay(3, 5, 1, 1), 0);
        due("wide 4", new SlateRoofs().lay(3, 5, 4, 1), 0);
        head("2: nails is not 1 to 3");
        refusesAll("lay nails", ARGUMENT, NO_NAILS, (r, g) -> r.lay(7, 0, 1, g));
        due("1 nail", new SlateRoofs().lay(3, 5, 1, 1), 0);
        due("3 nails", new SlateRoofs().lay(3, 5, 1, 3), 0);
    }

    private static void layMoreThanPlaces() {
        head("2: wide is .. more than there are places from there on");
        for (int from = 0; from < 12; from++) {
            for (int wide = 1; wide <= 4; wide++) {
                SlateRoofs roof = new SlateRoofs();
                int first = from;
                int width = wide;
                due("lay from " + from + ", wide " + wide,
                    yes(outcome(() -> roof.lay(3, first, width, 1)).equals(ARGUMENT)), yes(from + wide > 12));
                due("needs from " + from + ", wide " + wide,
                    yes(outcome(() -> roof.needs(3, first, width)).equals(ARGUMENT)), yes(from + wide > 12));
            }
        }
        SlateRoofs roof = new SlateRoofs();
        int far = Integer.MAX_VALUE;
        refuses(roof, "a sum that wraps around", ARGUMENT, () -> roof.lay(0, far, far, 1));
        refuses(roof, "a sum that wraps around to 0", ARGUMENT, () -> roof.lay(0, far, -far, 1));
    }

    private static void layStates() {
        head("2: IllegalStateException if there are 60, or there were 200");
        SlateRoofs sixty = full();
        refuses(sixty, "lay where all is free", STATE, () -> sixty.lay(7, 8, 4, 1));
        due("59 as one is taken up", sixty.take(48), 1);
        due("lay the 60th one again", sixty.lay(4, 0, 1, 1), 60);
        SlateRoofs all = spent();
        refuses(all, "lay when there were 200", STATE, () -> all.lay(0, 0, 4, 1));
        head("2: a slate of the row is at one of its places, or one would lie upon it");
        for (int from = 0; from <= 8; from++) {
            boolean meets = from <= 4 && from + 4 > 4;
            due("in its row from " + from, yes(isInTheWay(4, from)), yes(meets));
            due("below it from " + from, yes(isInTheWay(3, from)), yes(meets));
            due("two rows below it from " + from, yes(isInTheWay(2, from)), 0);
            due("upon it from " + from, yes(isInTheWay(5, from)), 0);
        }
    }

    /** Whether a slate in row 4 at the place 4 keeps one from being laid that is 4 wide. */
    private static boolean isInTheWay(int row, int from) {
        SlateRoofs roof = roofOf(4, 4, 1, 1);
        return outcome(() -> roof.lay(row, from, 4, 1)).equals(STATE);
    }

    // ---- promises 3 and 4

    private static void takeAndNailNoSlate() {
        head("3: IndexOutOfBoundsException if there is no such slate");
        refusesNoSlate("take", SlateRoofs::take);
        head("4: IndexOutOfBoundsException if there is no such slate");
        refusesNoSlate("nail", (r, g) -> r.nail(g, 1));
        head("4: IllegalArgumentException if nails is not 1 to 3");
        for (SlateRoofs roof : new SlateRoofs[] {small(), full(), spent(), weathered()}) {
            for (int nails : NO_NAILS) {
                refuses(roof, "nail(0, " + nails + ")", ARGUMENT, () -> roof.nail(0, nails));
            }
        }
        SlateRoofs roof = small();
        due("nail(3, 3)", roof.nail(3, 3), 1);
        due("nail(3, 1)", roof.nail(3, 1), 3);
        due("its nails", roof.slate(3, 3), 1);
        due("the nails of another one", roof.slate(2, 3), 3);
    }

    private static void takeAndNailOff() {
        head("3, 4: IllegalStateException if it is off the roof");
        SlateRoofs taken = roofOf(2, 2, 2, 2);
        due("take(0)", taken.take(0), 2);
        refuses(taken, "take it again", STATE, () -> taken.take(0));
        refuses(taken, "nail it", STATE, () -> taken.nail(0, 3));
        SlateRoofs blown = roofOf(7, 2, 2, 1);
        due("a storm takes it", stormOn(blown, 1, true), 1);
        refuses(blown, "take what a storm took", STATE, () -> blown.take(0));
        refuses(blown, "nail what a storm took", STATE, () -> blown.nail(0, 3));
        SlateRoofs all = spent();
        refuses(all, "take the last of 200", STATE, () -> all.take(199));
        refuses(all, "nail the last of 200", STATE, () -> all.nail(199, 3));
    }

    private static void takeAndNailBelow() {
        head("3, 4: IllegalStateException if one lies upon it");
        for (int from = 0; from <= 11; from++) {
            SlateRoofs roof = roofOf(3, 4, 3, 2, 4, from, 1, 2);
            boolean upon = from >= 4 && from <= 6;
            due("nail below one at " + from, yes(outcome(() -> roof.nail(0, 3)).equals(STATE)), yes(upon));
            due("take below one at " + from, yes(outcome(() -> roof.take(0)).equals(STATE)), yes(upon));
        }
        SlateRoofs cracked = roofOf(0, 0, 1, 3, 1, 0, 1, 1);
        hailOn(cracked, 5);
        due("the upper one is cracked", cracked.slate(1, 4), 1);
        refuses(cracked, "take below a cracked one", STATE, () -> cracked.take(0));
        refuses(cracked, "nail below a cracked one", STATE, () -> cracked.nail(0, 1));
        due("take the cracked one", cracked.take(1), 1);
        due("nail when it is gone", cracked.nail(0, 1), 3);
        due("take when it is gone", cracked.take(0), 1);
        SlateRoofs blown = roofOf(0, 0, 1, 3, 1, 0, 1, 1);
        due("a storm takes the upper one", stormOn(blown, 3, false), 1);
        due("take behind the storm", blown.take(0), 3);
    }

    // ---- promises 5 and 6

    private static void boardPlaces() {
        head("5: IndexOutOfBoundsException if x is not 0 to 11, or y is not 0 to 7");
        refusesAll("board x", INDEX, NO_XS, (r, g) -> r.board(g, 7));
        refusesAll("board y", INDEX, NO_ROWS, (r, g) -> r.board(11, g));
        SlateRoofs roof = rained(9, 9);
        int left = 96 * 9;
        for (int corner = 0; corner < 4; corner++) {
            int x = corner % 2 * 11;
            int y = corner / 2 * 7;
            due("board(" + x + ", " + y + ")", roof.board(x, y), 9);
            left -= 9;
            due("all rot", roof.count(6), left);
            due("board(" + x + ", " + y + ") again", roof.board(x, y), 0);
        }
        head("5: IllegalStateException if a slate of its row is there");
        roof.lay(3, 4, 3, 1);
        for (int x = 0; x < 12; x++) {
            int place = x;
            boolean there = x >= 4 && x <= 6;
            due("board at " + x, yes(outcome(() -> roof.board(place, 3)).equals(STATE)), yes(there));
            due("board below it at " + x, roof.board(x, 2), 9);
            due("board above it at " + x, roof.board(x, 4), 9);
        }
        due("the rot under the slate stays", roof.place(5, 3, 2), 9);
    }

    private static void setDayLimits() {
        head("6: IndexOutOfBoundsException if day is not 0 to 6");
        refusesAll("setDay day", INDEX, outside(0, 6), (r, g) -> r.setDay(g, 0, true, 0, 0));
        head("6: IllegalArgumentException if force is not 0 to 20, or hail or rain is not 0 to 9");
        refusesAll("setDay force", ARGUMENT, NO_FORCES, (r, g) -> r.setDay(6, g, true, 0, 0));
        refusesAll("setDay hail", ARGUMENT, NO_SIZES, (r, g) -> r.setDay(6, 0, true, g, 0));
        refusesAll("setDay rain", ARGUMENT, NO_SIZES, (r, g) -> r.setDay(6, 0, true, 0, g));
        head("6: Returns 100 * force + 10 * hail + rain, as they were before");
        SlateRoofs roof = new SlateRoofs();
        for (int day = 0; day < 7; day++) {
            due("setDay(" + day + ", the most)", roof.setDay(day, 20, true, 9, 9), 0);
            due("setDay(" + day + ", other ones)", roof.setDay(day, day, false, 9 - day, day + 1), 2099);
        }
        for (int day = 0; day < 7; day++) {
            due("setDay(" + day + ", the least)", roof.setDay(day, 0, false, 0, 0), 91 * day + 91);
        }
        due("no trace is left", roof.digest(), new SlateRoofs().digest());
    }

    // ---- promises 7 to 9

    private static void slateLimits() {
        head("7: IndexOutOfBoundsException if there is no such slate, or what is not 0 to 7");
        refusesNoSlate("slate", (r, g) -> r.slate(g, 0));
        for (SlateRoofs roof : new SlateRoofs[] {small(), full(), spent(), weathered()}) {
            for (int what : outside(0, 7)) {
                refuses(roof, "slate(0, " + what + ")", INDEX, () -> roof.slate(0, what));
            }
        }
        due("the last of 200", spent().slate(199, 1), 11);
        due("the last of 60 is on the roof", full().slate(59, 5), 1);
        due("the last of 200 is off", spent().slate(199, 5), 0);
        head("7: 6 and 7: 0 off the roof");
        SlateRoofs roof = roofOf(3, 4, 4, 3, 7, 0, 4, 1);
        roof.take(0);
        stormOn(roof, 1, false);
        due("laid in its stead", roof.lay(3, 4, 4, 2), 2);
        due("laid above it", roof.lay(4, 4, 4, 2), 3);
        for (int gone = 0; gone < 2; gone++) {
            due("on the roof", roof.slate(gone, 5), 0);
            due("hold", roof.slate(gone, 6), 0);
            due("upon it", roof.slate(gone, 7), 0);
        }
        due("hold of what is there", roof.slate(2, 6), 8);
        due("upon what is there", roof.slate(2, 7), 1);
    }

    private static void placeLimits() {
        head("8: IndexOutOfBoundsException if x is not 0 to 11, y is not 0 to 7, or what is not 0 to 2");
        refusesAll("place x", INDEX, NO_XS, (r, g) -> r.place(g, 0, 0));
        refusesAll("place y", INDEX, NO_ROWS, (r, g) -> r.place(0, g, 0));
        refusesAll("place what", INDEX, outside(0, 2), (r, g) -> r.place(0, 0, g));
        head("8: the slate of its row there, -1 for none");
        SlateRoofs roof = full();
        for (int i = 0; i < 96; i++) {
            due("place(" + i % 12 + ", " + i / 12 + ", 0)", roof.place(i % 12, i / 12, 0), i < 60 ? i : -1);
            due("place(" + i % 12 + ", " + i / 12 + ", 1)", roof.place(i % 12, i / 12, 1), yes(i < 60));
        }
        roof.take(59);
        due("of one that was taken up", roof.place(11, 4, 0), -1);
        due("of the one beside", roof.place(10, 4, 0), 58);
    }

    private static void countLimits() {
        head("9: IndexOutOfBoundsException if what is not 0 to 6");
        refusesAll("count", INDEX, outside(0, 6), SlateRoofs::count);
        head("9: what it counts, empty and full");
        int[][] want = {{0, 0, 0, 0, 0, 0, 0}, {0, 4, 4, 0, 13, 0, 0}, {0, 60, 60, 0, 60, 0, 0},
            {0, 200, 0, 0, 0, 0, 0}, {2, 5, 3, 2, 8, 2, 176}};
        SlateRoofs[] roofs = roofs();
        for (int kind = 0; kind < roofs.length; kind++) {
            for (int what = 0; what < 7; what++) {
                due("count(" + what + ") of the kind " + kind, roofs[kind].count(what), want[kind][what]);
            }
        }
        due("all places are covered", covered().count(4), 96);
        due("all rot at its most", rained(9, 60).count(6), 96 * 9);
        SlateRoofs off = roofOf(7, 0, 4, 1);
        hailOn(off, 9);
        due("a cracked one", off.count(3), 1);
        off.take(0);
        due("a cracked one off the roof", off.count(3), 0);
        due("taken up, not by a storm", off.count(5), 0);
    }

    // ---- promises 10 to 12

    private static void liftLimits() {
        head("10: IndexOutOfBoundsException if there is no such slate");
        refusesNoSlate("lift", (r, g) -> r.lift(g, 0, true));
        head("10: IllegalArgumentException if force is not 0 to 20");
        for (SlateRoofs roof : new SlateRoofs[] {small(), full(), spent(), weathered()}) {
            for (int force : NO_FORCES) {
                refuses(roof, "lift(0, " + force + ", ..)", ARGUMENT, () -> roof.lift(0, force, false));
            }
        }
        head("10: IllegalStateException if it is off the roof");
        SlateRoofs all = spent();
        refuses(all, "lift(0, 0, ..)", STATE, () -> all.lift(0, 0, false));
        refuses(all, "lift(199, 20, ..)", STATE, () -> all.lift(199, 20, true));
        SlateRoofs blown = weathered();
        refuses(blown, "lift of what a storm took", STATE, () -> blown.lift(4, 20, true));
        head("10: Returns its lift");
        due("the least", small().lift(1, 0, false), -2);
        due("the greatest", roofOf(7, 0, 4, 3).lift(0, 20, false), 27);
    }

    private static void stormLimits() {
        head("11: IllegalArgumentException if force is not 0 to 20");
        refusesAll("storm force", ARGUMENT, NO_FORCES, (r, g) -> r.storm(g, false, 0));
        head("11: IndexOutOfBoundsException if what is not 0 to 2");
        refusesAll("storm what", INDEX, outside(0, 2), (r, g) -> r.storm(20, false, g));
        head("11: its rounds (also the last one, in which it takes none; 0 with a force of 0)");
        for (SlateRoofs roof : roofs()) {
            due("force 0 takes", roof.storm(0, true, 0), 0);
            due("force 0, rounds", roof.storm(0, true, 1), 0);
            due("force 0, covered", roof.storm(0, true, 2), roof.count(4));
            due("force 20 takes", roof.storm(20, true, 0), roof.count(2));
            due("force 20, rounds", yes(roof.storm(20, true, 1) >= 2), yes(roof.count(2) > 0));
            due("force 20, covered", roof.storm(20, true, 2), 0);
        }
        due("a bare roof, rounds", new SlateRoofs().storm(20, false, 1), 1);
        due("none goes, rounds", small().storm(1, false, 1), 1);
        due("each goes in the first round, rounds", roofOf(7, 0, 1, 1, 7, 2, 1, 1).storm(1, false, 1), 2);
    }

    private static void stormOfSixty() {
        head("11: slates that it would take: 60 of them");
        SlateRoofs roof = full();
        due("force 20 takes", roof.storm(20, false, 0), 60);
        changesNothing(roof, "storm", () -> roof.storm(20, false, 1));
        due("they are there still", roof.count(2), 60);
        due("the day of it", stormOn(roof, 20, false), 60);
        due("taken by storms", roof.count(5), 60);
        due("one more of it takes", roof.storm(20, false, 0), 0);
        due("the numbers go on", roof.lay(0, 0, 1, 1), 60);
    }

    private static void bearsLimits() {
        head("12: Returns the greatest force, 0 to 20, up to which no storm takes a slate");
        due("20 on a bare roof", new SlateRoofs().bears(false), 20);
        due("20 when all are off", spent().bears(true), 20);
        due("0 when 1 takes one", roofOf(7, 0, 4, 1).bears(false), 0);
        SlateRoofs cracked = roofOf(7, 0, 4, 3);
        due("2 at the ridge", cracked.bears(true), 2);
        hailOn(cracked, 9);
        due("0 when it is cracked", cracked.bears(true), 0);
        due("none goes without a force", cracked.storm(0, true, 0), 0);
        for (SlateRoofs roof : roofs()) {
            for (int side = 0; side < 2; side++) {
                boolean right = side == 1;
                int most = roof.bears(right);
                due("that force takes", roof.storm(most, right, 0), 0);
                due("one more takes", yes(most == 20 || roof.storm(most + 1, right, 0) > 0), 1);
                changesNothing(roof, "bears", () -> roof.bears(right));
            }
        }
    }

    // ---- promises 13 to 16

    private static void comesAndLeaksLimits() {
        head("13: IllegalArgumentException if rain is not 0 to 9");
        refusesAll("comes rain", ARGUMENT, NO_SIZES, (r, g) -> r.comes(g, 0, 0));
        head("13: IndexOutOfBoundsException if x is not 0 to 11, or y is not 0 to 7");
        refusesAll("comes x", INDEX, NO_XS, (r, g) -> r.comes(9, g, 0));
        refusesAll("comes y", INDEX, NO_ROWS, (r, g) -> r.comes(9, 0, g));
        head("14: IllegalArgumentException if rain is not 0 to 9");
        refusesAll("leaks", ARGUMENT, NO_SIZES, SlateRoofs::leaks);
        head("14: Returns how much comes in at all places, added");
        int[] bare = {0, 8, 23, 37, 52, 65, 80, 94, 109, 121};
        for (int rain = 0; rain <= 9; rain++) {
            due("leaks(" + rain + ") of a bare roof", new SlateRoofs().leaks(rain), 12 * bare[rain]);
            due("leaks(" + rain + ") of a covered roof", covered().leaks(rain), 0);
        }
        due("leaks(0) of a roof behind bad weather", weathered().leaks(0), 0);
    }

    private static void needsLimits() {
        head("15: IllegalArgumentException if the row is not 0 to 7, from is not 0 to 11, or wide is not 1 to 4");
        refusesAll("needs row", ARGUMENT, NO_ROWS, (r, g) -> r.needs(g, 0, 1));
        refusesAll("needs from", ARGUMENT, NO_XS, (r, g) -> r.needs(0, g, 1));
        refusesAll("needs wide", ARGUMENT, NO_WIDES, (r, g) -> r.needs(0, 0, g));
        head("15: or more than there are places from there on");
        SlateRoofs roof = full();
        for (int wide = 2; wide <= 4; wide++) {
            int width = wide;
            refuses(roof, "needs at the right edge", ARGUMENT, () -> roof.needs(7, 13 - width, width));
            due("needs just within", roof.needs(0, 12 - wide, wide), 5 * wide);
        }
        int far = Integer.MAX_VALUE;
        refuses(roof, "a sum that wraps around", ARGUMENT, () -> roof.needs(0, far, far));
        head("15: those of its row that have a place in common with it, those that would lie upon it");
        for (int from = 0; from <= 8; from++) {
            SlateRoofs one = roofOf(4, 4, 1, 1);
            boolean meets = from <= 4 && from + 4 > 4;
            due("in its row from " + from, one.needs(4, from, 4), yes(meets));
            due("below it from " + from, one.needs(3, from, 4), yes(meets));
            due("two rows below it from " + from, one.needs(2, from, 4), 0);
            due("upon it from " + from, one.needs(5, from, 4), 0);
        }
        due("at the ridge", roofOf(7, 0, 4, 1, 7, 4, 4, 1).needs(7, 2, 4), 2);
    }

    /** Each one lies upon the one before it by a single place, now to the right and now to the left. */
    private static void needsInAChain() {
        head("15: and those that lie upon one that has to be taken up");
        SlateRoofs right = roofOf(0, 0, 1, 1, 1, 0, 4, 1, 2, 3, 4, 1, 3, 6, 4, 1, 4, 9, 3, 1, 5, 11, 1, 1);
        right.lay(5, 0, 4, 1);
        right.lay(6, 11, 1, 1);
        right.lay(7, 10, 2, 1);
        due("up to the ridge", right.needs(0, 0, 1), 8);
        due("from what would lie upon it", right.needs(0, 2, 1), 7);
        due("from the middle on", right.needs(3, 9, 1), 5);
        due("what lies on none of these", right.needs(5, 0, 1), 1);
        right.take(8);
        due("without the highest one", right.needs(0, 0, 1), 7);
        due("straight up at the left edge", full().needs(0, 0, 1), 5);
        due("straight up at the right edge", full().needs(0, 11, 1), 5);
        SlateRoofs left = roofOf(0, 11, 1, 1, 1, 8, 4, 1, 2, 5, 4, 1, 3, 2, 4, 1, 4, 0, 3, 1);
        due("to the left", left.needs(0, 11, 1), 5);
        SlateRoofs fan = roofOf(0, 0, 4, 1, 1, 0, 2, 1, 1, 2, 2, 1, 2, 1, 2, 1);
        due("one that lies upon two is one", fan.needs(0, 0, 1), 4);
        changesNothing(fan, "needs", () -> fan.needs(0, 0, 4));
        hailOn(fan, 9);
        due("cracked ones too", fan.needs(0, 0, 1), 4);
    }

    private static void bestLimits() {
        head("16: as lay() allows it, but however many slates there are or were");
        due("with 60", full().best(), 600);
        due("with 200 laid", spent().best(), 400);
        SlateRoofs ridge = new SlateRoofs();
        layRow(ridge, 7, 1);
        due("not where one would lie upon it", ridge.best(), 300);
        SlateRoofs partly = roofOf(4, 2, 1, 1, 4, 6, 1, 1);
        due("not where one of its row is", partly.best(), 407);
        head("16: of several the least number");
        due("the least place", new SlateRoofs().best(), 400);
        due("the least row", full().best(), 600);
        SlateRoofs ends = new SlateRoofs();
        for (int row = 2; row <= 6; row += 2) {
            layRow(ends, row, 1);
        }
        due("the eaves, and not the ridge", ends.best(), 0);
        ends.lay(0, 3, 1, 1);
        due("further on at the eaves", ends.best(), 4);
        due("the last place alone", roofOf(4, 7, 1, 1, 4, 3, 1, 1).best(), 408);
        SlateRoofs bared = covered();
        due("nothing comes in", bared.leaks(9), 0);
        bared.take(bared.place(4, 7, 0));
        due("when one was taken up since", bared.best(), 704);
        head("16: -1 if it can be laid nowhere, or none makes it less");
        due("nothing comes in", covered().best(), -1);
        SlateRoofs narrow = new SlateRoofs();
        for (int row = 0; row < 8; row++) {
            for (int x = 2; x < 12; x += 4) {
                narrow.lay(row, x, 1, 1);
            }
        }
        due("three free places side by side", narrow.best(), -1);
        due("where it rains in", yes(narrow.leaks(9) > 0), 1);
        narrow.take(narrow.place(10, 7, 0));
        due("five of them at the ridge", narrow.best(), 707);
        changesNothing(narrow, "best", () -> narrow.best());
    }

    // ---- promises 17 to 20

    private static void passAndForeseeLimits() {
        head("17: IllegalArgumentException if days is not 1 to 60");
        refusesAll("pass", ARGUMENT, NO_DAYS, SlateRoofs::pass);
        head("18: IllegalArgumentException if days is not 1 to 60");
        refusesAll("foresee days", ARGUMENT, NO_DAYS, (r, g) -> r.foresee(g, 0));
        head("18: IndexOutOfBoundsException if what is not 0 to 2");
        refusesAll("foresee what", INDEX, outside(0, 2), (r, g) -> r.foresee(60, g));
        head("17, 18: the least and the most days");
        SlateRoofs roof = new SlateRoofs();
        due("pass(1)", roof.pass(1), 0);
        due("the day", roof.count(0), 1);
        due("pass(60)", roof.pass(60), 0);
        due("the day", roof.count(0), 61);
        SlateRoofs wet = new SlateRoofs();
        wet.setDay(3, 0, false, 0, 9);
        int[] days = {1, 3, 4, 10, 11, 59, 60};
        int[] rains = {0, 0, 1, 1, 2, 8, 9};
        for (int i = 0; i < days.length; i++) {
            due("foresee(" + days[i] + ", 2)", wet.foresee(days[i], 2), 96 * rains[i]);
        }
        due("foreseen days do not go by", wet.count(0), 0);
    }

    private static void passTellsTheseDays() {
        head("17: Returns how many slates storms take in them");
        SlateRoofs roof = roofOf(0, 0, 1, 1, 0, 2, 1, 2, 0, 4, 1, 3);
        roof.setDay(1, 4, true, 0, 0);
        roof.setDay(2, 7, false, 0, 0);
        roof.setDay(6, 9, false, 0, 0);
        due("the first day", roof.pass(1), 0);
        due("two days", roof.pass(2), 2);
        due("a week, and none goes", roof.pass(7), 0);
        roof.setDay(6, 10, false, 0, 0);
        due("up to a stronger one", roof.pass(3), 0);
        due("from it on", roof.pass(60), 1);
        due("when all are gone", roof.pass(60), 0);
        due("storms took in all", roof.count(5), 3);
    }

    private static void foreseeChangesNothing() {
        head("18: Returns this, if nothing is done (nothing is changed)");
        for (SlateRoofs roof : roofs()) {
            for (int what = 0; what < 3; what++) {
                int asked = what;
                int before = roof.foresee(7, what);
                changesNothing(roof, "foresee", () -> roof.foresee(60, asked));
                roof.storm(20, true, 0);
                roof.needs(0, 0, 4);
                roof.best();
                due("asked once more behind other questions", roof.foresee(7, what), before);
            }
        }
        int[] counted = {2, 3, 6};
        for (int kind = 0; kind < 5; kind++) {
            SlateRoofs roof = roofs()[kind];
            weather(roof, 3, true, 5, 4);
            int[] told = {roof.foresee(60, 0), roof.foresee(60, 1), roof.foresee(60, 2)};
            roof.pass(60);
            for (int what = 0; what < 3; what++) {
                due("what then is, kind " + kind + ", " + what, told[what], roof.count(counted[what]));
            }
        }
    }

    private static void shareLimits() {
        head("19: Returns places that are covered, divided by all places");
        dueExactly("none", new SlateRoofs().share(), 0.0);
        dueExactly("none when all are off", spent().share(), 0.0);
        dueExactly("one at the eaves", roofOf(0, 0, 1, 1).share(), 1.0 / 96);
        dueExactly("60", full().share(), 0.625);
        SlateRoofs roof = covered();
        dueExactly("all", roof.share(), 1.0);
        roof.take(roof.place(11, 7, 0));
        dueExactly("all but 8", roof.share(), 88.0 / 96);
    }

    private static void digestOfKinds() {
        head("20: Computes a checksum");
        SlateRoofs[] roofs = roofs();
        for (int i = 0; i < roofs.length; i++) {
            due("the same calls, the same digest", roofs[i].digest(), roofs()[i].digest());
            changesNothing(roofs[i], "digest", roofs[i]::digest);
            for (int k = 0; k < i; k++) {
                due("other calls, another digest", yes(roofs[i].digest() == roofs[k].digest()), 0);
            }
        }
        SlateRoofs right = new SlateRoofs();
        right.setDay(6, 0, true, 0, 0);
        due("the side of the last day", right.digest() - new SlateRoofs().digest(), 1);
        SlateRoofs rain = new SlateRoofs();
        rain.setDay(6, 1, false, 2, 3);
        due("the last day's weather", rain.digest() - new SlateRoofs().digest(), 31 * 123);
    }

    public static void main(String[] args) {
        newRoof();
        layArguments();
        layMoreThanPlaces();
        layStates();
        takeAndNailNoSlate();
        takeAndNailOff();
        takeAndNailBelow();
        boardPlaces();
        setDayLimits();
        slateLimits();
        placeLimits();
        countLimits();
        liftLimits();
        stormLimits();
        stormOfSixty();
        bearsLimits();
        comesAndLeaksLimits();
        needsLimits();
        needsInAChain();
        bestLimits();
        passAndForeseeLimits();
        passTellsTheseDays();
        foreseeChangesNothing();
        shareLimits();
        digestOfKinds();
        finish();
    }
}
