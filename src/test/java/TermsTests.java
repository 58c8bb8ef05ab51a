import java.math.BigInteger;

/** Each sentence of the document's Terms that names a boundary case has a test here, headed by its words. */
public final class TermsTests extends Checks {
    /** What comes in at the rows 7 to 0 of a bare roof, for each rain. */
    private static final int[][] BARE = {
        {0, 0, 0, 0, 0, 0, 0, 0}, {1, 1, 1, 1, 1, 1, 1, 1}, {2, 3, 3, 3, 3, 3, 3, 3}, {3, 4, 5, 5, 5, 5, 5, 5},
        {4, 6, 7, 7, 7, 7, 7, 7}, {5, 7, 8, 9, 9, 9, 9, 9}, {6, 9, 10, 11, 11, 11, 11, 11},
        {7, 10, 12, 13, 13, 13, 13, 13}, {8, 12, 14, 15, 15, 15, 15, 15}, {9, 13, 15, 16, 17, 17, 17, 17}};

    // ---- roof and slates

    private static void callsOfAnObject() {
        head("An object is used for at most 512 calls");
        SlateRoofs roof = new SlateRoofs();
        for (int i = 0; i < 508; i++) {
            roof.pass(60);
        }
        due("the 509th call", roof.count(0), 508 * 60);
        due("the 510th call", roof.lay(7, 11, 1, 3), 0);
        due("the 511th call", roof.foresee(60, 0), 1);
        due("the 512th call", roof.take(0), 3);
    }

    private static void widthAndHeight() {
        head("It is 12 places wide, x from 0 (left) to 11, and 8 rows high, y from 0 to 7");
        SlateRoofs corners = roofOf(0, 0, 1, 1, 0, 11, 1, 1, 7, 0, 1, 1, 7, 11, 1, 1);
        due("left at the eaves", corners.place(0, 0, 0), 0);
        due("right at the eaves", corners.place(11, 0, 0), 1);
        due("left at the ridge", corners.place(0, 7, 0), 2);
        due("right at the ridge", corners.place(11, 7, 0), 3);
        due("the first place is at the left", corners.lift(0, 9, false), 9);
        due("covered at the eaves, and at the ridge and below it", corners.count(4), 6);
    }

    private static void rotAtFirstAndAtMost() {
        head("Each place has rot, 0 to 9 (0, at first)");
        for (int i = 0; i < 96; i++) {
            due("rot at first", new SlateRoofs().place(i % 12, i / 12, 2), 0);
        }
        SlateRoofs roof = new SlateRoofs();
        weather(roof, 0, false, 0, 9);
        for (int day = 1; day <= 12; day++) {
            roof.pass(1);
            due("rot at the ridge behind " + day + " days", roof.place(0, 7, 2), Math.min(day, 9));
            due("rot at the eaves behind " + day + " days", roof.place(11, 0, 2), Math.min(day, 9));
            due("all rot behind " + day + " days", roof.count(6), 96 * Math.min(day, 9));
        }
    }

    private static void sixtyOnTheRoof() {
        head("At most 60 are on the roof");
        SlateRoofs roof = full();
        due("60 of them", roof.count(2), 60);
        refuses(roof, "lay the 61st one", STATE, () -> roof.lay(5, 0, 1, 1));
        refuses(roof, "lay the 61st one, far from the others", STATE, () -> roof.lay(7, 8, 4, 3));
        roof.take(59);
        due("lay when one was taken up", roof.lay(7, 8, 4, 3), 60);
        refuses(roof, "lay with 60 again", STATE, () -> roof.lay(4, 11, 1, 1));
        SlateRoofs blown = full();
        due("a storm takes the upper row", stormOn(blown, 3, false), 12 * 4);
        due("12 are left", blown.count(2), 12);
        due("lay behind a storm", blown.lay(7, 0, 4, 1), 60);
    }

    private static void twoHundredInAll() {
        head("they are numbered from 0 in the order of their laying, at most 200 in all");
        SlateRoofs roof = new SlateRoofs();
        for (int i = 0; i < 199; i++) {
            due("lay the next one", roof.lay(i % 8, i % 12, 1, 1), i);
            roof.take(i);
        }
        refuses(roof, "a refused lay takes no number", ARGUMENT, () -> roof.lay(0, 0, 5, 1));
        due("lay the 200th one", roof.lay(0, 0, 1, 1), 199);
        refuses(roof, "lay the 201st one", STATE, () -> roof.lay(5, 5, 1, 1));
        roof.take(199);
        due("none is on the roof", roof.count(2), 0);
        refuses(roof, "lay the 201st one on a bare roof", STATE, () -> roof.lay(5, 5, 1, 1));
        due("200 in all", roof.count(1), 200);
    }

    private static void offForGood() {
        head("one that was taken away keeps its number, and is off the roof for good");
        SlateRoofs roof = roofOf(3, 0, 2, 2, 0, 8, 4, 3);
        roof.take(0);
        due("a storm takes the other one", stormOn(roof, 20, true), 1);
        due("a new one at the same places", roof.lay(3, 0, 2, 1), 2);
        for (int gone = 0; gone < 2; gone++) {
            int number = gone;
            due("it is off", roof.slate(gone, 5), 0);
            refuses(roof, "take it again", STATE, () -> roof.take(number));
            refuses(roof, "nail it", STATE, () -> roof.nail(number, 1));
            refuses(roof, "lift it", STATE, () -> roof.lift(number, 1, false));
        }
        due("its place is another one's", roof.place(0, 3, 0), 2);
        due("it keeps its row", roof.slate(0, 0), 3);
        due("it keeps its nails", roof.slate(0, 3), 2);
        due("it keeps its width", roof.slate(1, 2), 4);
    }

    private static void placesInCommon() {
        head("Slates of one row have no place in common");
        for (int wide = 1; wide <= 4; wide++) {
            for (int from = 0; from <= 12 - wide; from++) {
                boolean meets = from <= 6 && from + wide > 4;
                SlateRoofs roof = roofOf(3, 4, 3, 1);
                due("from " + from + ", wide " + wide, yes(layIs(roof, 3, from, wide, STATE)), yes(meets));
            }
        }
    }

    private static boolean layIs(SlateRoofs roof, int row, int from, int wide, String want) {
        return outcome(() -> roof.lay(row, from, wide, 1)).equals(want);
    }

    private static void liesUpon() {
        head("A slate lies upon another one, if it lies in the row above, and both have an x in common");
        for (int wide = 1; wide <= 4; wide++) {
            for (int from = 0; from <= 12 - wide; from++) {
                boolean meets = from <= 6 && from + wide > 4;
                SlateRoofs roof = roofOf(3, 4, 3, 1, 4, from, wide, 1, 5, from, wide, 1);
                due("upon it, from " + from + ", wide " + wide, roof.slate(0, 7), yes(meets));
                due("two rows above counts for the one between", roof.slate(1, 7), 1);
                due("none lies upon the highest one", roof.slate(2, 7), 0);
            }
        }
        due("a row below does not", roofOf(2, 4, 4, 1, 3, 4, 3, 1).slate(1, 7), 0);
        due("one with two places in common is one", roofOf(0, 0, 4, 1, 1, 1, 2, 1).slate(0, 7), 1);
        due("four at once", roofOf(0, 0, 4, 1, 1, 0, 1, 1, 1, 1, 1, 1, 1, 2, 1, 1, 1, 3, 1, 1).slate(0, 7), 4);
    }

    private static void coveredPlaces() {
        head("A place is covered, if a whole slate of its own row, or of the row above, has its x");
        coveredByOneIn(0);
        coveredByOneIn(1);
        coveredByOneIn(7);
        SlateRoofs below = roofOf(0, 0, 2, 1, 1, 1, 2, 3);
        hailOn(below, 5);
        due("the lower one is cracked", below.slate(0, 4), 1);
        due("its own is cracked, none above", below.place(0, 0, 1), 0);
        due("its own is cracked, a whole one above", below.place(1, 0, 1), 1);
        due("none of its own, a whole one above", below.place(2, 0, 1), 1);
        SlateRoofs above = roofOf(0, 0, 2, 3, 1, 1, 2, 1);
        hailOn(above, 5);
        due("its own is whole, none above", above.place(0, 0, 1), 1);
        due("its own is whole, a cracked one above", above.place(1, 0, 1), 1);
        due("none of its own, a cracked one above", above.place(2, 0, 1), 0);
        due("a cracked one of its own", above.place(2, 1, 1), 0);
    }

    private static void coveredByOneIn(int row) {
        SlateRoofs roof = roofOf(row, 4, 2, 1);
        for (int i = 0; i < 96; i++) {
            int x = i % 12;
            int y = i / 12;
            boolean due = x >= 4 && x <= 5 && (y == row || y == row - 1);
            due("place " + x + ", " + y + " with a slate in row " + row, roof.place(x, y, 1), yes(due));
        }
    }

    private static void holdOnRot() {
        head("Hold: 3 for each nail, but 2, if a place of its row at which it lies has a rot of 5 or more");
        int[] days = {0, 4, 5, 9};
        for (int behind : days) {
            for (int nails = 1; nails <= 3; nails++) {
                SlateRoofs roof = behind == 0 ? new SlateRoofs() : rained(9, behind);
                roof.lay(3, 4, 4, nails);
                due("hold on a rot of " + behind, roof.slate(0, 6), (behind < 5 ? 3 : 2) * nails);
            }
        }
        for (int rotten = 0; rotten < 4; rotten++) {
            SlateRoofs roof = rained(9, 5);
            for (int x = 4; x < 8; x++) {
                roof.board(x, x == 4 + rotten ? 0 : 3);
            }
            roof.lay(3, 4, 4, 3);
            due("hold with rot at its place " + rotten, roof.slate(0, 6), 6);
        }
        SlateRoofs around = rained(9, 5);
        for (int x = 4; x < 8; x++) {
            around.board(x, 3);
        }
        around.lay(3, 4, 4, 3);
        due("hold with rot around it", around.slate(0, 6), 9);
    }

    private static void holdByOthers() {
        head("Hold: and 2 for each slate that lies upon it, all added");
        SlateRoofs roof = roofOf(0, 4, 4, 1);
        for (int upon = 0; upon < 4; upon++) {
            due("hold with " + upon + " upon it", roof.slate(0, 6), 3 + 2 * upon);
            roof.lay(1, 4 + upon, 1, 1);
        }
        due("hold with 4 upon it", roof.slate(0, 6), 11);
        hailOn(roof, 5);
        due("all of these are cracked", roof.count(3), 4);
        due("hold with 4 cracked ones upon it", roof.slate(0, 6), 11);
        roof.take(2);
        due("hold with 3 of them", roof.slate(0, 6), 9);
        due("the greatest hold", roofOf(0, 0, 4, 3, 1, 0, 1, 1, 1, 1, 1, 1, 1, 2, 1, 1, 1, 3, 1, 1).slate(0, 6), 17);
    }

    private static void holdOfCracked() {
        head("Hold: for a cracked one this / 2");
        int[] want = {1, 3, 4};
        for (int nails = 1; nails <= 3; nails++) {
            SlateRoofs roof = roofOf(2, 0, 1, nails);
            hailOn(roof, 9);
            due("hold of a cracked one with " + nails, roof.slate(0, 6), want[nails - 1]);
            SlateRoofs rotten = rained(9, 5);
            rotten.lay(2, 0, 1, nails);
            hailOn(rotten, 9);
            due("hold of a cracked one on rot with " + nails, rotten.slate(0, 6), nails);
        }
        SlateRoofs roof = roofOf(0, 0, 4, 1, 1, 0, 1, 3);
        hailOn(roof, 5);
        due("hold of a cracked one, 5 cut", roof.slate(0, 6), 2);
        roof.lay(1, 1, 1, 3);
        due("hold of a cracked one, 7 cut", roof.slate(0, 6), 3);
    }

    private static void liftInAStorm() {
        head("Lift: the force and its y, added, less 2, if a slate of its row lies directly beside it");
        for (int y = 0; y < 8; y++) {
            SlateRoofs roof = roofOf(y, 2, 2, 1, y, 4, 2, 3, y, 7, 1, 2);
            for (int force = 0; force <= 20; force += 5) {
                due("with none to the left", roof.lift(0, force, false), force + y);
                due("with one to the right", roof.lift(0, force, true), force + y - 2);
                due("with one to the left", roof.lift(1, force, false), force + y - 2);
                due("with a gap to the right", roof.lift(1, force, true), force + y);
                due("with a gap to the left", roof.lift(2, force, false), force + y);
            }
        }
        SlateRoofs edges = roofOf(2, 8, 4, 1, 3, 0, 4, 1, 3, 8, 4, 1, 4, 0, 4, 1);
        for (int slate = 0; slate < 4; slate++) {
            int row = edges.slate(slate, 0);
            due("from the left", edges.lift(slate, 9, false), 9 + row);
            due("from the right", edges.lift(slate, 9, true), 9 + row);
        }
        SlateRoofs gone = roofOf(0, 0, 4, 1, 0, 4, 4, 1);
        gone.take(0);
        due("with one beside that is off the roof", gone.lift(1, 9, false), 9);
    }

    // ---- storm, hail and rain

    private static void stormWithoutForce() {
        head("Storm. With a force of 1 or more it goes on in rounds");
        SlateRoofs roof = roofOf(7, 0, 4, 1);
        due("force 0 takes", roof.storm(0, false, 0), 0);
        due("force 0, rounds", roof.storm(0, false, 1), 0);
        due("a day of force 0", stormOn(roof, 0, false), 0);
        due("force 1, rounds", roof.storm(1, false, 1), 2);
        due("a day of force 1", stormOn(roof, 1, false), 1);
        due("a bare roof, rounds", roof.storm(1, false, 1), 1);
    }

    private static void liftMoreThanHold() {
        head("all slates whose lift is more than their hold are taken away");
        for (int y = 0; y < 8; y++) {
            for (int nails = 1; nails <= 3; nails++) {
                SlateRoofs roof = roofOf(y, 4, 4, nails);
                int equal = 3 * nails - y;
                for (int force = Math.max(1, equal - 1); force <= equal + 1; force++) {
                    due("row " + y + ", nails " + nails + ", force " + force, roof.storm(force, true, 0),
                        yes(force > equal));
                }
            }
        }
    }

    private static void allAtOnce() {
        head("all at once; as long as one is taken in a round, there is another one");
        SlateRoofs beside = roofOf(0, 0, 1, 1, 0, 1, 1, 1);
        due("none goes", beside.storm(3, false, 1), 1);
        due("one behind the other", beside.storm(4, false, 1), 3);
        due("both in one round", beside.storm(6, false, 1), 2);
        SlateRoofs upon = roofOf(0, 0, 1, 1, 1, 0, 1, 1);
        due("the upper one alone", upon.storm(3, false, 0), 1);
        due("the upper one, then the lower one", upon.storm(4, false, 1), 3);
        due("equal to the lower one's hold", upon.storm(5, false, 1), 3);
        due("both of them in one round", upon.storm(6, false, 1), 2);
    }

    /** Each one of these 30 goes when the one before it is gone; all lie on rot, and those of row 1 are cracked. */
    private static void longStorm() {
        head("as long as one is taken in a round, there is another one (a long storm)");
        SlateRoofs roof = rained(9, 5);
        roof.lay(1, 5, 4, 1);
        laySingles(roof, 1, 9, 1);
        hailOn(roof, 9);
        roof.lay(2, 8, 4, 1);
        laySingles(roof, 3, 2, 1);
        roof.lay(4, 2, 4, 2);
        roof.lay(5, 5, 4, 2);
        roof.lay(6, 8, 4, 3);
        laySingles(roof, 7, 0, 3);
        due("slates", roof.count(2), 30);
        due("from the left, taken", roof.storm(1, false, 0), 30);
        due("from the left, rounds", roof.storm(1, false, 1), 31);
        due("from the right, taken", roof.storm(1, true, 0), 30);
        due("from the right, rounds", roof.storm(1, true, 1), 13);
        due("a day of it", stormOn(roof, 1, false), 30);
    }

    private static void laySingles(SlateRoofs roof, int row, int from, int nails) {
        for (int x = from; x < 12; x++) {
            roof.lay(row, x, 1, nails);
        }
    }

    private static void hailBySize() {
        head("Hail of a size: each whole slate cracks, if the size is more than its nails + 3");
        for (int nails = 1; nails <= 3; nails++) {
            for (int size = 0; size <= 9; size++) {
                SlateRoofs roof = roofOf(7, 0, 4, nails, 0, 8, 4, nails);
                hailOn(roof, size);
                due("nails " + nails + ", size " + size, roof.count(3), size > nails + 3 ? 2 : 0);
            }
        }
        SlateRoofs twice = roofOf(0, 0, 4, 1);
        hailOn(twice, 9);
        hailOn(twice, 9);
        due("a cracked one stays so", twice.slate(0, 4), 1);
        due("a cracked one is there still", twice.count(2), 1);
    }

    private static void hailAtABareX() {
        head("Hail: and it has an x at which no slate lies upon it");
        for (int bare = -1; bare < 4; bare++) {
            SlateRoofs roof = roofOf(3, 4, 4, 1);
            for (int x = 0; x < 4; x++) {
                if (x != bare) {
                    roof.lay(4, 4 + x, 1, 3);
                }
            }
            hailOn(roof, 5);
            due("bare at its place " + bare, roof.slate(0, 4), yes(bare >= 0));
        }
        SlateRoofs ridge = roofOf(7, 0, 4, 1, 7, 4, 4, 1, 6, 8, 4, 1);
        hailOn(ridge, 5);
        due("at the ridge none lies upon any", ridge.count(3), 3);
        SlateRoofs below = roofOf(0, 0, 1, 1, 1, 0, 1, 1);
        hailOn(below, 9);
        hailOn(below, 9);
        due("below a cracked one", below.slate(0, 4), 0);
        due("it itself", below.slate(1, 4), 1);
        SlateRoofs far = roofOf(0, 0, 1, 1, 2, 0, 1, 3);
        hailOn(far, 5);
        due("two rows above does not lie upon it", far.slate(0, 4), 1);
    }

    private static void rainOnABareRoof() {
        head("Rain: as much as the rain, and half of what comes in at the place above (cut), added");
        SlateRoofs roof = new SlateRoofs();
        for (int rain = 0; rain <= 9; rain++) {
            for (int y = 0; y < 8; y++) {
                due("rain " + rain + " at row " + y, roof.comes(rain, 11, y), BARE[rain][7 - y]);
            }
        }
    }

    private static void rainOnSlates() {
        head("Rain: at a place that is covered comes in nothing");
        for (int row = 0; row < 8; row++) {
            SlateRoofs roof = roofOf(row, 4, 1, 1);
            for (int y = 0; y < 8; y++) {
                int open = y > row ? 7 - y : row - 2 - y;
                int want = y == row || y == row - 1 ? 0 : BARE[9][open];
                due("row " + y + " with a slate in row " + row, roof.comes(9, 4, y), want);
                due("row " + y + " beside it", roof.comes(9, 5, y), BARE[9][7 - y]);
            }
        }
    }

    // ---- days

    private static void tableAtFirst() {
        head("A table tells for each of 7 days .. (all 0 and from the left, at first)");
        SlateRoofs roof = roofOf(7, 0, 4, 1);
        due("no storm comes", roof.pass(60), 0);
        due("no hail comes", roof.count(3), 0);
        due("no rain comes", roof.count(6), 0);
        long before = roof.digest();
        for (int day = 0; day < 7; day++) {
            due("told before", roof.setDay(day, 0, false, 0, 0), 0);
        }
        due("the same table", roof.digest(), before);
    }

    private static void remainderOfSeven() {
        head("by what it tells for the day by the remainder of 7");
        for (int told = 0; told < 7; told++) {
            SlateRoofs roof = new SlateRoofs();
            roof.setDay(told, 0, false, 0, 9);
            for (int day = 0; day < 16; day++) {
                due("foreseen behind one day more", roof.foresee(1, 2), 96 * ((day + 7 - told) / 7));
                roof.pass(1);
                due("rot behind the day " + day, roof.count(6), 96 * ((day + 7 - told) / 7));
            }
        }
    }

    private static void sixOrMore() {
        head("each place at which 6 or more comes in has 1 more of rot");
        for (int rain = 0; rain <= 9; rain++) {
            SlateRoofs roof = rained(rain, 1);
            for (int y = 0; y < 8; y++) {
                due("rain " + rain + " at row " + y, roof.place(3, y, 2), yes(BARE[rain][7 - y] >= 6));
            }
        }
        SlateRoofs under = roofOf(4, 0, 1, 1);
        rainOn(under, 9, 9);
        due("at a slate", under.place(0, 4, 2), 0);
        due("below it, covered", under.place(0, 3, 2), 0);
        due("below that", under.place(0, 2, 2), 9);
        due("above it", under.place(0, 5, 2), 9);
    }

    private static void stormHailRain() {
        head("A day goes like this: the storm, then the hail, then the rain. Then the day is 1 greater");
        SlateRoofs roof = roofOf(0, 0, 4, 1, 1, 0, 4, 3);
        weather(roof, 3, false, 9, 9);
        due("the storm comes before the hail: none goes", roof.pass(1), 0);
        due("the hail cracks the upper one", roof.slate(1, 4), 1);
        due("the lower one is below it", roof.slate(0, 4), 0);
        due("the rain comes behind the hail", roof.place(0, 1, 2), 1);
        due("the lower one covers", roof.place(0, 0, 2), 0);
        due("the day", roof.count(0), 1);
        due("the next storm takes none, as 4 is not more than 4", roof.pass(1), 0);
        roof.nail(1, 2);
        due("and 4 is more than 3", roof.pass(1), 1);
        due("then the hail cracks the lower one", roof.slate(0, 4), 1);
        due("and the rain comes in there", roof.place(0, 0, 2), 1);
        due("the day behind all", roof.count(0), 3);
    }

    // ---- exceptions and numbers

    private static void firstNamedIsThrown() {
        head("If several exceptions apply, the one that is named first is thrown");
        SlateRoofs roof = full();
        refuses(roof, "lay: argument before state", ARGUMENT, () -> roof.lay(0, 0, 1, 0));
        refuses(roof, "nail: index before argument", INDEX, () -> roof.nail(60, 0));
        refuses(roof, "nail: argument before state", ARGUMENT, () -> roof.nail(0, 4));
        refuses(roof, "setDay: index before argument, force", INDEX, () -> roof.setDay(7, 21, true, 0, 0));
        refuses(roof, "setDay: index before argument, hail", INDEX, () -> roof.setDay(-1, 0, true, -1, 0));
        refuses(roof, "setDay: index before argument, rain", INDEX, () -> roof.setDay(7, 0, true, 0, 10));
        refuses(roof, "lift: index before argument", INDEX, () -> roof.lift(60, 21, true));
        refuses(roof, "storm: argument before index", ARGUMENT, () -> roof.storm(21, true, 3));
        refuses(roof, "comes: argument before index, x", ARGUMENT, () -> roof.comes(10, 12, 0));
        refuses(roof, "comes: argument before index, y", ARGUMENT, () -> roof.comes(-1, 0, -1));
        refuses(roof, "foresee: argument before index", ARGUMENT, () -> roof.foresee(0, 3));
        SlateRoofs gone = roofOf(0, 0, 4, 1);
        gone.take(0);
        refuses(gone, "nail off the roof: argument before state", ARGUMENT, () -> gone.nail(0, 0));
        refuses(gone, "lift off the roof: argument before state", ARGUMENT, () -> gone.lift(0, 21, false));
        SlateRoofs all = spent();
        refuses(all, "lay with 200: argument before state", ARGUMENT, () -> all.lay(0, 9, 4, 1));
    }

    private static void wrapsAround() {
        head("d becomes d * 31 + x, which wraps around as a 64-bit integer");
        SlateRoofs roof = small();
        roof.setDay(6, 20, true, 9, 9);
        BigInteger d = BigInteger.valueOf(919);
        for (int what = 0; what < 7; what++) {
            d = with(d, roof.count(what));
        }
        for (int i = 0; i < 4 * 8; i++) {
            d = with(d, roof.slate(i / 8, i % 8));
        }
        for (int i = 0; i < 96 * 3; i++) {
            d = with(d, roof.place(i / 3 % 12, i / 36, i % 3));
        }
        for (int i = 0; i < 14; i++) {
            d = with(d, i == 12 ? 2099 : i == 13 ? 1 : 0);
        }
        due("far more than 64 bits", yes(d.bitLength() > 1000), 1);
        due("digest()", roof.digest(), d.longValue());
    }

    private static BigInteger with(BigInteger d, int x) {
        return d.multiply(BigInteger.valueOf(31)).add(BigInteger.valueOf(x));
    }

    public static void main(String[] args) {
        callsOfAnObject();
        widthAndHeight();
        rotAtFirstAndAtMost();
        sixtyOnTheRoof();
        twoHundredInAll();
        offForGood();
        placesInCommon();
        liesUpon();
        coveredPlaces();
        holdOnRot();
        holdByOthers();
        holdOfCracked();
        liftInAStorm();
        stormWithoutForce();
        liftMoreThanHold();
        allAtOnce();
        longStorm();
        hailBySize();
        hailAtABareX();
        rainOnABareRoof();
        rainOnSlates();
        tableAtFirst();
        remainderOfSeven();
        sixOrMore();
        stormHailRain();
        firstNamedIsThrown();
        wrapsAround();
        finish();
    }
}
