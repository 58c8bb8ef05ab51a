/** For each promise of the document: ordinary inputs, the edges that it names, and wrong inputs. */
public final class PromiseTests extends Checks {
    private static final int[] FAR = {Integer.MIN_VALUE, -1000, -1, 1000, Integer.MAX_VALUE};

    private static void newObject() {
        head("1 a new object");
        SlateRoofs roof = new SlateRoofs();
        for (int what = 0; what <= 6; what++) {
            due("count(" + what + ")", roof.count(what), 0);
        }
        for (int y = 0; y < 8; y++) {
            for (int x = 0; x < 12; x++) {
                due("place(.., 0)", roof.place(x, y, 0), -1);
                due("place(.., 1)", roof.place(x, y, 1), 0);
                due("place(.., 2)", roof.place(x, y, 2), 0);
            }
        }
        refuses(roof, "slate(0, 0)", INDEX, () -> roof.slate(0, 0));
        SlateRoofs other = new SlateRoofs();
        other.lay(0, 0, 4, 1);
        due("another object's slates", roof.count(1), 0);
    }

    private static void lay() {
        head("2 lay");
        SlateRoofs roof = new SlateRoofs();
        due("lay(0, 0, 4, 1)", roof.lay(0, 0, 4, 1), 0);
        due("lay(0, 11, 1, 3)", roof.lay(0, 11, 1, 3), 1);
        due("lay(7, 8, 4, 2)", roof.lay(7, 8, 4, 2), 2);
        due("its row", roof.slate(2, 0), 7);
        due("its first place", roof.slate(2, 1), 8);
        due("its width", roof.slate(2, 2), 4);
        due("its nails", roof.slate(2, 3), 2);
        due("it is whole", roof.slate(2, 4), 0);
        due("lay beside another one", roof.lay(0, 4, 1, 1), 3);
        due("lay upon another one", roof.lay(1, 3, 2, 1), 4);
        refuses(roof, "lay(0, 9, 3, 1)", STATE, () -> roof.lay(0, 9, 3, 1));
        refuses(roof, "lay(0, 3, 1, 1)", STATE, () -> roof.lay(0, 3, 1, 1));
        refuses(roof, "lay(6, 5, 4, 1) below a slate", STATE, () -> roof.lay(6, 5, 4, 1));
        due("lay(6, 4, 4, 1) beside what is above", roof.lay(6, 4, 4, 1), 5);
        due("lay(5, 0, 4, 1) clear of what is above", roof.lay(5, 0, 4, 1), 6);
        layWrong(roof);
        layBelowCracked();
    }

    private static void layWrong(SlateRoofs roof) {
        for (int far : FAR) {
            refuses(roof, "lay(far, ..)", ARGUMENT, () -> roof.lay(far, 0, 1, 1));
            refuses(roof, "lay(.., far, ..)", ARGUMENT, () -> roof.lay(3, far, 1, 1));
            refuses(roof, "lay(.., far, .)", ARGUMENT, () -> roof.lay(3, 0, far, 1));
            refuses(roof, "lay(.., far)", ARGUMENT, () -> roof.lay(3, 0, 1, far));
        }
        refuses(roof, "lay(8, 0, 1, 1)", ARGUMENT, () -> roof.lay(8, 0, 1, 1));
        refuses(roof, "lay(3, 12, 1, 1)", ARGUMENT, () -> roof.lay(3, 12, 1, 1));
        refuses(roof, "lay(3, 0, 0, 1)", ARGUMENT, () -> roof.lay(3, 0, 0, 1));
        refuses(roof, "lay(3, 0, 5, 1)", ARGUMENT, () -> roof.lay(3, 0, 5, 1));
        refuses(roof, "lay(3, 9, 4, 1)", ARGUMENT, () -> roof.lay(3, 9, 4, 1));
        refuses(roof, "lay(3, 11, 2, 1)", ARGUMENT, () -> roof.lay(3, 11, 2, 1));
        refuses(roof, "lay(3, 0, 1, 0)", ARGUMENT, () -> roof.lay(3, 0, 1, 0));
        refuses(roof, "lay(3, 0, 1, 4)", ARGUMENT, () -> roof.lay(3, 0, 1, 4));
        refuses(roof, "wrong nails on a taken place", ARGUMENT, () -> roof.lay(0, 0, 1, 4));
    }

    private static void layBelowCracked() {
        SlateRoofs roof = new SlateRoofs();
        roof.lay(4, 2, 2, 1);
        hailOn(roof, 9);
        due("it is cracked", roof.slate(0, 4), 1);
        refuses(roof, "lay at a cracked one's place", STATE, () -> roof.lay(4, 0, 3, 1));
        refuses(roof, "lay below a cracked one", STATE, () -> roof.lay(3, 3, 1, 1));
    }

    private static void layLimits() {
        head("2 lay, its limits");
        SlateRoofs roof = new SlateRoofs();
        for (int i = 0; i < 60; i++) {
            due("lay the slate " + i, roof.lay(i / 12, i % 12, 1, 1), i);
        }
        refuses(roof, "lay a 61st one", STATE, () -> roof.lay(7, 0, 1, 1));
        refuses(roof, "wrong row with 60", ARGUMENT, () -> roof.lay(8, 0, 1, 1));
        due("best() with 60", roof.best(), 600);
        int last = 59;
        for (int number = 60; number < 200; number++) {
            roof.take(last);
            last = roof.lay(4, 11, 1, 1);
            due("lay again", last, number);
        }
        roof.take(last);
        refuses(roof, "lay a 201st one", STATE, () -> roof.lay(4, 11, 1, 1));
        due("laid in all", roof.count(1), 200);
        due("on the roof", roof.count(2), 59);
        due("best() with 200", roof.best(), 608);
        due("needs() with 200", roof.needs(0, 0, 4), 20);
        due("foresee() with 200", roof.foresee(60, 0), 59);
        due("slate(199, 5)", roof.slate(199, 5), 0);
        refuses(roof, "slate(200, 5)", INDEX, () -> roof.slate(200, 5));
    }

    private static void take() {
        head("3 take");
        SlateRoofs roof = small();
        refuses(roof, "take(0) below another one", STATE, () -> roof.take(0));
        due("take(2)", roof.take(2), 3);
        due("take(0)", roof.take(0), 2);
        refuses(roof, "take(1) below the last one", STATE, () -> roof.take(1));
        refuses(roof, "take(0) again", STATE, () -> roof.take(0));
        refuses(roof, "take(4)", INDEX, () -> roof.take(4));
        for (int far : FAR) {
            refuses(roof, "take(far)", INDEX, () -> roof.take(far));
        }
        due("slates on the roof", roof.count(2), 2);
        due("slates in all", roof.count(1), 4);
        due("taken by storms", roof.count(5), 0);
        due("its place", roof.place(0, 0, 0), -1);
        due("the place of another one", roof.place(4, 0, 0), 1);
        due("it is off", roof.slate(0, 5), 0);
        due("a new number", roof.lay(0, 0, 4, 1), 4);
    }

    private static void nail() {
        head("4 nail");
        SlateRoofs roof = small();
        due("nail(2, 1)", roof.nail(2, 1), 3);
        due("its nails", roof.slate(2, 3), 1);
        due("its hold", roof.slate(2, 6), 3);
        due("nail(2, 3)", roof.nail(2, 3), 1);
        refuses(roof, "nail(0, 3) below another one", STATE, () -> roof.nail(0, 3));
        refuses(roof, "nail(0, 4) below another one", ARGUMENT, () -> roof.nail(0, 4));
        refuses(roof, "nail(2, 0)", ARGUMENT, () -> roof.nail(2, 0));
        refuses(roof, "nail(2, 4)", ARGUMENT, () -> roof.nail(2, 4));
        refuses(roof, "nail(4, 1)", INDEX, () -> roof.nail(4, 1));
        refuses(roof, "nail(-1, 0)", INDEX, () -> roof.nail(-1, 0));
        for (int far : FAR) {
            refuses(roof, "nail(far, 1)", INDEX, () -> roof.nail(far, 1));
            refuses(roof, "nail(2, far)", ARGUMENT, () -> roof.nail(2, far));
        }
        roof.take(2);
        refuses(roof, "nail(2, 1) off the roof", STATE, () -> roof.nail(2, 1));
        refuses(roof, "nail(2, 0) off the roof", ARGUMENT, () -> roof.nail(2, 0));
        due("nails off the roof", roof.slate(2, 3), 3);
        hailOn(roof, 9);
        due("cracked", roof.slate(3, 4), 1);
        due("nail a cracked one", roof.nail(3, 3), 1);
        due("it stays cracked", roof.slate(3, 4), 1);
    }

    private static void board() {
        head("5 board");
        SlateRoofs roof = rained(9, 3);
        due("board(11, 7)", roof.board(11, 7), 3);
        due("its rot", roof.place(11, 7, 2), 0);
        due("the rot beside", roof.place(10, 7, 2), 3);
        due("all rot", roof.count(6), 95 * 3);
        due("board(11, 7) again", roof.board(11, 7), 0);
        roof.lay(2, 3, 2, 1);
        refuses(roof, "board(3, 2)", STATE, () -> roof.board(3, 2));
        refuses(roof, "board(4, 2)", STATE, () -> roof.board(4, 2));
        due("board(4, 1) that another row covers", roof.board(4, 1), 3);
        due("board(5, 2)", roof.board(5, 2), 3);
        refuses(roof, "board(12, 0)", INDEX, () -> roof.board(12, 0));
        refuses(roof, "board(0, 8)", INDEX, () -> roof.board(0, 8));
        refuses(roof, "board(8, 11)", INDEX, () -> roof.board(8, 11));
        for (int far : FAR) {
            refuses(roof, "board(far, 0)", INDEX, () -> roof.board(far, 0));
            refuses(roof, "board(0, far)", INDEX, () -> roof.board(0, far));
        }
        roof.take(0);
        due("board(3, 2) once it is free", roof.board(3, 2), 3);
        roof.lay(4, 4, 1, 1);
        hailOn(roof, 9);
        refuses(roof, "board below a cracked one", STATE, () -> roof.board(4, 4));
    }

    private static void setDay() {
        head("6 setDay");
        SlateRoofs roof = new SlateRoofs();
        due("setDay(0, ..)", roof.setDay(0, 20, true, 9, 8), 0);
        due("setDay(0, ..) again", roof.setDay(0, 3, false, 4, 5), 2098);
        due("setDay(0, ..) once more", roof.setDay(0, 0, false, 0, 0), 345);
        due("setDay(6, ..)", roof.setDay(6, 1, true, 2, 9), 0);
        due("setDay(6, ..) again", roof.setDay(6, 1, true, 2, 9), 129);
        refuses(roof, "setDay(7, 21, ..)", INDEX, () -> roof.setDay(7, 21, false, 0, 0));
        refuses(roof, "setDay(1, 21, ..)", ARGUMENT, () -> roof.setDay(1, 21, false, 0, 0));
        refuses(roof, "setDay(1, 0, .., 10, 0)", ARGUMENT, () -> roof.setDay(1, 0, false, 10, 0));
        refuses(roof, "setDay(1, 0, .., 0, 10)", ARGUMENT, () -> roof.setDay(1, 0, false, 0, 10));
        for (int far : FAR) {
            refuses(roof, "setDay(far, ..)", INDEX, () -> roof.setDay(far, 0, false, 0, 0));
            refuses(roof, "setDay(0, far, ..)", ARGUMENT, () -> roof.setDay(0, far, false, 0, 0));
            refuses(roof, "setDay(.., far, 0)", ARGUMENT, () -> roof.setDay(0, 0, false, far, 0));
            refuses(roof, "setDay(.., far)", ARGUMENT, () -> roof.setDay(0, 0, false, 0, far));
        }
        long left = roof.digest();
        roof.setDay(6, 1, false, 2, 9);
        due("a side changes the digest by", left - roof.digest(), 1);
    }

    private static void slate() {
        head("7 slate");
        SlateRoofs roof = small();
        long[][] want = {{0, 0, 4, 2, 0, 1, 8, 1}, {0, 4, 4, 1, 0, 1, 7, 2}, {1, 2, 4, 3, 0, 1, 9, 0},
            {1, 6, 1, 1, 0, 1, 3, 0}};
        for (int s = 0; s < 4; s++) {
            for (int what = 0; what < 8; what++) {
                due("slate(" + s + ", " + what + ")", roof.slate(s, what), want[s][what]);
            }
        }
        hailOn(roof, 5);
        due("1 is cracked", roof.slate(1, 4), 1);
        due("0 is whole", roof.slate(0, 4), 0);
        due("hold of a cracked one, cut", roof.slate(1, 6), 3);
        due("hold of a cracked one at the edge, cut", roof.slate(3, 6), 1);
        roof.take(3);
        due("cracked off the roof", roof.slate(3, 4), 1);
        due("on the roof", roof.slate(3, 5), 0);
        due("hold off the roof", roof.slate(3, 6), 0);
        due("row off the roof", roof.slate(3, 0), 1);
        due("place off the roof", roof.slate(3, 1), 6);
        due("upon 1", roof.slate(1, 7), 1);
        slateOffBelow();
        slateOnRot();
        refuses(roof, "slate(4, 0)", INDEX, () -> roof.slate(4, 0));
        refuses(roof, "slate(0, 8)", INDEX, () -> roof.slate(0, 8));
        for (int far : FAR) {
            refuses(roof, "slate(far, 0)", INDEX, () -> roof.slate(far, 0));
            refuses(roof, "slate(0, far)", INDEX, () -> roof.slate(0, far));
        }
    }

    private static void slateOffBelow() {
        SlateRoofs roof = new SlateRoofs();
        roof.lay(3, 4, 4, 3);
        roof.take(0);
        roof.lay(4, 4, 4, 3);
        due("upon one off the roof", roof.slate(0, 7), 0);
        due("hold of one off the roof", roof.slate(0, 6), 0);
        SlateRoofs wide = new SlateRoofs();
        wide.lay(0, 4, 4, 1);
        for (int x = 3; x < 9; x++) {
            wide.lay(1, x, 1, 1);
        }
        due("upon a wide one", wide.slate(0, 7), 4);
        due("hold of a wide one", wide.slate(0, 6), 11);
        SlateRoofs gap = new SlateRoofs();
        gap.lay(6, 1, 4, 1);
        gap.lay(7, 0, 2, 1);
        gap.lay(7, 4, 2, 1);
        due("upon both ends", gap.slate(0, 7), 2);
        due("upon the ridge", gap.slate(1, 7), 0);
    }

    private static void slateOnRot() {
        SlateRoofs roof = rained(9, 4);
        roof.lay(3, 4, 4, 3);
        due("hold on a rot of 4", roof.slate(0, 6), 9);
        rainOn(roof, 9, 1);
        due("its own places are covered", roof.place(7, 3, 2), 4);
        due("hold still", roof.slate(0, 6), 9);
        roof.lay(3, 8, 4, 3);
        due("hold on a rot of 5", roof.slate(1, 6), 6);
        roof.take(1);
        roof.board(8, 3);
        roof.board(9, 3);
        roof.board(10, 3);
        roof.lay(3, 8, 4, 2);
        due("hold with one place of a rot of 5", roof.slate(2, 6), 4);
        roof.take(2);
        roof.lay(3, 8, 3, 2);
        due("hold beside a rot of 5", roof.slate(3, 6), 6);
        roof.lay(4, 8, 1, 1);
        due("hold with one upon it", roof.slate(3, 6), 8);
    }

    private static void place() {
        head("8 place");
        SlateRoofs roof = new SlateRoofs();
        roof.lay(0, 0, 2, 3);
        roof.lay(1, 1, 2, 1);
        roof.lay(7, 11, 1, 3);
        due("place(0, 0, 0)", roof.place(0, 0, 0), 0);
        due("place(1, 0, 0)", roof.place(1, 0, 0), 0);
        due("place(2, 0, 0)", roof.place(2, 0, 0), -1);
        due("place(2, 1, 0)", roof.place(2, 1, 0), 1);
        due("place(2, 0, 1) by the row above", roof.place(2, 0, 1), 1);
        due("place(3, 0, 1)", roof.place(3, 0, 1), 0);
        due("place(1, 2, 1) above all", roof.place(1, 2, 1), 0);
        due("place(0, 1, 1) above its slate", roof.place(0, 1, 1), 0);
        due("place(11, 7, 1)", roof.place(11, 7, 1), 1);
        due("place(11, 6, 1)", roof.place(11, 6, 1), 1);
        due("place(11, 5, 1)", roof.place(11, 5, 1), 0);
        hailOn(roof, 6);
        due("place(1, 0, 1), its own is whole", roof.place(1, 0, 1), 1);
        due("place(2, 0, 1) by a cracked one", roof.place(2, 0, 1), 0);
        due("place(2, 1, 1) of a cracked one", roof.place(2, 1, 1), 0);
        due("place(2, 1, 0) of a cracked one", roof.place(2, 1, 0), 1);
        rainOn(roof, 6, 2);
        due("place(2, 0, 2)", roof.place(2, 0, 2), 2);
        due("place(1, 0, 2)", roof.place(1, 0, 2), 0);
        refuses(roof, "place(12, 0, 0)", INDEX, () -> roof.place(12, 0, 0));
        refuses(roof, "place(0, 8, 0)", INDEX, () -> roof.place(0, 8, 0));
        refuses(roof, "place(0, 0, 3)", INDEX, () -> roof.place(0, 0, 3));
        for (int far : FAR) {
            refuses(roof, "place(far, ..)", INDEX, () -> roof.place(far, 0, 0));
            refuses(roof, "place(.., far, .)", INDEX, () -> roof.place(0, far, 0));
            refuses(roof, "place(.., far)", INDEX, () -> roof.place(0, 0, far));
        }
    }

    private static void count() {
        head("9 count");
        SlateRoofs roof = small();
        roof.lay(7, 0, 2, 3);
        roof.lay(5, 5, 1, 3);
        roof.take(5);
        hailOn(roof, 6);
        roof.setDay(1, 4, false, 0, 9);
        due("the storm takes", roof.pass(1), 2);
        due("the day", roof.count(0), 2);
        due("laid in all", roof.count(1), 6);
        due("on the roof", roof.count(2), 3);
        due("cracked of these", roof.count(3), 2);
        due("covered", roof.count(4), 8);
        due("taken by storms", roof.count(5), 2);
        due("all rot", roof.count(6), 96 - 8);
        changesNothing(roof, "count", () -> roof.count(4));
        refuses(roof, "count(7)", INDEX, () -> roof.count(7));
        for (int far : FAR) {
            refuses(roof, "count(far)", INDEX, () -> roof.count(far));
        }
    }

    private static void lift() {
        head("10 lift");
        SlateRoofs roof = small();
        due("lift(0, 10, left)", roof.lift(0, 10, false), 10);
        due("lift(0, 10, right)", roof.lift(0, 10, true), 8);
        due("lift(1, 10, left)", roof.lift(1, 10, false), 8);
        due("lift(1, 10, right)", roof.lift(1, 10, true), 10);
        due("lift(3, 20, left)", roof.lift(3, 20, false), 19);
        due("lift(3, 20, right)", roof.lift(3, 20, true), 21);
        due("lift(1, 0, left)", roof.lift(1, 0, false), -2);
        roof.lay(7, 11, 1, 1);
        roof.lay(7, 9, 1, 1);
        due("lift at the ridge and the edge", roof.lift(4, 3, true), 10);
        due("lift with a gap beside", roof.lift(4, 3, false), 10);
        roof.lay(0, 11, 1, 1);
        due("lift of one with nothing beside", roof.lift(2, 5, false), 6);
        due("lift at the eaves and the edge", roof.lift(6, 5, true), 5);
        refuses(roof, "lift(7, 21, ..)", INDEX, () -> roof.lift(7, 21, false));
        refuses(roof, "lift(0, 21, ..)", ARGUMENT, () -> roof.lift(0, 21, false));
        for (int far : FAR) {
            refuses(roof, "lift(far, ..)", INDEX, () -> roof.lift(far, 0, false));
            refuses(roof, "lift(0, far, ..)", ARGUMENT, () -> roof.lift(0, far, true));
        }
        roof.take(3);
        refuses(roof, "lift off the roof", STATE, () -> roof.lift(3, 1, false));
        refuses(roof, "lift off the roof, wrong force", ARGUMENT, () -> roof.lift(3, -1, false));
        hailOn(roof, 9);
        due("beside a cracked one", roof.lift(0, 10, true), 8);
        changesNothing(roof, "lift", () -> roof.lift(0, 10, true));
        edgesOfRowsDoNotMeet();
    }

    private static void edgesOfRowsDoNotMeet() {
        SlateRoofs roof = new SlateRoofs();
        roof.lay(2, 8, 4, 1);
        roof.lay(3, 0, 4, 1);
        due("from the right, a row above starts there", roof.lift(0, 5, true), 7);
        due("from the left, a row below ends there", roof.lift(1, 5, false), 8);
    }

    private static void storm() {
        head("11 storm");
        SlateRoofs roof = small();
        due("storm(2, left) takes the least", roof.storm(2, false, 0), 0);
        due("storm(2, left) rounds", roof.storm(2, false, 1), 1);
        due("storm(2, left) covered", roof.storm(2, false, 2), 13);
        due("storm(5, left) takes", roof.storm(5, false, 0), 1);
        due("storm(5, left) rounds", roof.storm(5, false, 1), 2);
        due("storm(5, left) covered", roof.storm(5, false, 2), 12);
        due("storm(20, left) takes", roof.storm(20, false, 0), 4);
        due("storm(20, left) rounds", roof.storm(20, false, 1), 2);
        due("storm(20, left) covered", roof.storm(20, false, 2), 0);
        due("storm(0, ..) takes", roof.storm(0, true, 0), 0);
        due("storm(0, ..) rounds", roof.storm(0, true, 1), 0);
        due("storm(0, ..) covered", roof.storm(0, true, 2), 13);
        due("storm on a bare roof, rounds", new SlateRoofs().storm(1, false, 1), 1);
        stormRounds();
        changesNothing(roof, "storm", () -> roof.storm(20, false, 0));
        due("taken by storms", roof.count(5), 0);
        refuses(roof, "storm(21, .., 3)", ARGUMENT, () -> roof.storm(21, false, 3));
        refuses(roof, "storm(20, .., 3)", INDEX, () -> roof.storm(20, false, 3));
        for (int far : FAR) {
            refuses(roof, "storm(far, ..)", ARGUMENT, () -> roof.storm(far, false, 0));
            refuses(roof, "storm(.., far)", INDEX, () -> roof.storm(0, false, far));
        }
        SlateRoofs behind = small();
        behind.setDay(0, 5, false, 0, 0);
        due("a storm that does come", behind.pass(1), 1);
        due("storm(20, left) takes, but for those that are gone", behind.storm(20, false, 0), 3);
        SlateRoofs high = new SlateRoofs();
        high.lay(7, 0, 4, 1);
        due("with a force of 0 none goes", high.storm(0, false, 0), 0);
        due("with a force of 1 it goes", high.storm(1, false, 0), 1);
    }

    /** Each slate but the first one is behind another one, so that one goes a round. */
    private static void stormRounds() {
        SlateRoofs roof = new SlateRoofs();
        for (int x = 0; x < 12; x++) {
            roof.lay(0, x, 1, 1);
        }
        due("storm(3, left) takes", roof.storm(3, false, 0), 0);
        due("storm(4, left) takes", roof.storm(4, false, 0), 12);
        due("storm(4, left) rounds", roof.storm(4, false, 1), 13);
        due("storm(4, right) rounds", roof.storm(4, true, 1), 13);
        due("storm(5, right) rounds", roof.storm(5, true, 1), 13);
        due("storm(6, right) rounds", roof.storm(6, true, 1), 2);
        roof.take(5);
        due("storm(4, left) rounds with a gap", roof.storm(4, false, 1), 7);
        roof.lay(1, 5, 4, 3);
        due("storm(4, left) held by one above", roof.storm(4, false, 0), 5);
        due("storm(4, right) held by one above", roof.storm(4, true, 0), 8);
    }

    private static void bears() {
        head("12 bears");
        SlateRoofs roof = new SlateRoofs();
        due("a bare roof", roof.bears(false), 20);
        roof.lay(0, 0, 4, 3);
        due("one with 3 nails", roof.bears(true), 9);
        roof.lay(0, 4, 4, 3);
        due("two from the left", roof.bears(false), 9);
        roof.nail(1, 2);
        due("the other one is behind", roof.bears(false), 8);
        due("the other one is ahead", roof.bears(true), 6);
        roof.lay(7, 0, 4, 1);
        due("less than nothing", roof.bears(false), 0);
        changesNothing(roof, "bears", () -> roof.bears(true));
        roof.take(2);
        due("without it", roof.bears(true), 6);
        SlateRoofs held = new SlateRoofs();
        held.lay(0, 4, 4, 3);
        for (int x = 4; x < 8; x++) {
            held.lay(1, x, 1, 3);
            held.lay(2, x, 1, 3);
            held.lay(3, x, 1, 3);
        }
        due("by the highest ones", held.bears(false), 6);
        due("the greatest force's rounds", held.storm(6, false, 1), 1);
        due("a greater force takes some", held.storm(7, false, 1) > 1 ? 1 : 0, 1);
    }

    private static void comes() {
        head("13 comes");
        SlateRoofs roof = new SlateRoofs();
        long[] nine = {17, 17, 17, 17, 16, 15, 13, 9};
        for (int y = 0; y < 8; y++) {
            due("comes(9, 3, " + y + ")", roof.comes(9, 3, y), nine[y]);
            due("comes(0, 3, " + y + ")", roof.comes(0, 3, y), 0);
        }
        roof.lay(4, 3, 1, 1);
        due("above a slate", roof.comes(9, 3, 5), 15);
        due("at a slate", roof.comes(9, 3, 4), 0);
        due("below a slate, covered", roof.comes(9, 3, 3), 0);
        due("below what it covers", roof.comes(9, 3, 2), 9);
        due("further below", roof.comes(9, 3, 1), 13);
        due("beside", roof.comes(9, 4, 4), 16);
        hailOn(roof, 9);
        due("at a cracked one", roof.comes(9, 3, 4), 16);
        changesNothing(roof, "comes", () -> roof.comes(9, 0, 0));
        refuses(roof, "comes(10, 12, 0)", ARGUMENT, () -> roof.comes(10, 12, 0));
        refuses(roof, "comes(9, 12, 0)", INDEX, () -> roof.comes(9, 12, 0));
        refuses(roof, "comes(9, 0, 8)", INDEX, () -> roof.comes(9, 0, 8));
        for (int far : FAR) {
            refuses(roof, "comes(far, ..)", ARGUMENT, () -> roof.comes(far, 0, 0));
            refuses(roof, "comes(.., far, .)", INDEX, () -> roof.comes(0, far, 0));
            refuses(roof, "comes(.., far)", INDEX, () -> roof.comes(0, 0, far));
        }
    }

    private static void leaks() {
        head("14 leaks");
        SlateRoofs roof = new SlateRoofs();
        due("leaks(9)", roof.leaks(9), 12 * 121);
        due("leaks(1)", roof.leaks(1), 12 * 8);
        due("leaks(2)", roof.leaks(2), 12 * (2 + 3 * 7));
        due("leaks(0)", roof.leaks(0), 0);
        roof.lay(4, 3, 2, 1);
        due("leaks(9) with a slate", roof.leaks(9), 10 * 121 + 2 * (9 + 13 + 15 + 9 + 13 + 15));
        changesNothing(roof, "leaks", () -> roof.leaks(9));
        layRow(roof, 7, 3);
        due("leaks(9) below a full ridge", roof.leaks(9), 10 * 87 + 2 * (9 + 9 + 13 + 15));
        refuses(roof, "leaks(10)", ARGUMENT, () -> roof.leaks(10));
        for (int far : FAR) {
            refuses(roof, "leaks(far)", ARGUMENT, () -> roof.leaks(far));
        }
    }

    private static void needs() {
        head("15 needs");
        SlateRoofs roof = new SlateRoofs();
        roof.lay(0, 0, 4, 1);
        roof.lay(0, 4, 4, 1);
        roof.lay(1, 2, 4, 1);
        roof.lay(1, 8, 4, 1);
        roof.lay(2, 5, 4, 1);
        roof.lay(3, 0, 4, 1);
        roof.lay(3, 8, 2, 1);
        roof.lay(4, 9, 3, 1);
        due("needs(0, 0, 1), one upon another", roof.needs(0, 0, 1), 5);
        due("needs(0, 3, 2), each one once", roof.needs(0, 3, 2), 6);
        due("needs(0, 8, 1), from the row above", roof.needs(0, 8, 1), 4);
        due("needs(2, 0, 4)", roof.needs(2, 0, 4), 1);
        due("needs(3, 10, 2)", roof.needs(3, 10, 2), 1);
        due("needs(3, 5, 3), free", roof.needs(3, 5, 3), 0);
        due("needs(4, 0, 4)", roof.needs(4, 0, 4), 0);
        due("needs(7, 8, 4)", roof.needs(7, 8, 4), 0);
        changesNothing(roof, "needs", () -> roof.needs(0, 0, 4));
        roof.take(7);
        due("needs(0, 0, 1) with one off the roof", roof.needs(0, 0, 1), 4);
        hailOn(roof, 9);
        due("needs(0, 0, 1) with cracked ones", roof.needs(0, 0, 1), 4);
        refuses(roof, "needs(8, 0, 1)", ARGUMENT, () -> roof.needs(8, 0, 1));
        refuses(roof, "needs(0, 12, 1)", ARGUMENT, () -> roof.needs(0, 12, 1));
        refuses(roof, "needs(0, 0, 0)", ARGUMENT, () -> roof.needs(0, 0, 0));
        refuses(roof, "needs(0, 0, 5)", ARGUMENT, () -> roof.needs(0, 0, 5));
        refuses(roof, "needs(0, 10, 3)", ARGUMENT, () -> roof.needs(0, 10, 3));
        for (int far : FAR) {
            refuses(roof, "needs(far, ..)", ARGUMENT, () -> roof.needs(far, 0, 1));
            refuses(roof, "needs(.., far, .)", ARGUMENT, () -> roof.needs(0, far, 1));
            refuses(roof, "needs(.., far)", ARGUMENT, () -> roof.needs(0, 0, far));
        }
    }

    private static void best() {
        head("16 best");
        SlateRoofs roof = new SlateRoofs();
        due("a bare roof", roof.best(), 400);
        changesNothing(roof, "best", () -> roof.best());
        roof.lay(4, 0, 4, 2);
        due("beside the first one", roof.best(), 404);
        roof.lay(4, 5, 4, 2);
        // In row 2 or 6 it spares 28 in a column with a slate and 42 in a bare one, in row 5 but 15 and 46.
        due("with three bare columns at the end", roof.best(), 208);
        hailOn(roof, 9);
        due("with cracked ones", roof.best(), 500);
        bestNowhere();
    }

    private static void bestNowhere() {
        due("a roof that is covered", covered().best(), -1);
        SlateRoofs blocked = new SlateRoofs();
        for (int row = 0; row < 8; row += row == 6 ? 1 : 2) {
            for (int x = 3; x < 12; x += 4) {
                blocked.lay(row, x, 1, 1);
            }
        }
        due("a roof without four free places", blocked.best(), -1);
        due("where something comes in", blocked.leaks(9) > 0 ? 1 : 0, 1);
        blocked.take(blocked.place(11, 7, 0));
        due("at the ridge alone", blocked.best(), 708);
    }

    private static void pass() {
        head("17 pass");
        SlateRoofs roof = new SlateRoofs();
        roof.setDay(6, 0, false, 0, 9);
        due("pass(6)", roof.pass(6), 0);
        due("rot before the day", roof.count(6), 0);
        roof.pass(1);
        due("rot behind it", roof.count(6), 96);
        roof.pass(6);
        due("rot before the next one", roof.count(6), 96);
        roof.pass(1);
        due("rot behind the next one", roof.count(6), 192);
        due("the day", roof.count(0), 14);
        roof.pass(60);
        due("the day behind 60 more", roof.count(0), 74);
        refuses(roof, "pass(0)", ARGUMENT, () -> roof.pass(0));
        refuses(roof, "pass(61)", ARGUMENT, () -> roof.pass(61));
        for (int far : FAR) {
            refuses(roof, "pass(far)", ARGUMENT, () -> roof.pass(far));
        }
        passRain();
        passHail();
        passStorm();
        passOrder();
    }

    private static void passRain() {
        due("rot of a rain of 3", rained(3, 1).count(6), 0);
        due("rot of a rain of 4", rained(4, 1).count(6), 84);
        due("rot of a rain of 5", rained(5, 1).count(6), 84);
        due("rot of a rain of 6", rained(6, 1).count(6), 96);
        due("rot of 9 days", rained(9, 9).count(6), 9 * 96);
        due("rot of 12 days", rained(9, 12).count(6), 9 * 96);
        SlateRoofs roof = new SlateRoofs();
        roof.lay(6, 0, 4, 1);
        rainOn(roof, 5, 1);
        due("rot at a slate", roof.place(0, 6, 2), 0);
        due("rot of what it covers", roof.place(0, 5, 2), 0);
        due("rot first below it", roof.place(0, 4, 2), 0);
        due("rot next below it", roof.place(0, 3, 2), 1);
        due("rot beside it", roof.place(4, 6, 2), 1);
    }

    private static void passHail() {
        for (int nails = 1; nails <= 3; nails++) {
            SlateRoofs roof = new SlateRoofs();
            roof.lay(0, 0, 4, nails);
            hailOn(roof, nails + 3);
            due("a size of its nails + 3", roof.slate(0, 4), 0);
            hailOn(roof, nails + 4);
            due("a size of its nails + 4", roof.slate(0, 4), 1);
        }
        SlateRoofs roof = new SlateRoofs();
        roof.lay(0, 0, 2, 1);
        roof.lay(0, 2, 2, 1);
        roof.lay(0, 4, 2, 1);
        roof.lay(1, 1, 3, 3);
        roof.lay(1, 4, 1, 1);
        hailOn(roof, 5);
        due("one that is bare at an end", roof.slate(0, 4), 1);
        due("one below another one", roof.slate(1, 4), 0);
        due("one that is bare at the other end", roof.slate(2, 4), 1);
        due("one with many nails", roof.slate(3, 4), 0);
        due("one upon another one", roof.slate(4, 4), 1);
        roof.lay(7, 0, 1, 1);
        roof.take(5);
        hailOn(roof, 9);
        due("one off the roof", roof.slate(5, 4), 0);
        SlateRoofs below = new SlateRoofs();
        below.lay(0, 0, 1, 1);
        below.lay(1, 0, 1, 1);
        hailOn(below, 9);
        hailOn(below, 9);
        due("one below a cracked one", below.slate(0, 4), 0);
    }

    private static void passStorm() {
        SlateRoofs roof = new SlateRoofs();
        roof.lay(0, 0, 4, 3);
        roof.lay(0, 4, 4, 1);
        roof.setDay(0, 4, false, 0, 0);
        roof.setDay(1, 4, true, 0, 0);
        roof.setDay(2, 20, true, 0, 0);
        due("from the left", roof.pass(1), 0);
        due("from the right, then a stronger one", roof.pass(2), 2);
        due("taken by storms", roof.count(5), 2);
        due("they are off", roof.slate(1, 5), 0);
        due("the nails stay told", roof.slate(1, 3), 1);
        roof.lay(0, 0, 4, 3);
        due("those of these days alone", roof.pass(7), 1);
        due("taken by storms in all", roof.count(5), 3);
        SlateRoofs calm = new SlateRoofs();
        calm.lay(7, 0, 4, 1);
        due("days without a force", calm.pass(60), 0);
        due("it lies there still", calm.slate(0, 5), 1);
    }

    private static void passOrder() {
        SlateRoofs roof = new SlateRoofs();
        roof.lay(0, 0, 4, 1);
        weather(roof, 3, false, 9, 9);
        due("the storm comes before the hail", roof.pass(1), 0);
        due("the hail comes", roof.slate(0, 4), 1);
        due("the rain comes behind the hail", roof.place(0, 0, 2), 1);
        due("the next storm takes it", roof.pass(1), 1);
        SlateRoofs gone = new SlateRoofs();
        gone.lay(0, 0, 4, 1);
        gone.setDay(0, 20, false, 0, 9);
        gone.pass(1);
        due("the rain comes behind the storm", gone.place(0, 0, 2), 1);
        SlateRoofs bared = new SlateRoofs();
        bared.lay(3, 0, 4, 3);
        bared.lay(4, 0, 4, 1);
        bared.setDay(0, 4, false, 7, 0);
        bared.pass(1);
        due("the hail comes behind the storm", bared.slate(0, 4), 1);
    }

    private static void foresee() {
        head("18 foresee");
        SlateRoofs roof = small();
        roof.setDay(0, 4, false, 6, 9);
        roof.setDay(1, 4, true, 0, 5);
        due("slates in a day", roof.foresee(1, 0), 4);
        due("cracked ones in a day", roof.foresee(1, 1), 3);
        due("rot in a day", roof.foresee(1, 2), 96 - 8);
        changesNothing(roof, "foresee", () -> roof.foresee(60, 0));
        due("taken by storms", roof.count(5), 0);
        for (int days = 1; days <= 60; days += 6) {
            for (int what = 0; what < 3; what++) {
                SlateRoofs later = small();
                later.setDay(0, 4, false, 6, 9);
                later.setDay(1, 4, true, 0, 5);
                later.pass(days);
                due("foresee(" + days + ", " + what + ")", roof.foresee(days, what),
                    later.count(what == 0 ? 2 : what == 1 ? 3 : 6));
            }
        }
        roof.pass(1);
        due("from another day on", roof.foresee(6, 2), roof.foresee(1, 2));
        refuses(roof, "foresee(0, 3)", ARGUMENT, () -> roof.foresee(0, 3));
        refuses(roof, "foresee(61, 0)", ARGUMENT, () -> roof.foresee(61, 0));
        refuses(roof, "foresee(60, 3)", INDEX, () -> roof.foresee(60, 3));
        for (int far : FAR) {
            refuses(roof, "foresee(far, 0)", ARGUMENT, () -> roof.foresee(far, 0));
            refuses(roof, "foresee(1, far)", INDEX, () -> roof.foresee(1, far));
        }
    }

    private static void share() {
        head("19 share");
        SlateRoofs roof = new SlateRoofs();
        dueExactly("a bare roof", roof.share(), 0.0);
        roof.lay(0, 0, 1, 1);
        dueExactly("one place", roof.share(), 1.0 / 96.0);
        dueExactly("13 places", small().share(), 13.0 / 96.0);
        hailOn(roof, 9);
        dueExactly("with a cracked one", roof.share(), 0.0);
        dueExactly("a covered roof", covered().share(), 1.0);
    }

    private static void digest() {
        head("20 digest");
        due("a new object", new SlateRoofs().digest(), digestOf(new SlateRoofs(), new int[14]));
        int[] table = {2097, 1, 345, 0, 0, 0, 0, 0, 0, 0, 0, 0, 600, 1};
        due("a few slates", smallWithTable().digest(), digestOf(smallWithTable(), table));
        SlateRoofs roof = smallWithTable();
        roof.take(3);
        roof.pass(2);
        roof.lay(2, 4, 3, 2);
        due("some days later", roof.digest(), digestOf(roof, table));
        changesNothing(roof, "digest", () -> roof.digest());
    }

    private static SlateRoofs smallWithTable() {
        SlateRoofs roof = small();
        roof.setDay(0, 20, true, 9, 7);
        roof.setDay(1, 3, false, 4, 5);
        roof.setDay(6, 6, true, 0, 0);
        return roof;
    }

    /** Asks for each number by itself, which is most of the 512 calls that an object is used for. */
    private static long digestOf(SlateRoofs roof, int[] table) {
        long d = 919;
        for (int what = 0; what < 7; what++) {
            d = d * 31 + roof.count(what);
        }
        for (int i = 0; i < 8 * roof.count(1); i++) {
            d = d * 31 + roof.slate(i / 8, i % 8);
        }
        for (int i = 0; i < 3 * 96; i++) {
            d = d * 31 + roof.place(i / 3 % 12, i / 3 / 12, i % 3);
        }
        for (int told : table) {
            d = d * 31 + told;
        }
        return d;
    }

    public static void main(String[] args) {
        newObject();
        lay();
        layLimits();
        take();
        nail();
        board();
        setDay();
        slate();
        place();
        count();
        lift();
        storm();
        bears();
        comes();
        leaks();
        needs();
        best();
        pass();
        foresee();
        share();
        digest();
        finish();
    }
}
