/** Boundaries that the promises of turns name: 9 to 15. */
abstract class TurnEdges extends Edges {
    static void all() {
        reached();
        reachedOneByOne();
        longTurns();
        firstOfTurns();
        turning();
        jams();
        jamsTooLong();
        gives();
        show();
        showTooLong();
        together();
        togetherRefused();
        way();
    }

    /** Axle 0 drives 1 and 2 as fast; from 2 on five pairs lead to 7; 3 is a greater wheel of axle 0. */
    private static void longWay() {
        fresh();
        wheel(20, 0, 0);
        wheel(20, 1, 0);
        wheel(20, 2, 0);
        wheel(389, 0, 1);
        int[] prime = {397, 383, 373, 359, 349};
        for (int i = 0; i < 5; i++) {
            wheel(prime[i], 2 + i, 1 + i);
            wheel(11, 3 + i, 1 + i);
        }
    }

    private static void fivePairs() {
        for (int i = 0; i < 5; i++) {
            x.mesh(4 + 2 * i, 5 + 2 * i);
        }
    }

    private static void reached() {
        edge("turn", "AXLES are reached so: MESHES in order, each that has one AXLE that is reached and one that is not reaches that"
            + " one; again from the first till none does.");
        // axle 2 is reached by the greater wheel, ere the first mesh is seen again: 7 turns too far
        longWay();
        x.mesh(1, 2);
        x.mesh(0, 1);
        x.mesh(3, 2);
        fivePairs();
        due(-5, x.turn(0));
        // axle 2 is reached by way of 1 in the same going through, though it is farther so: it jams alone
        longWay();
        x.mesh(0, 1);
        x.mesh(1, 2);
        x.mesh(3, 2);
        fivePairs();
        due(-3, x.turn(0));
        // the greater wheel first
        longWay();
        x.mesh(3, 2);
        x.mesh(0, 1);
        x.mesh(1, 2);
        fivePairs();
        due(-5, x.turn(0));
        // the way of 7 is taken up again from the first mesh
        longWay();
        fivePairs();
        x.mesh(2, 1);
        x.mesh(1, 0);
        due(0, x.turn(7));
        due(-397L * 383 * 373 * 359 * 349, x.row(0));
        due(11L * 11 * 11 * 11 * 11, x.row(1));
    }

    private static void reachedOneByOne() {
        // each going through reaches one axle more, the ninth the last
        fresh();
        for (int a = 0; a < 10; a++) {
            wheel(20 + a, a, 0);
        }
        for (int a = 8; a >= 0; a--) {
            x.mesh(a + 1, a);
        }
        due("0[-20, 29]", told(x.turn(9)));
        due("0[5, 7]", told(x.turn(8)));
        due("1023[341]", told(x.turning()));
        x.part();
        due(-2, x.turn(9));
        due("1[1]", told(x.turning()));
    }

    /** 391 * 381 * 369 * 346 * 259 * 203, the first above 1000000000000000 that six wheels can make. */
    private static final int[] ABOVE = {391, 381, 369, 346, 259, 203};

    private static void driveBy(int[] many, boolean up) {
        int[] teeth = new int[2 * many.length];
        for (int i = 0; i < many.length; i++) {
            teeth[2 * i] = up ? many[i] : 11;
            teeth[2 * i + 1] = up ? 11 : many[i];
        }
        chain(teeth);
    }

    private static void longTurns() {
        edge("turn", "-5: some TURN had an upper or lower number (lowest terms) above 1000000000000000 as it was reached; else -3: it"
            + " JAMS (some AXLE, whichever); else -2: it is IDLE. NONE: none such (first).");
        int[] just = {100, 100, 100, 100, 100, 250, 400};
        driveBy(just, true);
        due("0[-1000000000000000, 19487171]", told(x.turn(7)));
        driveBy(just, false);
        due("0[-19487171, 1000000000000000]", told(x.turn(7)));
        driveBy(ABOVE, true);
        due(-5, x.turn(6));
        x.part();
        due("0[-" + 391L * 381 * 369 * 346 * 259 + ", 161051]", told(x.turn(5)));
        driveBy(ABOVE, false);
        due(-5, x.turn(6));
        x.part();
        due("0[-161051, " + 391L * 381 * 369 * 346 * 259 + "]", told(x.turn(5)));
        // above it by the seventh, that turns against axle 0: 1000000000089376
        chain(356, 17, 286, 17, 251, 17, 244, 17, 239, 17, 61, 17, 11, 17);
        due(-5, x.turn(7));
        x.part();
        due("0[90909090917216, 24137569]", told(x.turn(6)));
        // in lowest terms: 400 ^ 7 by 200 ^ 7 is 128
        chain(400, 200, 400, 200, 400, 200, 400, 200, 400, 200, 400, 200, 400, 200);
        due("0[-128, 1]", told(x.turn(7)));
        // ten times 400 by 10, and back: what comes after does not help
        chain(391, 11, 381, 11, 369, 11, 346, 11, 259, 11, 203, 11, 11, 391);
        due(-5, x.turn(7));
    }

    private static void firstOfTurns() {
        // some axle, whichever: those ahead of it, 0 itself, and idle ones
        driveBy(ABOVE, true);
        for (int a = 0; a < 10; a++) {
            due(-5, x.turn(a));
        }
        due(-1, x.turn(10));
        due(-1, x.turn(-1));
        due(-1, x.turn(Integer.MIN_VALUE));
        due(-1, x.turn(Integer.MAX_VALUE));
        // -5 goes ahead of -3
        x.mesh(0, 3);
        wheel(20, 1, 9);
        due(7, x.count(1));
        due(-5, x.turn(0));
        chain(64, 38, 48, 24);
        x.mesh(0, 3);
        for (int a = 0; a < 10; a++) {
            due(-3, x.turn(a));
        }
        due(-1, x.turn(10));
        due(-1, x.turn(-1));
        x.part();
        due(0, x.turn(2));
        due(-2, x.turn(3));
        due(-2, x.turn(9));
        due(-1, x.turn(10));
        // a turn that is too long for an axle that nothing leads to is none
        fresh();
        wheel(20, 9, 0);
        for (int i = 0; i < 6; i++) {
            wheel(ABOVE[i], 1 + i, i);
            wheel(11, 2 + i, i);
            x.mesh(1 + 2 * i, 2 + 2 * i);
        }
        due("0[1, 1]", told(x.turn(0)));
        due(-2, x.turn(7));
    }

    private static void turning() {
        edge("turning", "the ROW: those that turn as AXLE 0 does (not against it). -3, -5 as turn().");
        fresh();
        due("1[1]", told(x.turning()));
        wheel(20, 8, 0);
        wheel(30, 9, 0);
        x.mesh(0, 1);
        due("1[1]", told(x.turning()));
        wheel(20, 0, 0);
        x.mesh(2, 1);
        due("769[257]", told(x.turning()));
        x.part();
        x.mesh(2, 0);
        due("769[513]", told(x.turning()));
        x.mesh(2, 1);
        due(-3, x.turning());
        due("[513]", rowNow());
        driveBy(ABOVE, false);
        x.slot(1, 2, 1, 1);
        due(-5, x.turning());
        due("[2, 1]", rowNow());
        x.mesh(0, 3);
        due(-5, x.turning());
    }

    private static void jams() {
        edge("jams", "The MESHES (bits) without each of which, taken out alone, it does not JAM, though it does. 0, if it does not;");
        fresh();
        due(0, x.jams());
        wheel(20, 0, 0);
        wheel(20, 1, 0);
        wheel(20, 2, 0);
        x.mesh(0, 1);
        due(0, x.jams());
        x.mesh(1, 2);
        due(0, x.jams());
        x.mesh(2, 0);
        due(7, x.jams());
        due(3, x.count(1));
        due(-3, x.turn(0));
        // by two pairs between two axles
        fresh();
        wheel(20, 0, 0);
        wheel(20, 1, 0);
        wheel(20, 0, 1);
        wheel(21, 1, 1);
        x.mesh(0, 1);
        x.mesh(2, 3);
        due(3, x.jams());
        // a third pair that agrees with the first: only the second helps
        wheel(40, 0, 2);
        wheel(40, 1, 2);
        x.mesh(4, 5);
        due(2, x.jams());
        // two that do not agree, each alone: none helps
        x.part();
        wheel(40, 2, 2);
        wheel(41, 2, 3);
        x.mesh(5, 6);
        x.mesh(1, 7);
        due(0, x.jams());
        due(-3, x.turn(0));
        // the sixteenth mesh
        fresh();
        TermEdges.sixteenMeshes();
        due(0, x.jams());
        x.part();
        x.mesh(0, 2);
        due(32768, x.jams());
    }

    private static void jamsTooLong() {
        edge("jams", "-5 as turn() (with all, or without one).");
        driveBy(ABOVE, true);
        due(-5, x.jams());
        due(-5, x.turn(0));
        // with all it jams, for 6 is reached by a short mesh; without that one by a long way
        fresh();
        wheel(20, 0, 0);
        wheel(20, 6, 0);
        x.mesh(0, 1);
        for (int i = 0; i < 6; i++) {
            wheel(ABOVE[i], i, 1 + i);
            wheel(11, i + 1, 1 + i);
            x.mesh(2 + 2 * i, 3 + 2 * i);
        }
        due(-3, x.turn(0));
        due(-5, x.jams());
        // with 202 for 203 no way is too long: without any one of the ring it goes
        fresh();
        wheel(20, 0, 0);
        wheel(20, 6, 0);
        x.mesh(0, 1);
        for (int i = 0; i < 6; i++) {
            wheel(i == 5 ? 202 : ABOVE[i], i, 1 + i);
            wheel(11, i + 1, 1 + i);
            x.mesh(2 + 2 * i, 3 + 2 * i);
        }
        due(-3, x.turn(0));
        due(127, x.jams());
    }

    private static void gives() {
        edge("gives", "PERIODS (bits) that an AXLE gives in size; the ROW: those it gives with AXLE 0's way. -2, -3, -5, NONE as"
            + " turn().");
        chain(20, 40, 20, 40);
        due("0[0]", told(x.gives(2)));
        book("1:1;1:2;1:4;2:1;4:1;500:2000;1000:2000;2000:2000");
        due("129[129]", told(x.gives(0)));
        due("66[0]", told(x.gives(1)));
        due("36[36]", told(x.gives(2)));
        for (int a = 3; a < 10; a++) {
            due(-2, x.gives(a));
        }
        due(-1, x.gives(10));
        due(-1, x.gives(-1));
        due("[36]", rowNow());
        x.mesh(0, 3);
        due(-3, x.gives(2));
        due(-3, x.gives(9));
        due(-1, x.gives(10));
        driveBy(ABOVE, true);
        due(-5, x.gives(0));
        due(-5, x.gives(9));
        due(-1, x.gives(10));
        // the longest turns that are told: 1 / 2000 and 2000 are held against 10 ^ 15 by 11 ^ 7
        driveBy(new int[] {100, 100, 100, 100, 100, 250, 400}, true);
        book("2000:1;1:2000;1:1");
        due("0[0]", told(x.gives(7)));
        due("4[4]", told(x.gives(0)));
    }

    private static void show() {
        edge("show", "Where what an AXLE shows stands after so many years (0 .. 2000)");
        chain(20, 30, 20, 30);
        due("0[0, 1]", told(x.show(1, 0)));
        due("0[2, 3]", told(x.show(1, 1)));
        // 2000 times 2 / 3 is 1333 and a third
        due("0[1, 3]", told(x.show(1, 2000)));
        due(-1, x.show(1, -1));
        due(-1, x.show(1, 2001));
        due(-1, x.show(1, Integer.MIN_VALUE));
        due(-1, x.show(1, Integer.MAX_VALUE));
        due("[1, 3]", rowNow());

        edge("show", "as a part of its turn from where it began, the way it goes: the ROW: the fraction (0 at least, below 1): of years"
            + " times its TURNS in size what is above whole turns; 0.");
        // against axle 0's way too it is told by size
        due("0[0, 1]", told(x.show(1, 3)));
        due("0[1, 3]", told(x.show(1, 2)));
        due("0[4, 9]", told(x.show(2, 1)));
        due("0[8, 9]", told(x.show(2, 2)));
        due("0[1, 3]", told(x.show(2, 3)));
        due("0[0, 1]", told(x.show(2, 9)));
        due("0[0, 1]", told(x.show(0, 2000)));
        chain(400, 10);
        due("0[0, 1]", told(x.show(1, 1999)));
    }

    private static void showTooLong() {
        edge("show", "-2, -3, -5 (also if a TURN of this AXLE has a number above 1000000000), NONE as turn(), others.");
        chain(100, 11, 100, 11, 100, 11, 100, 11, 10, 11);
        due("0[34341, 161051]", told(x.show(5, 1)));
        chain(11, 100, 11, 100, 11, 100, 11, 100, 11, 10);
        due("0[161051, 1000000000]", told(x.show(5, 1)));
        // 334 * 327 * 327 * 28 is 1000000008, the first above that four wheels can make
        chain(334, 11, 327, 11, 327, 11, 28, 11);
        due("0[1000000008, 14641]", told(x.turn(4)));
        due(-5, x.show(4, 1));
        due(-5, x.show(4, 0));
        due(-1, x.show(4, 2001));
        due(-1, x.show(4, -1));
        due("0[0, 1]", told(x.show(3, 1331)));
        chain(11, 334, 11, 327, 11, 327, 11, 28);
        due(-5, x.show(4, 1));
        due("0[1331, 35714286]", told(x.show(3, 1)));
        due(-2, x.show(5, 1));
        due(-2, x.show(9, 0));
        // an axle that turns against axle 0
        chain(400, 11, 400, 11, 400, 11, 400, 11, 400, 11);
        due(-5, x.show(5, 1));
        due(-5, x.together(5, 0));
        due("0[0, 1]", told(x.show(3, 1331)));
        chain(11, 334, 11, 327, 11, 327, 11, 28);
        due(-1, x.show(9, 2001));
        due(-1, x.show(10, 1));
        due(-1, x.show(-1, 1));
        chain(20, 30, 20, 30);
        x.mesh(0, 3);
        due(-3, x.show(0, 1));
        due(-3, x.show(9, 1));
        due(-1, x.show(10, 1));
        due(-1, x.show(0, -1));
        driveBy(ABOVE, true);
        due(-5, x.show(0, 1));
        due(-5, x.show(9, 1));
        due(-1, x.show(9, -1));
    }

    private static void together() {
        edge("together", "The first year (1 .. 100000) after which what two AXLES show stands as far apart as at first (their TURNS, as"
            + " they go, differ by whole turns times years): it; the ROW: by how many turns the one has gone more than the other"
            + " (below 0 it may be).");
        chain(20, 30, 20, 30);
        // -2 / 3 and 4 / 9: 10 / 9 apart
        due("9[10]", told(x.together(2, 1)));
        due("9[-10]", told(x.together(1, 2)));
        due("3[5]", told(x.together(0, 1)));
        due("9[-5]", told(x.together(2, 0)));
        for (int a = 0; a < 3; a++) {
            due("1[0]", told(x.together(a, a)));
        }
        // 143 / 100000
        chain(11, 400, 13, 250);
        due("100000[-99857]", told(x.together(2, 0)));
        due("100000[99857]", told(x.together(0, 2)));
        // by whole turns each year
        chain(30, 10);
        due("1[4]", told(x.together(0, 1)));
    }

    private static void togetherRefused() {
        edge("together", "-6: none; -2 (of either), -3, -5 (also if a TURN of either has a number above 1000000000), NONE as turn().");
        // 143 / 100005, the first below that two wheels can make
        chain(11, 339, 13, 295);
        x.slot(1, 2, 1, 1);
        due(-6, x.together(2, 0));
        due(-6, x.together(0, 2));
        due(-2, x.together(0, 3));
        due(-2, x.together(3, 0));
        due(-2, x.together(3, 3));
        due(-1, x.together(3, 10));
        due(-1, x.together(10, 3));
        due(-1, x.together(-1, 0));
        due(-1, x.together(0, -1));
        due("[2, 1]", rowNow());
        chain(334, 11, 327, 11, 327, 11, 28, 11);
        due(-5, x.together(4, 0));
        due(-5, x.together(0, 4));
        due(-5, x.together(4, 4));
        due("1331[" + (334 * 327 * 327 + 1331) + "]", told(x.together(0, 3)));
        chain(11, 334, 11, 327, 11, 327, 11, 28);
        due(-5, x.together(4, 0));
        due(-5, x.together(0, 4));
        chain(20, 30, 20, 30);
        x.mesh(0, 3);
        due(-3, x.together(0, 1));
        due(-3, x.together(8, 9));
        due(-1, x.together(8, 10));
        driveBy(ABOVE, true);
        due(-5, x.together(0, 0));
        due(-5, x.together(8, 9));
        due(-1, x.together(-1, 9));
    }

    private static void way() {
        edge("way", "The way from AXLE 0 to an AXLE, as in FITTINGS (however many they are): how many MESHES; the ROW: they, in order.");
        fresh();
        for (int a = 0; a < 10; a++) {
            x.wheel(10, 400, a, 0);
        }
        for (int a = 8; a >= 0; a--) {
            x.mesh(a, a + 1);
        }
        due("9[8, 7, 6, 5, 4, 3, 2, 1, 0]", told(x.way(9)));
        due("1[8]", told(x.way(1)));
        book("1:1");
        due(-4, x.fittings(9, 0));
        // a mesh from 0 to 9 makes it short; to 5 it is as far both ways about
        x.mesh(0, 9);
        due("1[9]", told(x.way(9)));
        due("4[9, 0, 1, 2]", told(x.way(6)));
        due("5[8, 7, 6, 5, 4]", told(x.way(5)));

        edge("way", "-2: it is IDLE; NONE: none such, AXLE 0.");
        chain(20, 30, 20, 30);
        x.slot(1, 2, 1, 1);
        for (int a = 3; a < 10; a++) {
            due(-2, x.way(a));
        }
        due(-1, x.way(0));
        due(-1, x.way(10));
        due(-1, x.way(-1));
        due(-1, x.way(Integer.MAX_VALUE));
        due("[2, 1]", rowNow());
        // turns that jam or are too long have their ways
        x.mesh(0, 3);
        due(-3, x.turn(2));
        due("1[2]", told(x.way(2)));
        driveBy(ABOVE, true);
        due("6[0, 1, 2, 3, 4, 5]", told(x.way(6)));
    }
}
