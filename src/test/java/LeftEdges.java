/** Boundaries that the promises of what is left, of builds, counts and the row name: 45 to 51. */
abstract class LeftEdges extends Edges {
    static void all() {
        left();
        breaks();
        fewestWheels();
        keep();
        again();
        unlike();
        unlikeLeft();
        count();
        row();
    }

    private static void left() {
        edge("left", "What is LEFT (at most 12): on an AXLE at a DEPTH a WHEEL of TEETH from low to high: its number. Refused: others (10"
            + " .. 400, low not above high).");
        fresh();
        due(-1, x.left(-1, 0, 20, 30));
        due(-1, x.left(10, 0, 20, 30));
        due(-1, x.left(0, -1, 20, 30));
        due(-1, x.left(0, 10, 20, 30));
        due(-1, x.left(0, 0, 9, 30));
        due(-1, x.left(0, 0, 20, 401));
        due(-1, x.left(0, 0, 9, 9));
        due(-1, x.left(0, 0, 401, 401));
        due(-1, x.left(0, 0, 31, 30));
        due(-1, x.left(0, 0, 0, 0));
        due(-1, x.left(Integer.MIN_VALUE, 0, 20, 30));
        due(-1, x.left(0, Integer.MAX_VALUE, 20, 30));
        due(-1, x.left(0, 0, Integer.MIN_VALUE, 30));
        due(-1, x.left(0, 0, 20, Integer.MAX_VALUE));
        due(0, x.count(6));
        due(0, x.left(0, 0, 10, 400));
        due(1, x.left(9, 9, 10, 10));
        due(2, x.left(9, 0, 400, 400));
        due(3, x.left(0, 9, 30, 30));
        for (int i = 4; i < 12; i++) {
            due(i, x.left(0, 0, 10, 400));
        }
        due(-1, x.left(0, 0, 10, 400));
        due(-1, x.left(0, 0, 9, 400));
        due(12, x.count(6));
    }

    private static void breaks() {
        edge("breaks", "What is LEFT (bits) that no WHEEL is now (its TAKEN TEETH within; one WHEEL may be several);");
        fresh();
        due("0[0]", told(x.breaks()));
        x.left(3, 4, 20, 30);
        due("1[-1]", told(x.breaks()));
        x.wheel(10, 400, 3, 4);
        due("1[-1]", told(x.breaks()));
        x.take(0, 19);
        due("1[-1]", told(x.breaks()));
        x.take(0, 20);
        due("0[1]", told(x.breaks()));
        x.take(0, 30);
        due("0[1]", told(x.breaks()));
        x.take(0, 31);
        due("1[-1]", told(x.breaks()));
        // another axle, another depth
        wheel(25, 2, 4);
        wheel(25, 3, 5);
        due("1[-1]", told(x.breaks()));
        x.take(0, 25);
        // one wheel is all twelve
        for (int i = 1; i < 12; i++) {
            x.left(3, 4, 25 - i, 25 + i);
        }
        due("0[1]", told(x.breaks()));
        x.take(0, 27);
        due("2[-1]", told(x.breaks()));
        x.take(0, 36);
        due("2047[-1]", told(x.breaks()));
        x.take(0, 37);
        due("4095[-1]", told(x.breaks()));
    }

    private static void fewestWheels() {
        edge("breaks", "the ROW: the fewest of WHEELS that could be it all (each LEFT one is one of them; NONE, if some are not).");
        fresh();
        wheel(20, 0, 0);
        due("0[0]", told(x.breaks()));
        // 25 is both the first and the second, 35 the second and the third: two of three
        fresh();
        x.left(0, 0, 20, 26);
        x.left(0, 0, 24, 36);
        x.left(0, 0, 34, 40);
        wheel(20, 0, 0);
        wheel(30, 0, 0);
        wheel(40, 0, 0);
        due("0[3]", told(x.breaks()));
        wheel(25, 0, 0);
        due("0[2]", told(x.breaks()));
        x.left(0, 0, 30, 30);
        due("0[3]", told(x.breaks()));
        // 30 takes over the second: 20 or 25, 30, 40 do
        x.left(0, 0, 20, 20);
        due("0[3]", told(x.breaks()));
        x.left(0, 0, 25, 25);
        due("0[4]", told(x.breaks()));
        // of other places each needs one more; the greatest that could be it may be told first
        x.left(1, 0, 20, 30);
        due("64[-1]", told(x.breaks()));
        wheel(30, 1, 0);
        due("0[5]", told(x.breaks()));
        x.left(1, 1, 20, 30);
        wheel(20, 1, 1);
        due("0[6]", told(x.breaks()));
        fresh();
        wheel(30, 0, 0);
        wheel(25, 0, 0);
        wheel(20, 0, 0);
        x.left(0, 0, 20, 30);
        x.left(0, 0, 30, 40);
        due("0[1]", told(x.breaks()));
        fresh();
        wheel(20, 0, 0);
        wheel(35, 0, 0);
        x.left(0, 0, 30, 40);
        x.left(0, 0, 20, 25);
        x.left(0, 0, 19, 26);
        due("0[2]", told(x.breaks()));
        // twelve places need twelve
        fresh();
        for (int i = 0; i < 12; i++) {
            wheel(30, i % 10, i / 10);
            x.left(i % 10, i / 10, 30, 30);
        }
        due("0[12]", told(x.breaks()));
    }

    private static void keep() {
        edge("keep", "A BUILD (WHEELS, MESHES, AXLES' places) is kept under a number 0 .. 3: true. Refused: others.");
        fresh();
        for (int i = 0; i < 4; i++) {
            wheel(20 + i, i, 0);
            due(true, x.keep(i));
        }
        due(false, x.keep(4));
        due(false, x.keep(-1));
        due(false, x.keep(Integer.MIN_VALUE));
        due(false, x.keep(Integer.MAX_VALUE));
        for (int i = 0; i < 4; i++) {
            due(true, x.again(i));
            due(i + 1, x.count(0));
        }
        // kept anew under a number: what stood there is gone, others stay
        x.again(0);
        due(true, x.keep(3));
        due(true, x.again(2));
        due(3, x.count(0));
        due(true, x.again(3));
        due(1, x.count(0));
        // a full one
        fresh();
        TermEdges.sixteenMeshes();
        for (int w = 8; w < 14; w++) {
            wheel(30, 9, w - 8);
        }
        x.axle(9, 500, -500);
        x.keep(3);
        for (int m = 0; m < 16; m++) {
            x.part();
        }
        x.sheet(3, 0, 0, 0);
        x.axle(9, 0, 0);
        due(true, x.again(3));
        due("14 16", x.count(0) + " " + x.count(1));
        due(-1, x.wheel(20, 20, 0, 0));
        due(-1, x.mesh(0, 2));
        due(255, x.turning());
    }

    private static void again() {
        edge("again", "It is as it was kept under a number. Refused: nothing kept.");
        fresh();
        x.wheel(20, 30, 0, 0);
        x.wheel(20, 30, 1, 0);
        x.mesh(0, 1);
        x.axle(1, 50, 0);
        x.take(0, 25);
        x.take(1, 25);
        for (int i = -1; i < 5; i++) {
            due(false, x.again(i));
        }
        due(false, x.again(Integer.MIN_VALUE));
        due(false, x.again(Integer.MAX_VALUE));
        due("2 1", x.count(0) + " " + x.count(1));
        x.keep(2);
        due(false, x.again(0));
        due(false, x.again(1));
        due(false, x.again(3));
        due(false, x.again(4));
        x.arc(0, 1, 144, 0);
        x.take(1, 30);
        x.axle(1, 0, 0);
        x.part();
        wheel(40, 2, 0);
        x.mesh(0, 2);
        due(true, x.again(2));
        due("20 30 25", ofWheel(0, 0, 1, 2));
        due("20 30 25", ofWheel(1, 0, 1, 2));
        due("2 1 2 1", x.count(0) + " " + x.count(1) + " " + x.of(0, 5) + " " + x.of(1, 5));
        due(0, x.room(0));
        dueThrows(() -> x.of(2, 0));
        // both ends of a mesh, and both numbers of a place
        wheel(20, 2, 0);
        wheel(20, 3, 0);
        x.part();
        x.mesh(2, 3);
        x.axle(3, 24, 32);
        x.keep(1);
        x.part();
        x.mesh(0, 3);
        x.axle(3, 24, 0);
        x.again(1);
        due("0 0 8 4", x.of(0, 5) + " " + x.of(1, 5) + " " + x.of(2, 5) + " " + x.of(3, 5));
        x.room(0);
        due(0L, x.row(5));
        x.part();
        x.mesh(2, 0);
        x.axle(3, 0, 32);
        x.again(1);
        due("0 0 8 4", x.of(0, 5) + " " + x.of(1, 5) + " " + x.of(2, 5) + " " + x.of(3, 5));
        x.room(0);
        due(0L, x.row(5));
        x.again(2);
        // what comes next goes on from there, and what is kept stays so
        due(2, wheel(50, 3, 3));
        due("50 3 3 0", ofWheel(2, 2, 3, 4, 5));
        due(2, x.mesh(0, 2));
        due(true, x.again(2));
        due("2 1", x.count(0) + " " + x.count(1));
        // the book, the text, the shop, the dial, what is left and the row are no part of it
        book("1:1;2:1");
        x.shop(20, 30);
        x.dial(3, true);
        x.seen(4, true);
        x.games(5);
        x.left(0, 0, 10, 20);
        x.sign(0);
        x.slot(1, 2, 1, 1);
        due(true, x.again(2));
        due("2 1 1 1 1 2 4 20 30", x.count(2) + " " + x.count(3) + " " + x.count(4) + " " + x.count(5) + " " + x.count(6) + " "
            + x.count(7) + " " + x.count(8) + " " + x.count(9) + " " + x.count(10));
    }

    private static void unlike() {
        edge("unlike", "Two kept BUILDS, WHEEL by WHEEL (by numbers): how many are unlike (in TAKEN TEETH, AXLE or DEPTH; one that the"
            + " other has not, too); the ROW: they (bits), then what is LEFT that the one breaks, and the other (bits). NONE:"
            + " nothing kept.");
        fresh();
        x.slot(1, 2, 1, 1);
        due(-1, x.unlike(0, 0));
        due(-1, x.unlike(0, 1));
        x.keep(0);
        due(-1, x.unlike(0, 1));
        due(-1, x.unlike(1, 0));
        due(-1, x.unlike(0, 4));
        due(-1, x.unlike(4, 0));
        due(-1, x.unlike(-1, 0));
        due(-1, x.unlike(0, -1));
        due(-1, x.unlike(Integer.MIN_VALUE, Integer.MAX_VALUE));
        due("[2, 1]", rowNow());
        due("0[0, 0, 0]", told(x.unlike(0, 0)));
        // none to fourteen
        for (int w = 0; w < 14; w++) {
            x.wheel(20, 30, 5, 5);
        }
        x.keep(3);
        due("14[16383, 0, 0]", told(x.unlike(0, 3)));
        due("14[16383, 0, 0]", told(x.unlike(3, 0)));
        due("0[0, 0, 0]", told(x.unlike(3, 3)));
        // the last of them by one tooth
        x.take(13, 21);
        x.keep(1);
        due("1[8192, 0, 0]", told(x.unlike(3, 1)));
        x.take(13, 20);
        x.axle(5, 7, 7);
        x.keep(1);
        due("0[0, 0, 0]", told(x.unlike(3, 1)));
        // by the axle alone, by the depth alone; spans and meshes do not count
        fresh();
        x.wheel(20, 30, 5, 5);
        x.wheel(20, 30, 5, 5);
        x.wheel(20, 30, 5, 5);
        x.keep(0);
        fresh();
        x.keep(3);
        x.wheel(20, 30, 5, 5);
        x.wheel(20, 30, 6, 6);
        x.wheel(20, 30, 6, 6);
        x.wheel(20, 30, 6, 6);
        x.keep(0);
        x.again(3);
        x.wheel(20, 40, 5, 5);
        x.wheel(20, 20, 7, 6);
        x.wheel(10, 30, 6, 7);
        x.take(2, 20);
        x.wheel(21, 30, 6, 6);
        x.mesh(0, 1);
        x.keep(1);
        due("3[14, 0, 0]", told(x.unlike(0, 1)));
    }

    private static void unlikeLeft() {
        fresh();
        x.keep(0);
        wheel(20, 0, 0);
        x.keep(1);
        x.left(0, 0, 20, 30);
        x.left(0, 0, 21, 30);
        due("1[1, 3, 2]", told(x.unlike(0, 1)));
        due("1[1, 2, 3]", told(x.unlike(1, 0)));
        due("0[0, 3, 3]", told(x.unlike(0, 0)));
        for (int i = 2; i < 12; i++) {
            x.left(9, 9, 10, 400);
        }
        due("1[1, 4095, 4094]", told(x.unlike(0, 1)));
        // what is now does not count
        wheel(30, 9, 9);
        due("1[1, 4095, 4094]", told(x.unlike(0, 1)));
    }

    private static void count() {
        edge("count", "What 0: WHEELS, 1: MESHES, 2: PERIODS, 3: marks on the dial, 4: SEEN, 5: games, 6: LEFT, 7: numbers of the ROW, 8:"
            + " signs of THE TEXT, 9: LOW, 10: HIGH. NONE for another what.");
        fresh();
        int[] none = {0, 0, 0, 0, 0, 0, 0, 0, 0, 15, 120};
        for (int what = 0; what < 11; what++) {
            due(none[what], x.count(what));
        }
        for (int n = 0; n < 2; n++) {
            due(-1, x.count(-1));
            due(-1, x.count(11));
            due(-1, x.count(Integer.MIN_VALUE));
            due(-1, x.count(Integer.MAX_VALUE));
            full();
        }
        int[] full = {14, 16, 8, 223, 20, 8, 12, 10, 80, 200, 400};
        for (int what = 0; what < 11; what++) {
            due(full[what], x.count(what));
        }
    }

    /** As much of all as there may be; of the row ten. */
    private static void full() {
        fresh();
        TermEdges.sixteenMeshes();
        for (int w = 8; w < 14; w++) {
            wheel(20, 9, 9);
        }
        book("1:1;1:1;1:1;1:1;1:1;1:1;1:1;1:1");
        for (int month = 0; month < 223; month++) {
            x.dial(month, true);
        }
        for (int i = 0; i < 20; i++) {
            x.seen(i, true);
            x.games(i);
            x.left(0, 0, 20, 20);
            x.sign(0);
        }
        x.shop(200, 400);
        x.when();
    }

    private static void row() {
        edge("row", "Number i of the ROW. NoSuchElementException: none such.");
        fresh();
        dueThrows(() -> x.row(0));
        dueThrows(() -> x.row(-1));
        x.when();
        for (int i = 0; i < 10; i++) {
            due((long) i, x.row(i));
        }
        dueThrows(() -> x.row(10));
        dueThrows(() -> x.row(-1));
        dueThrows(() -> x.row(Integer.MIN_VALUE));
        dueThrows(() -> x.row(Integer.MAX_VALUE));
        x.turning();
        due(1L, x.row(0));
        dueThrows(() -> x.row(1));
        dueThrows(() -> x.row(9));
        // the longest: fourteen
        for (int w = 0; w < 14; w++) {
            wheel(20, 5, 0);
        }
        x.depths();
        due(13L, x.row(13));
        dueThrows(() -> x.row(14));
        // a row of none
        x.seen(0, true);
        x.when();
        dueThrows(() -> x.row(0));
        due(0, x.count(7));
    }
}
