/** Boundaries that the document names in its terms. */
abstract class TermEdges extends Edges {
    static void all() {
        wheels();
        meshes();
        turns();
        places();
        book();
        shop();
        ways();
        orderOfFittings();
        trains();
        row();
        calls();
    }

    private static void wheels() {
        edge("Terms", "WHEELS 0 .. (at most 14)");
        fresh();
        dueThrows(() -> x.of(0, 0));
        for (int w = 0; w < 14; w++) {
            due(w, x.wheel(10 + w, 400, w % 10, w % 10));
        }
        due(-1, x.wheel(10, 400, 0, 0));
        due(14, x.count(0));
        due("10 400 0 0", ofWheel(0, 0, 1, 3, 4));
        due("23 400 3 3", ofWheel(13, 0, 1, 3, 4));
        dueThrows(() -> x.of(14, 0));

        edge("Terms", "TEETH from LEAST to MOST (10 .. 400), of which one number is TAKEN (at first LEAST)");
        fresh();
        due(0, x.wheel(10, 400, 0, 0));
        due("10 400 10", ofWheel(0, 0, 1, 2));
        due(1, x.wheel(10, 10, 0, 0));
        due("10 10 10", ofWheel(1, 0, 1, 2));
        due(2, x.wheel(400, 400, 0, 0));
        due("400 400 400", ofWheel(2, 0, 1, 2));
        due(-1, x.wheel(9, 400, 0, 0));
        due(-1, x.wheel(9, 9, 0, 0));
        due(-1, x.wheel(10, 401, 0, 0));
        due(-1, x.wheel(401, 401, 0, 0));
        due(-1, x.wheel(12, 11, 0, 0));
        due(-1, x.wheel(0, 0, 0, 0));
        due(-1, x.wheel(-10, 10, 0, 0));
        due(-1, x.wheel(Integer.MIN_VALUE, 10, 0, 0));
        due(-1, x.wheel(10, Integer.MAX_VALUE, 0, 0));
        due(3, x.count(0));

        edge("Terms", "an AXLE 0 .. 9, a DEPTH 0 .. 9");
        fresh();
        due(0, x.wheel(20, 20, 0, 9));
        due(1, x.wheel(20, 20, 9, 0));
        due("0 9", ofWheel(0, 3, 4));
        due("9 0", ofWheel(1, 3, 4));
        due(-1, x.wheel(20, 20, -1, 0));
        due(-1, x.wheel(20, 20, 10, 0));
        due(-1, x.wheel(20, 20, 0, -1));
        due(-1, x.wheel(20, 20, 0, 10));
        due(-1, x.wheel(20, 20, Integer.MIN_VALUE, 0));
        due(-1, x.wheel(20, 20, 0, Integer.MAX_VALUE));
        due(2, x.count(0));
    }

    /** Wheel 0 .. 7 on axle 0 .. 7: even ones and odd ones mesh, sixteen times, and nothing jams. */
    static void sixteenMeshes() {
        for (int a = 0; a < 8; a++) {
            wheel(20 + a, a, 0);
        }
        for (int even = 0; even < 8; even += 2) {
            for (int odd = 1; odd < 8; odd += 2) {
                x.mesh(even, odd);
            }
        }
    }

    private static void meshes() {
        edge("Terms", "MESHES (at most 16): of two unlike WHEELS on unlike AXLES, each pair once.");
        fresh();
        sixteenMeshes();
        due(16, x.count(1));
        due(-1, x.mesh(0, 2));
        due(16, x.count(1));
        due(255, x.turning());
        due(15, x.part());
        due(16, x.mesh(0, 2));
        fresh();
        wheel(20, 0, 0);
        wheel(30, 0, 1);
        wheel(40, 1, 0);
        wheel(40, 2, 0);
        due(-1, x.mesh(0, 0));
        due(-1, x.mesh(0, 1));
        due(1, x.mesh(0, 2));
        due(-1, x.mesh(0, 2));
        due(-1, x.mesh(2, 0));
        // two axles may mesh by two pairs of wheels, and one wheel with several
        due(2, x.mesh(2, 1));
        due(3, x.mesh(3, 0));
        due(3, x.count(1));
        due("0 0 3 1", ofWheel(1, 3) + " " + (x.of(0, 5) & 2) + " " + x.of(2, 5) + " " + x.of(3, 5));
    }

    private static void turns() {
        edge("Terms", "TURNS of AXLES for one turn of AXLE 0 (by TAKEN TEETH): 1 of AXLE 0 itself; if two WHEELS MESH, and the AXLE"
            + " of the one turns by v, that of the other turns by - v * (TEETH of the one) / (TEETH of the other).");
        fresh();
        due("0[1, 1]", told(x.turn(0)));
        x.wheel(20, 30, 0, 0);
        x.wheel(40, 50, 1, 0);
        x.wheel(60, 70, 2, 0);
        due("0[1, 1]", told(x.turn(0)));
        x.mesh(0, 1);
        x.mesh(2, 1);
        due("0[-1, 2]", told(x.turn(1)));
        due("0[1, 3]", told(x.turn(2)));
        // by what is taken, not by the ends of the spans
        x.take(0, 25);
        x.take(1, 45);
        due("0[-5, 9]", told(x.turn(1)));
        due("0[5, 12]", told(x.turn(2)));
        x.take(2, 70);
        due("0[5, 14]", told(x.turn(2)));

        edge("Terms", "AXLES are reached from 0 on by MESHES; one that none leads to is IDLE.");
        fresh();
        wheel(20, 0, 0);
        wheel(20, 1, 0);
        wheel(20, 2, 0);
        wheel(20, 3, 0);
        x.mesh(2, 3);
        due(-2, x.turn(1));
        due(-2, x.turn(2));
        due(-2, x.turn(3));
        due(-2, x.turn(9));
        x.mesh(1, 2);
        due(-2, x.turn(3));
        x.mesh(0, 1);
        due("0[-1, 1]", told(x.turn(3)));
        due(-2, x.turn(9));

        edge("Terms", "If some AXLE would have to turn by two unlike numbers, all JAMS.");
        fresh();
        wheel(20, 0, 0);
        wheel(40, 1, 0);
        wheel(30, 0, 1);
        x.wheel(60, 61, 1, 1);
        x.mesh(0, 1);
        x.mesh(2, 3);
        // twice by the same number
        due("0[-1, 2]", told(x.turn(1)));
        x.take(3, 61);
        due(-3, x.turn(1));
        due(-3, x.turn(0));
        // a ring of three: of like size, but both ways; the ring of four goes
        fresh();
        for (int a = 0; a < 4; a++) {
            wheel(20, a, 0);
        }
        x.mesh(0, 1);
        x.mesh(1, 2);
        x.mesh(2, 0);
        due(-3, x.turn(0));
        x.part();
        x.mesh(2, 3);
        x.mesh(3, 0);
        due("0[-1, 1]", told(x.turn(3)));
    }

    private static void places() {
        edge("Terms", "AXLES stand at x, y (-500 .. 500, at first 0, 0).");
        fresh();
        // at one place: two wheels of one depth are in each other's way, on whichever axles
        for (int a = 0; a < 10; a++) {
            wheel(10, a, 0);
        }
        due("45[45, 0, 1, 0, -1, 0, -1, 0]", told(x.room(0)));
        due(true, x.axle(0, -500, -500));
        due(true, x.axle(1, 500, 500));
        due(true, x.axle(2, -500, 500));
        due(true, x.axle(3, 500, -500));
        due(false, x.axle(4, -501, 0));
        due(false, x.axle(4, 501, 0));
        due(false, x.axle(4, 0, -501));
        due(false, x.axle(4, 0, 501));
        due(false, x.axle(4, Integer.MAX_VALUE, 0));
        due(false, x.axle(4, 0, Integer.MIN_VALUE));
        // the six that did not go stand together still
        due("15[15, 4, 5, 0, -1, 0, -1, 0]", told(x.room(0)));

        edge("Terms", "HALF of a WHEEL (how far it goes from its AXLE): TEETH.");
        fresh();
        wheel(400, 0, 0);
        wheel(10, 1, 0);
        x.axle(1, 410, 0);
        due(0, x.room(0));
        x.axle(1, 409, 0);
        due(1, x.room(0));
    }

    private static void book() {
        edge("Terms", "THE BOOK: PERIODS 0 .. (at most 8)");
        fresh();
        due(0, x.count(2));
        due(-1, x.nearest(0));
        due(8, book("1:1;1:2;1:3;1:4;1:5;1:6;1:7;1:8"));
        due("8[1]", told(x.meets(128)));
        due(-1, x.meets(256));
        due(-1, x.nearest(8));
        due(-32, book("1:1;1:2;1:3;1:4;1:5;1:6;1:7;1:8;1:9"));
        due(8, x.count(2));

        edge("Terms", "UP turns in DOWN years (1 .. 2000 each; AXLE 0 turns once a year)");
        fresh();
        due(2, book("1:2000;2000:1"));
        due("2000[1]", told(x.meets(1)));
        due("1[2000]", told(x.meets(2)));
        due(-1, book("0:1"));
        due(-3, book("1:0"));
        due(-4, book("2001:1"));
        due(-6, book("1:2001"));
        book("1:1;2:2;2:1");
        due("3[3]", told(x.gives(0)));

        edge("Terms", "told as a text of at most 60 signs");
        fresh();
        due(6, book("1999:1999;1999:1999;1999:1999;1999:1999;1999:1999;1999:1999z"));
        due(-61, book("1999:1999;1999:1999;1999:1999;1999:1999;1999:1999a;1999:1999z"));

        edge("Terms", "LINES with ; between, each UP, :, DOWN (NUMBERS of 1 to 4 digits), and perhaps one of the letters a .. z, its"
            + " NAME (else none).");
        fresh();
        due(4, book("1:1000a;10:100z;0100:0010m;1000:0001"));
        due("1000[1]", told(x.meets(1)));
        due("10[1]", told(x.meets(2)));
        due("1[10]", told(x.meets(4)));
        due("1[1000]", told(x.meets(8)));
        due("1[0]", told(names("a")));
        due("1[1]", told(names("z")));
        due("1[2]", told(names("m")));
        due("24[0, 1, 2, 3]", told(names("????")));
        due(0, names("b"));
        // a fifth digit, no digit, no : and another sign for a name can't stand
        due(-5, book("10000:1"));
        due(-7, book("1:10000"));
        due(-1, book(":1"));
        due(-3, book("1::1"));
        due(-2, book("1;1:1"));
        due(-4, book("1:1`"));
        due(-4, book("1:1{"));
        due(-5, book("1:1ab"));
        due(4, x.count(2));
    }

    private static void shop() {
        edge("Terms", "THE SHOP: TEETH of new WHEELS from LOW to HIGH (10 .. 400; HIGH at most 200 more; at first 15, 120).");
        fresh();
        due("15 120", x.count(9) + " " + x.count(10));
        book("1:1;8:1;121:15");
        due("106[15, 15]", told(x.trains(0, 1)));
        due("1[120, 15]", told(x.trains(1, 1)));
        due("0[]", told(x.trains(2, 1)));
        due(true, x.shop(10, 210));
        due(false, x.shop(10, 211));
        due(false, x.shop(9, 209));
        due("10 210", x.count(9) + " " + x.count(10));
        due("201[10, 10]", told(x.trains(0, 1)));
        due(true, x.shop(200, 400));
        due(false, x.shop(199, 400));
        due(false, x.shop(201, 401));
        due(true, x.shop(10, 10));
        due(true, x.shop(400, 400));
        due(false, x.shop(400, 399));
        due("400 400", x.count(9) + " " + x.count(10));
        due("1[400, 400]", told(x.trains(0, 1)));
    }

    private static void ways() {
        edge("Terms", "(the way of the fewest MESHES; of equal ones that which goes by the first MESHES, told from AXLE 0 on; WHEELS"
            + " of its MESHES)");
        fresh();
        x.wheel(20, 21, 0, 0);
        x.wheel(30, 31, 1, 0);
        x.wheel(40, 42, 2, 0);
        x.mesh(0, 1);
        x.mesh(1, 2);
        book("1:2");
        due("2[0, 1]", told(x.way(2)));
        due("4[20, 30, 40]", told(x.fittings(2, 0)));
        x.mesh(0, 2);
        due("1[2]", told(x.way(2)));
        due("2[20, 40]", told(x.fittings(2, 0)));
        due(-1, x.sure(2, 0, 1));
        // two ways of two: from axle 0 on mesh 1 is ahead of mesh 2, though mesh 0 ends the other way
        fresh();
        for (int a = 0; a < 4; a++) {
            x.wheel(20 + 10 * a, 21 + 10 * a, a, 0);
        }
        x.mesh(2, 3);
        x.mesh(0, 1);
        x.mesh(0, 2);
        x.mesh(1, 3);
        due("2[1, 3]", told(x.way(3)));
        book("2:5");
        due("2[20, 30, 50]", told(x.fittings(3, 0)));
        due(-1, x.sure(3, 0, 2));
        // alike at first: then the next mesh tells
        fresh();
        wheel(20, 0, 0);
        wheel(20, 1, 0);
        wheel(20, 1, 1);
        wheel(20, 2, 0);
        wheel(20, 2, 1);
        x.mesh(1, 4);
        x.mesh(2, 3);
        x.mesh(0, 2);
        x.mesh(0, 1);
        due("2[2, 0]", told(x.way(2)));

        edge("Terms", "each within its span, with which the size of the AXLE's TURNS by that way alone is u / d.");
        fresh();
        x.wheel(20, 22, 0, 0);
        x.wheel(40, 44, 1, 0);
        x.mesh(0, 1);
        book("1:2;5:11;11:20;19:40;23:44;20:39;22:45;44:88");
        due("3[20, 40]", told(x.fittings(1, 0)));
        due("1[20, 44]", told(x.fittings(1, 1)));
        due("1[22, 40]", told(x.fittings(1, 2)));
        for (int period = 3; period < 7; period++) {
            due("0[]", told(x.fittings(1, period)));
        }
        due("3[20, 40]", told(x.fittings(1, 7)));
        // the axle turns against axle 0, and another way jams it
        due("0[-1, 2]", told(x.turn(1)));
        wheel(30, 2, 0);
        x.mesh(0, 2);
        x.mesh(2, 1);
        due(-3, x.turn(1));
        due("3[20, 40]", told(x.fittings(1, 0)));

        edge("Terms", "They are gone through if all ways together (FITTING or not) are at most 200000, else -4 is answered (the ROW"
            + " stays).");
        threeSpans(250, 160, 5);
        due("800[10, 10, 10]", told(x.fittings(2, 0)));
        // the very last way of all is one of them
        due("5[259, 10, 169]", told(x.fittings(2, 1)));
        due(true, x.fit(2, 1, 4));
        due("259 14 169", x.of(0, 2) + " " + x.of(1, 2) + " " + x.of(2, 2));
        due(false, x.fit(2, 1, 5));
        due("0[]", told(x.fittings(2, 2)));
        // twice as many by a wheel that comes after
        x.wheel(10, 11, 2, 1);
        wheel(10, 3, 1);
        x.mesh(3, 4);
        due(-4, x.fittings(3, 0));
        due(800, x.fittings(2, 0));
        // 221 * 181 * 5 is 200005
        threeSpans(221, 181, 5);
        x.slot(1, 2, 1, 1);
        due(-4, x.fittings(2, 0));
        due(-4, x.fittings(2, 2));
        due(-4, x.may(2));
        due(-4, x.next(2, 0));
        due(-4, x.sure(2, 0, 0));
        due(false, x.fit(2, 0, 0));
        due("[2, 1]", rowNow());
        // to axle 1 they are 1105
        due("5[10, 10]", told(x.fittings(1, 0)));
    }

    /** Axle 0 drives 2 by an idle wheel on 1; spans of so many numbers from 10 on. */
    static void threeSpans(int first, int last, int between) {
        fresh();
        x.wheel(10, 9 + first, 0, 0);
        x.wheel(10, 9 + between, 1, 0);
        x.wheel(10, 9 + last, 2, 0);
        x.mesh(0, 1);
        x.mesh(1, 2);
        book("1:1;259:169;1999:1");
    }

    private static void orderOfFittings() {
        edge("Terms", "They stand in order by the first WHEEL's TEETH (by numbers of WHEELS), then the next one's, ..");
        fresh();
        // wheel 1 stands ahead of wheel 0 on the way; both drive, and together they are 600
        x.wheel(20, 30, 1, 0);
        x.wheel(20, 30, 0, 1);
        wheel(20, 1, 1);
        wheel(30, 2, 0);
        x.mesh(1, 2);
        x.mesh(0, 3);
        book("1:1");
        due("4[20, 30, 20, 30]", told(x.fittings(2, 0)));
        String[] order = {"20 30", "24 25", "25 24", "30 20"};
        for (int i = 0; i < 4; i++) {
            due(true, x.fit(2, 0, i));
            due(order[i], x.of(0, 2) + " " + x.of(1, 2));
        }
        due(false, x.fit(2, 0, 4));
        // of one number of the first wheel, then by the second, then by the third
        threeSpans(3, 3, 2);
        String[] next = {"10 10 10", "10 11 10", "11 10 11", "11 11 11", "12 10 12", "12 11 12"};
        for (int i = 0; i < 6; i++) {
            due(true, x.fit(2, 0, i));
            due(next[i], x.of(0, 2) + " " + x.of(1, 2) + " " + x.of(2, 2));
        }
        due(false, x.fit(2, 0, 6));
    }

    private static void trains() {
        edge("Terms", "A TRAIN of k pairs (1, 2) for u / d: TEETH a (and b) that drive c (and e), all within THE SHOP: a / c (times"
            + " b / e) is u / d; a not above b, c not above e.");
        fresh();
        x.shop(10, 12);
        book("1:1;6:5;5:6;13:10;10:13;36:25;3:2");
        due("3[10, 10]", told(x.trains(0, 1)));
        due("1[12, 10]", told(x.trains(1, 1)));
        due("1[10, 12]", told(x.trains(2, 1)));
        due("0[]", told(x.trains(3, 1)));
        due("0[]", told(x.trains(4, 1)));
        // all products of two are unlike: each pair is driven by itself alone, told once
        due("6[10, 10, 10, 10]", told(x.trains(0, 2)));
        due("3[10, 12, 10, 10]", told(x.trains(1, 2)));
        due("3[10, 10, 10, 12]", told(x.trains(2, 2)));
        due("1[12, 12, 10, 10]", told(x.trains(5, 2)));
        due("0[]", told(x.trains(6, 2)));

        edge("Terms", "Of two the one with the fewer TEETH together stands ahead; of equal ones the one with less a, then b, then c,"
            + " then e.");
        // one pair: 20 / 10 of 20 / 10, 22 / 11, 24 / 12
        x.shop(10, 25);
        book("2:1;36:77;5:11;1:3");
        due("3[20, 10]", told(x.trains(0, 1)));
        // 10 10 by 10 30 has 60 together, by 15 20 it has 55
        x.shop(10, 30);
        x.trains(3, 2);
        due("[10, 10, 15, 20]", rowNow());
        // 210 together: 40 45 by 55 70 and 42 42 by 49 77
        x.shop(40, 90);
        x.trains(1, 2);
        due("[40, 45, 55, 70]", rowNow());
        // 102 together: 20 20 by 22 40 and 20 21 by 28 33
        x.shop(20, 50);
        x.trains(2, 2);
        due("[20, 20, 22, 40]", rowNow());
    }

    private static void row() {
        edge("Terms", "ROW: numbers told last by a call that says so. Fractions are told in lowest terms, upper number (below 0 it may"
            + " be) and lower one.");
        fresh();
        due("[]", rowNow());
        wheel(20, 0, 0);
        wheel(40, 1, 0);
        x.mesh(0, 1);
        due("0[-1, 2]", told(x.turn(1)));
        book("1000:2000;2:2;400:100");
        due("2[-7, 2]", told(x.near(1, 2, 1)));
        due("1[1, 2]", told(x.near(0, 0, 1)));
        due("0[0, 1]", told(x.near(0, 1, 7)));
        due("2[2, 3]", told(x.slot(50, 100, -20, 20)));
        // a shorter row leaves nothing of the longer one
        x.room(0);
        due(8, x.count(7));
        due("3[1]", told(x.turning()));
        // calls that tell no row leave it as it is
        x.jams();
        x.may(1);
        x.fit(1, 0, 0);
        x.off(1, 0, 3);
        x.pierced();
        x.year();
        x.take(0, 20);
        x.sheet(3, 0, 0, 0);
        x.arc(0, 20, 3600, 0);
        x.wheel(20, 20, 5, 5);
        x.mesh(2, 0);
        x.part();
        x.of(0, 0);
        x.dial(4, true);
        x.seen(4, true);
        x.games(4);
        x.left(0, 0, 10, 20);
        x.keep(0);
        x.again(0);
        x.axle(0, 3, 3);
        x.shop(20, 30);
        x.sign(1);
        x.end(2);
        x.book();
        x.count(0);
        x.row(0);
        due("[1]", rowNow());
    }

    private static void calls() {
        about = "What it is, 'An object is used for at most 512 calls after it has been made'";
        fresh();
        sixteenMeshes();
        // 24 so far; the last turn is call 510, both rows are 511 and 512
        for (int call = 25; call < 510; call++) {
            x.turn(7);
        }
        due(0, x.turn(7));
        due(-20L, x.row(0));
        due(27L, x.row(1));
    }
}
