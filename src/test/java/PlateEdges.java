/** Boundaries that the promises of plates and of a pin in a slot name: 28 to 33. */
abstract class PlateEdges extends Edges {
    static void all() {
        axle();
        roomCrowded();
        roomOfMeshes();
        roomStacked();
        roomSlack();
        pierced();
        depths();
        depthsOfEqualOnes();
        depthsRefused();
        slot();
        uneven();
        unevenRefused();
    }

    private static void axle() {
        edge("axle", "An AXLE stands at x, y: true. Refused: others.");
        fresh();
        wheel(400, 0, 0);
        wheel(400, 9, 0);
        x.mesh(0, 1);
        due(true, x.axle(0, -500, 0));
        due(true, x.axle(9, 300, 0));
        due(0, x.room(0));
        due(false, x.axle(9, 501, 0));
        due(false, x.axle(9, -501, 0));
        due(false, x.axle(9, 0, 501));
        due(false, x.axle(9, 0, -501));
        due(false, x.axle(9, 501, -501));
        due(false, x.axle(9, Integer.MIN_VALUE, 0));
        due(false, x.axle(9, 0, Integer.MAX_VALUE));
        due(false, x.axle(10, 0, 0));
        due(false, x.axle(-1, 0, 0));
        due(false, x.axle(Integer.MAX_VALUE, 0, 0));
        due(0, x.room(0));
        // farthest of all: 1000 and 1000 apart
        due(true, x.axle(0, -500, 500));
        due(true, x.axle(9, 500, -500));
        due("1[0, -1, -1, 0, -1, 1, 0, 0]", told(x.room(50)));
        due(true, x.axle(0, 500, -500));
        due(true, x.axle(9, -60, 80));
        due(1, x.room(0));
        // 480 and 640 apart: 800
        due(true, x.axle(0, -480, -500));
        due(true, x.axle(9, 0, 140));
        due(0, x.room(0));
    }

    private static void roomCrowded() {
        edge("room", "the ROW (eight numbers): pairs of WHEELS of one DEPTH on unlike AXLES that do not MESH, whose AXLES are nearer than"
            + " both HALVES together (how many, the first pair: two numbers);");
        fresh();
        wheel(20, 0, 0);
        wheel(30, 1, 0);
        due("1[1, 0, 1, 0, -1, 0, -1, 0]", told(x.room(0)));
        // 50 apart is not nearer; 49 and 9 is, 49 and 10 is not
        x.axle(1, 50, 0);
        due(0, x.room(0));
        x.axle(1, 49, 0);
        due(1, x.room(0));
        x.axle(1, 49, 9);
        due(1, x.room(0));
        x.axle(1, 49, 10);
        due(0, x.room(0));
        x.axle(1, -30, -40);
        due(0, x.room(0));
        x.axle(1, -30, -39);
        due(1, x.room(0));
        // slack does not count here
        due(1, x.room(50));
        // another depth
        wheel(30, 2, 1);
        due(1, x.room(0));
        // of several the first by the first of both, then by the other
        wheel(10, 3, 1);
        wheel(10, 4, 0);
        due("3[3, 0, 1, 0, -1, 0, -1, 0]", told(x.room(0)));
        x.axle(1, 200, 0);
        due("2[2, 0, 4, 0, -1, 0, -1, 0]", told(x.room(0)));
        x.axle(4, 200, 10);
        due("2[2, 1, 4, 0, -1, 0, -1, 0]", told(x.room(0)));
        x.axle(4, 200, 40);
        due("1[1, 2, 3, 0, -1, 0, -1, 0]", told(x.room(0)));
        // those that mesh do not count, those that mesh with others do
        x.axle(4, 200, 10);
        x.mesh(4, 1);
        due("2[1, 2, 3, 0, -1, 1, 0, 0]", told(x.room(0)));
        x.axle(0, 200, 20);
        due("4[3, 0, 1, 0, -1, 1, 0, 0]", told(x.room(0)));
    }

    private static void roomOfMeshes() {
        edge("room", "MESHES of WHEELS of unlike DEPTH (how many, the first MESH), MESHES whose AXLES are more than slack (0 .. 50) nearer"
            + " or farther than both HALVES together (how many, the first MESH);");
        fresh();
        wheel(20, 0, 0);
        wheel(30, 1, 0);
        wheel(30, 1, 1);
        wheel(20, 2, 0);
        wheel(20, 0, 9);
        x.axle(2, -500, 0);
        x.mesh(0, 1);
        x.axle(1, 50, 0);
        due("0[0, -1, -1, 0, -1, 0, -1, 0]", told(x.room(0)));
        // 20 and 30: with slack 1 from 49 to 51; 48 and 10 is 49.03.., 48 and 9 is 48.8..
        x.axle(1, 51, 0);
        due("1[0, -1, -1, 0, -1, 1, 0, 0]", told(x.room(0)));
        due(0, x.room(1));
        x.axle(1, 49, 0);
        due(1, x.room(0));
        due(0, x.room(1));
        x.axle(1, 48, 10);
        due(0, x.room(1));
        x.axle(1, 48, 9);
        due(1, x.room(1));
        x.axle(1, 51, 1);
        due(1, x.room(1));
        x.axle(1, 50, 10);
        due(0, x.room(1));
        x.axle(1, 100, 0);
        due(0, x.room(50));
        due(1, x.room(49));
        x.axle(1, 100, 1);
        due(1, x.room(50));
        // at one place: 50 nearer, and no more than that
        x.axle(1, 0, 0);
        due(0, x.room(50));
        due(1, x.room(49));
        // unlike depths: the second mesh, then the third too
        x.axle(1, 50, 0);
        x.mesh(0, 2);
        due("1[0, -1, -1, 1, 1, 0, -1, 0]", told(x.room(0)));
        x.axle(2, -50, 0);
        x.mesh(4, 3);
        due("3[0, -1, -1, 2, 1, 1, 2, 0]", told(x.room(0)));
        due("2[0, -1, -1, 2, 1, 0, -1, 0]", told(x.room(10)));
        due("3[0, -1, -1, 2, 1, 1, 2, 0]", told(x.room(9)));
        // both of them wrong in both: each counts twice
        x.axle(1, 0, 100);
        due("5[0, -1, -1, 2, 1, 3, 0, 0]", told(x.room(0)));
    }

    private static void roomStacked() {
        edge("room", "two WHEELS of one DEPTH on one AXLE (how many pairs); NONE for each first one that is not. The sum of all. (Exactly,"
            + " by squares.)");
        fresh();
        due("0[0, -1, -1, 0, -1, 0, -1, 0]", told(x.room(0)));
        wheel(20, 4, 3);
        due(0, x.room(0));
        wheel(30, 4, 3);
        due("1[0, -1, -1, 0, -1, 0, -1, 1]", told(x.room(0)));
        wheel(30, 4, 4);
        due("1[0, -1, -1, 0, -1, 0, -1, 1]", told(x.room(0)));
        wheel(40, 4, 3);
        due("3[0, -1, -1, 0, -1, 0, -1, 3]", told(x.room(0)));
        // the most there are: fourteen on one axle at one depth
        fresh();
        for (int w = 0; w < 14; w++) {
            wheel(20, 0, 9);
        }
        due("91[0, -1, -1, 0, -1, 0, -1, 91]", told(x.room(0)));
        // sums of all: two of one depth, a mesh that is wrong twice, two in each other's way
        fresh();
        wheel(20, 0, 0);
        wheel(20, 0, 0);
        wheel(20, 1, 1);
        wheel(20, 1, 0);
        x.mesh(0, 2);
        due("5[2, 0, 3, 1, 0, 1, 0, 1]", told(x.room(0)));
    }

    private static void roomSlack() {
        edge("room", "NONE: another slack.");
        fresh();
        wheel(20, 0, 0);
        x.slot(1, 2, 1, 1);
        due(-1, x.room(-1));
        due(-1, x.room(51));
        due(-1, x.room(Integer.MIN_VALUE));
        due(-1, x.room(Integer.MAX_VALUE));
        due("[2, 1]", rowNow());
        due(0, x.room(0));
        due(0, x.room(50));
    }

    private static void pierced() {
        edge("pierced", "AXLES (bits) that go through some WHEEL of another AXLE: an AXLE goes from the least to the greatest DEPTH of its"
            + " WHEELS; through a WHEEL of a DEPTH between (these two left out) whose AXLE is nearer than its HALF.");
        fresh();
        due(0, x.pierced());
        // axle 3 goes from 2 to 6; a wheel of 50 at each depth of axle 7
        wheel(10, 3, 6);
        due(0, x.pierced());
        wheel(10, 3, 2);
        due(0, x.pierced());
        for (int depth = 0; depth < 10; depth++) {
            x.keep(0);
            wheel(50, 7, depth);
            due(depth > 2 && depth < 6 ? 8 : 0, x.pierced());
            x.axle(7, 50, 0);
            due(0, x.pierced());
            x.axle(7, 49, 0);
            due(depth > 2 && depth < 6 ? 8 : 0, x.pierced());
            x.axle(7, -30, -40);
            due(0, x.pierced());
            x.axle(7, -30, -39);
            due(depth > 2 && depth < 6 ? 8 : 0, x.pierced());
            x.again(0);
        }
        // a wheel of its own between does not count; of the axle that goes through the wheels' sizes do not
        wheel(400, 3, 4);
        due(0, x.pierced());
        x.axle(7, 10, 0);
        wheel(10, 7, 4);
        due(0, x.pierced());
        wheel(11, 7, 5);
        due(8, x.pierced());
        // an axle of one depth goes through none; one next to another neither
        fresh();
        wheel(100, 0, 4);
        wheel(10, 1, 4);
        wheel(10, 1, 4);
        due(0, x.pierced());
        wheel(10, 1, 5);
        due(0, x.pierced());
        wheel(10, 1, 3);
        due(2, x.pierced());
        // from end to end, axles 0 and 9 through each other's
        fresh();
        wheel(10, 0, 0);
        wheel(10, 0, 9);
        wheel(20, 9, 1);
        wheel(20, 9, 8);
        wheel(20, 0, 5);
        due(513, x.pierced());
    }

    private static void depths() {
        edge("depths", "The fewest DEPTHS on which all WHEELS could be put so that WHEELS that MESH (one or more MESHES apart) are on one"
            + " DEPTH, and none that stand in each other's way are: unlike AXLES nearer than both HALVES together, without a MESH, or"
            + " the same AXLE: how many;");
        fresh();
        due("0[]", told(x.depths()));
        wheel(20, 0, 9);
        due("1[0]", told(x.depths()));
        // the same axle
        wheel(20, 0, 3);
        due("2[0, 1]", told(x.depths()));
        // just both halves apart, and nearer
        wheel(30, 1, 9);
        x.axle(1, 50, 0);
        due("2[0, 1, 0]", told(x.depths()));
        x.axle(1, 49, 9);
        due("3[0, 1, 2]", told(x.depths()));
        // a mesh takes both to one depth, though they are nearer
        x.mesh(0, 2);
        due("2[0, 1, 0]", told(x.depths()));
        // two meshes apart, however far they stand: all on one depth
        fresh();
        wheel(20, 0, 0);
        wheel(20, 0, 0);
        wheel(30, 1, 0);
        wheel(20, 2, 0);
        x.axle(1, 200, 0);
        x.axle(2, 400, 0);
        due("2[0, 1, 0, 0]", told(x.depths()));
        x.mesh(3, 2);
        due("2[0, 1, 0, 0]", told(x.depths()));
        x.mesh(1, 2);
        due("2[0, 1, 1, 1]", told(x.depths()));
        // the most: more than there are depths to be told
        fresh();
        for (int w = 0; w < 14; w++) {
            wheel(20, 5, w % 10);
        }
        for (int call = 0; call < 3; call++) {
            due("14[0, 1, 2, 3, 4, 5, 6, 7, 8, 9, 10, 11, 12, 13]", told(x.depths()));
        }
    }

    private static void depthsOfEqualOnes() {
        edge("depths", "the ROW: of each WHEEL its DEPTH, numbered from 0 on as they come: of equal ones the least row.");
        // three in a row, each in the way of the next: the ends may be on one depth
        fresh();
        for (int a = 0; a < 3; a++) {
            wheel(30, a, 9 - a);
            x.axle(a, 50 * a, 0);
        }
        due("2[0, 1, 0]", told(x.depths()));
        x.axle(1, 100, 0);
        x.axle(2, 50, 0);
        due("2[0, 0, 1]", told(x.depths()));
        // one that stands alone goes to depth 0
        wheel(10, 9, 9);
        x.axle(9, -500, 0);
        due("2[0, 0, 1, 0]", told(x.depths()));
        // what is free to go to depth 0 does not, if others need more depths then: 0 - 2 - 3 - 1
        fresh();
        for (int a = 0; a < 4; a++) {
            wheel(30, a, 0);
        }
        x.axle(1, 150, 0);
        x.axle(2, 50, 0);
        x.axle(3, 100, 0);
        due("2[0, 1, 1, 0]", told(x.depths()));
        // a ring of four
        int[][] ring = {{0, 0}, {50, 0}, {50, 50}, {0, 50}};
        for (int a = 0; a < 4; a++) {
            x.axle(a, ring[a][0], ring[a][1]);
        }
        due("2[0, 1, 0, 1]", told(x.depths()));
    }

    private static void depthsRefused() {
        edge("depths", "-2: it can't be (two led together by MESHES stand in each other's way).");
        // two of one axle, both meshed with one wheel
        fresh();
        wheel(20, 0, 0);
        wheel(20, 1, 0);
        wheel(20, 0, 0);
        x.axle(1, 40, 0);
        x.slot(1, 2, 1, 1);
        x.mesh(0, 1);
        due("2[0, 0, 1]", told(x.depths()));
        x.mesh(2, 1);
        due(-2, x.depths());
        due("[0, 0, 1]", rowNow());
        x.part();
        due(2, x.depths());
        // they are not the first of all
        fresh();
        wheel(20, 5, 0);
        wheel(20, 6, 0);
        wheel(20, 0, 0);
        wheel(20, 1, 0);
        wheel(20, 0, 0);
        x.axle(5, 500, 500);
        x.axle(6, -500, 500);
        x.axle(1, 40, 0);
        x.mesh(2, 3);
        due("2[0, 0, 0, 0, 1]", told(x.depths()));
        x.mesh(3, 4);
        due(-2, x.depths());
        // two of unlike axles, two meshes apart, nearer than both halves; just apart; meshed
        fresh();
        wheel(20, 0, 0);
        wheel(20, 1, 0);
        wheel(30, 2, 0);
        x.axle(1, 40, 0);
        x.axle(2, 50, 0);
        x.mesh(0, 1);
        x.mesh(1, 2);
        due("1[0, 0, 0]", told(x.depths()));
        x.axle(2, 49, 9);
        due(-2, x.depths());
        x.mesh(0, 2);
        due("1[0, 0, 0]", told(x.depths()));
        // many meshes apart
        fresh();
        for (int a = 0; a < 10; a++) {
            wheel(20, a, 0);
            x.axle(a, 40 * a, 0);
        }
        for (int a = 8; a >= 0; a--) {
            x.mesh(a, a + 1);
        }
        due("1[0, 0, 0, 0, 0, 0, 0, 0, 0, 0]", told(x.depths()));
        x.axle(9, 0, 39);
        due(-2, x.depths());
        x.axle(9, 0, 40);
        due(1, x.depths());
    }

    private static void slot() {
        edge("slot", "A pin sits in a slot off the middle by a / b (a 0 .. 99, b above a, at most 100)");
        fresh();
        due("0[1, 1]", told(x.slot(0, 1, 0, 1)));
        due("0[1, 1]", told(x.slot(0, 100, -1, 1)));
        due("2[100, 199]", told(x.slot(99, 100, -1, 1)));
        due("1[100, 1]", told(x.slot(99, 100, 1, 1)));
        due("1[2, 1]", told(x.slot(1, 2, 1, 1)));
        due(-1, x.slot(-1, 100, 1, 1));
        due(-1, x.slot(100, 100, 1, 1));
        due(-1, x.slot(100, 101, 1, 1));
        due(-1, x.slot(0, 0, 1, 1));
        due(-1, x.slot(1, 1, 1, 1));
        due(-1, x.slot(2, 1, 1, 1));
        due(-1, x.slot(1, 101, 1, 1));
        due(-1, x.slot(0, 101, 1, 1));
        due(-1, x.slot(1, -2, 1, 1));
        due(-1, x.slot(Integer.MIN_VALUE, 100, 1, 1));
        due(-1, x.slot(1, Integer.MAX_VALUE, 1, 1));
        due("[2, 1]", rowNow());

        edge("slot", "where the cosine is c / d (d 1 .. 20, c -d .. d)");
        due("1[2, 1]", told(x.slot(1, 2, 20, 20)));
        due("2[2, 3]", told(x.slot(1, 2, -20, 20)));
        due("2[4, 5]", told(x.slot(1, 2, 0, 20)));
        due(-1, x.slot(1, 2, 0, 0));
        due(-1, x.slot(1, 2, 0, -1));
        due(-1, x.slot(1, 2, 0, 21));
        due(-1, x.slot(1, 2, 21, 20));
        due(-1, x.slot(1, 2, -21, 20));
        due(-1, x.slot(1, 2, 2, 1));
        due(-1, x.slot(1, 2, -2, 1));
        due(-1, x.slot(1, 2, Integer.MIN_VALUE, 20));
        due(-1, x.slot(1, 2, Integer.MAX_VALUE, 20));
        due(-1, x.slot(1, 2, Integer.MIN_VALUE, Integer.MIN_VALUE));
        due("[4, 5]", rowNow());

        edge("slot", "it turns the slotted WHEEL (1 - e f) / (1 - 2 e f + e e) as fast, e being a / b, f being c / d: the ROW: the"
            + " fraction; 1 faster, 2 slower, 0 alike. NONE: others.");
        // where f is e it is alike; 20ths just above and below
        due("0[1, 1]", told(x.slot(1, 2, 10, 20)));
        // 1 - 11 / 40 by 1 - 22 / 40 + 1 / 4: 29 by 28
        due("1[29, 28]", told(x.slot(1, 2, 11, 20)));
        // 1 - 9 / 40 by 1 - 18 / 40 + 1 / 4: 31 by 32
        due("2[31, 32]", told(x.slot(1, 2, 9, 20)));
        due("2[10000, 19801]", told(x.slot(99, 100, 0, 1)));
    }

    private static void uneven() {
        edge("uneven", "The a / 100 (a 0 .. 99) with which the fastest by the slowest it goes (c / d 1 and -1) is nearest to u / d (1 .."
            + " 1000 each, u not below d);");
        fresh();
        due("0[1, 1]", told(x.uneven(1, 1)));
        due("0[1, 1]", told(x.uneven(1000, 1000)));
        due("99[199, 1]", told(x.uneven(1000, 1)));
        due("99[199, 1]", told(x.uneven(199, 1)));
        due("99[199, 1]", told(x.uneven(198, 1)));
        due("98[99, 1]", told(x.uneven(99, 1)));
        due("50[3, 1]", told(x.uneven(3, 1)));
        due("50[3, 1]", told(x.uneven(999, 333)));
        // 101 by 99 is 1.0202..: 1.01 is nearer to 1, 1.0102 to that
        due("0[1, 1]", told(x.uneven(101, 100)));
        due("1[101, 99]", told(x.uneven(102, 100)));
        due("0[1, 1]", told(x.uneven(1000, 999)));
        due("1[101, 99]", told(x.uneven(101, 99)));
        due("2[51, 49]", told(x.uneven(51, 49)));

        edge("uneven", "of equal ones the least a: it; the ROW: fastest by slowest as a fraction. NONE: others.");
        // 149 is as far from 99 as from 199
        due("98[99, 1]", told(x.uneven(149, 1)));
        due("98[99, 1]", told(x.uneven(298, 2)));
        due("99[199, 1]", told(x.uneven(299, 2)));
        due("98[99, 1]", told(x.uneven(297, 2)));
        // 100 by 99 is as far from 1 as from 101 by 99
        due("0[1, 1]", told(x.uneven(100, 99)));
        for (int d : new int[] {1, 2, 3, 24, 99, 100, 333, 1000}) {
            fresh();
            for (int u = d; u <= 1000; u += 1 + (1000 - d) / 400) {
                due(nearestUneven(u, d), x.uneven(u, d));
            }
        }
    }

    /** Of all a / 100 the first that is nearest. */
    private static int nearestUneven(int u, int d) {
        int best = 0;
        for (int a = 0; a < 100; a++) {
            long here = Math.abs((100 + a) * d - (100 - a) * u);
            long there = Math.abs((100 + best) * d - (100 - best) * u);
            // here by (100 - a) d against there by (100 - best) d
            best = here * (100 - best) < there * (100 - a) ? a : best;
        }
        return best;
    }

    /** They are what 'NONE: others' there says. */
    private static void unevenRefused() {
        x.uneven(3, 1);
        due(-1, x.uneven(0, 1));
        due(-1, x.uneven(1, 0));
        due(-1, x.uneven(0, 0));
        due(-1, x.uneven(1, 2));
        due(-1, x.uneven(999, 1000));
        due(-1, x.uneven(1001, 1000));
        due(-1, x.uneven(1001, 1001));
        due(-1, x.uneven(1000, 1001));
        due(-1, x.uneven(-1, -1));
        due(-1, x.uneven(3, -1));
        due(-1, x.uneven(Integer.MAX_VALUE, 1));
        due(-1, x.uneven(1, Integer.MIN_VALUE));
        due(-1, x.uneven(Integer.MIN_VALUE, Integer.MIN_VALUE));
        due("[3, 1]", rowNow());
    }
}
