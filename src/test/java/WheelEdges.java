/** Boundaries that the promises of wheels name: 1 to 8. */
abstract class WheelEdges extends Edges {
    static void all() {
        newObject();
        wheel();
        arcWithin();
        arcCuts();
        arcLeavesNone();
        take();
        sheet();
        sheetRefused();
        mesh();
        part();
        of();
    }

    private static void newObject() {
        edge("A new object", "No WHEELS.");
        fresh();
        for (int what = 0; what < 9; what++) {
            due(0, x.count(what));
        }
        dueThrows(() -> x.of(0, 0));
        dueThrows(() -> x.row(0));
        due(-1, x.take(0, 20));
        due(-1, x.arc(0, 10, 200, 0));
        due(-1, x.mesh(0, 0));
        due(-1, x.part());
        due(0, x.sheet(2, 14, 20, 1));
        due(-3, x.sheet(3, 0, 0, 0));
        due("1[1]", told(x.turning()));
        due("0[1, 1]", told(x.turn(0)));
        due(-2, x.turn(1));
        due(0, x.jams());
        due("0[0]", told(x.gives(0)));
        due("1[0]", told(x.together(0, 0)));
        due(-2, x.way(1));
        due(-1, x.fittings(1, 0));
        due(-2, x.may(1));
        due("0[0, -1, -1, 0, -1, 0, -1, 0]", told(x.room(0)));
        due(0, x.pierced());
        due("0[]", told(x.depths()));
        due("223[0, 1, 2, 3, 4, 5, 6, 7, 8, 9]", told(x.when()));
        due("0[0, 0]", told(x.wrong()));
        due(-1, x.year());
        due("0[0]", told(x.breaks()));
        due(-1, x.unlike(0, 0));
        for (int i = 0; i < 4; i++) {
            due(false, x.again(i));
        }
        // an empty build can be kept, and stands again
        due(true, x.keep(0));
        due(0, x.wheel(20, 20, 0, 0));
        due(true, x.again(0));
        due(0, x.count(0));
        // two objects have nothing in common
        GreenGears other = x;
        fresh();
        x.wheel(20, 20, 0, 0);
        due("1 0", x.count(0) + " " + other.count(0));
    }

    private static void wheel() {
        edge("wheel", "A WHEEL more: its number. Refused: others, 14.");
        fresh();
        due(-1, x.wheel(9, 20, 0, 0));
        due(-1, x.wheel(20, 401, 0, 0));
        due(-1, x.wheel(21, 20, 0, 0));
        due(-1, x.wheel(20, 21, 10, 0));
        due(-1, x.wheel(20, 21, -1, 0));
        due(-1, x.wheel(20, 21, 0, 10));
        due(-1, x.wheel(20, 21, 0, -1));
        due(0, x.count(0));
        // alike in all they are two wheels still
        for (int w = 0; w < 14; w++) {
            due(w, x.wheel(20, 21, 4, 5));
        }
        due(-1, x.wheel(20, 21, 4, 5));
        due(-1, x.wheel(9, 21, 4, 5));
        due(14, x.count(0));
    }

    private static void arcWithin() {
        edge("arc", "so many (1 .. 200) were seen on tenths of a degree (1 .. 3600)");
        fresh();
        x.wheel(10, 400, 0, 0);
        due(-1, x.arc(0, 0, 2000, 0));
        due(-1, x.arc(0, -1, 2000, 0));
        due(-1, x.arc(0, 201, 3600, 0));
        due(-1, x.arc(0, Integer.MAX_VALUE, 3600, 0));
        due(-1, x.arc(0, 20, 0, 0));
        due(-1, x.arc(0, 20, -1, 0));
        due(-1, x.arc(0, 20, 3601, 0));
        due(-1, x.arc(0, 20, Integer.MAX_VALUE, 0));
        due("10 400", ofWheel(0, 0, 1));
        // all 200 on the whole round: 200 it has
        due(1, x.arc(0, 200, 3600, 0));
        due("200 200 200", ofWheel(0, 0, 1, 2));
        x.wheel(10, 400, 0, 0);
        // one on nine tenths of a degree: 400
        due(1, x.arc(1, 1, 9, 0));
        due("400 400", ofWheel(1, 0, 1));
        x.wheel(10, 400, 0, 0);
        // one on a tenth of a degree: it would have 3600
        due(-2, x.arc(2, 1, 1, 0));
        due(-1, x.arc(2, 1, 1, 1));

        edge("arc", "which may be slack more or less (0 .. 100, less than the tenths)");
        fresh();
        x.wheel(10, 400, 0, 0);
        due(-1, x.arc(0, 10, 200, -1));
        due(-1, x.arc(0, 10, 200, 101));
        due(-1, x.arc(0, 10, 3600, 101));
        due(-1, x.arc(0, 10, 100, 100));
        due(-1, x.arc(0, 10, 99, 100));
        due(-1, x.arc(0, 10, 200, Integer.MAX_VALUE));
        due("10 400", ofWheel(0, 0, 1));
        // 3600 by 199 is 18.09.., by 1 it is 3600
        due(382, x.arc(0, 1, 100, 99));
        due("19 400", ofWheel(0, 0, 1));
        x.wheel(10, 400, 0, 0);
        // 36000 by 201 is 179.1.., by 1 it is 36000
        due(221, x.arc(1, 10, 101, 100));
        due("180 400", ofWheel(1, 0, 1));
        due(1, x.arc(1, 10, 200, 0));
        due("180 180", ofWheel(1, 0, 1));
    }

    private static void arcCuts() {
        edge("arc", "LEAST: 3600 times those seen by (tenths and slack), cut up; MOST: by (tenths less slack), cut down;");
        fresh();
        for (int w = 0; w < 5; w++) {
            x.wheel(10, 400, 0, 0);
        }
        // 36000 by 210 is 171.4.., by 190 it is 189.4..
        due(18, x.arc(0, 10, 200, 10));
        due("172 189", ofWheel(0, 0, 1));
        // 36000 by 200 and by 180, both whole
        due(21, x.arc(1, 10, 190, 10));
        due("180 200", ofWheel(1, 0, 1));
        // 36000 by 199 is 180.9.., by 181 it is 198.8..
        due(18, x.arc(2, 10, 190, 9));
        due("181 198", ofWheel(2, 0, 1));
        // 36000 by 201 is 179.1.., by 179 it is 201.1..
        due(22, x.arc(3, 10, 190, 11));
        due("180 201", ofWheel(3, 0, 1));
        // 3600 by 361 is 9.9.., by 239 it is 15.06..
        due(6, x.arc(4, 1, 300, 61));
        due("10 15", ofWheel(4, 0, 1));
        // 3600 by 59 is 61 and a 59th: no whole number; by 61 it is 59 and a 61st
        x.wheel(10, 400, 0, 0);
        due(-2, x.arc(5, 1, 59, 0));
        due(2, x.arc(5, 1, 60, 1));
        due("60 61", ofWheel(5, 0, 1));
    }

    private static void arcLeavesNone() {
        edge("arc", "within what they were: how many numbers there are then; TAKEN is LEAST.");
        fresh();
        x.wheel(175, 185, 0, 0);
        x.wheel(150, 172, 0, 0);
        x.wheel(189, 250, 0, 0);
        x.take(0, 180);
        // 172 .. 189 by the arc
        due(11, x.arc(0, 10, 200, 10));
        due("175 185 175", ofWheel(0, 0, 1, 2));
        due(1, x.arc(1, 10, 200, 10));
        due("172 172 172", ofWheel(1, 0, 1, 2));
        due(1, x.arc(2, 10, 200, 10));
        due("189 189 189", ofWheel(2, 0, 1, 2));

        edge("arc", "-2: none would be left (nothing changes); NONE: others.");
        fresh();
        x.wheel(150, 171, 0, 0);
        x.wheel(190, 250, 0, 0);
        x.wheel(10, 400, 0, 0);
        x.take(0, 160);
        x.take(1, 200);
        x.take(2, 300);
        due(-2, x.arc(0, 10, 200, 10));
        due(-2, x.arc(1, 10, 200, 10));
        due("150 171 160", ofWheel(0, 0, 1, 2));
        due("190 250 200", ofWheel(1, 0, 1, 2));
        // 36000 by 199 is 180.9..: no whole number is 3600 by 19.9
        due(-2, x.arc(2, 10, 199, 0));
        due("10 400 300", ofWheel(2, 0, 1, 2));
        due(-1, x.arc(3, 10, 200, 10));
        due(-1, x.arc(-1, 10, 200, 10));
        due(-1, x.arc(Integer.MAX_VALUE, 10, 200, 10));
        due(-1, x.arc(0, 0, 200, 10));
    }

    private static void take() {
        edge("take", "TEETH of a WHEEL are TAKEN as n: what was TAKEN. Refused: others, not within its span.");
        fresh();
        x.wheel(20, 30, 0, 0);
        x.wheel(25, 25, 0, 0);
        due(20, x.take(0, 30));
        due(30, x.take(0, 20));
        due(20, x.take(0, 20));
        due(-1, x.take(0, 19));
        due(-1, x.take(0, 31));
        due(-1, x.take(0, Integer.MIN_VALUE));
        due(-1, x.take(0, Integer.MAX_VALUE));
        due(20, x.of(0, 2));
        due(25, x.take(1, 25));
        due(-1, x.take(1, 24));
        due(-1, x.take(1, 26));
        due(-1, x.take(2, 25));
        due(-1, x.take(-1, 25));
        due("20 30 20", ofWheel(0, 0, 1, 2));
        // the span after an arc is the one that counts
        x.arc(0, 1, 144, 0);
        due(-1, x.take(0, 24));
        due(-1, x.take(0, 26));
        due(25, x.take(0, 25));
    }

    private static String taken() {
        StringBuilder all = new StringBuilder();
        for (int w = 0; w < x.count(0); w++) {
            all.append(w == 0 ? "" : " ").append(x.of(w, 2));
        }
        return all.toString();
    }

    private static void sheet() {
        edge("sheet", "TEETH of WHEELS 0, 1, .. are TAKEN as a sheet tells them: bytes (kind 0), shorts (1), ints (2) of n entries f, f + step, .. (of bytes, shorts the lowest bits, with their"
            + " sign; each put to its span)");
        fresh();
        x.wheel(10, 300, 0, 0);
        x.wheel(20, 100, 0, 0);
        due(2, x.sheet(0, 2, 127, 1));
        // 128 is -128 as a byte
        due("127 20", taken());
        due(2, x.sheet(1, 2, 127, 1));
        due("127 100", taken());
        due(2, x.sheet(0, 2, 255, 1));
        due("10 20", taken());
        due(2, x.sheet(0, 2, 256 + 30, 256));
        due("30 30", taken());
        due(2, x.sheet(0, 2, -256 + 40, 512));
        due("40 40", taken());
        due(2, x.sheet(1, 2, 32767, 1));
        due("300 20", taken());
        due(2, x.sheet(2, 2, 32767, 1));
        due("300 100", taken());
        due(2, x.sheet(1, 2, 65536 + 50, 65536));
        due("50 50", taken());
        due(2, x.sheet(1, 2, 65535, 61));
        due("10 60", taken());
        due(2, x.sheet(2, 2, 65536 + 50, 65536));
        due("300 100", taken());
        // ints go round: the second is below all
        due(2, x.sheet(2, 2, Integer.MAX_VALUE, 1));
        due("300 20", taken());
        due(2, x.sheet(2, 2, Integer.MIN_VALUE, -1));
        due("10 100", taken());
        due(2, x.sheet(2, 2, 300, -200));
        due("300 100", taken());
        due(2, x.sheet(2, 2, 301, -202));
        due("300 99", taken());
        due(2, x.sheet(2, 2, 9, 10));
        due("10 20", taken());
        due(2, x.sheet(2, 2, 10, 0));
        due("10 20", taken());

        edge("sheet", "How many were told (of those there are).");
        due(0, x.sheet(2, 0, 50, 0));
        due("10 20", taken());
        due(1, x.sheet(2, 1, 50, 0));
        due("50 20", taken());
        due(2, x.sheet(2, 2, 60, 0));
        due(2, x.sheet(2, 3, 70, 0));
        due(2, x.sheet(2, 14, 80, 0));
        due("80 80", taken());
        for (int w = 2; w < 14; w++) {
            x.wheel(10, 400, 0, 0);
        }
        due(13, x.sheet(2, 13, 80, 1));
        due("80 81 82 83 84 85 86 87 88 89 90 91 92 10", taken());
        due(14, x.sheet(2, 14, 90, 1));
        due("90 91 92 93 94 95 96 97 98 99 100 101 102 103", taken());
    }

    private static void sheetRefused() {
        edge("sheet", "or a missing one (3): all TAKEN as LEAST.");
        fresh();
        x.wheel(10, 300, 0, 0);
        x.wheel(20, 100, 0, 0);
        x.sheet(2, 2, 50, 1);
        due(-3, x.sheet(3, 0, 40, 1));
        due("10 20", taken());

        edge("sheet", "-2: n below 0 (of kinds 0 .. 2; nothing changes); -3: missing;");
        x.sheet(2, 2, 50, 1);
        for (int kind = 0; kind < 3; kind++) {
            due(-2, x.sheet(kind, -1, 40, 1));
            due(-2, x.sheet(kind, Integer.MIN_VALUE, 40, 1));
        }
        due("50 51", taken());
        due(-3, x.sheet(3, -1, 40, 1));
        due("10 20", taken());
        x.sheet(2, 2, 50, 1);
        due(-3, x.sheet(3, 14, 40, 1));
        due("10 20", taken());

        edge("sheet", "NONE: another kind, n above 14 (these first).");
        x.sheet(2, 2, 50, 1);
        due(-1, x.sheet(-1, 2, 40, 1));
        due(-1, x.sheet(4, 2, 40, 1));
        due(-1, x.sheet(4, -1, 40, 1));
        due(-1, x.sheet(-1, -1, 40, 1));
        due(-1, x.sheet(Integer.MAX_VALUE, 2, 40, 1));
        for (int kind = 0; kind < 4; kind++) {
            due(-1, x.sheet(kind, 15, 40, 1));
            due(-1, x.sheet(kind, Integer.MAX_VALUE, 40, 1));
        }
        due("50 51", taken());
    }

    private static void mesh() {
        edge("mesh", "Two WHEELS MESH: how many MESHES. Refused: others, told already, 16.");
        fresh();
        due(-1, x.mesh(0, 1));
        TermEdges.sixteenMeshes();
        due(16, x.count(1));
        for (int m = 15; m >= 0; m--) {
            due(m, x.part());
        }
        due(1, x.mesh(1, 0));
        due(-1, x.mesh(1, 0));
        due(-1, x.mesh(0, 1));
        due(-1, x.mesh(0, 0));
        due(-1, x.mesh(0, 8));
        due(-1, x.mesh(8, 0));
        due(-1, x.mesh(1, 8));
        due(-1, x.mesh(8, 1));
        due(-1, x.mesh(13, 1));
        due(-1, x.mesh(1, 14));
        due(-1, x.mesh(0, -1));
        due(-1, x.mesh(-1, 0));
        due(-1, x.mesh(1, -1));
        due(-1, x.mesh(-1, 1));
        due(-1, x.mesh(Integer.MIN_VALUE, Integer.MAX_VALUE));
        due(8, wheel(20, 0, 1));
        due(-1, x.mesh(0, 8));
        due(2, x.mesh(8, 1));
        int[][] pairs = {{0, 3}, {0, 5}, {0, 7}, {2, 1}, {2, 3}, {2, 5}, {2, 7}, {4, 1}, {4, 3}, {4, 5}, {4, 7}, {6, 1}, {6, 3}, {6, 5}};
        for (int m = 0; m < 14; m++) {
            due(m + 3, x.mesh(pairs[m][0], pairs[m][1]));
        }
        due(-1, x.mesh(6, 7));
        due(-1, x.mesh(0, 1));
        due(16, x.count(1));
    }

    private static void part() {
        edge("part", "The latest told MESH goes: how many there are then. Refused: none.");
        fresh();
        due(-1, x.part());
        wheel(20, 0, 0);
        wheel(20, 1, 0);
        wheel(20, 2, 0);
        due(-1, x.part());
        x.mesh(0, 1);
        x.mesh(0, 2);
        due(1, x.part());
        due("2 1 0", x.of(0, 5) + " " + x.of(1, 5) + " " + x.of(2, 5));
        due(0, x.part());
        due(0, x.of(0, 5));
        due(-1, x.part());
        due(0, x.count(1));
        // one that has gone leads nowhere, jams nothing and is in nobody's way
        chain(20, 20, 20, 20);
        book("1:1");
        wheel(20, 2, 5);
        x.mesh(0, 4);
        due("1[2]", told(x.way(2)));
        due(-3, x.turn(0));
        due(7, x.jams());
        x.part();
        due("2[0, 1]", told(x.way(2)));
        due(0, x.turn(0));
        due(0, x.jams());
        due("1[20, 20, 20, 20]", told(x.fittings(2, 0)));
        x.part();
        due(-2, x.way(2));
        due(-2, x.fittings(2, 0));
        due(-2, x.may(2));
        due("1[0]", told(x.way(1)));
        x.part();
        due(-2, x.way(1));
        due("1[1]", told(x.turning()));
        due("2[2, 0, 1, 0, -1, 0, -1, 0]", told(x.room(0)));
    }

    private static void of() {
        edge("of", "5: WHEELS it MESHES with (bits). NoSuchElementException: none such, another what.");
        fresh();
        dueThrows(() -> x.of(0, 0));
        for (int w = 0; w < 14; w++) {
            x.wheel(20, 30, w == 0 ? 0 : 1 + w % 8, 0);
        }
        due(0, x.of(0, 5));
        for (int w = 1; w < 14; w++) {
            x.mesh(w % 2 == 0 ? 0 : w, w % 2 == 0 ? w : 0);
        }
        due((1 << 14) - 2, x.of(0, 5));
        for (int w = 1; w < 14; w++) {
            due(1, x.of(w, 5));
        }
        for (int what = 0; what < 6; what++) {
            int one = what;
            dueThrows(() -> x.of(-1, one));
            dueThrows(() -> x.of(14, one));
            dueThrows(() -> x.of(Integer.MIN_VALUE, one));
            dueThrows(() -> x.of(Integer.MAX_VALUE, one));
        }
        dueThrows(() -> x.of(0, -1));
        dueThrows(() -> x.of(0, 6));
        dueThrows(() -> x.of(13, Integer.MAX_VALUE));
        dueThrows(() -> x.of(13, Integer.MIN_VALUE));
        dueThrows(() -> x.of(14, 6));
    }
}
