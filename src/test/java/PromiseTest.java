/** For each promise of the document by its number: ordinary calls, the edges it names, wrong ones. */
public final class PromiseTest extends Bench {
    public static void main(String[] args) {
        constantsAndNewObject();
        wheels();
        arcs();
        takesAndSheets();
        meshesAndParts();
        ofWheels();
        turns();
        longTurns();
        turning();
        jams();
        gives();
        shows();
        together();
        ways();
        fittings();
        manyWays();
        fits();
        sure();
        may();
        next();
        signsAndEnds();
        books();
        longBooks();
        shops();
        trains();
        nearest();
        common();
        axles();
        rooms();
        pierced();
        depths();
        hardDepths();
        slots();
        uneven();
        near();
        off();
        meets();
        words();
        names();
        dials();
        seenAndGames();
        whenAndWrong();
        years();
        left();
        breaks();
        builds();
        unlike();
        counts();
        rows();
        refusedCallsChangeNothing();
        close();
    }

    private static void of(int number) {
        about = "promise " + number;
    }

    // ---- wheels

    private static void constantsAndNewObject() {
        of(1);
        due(-1, GreenGears.NONE);
        fresh();
        for (int what = 0; what < 9; what++) {
            due(0, x.count(what));
        }
        due(15, x.count(9));
        due(120, x.count(10));
        due("1[1]", told(x.turning()));
        fresh();
        due("0[]", told(x.depths()));
        due("0[0]", told(x.breaks()));
        due(0, x.pierced());
        due("0[0, -1, -1, 0, -1, 0, -1, 0]", told(x.room(0)));
    }

    private static void wheels() {
        of(2);
        fresh();
        due(0, x.wheel(10, 400, 0, 0));
        due(1, x.wheel(10, 10, 9, 9));
        due(2, x.wheel(400, 400, 9, 9));
        due(-1, x.wheel(9, 20, 0, 0));
        due(-1, x.wheel(10, 401, 0, 0));
        due(-1, x.wheel(21, 20, 0, 0));
        due(-1, x.wheel(20, 20, -1, 0));
        due(-1, x.wheel(20, 20, 10, 0));
        due(-1, x.wheel(20, 20, 0, -1));
        due(-1, x.wheel(20, 20, 0, 10));
        due(-1, x.wheel(Integer.MIN_VALUE, Integer.MAX_VALUE, 0, 0));
        due(3, x.count(0));
        for (int w = 3; w < 14; w++) {
            due(w, x.wheel(30, 40, 1, 1));
        }
        due(-1, x.wheel(30, 40, 1, 1));
        due(14, x.count(0));
        due(30, x.of(13, 2));
    }

    private static void arcs() {
        of(3);
        fresh();
        x.wheel(10, 400, 0, 0);
        // 3600 * 10 / 200 is 180; 36000 / 210 is 171.4.., 36000 / 190 is 189.4..
        due(18, x.arc(0, 10, 200, 10));
        due(172, x.of(0, 0));
        due(189, x.of(0, 1));
        due(172, x.of(0, 2));
        x.take(0, 180);
        due(-2, x.arc(0, 10, 400, 0));
        due(180, x.of(0, 2));
        // 36000 / 200 is 180, without a rest
        due(1, x.arc(0, 10, 200, 0));
        due(180, x.of(0, 0));
        due(180, x.of(0, 1));
        x.wheel(10, 400, 0, 0);
        due(-1, x.arc(1, 0, 200, 0));
        due(-1, x.arc(1, 201, 200, 0));
        due(-1, x.arc(1, 10, 0, 0));
        due(-1, x.arc(1, 10, 3601, 0));
        due(-1, x.arc(1, 10, 200, -1));
        due(-1, x.arc(1, 10, 200, 101));
        due(-1, x.arc(1, 10, 100, 100));
        due(-1, x.arc(1, 10, 50, 50));
        due(-1, x.arc(-1, 10, 200, 0));
        due(-1, x.arc(2, 10, 200, 0));
        due(10, x.of(1, 0));
        // from 3600 * 200 / 3600 on, to that by 3400, cut down
        due(12, x.arc(1, 200, 3500, 100));
        due(200, x.of(1, 0));
        due(211, x.of(1, 1));
        x.wheel(50, 400, 0, 0);
        // only a part of the span is left: 3600 by 60 is 60, by 40 is 90
        due(31, x.arc(2, 1, 50, 10));
        // no whole number between 3600 * 7 / 401 and 3600 * 7 / 399: 62.8 .. 63.1 has 63; none for 11 on 527
        due(-2, x.arc(2, 11, 527, 0));
        // 3600 by 61 is just above 59: cut up it is 60
        x.wheel(10, 400, 0, 0);
        due(28, x.arc(3, 1, 51, 10));
        due("60 87", x.of(3, 0) + " " + x.of(3, 1));
        // more than 400 seen by the arc
        due(-2, x.arc(2, 200, 1, 0));
        due(-2, x.arc(2, 1, 3600, 0));
        due(60, x.of(2, 0));
        due(90, x.of(2, 1));
    }

    private static void takesAndSheets() {
        of(4);
        fresh();
        x.wheel(20, 30, 0, 0);
        due(20, x.take(0, 30));
        due(30, x.take(0, 25));
        due(-1, x.take(0, 19));
        due(-1, x.take(0, 31));
        due(-1, x.take(1, 25));
        due(-1, x.take(-1, 25));
        due(25, x.take(0, 20));
        of(5);
        fresh();
        x.wheel(20, 30, 0, 0);
        x.wheel(40, 60, 1, 0);
        x.wheel(100, 400, 2, 0);
        due(2, x.sheet(2, 2, 25, 20));
        due("25 45 100", x.of(0, 2) + " " + x.of(1, 2) + " " + x.of(2, 2));
        due(3, x.sheet(2, 14, 31, -100));
        due("30 40 100", x.of(0, 2) + " " + x.of(1, 2) + " " + x.of(2, 2));
        due(0, x.sheet(2, 0, 25, 20));
        due(30, x.of(0, 2));
        // 256 + 25 is 25 as a byte; 200 is below 0 as a byte, not as a short
        due(1, x.sheet(0, 1, 281, 0));
        due(25, x.of(0, 2));
        due(3, x.sheet(0, 3, 200, 0));
        due("20 40 100", x.of(0, 2) + " " + x.of(1, 2) + " " + x.of(2, 2));
        due(3, x.sheet(1, 3, 200, 0));
        due("30 60 200", x.of(0, 2) + " " + x.of(1, 2) + " " + x.of(2, 2));
        due(3, x.sheet(1, 3, 65536 + 22, 32768));
        due("22 40 100", x.of(0, 2) + " " + x.of(1, 2) + " " + x.of(2, 2));
        due(3, x.sheet(2, 3, 65536 + 22, 32768));
        due("30 60 400", x.of(0, 2) + " " + x.of(1, 2) + " " + x.of(2, 2));
        // ints go round
        due(2, x.sheet(2, 2, Integer.MAX_VALUE, 51));
        due("30 40 400", x.of(0, 2) + " " + x.of(1, 2) + " " + x.of(2, 2));
        due(-2, x.sheet(0, -1, 1, 1));
        due(-2, x.sheet(2, Integer.MIN_VALUE, 1, 1));
        due(-1, x.sheet(0, 15, 1, 1));
        due(-1, x.sheet(3, 15, 1, 1));
        due(-1, x.sheet(-1, 1, 1, 1));
        due(-1, x.sheet(4, -1, 1, 1));
        due("30 40 400", x.of(0, 2) + " " + x.of(1, 2) + " " + x.of(2, 2));
        due(-3, x.sheet(3, -1, 1, 1));
        due("20 40 100", x.of(0, 2) + " " + x.of(1, 2) + " " + x.of(2, 2));
    }

    private static void meshesAndParts() {
        of(6);
        fresh();
        for (int w = 0; w < 14; w++) {
            wheel(20 + w, w % 7, 0);
        }
        due(1, x.mesh(0, 1));
        due(-1, x.mesh(0, 1));
        due(-1, x.mesh(1, 0));
        due(-1, x.mesh(2, 2));
        due(-1, x.mesh(0, 7));
        due(-1, x.mesh(0, 14));
        due(-1, x.mesh(1, 14));
        due(-1, x.mesh(14, 1));
        due(-1, x.mesh(1, -1));
        due(-1, x.mesh(-1, 0));
        due(1, x.count(1));
        due(2, x.mesh(2, 0));
        for (int w = 3; w < 7; w++) {
            due(w, x.mesh(0, w));
        }
        for (int w = 8; w < 14; w++) {
            due(w - 1, x.mesh(7, w));
        }
        due(13, x.mesh(1, 2));
        due(14, x.mesh(1, 3));
        due(15, x.mesh(1, 4));
        due(16, x.mesh(1, 5));
        due(-1, x.mesh(1, 6));
        due(16, x.count(1));
        of(7);
        due(15, x.part());
        due(0x1D, x.of(1, 5));
        due(16, x.mesh(1, 6));
        for (int m = 15; m >= 0; m--) {
            due(m, x.part());
        }
        due(-1, x.part());
        due(1, x.mesh(1, 0));
    }

    private static void ofWheels() {
        of(8);
        fresh();
        x.wheel(20, 30, 3, 7);
        wheel(40, 1, 2);
        wheel(50, 2, 2);
        x.mesh(0, 1);
        x.mesh(2, 0);
        x.take(0, 21);
        due("20 30 21 3 7 6", x.of(0, 0) + " " + x.of(0, 1) + " " + x.of(0, 2) + " " + x.of(0, 3) + " " + x.of(0, 4) + " " + x.of(0, 5));
        due(1, x.of(1, 5));
        due(1, x.of(2, 5));
        dueThrows(() -> x.of(3, 0));
        dueThrows(() -> x.of(-1, 0));
        dueThrows(() -> x.of(0, 6));
        dueThrows(() -> x.of(0, -1));
        dueThrows(() -> x.of(14, 99));
    }

    // ---- turns

    private static void turns() {
        of(9);
        chain(64, 38, 48, 24);
        due("0[1, 1]", told(x.turn(0)));
        due("0[-32, 19]", told(x.turn(1)));
        due("0[64, 19]", told(x.turn(2)));
        due(-2, x.turn(3));
        due("[64, 19]", rowNow());
        due(-1, x.turn(-1));
        due(-1, x.turn(10));
        // a wheel between that both is driven and drives does not count but for the way round
        fresh();
        wheel(20, 0, 0);
        wheel(33, 1, 0);
        wheel(60, 2, 0);
        x.mesh(1, 2);
        x.mesh(1, 0);
        due("0[1, 3]", told(x.turn(2)));
        due("0[-20, 33]", told(x.turn(1)));
        // three axles in a ring would have to turn both ways
        x.mesh(2, 0);
        due(-3, x.turn(2));
        due(-3, x.turn(7));
        due(-1, x.turn(10));
        // a ring that axle 0 does not reach jams nothing
        fresh();
        wheel(20, 1, 0);
        wheel(33, 2, 0);
        wheel(60, 3, 0);
        x.mesh(0, 1);
        x.mesh(1, 2);
        x.mesh(2, 0);
        due("0[1, 1]", told(x.turn(0)));
        due(-2, x.turn(1));
    }

    private static void longTurns() {
        of(9);
        int[] prime = {397, 389, 383, 379, 373, 367, 359, 353, 349, 347, 337, 331, 317, 313};
        chain(prime);
        due(-5, x.turn(0));
        due(-5, x.turn(9));
        due(-1, x.turn(10));
        due(-5, x.turning());
        due(-5, x.gives(1));
        due(-5, x.jams());
        due(-5, x.show(0, 1));
        due(-5, x.together(0, 0));
        // 397 * 383 * 373 * 359 * 349 is 7105857107713, below 1000000000000000; times 337 is above
        x.part();
        due(-5, x.turn(1));
        x.part();
        long up = 397L * 383 * 373 * 359 * 349;
        long down = 389L * 379 * 367 * 353 * 347;
        due("0[" + -up + ", " + down + "]", told(x.turn(5)));
        chain(400, 10, 400, 10, 400, 10, 400, 10, 400, 10, 400, 10);
        due("0[4096000000, 1]", told(x.turn(6)));
        // -5 goes ahead of -3, and of a short way that is told later
        chain(prime);
        x.mesh(0, 13);
        due(-5, x.turn(1));
        x.part();
        x.mesh(1, 5);
        due(-5, x.turn(1));
        turnsAtTheLimit();
    }

    /** 1000000000000000 itself can be told, what is above can't; below and above the line. */
    private static void turnsAtTheLimit() {
        int[] round = {100, 100, 100, 100, 100, 250, 400};
        for (int side = 0; side < 2; side++) {
            fresh();
            for (int a = 0; a < 7; a++) {
                int many = x.wheel(round[a], Math.min(400, round[a] + 1), side == 0 ? a + 1 : a, a);
                int few = wheel(11, side == 0 ? a : a + 1, a);
                x.mesh(few, many);
            }
            due(side == 0 ? "0[-19487171, 1000000000000000]" : "0[-1000000000000000, 19487171]", told(x.turn(7)));
            x.take(0, 101);
            due(-5, x.turn(7));
            due(-5, x.turn(0));
            due(-5, x.turning());
            x.part();
            due(0, x.turn(0));
            due(-2, x.turn(7));
        }
    }

    private static void turning() {
        of(10);
        chain(64, 38, 48, 24);
        wheel(20, 5, 5);
        due("7[5]", told(x.turning()));
        x.mesh(4, 0);
        due("39[5]", told(x.turning()));
        x.mesh(4, 1);
        due(-3, x.turning());
        due("[5]", rowNow());
    }

    private static void jams() {
        of(11);
        chain(64, 38, 48, 24);
        due(0, x.jams());
        wheel(30, 0, 2);
        wheel(30, 2, 2);
        x.mesh(4, 5);
        due(7, x.jams());
        // a mesh outside of the ring does not help
        wheel(40, 5, 5);
        x.mesh(6, 0);
        due(7, x.jams());
        // two rings: none alone helps
        wheel(40, 6, 5);
        wheel(40, 7, 5);
        x.mesh(6, 7);
        x.mesh(7, 8);
        x.mesh(8, 6);
        due(0, x.jams());
        due(-3, x.turn(0));
        // two rings that share a mesh
        fresh();
        wheel(20, 0, 0);
        wheel(20, 1, 0);
        wheel(20, 2, 0);
        wheel(20, 3, 0);
        x.mesh(0, 1);
        x.mesh(1, 2);
        x.mesh(2, 0);
        x.mesh(1, 3);
        x.mesh(3, 0);
        due(1, x.jams());
        jamsTooLong();
    }

    /** It jams; without the short mesh that leads to the end of a long way turns become too long. */
    private static void jamsTooLong() {
        int[] prime = {397, 389, 383, 379, 373, 367, 359, 353, 349, 347, 337, 331};
        fresh();
        wheel(397, 0, 0);
        wheel(389, 6, 0);
        x.mesh(0, 1);
        for (int i = 2; i < 12; i += 2) {
            wheel(prime[i], i / 2 - 1, 1);
            wheel(prime[i + 1], i / 2, 1);
        }
        wheel(337, 5, 2);
        wheel(331, 6, 2);
        for (int w = 2; w < 14; w += 2) {
            x.mesh(w, w + 1);
        }
        // axle 6 is reached first, then the others one by one: none of six pairs is too long
        due(-3, x.turn(0));
        due(-5, x.jams());
    }

    private static void gives() {
        of(12);
        chain(64, 38, 48, 24);
        due("0[0]", told(x.gives(2)));
        book("32:19;64:19;1:1;320:190;1920:570");
        due("18[18]", told(x.gives(2)));
        due("9[0]", told(x.gives(1)));
        due("4[4]", told(x.gives(0)));
        due(-2, x.gives(9));
        due(-1, x.gives(10));
        due(-1, x.gives(-1));
        x.mesh(0, 3);
        due(-3, x.gives(2));
        due("[4]", rowNow());
    }

    private static void shows() {
        of(13);
        chain(64, 38, 48, 24);
        due("0[16, 19]", told(x.show(2, 5)));
        due("0[1, 19]", told(x.show(1, 3)));
        due("0[0, 1]", told(x.show(1, 19)));
        due("0[0, 1]", told(x.show(1, 0)));
        due("0[0, 1]", told(x.show(0, 2000)));
        due("0[16, 19]", told(x.show(2, 2000 - 2000 % 19 - 14)));
        due(-1, x.show(2, 2001));
        due(-1, x.show(2, -1));
        due(-1, x.show(10, 5));
        due(-1, x.show(9, 2001));
        due(-2, x.show(9, 5));
        due("[16, 19]", rowNow());
        x.mesh(0, 3);
        due(-3, x.show(2, 5));
        // 400 ^ 4 is above 1000000000, 400 ^ 3 is not
        chain(400, 11, 400, 13, 400, 17, 400, 19);
        due(0, x.show(3, 1));
        due(-5, x.show(4, 1));
        due(-1, x.show(4, 2001));
        due("0[-64000000, 2431]", told(x.turn(3)));
        due("0[" + 64000000L * 1999 % 2431 + ", 2431]", told(x.show(3, 1999)));
        chain(11, 400, 13, 400, 17, 400, 19, 400);
        due(-5, x.show(4, 1));
        due("0[46189, 25600000000]", told(x.turn(4)));
        // 1000000000 itself can be shown
        chain(11, 100, 11, 100, 11, 100, 11, 100, 11, 10);
        due("0[161051, 1000000000]", told(x.show(5, 1)));
        due("0[161051, 500000]", told(x.show(5, 2000)));
        chain(11, 100, 11, 100, 11, 100, 11, 100, 11, 12);
        due(-5, x.show(5, 1));
        chain(100, 11, 100, 11, 100, 11, 100, 11, 10, 11);
        due("0[" + 1000000000 % 161051 + ", 161051]", told(x.show(5, 1)));
        chain(100, 11, 100, 11, 100, 11, 100, 11, 12, 11);
        due(-5, x.show(5, 1));
        due("0[0, 1]", told(x.show(0, 1)));
    }

    private static void together() {
        of(14);
        chain(64, 38, 48, 24);
        due("19[45]", told(x.together(2, 0)));
        due("19[-45]", told(x.together(0, 2)));
        due("19[-96]", told(x.together(1, 2)));
        due("1[0]", told(x.together(1, 1)));
        due(-2, x.together(0, 3));
        due(-2, x.together(3, 0));
        due(-1, x.together(0, 10));
        due(-1, x.together(-1, 0));
        due(-1, x.together(3, 10));
        due("[0]", rowNow());
        x.mesh(0, 3);
        due(-3, x.together(0, 1));
        // lower numbers of 100000 and of more
        chain(11, 100, 11, 100, 11, 10);
        due("100000[101331]", told(x.together(0, 3)));
        due("100000[-101331]", told(x.together(3, 0)));
        chain(11, 100, 11, 100, 11, 20);
        due(-6, x.together(0, 3));
        due("1[0]", told(x.together(3, 3)));
        chain(11, 400, 13, 400, 17, 400, 19, 400);
        due(-5, x.together(4, 0));
        due(-5, x.together(0, 4));
        due(-6, x.together(0, 3));
    }

    private static void ways() {
        of(15);
        chain(64, 38, 48, 24);
        due("2[0, 1]", told(x.way(2)));
        due("1[0]", told(x.way(1)));
        due(-2, x.way(3));
        due(-1, x.way(0));
        due(-1, x.way(10));
        due(-1, x.way(-1));
        due("[0]", rowNow());
        // a shorter way told later is the way; it jams, the way stays
        wheel(20, 0, 5);
        wheel(21, 2, 5);
        x.mesh(5, 4);
        due("1[2]", told(x.way(2)));
        // of two as short that of the first meshes from axle 0 on
        fresh();
        for (int a = 0; a < 4; a++) {
            wheel(20, a, 0);
            wheel(30, a, 1);
        }
        x.mesh(2, 6);
        x.mesh(6, 4);
        x.mesh(4, 0);
        x.mesh(1, 3);
        due("2[2, 1]", told(x.way(3)));
        x.mesh(1, 5);
        due("2[2, 1]", told(x.way(3)));
        x.part();
        x.part();
        x.part();
        x.mesh(0, 2);
        x.mesh(4, 0);
        due("2[2, 0]", told(x.way(3)));
        // more ways than can be gone through
        fresh();
        x.wheel(10, 400, 0, 0);
        x.wheel(10, 400, 1, 0);
        x.wheel(10, 400, 2, 0);
        x.mesh(0, 1);
        x.mesh(1, 2);
        due("2[0, 1]", told(x.way(2)));
    }

    // ---- fittings

    private static void fittings() {
        of(16);
        fresh();
        x.wheel(60, 70, 0, 0);
        wheel(38, 1, 0);
        x.wheel(48, 50, 1, 1);
        wheel(24, 2, 1);
        x.mesh(0, 1);
        x.mesh(2, 3);
        book("64:19;1:1");
        due("1[64, 38, 48, 24]", told(x.fittings(2, 0)));
        due("0[]", told(x.fittings(2, 1)));
        x.turn(0);
        due(-2, x.fittings(3, 0));
        due(-1, x.fittings(0, 0));
        due(-1, x.fittings(10, 0));
        due(-1, x.fittings(3, 2));
        due(-1, x.fittings(2, -1));
        due("[1, 1]", rowNow());
        // the row goes by numbers, not by the way; the order too
        fresh();
        x.wheel(10, 40, 1, 0);
        x.wheel(20, 60, 0, 0);
        x.mesh(1, 0);
        book("3:2;2:1z");
        due("14[14, 21]", told(x.fittings(1, 0)));
        due("21[10, 20]", told(x.fittings(1, 1)));
        x.fit(1, 1, 20);
        due("30 60", x.of(0, 2) + " " + x.of(1, 2));
        due(false, x.fit(1, 1, 21));
        // a wheel between: its teeth do not matter, but each number is a way of its own
        fresh();
        x.wheel(20, 21, 0, 0);
        x.wheel(30, 32, 1, 0);
        x.wheel(40, 42, 2, 0);
        x.mesh(0, 1);
        x.mesh(1, 2);
        book("1:2");
        due("6[20, 30, 40]", told(x.fittings(2, 0)));
        // the one between told last
        fresh();
        x.wheel(20, 21, 0, 0);
        x.wheel(40, 42, 2, 0);
        x.wheel(30, 32, 1, 0);
        x.mesh(0, 2);
        x.mesh(2, 1);
        book("10:20;1:3");
        due("6[20, 40, 30]", told(x.fittings(2, 0)));
        x.fit(2, 0, 2);
        due("20 40 32", x.of(0, 2) + " " + x.of(1, 2) + " " + x.of(2, 2));
        x.fit(2, 0, 3);
        due("21 42 30", x.of(0, 2) + " " + x.of(1, 2) + " " + x.of(2, 2));
        due("0[]", told(x.fittings(2, 1)));
    }

    private static void manyWays() {
        of(16);
        fresh();
        // 400 numbers there are not: 250 * 8 * 100 is 200000
        x.wheel(10, 259, 0, 0);
        x.wheel(10, 17, 1, 0);
        x.wheel(10, 109, 2, 0);
        x.mesh(0, 1);
        x.mesh(1, 2);
        book("2:1");
        // teeth 20, 22, .. 218 of the first, each with eight between
        due("800[20, 10, 10]", told(x.fittings(2, 0)));
        // twice as many by one wheel more
        x.wheel(10, 11, 2, 1);
        x.wheel(10, 10, 3, 1);
        x.mesh(3, 4);
        due(-4, x.fittings(3, 0));
        due(800, x.fittings(2, 0));
        fresh();
        x.wheel(10, 260, 0, 0);
        x.wheel(10, 17, 1, 0);
        x.wheel(10, 109, 2, 0);
        x.mesh(0, 1);
        x.mesh(1, 2);
        book("2:1");
        x.turn(0);
        due(-4, x.fittings(2, 0));
        due(-4, x.may(2));
        due(-4, x.next(2, 0));
        due(-4, x.sure(2, 0, 1));
        due(-1, x.sure(2, 0, 3));
        due(-1, x.sure(2, 1, 1));
        due(-1, x.fittings(2, 1));
        due(false, x.fit(2, 0, 0));
        due("[1, 1]", rowNow());
        due("8[20, 10]", told(x.fittings(1, 0)));
        // products by which the period goes above what 64 bits hold; the last wheel is one between
        fresh();
        wheel(10, 0, 0);
        wheel(400, 2, 0);
        for (int a = 2; a < 7; a++) {
            wheel(10, a, a);
            wheel(400, a + 1, a);
        }
        wheel(33, 1, 0);
        x.mesh(0, 12);
        x.mesh(12, 1);
        for (int a = 2; a < 7; a++) {
            x.mesh(2 * a - 2, 2 * a - 1);
        }
        book("2000:1;1:2000;1:1");
        due("0[]", told(x.fittings(7, 0)));
        due(0, x.may(7));
        due("7", told(x.way(7)).substring(0, 1));
        // seven pairs of many teeth: products far above what 32 bits hold
        fresh();
        for (int a = 0; a < 7; a++) {
            x.wheel(399 - a % 2, 400 - a % 2, a, a);
            x.wheel(399 - a % 2, 400 - a % 2, a + 1, a);
            x.mesh(2 * a, 2 * a + 1);
        }
        book("1:1;400:399;1:2000;2000:1");
        // of each sort as many of both numbers drive as are driven
        due(sevenPairs(), x.fittings(7, 0));
        due(3, x.may(7));
    }

    /** Ways in which the products of teeth that drive and are driven are alike, counted plainly. */
    private static int sevenPairs() {
        int n = 0;
        for (int way = 0; way < 1 << 14; way++) {
            int[] times = new int[3];
            for (int w = 0; w < 14; w++) {
                // 398 + sort: 398, 399, 400
                int sort = (way >> w & 1) + 1 - w / 2 % 2;
                times[sort] += w % 2 == 0 ? 1 : -1;
            }
            // 398 = 2 * 199, 399 = 3 * 7 * 19, 400 = 2 ^ 4 * 5 ^ 2: alike only if all are
            n += times[0] == 0 && times[1] == 0 && times[2] == 0 ? 1 : 0;
        }
        return n;
    }

    private static void twoWheels() {
        fresh();
        x.wheel(20, 30, 0, 0);
        x.wheel(10, 13, 1, 0);
        x.mesh(0, 1);
        // 20 / 10, 22 / 11, 24 / 12, 26 / 13; 30 / 10; 25 / 10, 30 / 12
        book("2:1;3:1;5:2;7:1");
    }

    private static void fits() {
        of(17);
        twoWheels();
        due(4, x.fittings(1, 0));
        due(true, x.fit(1, 0, 3));
        due("26 13", x.of(0, 2) + " " + x.of(1, 2));
        due(true, x.fit(1, 0, 0));
        due("20 10", x.of(0, 2) + " " + x.of(1, 2));
        due(false, x.fit(1, 0, 4));
        due(false, x.fit(1, 0, -1));
        due(false, x.fit(1, 0, Integer.MAX_VALUE));
        due(false, x.fit(1, 3, 0));
        due(false, x.fit(1, 4, 0));
        due(false, x.fit(2, 0, 0));
        due(false, x.fit(0, 0, 0));
        due("20 10", x.of(0, 2) + " " + x.of(1, 2));
        // wheels off the way stay, and the row too
        x.wheel(40, 50, 5, 0);
        x.take(2, 45);
        x.turn(0);
        due(true, x.fit(1, 0, 1));
        due("22 11 45", x.of(0, 2) + " " + x.of(1, 2) + " " + x.of(2, 2));
        due("[1, 1]", rowNow());
    }

    private static void sure() {
        of(18);
        twoWheels();
        due("0[20, 26, 4]", told(x.sure(1, 0, 0)));
        due("0[10, 13, 4]", told(x.sure(1, 0, 1)));
        due("0[10, 12, 2]", told(x.sure(1, 2, 1)));
        due("0[25, 30, 2]", told(x.sure(1, 2, 0)));
        due("0[30, 30, 1]", told(x.sure(1, 1, 0)));
        due(-2, x.sure(1, 3, 0));
        due("[30, 30, 1]", rowNow());
        due(-2, x.sure(2, 0, 0));
        due(-1, x.sure(1, 0, 2));
        due(-1, x.sure(1, 0, -1));
        due(-1, x.sure(1, 3, 2));
        due(-1, x.sure(1, 4, 0));
        due(-1, x.sure(0, 0, 0));
        due(-1, x.sure(10, 0, 0));
        due("[30, 30, 1]", rowNow());
        // wheels of the same teeth are told apart
        fresh();
        x.wheel(10, 12, 0, 0);
        x.wheel(10, 24, 1, 0);
        x.mesh(0, 1);
        book("1:1;1:2");
        due("0[10, 12, 3]", told(x.sure(1, 0, 0)));
        due("0[10, 12, 3]", told(x.sure(1, 0, 1)));
        due("0[10, 12, 3]", told(x.sure(1, 1, 0)));
        due("0[20, 24, 3]", told(x.sure(1, 1, 1)));
        of(20);
        due("0[1]", told(x.next(1, 0)));
    }

    private static void may() {
        of(19);
        twoWheels();
        due(7, x.may(1));
        due(-2, x.may(2));
        due(-1, x.may(0));
        due(-1, x.may(10));
        book("");
        due(0, x.may(1));
        due(-2, x.may(2));
    }

    private static void next() {
        of(20);
        twoWheels();
        // each number of each wheel stands in one fitting: the first wheel
        x.turn(0);
        due("0[1]", told(x.next(1, 0)));
        due(-2, x.next(1, 3));
        due(-2, x.next(2, 0));
        due(-1, x.next(1, 4));
        due(-1, x.next(0, 0));
        due(-1, x.next(10, 0));
        due("[1]", rowNow());
        // 20 or 21 by 40 or 42, with three between: to know the one between leaves two
        fresh();
        x.wheel(20, 21, 0, 0);
        x.wheel(30, 32, 1, 0);
        x.wheel(40, 42, 2, 0);
        x.mesh(0, 1);
        x.mesh(1, 2);
        book("1:2");
        due("1[2]", told(x.next(2, 0)));
        // of equal ones the first by numbers, though it is the last on the way
        fresh();
        x.wheel(40, 42, 1, 0);
        x.wheel(20, 21, 0, 0);
        x.mesh(1, 0);
        book("1:2");
        due("0[1]", told(x.next(1, 0)));
        // a wheel that never changes leaves all
        fresh();
        wheel(20, 0, 0);
        x.wheel(30, 31, 1, 0);
        wheel(20, 2, 0);
        x.mesh(0, 1);
        x.mesh(1, 2);
        book("1:1");
        due("1[1]", told(x.next(2, 0)));
    }

    // ---- the book, the shop

    private static void signsAndEnds() {
        of(21);
        fresh();
        due(4, x.sign('1' << 24 | ':' << 16 | '2' << 8 | 'a'));
        due(4, x.count(8));
        due(1, x.book());
        for (int n = 4; n <= 80; n += 4) {
            due(n, x.sign(-1));
        }
        due(-1, x.sign(0));
        due(80, x.count(8));
        of(22);
        due(false, x.end(81));
        due(false, x.end(-1));
        due(true, x.end(80));
        due(true, x.end(77));
        due(-1, x.sign(0));
        due(77, x.count(8));
        due(true, x.end(76));
        due(80, x.sign(0));
        due(false, x.end(Integer.MIN_VALUE));
        due(true, x.end(0));
        due(true, x.end(0));
        due(false, x.end(1));
        due(0, x.count(8));
    }

    private static void books() {
        of(23);
        fresh();
        due(3, book("235:19;1:2b;2000:2000z"));
        due(0, x.count(8));
        due(3, x.count(2));
        due(1, book("0012:0005"));
        due(1, word("12", 1));
        due(1, word("5", 0));
        due(8, book("1:1;1:1;1:1;1:1;1:1;1:1;1:1;1:1"));
        // what can't be read leaves the book as it is, and no text
        due(-32, book("1:1;1:1;1:1;1:1;1:1;1:1;1:1;1:1;"));
        due(0, x.count(8));
        due(8, x.count(2));
        due(-32, book("1:1;1:1;1:1;1:1;1:1;1:1;1:1;1:1;1:1"));
        due(-33, book("1:1;1:1;1:1;1:1;1:1;1:1;1:1;1:1a;"));
        due(-2, book("1"));
        due(-3, book("1:"));
        due(-5, book("1:2;"));
        due(-6, book("1:2a;"));
        due(-6, book("1:2;1"));
        due(-5, book("1:2aa"));
        due(-5, book("1:2a3"));
        due(-4, book("1:2A"));
        due(-4, book("1:2`"));
        due(-4, book("1:2{"));
        due(-3, book("1:a"));
        due(-3, book("1::2"));
        due(-1, book(":2"));
        due(-1, book(";"));
        due(-1, book(" 1:2"));
        due(-4, book("1:2 "));
        due(-5, book("1:2;;1:2"));
        due(-2, book("1;2:1"));
        due(-2, book("1a:2"));
        due(-2, book("1/2"));
        due(-3, book("1:/"));
        due(-4, book("1:2\u00b2"));
        due(-4, book("1:2\u00e9"));
        due(-1, book("\u0000"));
        // no name is left from a book before
        book("1:1a;1:1b");
        book("1:1a;1:1b");
        due(2, book("1:1;1:1"));
        due(0, names("a"));
        due(2, names("?"));
        // numbers of 1 to 4 digits; 0 and above 2000 at their last digit
        due(-1, book("0:1"));
        due(-1, book("0"));
        due(-1, book("0x"));
        due(-2, book("00:1"));
        due(-4, book("0000:1"));
        due(-4, book("00001:1"));
        due(-4, book("2001:1"));
        due(-4, book("9999"));
        due(-5, book("20001:1"));
        due(-4, book("20011:1"));
        due(-5, book("12345:1"));
        due(-5, book("1999"));
        due(2, x.count(2));
        due(1, book("2000:2000"));
        due(-3, book("1:0"));
        due(-3, book("1:0;"));
        due(-6, book("1:2001"));
        due(-6, book("1:2001a"));
        due(-7, book("1:20001"));
        due(-7, book("1:12345"));
        due(-9, book("12:1234;0:5"));
        due(1, x.count(2));
        due(0, book(""));
        due(0, x.count(2));
    }

    private static void longBooks() {
        of(23);
        fresh();
        String line = "1999:1999;";
        String six = line.repeat(6);
        due(60, six.length());
        // 60 signs, the last a ; : it ends too early
        due(-61, book(six));
        due(-61, book(six + "1:1"));
        due(-61, book(six + "x"));
        String full = line.repeat(5) + "1999:1999a";
        due(60, full.length());
        due(6, book(full));
        due(-61, book(full + ";"));
        due(-61, book(full + "b"));
        String cut = line.repeat(5) + "1999:19999";
        due(-60, book(cut));
        due(-60, book(cut + "1"));
        String open = line.repeat(5) + "19:1999;20";
        due(-61, book(open));
        due(-61, book(open + "01:1"));
        due(-61, book(open + "5"));
        // a number that is 0 as far as it stands in the first 60
        String zero = line.repeat(5) + "19:1999;00";
        due(-60, book(zero));
        due(-60, book(zero + "5:1"));
        String wide = line.repeat(5) + "9:100;2001";
        due(-60, book(wide));
        due(-60, book(wide + "5"));
        due(-21, book(line.repeat(2) + ";" + line.repeat(5)));
        due(6, x.count(2));
    }

    private static void shops() {
        of(24);
        fresh();
        due(true, x.shop(10, 210));
        due(false, x.shop(10, 211));
        due(false, x.shop(9, 20));
        due(false, x.shop(200, 401));
        due(false, x.shop(21, 20));
        due(false, x.shop(Integer.MIN_VALUE, Integer.MAX_VALUE));
        due("10 210", x.count(9) + " " + x.count(10));
        due(true, x.shop(200, 400));
        due(true, x.shop(400, 400));
        due("400 400", x.count(9) + " " + x.count(10));
    }

    private static void trains() {
        of(25);
        fresh();
        book("2:1;3:2;1000:999;12:18;1:2000");
        x.shop(10, 40);
        due("11[20, 10]", told(x.trains(0, 1)));
        due("9[15, 10]", told(x.trains(1, 1)));
        due("9[10, 15]", told(x.trains(3, 1)));
        due("0[]", told(x.trains(2, 1)));
        due("1[25, 40, 27, 37]", told(x.trains(2, 2)));
        due("0[]", told(x.trains(4, 2)));
        x.shop(10, 70);
        // 10 * 20 by 10 * 10 has as many teeth as 10 * 20 by .. nothing else: the fewest there are
        x.trains(0, 2);
        due("[10, 20, 10, 10]", rowNow());
        due(true, x.trains(0, 2) > 1000);
        x.shop(10, 71);
        due(-4, x.trains(0, 2));
        due("[10, 20, 10, 10]", rowNow());
        due("26[20, 10]", told(x.trains(0, 1)));
        due(-1, x.trains(0, 0));
        due(-1, x.trains(0, 3));
        due(-1, x.trains(5, 2));
        due(-1, x.trains(-1, 1));
        due("[20, 10]", rowNow());
        // of equal sums less a, then less b, then less c
        book("1:1");
        x.shop(10, 12);
        due("3[10, 10]", told(x.trains(0, 1)));
        // 10 10 / 10 10, 10 11 / 10 11, 10 12 / 10 12, 11 11, 11 12, 12 12
        due("6[10, 10, 10, 10]", told(x.trains(0, 2)));
        x.shop(12, 12);
        due("1[12, 12, 12, 12]", told(x.trains(0, 2)));
        book("3:2");
        x.shop(10, 35);
        due(true, x.trains(0, 2) > 0);
        due("[10, 15, 10, 10]", rowNow());
        // the one with the fewest teeth is not the one with the least a and b and c
        book("1:3;1:4");
        x.shop(10, 30);
        due("63[10, 10, 15, 20]", told(x.trains(0, 2)));
        due("26[10, 10, 20, 20]", told(x.trains(1, 2)));
        // 210 teeth together twice: 49 77 by 42 42 and 55 70 by 40 45, and turned about
        book("77:36;36:77");
        x.shop(40, 90);
        x.trains(0, 2);
        due("[49, 77, 42, 42]", rowNow());
        x.trains(1, 2);
        due("[40, 45, 55, 70]", rowNow());
    }

    private static void nearest() {
        of(26);
        fresh();
        book("2:1;2:1999;1000:999;3:1;7:10");
        x.shop(10, 40);
        due("0[20, 10, 0, 1]", told(x.nearest(0)));
        due("2[10, 10, -1, 999]", told(x.nearest(2)));
        due("1[10, 40, " + (1999 * 10 - 2 * 40) / 10 + ", " + 1999 * 40 / 10 + "]", told(x.nearest(1)));
        x.shop(10, 20);
        due("2[20, 10, -1, 1]", told(x.nearest(3)));
        due("0[14, 20, 0, 1]", told(x.nearest(4)));
        // 11 / 10 and 10 / 11 for ratios between: both as near go by fewer teeth
        x.shop(10, 11);
        book("21:20;19:20;1:1");
        due("2[10, 10, -1, 20]", told(x.nearest(0)));
        // 10 / 10 is 1 / 20 more, 10 / 11 is 9 / 220 less
        due("2[10, 11, -9, 220]", told(x.nearest(1)));
        due("0[10, 10, 0, 1]", told(x.nearest(2)));
        due(-1, x.nearest(3));
        due(-1, x.nearest(-1));
        due("[10, 10, 0, 1]", rowNow());
        x.shop(200, 400);
        book("355:113");
        due("2[400, 200, " + (2 * 113 - 355) + ", 113]", told(x.nearest(0)));
    }

    private static void common() {
        of(27);
        fresh();
        book("2:1;3:2;1000:999;1:2000");
        x.shop(10, 40);
        due("10[3]", told(x.common(3)));
        due("25[4]", told(x.common(4)));
        due("25[7]", told(x.common(7)));
        due("25[7]", told(x.common(15)));
        due(-2, x.common(8));
        due(-1, x.common(0));
        due(-1, x.common(16));
        due(-1, x.common(-1));
        due("[7]", rowNow());
        x.shop(10, 71);
        due(-4, x.common(1));
        due(-1, x.common(0));
        x.shop(10, 70);
        due("10[1]", told(x.common(1)));
        book("49:1");
        due("70[1]", told(x.common(1)));
        // 20 is the greater one of both trains
        x.shop(10, 20);
        book("3:1;11:7");
        due("20[3]", told(x.common(3)));
        // 40 / 20 alone makes it
        x.shop(20, 40);
        book("4:1");
        due("40[1]", told(x.common(1)));
    }

    // ---- between the plates

    private static void axles() {
        of(28);
        fresh();
        due(true, x.axle(0, -500, 500));
        due(true, x.axle(9, 500, -500));
        due(false, x.axle(10, 0, 0));
        due(false, x.axle(-1, 0, 0));
        due(false, x.axle(0, 501, 0));
        due(false, x.axle(0, -501, 0));
        due(false, x.axle(0, 0, 501));
        due(false, x.axle(0, 0, -501));
        due(false, x.axle(0, Integer.MIN_VALUE, Integer.MIN_VALUE));
        // 1000 to the side and 1000 up is 1414.2.. away
        wheel(400, 0, 0);
        wheel(400, 9, 0);
        x.mesh(0, 1);
        due("1[0, -1, -1, 0, -1, 1, 0, 0]", told(x.room(50)));
    }

    private static void rooms() {
        of(29);
        fresh();
        wheel(20, 0, 0);
        wheel(30, 1, 0);
        wheel(40, 2, 0);
        wheel(50, 0, 0);
        x.axle(1, 30, 40);
        x.axle(2, -100, 0);
        // 0 and 1 stand 50 apart, as far as they go; 1 and 2 stand 136.. apart; 3 and 1 need 80
        due("2[1, 1, 3, 0, -1, 0, -1, 1]", told(x.room(0)));
        x.axle(1, 30, 39);
        due("3[2, 0, 1, 0, -1, 0, -1, 1]", told(x.room(0)));
        x.mesh(0, 1);
        // 49.2 apart instead of 50: one is too near by none, not by one
        due("3[1, 1, 3, 0, -1, 1, 0, 1]", told(x.room(0)));
        due("2[1, 1, 3, 0, -1, 0, -1, 1]", told(x.room(1)));
        x.axle(1, 30, 40);
        due("2[1, 1, 3, 0, -1, 0, -1, 1]", told(x.room(0)));
        x.axle(1, 31, 40);
        due("3[1, 1, 3, 0, -1, 1, 0, 1]", told(x.room(0)));
        due("2[1, 1, 3, 0, -1, 0, -1, 1]", told(x.room(1)));
        // just slack nearer or farther is not more
        x.axle(1, 36, 48);
        due("2[1, 1, 3, 0, -1, 0, -1, 1]", told(x.room(10)));
        due("3[1, 1, 3, 0, -1, 1, 0, 1]", told(x.room(9)));
        x.axle(1, 24, 32);
        due(2, x.room(10));
        due(3, x.room(9));
        // a mesh askew; those of unlike depth do not stand in each other's way
        wheel(60, 2, 1);
        x.mesh(4, 0);
        x.axle(1, 30, 40);
        due("3[1, 1, 3, 1, 1, 0, -1, 1]", told(x.room(20)));
        due("4[1, 1, 3, 1, 1, 1, 1, 1]", told(x.room(19)));
        due(-1, x.room(-1));
        due(-1, x.room(51));
        due("[1, 1, 3, 1, 1, 1, 1, 1]", rowNow());
        // by what is taken; slack above both halves takes none as too near
        fresh();
        x.wheel(10, 100, 0, 0);
        x.wheel(10, 100, 1, 0);
        due("1[1, 0, 1, 0, -1, 0, -1, 0]", told(x.room(0)));
        x.axle(1, 20, 0);
        due(0, x.room(0));
        x.take(0, 11);
        due(1, x.room(0));
        x.mesh(0, 1);
        x.axle(1, 0, 0);
        due("0[0, -1, -1, 0, -1, 0, -1, 0]", told(x.room(21)));
        due("1[0, -1, -1, 0, -1, 1, 0, 0]", told(x.room(20)));
        due(0, x.room(22));
        due(0, x.room(50));
    }

    private static void pierced() {
        of(30);
        fresh();
        wheel(10, 0, 1);
        wheel(100, 3, 2);
        due(0, x.pierced());
        wheel(10, 0, 4);
        due(1, x.pierced());
        x.axle(3, 99, 0);
        due(1, x.pierced());
        x.axle(3, 100, 0);
        due(0, x.pierced());
        x.axle(3, 60, -79);
        due(1, x.pierced());
        x.axle(3, 60, -80);
        due(0, x.pierced());
        // the depths of its ends are left out
        x.axle(3, 0, 0);
        wheel(50, 4, 1);
        wheel(50, 4, 4);
        due(17, x.pierced());
        wheel(50, 5, 4);
        wheel(50, 5, 1);
        due(49, x.pierced());
        // wheels at the depths of its ends alone do not stop it; the first wheel may be the one that does
        fresh();
        wheel(50, 1, 1);
        wheel(20, 0, 0);
        wheel(20, 0, 3);
        wheel(20, 2, 0);
        wheel(20, 3, 3);
        due(1, x.pierced());
        x.axle(1, 60, 0);
        due(0, x.pierced());
        // a wheel of its own does not count
        fresh();
        wheel(10, 0, 1);
        wheel(10, 0, 2);
        wheel(10, 0, 3);
        due(0, x.pierced());
        // by what is taken
        x.wheel(10, 90, 9, 2);
        x.axle(9, 50, 0);
        due(0, x.pierced());
        x.take(3, 51);
        due(1, x.pierced());
    }

    private static void depths() {
        of(31);
        fresh();
        wheel(20, 0, 0);
        wheel(30, 1, 0);
        wheel(40, 2, 0);
        x.axle(1, 50, 0);
        x.axle(2, 60, 0);
        // the third stands in the way of the second; 60 to the first is just enough
        due("2[0, 0, 1]", told(x.depths()));
        x.axle(2, 59, 0);
        due("2[0, 0, 1]", told(x.depths()));
        wheel(20, 0, 0);
        due("3[0, 0, 1, 2]", told(x.depths()));
        x.mesh(0, 1);
        due("3[0, 0, 1, 2]", told(x.depths()));
        // the mesh lets them stand on one depth, though they are nearer
        x.mesh(1, 2);
        // 0 and 2 are led together and stand in each other's way
        due(-2, x.depths());
        due("[0, 0, 1, 2]", rowNow());
        x.axle(2, 60, 0);
        due("2[0, 0, 0, 1]", told(x.depths()));
        // two of one axle led together
        fresh();
        wheel(20, 0, 0);
        wheel(20, 1, 0);
        wheel(20, 0, 0);
        x.axle(1, 40, 0);
        x.mesh(0, 1);
        due("2[0, 0, 1]", told(x.depths()));
        x.mesh(2, 1);
        due(-2, x.depths());
        // those led together that stand in each other's way are not the first
        fresh();
        wheel(20, 5, 0);
        x.axle(5, 500, 500);
        wheel(20, 0, 0);
        wheel(20, 1, 0);
        wheel(20, 0, 0);
        x.axle(1, 40, 0);
        x.mesh(1, 2);
        due("2[0, 0, 0, 1]", told(x.depths()));
        x.mesh(2, 3);
        due(-2, x.depths());
        // fourteen on one axle need fourteen
        fresh();
        for (int w = 0; w < 14; w++) {
            wheel(20, 4, 0);
        }
        due("14[0, 1, 2, 3, 4, 5, 6, 7, 8, 9, 10, 11, 12, 13]", told(x.depths()));
        fresh();
        wheel(400, 0, 0);
        due("1[0]", told(x.depths()));
    }

    /** What goes first where it can does not lead to the fewest; of equal ones the least row. */
    private static void hardDepths() {
        of(31);
        // in a row, each in the way of the next alone: told as ends first, then the two between
        fresh();
        for (int a = 0; a < 4; a++) {
            wheel(30, a, 0);
        }
        x.axle(0, 0, 0);
        x.axle(1, 150, 0);
        x.axle(2, 50, 0);
        x.axle(3, 100, 0);
        // 0 - 2 - 3 - 1: 0 and 1 can't be on one depth if there are two
        due("2[0, 1, 1, 0]", told(x.depths()));
        // a ring of five needs three
        fresh();
        int[][] ring = {{0, 50}, {48, 15}, {29, -40}, {-29, -40}, {-48, 15}};
        for (int a = 0; a < 5; a++) {
            wheel(35, a, 0);
            x.axle(a, ring[a][0], ring[a][1]);
        }
        due("3[0, 1, 0, 1, 2]", told(x.depths()));
    }

    // ---- a pin in a slot

    private static void slots() {
        of(32);
        fresh();
        due("0[1, 1]", told(x.slot(0, 100, 1, 1)));
        due("1[2, 1]", told(x.slot(1, 2, 1, 1)));
        due("2[2, 3]", told(x.slot(1, 2, -1, 1)));
        due("2[4, 5]", told(x.slot(1, 2, 0, 1)));
        // where the cosine is e it is alike
        due("0[1, 1]", told(x.slot(1, 2, 1, 2)));
        due("1[100, 1]", told(x.slot(99, 100, 20, 20)));
        due("2[100, 199]", told(x.slot(99, 100, -20, 20)));
        // e is 1 / 3, f is 1 / 5: (1 - 1/15) / (1 - 2/15 + 1/9) = 14/15 * 45/44
        due("2[21, 22]", told(x.slot(1, 3, 1, 5)));
        due(-1, x.slot(-1, 2, 1, 1));
        due(-1, x.slot(100, 100, 1, 1));
        due(-1, x.slot(2, 2, 1, 1));
        due(-1, x.slot(3, 2, 1, 1));
        due(-1, x.slot(1, 101, 1, 1));
        due(-1, x.slot(1, 2, 0, 0));
        due(-1, x.slot(1, 2, 0, 21));
        due(-1, x.slot(1, 2, 3, 2));
        due(-1, x.slot(1, 2, -3, 2));
        due(-1, x.slot(0, 0, 0, 1));
        due("[21, 22]", rowNow());
    }

    private static void uneven() {
        of(33);
        fresh();
        due("50[3, 1]", told(x.uneven(3, 1)));
        due("0[1, 1]", told(x.uneven(1, 1)));
        due("0[1, 1]", told(x.uneven(1000, 1000)));
        due("99[199, 1]", told(x.uneven(1000, 1)));
        due("99[199, 1]", told(x.uneven(199, 1)));
        due("98[99, 1]", told(x.uneven(99, 1)));
        // 149 is as near to 99 as to 199: the least
        due("98[99, 1]", told(x.uneven(149, 1)));
        due("99[199, 1]", told(x.uneven(150, 1)));
        due("33[133, 67]", told(x.uneven(2, 1)));
        due("10[11, 9]", told(x.uneven(11, 9)));
        due(-1, x.uneven(1, 2));
        due(-1, x.uneven(0, 0));
        due(-1, x.uneven(1001, 1));
        due(-1, x.uneven(1001, 1001));
        due(-1, x.uneven(3, 0));
        due(-1, x.uneven(3, -1));
        due("[11, 9]", rowNow());
    }

    // ---- the sky

    private static void near() {
        of(34);
        chain(64, 38, 48, 24);
        book("235:19;64:19;32:20");
        due("2[-171, 1]", told(x.near(2, 0, 19)));
        due("0[0, 1]", told(x.near(2, 1, 2000)));
        due("0[0, 1]", told(x.near(2, 0, 0)));
        due("1[8, 95]", told(x.near(1, 2, 1)));
        due("1[16, 95]", told(x.near(1, 2, 2)));
        due("2[-216000, 19]", told(x.near(0, 0, 1000)));
        due(-2, x.near(3, 0, 1));
        due(-1, x.near(3, 3, 1));
        due(-1, x.near(2, -1, 1));
        due(-1, x.near(2, 0, -1));
        due(-1, x.near(2, 0, 2001));
        due(-1, x.near(10, 0, 1));
        due(-1, x.near(-1, 0, 1));
        due("[-216000, 19]", rowNow());
        x.mesh(0, 3);
        due(-3, x.near(2, 0, 1));
        chain(11, 400, 13, 400, 17, 400, 19, 400);
        book("1:2000;2000:1");
        due(-5, x.near(4, 0, 1));
        due(0, x.near(3, 0, 0));
        // 2431 / 64000000 less 1 / 2000, times 2000
        due("2[-29569, 32000]", told(x.near(3, 0, 2000)));
    }

    private static void off() {
        of(35);
        chain(64, 38, 48, 24);
        book("235:19;64:19;32:20;63:19");
        due(1, x.off(2, 0, 10));
        due(1, x.off(2, 0, 0));
        due(-6, x.off(2, 1, 0));
        due(-6, x.off(2, 1, 360));
        // 8 / 95 of a turn a year: 30.3 in 360
        due(1, x.off(1, 2, 30));
        due(2, x.off(1, 2, 31));
        due(12, x.off(1, 2, 360));
        // 1 / 19 a year: after 19 years just one turn
        due(20, x.off(2, 3, 360));
        due(19, x.off(2, 3, 359));
        due(-1, x.off(2, 3, -1));
        due(-1, x.off(2, 3, 361));
        due(-1, x.off(2, 4, 1));
        due(-1, x.off(10, 3, 1));
        due(-2, x.off(3, 3, 1));
        due(-1, x.off(3, 3, 361));
        // 1 / 2000 a year: after 2000 years a turn, not more
        chain(20, 20);
        book("1999:2000;1999:1999;1998:1999");
        due(-6, x.off(1, 0, 360));
        due(1995, x.off(1, 0, 359));
        due(-6, x.off(1, 1, 0));
        due(2000, x.off(1, 2, 360));
        chain(11, 400, 13, 400, 17, 400, 19, 400);
        book("1:2000");
        due(-5, x.off(4, 0, 1));
        chain(64, 38, 48, 24);
        x.mesh(0, 3);
        book("1:1");
        due(-3, x.off(1, 0, 1));
    }

    private static void meets() {
        of(36);
        fresh();
        book("235:19;254:19;19:76;1:1999;1:1997;1000:2000");
        due("19[235]", told(x.meets(1)));
        due("76[940, 1016, 19]", told(x.meets(7)));
        due("4[1]", told(x.meets(4)));
        due("2[1]", told(x.meets(32)));
        due(-2, x.meets(24));
        due("[1]", rowNow());
        due("1999[1]", told(x.meets(8)));
        due(-1, x.meets(0));
        due(-1, x.meets(64));
        due(-1, x.meets(-1));
        book("1:1000;1:1;1:625;1:1999;7:500;3:64");
        due("5000[5, 5000, 8]", told(x.meets(7)));
        // 1000 and 625 and 64 go together in 40000
        due("40000[40, 64, 1875]", told(x.meets(37)));
        book("1:1000;1:999;1:2000;1:125;1:625;1:64;1:1600;1:1953");
        due("999000[999, 1000]", told(x.meets(3)));
        due(-2, x.meets(6));
        book("1:999;1:1001;1:1000");
        due("999999[1001, 999]", told(x.meets(3)));
        due(-2, x.meets(6));
        book("1:64;1:1250;1:1600;1:2000;1:1953;1:625");
        due("40000[625, 32]", told(x.meets(3)));
        book("2000:1999;1:500;1:400;3:1250");
        due("999500[1000000, 1999]", told(x.meets(3)));
        book("");
        due(-1, x.meets(1));
    }

    // ---- words with gaps

    private static void words() {
        of(37);
        fresh();
        book("463:4;462:49;46:6;1462:2000;1:0049");
        due("3[10]", told(word("46?", 1)));
        due("1[1]", told(word("463", 1)));
        due("4[10]", told(word("4?", 1)));
        due("16[1]", told(word("1", 1)));
        due("5[9]", told(word("?", 0)));
        due("18[90]", told(word("??", 0)));
        due("18[9]", told(word("?9", 0)));
        due("8[1]", told(word("2???", 0)));
        due("8[1001]", told(word("????", 0)));
        due("0[900]", told(word("???", 0)));
        due("0[0]", told(word("0049", 0)));
        due("18[1]", told(word("49", 0)));
        due("0[0]", told(word("0?", 0)));
        due("0[0]", told(word("0", 0)));
        due("0[0]", told(word("3???", 1)));
        due("0[1000]", told(word("1???", 0)));
        due(-100, word("", 0));
        due(-100, word("x", 1));
        due(-101, word("1x", 1));
        due(-103, word("123/", 1));
        due(-103, word("123:", 1));
        due(-104, word("12345", 0));
        due(-104, word("1234x", 0));
        due(-101, word("1x345", 0));
        due(-100, word("a????????", 0));
        due("[1000]", rowNow());
        due(0, x.count(8));
        due(-1, word("46?", 2));
        due(0, x.count(8));
        due(-1, word("46?", -1));
        due(-1, word("x", 2));
        due("[1000]", rowNow());
    }

    private static void names() {
        of(38);
        fresh();
        book("1:1;1:1a;1:1b;1:1a");
        due("2[1]", told(names("a")));
        due("1[2]", told(names("b")));
        due("4[0]", told(names("?")));
        due("2[1, 3]", told(names("aa")));
        due("2[2, 1]", told(names("ba")));
        due("6[1, 0]", told(names("a?")));
        due("12[0, 1]", told(names("??")));
        due("24[0, 1, 2, 3]", told(names("????")));
        due("2[0, 1, 2, 3]", told(names("?aba")));
        due("0[0, 1, 2, 3]", told(names("c")));
        due("0[0, 1, 2, 3]", told(names("bb")));
        due("0[0, 1, 2, 3]", told(names("?????")));
        due("0[0, 1, 2, 3]", told(names("aaa")));
        due(-100, names(""));
        due(-100, names("A"));
        due(-101, names("a`"));
        due(-101, names("a{"));
        due(-103, names("???1???"));
        due(-108, names("?????????"));
        due(-108, names("aaaaaaaa{"));
        due(-107, names("aaaaaaa{a"));
        due(0, x.count(8));
        due("[0, 1, 2, 3]", rowNow());
        book("1:1;1:1;1:1;1:1;1:1;1:1;1:1;1:1z");
        due("40320[0, 1, 2, 3, 4, 5, 6, 7]", told(names("????????")));
        due("5040[7, 0, 1, 2, 3, 4, 5, 6]", told(names("z???????")));
        due("5040[0, 1, 2, 3, 4, 5, 6, 7]", told(names("???????z")));
        book("");
        due(0, names("?"));
    }

    // ---- when it was set

    private static void dials() {
        of(39);
        fresh();
        due(1, x.dial(0, true));
        due(2, x.dial(222, true));
        due(2, x.dial(222, true));
        due(1, x.dial(0, false));
        due(1, x.dial(1, false));
        due(-1, x.dial(223, true));
        due(-1, x.dial(-1, true));
        due(1, x.count(3));
    }

    private static void seenAndGames() {
        of(40);
        fresh();
        due(1, x.seen(0, true));
        due(2, x.seen(9999, false));
        due(-1, x.seen(-1, true));
        due(-1, x.seen(10000, true));
        for (int n = 3; n <= 20; n++) {
            due(n, x.seen(0, true));
        }
        due(-1, x.seen(0, true));
        due(20, x.count(4));
        of(41);
        due(1, x.games(0));
        due(2, x.games(999));
        due(-1, x.games(-1));
        due(-1, x.games(1000));
        for (int n = 3; n <= 8; n++) {
            due(n, x.games(7));
        }
        due(-1, x.games(7));
        due(8, x.count(5));
    }

    private static void whenAndWrong() {
        of(42);
        fresh();
        due("223[0, 1, 2, 3, 4, 5, 6, 7, 8, 9]", told(x.when()));
        of(43);
        due("0[0, 0]", told(x.wrong()));
        of(42);
        x.seen(5, true);
        due("0[]", told(x.when()));
        x.dial(7, true);
        x.dial(13, true);
        x.dial(220, true);
        due("3[2, 8, 215]", told(x.when()));
        // going round: 222 and 5 behind is month 4
        x.dial(4, true);
        due("4[2, 8, 215, 222]", told(x.when()));
        x.seen(11, true);
        due("1[2]", told(x.when()));
        x.seen(6, false);
        due("1[2]", told(x.when()));
        x.seen(5 + 223 * 44, true);
        due("1[2]", told(x.when()));
        x.seen(12, true);
        due("0[]", told(x.when()));
        of(43);
        // 2: all but that of 12 behind; earlier months leave more out
        due("1[2, 16]", told(x.wrong()));
        x.seen(12, true);
        x.seen(12, true);
        x.seen(12, true);
        // 2 leaves out four now; of 215 those of 5 and 12 behind stand on 220 and 4, that of 11 does not
        due("1[215, 2]", told(x.wrong()));
        of(42);
        fresh();
        for (int month = 0; month < 223; month += 20) {
            x.dial(month, true);
        }
        x.seen(1, true);
        due("12[19, 39, 59, 79, 99, 119, 139, 159, 179, 199]", told(x.when()));
        fresh();
        x.dial(0, true);
        x.seen(0, false);
        due("222[1, 2, 3, 4, 5, 6, 7, 8, 9, 10]", told(x.when()));
        of(43);
        due("0[1, 0]", told(x.wrong()));
        fresh();
        x.seen(3, true);
        x.seen(3, false);
        due("1[0, 1]", told(x.wrong()));
        x.dial(3, true);
        due("1[0, 2]", told(x.wrong()));
    }

    private static void years() {
        of(44);
        int[] set = {0, 3, 2, 1};
        for (int games = 0; games < 8; games++) {
            fresh();
            due(-1, x.year());
            x.games(games);
            due(set[games % 4], x.year());
            fresh();
            x.games(games);
            x.games(games + 2);
            due(-2, x.year());
            fresh();
            x.games(games);
            x.games(games + 400);
            due(set[games % 4], x.year());
            x.games(games + 401);
            due(-2, x.year());
            x.games(games);
            due(-2, x.year());
        }
    }

    // ---- what is left, and builds

    private static void left() {
        of(45);
        fresh();
        due(0, x.left(0, 0, 10, 400));
        due(1, x.left(9, 9, 20, 20));
        due(-1, x.left(-1, 0, 20, 20));
        due(-1, x.left(10, 0, 20, 20));
        due(-1, x.left(0, -1, 20, 20));
        due(-1, x.left(0, 10, 20, 20));
        due(-1, x.left(0, 0, 9, 20));
        due(-1, x.left(0, 0, 20, 401));
        due(-1, x.left(0, 0, 21, 20));
        due(2, x.count(6));
        for (int i = 2; i < 12; i++) {
            due(i, x.left(0, 0, 20, 30));
        }
        due(-1, x.left(0, 0, 20, 30));
        due(12, x.count(6));
    }

    private static void breaks() {
        of(46);
        fresh();
        x.left(1, 2, 20, 30);
        due("1[-1]", told(x.breaks()));
        wheel(20, 1, 3);
        wheel(20, 2, 2);
        wheel(19, 1, 2);
        wheel(31, 1, 2);
        due("1[-1]", told(x.breaks()));
        wheel(30, 1, 2);
        due("0[1]", told(x.breaks()));
        x.left(1, 2, 30, 40);
        x.left(1, 2, 25, 31);
        // one wheel may be several
        due("0[1]", told(x.breaks()));
        x.left(1, 2, 10, 29);
        due("0[2]", told(x.breaks()));
        x.left(2, 2, 10, 29);
        due("0[3]", told(x.breaks()));
        x.left(3, 2, 10, 29);
        due("32[-1]", told(x.breaks()));
        // by what is taken
        x.wheel(10, 40, 3, 2);
        due("0[4]", told(x.breaks()));
        x.take(5, 30);
        due("32[-1]", told(x.breaks()));
        // 20 .. 30, 28 .. 40, 38 .. 50 by 20, 29, 39, 45: two do
        fresh();
        x.left(0, 0, 20, 30);
        x.left(0, 0, 28, 40);
        x.left(0, 0, 38, 50);
        wheel(20, 0, 0);
        wheel(29, 0, 0);
        wheel(45, 0, 0);
        wheel(39, 0, 0);
        due("0[2]", told(x.breaks()));
        // 29 is both, 20 one alone; wheel 0 is it
        fresh();
        x.left(0, 0, 20, 30);
        x.left(0, 0, 28, 40);
        wheel(29, 0, 0);
        wheel(20, 0, 0);
        due("0[1]", told(x.breaks()));
        x.left(0, 0, 20, 20);
        due("0[2]", told(x.breaks()));
        x.left(0, 0, 29, 29);
        x.left(1, 0, 29, 29);
        x.left(0, 1, 29, 29);
        due("48[-1]", told(x.breaks()));
    }

    private static void builds() {
        of(47);
        fresh();
        x.wheel(20, 30, 0, 0);
        x.wheel(20, 30, 1, 0);
        x.mesh(0, 1);
        x.axle(1, 45, 0);
        x.take(0, 25);
        due(true, x.keep(0));
        due(true, x.keep(3));
        due(false, x.keep(4));
        due(false, x.keep(-1));
        of(48);
        due(false, x.again(1));
        due(false, x.again(4));
        due(false, x.again(-1));
        x.take(0, 30);
        x.arc(1, 1, 144, 0);
        wheel(50, 2, 2);
        x.mesh(2, 0);
        x.part();
        x.part();
        x.axle(1, 0, 0);
        book("1:1");
        x.left(0, 0, 10, 20);
        x.turn(0);
        due(true, x.keep(1));
        due(true, x.again(0));
        due("2 1 25 20 30", x.count(0) + " " + x.count(1) + " " + x.of(0, 2) + " " + x.of(1, 0) + " " + x.of(1, 1));
        // nothing else comes back
        due("1 1 2", x.count(2) + " " + x.count(6) + " " + x.count(7));
        due("0[0, -1, -1, 0, -1, 0, -1, 0]", told(x.room(0)));
        due(true, x.again(1));
        due("3 0 30 25 25", x.count(0) + " " + x.count(1) + " " + x.of(0, 2) + " " + x.of(1, 0) + " " + x.of(1, 1));
        due("1[1, 0, 1, 0, -1, 0, -1, 0]", told(x.room(0)));
        // what is kept does not change with what comes after
        x.take(0, 22);
        x.mesh(2, 1);
        due(true, x.again(1));
        due("0 30", x.count(1) + " " + x.of(0, 2));
        x.again(0);
        x.keep(1);
        due(true, x.again(1));
        due("2 1 25", x.count(0) + " " + x.count(1) + " " + x.of(0, 2));
        // meshes and both numbers of a place come back
        fresh();
        for (int a = 0; a < 4; a++) {
            wheel(20, a, 0);
        }
        x.mesh(2, 3);
        x.axle(3, 24, 32);
        x.axle(2, 0, 0);
        x.keep(2);
        x.part();
        x.mesh(0, 1);
        x.axle(3, 24, -100);
        x.again(2);
        due("0 0 8 4", x.of(0, 5) + " " + x.of(1, 5) + " " + x.of(2, 5) + " " + x.of(3, 5));
        x.room(0);
        due(0L, x.row(5));
        x.axle(3, 25, 32);
        x.room(0);
        due(1L, x.row(5));
        x.again(2);
        x.room(0);
        due(0L, x.row(5));
    }

    private static void unlike() {
        of(49);
        fresh();
        x.wheel(20, 30, 0, 0);
        x.wheel(20, 30, 1, 0);
        due(-1, x.unlike(0, 0));
        x.keep(0);
        due("0[0, 0, 0]", told(x.unlike(0, 0)));
        due(-1, x.unlike(0, 1));
        due(-1, x.unlike(1, 0));
        x.take(1, 25);
        x.axle(1, 100, 0);
        wheel(40, 2, 0);
        x.mesh(0, 2);
        x.keep(1);
        due("2[6, 0, 0]", told(x.unlike(0, 1)));
        x.left(2, 0, 40, 40);
        x.left(1, 0, 20, 20);
        x.left(5, 0, 20, 20);
        due("2[6, 5, 6]", told(x.unlike(0, 1)));
        due("2[6, 6, 5]", told(x.unlike(1, 0)));
        due(-1, x.unlike(0, 4));
        due(-1, x.unlike(-1, 0));
        due("[6, 6, 5]", rowNow());
        // spans, meshes and places do not count; axles and depths do, and one that the other has not
        fresh();
        x.keep(0);
        x.wheel(20, 30, 0, 0);
        wheel(40, 1, 0);
        wheel(50, 1, 0);
        x.keep(2);
        x.again(0);
        x.wheel(10, 20, 0, 0);
        x.take(0, 20);
        x.wheel(40, 41, 2, 0);
        wheel(50, 1, 1);
        x.mesh(0, 1);
        x.axle(0, 7, 7);
        x.keep(3);
        due("2[6, 0, 0]", told(x.unlike(2, 3)));
        due("3[7, 0, 0]", told(x.unlike(0, 3)));
        due("3[7, 0, 0]", told(x.unlike(3, 0)));
        x.take(0, 10);
        x.keep(3);
        due("3[7, 0, 0]", told(x.unlike(3, 2)));
    }

    private static void counts() {
        of(50);
        fresh();
        chain(64, 38);
        wheel(20, 5, 5);
        book("1:1;1:2;1:3");
        x.dial(4, true);
        x.dial(5, true);
        x.dial(6, true);
        x.dial(7, true);
        for (int i = 0; i < 5; i++) {
            x.seen(i, true);
            x.games(i);
            x.left(0, 0, 20, 20 + i);
        }
        x.games(6);
        x.left(0, 0, 20, 20);
        x.left(0, 0, 20, 20);
        x.slot(1, 2, 1, 1);
        x.sign(0);
        x.sign(0);
        x.shop(33, 44);
        int[] all = {3, 1, 3, 4, 5, 6, 7, 2, 8, 33, 44};
        for (int what = 0; what < all.length; what++) {
            due(all[what], x.count(what));
        }
        due(-1, x.count(11));
        due(-1, x.count(-1));
        due(-1, x.count(Integer.MAX_VALUE));
    }

    private static void rows() {
        of(51);
        fresh();
        dueThrows(() -> x.row(0));
        dueThrows(() -> x.row(-1));
        x.slot(1, 2, 1, 1);
        due(2L, x.row(0));
        due(1L, x.row(1));
        dueThrows(() -> x.row(2));
        dueThrows(() -> x.row(-1));
        dueThrows(() -> x.row(Integer.MAX_VALUE));
        dueThrows(() -> x.row(Integer.MIN_VALUE));
        x.room(0);
        due(8, x.count(7));
        dueThrows(() -> x.row(8));
        x.turning();
        due(1, x.count(7));
        dueThrows(() -> x.row(1));
    }

    /** Refused calls change nothing but the text, which one that can read it empties. */
    private static void refusedCallsChangeNothing() {
        of(51);
        fresh();
        chain(64, 38, 48, 24);
        book("64:19;1:2b");
        x.near(2, 1, 1);
        String before = stateNow();
        x.wheel(1, 1, 1, 1);
        x.arc(0, 0, 0, 0);
        x.arc(0, 1, 3600, 0);
        x.take(0, 65);
        x.sheet(7, 1, 1, 1);
        x.sheet(0, -3, 1, 1);
        x.mesh(0, 0);
        x.turn(10);
        x.turn(8);
        x.gives(8);
        x.show(2, -1);
        x.together(8, 0);
        x.way(0);
        x.way(8);
        x.fittings(8, 0);
        x.fit(2, 1, 0);
        x.sure(2, 1, 0);
        x.next(2, 1);
        x.may(8);
        x.sign(0);
        x.end(0);
        x.end(3);
        book("1:1;x");
        x.shop(1, 1);
        x.trains(9, 1);
        x.nearest(9);
        x.common(0);
        x.axle(0, 501, 0);
        x.room(99);
        x.slot(1, 1, 1, 1);
        x.uneven(0, 1);
        x.near(2, 1, -1);
        x.off(2, 0, 0);
        x.off(2, 1, 361);
        x.meets(0);
        word("12345", 0);
        names("c");
        names("A");
        x.dial(300, true);
        x.seen(-1, true);
        x.games(-1);
        x.year();
        x.left(0, 0, 1, 1);
        x.keep(9);
        x.again(0);
        x.unlike(0, 0);
        x.count(99);
        due(before, stateNow());
    }

    private static String stateNow() {
        StringBuilder all = new StringBuilder(rowNow());
        for (int what = 0; what < 11; what++) {
            all.append(' ').append(x.count(what));
        }
        for (int w = 0; w < x.count(0); w++) {
            for (int what = 0; what < 6; what++) {
                all.append(' ').append(x.of(w, what));
            }
        }
        return all.toString();
    }
}
