/** Boundaries that the promises of fittings name: 16 to 20. */
abstract class FittingEdges extends Edges {
    static void all() {
        fittings();
        fit();
        sure();
        may();
        next();
    }

    /** 20 .. 26 drives 10 .. 13: 2 : 1 by four, 5 : 2 by one, 13 : 5 by one, 3 : 1 and 2000 : 1 by none. */
    private static void twoWheels() {
        fresh();
        x.wheel(20, 26, 0, 0);
        x.wheel(10, 13, 1, 0);
        x.mesh(0, 1);
        book("2:1;5:2;13:5;3:1;2000:1;1:2000");
    }

    /** To axle 2 there are 305762 ways, to axle 1 half of them, to axle 4 there are 391; axle 3 is idle. */
    private static void tooMany() {
        fresh();
        x.wheel(10, 400, 0, 0);
        x.wheel(10, 400, 1, 0);
        x.wheel(10, 11, 1, 1);
        wheel(10, 2, 1);
        x.wheel(10, 400, 0, 2);
        wheel(20, 4, 2);
        x.mesh(0, 1);
        x.mesh(2, 3);
        x.mesh(4, 5);
        book("2:1;1:1;41:1");
        x.slot(1, 2, 1, 1);
    }

    private static void fittings() {
        edge("fittings", "How many FITTINGS an AXLE has to a PERIOD; the ROW: of the first of them TEETH, WHEEL by WHEEL on the way, by"
            + " numbers (none without).");
        twoWheels();
        due("4[20, 10]", told(x.fittings(1, 0)));
        due("1[25, 10]", told(x.fittings(1, 1)));
        due("1[26, 10]", told(x.fittings(1, 2)));
        due("0[]", told(x.fittings(1, 3)));
        due("1[26, 10]", told(x.fittings(1, 2)));
        due("0[]", told(x.fittings(1, 4)));
        due("0[]", told(x.fittings(1, 5)));
        // the wheel between told last: each of its numbers is a way of its own
        fresh();
        x.wheel(20, 21, 0, 0);
        x.wheel(40, 42, 2, 0);
        x.wheel(30, 32, 1, 0);
        x.mesh(0, 2);
        x.mesh(2, 1);
        book("1:2;1:3;10:21;20:41;1:2000;2000:1");
        due("6[20, 40, 30]", told(x.fittings(2, 0)));
        due("0[]", told(x.fittings(2, 1)));
        due("3[20, 42, 30]", told(x.fittings(2, 2)));
        due("3[20, 41, 30]", told(x.fittings(2, 3)));
        due("0[]", told(x.fittings(2, 4)));
        due("0[]", told(x.fittings(2, 5)));
        String[] order = {"20 40 30", "20 40 31", "20 40 32", "21 42 30", "21 42 31", "21 42 32"};
        for (int i = 0; i < 6; i++) {
            due(true, x.fit(2, 0, i));
            due(order[i], x.of(0, 2) + " " + x.of(1, 2) + " " + x.of(2, 2));
        }
        due(false, x.fit(2, 0, 6));
        twoWheels();
        // what is taken does not count, and stays
        x.take(0, 23);
        due("4[20, 10]", told(x.fittings(1, 0)));
        due(23, x.of(0, 2));
        // fourteen wheels on the way of seven pairs, each with one number
        chain(20, 40, 20, 40, 20, 40, 20, 40, 20, 40, 20, 40, 20, 40);
        book("1:128;128:1");
        due("1[20, 40, 20, 40, 20, 40, 20, 40, 20, 40, 20, 40, 20, 40]", told(x.fittings(7, 0)));
        due("0[]", told(x.fittings(7, 1)));
        // the greatest products of all
        chain(400, 400, 400, 400, 400, 400, 400, 400, 400, 400, 400, 400, 400, 400);
        book("1:1;1:2000;2000:1");
        due("1[400, 400, 400, 400, 400, 400, 400, 400, 400, 400, 400, 400, 400, 400]", told(x.fittings(7, 0)));
        due("0[]", told(x.fittings(7, 1)));
        due("0[]", told(x.fittings(7, 2)));
        // a mesh told from the far wheel to the near one
        fresh();
        x.wheel(20, 26, 0, 0);
        x.wheel(10, 13, 1, 0);
        x.mesh(1, 0);
        book("2:1;1:2");
        due("4[20, 10]", told(x.fittings(1, 0)));
        due("0[]", told(x.fittings(1, 1)));
        due("0[20, 26, 4]", told(x.sure(1, 0, 0)));
        due(true, x.fit(1, 0, 3));
        due("26 13", x.of(0, 2) + " " + x.of(1, 2));

        edge("fittings", "-2: it is IDLE; -4; NONE: none such, AXLE 0.");
        tooMany();
        due(-2, x.fittings(3, 0));
        due(-2, x.fittings(9, 2));
        due(-4, x.fittings(2, 0));
        due(-4, x.fittings(2, 2));
        due(-1, x.fittings(0, 0));
        due(-1, x.fittings(10, 0));
        due(-1, x.fittings(-1, 0));
        due(-1, x.fittings(1, 3));
        due(-1, x.fittings(1, -1));
        due(-1, x.fittings(3, 3));
        due(-1, x.fittings(Integer.MIN_VALUE, Integer.MAX_VALUE));
        due("[2, 1]", rowNow());
        due("1[40, 20]", told(x.fittings(4, 0)));
        due("391[10, 10]", told(x.fittings(1, 1)));
        book("");
        due(-1, x.fittings(4, 0));
    }

    private static void fit() {
        edge("fit", "FITTING i in order (0 ..): its TEETH are TAKEN: true. False: there are not so many, or -2, -4, NONE as"
            + " fittings().");
        twoWheels();
        due(true, x.fit(1, 0, 3));
        due("26 13", x.of(0, 2) + " " + x.of(1, 2));
        due(true, x.fit(1, 0, 0));
        due("20 10", x.of(0, 2) + " " + x.of(1, 2));
        due(true, x.fit(1, 2, 0));
        due("26 10", x.of(0, 2) + " " + x.of(1, 2));
        due(false, x.fit(1, 0, 4));
        due(false, x.fit(1, 0, Integer.MAX_VALUE));
        due(false, x.fit(1, 0, -1));
        due(false, x.fit(1, 0, Integer.MIN_VALUE));
        due(false, x.fit(1, 2, 1));
        due(false, x.fit(1, 3, 0));
        due(false, x.fit(1, 6, 0));
        due(false, x.fit(1, -1, 0));
        due(false, x.fit(0, 0, 0));
        due(false, x.fit(2, 0, 0));
        due(false, x.fit(9, 0, 0));
        due(false, x.fit(10, 0, 0));
        due(false, x.fit(-1, 0, 0));
        due("26 10", x.of(0, 2) + " " + x.of(1, 2));
        // the spans stay, and the axle gives the period then
        due("20 26 10 13", ofWheel(0, 0, 1) + " " + ofWheel(1, 0, 1));
        due("4[0]", told(x.gives(1)));
        tooMany();
        due(false, x.fit(2, 0, 0));
        due(false, x.fit(2, 1, 0));
        due("10 10 10", x.of(0, 2) + " " + x.of(1, 2) + " " + x.of(2, 2));
        due(true, x.fit(4, 0, 0));
        due("40 20", x.of(4, 2) + " " + x.of(5, 2));
        due("[2, 1]", rowNow());
    }

    private static void sure() {
        edge("sure", "Of a WHEEL on the way the least and the greatest TEETH in any FITTING: the ROW: both, then how many unlike"
            + " numbers.");
        twoWheels();
        due("0[20, 26, 4]", told(x.sure(1, 0, 0)));
        due("0[10, 13, 4]", told(x.sure(1, 0, 1)));
        due("0[25, 25, 1]", told(x.sure(1, 1, 0)));
        due("0[10, 10, 1]", told(x.sure(1, 1, 1)));
        due("0[26, 26, 1]", told(x.sure(1, 2, 0)));
        // of several fittings with one number it counts once; both ends of the span, and what is between
        TermEdges.threeSpans(250, 160, 5);
        due("0[10, 14, 5]", told(x.sure(2, 0, 1)));
        due("0[10, 169, 160]", told(x.sure(2, 0, 0)));
        due("0[10, 169, 160]", told(x.sure(2, 0, 2)));
        due("0[259, 259, 1]", told(x.sure(2, 1, 0)));
        due("0[169, 169, 1]", told(x.sure(2, 1, 2)));
        due("0[10, 14, 5]", told(x.sure(2, 1, 1)));
        // two spans of 391, but one is 40 times the other: 40 .. and not more
        fresh();
        x.wheel(10, 400, 0, 0);
        x.wheel(10, 400, 1, 0);
        x.mesh(0, 1);
        book("1:1;40:1;400:399");
        due("0[10, 400, 391]", told(x.sure(1, 0, 0)));
        due("0[10, 400, 391]", told(x.sure(1, 0, 1)));
        due("0[400, 400, 1]", told(x.sure(1, 1, 0)));
        due("0[10, 10, 1]", told(x.sure(1, 1, 1)));
        due("0[399, 399, 1]", told(x.sure(1, 2, 1)));

        edge("sure", "0; -2: none FITS, or it is IDLE; -4; NONE as fittings(), the WHEEL is not on the way.");
        twoWheels();
        wheel(30, 2, 0);
        x.slot(1, 2, 1, 1);
        due(-2, x.sure(1, 3, 0));
        due(-2, x.sure(1, 4, 1));
        due(-2, x.sure(2, 0, 2));
        due(-1, x.sure(1, 3, 2));
        due(-1, x.sure(1, 0, 2));
        due(-1, x.sure(1, 0, 3));
        due(-1, x.sure(1, 0, -1));
        due(-1, x.sure(1, 0, Integer.MAX_VALUE));
        due(-1, x.sure(0, 0, 0));
        due(-1, x.sure(10, 0, 0));
        due(-1, x.sure(-1, 0, 0));
        due(-1, x.sure(1, 6, 0));
        due(-1, x.sure(1, -1, 0));
        due(-1, x.sure(2, 6, 2));
        due("[2, 1]", rowNow());
        tooMany();
        due(-4, x.sure(2, 0, 0));
        due(-4, x.sure(2, 2, 3));
        due(-1, x.sure(2, 0, 4));
        due(-1, x.sure(2, 3, 0));
        due("[2, 1]", rowNow());
        due("0[40, 40, 1]", told(x.sure(4, 0, 4)));
    }

    private static void may() {
        edge("may", "-2, -4 (of any), NONE as fittings().");
        twoWheels();
        x.slot(1, 2, 1, 1);
        due(7, x.may(1));
        due(-2, x.may(2));
        due(-2, x.may(9));
        due(-1, x.may(0));
        due(-1, x.may(10));
        due(-1, x.may(-1));
        book("3:1;2000:1");
        due(0, x.may(1));
        book("3:1;3:1;3:1;3:1;3:1;3:1;3:1;2:1");
        due(128, x.may(1));
        book("");
        due(0, x.may(1));
        due(-2, x.may(2));
        due(-1, x.may(0));
        due("[2, 1]", rowNow());
        tooMany();
        due(-4, x.may(2));
        due(3, x.may(4));
        due(3, x.may(1));
        due("[2, 1]", rowNow());
    }

    private static void next() {
        edge("next", "The WHEEL on the way which, if its TEETH were known, would leave the fewest FITTINGS at worst; of equal ones the"
            + " first: it; the ROW: how many.");
        TermEdges.threeSpans(3, 3, 5);
        // to know the first leaves five, the idle one three, the last five
        due("1[3]", told(x.next(2, 0)));
        TermEdges.threeSpans(3, 3, 3);
        // all leave three: the first
        due("0[3]", told(x.next(2, 0)));
        TermEdges.threeSpans(5, 5, 3);
        // three for the ends, five for the idle one: of both ends the first
        due("0[3]", told(x.next(2, 0)));
        // the first by numbers is the last on the way
        fresh();
        x.wheel(10, 12, 2, 0);
        x.wheel(10, 12, 1, 0);
        x.wheel(10, 12, 0, 0);
        x.mesh(2, 1);
        x.mesh(1, 0);
        book("1:1");
        due("0[3]", told(x.next(2, 0)));
        fresh();
        x.wheel(20, 30, 1, 0);
        x.wheel(20, 30, 0, 1);
        x.wheel(20, 21, 1, 1);
        x.wheel(30, 31, 2, 0);
        x.mesh(1, 2);
        x.mesh(0, 3);
        book("1:1");
        // by both that drive 600 is 20 30, 24 25, 25 24, 30 20, and 630 is 21 30, 30 21; 620 and 651 want 31
        due("6[20, 30, 20, 30]", told(x.fittings(2, 0)));
        // wheel 0 has 30 twice, others once; wheel 1 too; wheel 2 has 20 four times, wheel 3 has 30 in all six
        due("0[2]", told(x.next(2, 0)));

        edge("next", "-2: none FITS, or IDLE; -4, NONE as fittings().");
        twoWheels();
        x.slot(1, 2, 1, 1);
        due(-2, x.next(1, 3));
        due(-2, x.next(1, 4));
        due(-2, x.next(2, 0));
        due(-1, x.next(0, 0));
        due(-1, x.next(10, 0));
        due(-1, x.next(-1, 0));
        due(-1, x.next(1, 6));
        due(-1, x.next(1, -1));
        due(-1, x.next(2, 6));
        tooMany();
        due(-4, x.next(2, 0));
        due(-4, x.next(2, 2));
        due("[2, 1]", rowNow());
        due("4[1]", told(x.next(4, 0)));
    }
}
