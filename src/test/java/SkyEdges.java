/** Boundaries that the promises of the sky name: 34 to 36. */
abstract class SkyEdges extends Edges {
    static void all() {
        near();
        nearRefused();
        off();
        offRefused();
        meets();
    }

    private static void near() {
        edge("near", "How far what an AXLE shows is from a PERIOD after so many years (0 .. 2000), in turns: years times (TURNS in size"
            + " less the PERIOD): the ROW: the fraction. 1 ahead, 2 behind, 0 neither;");
        chain(20, 30, 20, 30);
        book("1:3;2:3;1:1;2000:1;1:2000");
        due("1[1, 3]", told(x.near(1, 0, 1)));
        due("0[0, 1]", told(x.near(1, 0, 0)));
        due("0[0, 1]", told(x.near(1, 1, 0)));
        due("0[0, 1]", told(x.near(1, 1, 2000)));
        due("2[-1, 3]", told(x.near(1, 2, 1)));
        due("2[-1, 1]", told(x.near(1, 2, 3)));
        due("1[2000, 3]", told(x.near(1, 0, 2000)));
        due("2[-11996000, 3]", told(x.near(1, 3, 2000)));
        due("1[3997, 3]", told(x.near(1, 4, 2000)));
        due("0[0, 1]", told(x.near(0, 2, 2000)));
        due("2[-5, 9]", told(x.near(2, 2, 1)));
        due(-1, x.near(1, 0, -1));
        due(-1, x.near(1, 0, 2001));
        due(-1, x.near(1, 0, Integer.MIN_VALUE));
        due(-1, x.near(1, 0, Integer.MAX_VALUE));
        due("[-5, 9]", rowNow());
        // the greatest numbers that are gone through: 1000000000 times 2000 by 2000 years
        chain(100, 11, 100, 11, 100, 11, 100, 11, 10, 11);
        book("1:2000;1999:2000;2000:1999");
        due("1[" + (1000000000L * 2000 - 161051) + ", 161051]", told(x.near(5, 0, 2000)));
        chain(11, 100, 11, 100, 11, 100, 11, 100, 11, 10);
        book("1:2000;1999:2000;2000:1999");
        // 161051 / 1000000000 less 2000 / 1999, times 2000
        due("2[" + (161051L * 1999 - 2000L * 1000000000) + ", " + 1999 * 500000L + "]", told(x.near(5, 2, 2000)));
    }

    private static void nearRefused() {
        edge("near", "-2, -3, -5 (also if a TURN of this AXLE has a number above 1000000000), NONE as turn(), others.");
        chain(334, 11, 327, 11, 327, 11, 28, 11);
        book("1:1");
        x.slot(1, 2, 1, 1);
        due(-5, x.near(4, 0, 1));
        due(-5, x.near(4, 0, 0));
        due(-2, x.near(5, 0, 1));
        due(-2, x.near(9, 0, 0));
        due(-1, x.near(9, 1, 0));
        due(-1, x.near(9, 0, -1));
        due(-1, x.near(4, 1, 1));
        due(-1, x.near(4, -1, 1));
        due(-1, x.near(4, 0, 2001));
        due(-1, x.near(10, 0, 1));
        due(-1, x.near(-1, 0, 1));
        due("[2, 1]", rowNow());
        due(1, x.near(3, 0, 1));
        chain(11, 334, 11, 327, 11, 327, 11, 28);
        book("1:1");
        due(-5, x.near(4, 0, 1));
        due(2, x.near(3, 0, 1));
        chain(20, 30, 20, 30);
        book("1:1");
        x.mesh(0, 3);
        due(-3, x.near(0, 0, 1));
        due(-3, x.near(9, 0, 1));
        due(-1, x.near(9, 1, 1));
        chain(391, 11, 381, 11, 369, 11, 346, 11, 259, 11, 203, 11);
        book("1:1");
        due(-5, x.near(0, 0, 1));
        due(-5, x.near(9, 0, 1));
        due(-1, x.near(10, 0, 1));
    }

    private static void off() {
        edge("off", "The first year (0 .. 2000) after which it is more than k in 360 turns (0 .. 360) away.");
        chain(20, 20);
        // ahead by 1 / 2000, 1 / 1999 a year; behind by 1 / 1999, 1 / 1998; not at all; ahead by 1, behind by 1999
        book("1999:2000;1998:1999;2000:1999;1999:1998;5:5;2000:1");
        due(-6, x.off(1, 0, 360));
        due(2000, x.off(1, 1, 360));
        due(2000, x.off(1, 2, 360));
        due(1999, x.off(1, 3, 360));
        due(1, x.off(1, 5, 360));
        // just half a turn after 1000 years
        due(1001, x.off(1, 0, 180));
        due(6, x.off(1, 0, 1));
        due(1995, x.off(1, 0, 359));
        // more than none: the first year of all
        for (int period = 0; period < 4; period++) {
            due(1, x.off(1, period, 0));
        }
        // 2 / 3 a year is ahead of 1 / 2 by a sixth
        chain(20, 30);
        book("1:2;5:6");
        due(7, x.off(1, 0, 360));
        due(4, x.off(1, 0, 180));
        due(1, x.off(1, 0, 59));
        due(2, x.off(1, 0, 60));
        due(7, x.off(1, 1, 360));
        chain(20, 20);
        book("1999:2000;1998:1999;2000:1999;1999:1998;5:5;2000:1");
        due(-6, x.off(1, 4, 0));
        due(-6, x.off(1, 4, 360));
        due(-1, x.off(1, 0, -1));
        due(-1, x.off(1, 0, 361));
        due(-1, x.off(1, 0, Integer.MIN_VALUE));
        due(-1, x.off(1, 0, Integer.MAX_VALUE));
    }

    private static void offRefused() {
        edge("off", "-6: none; -2, -3, -5, NONE as near().");
        chain(334, 11, 327, 11, 327, 11, 28, 11);
        book("1:1");
        x.slot(1, 2, 1, 1);
        due(-6, x.off(0, 0, 0));
        due(-5, x.off(4, 0, 1));
        due(-2, x.off(5, 0, 1));
        due(-1, x.off(5, 1, 1));
        due(-1, x.off(5, 0, -1));
        due(-1, x.off(4, 1, 1));
        due(-1, x.off(4, -1, 1));
        due(-1, x.off(4, 0, 361));
        due(-1, x.off(10, 0, 1));
        due(-1, x.off(-1, 0, 1));
        due(1, x.off(3, 0, 360));
        due("[2, 1]", rowNow());
        chain(11, 334, 11, 327, 11, 327, 11, 28);
        book("1:1");
        due(-5, x.off(4, 0, 1));
        chain(20, 30, 20, 30);
        book("1:1");
        x.mesh(0, 3);
        due(-3, x.off(0, 0, 1));
        due(-3, x.off(9, 0, 1));
        due(-1, x.off(10, 0, 1));
        chain(391, 11, 381, 11, 369, 11, 346, 11, 259, 11, 203, 11);
        book("1:1");
        due(-5, x.off(0, 0, 1));
        due(-5, x.off(9, 0, 1));
    }

    private static void meets() {
        edge("meets", "PERIODS told as bits that have come to whole turns together: the least years (1 .. 1000000) in which each has: how"
            + " many; the ROW: whole turns of each.");
        fresh();
        book("1:999;1:1001;3:163;1:2000;2000:1;2000:2000;6:4");
        due("999999[1001, 999]", told(x.meets(3)));
        due("2000[1]", told(x.meets(8)));
        due("1[2000]", told(x.meets(16)));
        due("1[1]", told(x.meets(32)));
        due("1[2000, 1]", told(x.meets(48)));
        due("2[3]", told(x.meets(64)));
        due("326000[6000, 163, 652000000, 326000, 489000]", told(x.meets(4 + 8 + 16 + 32 + 64)));
        book("2000:1999;1:500;2:1;1:1;1:1;1:1;1:1;1:2");
        due("999500[1000000, 1999, 1999000, 999500, 999500, 999500, 999500, 499750]", told(x.meets(255)));

        edge("meets", "-2: not by then; NONE: others, none told.");
        // 163, 409 and 15 go together in 1000005, the first above 1000000 that periods can make
        book("1:163;1:409;1:15;1:1999;1:1997");
        x.slot(1, 2, 1, 1);
        due(-2, x.meets(7));
        due(-2, x.meets(24));
        due(-2, x.meets(31));
        due(-1, x.meets(0));
        due(-1, x.meets(32));
        due(-1, x.meets(33));
        due(-1, x.meets(-1));
        due(-1, x.meets(Integer.MIN_VALUE));
        due(-1, x.meets(Integer.MAX_VALUE));
        due("[2, 1]", rowNow());
        due("66667[409, 163]", told(x.meets(3)));
        book("");
        due(-1, x.meets(0));
        due(-1, x.meets(1));
        book("1:1;1:1;1:1;1:1;1:1;1:1;1:1;1:1");
        due(1, x.meets(255));
        due(-1, x.meets(256));
        due(-1, x.meets(257));
    }
}
