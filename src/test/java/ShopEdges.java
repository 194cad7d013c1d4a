/** Boundaries that the promises of the shop name: 24 to 27. */
abstract class ShopEdges extends Edges {
    static void all() {
        shop();
        trains();
        nearest();
        nearestOfEqualOnes();
        common();
    }

    private static void shop() {
        edge("shop", "THE SHOP is from LOW to HIGH: true. Refused: others.");
        fresh();
        due(true, x.shop(10, 10));
        due(true, x.shop(400, 400));
        due(true, x.shop(200, 400));
        due(true, x.shop(10, 210));
        due(false, x.shop(9, 9));
        due(false, x.shop(401, 401));
        due(false, x.shop(20, 19));
        due(false, x.shop(10, 211));
        due(false, x.shop(199, 400));
        due(false, x.shop(-1, 20));
        due(false, x.shop(0, 0));
        due(false, x.shop(Integer.MIN_VALUE, 20));
        due(false, x.shop(20, Integer.MAX_VALUE));
        due(false, x.shop(Integer.MIN_VALUE, Integer.MAX_VALUE));
        due(false, x.shop(Integer.MAX_VALUE, Integer.MIN_VALUE));
        due("10 210", x.count(9) + " " + x.count(10));
    }

    private static void trains() {
        edge("trains", "How many TRAINS of k pairs (1, 2) there are for a PERIOD; the ROW: TEETH a, c or a, b, c, e of the first.");
        fresh();
        book("1:1;2000:1;1:2000;2:1");
        x.shop(10, 20);
        due("11[10, 10]", told(x.trains(0, 1)));
        due("1[20, 10]", told(x.trains(3, 1)));
        due("0[]", told(x.trains(1, 1)));
        due("0[]", told(x.trains(2, 1)));
        due("0[]", told(x.trains(1, 2)));
        due("0[]", told(x.trains(2, 2)));
        due(-1, x.trains(0, 0));
        due(-1, x.trains(0, 3));
        due(-1, x.trains(0, -1));
        due(-1, x.trains(0, Integer.MAX_VALUE));
        // of one product several pairs: 11 * 24 is 12 * 22, 12 * 20 is 15 * 16 and 10 * 24
        book("1:1;5:4;4:5;25:16;11:12");
        for (int low = 10; low < 13; low++) {
            x.shop(low, 24);
            for (int period = 0; period < 5; period++) {
                int[] up = {1, 5, 4, 25, 11};
                int[] down = {1, 4, 5, 16, 12};
                due(twoPairs(low, 24, up[period], down[period]), x.trains(period, 2));
            }
        }
        book("1:1;2000:1;1:2000;2:1");
        // the widest shop of all for one pair
        x.shop(200, 400);
        due("201[200, 200]", told(x.trains(0, 1)));
        due("1[400, 200]", told(x.trains(3, 1)));

        edge("trains", "-4: of k 2 HIGH is more than 60 above LOW; NONE: others.");
        book("1:1;400:1;3:2");
        x.shop(10, 70);
        due(true, x.trains(2, 2) > 0);
        x.shop(10, 71);
        x.slot(1, 2, 1, 1);
        due(-4, x.trains(0, 2));
        due(-4, x.trains(1, 2));
        due("[2, 1]", rowNow());
        due("62[10, 10]", told(x.trains(0, 1)));
        due(-1, x.trains(3, 2));
        due(-1, x.trains(-1, 2));
        due(-1, x.trains(3, 1));
        due(-1, x.trains(0, 3));
        due(-1, x.trains(Integer.MIN_VALUE, Integer.MIN_VALUE));
        x.shop(340, 400);
        // 340 400 by 340 400 and their like: each pair by itself at least
        due(true, x.trains(0, 2) >= 61 * 62 / 2);
        due("[340, 340, 340, 340]", rowNow());
        x.shop(339, 400);
        due(-4, x.trains(0, 2));
        book("");
        due(-1, x.trains(0, 1));
        due(-1, x.trains(0, 2));
    }

    /** Trains of two pairs, counted one by one. */
    private static int twoPairs(int low, int high, int up, int down) {
        int n = 0;
        for (int a = low; a <= high; a++) {
            for (int b = a; b <= high; b++) {
                for (int c = low; c <= high; c++) {
                    for (int e = c; e <= high; e++) {
                        n += a * b * down == c * e * up ? 1 : 0;
                    }
                }
            }
        }
        return n;
    }

    private static void nearest() {
        edge("nearest", "1 more, 2 less, 0 alike. NONE: none such.");
        fresh();
        book("2:1;3:1;1:3;2000:1;1:2000;131:90;129:90;29:20");
        x.shop(10, 20);
        due("0[20, 10, 0, 1]", told(x.nearest(0)));
        // beyond the shop at both ends
        due("2[20, 10, -1, 1]", told(x.nearest(1)));
        due("1[10, 20, 1, 6]", told(x.nearest(2)));
        due("2[20, 10, -1998, 1]", told(x.nearest(3)));
        due("1[10, 20, 999, 2000]", told(x.nearest(4)));
        // 131 / 90 is 1.4555..: 16 / 11 is 1.4545..; 129 / 90 is 1.4333..: 10 / 7 is not there, 20 / 14 is
        due("2[16, 11, -1, 990]", told(x.nearest(5)));
        // 29 / 20 is 1.45: 16 / 11 is more
        due("1[16, 11, 1, 220]", told(x.nearest(7)));
        due("2[20, 14, -1, 210]", told(x.nearest(6)));
        due(-1, x.nearest(8));
        due(-1, x.nearest(-1));
        due(-1, x.nearest(Integer.MIN_VALUE));
        due(-1, x.nearest(Integer.MAX_VALUE));
        due("[20, 14, -1, 210]", rowNow());
        x.shop(13, 13);
        due("2[13, 13, -1, 1]", told(x.nearest(0)));
        due("1[13, 13, 2, 3]", told(x.nearest(2)));
        x.shop(200, 400);
        due("0[400, 200, 0, 1]", told(x.nearest(0)));
        book("");
        due(-1, x.nearest(0));
    }

    private static void nearestOfEqualOnes() {
        edge("nearest", "The pair a / c within THE SHOP that is nearest to a PERIOD (in size of the difference; of equal ones the fewer TEETH together, then less a)");
        fresh();
        // alike: 20 / 10 of 22 / 11 and 24 / 12
        book("2:1;23:24;21:20;115:132;23:22;241:264;16:33");
        x.shop(10, 24);
        due("0[20, 10, 0, 1]", told(x.nearest(0)));
        x.shop(10, 12);
        // 11 / 12 and 10 / 10 are each 1 / 24 away: fewer teeth above
        due("1[10, 10, 1, 24]", told(x.nearest(1)));
        // 10 / 12 and 10 / 11 are each 5 / 132 away: fewer teeth above
        due("1[10, 11, 5, 132]", told(x.nearest(3)));
        // 10 / 10 and 12 / 11 are each 1 / 22 away: fewer teeth below
        due("2[10, 10, -1, 22]", told(x.nearest(4)));
        // 10 / 11 and 11 / 12 are each 1 / 264 away: fewer teeth below
        due("2[10, 11, -1, 264]", told(x.nearest(5)));
        x.shop(10, 11);
        due("2[10, 10, -1, 20]", told(x.nearest(2)));
    }

    private static void common() {
        edge("common", "The TEETH within THE SHOP that drive, as one of a and b, in TRAINS of two pairs for the most PERIODS told as bits;"
            + " of equal ones the least: it; the ROW: for which (bits).");
        fresh();
        book("1:1;4:1;39:10;1521:1444;1:4;38:39;1:1;1:1");
        x.shop(20, 40);
        due("20[1]", told(x.common(1)));
        due("40[2]", told(x.common(2)));
        // 39 40 by 20 20 alone
        due("39[4]", told(x.common(4)));
        // 40 helps with both, 39 with one
        due("40[6]", told(x.common(6)));
        due("20[16]", told(x.common(16)));
        // a period told twice counts twice
        due("20[209]", told(x.common(1 + 16 + 64 + 128)));
        x.shop(38, 40);
        due("39[8]", told(x.common(8)));
        due("38[32]", told(x.common(32)));
        x.shop(12, 12);
        due("12[1]", told(x.common(63)));

        edge("common", "-2: for none; -4: as trains(); NONE: others, none told.");
        x.slot(1, 2, 1, 1);
        due(-2, x.common(2));
        due(-2, x.common(2 + 4 + 8 + 16 + 32));
        due(-1, x.common(0));
        due(-1, x.common(256));
        due(-1, x.common(257));
        due(-1, x.common(-1));
        due(-1, x.common(Integer.MIN_VALUE));
        due(-1, x.common(Integer.MAX_VALUE));
        x.shop(10, 71);
        due(-4, x.common(1));
        due(-4, x.common(2));
        due(-1, x.common(0));
        due(-1, x.common(256));
        due("[2, 1]", rowNow());
        x.shop(10, 70);
        due("10[1]", told(x.common(1)));
        x.shop(340, 400);
        due("340[1]", told(x.common(1)));
        // the greatest of the widest shop: 70 70 by 10 10
        x.shop(10, 70);
        book("49:1");
        due("70[1]", told(x.common(1)));
        book("");
        due(-1, x.common(1));
        due(-1, x.common(0));
        book("1:1");
        due(-1, x.common(2));
    }
}
