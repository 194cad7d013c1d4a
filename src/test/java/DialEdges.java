/** Boundaries that the promises of the dial and of games name: 39 to 44. */
abstract class DialEdges extends Edges {
    static void all() {
        dial();
        seen();
        games();
        when();
        whenGoesRound();
        wrong();
        wrongOfTwenty();
        year();
    }

    private static void dial() {
        edge("dial", "A month 0 .. 222 of the dial has a mark of an eclipse, or not: how many have. Refused: others.");
        fresh();
        due(-1, x.dial(-1, true));
        due(-1, x.dial(223, true));
        due(-1, x.dial(Integer.MIN_VALUE, true));
        due(-1, x.dial(Integer.MAX_VALUE, true));
        due(0, x.count(3));
        due(0, x.dial(0, false));
        due(1, x.dial(0, true));
        due(2, x.dial(222, true));
        // told once more it is one mark still
        due(2, x.dial(222, true));
        due(1, x.dial(222, false));
        due(1, x.dial(222, false));
        due(-1, x.dial(-1, false));
        due(-1, x.dial(223, false));
        due(0, x.dial(0, false));
        for (int month = 0; month < 223; month++) {
            due(month + 1, x.dial(month, true));
        }
        due(223, x.dial(100, true));
        due(222, x.dial(100, false));
        due(222, x.count(3));
    }

    private static void seen() {
        edge("seen", "So many months behind the one to which it was set (0 .. 9999) there was an eclipse, or there was none (at most 20"
            + " such): how many. Refused: others.");
        fresh();
        due(-1, x.seen(-1, true));
        due(-1, x.seen(10000, true));
        due(-1, x.seen(Integer.MIN_VALUE, false));
        due(-1, x.seen(Integer.MAX_VALUE, false));
        due(0, x.count(4));
        due(1, x.seen(0, false));
        due(2, x.seen(9999, false));
        // the same told again is one more; of both sorts there are twenty together
        for (int n = 3; n <= 20; n++) {
            due(n, x.seen(0, n % 2 == 0));
        }
        due(-1, x.seen(0, true));
        due(-1, x.seen(0, false));
        due(-1, x.seen(10000, false));
        due(20, x.count(4));
        // behind is on from the month it was set to: an eclipse on 7, three months behind 4
        fresh();
        x.dial(7, true);
        x.seen(3, true);
        due("1[4]", told(x.when()));
    }

    private static void games() {
        edge("games", "So many years behind (0 .. 999) there were games (at most 8 such, each fourth year has them): how many. Refused:"
            + " others.");
        fresh();
        due(-1, x.games(-1));
        due(-1, x.games(1000));
        due(-1, x.games(Integer.MIN_VALUE));
        due(-1, x.games(Integer.MAX_VALUE));
        due(0, x.count(5));
        due(-1, x.year());
        due(1, x.games(0));
        due(2, x.games(999));
        for (int n = 3; n <= 8; n++) {
            due(n, x.games(0));
        }
        due(-1, x.games(0));
        due(-1, x.games(4));
        due(-1, x.games(1000));
        due(8, x.count(5));
    }

    private static void when() {
        edge("when", "Months of the dial (0 .. 222) to which it may have been set: where all that was SEEN stands (an eclipse where a mark"
            + " is, 223 months going round; none where there is none): how many; the ROW: the first 10.");
        fresh();
        due("223[0, 1, 2, 3, 4, 5, 6, 7, 8, 9]", told(x.when()));
        x.seen(0, true);
        due("0[]", told(x.when()));
        x.dial(222, true);
        due("1[222]", told(x.when()));
        x.dial(0, true);
        due("2[0, 222]", told(x.when()));
        for (int month = 20; month < 28; month++) {
            x.dial(month, true);
        }
        due("10[0, 20, 21, 22, 23, 24, 25, 26, 27, 222]", told(x.when()));
        x.dial(100, true);
        due("11[0, 20, 21, 22, 23, 24, 25, 26, 27, 100]", told(x.when()));
        x.dial(222, false);
        x.dial(27, false);
        due("9[0, 20, 21, 22, 23, 24, 25, 26, 100]", told(x.when()));
        // none seen where there is a mark
        fresh();
        x.seen(0, false);
        due("223[0, 1, 2, 3, 4, 5, 6, 7, 8, 9]", told(x.when()));
        x.dial(0, true);
        due("222[1, 2, 3, 4, 5, 6, 7, 8, 9, 10]", told(x.when()));
        for (int month = 1; month < 222; month++) {
            x.dial(month, true);
        }
        due("1[222]", told(x.when()));
        x.dial(222, true);
        due("0[]", told(x.when()));
        // both at once can't be
        fresh();
        x.dial(5, true);
        x.seen(2, true);
        x.seen(2, false);
        due("0[]", told(x.when()));
    }

    private static void whenGoesRound() {
        fresh();
        x.dial(0, true);
        x.seen(1, true);
        due("1[222]", told(x.when()));
        x.seen(224, true);
        due("1[222]", told(x.when()));
        x.seen(223, false);
        due("1[222]", told(x.when()));
        x.seen(222, false);
        due("1[222]", told(x.when()));
        fresh();
        x.dial(0, true);
        x.seen(222, true);
        due("1[1]", told(x.when()));
        fresh();
        x.dial(0, true);
        x.seen(223, true);
        due("1[0]", told(x.when()));
        // 9999 is 44 times 223 and 187
        fresh();
        x.dial(186, true);
        x.seen(9999, true);
        due("1[222]", told(x.when()));
        x.dial(187, true);
        due("2[0, 222]", told(x.when()));
    }

    private static void wrong() {
        edge("wrong", "The fewest of those SEEN that have to be left out so that there is such a month: how many; the ROW: the first month"
            + " with so few, they as bits.");
        fresh();
        due("0[0, 0]", told(x.wrong()));
        x.seen(0, true);
        due("1[0, 1]", told(x.wrong()));
        x.dial(222, true);
        due("0[222, 0]", told(x.wrong()));
        x.seen(1, true);
        // each month has one wrong at least: 221 leaves the first out, ahead of 222
        due("1[221, 1]", told(x.wrong()));
        x.dial(0, true);
        due("0[222, 0]", told(x.wrong()));
        x.seen(0, false);
        due("1[221, 1]", told(x.wrong()));
        // month 1 ahead of all that are as good, month 0 is not
        fresh();
        x.dial(1, true);
        x.dial(2, true);
        x.seen(0, true);
        due("0[1, 0]", told(x.wrong()));
        x.dial(0, true);
        due("0[0, 0]", told(x.wrong()));
        // all of them wrong, in each month
        fresh();
        for (int month = 0; month < 223; month++) {
            x.dial(month, true);
        }
        x.seen(3, false);
        x.seen(4, false);
        due("2[0, 3]", told(x.wrong()));
        x.dial(222, false);
        due("1[218, 1]", told(x.wrong()));
        due("0[]", told(x.when()));
    }

    private static void wrongOfTwenty() {
        fresh();
        for (int i = 0; i < 20; i++) {
            x.seen(i, true);
        }
        due("20[0, 1048575]", told(x.wrong()));
        x.dial(19, true);
        // months 0 .. 19 have one right: 0 the last of them
        due("19[0, 524287]", told(x.wrong()));
        x.dial(18, true);
        due("18[0, 262143]", told(x.wrong()));
        for (int month = 100; month < 120; month++) {
            x.dial(month, true);
        }
        due("0[100, 0]", told(x.wrong()));
        x.dial(119, false);
        due("1[99, 1]", told(x.wrong()));
    }

    private static void year() {
        edge("year", "Which year of four (0 .. 3) it was set in, by games: 0 is one of them: it; -2: games do not go together; -1: none"
            + " told.");
        fresh();
        x.slot(1, 2, 1, 1);
        due(-1, x.year());
        int[] set = {0, 3, 2, 1, 0, 3, 2, 1};
        for (int games = 0; games < 8; games++) {
            fresh();
            x.games(games);
            due(set[games], x.year());
            x.games(games + 4);
            due(set[games], x.year());
            x.games(games);
            due(set[games], x.year());
            x.games(games + 988);
            due(set[games], x.year());
        }
        // 999 is three more than 996
        fresh();
        x.games(999);
        due(1, x.year());
        x.games(3);
        due(1, x.year());
        for (int more = 1; more < 4; more++) {
            fresh();
            x.games(1);
            x.games(1 + more);
            due(-2, x.year());
        }
        // the eighth too
        fresh();
        for (int i = 0; i < 7; i++) {
            x.games(4 * i);
        }
        due(0, x.year());
        x.games(2);
        due(-2, x.year());
        due(0, x.count(7));
    }
}
