import java.util.ArrayList;
import java.util.List;

/** Refused calls: each is tried on an object that is full of all, and nothing of it changes. */
abstract class RefusalEdges extends Edges {
    private record Refused(String name, Call call) {
    }

    private static final List<Refused> CALLS = new ArrayList<>();

    static void all() {
        edge("Terms", "Refused calls answer NONE, or false, and change nothing but THE TEXT, which a call that can read it empties,"
            + " whatever it answers.");
        ofWheels();
        ofTurns();
        ofBooks();
        ofPlates();
        ofDials();
        prepare();
        String before = state();
        String about = Edges.about;
        for (Refused refused : CALLS) {
            Edges.about = about + ", " + refused.name;
            prepare();
            refused.call.go();
            due(before, state());
        }
        Edges.about = about;
        readers();
        afterwards();
    }

    private static void refuse(String name, Call call) {
        CALLS.add(new Refused(name, call));
    }

    /** An object that is full; axle 1 has fittings, axle 6 too many ways, axle 8 is idle. */
    private static void prepare() {
        fresh();
        for (int a = 0; a < 8; a++) {
            x.wheel(20, a == 0 || a == 6 ? 400 : 24, a, a % 3);
        }
        for (int w = 8; w < 14; w++) {
            x.wheel(30, 40, 9, w - 8);
        }
        for (int even = 0; even < 8; even += 2) {
            for (int odd = 1; odd < 8; odd += 2) {
                x.mesh(even, odd);
            }
        }
        x.take(3, 22);
        x.axle(4, 77, -88);
        x.keep(0);
        x.take(3, 23);
        x.axle(4, 66, -55);
        x.keep(2);
        x.take(3, 24);
        x.axle(4, -99, 33);
        book("1:1a;5:6;3:1;1999:1;1:1999;1:1997;7:8;8:7z");
        x.shop(30, 91);
        for (int i = 0; i < 20; i++) {
            x.dial(11 * i, true);
            x.seen(11 * i, i != 4);
        }
        for (int i = 0; i < 8; i++) {
            x.games(4 * i + 1);
        }
        for (int i = 0; i < 12; i++) {
            x.left(i % 8, i % 3, 20, 30);
        }
        for (int i = 0; i < 20; i++) {
            x.sign(0x313F3F39 + i);
        }
        x.slot(1, 3, 1, 5);
    }

    /** All that can be asked of it; the text goes by it, the book and the build too. */
    private static String state() {
        StringBuilder all = new StringBuilder(rowNow());
        for (int what = 0; what < 11; what++) {
            all.append(' ').append(x.count(what));
        }
        for (int w = 0; w < x.count(0); w++) {
            all.append(" | ").append(ofWheel(w, 0, 1, 2, 3, 4, 5));
        }
        all.append(" way ").append(told(x.way(6))).append(told(x.way(7)));
        all.append(" room ").append(told(x.room(9))).append(told(x.depths()));
        all.append(" book ").append(told(x.meets(15))).append(told(x.nearest(6))).append(told(x.gives(1)));
        all.append(" dial ").append(told(x.when())).append(told(x.wrong())).append(x.year());
        all.append(" left ").append(told(x.breaks())).append(told(x.unlike(0, 2)));
        x.end(3);
        all.append(" text ").append(told(x.word(0))).append(told(names("az?"))).append(x.book());
        for (int i = 0; i < 4; i++) {
            all.append(" kept ").append(x.again(i)).append(told(x.room(9)));
        }
        return all.toString();
    }

    private static void ofWheels() {
        refuse("wheel", () -> due(-1, x.wheel(20, 20, 0, 0)));
        refuse("arc", () -> due(-1, x.arc(0, 0, 200, 0)));
        refuse("arc", () -> due(-1, x.arc(14, 10, 200, 0)));
        refuse("arc", () -> due(-2, x.arc(1, 200, 3600, 0)));
        refuse("take", () -> due(-1, x.take(1, 25)));
        refuse("take", () -> due(-1, x.take(14, 20)));
        refuse("sheet", () -> due(-1, x.sheet(4, 1, 20, 0)));
        refuse("sheet", () -> due(-1, x.sheet(2, 15, 20, 0)));
        refuse("sheet", () -> due(-1, x.sheet(3, 15, 20, 0)));
        refuse("sheet", () -> due(-2, x.sheet(2, -1, 20, 0)));
        refuse("mesh", () -> due(-1, x.mesh(0, 2)));
        refuse("mesh", () -> due(-1, x.mesh(0, 1)));
        refuse("of", () -> dueThrows(() -> x.of(14, 0)));
        refuse("of", () -> dueThrows(() -> x.of(0, 6)));
    }

    private static void ofTurns() {
        refuse("turn", () -> due(-1, x.turn(10)));
        refuse("turn", () -> due(-2, x.turn(8)));
        refuse("gives", () -> due(-1, x.gives(-1)));
        refuse("gives", () -> due(-2, x.gives(9)));
        refuse("show", () -> due(-1, x.show(1, 2001)));
        refuse("show", () -> due(-2, x.show(8, 1)));
        refuse("together", () -> due(-1, x.together(0, 10)));
        refuse("together", () -> due(-2, x.together(0, 8)));
        refuse("way", () -> due(-1, x.way(0)));
        refuse("way", () -> due(-2, x.way(8)));
        refuse("fittings", () -> due(-1, x.fittings(0, 0)));
        refuse("fittings", () -> due(-2, x.fittings(8, 0)));
        refuse("fittings", () -> due(-4, x.fittings(6, 0)));
        refuse("fit", () -> due(false, x.fit(1, 0, 5)));
        refuse("fit", () -> due(false, x.fit(1, 0, -1)));
        refuse("fit", () -> due(false, x.fit(8, 0, 0)));
        refuse("fit", () -> due(false, x.fit(6, 0, 0)));
        refuse("fit", () -> due(false, x.fit(1, 8, 0)));
        refuse("sure", () -> due(-1, x.sure(1, 0, 2)));
        refuse("sure", () -> due(-2, x.sure(1, 3, 0)));
        refuse("sure", () -> due(-4, x.sure(6, 0, 0)));
        refuse("may", () -> due(-1, x.may(0)));
        refuse("may", () -> due(-2, x.may(8)));
        refuse("may", () -> due(-4, x.may(6)));
        refuse("next", () -> due(-1, x.next(1, 8)));
        refuse("next", () -> due(-2, x.next(1, 3)));
        refuse("next", () -> due(-4, x.next(6, 0)));
    }

    private static void ofBooks() {
        refuse("sign", () -> due(-1, x.sign(0)));
        refuse("end", () -> due(false, x.end(81)));
        refuse("end", () -> due(false, x.end(-1)));
        refuse("shop", () -> due(false, x.shop(9, 20)));
        refuse("shop", () -> due(false, x.shop(30, 231)));
        refuse("trains", () -> due(-1, x.trains(8, 1)));
        refuse("trains", () -> due(-1, x.trains(0, 3)));
        refuse("trains", () -> due(-4, x.trains(0, 2)));
        refuse("nearest", () -> due(-1, x.nearest(8)));
        refuse("common", () -> due(-1, x.common(0)));
        refuse("common", () -> due(-1, x.common(256)));
        refuse("common", () -> due(-4, x.common(1)));
        refuse("meets", () -> due(-1, x.meets(0)));
        refuse("meets", () -> due(-1, x.meets(256)));
        refuse("meets", () -> due(-2, x.meets(16 + 32)));
    }

    private static void ofPlates() {
        refuse("axle", () -> due(false, x.axle(10, 1, 1)));
        refuse("axle", () -> due(false, x.axle(4, 501, 1)));
        refuse("axle", () -> due(false, x.axle(4, 1, -501)));
        refuse("room", () -> due(-1, x.room(51)));
        refuse("slot", () -> due(-1, x.slot(1, 1, 1, 1)));
        refuse("uneven", () -> due(-1, x.uneven(1, 2)));
        refuse("near", () -> due(-1, x.near(1, 8, 1)));
        refuse("near", () -> due(-1, x.near(1, 0, 2001)));
        refuse("near", () -> due(-2, x.near(8, 0, 1)));
        refuse("off", () -> due(-1, x.off(1, 0, 361)));
        refuse("off", () -> due(-2, x.off(8, 0, 1)));
        refuse("off", () -> due(-6, x.off(0, 0, 1)));
    }

    private static void ofDials() {
        refuse("dial", () -> due(-1, x.dial(223, true)));
        refuse("dial", () -> due(-1, x.dial(-1, false)));
        refuse("seen", () -> due(-1, x.seen(0, true)));
        refuse("games", () -> due(-1, x.games(0)));
        refuse("left", () -> due(-1, x.left(0, 0, 20, 20)));
        refuse("keep", () -> due(false, x.keep(4)));
        refuse("keep", () -> due(false, x.keep(-1)));
        refuse("again", () -> due(false, x.again(1)));
        refuse("again", () -> due(false, x.again(4)));
        refuse("unlike", () -> due(-1, x.unlike(0, 1)));
        refuse("count", () -> due(-1, x.count(11)));
        refuse("row", () -> dueThrows(() -> x.row(2)));
        refuse("row", () -> dueThrows(() -> x.row(-1)));
    }

    /** Calls that can read the text empty it, whatever they answer; all else stays. */
    private static void readers() {
        prepare();
        x.end(0);
        String before = state();
        List<Call> calls = List.of(() -> due(-1 - 1, x.book()), () -> due(-100 - 4, x.word(0)), () -> due(-1, x.word(2)),
            () -> due(-100, x.names()));
        for (Call call : calls) {
            prepare();
            due(80, x.count(8));
            call.go();
            due(0, x.count(8));
            due(before, state());
        }
        // names that fit none, too, and words and names and books that do
        prepare();
        due(0, names("b"));
        due(0, x.count(8));
        due(before, state());
        prepare();
        due("2[1]", told(word("6", 0)));
        due(0, x.count(8));
        due("1[7]", told(names("z")));
        due(0, x.count(8));
        due(1, book("1:1"));
        due(0, x.count(8));
        due(0, book(""));
        // no other call touches it
        prepare();
        x.end(77);
        x.turn(1);
        x.fit(1, 0, 0);
        x.trains(0, 1);
        x.nearest(0);
        x.meets(1);
        x.common(1);
        x.again(0);
        x.room(0);
        x.when();
        x.breaks();
        due(77, x.count(8));
    }

    /** After it all the object goes on as if nothing had been refused. */
    private static void afterwards() {
        prepare();
        for (Refused refused : CALLS) {
            refused.call.go();
        }
        due("[21, 22]", rowNow());
        due(15, x.part());
        due(16, x.mesh(0, 2));
        due(-3, x.turn(0));
        due(80, x.count(8));
    }
}
