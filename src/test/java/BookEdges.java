/** Boundaries that the promises of the text and the book name: 21 to 23. */
abstract class BookEdges extends Edges {
    static void all() {
        sign();
        end();
        book();
        bookEndsTooEarly();
        bookOfMoreThanSixty();
        numbers();
        eighth();
    }

    private static void sign() {
        edge("sign", "Four signs come behind THE TEXT, of v the highest byte first: how many it has. Refused: there would be more than"
            + " 80.");
        fresh();
        due(4, x.sign(('1' << 24) + (':' << 16) + ('2' << 8) + 'a'));
        due(8, x.sign((';' << 24) + ('3' << 16) + (':' << 8) + '4'));
        due(2, x.book());
        due("2[1]", told(x.meets(1)));
        due("1[0]", told(names("a")));
        // bytes above 127 are signs too, that can't stand in a book
        due(4, x.sign(('1' << 24) + (':' << 16) + ('1' << 8) + 233));
        due(-4, x.book());
        due(4, x.sign(-1));
        due(-1, x.book());
        due(4, x.sign(('1' << 24) + (':' << 16) + ('1' << 8)));
        due(-4, x.book());
        for (int n = 4; n <= 80; n += 4) {
            due(n, x.sign(n));
        }
        due(-1, x.sign(84));
        due(80, x.count(8));
        for (int n = 79; n > 76; n--) {
            x.end(n);
            due(-1, x.sign(0));
            due(n, x.count(8));
        }
        x.end(76);
        due(80, x.sign(0));
        x.end(75);
        due(79, x.sign(0));
        due(-1, x.sign(0));
    }

    private static void end() {
        edge("end", "THE TEXT has its first n signs alone: true; false if it has not so many, or n is below 0.");
        fresh();
        due(true, x.end(0));
        due(false, x.end(1));
        due(false, x.end(-1));
        x.sign(0x313A323B);
        due(true, x.end(4));
        due(false, x.end(5));
        due(false, x.end(-1));
        due(false, x.end(Integer.MIN_VALUE));
        due(false, x.end(Integer.MAX_VALUE));
        due(4, x.count(8));
        due(true, x.end(3));
        due(false, x.end(4));
        due(1, x.book());
        due("2[1]", told(x.meets(1)));
        due(true, x.end(0));
        due(false, x.end(1));
        // what goes does not come back with new signs
        x.sign(0x393A393A);
        x.end(1);
        x.sign(0x3A310000);
        x.end(3);
        due(1, x.book());
        due("1[9]", told(x.meets(1)));
    }

    private static void book() {
        edge("book", "THE TEXT is THE BOOK (an empty one: no PERIODS): how many.");
        fresh();
        due(0, x.book());
        due(0, x.count(2));
        due(1, book("1:1"));
        due(2, book("2:1;3:1"));
        due("1[2, 3]", told(x.meets(3)));
        due(1, book("4:1"));
        due("1[4]", told(x.meets(1)));
        due(-1, x.meets(2));
        due(0, x.count(8));
        due(0, x.book());
        due(0, x.count(2));
        due(-1, x.meets(1));
        // of longer books before it nothing is left
        chain(20, 40);
        for (int times = 0; times < 2; times++) {
            due(4, book("1:3a;1:2b;1:2c;1:2d"));
            due("14[0]", told(x.gives(1)));
            due(14, x.may(1));
        }
        for (int times = 0; times < 2; times++) {
            due(1, book("1:3a"));
            due("0[0]", told(x.gives(1)));
            due(0, x.may(1));
            due("0[1]", told(word("2", 0)));
            due("1[9]", told(word("?", 1)));
            due("1[0]", told(names("?")));
            due(0, names("b"));
            due(0, names("??"));
            due(-1, x.meets(2));
            due(-1, x.nearest(1));
        }
        fresh();
        // a name does not go on to a book without one
        due(1, book("1:1q"));
        due(1, book("1:1"));
        due(0, names("q"));

        edge("book", "-1 - p: the sign at p can't stand there");
        String[] wrong = {"", "1", "1:", "1:1", "1:1a", "1:1;", "1:1;22", "1:1a;22:", "1999:1999", "1999:1999z;", "1:1;1:1;1:1;1:1"};
        String[] never = {"\u0000", " ", "/", "`", "{", "A", "?", "-", "\u007f", "\u0080", "\u00b2", "\u00e9", "\u00ff"};
        for (String begun : wrong) {
            fresh();
            for (String sign : never) {
                due(-1 - begun.length(), book(begun + sign));
                due(-1 - begun.length(), book(begun + sign + "1:1"));
            }
        }
        // a sign that stands elsewhere
        fresh();
        book("5:1;6:1");
        due(-1, book(";1:1"));
        due(-1, book(":1"));
        due(-1, book("a"));
        due(-2, book("1a"));
        due(-2, book("1;"));
        due(-3, book("1:;"));
        due(-3, book("1:a"));
        due(-3, book("1::"));
        due(-4, book("1:1:"));
        due(-5, book("1:1a1"));
        due(-5, book("1:1aa"));
        due(-5, book("1:1a:"));
        due(-5, book("1:1;;"));
        due(-5, book("1:1;a"));
        due(-5, book("1:1;:"));
        // the first of two
        due(-2, book("1x:1;x"));
        due(2, x.count(2));
        due("1[5, 6]", told(x.meets(3)));
    }

    private static void bookEndsTooEarly() {
        edge("book", "(its end, if it ends too early;");
        fresh();
        book("5:1;6:1");
        due(-2, book("1"));
        due(-5, book("2000"));
        due(-3, book("1:"));
        due(-5, book("1:1;"));
        due(-6, book("1:1a;"));
        due(-6, book("1:1;1"));
        due(-7, book("1:1;1:"));
        due(-29, book("1:1;1:1;1:1;1:1;1:1;1:1;1:1;"));
        // at the sixtieth sign too
        String lines = "1999:1999;".repeat(5);
        due(-61, book(lines + "1999:1999;"));
        due(-60, book(lines + "199:1999;"));
        due(-61, book(lines + "1:1;22:22;"));
        due(-61, book(lines + "11:11;1111"));
        due(-61, book(lines + "111:11;11:"));
        due(2, x.count(2));
        due(0, x.count(8));
    }

    private static void bookOfMoreThanSixty() {
        edge("book", "60, if it has more and the first 60 could go on or end;");
        String lines = "1999:1999;".repeat(5);
        String[] ends = {"1999:1999z", "1111:111;1", "1999:1999;", "111:11;111", "1:1;11:111", "1:1;1:1;1:", "1:1;1:1z;1"};
        for (String last : ends) {
            fresh();
            due(60, (lines + last).length());
            for (String more : new String[] {"1", ":", ";", "z", "x", "\u0000", "1:1;1:1;1:1", "12345678901234567890"}) {
                due(-61, book(lines + last + more));
            }
            due(0, x.count(2));
        }
        // not more than 60: it is read
        due(6, book(lines + "1999:1999z"));
        due(7, book(lines + "1111:1;1:1"));
        due(7, book(lines + "111:1;1:1z"));
        due(7, book(lines + "1:1;11:111"));
        // a sign that can't stand in the first 60 goes ahead
        due(-3, book("1:x" + "1".repeat(60)));
        due(-60, book(lines + "1999:1999!!"));
        due(-60, book(lines + "1999:199;;1"));
        due(-60, book(lines + "1999:199999"));
        due(-51, book(lines + "z999:1999zz"));
    }

    private static void numbers() {
        edge("book", "a NUMBER 0 or above 2000, as far as it stands in the first 60: at its last digit;");
        fresh();
        book("5:1;6:1");
        due(-1, book("0:1"));
        due(-1, book("0"));
        due(-2, book("00:1"));
        due(-3, book("000:1"));
        due(-4, book("0000:1"));
        due(-4, book("0000"));
        due(-4, book("00000"));
        due(-4, book("2001:1"));
        due(-4, book("2001"));
        due(-4, book("9999:1"));
        due(-3, book("1:0"));
        due(-3, book("1:0;1:1"));
        due(-3, book("1:0a"));
        due(-4, book("1:00"));
        due(-6, book("1:2001"));
        due(-6, book("1:2001;"));
        due(-6, book("1:9999z"));
        due(-9, book("11:1;1:00"));
        due(-5, book("1:1;0:1"));
        due(-7, book("1:1;1:0"));
        due(-8, book("1:1;2001:0"));
        // as far as it stands in the first 60
        String lines = "1999:1999;".repeat(5);
        due(-60, book(lines + "1999:199;0"));
        due(-60, book(lines + "1999:199;0" + "1:1"));
        due(-60, book(lines + "1999:19;00" + "11:1"));
        due(-60, book(lines + "1999:1;000" + "1:1"));
        due(-60, book(lines + "199:1;2001" + ":1"));
        due(-61, book(lines + "1999:1;200" + "1:1"));
        due(-60, book(lines + "1:1;1999:0" + "9"));
        due(2, x.count(2));
        // up to 2000, and 0 ahead of other digits
        due(4, book("2000:1;1:2000;0001:01;0200:2000"));
    }

    private static void eighth() {
        edge("book", "a ; behind the eighth).");
        fresh();
        String seven = "1:1;".repeat(7);
        due(8, book(seven + "1:1"));
        due(8, book(seven + "1:1a"));
        due(-32, book(seven + "1:1;"));
        due(-33, book(seven + "1:1a;"));
        due(-32, book(seven + "1:1;1:1"));
        due(-32, book(seven + "1:1;1:1;1:1;1:1;1:1;1:1;1:1;1:1;1:1;1:1;1:1;1:1"));
        due(-29, book(seven + ";"));
        due(8, x.count(2));
        // at the end of the first 60
        String sixty = "1999:1999;".repeat(2) + "1999:199;".repeat(2) + seven.substring(16) + "1111:1111z";
        due(60, sixty.length());
        due(8, book(sixty));
        due(-61, book(sixty + ";"));
        String semicolon = "1999:1999;".repeat(2) + "1999:199;".repeat(2) + seven.substring(16) + "1111:111z;";
        due(60, semicolon.length());
        due(-60, book(semicolon));
        due(-60, book(semicolon + "1:1"));
    }
}
