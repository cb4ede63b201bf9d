/** Promises 1 to 3 and the terms they use: a new object, the text, its rows, and reading them. */
final class TextSentences extends Checks {
    /** A row of each kind whose numbers are in their ranges also when they are cut off behind the first digit. */
    private static final String[] ROWS = {
        "C12=10,2,12,13;", "L12=10,4,12,13;", "B12=10,11,12,9;", "Y12=10,11;", "R12=10,2;", "G12=10;",
    };

    private TextSentences() {
    }

    static void all() {
        sentence(1, "An object is used for at most 512 calls after it has been made;", TextSentences::lastCalls);
        sentence(1, "The constants: `NONE = -1`: None.", () -> due("NONE", HarbourText.NONE, -1));
        sentence(1, "No pieces;", TextSentences::noPieces);
        sentence(1, "nothing kept (as if one without pieces was).", TextSentences::nothingKept);

        sentence(2, "THE TEXT (500 signs at most) is collected sign by sign;", TextSentences::signBySign);
        sentence(2, "A sign comes to the text: true;", TextSentences::signComes);
        sentence(2, "false if it is not 33 .. 126,", TextSentences::signOutside);
        sentence(2, "or there are 500.", TextSentences::signBehind500);

        sentence(3, "POINTS are 0 .. 15.", TextSentences::points);
        sentence(3, "PIECES have a KIND, a NAME (0 .. 99) and numbers:", TextSentences::names);
        sentence(3, "0 C channel: two points, LENGTH 0 .. 99, DEPTH 1 .. 30.", TextSentences::channel);
        sentence(3, "1 L lock: a point, CHAMBERS 0 .. 4, LENGTH 1 .. 99, WIDTH 1 .. 30.", TextSentences::lock);
        sentence(3, "2 B berth: a point, LENGTH 1 .. 99, DEPTH 1 .. 30, GEAR 0 .. 9.", TextSentences::berth);
        sentence(3, "3 Y yard: a point, BLOCKS 0 .. 50.", TextSentences::yard);
        sentence(3, "4 R road: two points (from the first to the second alone).", TextSentences::road);
        sentence(3, "5 G gate: a point.", TextSentences::gate);
        sentence(3, "a ROW: a letter C L B Y R G, the NAME, =, the numbers of its kind with a , between any two, ;.",
                TextSentences::signsOfARow);
        sentence(3, "Numbers have 1 or 2 digits (a 0 ahead may be).", TextSentences::digits);

        sentence(3, "READ: rows from the first to the last make the harbour,", TextSentences::firstToLast);
        sentence(3, "in place of what was there, if all is right", TextSentences::inPlace);
        sentence(3, "(no row at all is right, too).", TextSentences::noRowAtAll);
        sentence(3, "READ: how many pieces.", TextSentences::howManyPieces);
        sentence(3, "IllegalStateException if it fails.", TextSentences::readThrows);
        sentence(3, "Reading uses up the text, also when it fails;", TextSentences::usesUpTheText);
    }

    private static void lastCalls() {
        HarbourText signs = harbour(fullText(), 32);
        for (int call = 502; call <= 511; call++) {
            due("call " + call, signs.count(1), 32);
        }
        due("call 512, behind a full text", signs.deep(10, 11), 10);
        HarbourText reads = new HarbourText();
        for (int round = 1; round <= 85; round++) {
            readInto(reads, "G" + round % 10 + "=0;", 1);
        }
        due("call 511", reads.sign('G'), true);
        due("call 512, behind 85 reads", reads.find(5, 5), 0);
        HarbourText failures = new HarbourText();
        for (int round = 1; round <= 255; round++) {
            write(failures, "X");
            dueThrow("read", IllegalStateException.class, failures::read);
        }
        due("call 511", failures.failure(0), 1);
        due("call 512, behind 255 failures", failures.failure(1), 0);
    }

    private static void noPieces() {
        HarbourText x = new HarbourText();
        due("count(1)", x.count(1), 0);
        for (int kind = 0; kind < 6; kind++) {
            due("count(" + (10 + kind) + ")", x.count(10 + kind), 0);
            due("find(" + kind + ", 0)", x.find(kind, 0), NONE);
        }
        dueThrow("piece(0, 0)", IndexOutOfBoundsException.class, () -> x.piece(0, 0));
        due("bad()", x.bad(), 0);
        due("unjoined(0)", x.unjoined(0), NONE);
        due("print()", x.print(), 0);
        dueThrow("at(0)", IndexOutOfBoundsException.class, () -> x.at(0));
        due("reach(0, 0, 1)", x.reach(0, 0, 1), 0);
        due("reach(1, 0, 1)", x.reach(1, 0, 1), 0);
        due("deep(0, 1)", x.deep(0, 1), 0);
        due("keep()", x.keep(), 0);
        due("count(0)", x.count(0), 0);
        harbour("G1=0;", 1);
        due("count(1) when another object has pieces", x.count(1), 0);
    }

    private static void nothingKept() {
        HarbourText x = new HarbourText();
        due("count(2)", x.count(2), 0);
        due("compare() of nothing with nothing", x.compare(), 0);
        readInto(x, "G0=0;C0=0,1,0,1;", 2);
        due("count(2) behind a read", x.count(2), 0);
        due("compare() of two pieces with nothing", x.compare(), 2);
        HarbourText other = new HarbourText();
        harbour("G0=0;", 1).keep();
        due("count(2) when another object has kept", other.count(2), 0);
    }

    private static void signBySign() {
        HarbourText x = new HarbourText();
        String text = "Y12=3,45;";
        for (int i = 0; i < text.length(); i++) {
            due("count(0)", x.count(0), i);
            due("sign " + i, x.sign(text.charAt(i)), true);
        }
        due("count(0)", x.count(0), 9);
        due("read()", x.read(), 1);
        duePiece(x, 0, 3, 12, 3, 45);
        HarbourText full = new HarbourText();
        write(full, fullText());
        due("count(0) of a full text", full.count(0), 500);
        due("read() of a full text", full.read(), 32);
    }

    private static void signComes() {
        HarbourText x = new HarbourText();
        for (int c = 33; c <= 126; c++) {
            due("sign(" + c + ")", x.sign(c), true);
            due("count(0)", x.count(0), c - 32);
        }
    }

    private static void signOutside() {
        HarbourText x = new HarbourText();
        int g = 'G';
        int[] refused = {32, 127, 31, 128, 0, 10, -1, -33, -g, g + 128, g + 256, g + 65536, g - 65536,
            Integer.MIN_VALUE, Integer.MIN_VALUE + g, Integer.MAX_VALUE};
        for (int c : refused) {
            due("sign(" + c + ")", x.sign(c), false);
            due("count(0)", x.count(0), 0);
        }
        String text = "G1=2;";
        for (int i = 0; i < text.length(); i++) {
            due("sign " + i, x.sign(text.charAt(i)), true);
            due("sign(32) behind it", x.sign(32), false);
            due("sign(127) behind it", x.sign(127), false);
        }
        due("read() of the signs that came", x.read(), 1);
    }

    private static void signBehind500() {
        HarbourText x = new HarbourText();
        write(x, fullText());
        due("sign 501", x.sign('X'), false);
        due("sign 501, right as such", x.sign('C'), false);
        due("sign 501, outside as well", x.sign(32), false);
        due("count(0)", x.count(0), 500);
        due("read() of the 500 that came", x.read(), 32);
        due("sign behind read()", x.sign('G'), true);
        due("count(0) behind read()", x.count(0), 1);
        HarbourText almost = new HarbourText();
        write(almost, fullText().substring(0, 498));
        due("sign 499", almost.sign('0'), true);
        due("sign 500", almost.sign(';'), true);
        due("sign 501", almost.sign(';'), false);
    }

    /** Each kind has its first point behind "X1=". */
    private static void points() {
        String[] behind = {",7,1,1;", ",1,1,1;", ",1,1,1;", ",0;", ",7;", ";"};
        for (int kind = 0; kind < 6; kind++) {
            String ahead = "CLBYRG".charAt(kind) + "1=";
            right(ahead + "0" + behind[kind], 1);
            right(ahead + "15" + behind[kind], 1);
            fails(ahead + "16" + behind[kind], 3, 3);
            fails(ahead + "99" + behind[kind], 3, 3);
        }
        right("C1=7,0,1,1;R1=7,0;", 2);
        right("C1=7,15,1,1;R1=7,15;", 2);
        fails("C1=7,16,1,1;", 3, 5);
        fails("R1=7,16;", 3, 5);
    }

    private static void names() {
        for (String row : ROWS) {
            String kind = row.substring(0, 1);
            String numbers = row.substring(3);
            right(kind + "0" + numbers + kind + "9" + numbers + kind + "10" + numbers + kind + "99" + numbers, 4);
            right(kind + "00" + numbers, 1);
            fails(kind + numbers, 1, 1);
            fails(kind + "100" + numbers, 1, 3);
        }
        HarbourText all = new HarbourText();
        for (int name = 0; name <= 99; name += 33) {
            readInto(all, "G" + name + "=0;", 1);
            duePiece(all, 0, 5, name, 0);
        }
    }

    /** A number of a row, which stands between two texts: the least and the most are right, one beyond is not. */
    private static void range(String ahead, int least, int most, String behind) {
        right(ahead + least + behind, 1);
        right(ahead + most + behind, 1);
        if (least > 0) {
            fails(ahead + (least - 1) + behind, 3, ahead.length());
            fails(ahead + "0" + (least - 1) + behind, 3, ahead.length());
        }
        if (most < 99) {
            fails(ahead + (most + 1) + behind, 3, ahead.length());
            fails(ahead + "99" + behind, 3, ahead.length());
        }
    }

    private static void channel() {
        range("C1=", 0, 15, ",7,1,1;");
        range("C1=7,", 0, 15, ",1,1;");
        range("C1=7,8,", 0, 99, ",1;");
        range("C1=7,8,1,", 1, 30, ";");
        fails("C1=7,8,1;", 1, 8);
        fails("C1=7,8,1,1,1;", 1, 10);
        duePiece(harbour("C99=15,14,99,30;", 1), 0, 0, 99, 15, 14, 99, 30);
    }

    private static void lock() {
        range("L1=", 0, 15, ",1,1,1;");
        // 0 CHAMBERS are in the range: not failure 3, but one of their own.
        fails("L1=7,0,1,1;", 4, 5);
        right("L1=7,1,1,1;", 1);
        right("L1=7,4,1,1;", 1);
        fails("L1=7,5,1,1;", 3, 5);
        fails("L1=7,99,1,1;", 3, 5);
        range("L1=7,1,", 1, 99, ",1;");
        range("L1=7,1,1,", 1, 30, ";");
        fails("L1=7,1,1;", 1, 8);
        fails("L1=7,1,1,1,1;", 1, 10);
        duePiece(harbour("L99=15,4,99,30;", 1), 0, 1, 99, 15, 4, 99, 30);
    }

    private static void berth() {
        range("B1=", 0, 15, ",1,1,1;");
        range("B1=7,", 1, 99, ",1,1;");
        range("B1=7,1,", 1, 30, ",1;");
        range("B1=7,1,1,", 0, 9, ";");
        fails("B1=7,1,1;", 1, 8);
        fails("B1=7,1,1,1,1;", 1, 10);
        duePiece(harbour("B99=15,99,30,9;", 1), 0, 2, 99, 15, 99, 30, 9);
    }

    private static void yard() {
        range("Y1=", 0, 15, ",1;");
        range("Y1=7,", 0, 50, ";");
        fails("Y1=7;", 1, 4);
        fails("Y1=7,1,1;", 1, 6);
        duePiece(harbour("Y99=15,50;", 1), 0, 3, 99, 15, 50);
    }

    private static void road() {
        range("R1=", 0, 15, ",7;");
        range("R1=7,", 0, 15, ";");
        fails("R1=7;", 1, 4);
        fails("R1=7,8,9;", 1, 6);
        HarbourText x = harbour("R99=15,0;", 1);
        duePiece(x, 0, 4, 99, 15, 0);
        due("from the first to the second", x.reach(1, 15, 0), 1);
        due("from the second to the first", x.reach(1, 0, 15), 0);
    }

    private static void gate() {
        range("G1=", 0, 15, ";");
        fails("G1=7,8;", 1, 4);
        duePiece(harbour("G99=15;", 1), 0, 5, 99, 15);
    }

    /** Behind each beginning of a row, each sign that does not belong there fails at its place. */
    private static void signsOfARow() {
        for (String row : ROWS) {
            right(row, 1);
            for (int place = 0; place < row.length(); place++) {
                String ahead = row.substring(0, place);
                String allowed = allowedAt(row, place);
                for (char c = 33; c <= 126; c++) {
                    if (allowed.indexOf(c) < 0) {
                        fails(ahead + c, 1, place);
                    }
                }
            }
        }
        for (char c = 33; c <= 126; c++) {
            if ("CLBYRG".indexOf(c) < 0) {
                fails("G1=0;" + c, 1, 5);
            }
        }
    }

    /** The signs with which a row may go on where one of ROWS has another sign, whatever the numbers' ranges. */
    private static String allowedAt(String row, int place) {
        String digits = "0123456789";
        char sign = row.charAt(place);
        if (place == 0) {
            return "CLBYRG";
        }
        if (!Character.isDigit(row.charAt(place - 1))) {
            return digits;
        }
        if (Character.isDigit(sign)) {
            return digits + row.charAt(place + 1);
        }
        boolean isBehindOneDigit = !Character.isDigit(row.charAt(place - 2));
        return isBehindOneDigit ? digits + sign : String.valueOf(sign);
    }

    private static void digits() {
        right("C1=2,3,4,5;L1=2,3,4,5;B1=2,3,4,5;Y1=2,3;R1=2,3;G1=2;", 6);
        right("C01=02,03,04,05;L01=02,03,04,05;B01=02,03,04,05;Y01=02,03;R01=02,03;G01=02;", 6);
        right("C11=12,13,14,15;L11=12,3,14,15;B11=12,13,14,5;Y11=12,13;R11=12,13;G11=12;", 6);
        duePiece(harbour("C09=00,01,00,09;", 1), 0, 0, 9, 0, 1, 0, 9);
        duePiece(harbour("C90=0,10,10,30;", 1), 0, 0, 90, 0, 10, 10, 30);
        fails("G=0;", 1, 1);
        fails("G1=;", 1, 3);
        fails("C1=0,,0,1;", 1, 5);
        fails("C1=0,1,0,;", 1, 9);
        fails("G001=0;", 1, 3);
        fails("G1=001;", 1, 5);
        fails("G1=+1;", 1, 3);
        fails("G1=-1;", 1, 3);
        fails("G-1=0;", 1, 1);
    }

    private static void firstToLast() {
        HarbourText x = harbour("G7=1;C3=0,1,2,3;G5=2;", 3);
        duePiece(x, 0, 5, 7, 1);
        duePiece(x, 1, 0, 3, 0, 1, 2, 3);
        duePiece(x, 2, 5, 5, 2);
        HarbourText fifty = harbour(gates(50), 50);
        for (int i = 0; i < 50; i++) {
            due("name of piece " + i, fifty.piece(i, 1), i);
        }
    }

    private static void inPlace() {
        HarbourText x = harbour("C1=0,1,0,5;G1=3;R1=4,5;", 3);
        readInto(x, "Y1=2,7;", 1);
        due("pieces", x.count(1), 1);
        due("printed", printed(x), "Y1=2,7;");
        due("the channel", x.find(0, 1), NONE);
        due("the gate", x.find(5, 1), NONE);
        due("the depth", x.deep(0, 1), 0);
        due("the road", x.reach(1, 4, 5), 0);
        due("bad", badOf(x), "1");
        dueThrow("piece(1, 0)", IndexOutOfBoundsException.class, () -> x.piece(1, 0));
        String[] notAllRight = {"x", "C2=0,1,0,5;G1=3;x", "C2=0,1,0,5;G1=3", "G1=0;G1=0;", "G1=0;G2=16;",
            "G1=0;L1=0,0,1,1;"};
        for (String text : notAllRight) {
            write(x, text);
            dueThrow("read of " + text, IllegalStateException.class, x::read);
            due("printed behind it", printed(x), "Y1=2,7;");
            due("bad behind it", badOf(x), "1");
            due("find(3, 1) behind it", x.find(3, 1), 0);
            due("deep(0, 1) behind it", x.deep(0, 1), 0);
        }
        HarbourText y = harbour("Y1=2,7;", 1);
        failInto(y, gates(50) + "G", 5, 290);
        due("printed behind a 51st row", printed(y), "Y1=2,7;");
    }

    private static void noRowAtAll() {
        right("", 0);
        HarbourText x = harbour("C1=0,1,0,5;G1=3;", 2);
        readInto(x, "", 0);
        due("failure(0)", x.failure(0), 0);
        due("failure(1)", x.failure(1), NONE);
        due("pieces", x.count(1), 0);
        due("find(5, 1)", x.find(5, 1), NONE);
        due("print", x.print(), 0);
        due("bad", x.bad(), 0);
        due("deep(0, 1)", x.deep(0, 1), 0);
        dueThrow("piece(0, 0)", IndexOutOfBoundsException.class, () -> x.piece(0, 0));
        readInto(x, "G1=3;", 1);
    }

    private static void howManyPieces() {
        right("G1=0;", 1);
        right("G1=0;G2=0;", 2);
        right(gates(49), 49);
        right(gates(50), 50);
        HarbourText x = harbour("G1=0;G2=0;G3=0;", 3);
        readInto(x, "G4=0;", 1);
    }

    private static void readThrows() {
        fails("x", 1, 0);
        fails("G1=0", 1, 4);
        fails("G1=0;G1=0;", 2, 6);
        fails("G1=16;", 3, 3);
        fails("C1=1,1,1,1;", 3, 5);
        fails("L1=0,0,1,1;", 4, 5);
        fails(gates(50) + "G50=0;", 5, 290);
    }

    private static void usesUpTheText() {
        HarbourText x = harbour("G1=0;", 1);
        due("count(0) behind a right text", x.count(0), 0);
        readInto(x, "G2=0;", 1);
        due("the second text stands alone", printed(x), "G2=0;");
        for (String text : new String[] {"x", "G", "G1=0;G1=0;", "G1=99;", "L1=0,0,1,1;"}) {
            write(x, text);
            dueThrow("read of " + text, IllegalStateException.class, x::read);
            due("count(0) behind " + text, x.count(0), 0);
            readInto(x, "G2=0;", 1);
        }
        failInto(x, "G1=0;x", 1, 5);
        due("read() of what is left", x.read(), 0);
        due("pieces of what is left", x.count(1), 0);
        HarbourText full = new HarbourText();
        write(full, fullText());
        due("read() of 500 signs", full.read(), 32);
        due("count(0) behind 500 signs", full.count(0), 0);
        due("sign behind them", full.sign('G'), true);
    }
}
