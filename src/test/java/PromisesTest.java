/**
 * The promises of the document one by one: ordinary inputs, named edges and wrong inputs.
 * No object is used for more than 512 calls, for nothing is promised behind them.
 */
public final class PromisesTest {
    private static int wrong = 0;
    private static String promise = "";

    /** A call that may throw. */
    private interface Call {
        int answer();
    }

    public static void main(String[] args) {
        promise1NewObject();
        promise2Sign();
        promise3Read();
        promise3ReadInPlace();
        promise4FailureSigns();
        promise4FailureNames();
        promise4FailureRanges();
        promise4FailureOrder();
        promise4FailureRows();
        promise4FailureLatest();
        promise5Piece();
        promise6Find();
        promise7Reach();
        promise8Deep();
        promise9BadOrder();
        promise10Unjoined();
        promise11Print();
        promise12At();
        promise13Keep();
        promise14Compare();
        promise15Count();
        System.out.println(wrong == 0 ? "all promises hold" : wrong + " answers are not as due");
        if (wrong != 0) {
            System.exit(1);
        }
    }

    private static void due(String call, long got, long want) {
        if (got != want) {
            wrong++;
            System.out.println(promise + ": " + call + " answered " + got + ", due is " + want);
        }
    }

    private static void due(String call, String got, String want) {
        if (!got.equals(want)) {
            wrong++;
            System.out.println(promise + ": " + call + " answered " + got + ", due is " + want);
        }
    }

    /** The very class is asked for: one below it would be the machine's own. */
    private static void dueThrow(String call, Class<?> want, Call made) {
        String got;
        try {
            got = String.valueOf(made.answer());
        } catch (RuntimeException e) {
            got = e.getClass().getName();
        }
        due(call, got, want.getName());
    }

    private static void write(HarbourText x, String text) {
        for (int i = 0; i < text.length(); i++) {
            due("sign in " + text, x.sign(text.charAt(i)) ? 1 : 0, 1);
        }
    }

    private static void readInto(HarbourText x, String text, int pieces) {
        write(x, text);
        try {
            due("read of " + text, x.read(), pieces);
        } catch (IllegalStateException e) {
            due("read of " + text + " threw, with failure", x.failure(0), 0);
        }
    }

    private static HarbourText harbour(String text, int pieces) {
        HarbourText x = new HarbourText();
        readInto(x, text, pieces);
        return x;
    }

    private static void failInto(HarbourText x, String text, int number, int place) {
        write(x, text);
        dueThrow("read of " + text, IllegalStateException.class, x::read);
        due("failure(0) of " + text, x.failure(0), number);
        due("failure(1) of " + text, x.failure(1), place);
    }

    private static void fails(String text, int number, int place) {
        failInto(new HarbourText(), text, number, place);
    }

    private static void right(String text, int pieces) {
        HarbourText x = harbour(text, pieces);
        due("failure(0) of " + text, x.failure(0), 0);
        due("failure(1) of " + text, x.failure(1), HarbourText.NONE);
    }

    private static String printed(HarbourText x) {
        StringBuilder text = new StringBuilder();
        int many = x.print();
        for (int i = 0; i < many; i++) {
            text.append((char) x.at(i));
        }
        return text.toString();
    }

    private static String badOf(HarbourText x) {
        StringBuilder text = new StringBuilder();
        int many = x.bad();
        for (int i = 0; i < many; i++) {
            text.append(i == 0 ? "" : " ").append(x.unjoined(i));
        }
        due("unjoined(" + many + ")", x.unjoined(many), HarbourText.NONE);
        return text.toString();
    }

    private static String gates(int many) {
        StringBuilder text = new StringBuilder();
        for (int i = 0; i < many; i++) {
            text.append('G').append(i).append("=0;");
        }
        return text.toString();
    }

    private static void promise1NewObject() {
        promise = "1";
        HarbourText x = new HarbourText();
        due("NONE", HarbourText.NONE, -1);
        due("count(0)", x.count(0), 0);
        due("count(1)", x.count(1), 0);
        due("count(2)", x.count(2), 0);
        for (int kind = 0; kind < 6; kind++) {
            due("count of kind " + kind, x.count(10 + kind), 0);
            due("find of kind " + kind, x.find(kind, 0), HarbourText.NONE);
        }
        due("failure(0)", x.failure(0), 0);
        due("failure(1)", x.failure(1), HarbourText.NONE);
        due("bad", x.bad(), 0);
        due("print", x.print(), 0);
        due("compare", x.compare(), 0);
        due("keep", x.keep(), 0);
        dueThrow("piece(0, 0)", IndexOutOfBoundsException.class, () -> x.piece(0, 0));
        dueThrow("at(0)", IndexOutOfBoundsException.class, () -> x.at(0));
        due("reach(0, 0, 1)", x.reach(0, 0, 1), 0);
        due("deep(0, 1)", x.deep(0, 1), 0);
        HarbourText other = harbour("G1=0;G2=0;", 2);
        due("another object's pieces", x.count(1), 0);
        due("compare with nothing kept", other.compare(), 2);
    }

    private static void promise2Sign() {
        promise = "2";
        HarbourText x = new HarbourText();
        int[] refused = {Integer.MIN_VALUE, -1, 0, 10, 32, 127, 128, 323, 65603, Integer.MAX_VALUE};
        for (int c : refused) {
            due("sign(" + c + ")", x.sign(c) ? 1 : 0, 0);
        }
        due("count(0) behind refused signs", x.count(0), 0);
        for (int c = 33; c <= 126; c++) {
            due("sign(" + c + ")", x.sign(c) ? 1 : 0, 1);
        }
        due("count(0)", x.count(0), 94);
        HarbourText full = new HarbourText();
        for (int i = 0; i < 500; i++) {
            due("sign " + i, full.sign('C') ? 1 : 0, 1);
        }
        due("sign over 500", full.sign('C') ? 1 : 0, 0);
        due("count(0) when full", full.count(0), 500);
        dueThrow("read", IllegalStateException.class, full::read);
        due("sign behind read", full.sign('C') ? 1 : 0, 1);
        due("count(0) behind read", full.count(0), 1);
    }

    private static void promise3Read() {
        promise = "3";
        right("", 0);
        right("C1=0,1,0,1;", 1);
        right("C99=15,14,99,30;", 1);
        right("L1=0,1,1,1;", 1);
        right("L0=15,4,99,30;", 1);
        right("B1=0,1,1,0;", 1);
        right("B1=15,99,30,9;", 1);
        right("Y1=0,0;", 1);
        right("Y1=15,50;", 1);
        right("R1=0,15;", 1);
        right("R1=15,0;", 1);
        right("G0=0;", 1);
        right("G99=15;", 1);
        right("C07=00,01,09,05;", 1);
        right("C1=0,1,5,5;L1=0,1,5,5;B1=0,5,5,5;Y1=0,5;R1=0,1;G1=0;", 6);
        right(gates(50), 50);
        right(fullText(), 32);
    }

    /** 500 signs in the printed order: 30 rows of 16 and 2 of 10. */
    private static String fullText() {
        StringBuilder text = new StringBuilder();
        for (int i = 10; i < 40; i++) {
            text.append('C').append(i).append("=10,11,10,10;");
        }
        return text.append("Y10=10,50;Y11=10,50;").toString();
    }

    private static void promise3ReadInPlace() {
        promise = "3";
        HarbourText x = harbour("C1=0,1,0,5;G1=3;", 2);
        due("count(0) behind read", x.count(0), 0);
        readInto(x, "Y1=2,7;", 1);
        due("pieces in place", x.count(1), 1);
        due("the channel is gone", x.find(0, 1), HarbourText.NONE);
        due("the depth is gone", x.deep(0, 1), 0);
        failInto(x, "G1=0;G1=0;", 2, 6);
        due("count(0) behind a failure", x.count(0), 0);
        due("pieces behind a failure", x.count(1), 1);
        due("printed behind a failure", printed(x), "Y1=2,7;");
        due("bad behind a failure", badOf(x), "1");
        readInto(x, "", 0);
        due("pieces behind an empty text", x.count(1), 0);
        due("printed behind an empty text", printed(x), "");
        due("bad behind an empty text", x.bad(), 0);
    }

    private static void promise4FailureSigns() {
        promise = "4";
        String[] rows = {"C12=10,11,12,13;", "L1=2,3,4,5;", "B1=2,30,6,0;", "Y9=15,50;", "R1=4,3;", "G2=3;"};
        for (String row : rows) {
            for (int end = 1; end < row.length(); end++) {
                fails(row.substring(0, end), 1, end);
                fails("G50=0;" + row.substring(0, end), 1, 6 + end);
            }
            for (int place = 0; place < row.length(); place++) {
                fails(row.substring(0, place) + "!" + row.substring(place), 1, place);
            }
            fails(row + ";", 1, row.length());
            fails(row + "7", 1, row.length());
            fails(row.toLowerCase(), 1, 0);
        }
        fails("X", 1, 0);
        fails("1=0;", 1, 0);
        fails("G=0;", 1, 1);
        fails("G1=;", 1, 3);
        fails("G1=-1;", 1, 3);
        fails("G1=0,1;", 1, 4);
        fails("Y1=0;", 1, 4);
        fails("C1=0,1,2;", 1, 8);
        fails("C1=0,1,2,3,4;", 1, 10);
        fails("G123=0;", 1, 3);
        fails("G1=000;", 1, 5);
        fails("Y1=0,500;", 1, 7);
        fails("G1;0=", 1, 2);
        fails("G1=0;;", 1, 5);
    }

    private static void promise4FailureNames() {
        promise = "4";
        fails("G1=0;G1=0;", 2, 6);
        fails("G1=0;G01=0;", 2, 6);
        fails("G00=0;G0=0;", 2, 7);
        fails("G1=0;G1", 2, 6);
        fails("G1=0;G1x", 2, 6);
        fails("G12=0;G123=0;", 2, 7);
        fails("C1=0,1,2,3;L1=0,1,2,3;C1=0,1,2,3;", 2, 23);
        right("G1=0;G12=0;G10=0;G2=0;", 4);
        HarbourText x = harbour("G1=0;", 1);
        readInto(x, "G1=0;", 1);
        failInto(x, "G2=16;", 3, 3);
        readInto(x, "G2=1;", 1);
    }

    private static void promise4FailureRanges() {
        promise = "4";
        fails("C1=16,1,2,3;", 3, 3);
        fails("C1=1,16,2,3;", 3, 5);
        fails("C1=0,1,2,0;", 3, 9);
        fails("C1=0,1,2,00;", 3, 9);
        fails("C1=0,1,2,31;", 3, 9);
        fails("C1=5,5,2,3;", 3, 5);
        fails("C1=5,05,2,3;", 3, 5);
        fails("L1=16,1,2,3;", 3, 3);
        fails("L1=0,5,2,3;", 3, 5);
        fails("L1=0,1,0,3;", 3, 7);
        fails("L1=0,1,2,0;", 3, 9);
        fails("L1=0,1,2,31;", 3, 9);
        fails("L1=0,0,2,3;", 4, 5);
        fails("L1=0,00,2,3;", 4, 5);
        fails("L1=0,0", 4, 5);
        fails("L1=0,0x", 4, 5);
        fails("L1=0,000", 4, 5);
        fails("B1=16,1,2,3;", 3, 3);
        fails("B1=0,0,2,3;", 3, 5);
        fails("B1=0,1,0,3;", 3, 7);
        fails("B1=0,1,31,3;", 3, 7);
        fails("B1=0,1,2,10;", 3, 9);
        fails("Y1=16,1;", 3, 3);
        fails("Y1=0,51;", 3, 5);
        fails("R1=16,1;", 3, 3);
        fails("R1=1,16;", 3, 5);
        fails("R1=7,7;", 3, 5);
        fails("G1=16;", 3, 3);
        fails("G1=99", 3, 3);
        right("L1=1,1,1,1;B1=1,1,1,1;Y1=1,1;", 3);
    }

    private static void promise4FailureOrder() {
        promise = "4";
        fails("Y1=0,510;", 3, 5);
        fails("G1=160;", 3, 3);
        fails("G1=16", 3, 3);
        fails("C1=5,5x", 3, 5);
        fails("C1=1,11,2,3;G1=0;G1=99;", 2, 18);
        fails("G1=99;G1=0;", 3, 3);
        fails("L1=0,0,0,0;", 4, 5);
        fails("L1=16,0,0,0;", 3, 3);
        fails("G1=0;G2=0;X;G1=0;", 1, 10);
        fails("C1=15,150,2,3;", 3, 6);
        fails("C1=1,150,2,3;", 1, 7);
    }

    private static void promise4FailureRows() {
        promise = "4";
        String fifty = gates(50);
        fails(fifty + "G", 5, fifty.length());
        fails(fifty + "C1=0,1,2,3;", 5, fifty.length());
        fails(fifty + "G1=99;", 5, fifty.length());
        fails(fifty + "X", 1, fifty.length());
        fails(fifty.substring(0, fifty.length() - 1), 1, fifty.length() - 1);
        fails("G1=0;" + fifty, 2, 11);
    }

    private static void promise4FailureLatest() {
        promise = "4";
        HarbourText x = new HarbourText();
        failInto(x, "G1", 1, 2);
        due("failure(2)", x.failure(2), HarbourText.NONE);
        due("failure(-1)", x.failure(-1), HarbourText.NONE);
        due("failure(least)", x.failure(Integer.MIN_VALUE), HarbourText.NONE);
        write(x, "Z");
        due("failure(0) before the next read", x.failure(0), 1);
        due("failure(1) before the next read", x.failure(1), 2);
        dueThrow("read", IllegalStateException.class, x::read);
        due("failure(1) of the next read", x.failure(1), 0);
        readInto(x, "G1=0;", 1);
        failInto(x, "G", 1, 1);
        readInto(x, "G1=0;", 1);
        due("failure(0) behind a right read", x.failure(0), 0);
        due("failure(1) behind a right read", x.failure(1), HarbourText.NONE);
    }

    private static void duePiece(HarbourText x, int i, int... want) {
        for (int what = 0; what < want.length; what++) {
            due("piece(" + i + ", " + what + ")", x.piece(i, what), want[what]);
        }
        int[] none = {want.length, want.length + 1, 6, 7, -1, Integer.MIN_VALUE, Integer.MAX_VALUE};
        for (int what : none) {
            dueThrow("piece(" + i + ", " + what + ")", IndexOutOfBoundsException.class, () -> x.piece(i, what));
        }
    }

    private static void promise5Piece() {
        promise = "5";
        HarbourText x = harbour("G99=15;R4=05,6;Y3=7,50;B2=1,30,6,9;L01=9,4,98,29;C0=14,13,00,12;", 6);
        duePiece(x, 0, 5, 99, 15);
        duePiece(x, 1, 4, 4, 5, 6);
        duePiece(x, 2, 3, 3, 7, 50);
        duePiece(x, 3, 2, 2, 1, 30, 6, 9);
        duePiece(x, 4, 1, 1, 9, 4, 98, 29);
        duePiece(x, 5, 0, 0, 14, 13, 0, 12);
        int[] none = {6, 49, 50, -1, Integer.MIN_VALUE, Integer.MAX_VALUE};
        for (int i : none) {
            dueThrow("piece(" + i + ", 0)", IndexOutOfBoundsException.class, () -> x.piece(i, 0));
        }
        readInto(x, "G1=2;", 1);
        duePiece(x, 0, 5, 1, 2);
        dueThrow("piece(1, 0)", IndexOutOfBoundsException.class, () -> x.piece(1, 0));
    }

    private static void promise6Find() {
        promise = "6";
        HarbourText x = harbour("G99=15;C5=0,1,2,3;L5=1,1,1,1;G0=2;C0=1,2,3,4;", 5);
        due("find(5, 99)", x.find(5, 99), 0);
        due("find(0, 5)", x.find(0, 5), 1);
        due("find(1, 5)", x.find(1, 5), 2);
        due("find(5, 0)", x.find(5, 0), 3);
        due("find(0, 0)", x.find(0, 0), 4);
        int[][] none = {{2, 5}, {0, 99}, {0, 105}, {0, 100}, {6, 0}, {6, -1}, {-1, 0}, {-1, 100}, {5, 199},
            {4, 199}, {1, -95}, {Integer.MAX_VALUE, 5}, {5, Integer.MIN_VALUE}};
        for (int[] pair : none) {
            due("find(" + pair[0] + ", " + pair[1] + ")", x.find(pair[0], pair[1]), HarbourText.NONE);
        }
    }

    private static void promise7Reach() {
        promise = "7";
        HarbourText x = harbour("C1=2,3,0,5;C2=1,2,1,9;C3=0,1,1,9;R1=5,6;R2=4,5;R3=8,4;R4=6,8;R5=9,4;", 8);
        due("channels one behind the other", x.reach(0, 0, 3), 1);
        due("channels back", x.reach(0, 3, 0), 1);
        due("no channel", x.reach(0, 0, 4), 0);
        due("roads are no channels", x.reach(0, 4, 5), 0);
        due("channels are no roads", x.reach(1, 0, 1), 0);
        due("roads one behind the other", x.reach(1, 8, 6), 1);
        due("roads round a circle", x.reach(1, 6, 5), 1);
        due("a road into the circle", x.reach(1, 9, 8), 1);
        due("a road against its way", x.reach(1, 8, 9), 0);
        for (int point = 0; point < 16; point++) {
            due("itself by channels " + point, x.reach(0, point, point), 1);
            due("itself by roads " + point, x.reach(1, point, point), 1);
        }
        int[][] none = {{2, 0, 0}, {-1, 0, 0}, {0, 16, 0}, {0, 0, 16}, {1, -1, 0}, {1, 0, -1}, {1, 16, 16},
            {0, Integer.MIN_VALUE, 0}, {0, 0, Integer.MAX_VALUE}, {Integer.MAX_VALUE, 99, 99}};
        for (int[] n : none) {
            dueThrow("reach(" + n[0] + ", " + n[1] + ", " + n[2] + ")", IllegalArgumentException.class,
                    () -> x.reach(n[0], n[1], n[2]));
        }
        due("a channel of the least depth", harbour("C1=0,1,0,1;", 1).reach(0, 1, 0), 1);
        due("the longest way", longestWay().reach(0, 0, 15), 1);
        due("the longest way back", longestWay().reach(0, 15, 0), 1);
        due("the longest road", longestWay().reach(1, 15, 0), 1);
        due("no road back", longestWay().reach(1, 0, 15), 0);
    }

    /** Channels and roads through all points, read so that a round from 0 or 15 takes one step at a time. */
    private static HarbourText longestWay() {
        StringBuilder text = new StringBuilder();
        for (int point = 14; point >= 0; point--) {
            text.append("C" + point + "=" + point + "," + (point + 1) + ",1," + (30 - point) + ";");
        }
        for (int point = 1; point < 16; point++) {
            text.append("R" + point + "=" + point + "," + (point - 1) + ";");
        }
        return harbour(text.toString(), 30);
    }

    private static void promise8Deep() {
        promise = "8";
        HarbourText x = harbour("C1=0,1,1,9;C2=1,2,1,5;C3=0,3,1,8;C4=3,2,1,7;C5=0,2,1,6;C6=4,5,1,30;C7=4,5,0,2;", 7);
        due("by the deeper of the ways", x.deep(0, 2), 7);
        due("the same back", x.deep(2, 0), 7);
        due("round about", x.deep(1, 2), 7);
        due("one channel", x.deep(0, 1), 9);
        due("two channels side by side", x.deep(5, 4), 30);
        due("not reached", x.deep(0, 4), 0);
        due("to itself", x.deep(2, 2), 99);
        due("to itself without channels", x.deep(15, 15), 99);
        int[][] none = {{-1, 0}, {0, -1}, {16, 0}, {0, 16}, {16, 16}, {-1, -1},
            {Integer.MIN_VALUE, 0}, {0, Integer.MAX_VALUE}};
        for (int[] n : none) {
            dueThrow("deep(" + n[0] + ", " + n[1] + ")", IllegalArgumentException.class, () -> x.deep(n[0], n[1]));
        }
        due("the longest way", longestWay().deep(0, 15), 16);
        due("the longest way back", longestWay().deep(15, 0), 16);
        due("roads carry no ship", harbour("R1=0,1;", 1).deep(0, 1), 0);
        due("a channel of no length carries one", harbour("C1=0,1,0,4;", 1).deep(1, 0), 4);
    }

    private static void dueBad(String text, int pieces, String want) {
        due("bad of " + text, badOf(harbour(text, pieces)), want);
    }

    private static void promise9BadOrder() {
        promise = "9";
        dueBad("B1=1,1,5,0;C1=0,1,1,5;", 2, "");
        dueBad("B1=1,1,6,0;C1=0,1,1,5;", 2, "3");
        dueBad("B1=0,1,30,0;", 1, "0");
        dueBad("B1=0,1,30,0;C1=5,0,1,1;", 2, "");
        dueBad("B1=1,1,1,0;", 1, "0 3");
        dueBad("B1=1,1,1,0;C1=1,2,1,30;", 2, "3");
        dueBad("L1=0,1,1,1;", 1, "0");
        dueBad("L1=2,1,1,1;R1=2,3;", 2, "0");
        dueBad("L1=2,1,1,1;C1=2,3,1,30;", 2, "");
        dueBad("C1=2,3,1,30;L1=2,1,1,1;", 2, "");
        dueBad("L1=3,1,1,30;C1=2,3,1,1;", 2, "");
        dueBad("Y1=2,0;G1=3;", 2, "1 11");
        dueBad("Y1=2,0;G1=3;R1=2,3;", 3, "");
        dueBad("Y1=2,0;G1=3;R1=3,2;", 3, "");
        dueBad("Y1=2,0;G1=3;C1=3,2,1,1;", 3, "1 11");
        dueBad("G1=0;", 1, "1");
        dueBad("C1=0,1,0,5;C2=0,1,1,5;C3=0,1,00,5;", 3, "2 22");
        dueBad("B1=9,1,5,0;G1=1;L1=8,1,1,1;C1=0,1,0,5;Y1=1,0;B2=1,1,9,0;L2=1,1,1,1;C2=3,4,0,1;", 8,
                "0 20 11 41 32 72 3 53");
    }

    private static void promise10Unjoined() {
        promise = "10";
        HarbourText x = harbour("G1=0;C1=0,1,0,5;B1=2,1,1,1;", 3);
        due("bad", x.bad(), 4);
        due("unjoined(0)", x.unjoined(0), 20);
        due("unjoined(1)", x.unjoined(1), 1);
        due("unjoined(2)", x.unjoined(2), 12);
        due("unjoined(3)", x.unjoined(3), 23);
        int[] none = {4, 99, 100, -1, Integer.MIN_VALUE, Integer.MAX_VALUE};
        for (int i : none) {
            due("unjoined(" + i + ")", x.unjoined(i), HarbourText.NONE);
        }
        HarbourText most = harbour(mostBad(), 42);
        due("the most that are bad", most.bad(), 84);
        due("its last by points", most.unjoined(41), 410);
        due("its first too deep", most.unjoined(42), 3);
        due("its last", most.unjoined(83), 413);
        due("behind its last", most.unjoined(84), HarbourText.NONE);
        HarbourText gates = harbour(gates(50), 50);
        due("fifty gates", gates.bad(), 50);
        due("the last gate", gates.unjoined(49), 491);
        due("behind the last gate", gates.unjoined(50), HarbourText.NONE);
        readInto(most, "G1=0;", 1);
        due("bad in place", most.bad(), 1);
        due("unjoined(1) in place", most.unjoined(1), HarbourText.NONE);
    }

    /** As many berths as 500 signs hold, each bad for two reasons. */
    private static String mostBad() {
        StringBuilder text = new StringBuilder();
        for (int i = 0; i < 42; i++) {
            text.append('B').append(i).append("=1,1,1,1;");
        }
        return text.toString();
    }

    private static void promise11Print() {
        promise = "11";
        HarbourText x = harbour("G10=3;G9=03;G0=15;R2=4,3;Y07=1,00;B1=2,30,06,0;L99=9,1,5,5;C7=0,1,20,9;C3=1,2,0,5;", 9);
        String want = "C3=1,2,0,5;C7=0,1,20,9;L99=9,1,5,5;B1=2,30,6,0;Y7=1,0;R2=4,3;G0=15;G9=3;G10=3;";
        due("print", x.print(), want.length());
        due("printed", printed(x), want);
        x.keep();
        readInto(x, want, 9);
        due("compare with what was read before", x.compare(), 0);
        due("printed again", printed(x), want);
        due("piece 0 as read", x.piece(0, 1), 3);
        HarbourText edges = harbour("L0=1,1,1,1;C99=0,1,1,1;R99=0,1;G0=1;", 4);
        due("the last name of a kind before the first of the next", printed(edges),
                "C99=0,1,1,1;L0=1,1,1,1;R99=0,1;G0=1;");
        String text = fullText();
        HarbourText full = harbour(text, 32);
        due("the longest print", full.print(), 500);
        for (int i : new int[] {0, 479, 480, 498, 499}) {
            due("its sign " + i, full.at(i), text.charAt(i));
        }
        dueThrow("at(500) of the longest print", IndexOutOfBoundsException.class, () -> full.at(500));
    }

    private static void promise12At() {
        promise = "12";
        HarbourText x = harbour("G2=3;C1=0,1,10,9;", 2);
        due("at(0)", x.at(0), 'C');
        due("at(11)", x.at(11), ';');
        due("at(12)", x.at(12), 'G');
        due("at(16)", x.at(16), ';');
        int[] none = {17, -1, 499, 500, Integer.MIN_VALUE, Integer.MAX_VALUE};
        for (int i : none) {
            dueThrow("at(" + i + ")", IndexOutOfBoundsException.class, () -> x.at(i));
        }
        x.print();
        readInto(x, "R1=2,3;", 1);
        due("at(0) without a print", x.at(0), 'R');
        dueThrow("at(7) without a print", IndexOutOfBoundsException.class, () -> x.at(7));
        failInto(x, "X", 1, 0);
        due("at(0) behind a failure", x.at(0), 'R');
    }

    private static void promise13Keep() {
        promise = "13";
        HarbourText x = harbour("G1=0;R1=1,2;", 2);
        due("keep", x.keep(), 2);
        due("count(2)", x.count(2), 2);
        readInto(x, "G1=0;", 1);
        due("count(2) behind a read", x.count(2), 2);
        due("compare behind a read", x.compare(), 1);
        due("keep again", x.keep(), 1);
        due("compare behind keep again", x.compare(), 0);
        failInto(x, "G1=1;X", 1, 5);
        due("compare behind a failure", x.compare(), 0);
        readInto(x, "", 0);
        due("compare without pieces", x.compare(), 1);
        due("keep without pieces", x.keep(), 0);
        due("compare without pieces on both sides", x.compare(), 0);
    }

    private static void dueDifference(String kept, int keptPieces, String text, int pieces, int want) {
        HarbourText x = harbour(kept, keptPieces);
        x.keep();
        readInto(x, text, pieces);
        due("compare of " + kept + " and " + text, x.compare(), want);
    }

    private static void promise14Compare() {
        promise = "14";
        dueDifference("G1=0;R1=1,2;", 2, "R01=01,02;G1=00;", 2, 0);
        dueDifference("G1=0;", 1, "G1=1;", 1, 1);
        dueDifference("G1=0;", 1, "G2=0;", 1, 2);
        dueDifference("G1=0;", 1, "Y1=0,0;", 1, 2);
        dueDifference("C1=0,1,2,3;", 1, "C1=9,1,2,3;", 1, 1);
        dueDifference("C1=0,1,2,3;", 1, "C1=0,9,2,3;", 1, 1);
        dueDifference("C1=0,1,2,3;", 1, "C1=0,1,9,3;", 1, 1);
        dueDifference("C1=0,1,2,3;", 1, "C1=0,1,2,9;", 1, 1);
        dueDifference("C1=0,1,2,3;", 1, "C1=9,8,7,6;", 1, 1);
        dueDifference("C1=0,1,2,3;", 1, "C1=1,0,2,3;", 1, 1);
        dueDifference("Y1=0,1;", 1, "Y1=0,2;", 1, 1);
        dueDifference("", 0, gates(50), 50, 50);
        dueDifference(gates(50), 50, "", 0, 50);
        dueDifference("C1=0,1,2,3;G1=5;", 2, "G1=5;C1=0,1,2,3;", 2, 0);
        HarbourText x = harbour("C1=0,1,9,9;L1=1,4,9,9;", 2);
        readInto(x, "G1=5;Y1=1,1;", 2);
        x.keep();
        readInto(x, "L1=1,4,9,9;C1=0,1,9,9;", 2);
        readInto(x, "G1=5;Y1=1,1;", 2);
        due("compare after other pieces stood in the same places", x.compare(), 0);
    }

    private static void promise15Count() {
        promise = "15";
        HarbourText x = harbour("G1=0;C1=0,1,2,3;G2=0;Y1=0,0;G3=0;L1=1,1,1,1;R1=1,2;R2=1,2;B1=0,1,1,1;", 9);
        int[] want = {1, 1, 1, 1, 2, 3};
        for (int kind = 0; kind < 6; kind++) {
            due("count(" + (10 + kind) + ")", x.count(10 + kind), want[kind]);
        }
        due("count(1)", x.count(1), 9);
        due("count(2)", x.count(2), 0);
        write(x, "G1");
        due("count(0)", x.count(0), 2);
        int[] none = {-1, 3, 9, 16, -10, 110, Integer.MIN_VALUE, Integer.MAX_VALUE};
        for (int what : none) {
            due("count(" + what + ")", x.count(what), HarbourText.NONE);
        }
    }
}
