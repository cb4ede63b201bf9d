/** Promise 4 and the FAILURES of the terms. */
final class FailureSentences extends Checks {
    /** All numbers that a row of its kind may hold are 1 here, but for the points, of which the first is 0. */
    private static final String[] ROWS = {
        "C1=0,1,1,1;", "L1=0,1,1,1;", "B1=0,1,1,1;", "Y1=0,1;", "R1=0,1;", "G1=0;",
    };

    private FailureSentences() {
    }

    static void all() {
        sentence(4, "FAILURES, of which the one at the first place counts", FailureSentences::firstPlace);
        sentence(4, "(of one place the less number):", FailureSentences::lessNumber);
        sentence(4, "1 a sign that can't stand where it does (a third digit),", FailureSentences::wrongSign);
        sentence(4, "or the length, if a row is cut off;", FailureSentences::cutOff);
        sentence(4, "2 a NAME that stood there already for that kind, at its first digit;",
                FailureSentences::nameAgain);
        sentence(4, "3 a number that is outside of its range,", FailureSentences::outsideOfRange);
        sentence(4, "or a second point of a channel or road that is the first, at its first digit;",
                FailureSentences::samePoint);
        sentence(4, "4 a lock without a chamber, at the number's first digit;", FailureSentences::noChamber);
        sentence(4, "5 the 51st row, at its letter.", FailureSentences::row51);
        sentence(4, "(2 to 4 look at the one or two digits that stand there, whatever comes behind them.)",
                FailureSentences::whateverComesBehind);

        sentence(4, "Of the latest read():", FailureSentences::latestRead);
        sentence(4, "which 0: the FAILURE (0 if none),", FailureSentences::numberOfFailure);
        sentence(4, "1: its place (NONE if none).", FailureSentences::placeOfFailure);
        sentence(4, "NONE for another which.", FailureSentences::anotherWhich);
    }

    /** Each two failures in both orders, as far as a text can have them. */
    private static void firstPlace() {
        fails("G1=0;xG1=0;", 1, 5);
        fails("G1=0;G1=0;x", 2, 6);
        fails("G1=x;G2=16;", 1, 3);
        fails("G1=16;x", 3, 3);
        fails("xL1=0,0,1,1;", 1, 0);
        fails("L1=0,0,1,1;x", 4, 5);
        fails("G1=0;G1=16;", 2, 6);
        fails("G1=16;G1=0;", 3, 3);
        fails("L1=0,1,1,1;L1=0,0,1,1;", 2, 12);
        fails("L1=0,0,1,1;L1=0,1,1,1;", 4, 5);
        fails("L1=16,0,1,1;", 3, 3);
        fails("L1=0,0,0,1;", 4, 5);
        fails(gates(50) + "x", 1, 290);
        fails(gates(50) + "Gx", 5, 290);
        fails(gates(49) + "G48=0;G49=0;", 2, 285);
        fails(gates(50) + "G48=0;", 5, 290);
        fails(gates(49) + "G49=16;G50=0;", 3, 288);
        fails(gates(50) + "G50=16;", 5, 290);
        fails(gates(49) + "L1=0,0,1,1;G49=0;", 4, 289);
        fails(gates(50) + "L1=0,0,1,1;", 5, 290);
        fails("xx", 1, 0);
        fails("G1=16;G2=16;", 3, 3);
        fails("C1=16,16,1,0;", 3, 3);
        fails("G1=0;G2=0;G2=0;G1=0;", 2, 11);
    }

    /** Only where a 51st row begins can two failures have one place. */
    private static void lessNumber() {
        String fifty = gates(50);
        for (char c = 33; c <= 126; c++) {
            boolean isLetter = "CLBYRG".indexOf(c) >= 0;
            fails(fifty + c, isLetter ? 5 : 1, 290);
        }
        fails(fifty + "7=0;", 1, 290);
        fails(fifty + ";G50=0;", 1, 290);
    }

    private static void wrongSign() {
        for (char digit = '0'; digit <= '9'; digit++) {
            for (String row : ROWS) {
                String kind = row.substring(0, 1);
                fails(kind + "01" + digit + row.substring(2), 1, 3);
                thirdDigitOfNumbers(row, digit);
            }
        }
        fails("Y1=0,501;", 1, 7);
        fails("G1=150;", 1, 5);
        fails("G990=0;", 1, 3);
        fails("!", 1, 0);
        fails("~", 1, 0);
        fails("c1=0,1,1,1;", 1, 0);
        fails("G1=0;;", 1, 5);
        fails("G1=0;0", 1, 5);
        fails("GG1=0;", 1, 1);
        fails("G1==0;", 1, 3);
        fails("G1,0;", 1, 2);
        fails("C1=0;1,1,1;", 1, 4);
        fails("C1=0,1,1,1,", 1, 10);
    }

    private static void thirdDigitOfNumbers(String row, char digit) {
        for (int place = 3; place < row.length(); place += 2) {
            String ahead = row.substring(0, place) + "0" + row.charAt(place);
            fails(ahead + digit + row.substring(place + 1), 1, place + 2);
            fails(ahead + digit, 1, place + 2);
        }
    }

    private static void cutOff() {
        for (String row : ROWS) {
            for (int length = 1; length < row.length(); length++) {
                String start = row.substring(0, length);
                fails(start, 1, length);
                fails("G99=15;" + start, 1, 7 + length);
            }
        }
        fails("C01=00,01,01,01", 1, 15);
        fails(gates(49) + "G49=0", 1, 289);
        fails(gates(49) + "G", 1, 285);
        fails(channels(31) + "Y1=2", 1, 500);
        fails(fullText().substring(0, 499), 1, 499);
        HarbourText x = harbour("C1=0,1,1,1;", 1);
        failInto(x, "G2=3", 1, 4);
        readInto(x, "C1=0,1,1,1;", 1);
        failInto(x, "C2=0", 1, 4);
    }

    private static void nameAgain() {
        for (String row : ROWS) {
            fails(row + row, 2, row.length() + 1);
            fails(row + row.charAt(0) + "0" + row.substring(1), 2, row.length() + 1);
            fails(row.charAt(0) + "0" + row.substring(1) + row, 2, row.length() + 2);
            right(row + row.charAt(0) + "11" + row.substring(2), 2);
            right(row + row.charAt(0) + "10" + row.substring(2), 2);
        }
        right(String.join("", ROWS), 6);
        fails("G0=0;G0=1;", 2, 6);
        fails("G00=0;G0=0;", 2, 7);
        fails("G99=0;G99=0;", 2, 7);
        right("G0=0;G99=0;C0=0,1,1,1;C99=0,1,1,1;", 4);
        fails(gates(49) + "G0=0;", 2, 285);
        fails(gates(49) + "G48=0;", 2, 285);
        HarbourText x = harbour("G1=0;", 1);
        readInto(x, "G1=0;", 1);
        failInto(x, "G2=0;x", 1, 5);
        readInto(x, "G2=0;", 1);
    }

    /** The first number beyond each range, whatever the kind; the edges inside are in the tests of the kinds. */
    private static void outsideOfRange() {
        fails("C1=16,1,1,1;", 3, 3);
        fails("C1=0,16,1,1;", 3, 5);
        fails("C1=0,1,1,0;", 3, 9);
        fails("C1=0,1,1,31;", 3, 9);
        fails("L1=16,1,1,1;", 3, 3);
        fails("L1=0,5,1,1;", 3, 5);
        fails("L1=0,1,0,1;", 3, 7);
        fails("L1=0,1,1,0;", 3, 9);
        fails("L1=0,1,1,31;", 3, 9);
        fails("B1=16,1,1,1;", 3, 3);
        fails("B1=0,0,1,1;", 3, 5);
        fails("B1=0,1,0,1;", 3, 7);
        fails("B1=0,1,31,1;", 3, 7);
        fails("B1=0,1,1,10;", 3, 9);
        fails("Y1=16,1;", 3, 3);
        fails("Y1=0,51;", 3, 5);
        fails("R1=16,1;", 3, 3);
        fails("R1=0,16;", 3, 5);
        fails("G1=16;", 3, 3);
        fails("B1=0,00,1,1;", 3, 5);
        fails("C11=00,01,01,00;", 3, 13);
        fails("G1=0;G2=0;G33=16;", 3, 14);
    }

    private static void samePoint() {
        for (int point = 0; point <= 15; point++) {
            String first = "1=" + point + ",";
            fails("C" + first + point + ",1,1;", 3, first.length() + 1);
            fails("R" + first + point + ";", 3, first.length() + 1);
            int next = (point + 1) % 16;
            right("C" + first + next + ",1,1;R" + first + next + ";", 2);
        }
        fails("C1=5,05,1,1;", 3, 5);
        fails("C1=05,5,1,1;", 3, 6);
        fails("R1=0,00;", 3, 5);
        fails("R1=00,0;", 3, 6);
        right("C1=1,11,1,1;R1=1,11;", 2);
        right("C1=1,10,1,1;R1=10,1;", 2);
        right("C1=2,3,3,3;C2=3,2,2,2;R1=2,3;R2=3,2;", 4);
        right("L1=1,1,1,1;B1=1,1,1,1;Y1=1,1;", 3);
    }

    private static void noChamber() {
        fails("L1=0,0,1,1;", 4, 5);
        fails("L1=0,00,1,1;", 4, 5);
        fails("L99=15,0,99,30;", 4, 7);
        fails("L01=05,00,01,01;", 4, 7);
        fails("C1=0,1,1,1;L1=0,0,1,1;", 4, 16);
        right("L1=0,1,1,1;", 1);
        right("L1=0,01,1,1;", 1);
        right("C1=1,0,0,1;R1=1,0;Y1=0,0;B1=0,1,1,0;", 4);
    }

    private static void row51() {
        right(gates(50), 50);
        for (String row : ROWS) {
            fails(gates(50) + row, 5, 290);
            fails(gates(50) + row.charAt(0), 5, 290);
            right(gates(49) + row.charAt(0) + "99" + row.substring(2), 50);
        }
        fails(gates(50) + "G50=0;G51=0;", 5, 290);
        fails(gates(51), 5, 290);
        fails(gates(60), 5, 290);
        HarbourText x = new HarbourText();
        failInto(x, gates(51), 5, 290);
        readInto(x, gates(20), 20);
    }

    private static void whateverComesBehind() {
        String[] endings = {"", ";", "=", ",", "!", "x", "C", "=0;", ",1;", ";x"};
        for (String behind : endings) {
            fails("G1=0;G1" + behind, 2, 6);
            fails("G12=0;G12" + behind, 2, 7);
            fails("L1=0,5" + behind, 3, 5);
            fails("G1=16" + behind, 3, 3);
            fails("C1=5,5" + behind, 3, 5);
            fails("R1=15,15" + behind, 3, 6);
            fails("L1=0,0" + behind, 4, 5);
            fails("L1=0,00" + behind, 4, 5);
        }
        for (char digit = '0'; digit <= '9'; digit++) {
            fails("G12=0;G12" + digit, 2, 7);
            fails("G1=0;G01" + digit + "=0;", 2, 6);
            fails("G1=16" + digit + ";", 3, 3);
            fails("B1=0,00" + digit + ",1,1;", 3, 5);
            fails("C1=5,05" + digit + ",1,1;", 3, 5);
            fails("L1=0,00" + digit + ",1,1;", 4, 5);
        }
        fails("G1=0;G12", 1, 8);
        fails("L1=0,01", 1, 7);
        fails("C1=1,15", 1, 7);
        fails("C1=1,150", 1, 7);
    }

    private static void latestRead() {
        HarbourText x = new HarbourText();
        failInto(x, "G1", 1, 2);
        write(x, "G1=16;");
        due("failure(0) before the next read", x.failure(0), 1);
        due("failure(1) before the next read", x.failure(1), 2);
        dueThrow("read", IllegalStateException.class, x::read);
        due("failure(0) of the next read", x.failure(0), 3);
        due("failure(1) of the next read", x.failure(1), 3);
        readInto(x, "", 0);
        due("failure(0) of no row", x.failure(0), 0);
        due("failure(1) of no row", x.failure(1), NONE);
        failInto(x, "x", 1, 0);
        dueThrow("at(0)", IndexOutOfBoundsException.class, () -> x.at(0));
        x.keep();
        due("failure(0) behind other calls", x.failure(0), 1);
        due("failure(1) behind other calls", x.failure(1), 0);
    }

    private static void numberOfFailure() {
        HarbourText x = new HarbourText();
        due("failure(0) before a read", x.failure(0), 0);
        String[] texts = {"x", "G1=0;G1=0;", "G1=16;", "L1=0,0,1,1;"};
        for (int number = 1; number <= 4; number++) {
            write(x, texts[number - 1]);
            dueThrow("read", IllegalStateException.class, x::read);
            due("failure(0)", x.failure(0), number);
            readInto(x, "G1=0;", 1);
            due("failure(0) of a right text", x.failure(0), 0);
        }
        write(x, gates(51));
        dueThrow("read", IllegalStateException.class, x::read);
        due("failure(0)", x.failure(0), 5);
    }

    private static void placeOfFailure() {
        HarbourText x = new HarbourText();
        due("failure(1) before a read", x.failure(1), NONE);
        failInto(x, "x", 1, 0);
        readInto(x, "G1=0;", 1);
        due("failure(1) of a right text", x.failure(1), NONE);
        fails(fullText().substring(0, 499) + ":", 1, 499);
        fails(channels(31) + "Y1=2", 1, 500);
    }

    private static void anotherWhich() {
        HarbourText x = new HarbourText();
        dueNoSuchFailure(x);
        failInto(x, "G1=16;", 3, 3);
        dueNoSuchFailure(x);
        readInto(x, "G1=15;", 1);
        dueNoSuchFailure(x);
    }

    private static void dueNoSuchFailure(HarbourText x) {
        for (int which : new int[] {-1, 2, 3, 10, -2, 256, 65536, Integer.MIN_VALUE, Integer.MAX_VALUE}) {
            due("failure(" + which + ")", x.failure(which), NONE);
        }
    }
}
