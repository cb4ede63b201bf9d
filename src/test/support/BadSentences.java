/** Promises 9 and 10 and what is BAD by the terms. */
final class BadSentences extends Checks {
    private BadSentences() {
    }

    static void all() {
        sentence(9, "BAD are, in this order:", BadSentences::inThisOrder);
        sentence(9, "the points of locks and berths, row by row as read, to which no channel leads;",
                BadSentences::noChannel);
        sentence(9, "the points of yards and gates to which no road leads and from which none goes;",
                BadSentences::noRoad);
        sentence(9, "channels of no LENGTH;", BadSentences::noLength);
        sentence(9, "berths whose DEPTH is greater than how deep a ship may come there from point 0",
                BadSentences::tooDeep);
        sentence(9, "(0 if not at all; any depth at point 0 itself).", BadSentences::notAtAllOrPoint0);
        sentence(9, "Each row is told once for each reason.", BadSentences::onceForEachReason);
        sentence(9, "How many are BAD.", BadSentences::howMany);

        sentence(10, "The i-th BAD (0 the first): 10 * the piece and which: 0 a point of a lock or berth, "
                + "1 of a yard or gate, 2 no length, 3 too deep;", BadSentences::ith);
        sentence(10, "NONE without.", BadSentences::without);
    }

    /** Each two reasons with their rows in the other order. */
    private static void inThisOrder() {
        dueBad("Y1=1,0;L1=1,1,1,1;", 2, "10 1");
        dueBad("C1=2,3,0,1;L1=1,1,1,1;", 2, "10 2");
        dueBad("C1=0,2,1,1;B1=2,1,9,0;L1=1,1,1,1;", 3, "20 13");
        dueBad("C1=2,3,0,1;G1=1;", 2, "11 2");
        dueBad("C1=0,2,1,1;B1=2,1,9,0;G1=1;", 3, "21 13");
        dueBad("C1=0,2,1,1;B1=2,1,9,0;C2=2,3,0,1;", 3, "22 13");
        dueBad("B1=9,1,5,0;G1=1;L1=8,1,1,1;C1=0,1,0,5;Y1=1,0;B2=1,1,9,0;L2=1,1,1,1;C2=3,4,0,1;", 8,
                "0 20 11 41 32 72 3 53");
    }

    private static void noChannel() {
        dueBad("L1=1,1,1,1;", 1, "0");
        dueBad("L1=0,1,1,1;", 1, "0");
        dueBad("B1=0,1,1,0;", 1, "0");
        dueBad("L1=15,1,1,1;", 1, "0");
        dueBad("L1=1,1,1,1;C1=1,2,1,1;", 2, "");
        dueBad("L1=2,1,1,1;C1=1,2,1,1;", 2, "");
        dueBad("C1=1,2,1,1;L1=1,1,1,1;L2=2,1,1,1;", 3, "");
        dueBad("L1=1,1,1,1;C1=2,3,1,1;", 2, "0");
        dueBad("L1=1,1,1,1;C1=2,3,1,1;C2=3,4,1,1;", 3, "0");
        dueBad("L1=1,1,1,1;R1=1,2;", 2, "0");
        dueBad("L1=1,1,1,1;C1=1,2,0,1;", 2, "12");
        dueBad("L1=1,1,1,30;C1=1,2,1,1;", 2, "");
        dueBad("B1=0,1,1,0;L3=1,1,1,1;B0=0,1,1,0;L0=2,1,1,1;", 4, "0 10 20 30");
        dueBad("L1=1,1,1,1;B1=0,1,1,0;C1=1,2,1,1;L2=3,1,1,1;", 4, "10 30");
        // A LENGTH or CHAMBERS of a lock, or a berth's LENGTH, is no second point of it.
        dueBad("L1=3,1,1,1;B1=0,1,1,0;C1=1,2,1,1;", 3, "0 10");
        dueBad("C1=3,4,5,6;L1=5,1,1,1;L2=6,1,1,1;", 3, "10 20");
    }

    private static void noRoad() {
        dueBad("Y1=1,0;", 1, "1");
        dueBad("G1=0;", 1, "1");
        dueBad("G1=15;", 1, "1");
        dueBad("Y1=1,0;G1=1;R1=2,1;", 3, "");
        dueBad("Y1=1,0;G1=1;R1=1,2;", 3, "");
        dueBad("R1=1,2;G1=1;G2=2;Y1=1,0;Y2=2,0;", 5, "");
        dueBad("G1=1;R1=2,3;", 2, "1");
        dueBad("G1=1;C1=1,2,1,1;", 2, "1");
        dueBad("Y1=1,0;C1=1,2,1,1;", 2, "1");
        dueBad("G3=1;Y1=2,0;G0=1;Y0=2,50;", 4, "1 11 21 31");
        dueBad("Y1=3,1;R1=1,2;", 2, "1");
        dueBad("L1=1,1,1,1;B1=0,1,1,0;R1=1,0;", 3, "0 10");
    }

    private static void noLength() {
        dueBad("C1=0,1,0,1;", 1, "2");
        dueBad("C1=0,1,00,30;", 1, "2");
        dueBad("C1=0,1,1,1;", 1, "");
        dueBad("C1=0,1,01,1;", 1, "");
        dueBad("C1=0,1,99,1;", 1, "");
        dueBad("C9=0,1,0,1;C5=0,1,1,1;C7=0,1,0,1;", 3, "2 22");
        dueBad("R1=1,0;R2=0,1;", 2, "");
    }

    private static void tooDeep() {
        dueBad("B1=1,1,5,0;C1=0,1,1,5;", 2, "");
        dueBad("B1=1,1,6,0;C1=0,1,1,5;", 2, "3");
        dueBad("B1=1,1,4,0;C1=0,1,1,5;", 2, "");
        dueBad("B1=1,1,30,0;C1=1,0,1,30;", 2, "");
        dueBad("B1=1,1,30,0;C1=1,0,1,29;", 2, "3");
        dueBad("B1=1,1,1,0;C1=1,0,1,1;", 2, "");
        dueBad("B1=2,1,5,0;C1=0,1,1,5;C2=1,2,1,9;", 3, "");
        dueBad("B1=2,1,6,0;C1=0,1,1,5;C2=1,2,1,9;", 3, "3");
        dueBad("B1=2,1,6,0;C1=0,1,1,5;C2=1,2,1,9;C3=2,0,1,6;", 4, "");
        dueBad("B1=2,1,7,0;C1=0,1,1,5;C2=1,2,1,9;C3=2,0,1,6;", 4, "3");
        dueBad("C1=0,1,1,5;B9=1,1,6,0;B5=1,1,5,0;B7=1,1,7,0;", 4, "13 33");
        // The LENGTH and the GEAR of a berth, and the WIDTH of a lock, have nothing to do with it.
        dueBad("B1=1,99,5,9;L1=1,4,99,30;C1=0,1,1,5;", 3, "");
    }

    private static void notAtAllOrPoint0() {
        dueBad("B1=1,1,1,0;", 1, "0 3");
        dueBad("B1=1,1,1,0;C1=1,2,1,30;", 2, "3");
        dueBad("B1=15,1,30,0;C1=15,14,1,30;C2=0,1,1,30;", 3, "3");
        dueBad("B1=1,1,1,0;R1=0,1;C1=1,2,1,1;", 3, "3");
        dueBad("B1=0,1,30,0;C1=0,1,1,1;", 2, "");
        dueBad("B1=0,1,1,0;C1=1,0,1,1;", 2, "");
        dueBad("B1=0,1,30,0;", 1, "0");
    }

    private static void onceForEachReason() {
        dueBad("B1=1,1,1,0;B2=1,1,1,0;", 2, "0 10 3 13");
        dueBad("C1=0,1,1,1;C2=0,1,1,1;B1=1,1,2,0;", 3, "23");
        dueBad("C1=0,1,0,1;C2=0,1,0,1;", 2, "2 12");
        dueBad("G1=1;G2=1;Y1=1,0;", 3, "1 11 21");
        HarbourText x = harbour("B1=1,1,1,0;G1=1;", 2);
        x.bad();
        x.bad();
        x.unjoined(0);
        due("asked again", badOf(x), "0 11 3");
    }

    /** 500 signs, and no text has more that are BAD: 40 berths for two reasons each, 6 gates for one. */
    private static String mostBad() {
        StringBuilder text = new StringBuilder();
        for (int i = 0; i < 40; i++) {
            text.append('B').append(i).append("=1,1,1,1;");
        }
        return text.append(gates(6)).toString();
    }

    private static void howMany() {
        HarbourText empty = new HarbourText();
        due("bad() without pieces", empty.bad(), 0);
        due("bad() of one that is well", harbour("C1=0,1,1,1;R1=0,1;", 2).bad(), 0);
        due("bad() of one for two reasons", harbour("B1=1,1,1,1;", 1).bad(), 2);
        due("bad() of fifty gates", harbour(gates(50), 50).bad(), 50);
        HarbourText most = harbour(mostBad(), 46);
        due("the most that are BAD", most.bad(), 86);
        HarbourText x = harbour("B1=1,1,1,1;", 1);
        failInto(x, "C1=0,1,0,1;x", 1, 11);
        due("bad() behind a failure", x.bad(), 2);
        readInto(x, "C1=0,1,0,1;", 1);
        due("bad() behind a read", x.bad(), 1);
        readInto(x, "", 0);
        due("bad() behind no row", x.bad(), 0);
    }

    private static void ith() {
        HarbourText x = harbour("G1=0;C1=0,1,0,5;B1=2,1,1,1;L1=2,1,1,1;Y1=0,0;", 5);
        int[] want = {20, 30, 1, 41, 12, 23};
        for (int i = 0; i < want.length; i++) {
            due("unjoined(" + i + ")", x.unjoined(i), want[i]);
        }
        HarbourText fifty = harbour(gates(50), 50);
        for (int i = 0; i < 50; i++) {
            due("unjoined(" + i + ")", fifty.unjoined(i), 10 * i + 1);
        }
        HarbourText most = harbour(mostBad(), 46);
        due("the first berth without a channel", most.unjoined(0), 0);
        due("the last one", most.unjoined(39), 390);
        due("the first gate without a road", most.unjoined(40), 401);
        due("the last one", most.unjoined(45), 451);
        due("the first berth too deep", most.unjoined(46), 3);
        due("the last of all", most.unjoined(85), 393);
    }

    private static void without() {
        HarbourText empty = new HarbourText();
        due("unjoined(0) without pieces", empty.unjoined(0), NONE);
        HarbourText x = harbour("B1=1,1,1,1;G1=0;", 2);
        due("the last", x.unjoined(2), 3);
        for (int i : new int[] {3, 4, 50, 99, 100, 256, 65536, -1, -2, Integer.MIN_VALUE, Integer.MAX_VALUE}) {
            due("unjoined(" + i + ")", x.unjoined(i), NONE);
        }
        readInto(x, "G1=0;", 1);
        due("unjoined(1) when there are fewer", x.unjoined(1), NONE);
        HarbourText most = harbour(mostBad(), 46);
        due("unjoined(86) of the most", most.unjoined(86), NONE);
        due("unjoined(100) of the most", most.unjoined(100), NONE);
    }
}
