/** Promises 5 to 8 and the terms they use: the pieces as read, what can be reached and how deep. */
final class PieceSentences extends Checks {
    private static final int[] NO_POINTS = {-1, 16, 17, 99, -15, 256, 65536, Integer.MIN_VALUE, Integer.MAX_VALUE};

    private PieceSentences() {
    }

    static void all() {
        sentence(5, "Of piece i, as read: what 0: kind, 1: name, 2 to 5: its numbers.", PieceSentences::asRead);
        sentence(5, "IndexOutOfBoundsException if there is none such,", PieceSentences::noSuchPiece);
        sentence(5, "or it has no such number.", PieceSentences::noSuchNumber);

        sentence(6, "Which piece has a kind and name;", PieceSentences::whichPiece);
        sentence(6, "NONE.", PieceSentences::noneFound);

        sentence(7, "REACH: by channels (both ways) or by roads (their way):", PieceSentences::theirWays);
        sentence(7, "from a point to another one, by pieces one behind the other;", PieceSentences::oneBehindTheOther);
        sentence(7, "a point reaches itself.", PieceSentences::reachesItself);
        sentence(7, "REACH by channels (0) or roads (1): 1 or 0.", PieceSentences::channelsOrRoads);
        sentence(7, "IllegalArgumentException if there is no such way,", PieceSentences::noSuchWay);
        sentence(7, "or no such points.", PieceSentences::noSuchPointsToReach);

        sentence(8, "HOW DEEP: the greatest least DEPTH of channels along some way.", PieceSentences::greatestLeast);
        sentence(8, "HOW DEEP from a point to another one;", PieceSentences::deepToAnother);
        sentence(8, "0 if it is not reached,", PieceSentences::notReached);
        sentence(8, "99 to itself.", PieceSentences::deepToItself);
        sentence(8, "IllegalArgumentException if there are no such points.", PieceSentences::noSuchPointsForDepth);

        sentence(5, "Of several exceptions the one told first is thrown.", PieceSentences::severalExceptions);
        sentence(5, "what else throws changes nothing.", PieceSentences::changesNothing);
    }

    private static void asRead() {
        HarbourText x = harbour("G99=15;R04=05,6;Y3=7,50;B2=1,30,6,9;L01=9,4,98,29;C0=14,13,00,12;", 6);
        duePiece(x, 0, 5, 99, 15);
        duePiece(x, 1, 4, 4, 5, 6);
        duePiece(x, 2, 3, 3, 7, 50);
        duePiece(x, 3, 2, 2, 1, 30, 6, 9);
        duePiece(x, 4, 1, 1, 9, 4, 98, 29);
        duePiece(x, 5, 0, 0, 14, 13, 0, 12);
        HarbourText fifty = harbour(gates(49) + "C99=15,14,99,30;", 50);
        due("name of the first", fifty.piece(0, 1), 0);
        due("name of the last but one", fifty.piece(48, 1), 48);
        duePiece(fifty, 49, 0, 99, 15, 14, 99, 30);
    }

    private static void dueNoPiece(HarbourText x, int i) {
        for (int what = 0; what <= 5; what++) {
            int asked = what;
            dueThrow("piece(" + i + ", " + what + ")", IndexOutOfBoundsException.class, () -> x.piece(i, asked));
        }
    }

    private static void noSuchPiece() {
        int[] none = {-1, 2, 49, 50, 51, 256, 65536, Integer.MIN_VALUE, Integer.MAX_VALUE};
        HarbourText x = harbour("C1=0,1,2,3;G1=0;", 2);
        for (int i : none) {
            dueNoPiece(x, i);
        }
        HarbourText empty = new HarbourText();
        dueNoPiece(empty, 0);
        dueNoPiece(empty, -1);
        HarbourText fewer = harbour("C1=0,1,2,3;G1=0;", 2);
        readInto(fewer, "G1=0;", 1);
        dueNoPiece(fewer, 1);
        HarbourText failed = harbour("G1=0;", 1);
        failInto(failed, "G1=0;G2=0;x", 1, 10);
        dueNoPiece(failed, 1);
        HarbourText fifty = harbour(gates(50), 50);
        due("the fiftieth", fifty.piece(49, 1), 49);
        dueNoPiece(fifty, 50);
    }

    private static void noSuchNumber() {
        int[] lasts = {5, 5, 5, 3, 3, 2};
        HarbourText x = harbour("C1=0,1,2,3;L1=0,1,2,3;B1=0,1,2,3;Y1=0,1;R1=0,1;G1=0;", 6);
        for (int piece = 0; piece < 6; piece++) {
            int i = piece;
            due("piece(" + i + ", " + lasts[i] + ") of many", x.piece(i, lasts[i]), lasts[i] - 2);
            for (int what : new int[] {-1, lasts[i] + 1, 6, 7, 8, 256, Integer.MIN_VALUE, Integer.MAX_VALUE}) {
                dueThrow("piece(" + i + ", " + what + ")", IndexOutOfBoundsException.class, () -> x.piece(i, what));
            }
        }
        HarbourText other = harbour("C1=0,1,2,3;", 1);
        readInto(other, "G1=5;", 1);
        duePiece(other, 0, 5, 1, 5);
    }

    private static void whichPiece() {
        HarbourText x = harbour("G99=15;C5=0,1,2,3;L5=1,1,1,1;G0=2;C0=1,2,3,4;", 5);
        due("find(5, 99)", x.find(5, 99), 0);
        due("find(0, 5)", x.find(0, 5), 1);
        due("find(1, 5)", x.find(1, 5), 2);
        due("find(5, 0)", x.find(5, 0), 3);
        due("find(0, 0)", x.find(0, 0), 4);
        HarbourText fifty = harbour(gates(50), 50);
        for (int name = 0; name < 50; name++) {
            due("find(5, " + name + ")", fifty.find(5, name), name);
        }
        HarbourText zeros = harbour("Y07=0,0;", 1);
        due("a name read with a 0 ahead", zeros.find(3, 7), 0);
    }

    private static void noneFound() {
        HarbourText x = harbour("G99=15;C5=0,1,2,3;L5=1,1,1,1;G0=2;C0=1,2,3,4;", 5);
        int[][] none = {{2, 5}, {0, 99}, {1, 0}, {0, 105}, {0, 100}, {6, 0}, {6, 5}, {6, -1}, {-1, 0}, {-1, 5},
            {-1, 100}, {5, 199}, {4, 199}, {4, 100}, {1, -95}, {0, -1}, {256, 5}, {0, 261}, {0, 65541},
            {Integer.MAX_VALUE, 5}, {Integer.MIN_VALUE, 5}, {5, Integer.MIN_VALUE}, {5, Integer.MAX_VALUE}};
        for (int[] pair : none) {
            due("find(" + pair[0] + ", " + pair[1] + ")", x.find(pair[0], pair[1]), NONE);
        }
        HarbourText other = harbour("G1=0;G2=0;", 2);
        readInto(other, "G1=0;", 1);
        due("find(5, 2) of a piece that is gone", other.find(5, 2), NONE);
        failInto(other, "G3=0;x", 1, 5);
        due("find(5, 3) of a row that failed", other.find(5, 3), NONE);
        HarbourText empty = new HarbourText();
        due("find(0, 0) without pieces", empty.find(0, 0), NONE);
    }

    private static void theirWays() {
        HarbourText x = harbour("C1=0,15,0,1;R1=0,14;", 2);
        due("a channel", x.reach(0, 0, 15), 1);
        due("a channel back", x.reach(0, 15, 0), 1);
        due("a road", x.reach(1, 0, 14), 1);
        due("a road back", x.reach(1, 14, 0), 0);
        due("two roads there and back", harbour("R1=1,2;R2=2,1;", 2).reach(1, 2, 1), 1);
    }

    private static void oneBehindTheOther() {
        due("the longest way", longestWay().reach(0, 0, 15), 1);
        due("the longest way back", longestWay().reach(0, 15, 0), 1);
        due("the longest road", longestWay().reach(1, 15, 0), 1);
        due("the longest road back", longestWay().reach(1, 0, 15), 0);
        HarbourText x = harbour("C1=2,3,0,5;C2=1,2,1,9;R1=5,6;R2=4,5;R3=8,4;R4=6,8;R5=9,4;C3=3,10,1,1;", 8);
        due("channels against the order of rows", x.reach(0, 1, 10), 1);
        due("roads against the order of rows", x.reach(1, 8, 6), 1);
        due("round a circle", x.reach(1, 6, 5), 1);
        due("into a circle", x.reach(1, 9, 6), 1);
        due("out of a circle", x.reach(1, 6, 9), 0);
        due("two roads to one point", harbour("R1=1,2;R2=3,2;", 2).reach(1, 1, 3), 0);
        due("two roads from one point", harbour("R1=2,1;R2=2,3;", 2).reach(1, 1, 3), 0);
        HarbourText mixed = harbour("C1=0,1,1,1;R1=1,2;C2=2,3,1,1;", 3);
        due("channel, road, channel by channels", mixed.reach(0, 0, 3), 0);
        due("channel, road by roads", mixed.reach(1, 0, 2), 0);
    }

    private static void reachesItself() {
        HarbourText empty = new HarbourText();
        HarbourText x = harbour("C1=0,1,1,1;R1=2,3;", 2);
        for (int point = 0; point <= 15; point++) {
            for (int way = 0; way <= 1; way++) {
                due("reach(" + way + ") of " + point + " without pieces", empty.reach(way, point, point), 1);
                due("reach(" + way + ") of " + point, x.reach(way, point, point), 1);
            }
        }
    }

    private static void channelsOrRoads() {
        HarbourText x = harbour("C1=0,1,1,1;R1=2,3;L1=4,1,1,1;B1=4,5,1,1;Y1=4,5;", 5);
        due("by channels", x.reach(0, 0, 1), 1);
        due("by roads where a channel is", x.reach(1, 0, 1), 0);
        due("by roads", x.reach(1, 2, 3), 1);
        due("by channels where a road is", x.reach(0, 2, 3), 0);
        due("a lock is no way", x.reach(0, 4, 1), 0);
        due("a berth is no way", x.reach(0, 4, 5), 0);
        due("a yard is no way", x.reach(1, 4, 5), 0);
        due("the deepest channel counts no more", harbour("C1=0,1,1,30;", 1).reach(0, 0, 1), 1);
        HarbourText gone = harbour("C1=0,1,1,1;R1=2,3;", 2);
        readInto(gone, "G1=0;", 1);
        due("a channel that is gone", gone.reach(0, 0, 1), 0);
        due("a road that is gone", gone.reach(1, 2, 3), 0);
    }

    private static void dueNoReach(HarbourText x, int way, int from, int to) {
        dueThrow("reach(" + way + ", " + from + ", " + to + ")", IllegalArgumentException.class,
                () -> x.reach(way, from, to));
    }

    private static void noSuchWay() {
        HarbourText x = harbour("C1=0,1,1,1;R1=0,1;", 2);
        for (int way : new int[] {-1, 2, 3, 4, 10, 256, 65536, Integer.MIN_VALUE, Integer.MAX_VALUE}) {
            dueNoReach(x, way, 0, 1);
            dueNoReach(x, way, 0, 0);
            dueNoReach(new HarbourText(), way, 15, 0);
        }
    }

    private static void noSuchPointsToReach() {
        HarbourText x = harbour("C1=0,15,1,1;R1=0,15;", 2);
        for (int point : NO_POINTS) {
            for (int way = 0; way <= 1; way++) {
                dueNoReach(x, way, point, 0);
                dueNoReach(x, way, 0, point);
                dueNoReach(x, way, point, point);
            }
        }
        due("reach(0, 15, 0)", x.reach(0, 15, 0), 1);
        due("reach(1, 0, 15)", x.reach(1, 0, 15), 1);
    }

    private static void greatestLeast() {
        HarbourText x = harbour("C1=0,1,1,9;C2=1,2,1,5;C3=0,3,1,8;C4=3,2,1,7;C5=0,2,1,6;C6=4,5,1,2;C7=4,5,0,30;", 7);
        due("by the deepest of three ways", x.deep(0, 2), 7);
        due("the same back", x.deep(2, 0), 7);
        due("round about, deeper than straight", x.deep(1, 2), 7);
        due("two channels side by side", x.deep(4, 5), 30);
        due("the least at the beginning", harbour("C1=0,1,1,2;C2=1,2,1,9;", 2).deep(0, 2), 2);
        due("the least at the end", harbour("C1=0,1,1,9;C2=1,2,1,2;", 2).deep(0, 2), 2);
        due("the least in the middle", harbour("C1=0,1,1,9;C2=1,2,1,2;C3=2,3,1,9;", 3).deep(0, 3), 2);
        due("the longest way", longestWay().deep(0, 15), 16);
        due("the longest way back", longestWay().deep(15, 0), 16);
        due("a channel of no LENGTH", harbour("C1=0,1,0,4;", 1).deep(1, 0), 4);
        due("roads have no DEPTH", harbour("C1=0,1,1,3;R1=0,1;", 2).deep(0, 1), 3);
        HarbourText late = harbour("C1=0,1,1,5;C2=1,2,1,20;C3=0,3,1,30;C4=3,1,1,30;", 4);
        due("a deeper way found later", late.deep(0, 2), 20);
    }

    private static void deepToAnother() {
        due("the least DEPTH", harbour("C1=0,1,1,1;", 1).deep(0, 1), 1);
        due("the greatest DEPTH", harbour("C1=14,15,1,30;", 1).deep(15, 14), 30);
        HarbourText x = harbour("C1=0,1,1,1;C2=14,15,1,30;", 2);
        due("deep(0, 1)", x.deep(0, 1), 1);
        due("deep(1, 0)", x.deep(1, 0), 1);
        due("deep(14, 15)", x.deep(14, 15), 30);
        due("deep(15, 14)", x.deep(15, 14), 30);
    }

    private static void notReached() {
        HarbourText empty = new HarbourText();
        due("deep(0, 15) without pieces", empty.deep(0, 15), 0);
        HarbourText x = harbour("C1=0,1,1,30;C2=2,3,1,30;R1=1,2;", 3);
        due("deep(0, 3)", x.deep(0, 3), 0);
        due("deep(1, 2), where a road is", x.deep(1, 2), 0);
        due("deep(15, 0)", x.deep(15, 0), 0);
        readInto(x, "", 0);
        due("deep(0, 1) of a channel that is gone", x.deep(0, 1), 0);
    }

    private static void deepToItself() {
        HarbourText empty = new HarbourText();
        HarbourText x = harbour("C1=0,1,1,1;C2=1,2,1,30;", 2);
        for (int point = 0; point <= 15; point++) {
            due("deep of " + point + " without pieces", empty.deep(point, point), 99);
            due("deep of " + point, x.deep(point, point), 99);
        }
    }

    private static void noSuchPointsForDepth() {
        HarbourText x = harbour("C1=0,15,1,7;", 1);
        for (int point : NO_POINTS) {
            for (int other : new int[] {0, 15, point}) {
                dueThrow("deep(" + point + ", " + other + ")", IllegalArgumentException.class,
                        () -> x.deep(point, other));
                dueThrow("deep(" + other + ", " + point + ")", IllegalArgumentException.class,
                        () -> x.deep(other, point));
            }
        }
        due("deep(0, 15)", x.deep(0, 15), 7);
        due("deep(15, 0)", x.deep(15, 0), 7);
    }

    /** Each call names one exception alone, which comes for one cause as for several at once. */
    private static void severalExceptions() {
        HarbourText x = harbour("G1=0;", 1);
        dueThrow("piece(1, 3)", IndexOutOfBoundsException.class, () -> x.piece(1, 3));
        dueThrow("piece(-1, -1)", IndexOutOfBoundsException.class, () -> x.piece(-1, -1));
        dueNoReach(x, 2, 16, 16);
        dueNoReach(x, -1, -1, 0);
        dueThrow("deep(16, -1)", IllegalArgumentException.class, () -> x.deep(16, -1));
        fails("G1=0;G1=16;x", 2, 6);
    }

    private static String stateOf(HarbourText x) {
        return x.count(0) + " signs, " + printed(x) + ", piece 0 is " + x.piece(0, 0) + " " + x.piece(0, 1) + ", bad "
                + badOf(x) + ", kept " + x.count(2) + ", differences " + x.compare() + ", failure " + x.failure(0)
                + " at " + x.failure(1) + ", deep " + x.deep(0, 1) + ", reach " + x.reach(1, 2, 3);
    }

    private static void changesNothing() {
        HarbourText x = harbour("G1=0;Y1=1,2;", 2);
        x.keep();
        readInto(x, "G1=0;C1=0,1,0,5;R1=2,3;", 3);
        failInto(x, "G2=0;G2", 2, 6);
        write(x, "G3=");
        String before = "3 signs, C1=0,1,0,5;R1=2,3;G1=0;, piece 0 is 5 1, bad 1 12, kept 2, differences 3,"
                + " failure 2 at 6, deep 5, reach 1";
        due("the state before", stateOf(x), before);
        dueThrow("piece(3, 0)", IndexOutOfBoundsException.class, () -> x.piece(3, 0));
        dueThrow("piece(0, 3)", IndexOutOfBoundsException.class, () -> x.piece(0, 3));
        due("the state behind piece", stateOf(x), before);
        dueNoReach(x, 2, 0, 1);
        dueNoReach(x, 1, 2, 16);
        due("the state behind reach", stateOf(x), before);
        dueThrow("deep(0, 16)", IllegalArgumentException.class, () -> x.deep(0, 16));
        due("the state behind deep", stateOf(x), before);
        dueThrow("at(99)", IndexOutOfBoundsException.class, () -> x.at(99));
        due("the state behind at", stateOf(x), before);
        write(x, "4;");
        due("read() of the text that was begun", x.read(), 1);
        duePiece(x, 0, 5, 3, 4);
    }
}
