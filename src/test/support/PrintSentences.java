/** Promises 11 to 15 and the terms they use: what is printed, kept, compared and counted. */
final class PrintSentences extends Checks {
    /** A piece of each kind. */
    private static final String ONE_OF_EACH = "C1=0,1,2,3;L1=0,1,2,3;B1=0,1,2,3;Y1=0,1;R1=0,1;G1=0;";

    private PrintSentences() {
    }

    static void all() {
        sentence(11, "PRINTED are all pieces by kinds (0 to 5), then names;", PrintSentences::kindsThenNames);
        sentence(11, "numbers without a 0 ahead;", PrintSentences::withoutZeroAhead);
        sentence(11, "so that reading it gives the same pieces.", PrintSentences::samePieces);
        sentence(11, "PRINTED: how many signs.", PrintSentences::howManySigns);
        sentence(12, "Sign i of it.", PrintSentences::signOfIt);
        sentence(12, "IndexOutOfBoundsException if there is none such.", PrintSentences::noSuchSign);

        sentence(13, "KEPT is a harbour as it is, for being COMPARED:", PrintSentences::asItIs);
        sentence(13, "It is KEPT: how many pieces.", PrintSentences::howManyKept);
        sentence(14, "a DIFFERENCE is a kind and name that one has and the other has not,", PrintSentences::oneHas);
        sentence(14, "or that has other numbers.", PrintSentences::otherNumbers);
        sentence(14, "How many DIFFERENCES there are to the one that was KEPT.", PrintSentences::howManyDifferences);

        sentence(15, "what 0: signs of the text,", PrintSentences::signsOfTheText);
        sentence(15, "1: pieces,", PrintSentences::pieces);
        sentence(15, "2: pieces kept;", PrintSentences::piecesKept);
        sentence(15, "from 10 on pieces of kind what - 10.", PrintSentences::piecesOfKind);
        sentence(15, "NONE for another what or kind.", PrintSentences::anotherWhat);
    }

    private static void duePrinted(String text, int pieces, String want) {
        due("printed of " + text, printed(harbour(text, pieces)), want);
    }

    private static void kindsThenNames() {
        duePrinted("G1=0;R1=0,1;Y1=0,1;B1=0,1,2,3;L1=0,1,2,3;C1=0,1,2,3;", 6, ONE_OF_EACH);
        duePrinted(ONE_OF_EACH, 6, ONE_OF_EACH);
        duePrinted("G10=0;G9=0;G0=0;G99=0;G1=0;", 5, "G0=0;G1=0;G9=0;G10=0;G99=0;");
        duePrinted("L0=1,1,1,1;C99=0,1,1,1;R99=0,1;G0=1;", 4, "C99=0,1,1,1;L0=1,1,1,1;R99=0,1;G0=1;");
        duePrinted("R0=0,1;Y99=0,0;Y0=0,0;B99=0,1,1,1;", 4, "B99=0,1,1,1;Y0=0,0;Y99=0,0;R0=0,1;");
        duePrinted("Y2=0,0;Y1=15,50;", 2, "Y1=15,50;Y2=0,0;");
        StringBuilder backwards = new StringBuilder();
        StringBuilder forwards = new StringBuilder();
        for (int i = 0; i < 35; i++) {
            backwards.append('G').append(44 - i).append("=0;");
            forwards.append('G').append(10 + i).append("=0;");
        }
        duePrinted(backwards.toString(), 35, forwards.toString());
        due("the last of fifty", harbour(gates(50), 50).at(285), '4');
    }

    private static void withoutZeroAhead() {
        duePrinted("C00=00,01,00,01;", 1, "C0=0,1,0,1;");
        duePrinted("L09=09,04,09,09;", 1, "L9=9,4,9,9;");
        duePrinted("B01=00,01,01,00;", 1, "B1=0,1,1,0;");
        duePrinted("Y05=05,05;R05=05,06;G05=05;", 3, "Y5=5,5;R5=5,6;G5=5;");
        duePrinted("C10=10,11,20,30;", 1, "C10=10,11,20,30;");
        duePrinted("C99=15,14,99,30;Y90=10,50;", 2, "C99=15,14,99,30;Y90=10,50;");
    }

    private static void samePieces() {
        String text = "G10=3;G9=03;R2=4,3;Y07=1,00;B1=2,30,06,0;L99=9,1,5,5;C7=0,1,20,9;C3=1,2,0,5;";
        HarbourText x = harbour(text, 8);
        x.keep();
        String once = printed(x);
        HarbourText again = harbour(once, 8);
        due("printed again", printed(again), once);
        readInto(x, once, 8);
        due("differences to what was read before", x.compare(), 0);
        HarbourText fifty = harbour(gates(50), 50);
        due("signs of fifty gates", fifty.print(), 290);
        HarbourText full = harbour(fullText(), 32);
        due("signs of a full text", full.print(), 500);
        due("the last of them", full.at(499), ';');
    }

    private static void howManySigns() {
        HarbourText x = new HarbourText();
        due("print() without pieces", x.print(), 0);
        readInto(x, "G1=0;", 1);
        due("print() of a gate", x.print(), 5);
        due("print() again", x.print(), 5);
        write(x, "G2=0;");
        due("print() before the next read", x.print(), 5);
        failInto(x, "x", 1, 5);
        due("print() behind a failure", x.print(), 5);
        readInto(x, "C12=10,11,12,13;G2=0;", 2);
        due("print() of two", x.print(), 21);
        readInto(x, "C01=00,01,02,03;", 1);
        due("print() without the zeros ahead", x.print(), 11);
        readInto(x, "", 0);
        due("print() behind no row", x.print(), 0);
        HarbourText full = harbour(fullText(), 32);
        due("print() of a full text", full.print(), 500);
    }

    private static void signOfIt() {
        HarbourText x = harbour("G02=3;C1=0,1,10,9;", 2);
        String want = "C1=0,1,10,9;G2=3;";
        for (int i = want.length() - 1; i >= 0; i--) {
            due("at(" + i + ")", x.at(i), want.charAt(i));
        }
        x.print();
        readInto(x, "R1=2,3;", 1);
        due("at(0) of the harbour as it stands", x.at(0), 'R');
        due("at(6) of the harbour as it stands", x.at(6), ';');
        failInto(x, "G1=0;x", 1, 5);
        due("at(0) behind a failure", x.at(0), 'R');
        String text = fullText();
        HarbourText full = harbour(text, 32);
        for (int i : new int[] {0, 1, 479, 480, 498, 499}) {
            due("at(" + i + ") of a full text", full.at(i), text.charAt(i));
        }
    }

    private static void dueNoSign(HarbourText x, int i) {
        dueThrow("at(" + i + ")", IndexOutOfBoundsException.class, () -> x.at(i));
    }

    private static void noSuchSign() {
        HarbourText x = harbour("G1=0;C1=0,1,2,3;", 2);
        due("the last", x.at(15), ';');
        for (int i : new int[] {16, 17, 499, 500, 501, 256, 65536, -1, -16, Integer.MIN_VALUE, Integer.MAX_VALUE}) {
            dueNoSign(x, i);
        }
        readInto(x, "G1=0;", 1);
        due("the last of fewer", x.at(4), ';');
        dueNoSign(x, 5);
        readInto(x, "", 0);
        dueNoSign(x, 0);
        HarbourText empty = new HarbourText();
        dueNoSign(empty, 0);
        dueNoSign(empty, -1);
        HarbourText full = harbour(fullText(), 32);
        dueNoSign(full, 500);
        dueNoSign(full, -1);
    }

    private static void asItIs() {
        HarbourText x = harbour("G1=0;R1=1,2;", 2);
        x.keep();
        due("compare() with itself", x.compare(), 0);
        readInto(x, "G1=5;", 1);
        due("compare() behind a read", x.compare(), 2);
        readInto(x, "R1=1,2;G1=0;", 2);
        due("compare() with the same again", x.compare(), 0);
        failInto(x, "G1=1;x", 1, 5);
        due("compare() behind a failure", x.compare(), 0);
        write(x, "G9=9;");
        x.keep();
        due("signs are not kept", x.compare(), 0);
        due("signs stay in the text", x.count(0), 5);
        due("pieces stay", x.count(1), 2);
    }

    private static void howManyKept() {
        HarbourText x = new HarbourText();
        due("keep() without pieces", x.keep(), 0);
        readInto(x, "G1=0;R1=1,2;", 2);
        due("keep()", x.keep(), 2);
        due("keep() again", x.keep(), 2);
        readInto(x, "G1=0;", 1);
        due("keep() of fewer", x.keep(), 1);
        due("compare() behind it", x.compare(), 0);
        readInto(x, "", 0);
        due("keep() behind no row", x.keep(), 0);
        due("compare() behind it", x.compare(), 0);
        HarbourText fifty = harbour(gates(50), 50);
        due("keep() of fifty", fifty.keep(), 50);
        due("compare() of fifty", fifty.compare(), 0);
    }

    private static void oneHas() {
        dueDifference("", 0, "G1=0;", 1, 1);
        dueDifference("G1=0;", 1, "", 0, 1);
        dueDifference("G1=0;", 1, "G2=0;", 1, 2);
        dueDifference("Y1=0,1;", 1, "R1=0,1;", 1, 2);
        dueDifference("L1=0,1,1,1;", 1, "B1=0,1,1,1;", 1, 2);
        dueDifference("G0=0;", 1, "G99=0;", 1, 2);
        dueDifference("G1=0;G2=0;", 2, "G2=0;G3=0;", 2, 2);
        dueDifference(gates(50), 50, "", 0, 50);
        dueDifference("", 0, gates(50), 50, 50);
    }

    /** Each number of each kind, changed by itself. */
    private static void otherNumbers() {
        String[] rows = {"C1=5,6,7,8;", "L1=5,2,7,8;", "B1=5,6,7,8;", "Y1=5,6;", "R1=5,6;", "G1=5;"};
        for (String row : rows) {
            dueDifference(row, 1, row, 1, 0);
            for (int place = 3; place < row.length(); place += 2) {
                dueDifference(row, 1, row.substring(0, place) + "4" + row.substring(place + 1), 1, 1);
            }
        }
        dueDifference("C1=5,6,7,8;", 1, "C01=05,06,07,08;", 1, 0);
        dueDifference("C1=5,6,7,8;", 1, "C1=1,2,3,4;", 1, 1);
        dueDifference("C1=5,6,7,8;", 1, "C1=6,5,7,8;", 1, 1);
        dueDifference("R1=5,6;", 1, "R1=6,5;", 1, 1);
        dueDifference("C1=0,1,0,1;", 1, "C1=0,1,0,30;", 1, 1);
        dueDifference("Y1=0,0;", 1, "Y1=0,50;", 1, 1);
    }

    private static void howManyDifferences() {
        due("compare() of a new object", new HarbourText().compare(), 0);
        due("compare() with nothing kept", harbour(ONE_OF_EACH, 6).compare(), 6);
        dueDifference(ONE_OF_EACH, 6, "G1=0;R1=0,1;Y1=0,1;B1=0,1,2,3;L1=0,1,2,3;C1=0,1,2,3;", 6, 0);
        dueDifference("G1=0;G2=0;G3=0;", 3, "G3=1;G4=0;G1=0;G5=0;", 4, 4);
        dueDifference("G1=0;G2=0;", 2, "G1=1;G2=1;", 2, 2);
        HarbourText x = harbour("C1=0,1,9,9;L1=1,4,9,9;", 2);
        readInto(x, "G1=5;Y1=1,1;", 2);
        x.keep();
        readInto(x, "L1=1,4,9,9;C1=0,1,9,9;", 2);
        readInto(x, "G1=5;Y1=1,1;", 2);
        due("compare() where other pieces stood before", x.compare(), 0);
        due("compare() again", x.compare(), 0);
        HarbourText most = harbour(gates(25), 25);
        most.keep();
        StringBuilder others = new StringBuilder();
        for (int i = 50; i < 100; i++) {
            others.append('G').append(i).append("=0;");
        }
        readInto(most, others.toString(), 50);
        due("more differences than pieces", most.compare(), 75);
    }

    private static void signsOfTheText() {
        HarbourText x = new HarbourText();
        due("count(0)", x.count(0), 0);
        write(x, "G1=0");
        due("count(0)", x.count(0), 4);
        due("sign(32)", x.sign(32), false);
        due("count(0) behind a refused sign", x.count(0), 4);
        write(x, ";");
        due("read()", x.read(), 1);
        due("count(0) behind a read", x.count(0), 0);
        failInto(x, "x", 1, 0);
        due("count(0) behind a failure", x.count(0), 0);
        HarbourText full = new HarbourText();
        write(full, fullText());
        due("sign 501", full.sign('G'), false);
        due("count(0) when full", full.count(0), 500);
    }

    private static void pieces() {
        HarbourText x = new HarbourText();
        due("count(1)", x.count(1), 0);
        write(x, "G1=0;");
        due("count(1) before the read", x.count(1), 0);
        readInto(x, "G2=0;", 2);
        due("count(1)", x.count(1), 2);
        failInto(x, "G1=0;x", 1, 5);
        due("count(1) behind a failure", x.count(1), 2);
        readInto(x, "", 0);
        due("count(1) behind no row", x.count(1), 0);
        due("count(1) of fifty", harbour(gates(50), 50).count(1), 50);
    }

    private static void piecesKept() {
        HarbourText x = harbour("G1=0;G2=0;", 2);
        due("count(2) before keep()", x.count(2), 0);
        x.keep();
        due("count(2)", x.count(2), 2);
        readInto(x, "G1=0;", 1);
        due("count(2) behind a read", x.count(2), 2);
        failInto(x, "x", 1, 0);
        due("count(2) behind a failure", x.count(2), 2);
        x.keep();
        due("count(2) of fewer", x.count(2), 1);
        HarbourText fifty = harbour(gates(50), 50);
        fifty.keep();
        due("count(2) of fifty", fifty.count(2), 50);
    }

    private static void piecesOfKind() {
        HarbourText x = harbour("C1=0,1,1,1;L1=0,1,1,1;L2=0,1,1,1;B1=0,1,1,1;"
                + "Y1=0,0;Y2=0,0;Y3=0,0;R1=0,1;G1=0;G2=0;", 10);
        int[] want = {1, 2, 1, 3, 1, 2};
        for (int kind = 0; kind <= 5; kind++) {
            due("count(" + (10 + kind) + ")", x.count(10 + kind), want[kind]);
        }
        readInto(x, "C1=0,1,1,1;", 1);
        due("count(10) behind a read", x.count(10), 1);
        for (int what = 11; what <= 15; what++) {
            due("count(" + what + ") of a kind without pieces", x.count(what), 0);
        }
        HarbourText fifty = harbour(gates(50), 50);
        due("count(15) of fifty", fifty.count(15), 50);
        due("count(14) of fifty", fifty.count(14), 0);
    }

    private static void anotherWhat() {
        HarbourText x = harbour(ONE_OF_EACH, 6);
        int[] none = {-1, 3, 4, 8, 9, 16, 17, 20, 100, -2, -10, 256, 266, 65536, 65546,
            Integer.MIN_VALUE, Integer.MIN_VALUE + 9, Integer.MIN_VALUE + 10, Integer.MAX_VALUE};
        for (int what : none) {
            due("count(" + what + ")", x.count(what), NONE);
            due("count(" + what + ") of a new object", new HarbourText().count(what), NONE);
        }
    }
}
