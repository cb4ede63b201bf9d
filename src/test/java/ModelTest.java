import java.util.ArrayList;
import java.util.Arrays;
import java.util.Collections;
import java.util.Comparator;
import java.util.HashSet;
import java.util.List;
import java.util.Map;
import java.util.Random;
import java.util.Set;
import java.util.TreeMap;
import java.util.function.IntSupplier;
import java.util.regex.Matcher;
import java.util.regex.Pattern;

/**
 * Many made-up texts, right and wrong, against a second reading of the document that shares no code
 * with the class: failures are all collected and then sorted, ways are measured for all pairs at once.
 */
public final class ModelTest {
    private static final String LETTERS = "CLBYRG";
    private static final int[][] LEAST = {{0, 0, 0, 1}, {0, 0, 1, 1}, {0, 1, 1, 0}, {0, 0}, {0, 0}, {0}};
    private static final int[][] MOST = {{15, 15, 99, 30}, {15, 4, 99, 30}, {15, 99, 30, 9}, {15, 50}, {15, 15}, {15}};
    private static final Pattern ROWS = rows();
    private static final Pattern DIGITS = Pattern.compile("\\d{1,2}");
    private static final int RUNS = 8000;
    private static final int MOST_CALLS = 512;
    private static final int CALLS_BESIDE_SIGNS_AND_CHECKS = 9;
    private static final int MOST_SIGNS_OF_RUN = 470;

    private static int wrong = 0;

    /** A piece: kind, name and numbers, in the order in which piece() tells them. */
    private record Piece(int[] values) {
        int kind() {
            return values[0];
        }

        int rank() {
            return values[0] * 100 + values[1];
        }

        int number(int which) {
            return values[2 + which];
        }
    }

    /** A call with the answer that the model gives. */
    private record Check(String name, IntSupplier call, int want) {
    }

    public static void main(String[] args) {
        Random random = new Random(20261115);
        int[] failures = new int[6];
        for (int i = 0; i < RUNS && wrong < 20; i++) {
            failures[runOnce(random)]++;
        }
        for (int number = 0; number <= 5; number++) {
            due("runs with failure " + number + " are enough (1)", failures[number] >= 20 ? 1 : 0, 1, "all");
        }
        System.out.println(wrong == 0
                ? "the model agrees; runs by failure, 0 to 5: " + Arrays.toString(failures)
                : wrong + " answers are not the model's");
        if (wrong != 0) {
            System.exit(1);
        }
    }

    /** Reads, keeps, reads again and asks as much as the 512 calls allow; answers the last failure. */
    private static int runOnce(Random random) {
        HarbourText x = new HarbourText();
        String first = random.nextBoolean() ? "" : madeText(random, 150);
        String second = madeText(random, MOST_SIGNS_OF_RUN - first.length());
        List<Piece> kept = readBoth(x, first, List.of());
        due("keep()", x.keep(), kept.size(), first);
        List<Piece> pieces = readBoth(x, second, kept);
        List<Check> checks = checksOf(x, pieces, kept);
        Collections.shuffle(checks, random);
        int left = MOST_CALLS - CALLS_BESIDE_SIGNS_AND_CHECKS - first.length() - second.length();
        for (Check check : checks.subList(0, Math.min(left, checks.size()))) {
            due(check.name(), check.call().getAsInt(), check.want(), first + " kept, then " + second);
        }
        return firstFailure(second)[0];
    }

    private static void due(String call, long got, long want, String text) {
        if (got != want) {
            wrong++;
            System.out.println(text + ": " + call + " answered " + got + ", the model says " + want);
        }
    }

    private static Pattern rows() {
        StringBuilder all = new StringBuilder();
        for (int kind = 0; kind < 6; kind++) {
            all.append(kind == 0 ? "" : "|").append(LETTERS.charAt(kind)).append("\\d{1,2}=\\d{1,2}");
            all.append(",\\d{1,2}".repeat(MOST[kind].length - 1)).append(';');
        }
        return Pattern.compile("(?:" + all + ")*");
    }

    private static String madeText(Random random, int mostSigns) {
        boolean careful = random.nextInt(5) < 2;
        StringBuilder text = new StringBuilder();
        boolean many = random.nextInt(12) == 0;
        int rows = many ? 49 + random.nextInt(3) : random.nextInt(20);
        int points = 2 + random.nextInt(15);
        for (int i = 0; i < rows; i++) {
            int kind = many ? 5 : random.nextInt(6);
            int name = careful || many ? i : random.nextInt(100);
            text.append(LETTERS.charAt(kind)).append(digits(random, name)).append('=');
            text.append(madeNumbers(random, kind, points, careful || many)).append(';');
        }
        if (!careful && random.nextInt(3) == 0) {
            spoil(random, text);
        }
        return cut(text.toString(), mostSigns, careful);
    }

    private static String cut(String text, int most, boolean careful) {
        if (text.length() <= most) {
            return text;
        }
        return text.substring(0, careful ? text.lastIndexOf(';', most - 1) + 1 : most);
    }

    private static String madeNumbers(Random random, int kind, int points, boolean careful) {
        int many = MOST[kind].length;
        int[] numbers = new int[many];
        for (int which = 0; which < many; which++) {
            int least = LEAST[kind][which];
            int most = MOST[kind][which] == 15 ? points - 1 : MOST[kind][which];
            numbers[which] = least + random.nextInt(most - least + 1);
            if (!careful && random.nextInt(150) == 0) {
                numbers[which] = random.nextBoolean() ? MOST[kind][which] + 1 : 0;
            }
        }
        if (kind == 1 && (careful || random.nextInt(20) != 0)) {
            numbers[1] = Math.max(1, numbers[1]);
        }
        if ((kind == 0 || kind == 4) && (careful || random.nextInt(20) != 0) && numbers[0] == numbers[1]) {
            numbers[1] = (numbers[0] + 1) % points;
        }
        if (kind == 0 && random.nextInt(6) == 0) {
            numbers[2] = 0;
        }
        StringBuilder text = new StringBuilder();
        for (int which = 0; which < many; which++) {
            text.append(which == 0 ? "" : ",").append(digits(random, numbers[which]));
        }
        return text.toString();
    }

    private static String digits(Random random, int number) {
        return number < 10 && random.nextInt(8) == 0 ? "0" + number : String.valueOf(number);
    }

    private static void spoil(Random random, StringBuilder text) {
        int place = text.length() == 0 ? 0 : random.nextInt(text.length());
        char sign = "CLBYRG=,;0123456789x!~".charAt(random.nextInt(22));
        switch (random.nextInt(4)) {
            case 0 -> text.setLength(place);
            case 1 -> text.insert(place, sign);
            case 2 -> text.replace(place, Math.min(text.length(), place + 1), String.valueOf(sign));
            default -> text.delete(place, Math.min(text.length(), place + 1));
        }
    }

    /** Reads into the object and by the model; answers the pieces that stand then. */
    private static List<Piece> readBoth(HarbourText x, String text, List<Piece> before) {
        for (int i = 0; i < text.length(); i++) {
            x.sign(text.charAt(i));
        }
        due("count(0)", x.count(0), text.length(), text);
        int[] failure = firstFailure(text);
        List<Piece> pieces = failure[0] == 0 ? piecesOf(text) : before;
        int got;
        try {
            got = x.read();
        } catch (IllegalStateException e) {
            got = -99;
        }
        due("read()", got, failure[0] == 0 ? pieces.size() : -99, text);
        due("failure(0)", x.failure(0), failure[0], text);
        due("failure(1)", x.failure(1), failure[1], text);
        return pieces;
    }

    private static int[] firstFailure(String text) {
        List<int[]> found = new ArrayList<>();
        int end = viableLength(text);
        if (end < text.length() || !ROWS.matcher(text).matches()) {
            found.add(new int[] {1, end});
        }
        addFailuresOfRows(text.substring(0, end), found);
        found.sort(Comparator.comparingInt((int[] f) -> f[1]).thenComparingInt(f -> f[0]));
        return found.isEmpty() ? new int[] {0, -1} : found.get(0);
    }

    /** How many signs from the first on could be the beginning of some right text. */
    private static int viableLength(String text) {
        for (int end = 1; end <= text.length(); end++) {
            Matcher matcher = ROWS.matcher(text.substring(0, end));
            if (!matcher.matches() && !matcher.hitEnd()) {
                return end - 1;
            }
        }
        return text.length();
    }

    private static void addFailuresOfRows(String text, List<int[]> found) {
        Set<String> seen = new HashSet<>();
        int start = 0;
        for (int row = 1; start < text.length(); row++) {
            if (row == 51) {
                found.add(new int[] {5, start});
            }
            int end = text.indexOf(';', start);
            end = end < 0 ? text.length() : end;
            addFailuresOfRow(text, start, end, seen, found);
            start = end + 1;
        }
    }

    private static void addFailuresOfRow(String text, int start, int end, Set<String> seen, List<int[]> found) {
        int kind = LETTERS.indexOf(text.charAt(start));
        Matcher matcher = DIGITS.matcher(text).region(start, end);
        int first = -1;
        for (int which = -1; matcher.find(); which++) {
            int value = Integer.parseInt(matcher.group());
            int place = matcher.start();
            if (which == -1) {
                if (!seen.add(kind + ":" + value)) {
                    found.add(new int[] {2, place});
                }
                continue;
            }
            if (which == 0) {
                first = value;
            }
            if (value < LEAST[kind][which] || value > MOST[kind][which]) {
                found.add(new int[] {3, place});
            }
            if ((kind == 0 || kind == 4) && which == 1 && value == first) {
                found.add(new int[] {3, place});
            }
            if (kind == 1 && which == 1 && value == 0) {
                found.add(new int[] {4, place});
            }
        }
    }

    private static List<Piece> piecesOf(String text) {
        List<Piece> pieces = new ArrayList<>();
        for (String row : text.split(";")) {
            if (!row.isEmpty()) {
                String[] parts = row.substring(1).split("[=,]");
                int[] values = new int[1 + parts.length];
                values[0] = LETTERS.indexOf(row.charAt(0));
                for (int i = 0; i < parts.length; i++) {
                    values[1 + i] = Integer.parseInt(parts[i]);
                }
                pieces.add(new Piece(values));
            }
        }
        return pieces;
    }

    private static List<Check> checksOf(HarbourText x, List<Piece> pieces, List<Piece> kept) {
        List<Check> checks = new ArrayList<>();
        addPieces(x, pieces, checks);
        addWays(x, pieces, checks);
        addBad(x, pieces, checks);
        String print = printOf(pieces);
        checks.add(new Check("print()", x::print, print.length()));
        for (int i = 0; i < print.length(); i++) {
            int place = i;
            checks.add(new Check("at(" + i + ")", () -> x.at(place), print.charAt(i)));
        }
        checks.add(new Check("compare()", x::compare, differences(pieces, kept)));
        checks.add(new Check("count(2)", () -> x.count(2), kept.size()));
        return checks;
    }

    private static void addPieces(HarbourText x, List<Piece> pieces, List<Check> checks) {
        checks.add(new Check("count(1)", () -> x.count(1), pieces.size()));
        int[] ofKind = new int[6];
        for (int i = 0; i < pieces.size(); i++) {
            int[] values = pieces.get(i).values();
            ofKind[values[0]]++;
            checks.add(new Check("find", () -> x.find(values[0], values[1]), i));
            for (int w = 0; w < values.length; w++) {
                int index = i;
                int what = w;
                checks.add(new Check("piece(" + i + ", " + w + ")", () -> x.piece(index, what), values[w]));
            }
        }
        for (int k = 0; k < 6; k++) {
            int what = 10 + k;
            checks.add(new Check("count(" + what + ")", () -> x.count(what), ofKind[k]));
        }
    }

    /** The greatest least depth for all pairs, by going through each point in turn. */
    private static int[][] depths(List<Piece> pieces, int kind) {
        int[][] depth = new int[16][16];
        for (int p = 0; p < 16; p++) {
            depth[p][p] = 99;
        }
        for (Piece piece : pieces) {
            if (piece.kind() == kind) {
                int most = kind == 0 ? piece.number(3) : 1;
                int a = piece.number(0);
                int b = piece.number(1);
                depth[a][b] = Math.max(depth[a][b], most);
                depth[b][a] = kind == 0 ? Math.max(depth[b][a], most) : depth[b][a];
            }
        }
        for (int over = 0; over < 16; over++) {
            for (int a = 0; a < 16; a++) {
                for (int b = 0; b < 16; b++) {
                    depth[a][b] = Math.max(depth[a][b], Math.min(depth[a][over], depth[over][b]));
                }
            }
        }
        return depth;
    }

    private static void addWays(HarbourText x, List<Piece> pieces, List<Check> checks) {
        int[][] water = depths(pieces, 0);
        int[][] land = depths(pieces, 4);
        for (int pair = 0; pair < 256; pair++) {
            int a = pair / 16;
            int b = pair % 16;
            String points = a + ", " + b + ")";
            checks.add(new Check("deep(" + points, () -> x.deep(a, b), water[a][b]));
            checks.add(new Check("reach(0, " + points, () -> x.reach(0, a, b), water[a][b] > 0 ? 1 : 0));
            checks.add(new Check("reach(1, " + points, () -> x.reach(1, a, b), land[a][b] > 0 ? 1 : 0));
        }
    }

    private static void addBad(HarbourText x, List<Piece> pieces, List<Check> checks) {
        boolean[] channelAt = new boolean[16];
        boolean[] roadAt = new boolean[16];
        for (Piece piece : pieces) {
            if (piece.kind() == 0 || piece.kind() == 4) {
                boolean[] there = piece.kind() == 0 ? channelAt : roadAt;
                there[piece.number(0)] = true;
                there[piece.number(1)] = true;
            }
        }
        int[] water = depths(pieces, 0)[0];
        List<List<Integer>> reasons = List.of(new ArrayList<>(), new ArrayList<>(), new ArrayList<>(), new ArrayList<>());
        for (int i = 0; i < pieces.size(); i++) {
            Piece p = pieces.get(i);
            int point = p.number(0);
            switch (p.kind()) {
                case 0 -> addIf(reasons.get(2), p.number(2) == 0, 10 * i + 2);
                case 1 -> addIf(reasons.get(0), !channelAt[point], 10 * i);
                case 2 -> {
                    addIf(reasons.get(0), !channelAt[point], 10 * i);
                    addIf(reasons.get(3), point != 0 && p.number(2) > water[point], 10 * i + 3);
                }
                case 3, 5 -> addIf(reasons.get(1), !roadAt[point], 10 * i + 1);
                default -> { }
            }
        }
        List<Integer> all = new ArrayList<>();
        reasons.forEach(all::addAll);
        checks.add(new Check("bad()", x::bad, all.size()));
        all.add(-1);
        for (int i = 0; i < all.size(); i++) {
            int place = i;
            checks.add(new Check("unjoined(" + i + ")", () -> x.unjoined(place), all.get(i)));
        }
    }

    private static void addIf(List<Integer> list, boolean holds, int value) {
        if (holds) {
            list.add(value);
        }
    }

    private static String printOf(List<Piece> pieces) {
        Map<Integer, String> rows = new TreeMap<>();
        for (Piece piece : pieces) {
            StringBuilder row = new StringBuilder();
            int[] values = piece.values();
            row.append(LETTERS.charAt(values[0])).append(values[1]);
            for (int what = 2; what < values.length; what++) {
                row.append(what == 2 ? "=" : ",").append(values[what]);
            }
            rows.put(piece.rank(), row.append(';').toString());
        }
        return String.join("", rows.values());
    }

    private static int differences(List<Piece> one, List<Piece> other) {
        Map<Integer, String> all = new TreeMap<>();
        for (Piece piece : one) {
            all.put(piece.rank(), Arrays.toString(piece.values()));
        }
        int same = 0;
        int shared = 0;
        for (Piece piece : other) {
            String there = all.get(piece.rank());
            shared += there == null ? 0 : 1;
            same += Arrays.toString(piece.values()).equals(there) ? 1 : 0;
        }
        return one.size() + other.size() - shared - same;
    }
}
