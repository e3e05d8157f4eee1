/** Promises 19 to 23: what is told of commas and flocks. */
public final class FlockTest {
    private static final Check CHECK = new Check();

    public static void main(String[] args) {
        CommaStream x = Check.taught("moon 0;flock a takes hour>10;flock b takes in a and kind=1;"
            + "flock c takes not in b;goose g on a every 5 tells count;");
        atFirst(x);
        x.comma(20, 1, 0, 0);
        x.comma(999, 2, 0, 0);
        x.comma(0, 1, 0, 0);
        x.comma(11, 1, 0, 0);
        x.comma(10, 1, 0, 0);
        commas(x);
        flocks(x);
        sizes(x);
        eightFlocks();
        CHECK.end();
    }

    private static void atFirst(CommaStream x) {
        CHECK.throwsIndex(x, "hourOf(0) at first", () -> x.hourOf(0));
        CHECK.throwsIndex(x, "flocksOf(0) at first", () -> x.flocksOf(0));
        CHECK.throwsIndex(x, "isIn(0, 0) at first", () -> x.isIn(0, 0));
        CHECK.same("sizeOf(0) at first", x.sizeOf(0), 0);
        CHECK.same("latestIn(0) at first", x.latestIn(0), -1);
    }

    private static void commas(CommaStream x) {
        int[] hours = {20, 999, 0, 11, 10};
        int[] flocks = {2, 2, 1, 2, 1};
        for (int i = 0; i < 5; i++) {
            CHECK.same("hourOf(" + i + ")", x.hourOf(i), hours[i]);
            CHECK.same("flocksOf(" + i + ")", x.flocksOf(i), flocks[i]);
        }
        for (int wrong : new int[] {-1, 5, Integer.MIN_VALUE, Integer.MAX_VALUE}) {
            CHECK.throwsIndex(x, "hourOf(" + wrong + ")", () -> x.hourOf(wrong));
            CHECK.throwsIndex(x, "flocksOf(" + wrong + ")", () -> x.flocksOf(wrong));
            CHECK.throwsIndex(x, "isIn(0, " + wrong + ")", () -> x.isIn(0, wrong));
        }
    }

    private static void flocks(CommaStream x) {
        boolean[][] due = {
            {true, true, false, true, false},
            {true, false, false, true, false},
            {false, true, true, false, true},
        };
        for (int i = 0; i < 3; i++) {
            for (int j = 0; j < 5; j++) {
                CHECK.same("isIn(" + i + ", " + j + ")", x.isIn(i, j), due[i][j]);
            }
        }
    }

    private static void sizes(CommaStream x) {
        int[] sizes = {3, 2, 3};
        int[] latest = {3, 3, 4};
        for (int i = 0; i < 3; i++) {
            CHECK.same("sizeOf(" + i + ")", x.sizeOf(i), sizes[i]);
            CHECK.same("latestIn(" + i + ")", x.latestIn(i), latest[i]);
        }
        for (int wrong : new int[] {-1, 3, 8, 32, Integer.MIN_VALUE, Integer.MAX_VALUE}) {
            CHECK.throwsIndex(x, "isIn(" + wrong + ", 0)", () -> x.isIn(wrong, 0));
            CHECK.throwsIndex(x, "sizeOf(" + wrong + ")", () -> x.sizeOf(wrong));
            CHECK.throwsIndex(x, "latestIn(" + wrong + ")", () -> x.latestIn(wrong));
        }
    }

    private static void eightFlocks() {
        StringBuilder book = new StringBuilder();
        for (int i = 0; i < 8; i++) {
            book.append("flock f").append((char) ('a' + i)).append(" takes kind=").append(i).append(';');
        }
        CommaStream x = Check.taught(book.toString());
        x.comma(1, 7, 0, 0);
        x.comma(2, 0, 0, 0);
        x.comma(3, 9, 0, 0);
        CHECK.same("isIn(7, 0)", x.isIn(7, 0), true);
        CHECK.same("isIn(6, 0)", x.isIn(6, 0), false);
        CHECK.same("isIn(0, 1)", x.isIn(0, 1), true);
        CHECK.same("sizeOf(7)", x.sizeOf(7), 1);
        CHECK.same("latestIn(7)", x.latestIn(7), 0);
        CHECK.same("latestIn(0)", x.latestIn(0), 1);
        CHECK.same("latestIn(3)", x.latestIn(3), -1);
        CHECK.same("flocksOf(2)", x.flocksOf(2), 0);
    }
}
