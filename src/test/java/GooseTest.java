/** Promises 24 to 30: what is told of geese. */
public final class GooseTest {
    private static final Check CHECK = new Check();

    public static void main(String[] args) {
        withoutGeese();
        flocksAndLate();
        windows();
        values();
        valuesThatWrap();
        CHECK.end();
    }

    private static void withoutGeese() {
        CommaStream x = Check.taught("flock a takes 1=1;");
        throwsFor(x, 0);
        throwsFor(x, -1);
    }

    private static void throwsFor(CommaStream x, int goose) {
        CHECK.throwsIndex(x, "flockOf(" + goose + ")", () -> x.flockOf(goose));
        CHECK.throwsIndex(x, "lateFor(" + goose + ")", () -> x.lateFor(goose));
        CHECK.throwsIndex(x, "openWindows(" + goose + ")", () -> x.openWindows(goose));
        throwsFor(x, goose, 0);
    }

    private static void throwsFor(CommaStream x, int goose, int window) {
        String where = "(" + goose + ", " + window + ")";
        CHECK.throwsIndex(x, "openStart" + where, () -> x.openStart(goose, window));
        CHECK.throwsIndex(x, "openEnd" + where, () -> x.openEnd(goose, window));
        CHECK.throwsIndex(x, "openCount" + where, () -> x.openCount(goose, window));
        CHECK.throwsIndex(x, "openValue" + where, () -> x.openValue(goose, window));
    }

    private static void flocksAndLate() {
        CommaStream x = Check.taught("moon 0;flock a takes 1=1;flock b takes kind=1;flock c takes kind=2;"
            + "goose d on c gap 4 tells count;goose e on a every 10 tells count;goose f on b gap 9 tells count;");
        CHECK.same("flockOf(0)", x.flockOf(0), 2);
        CHECK.same("flockOf(1)", x.flockOf(1), 0);
        CHECK.same("flockOf(2)", x.flockOf(2), 1);
        x.comma(10, 0, 0, 0);
        x.comma(6, 2, 0, 0);
        x.comma(6, 1, 0, 0);
        x.comma(1, 1, 0, 0);
        CHECK.same("lateFor(0)", x.lateFor(0), 1);
        CHECK.same("lateFor(1)", x.lateFor(1), 3);
        CHECK.same("lateFor(2)", x.lateFor(2), 1);
        CHECK.same("openWindows(0)", x.openWindows(0), 0);
        CHECK.same("openWindows(1)", x.openWindows(1), 1);
        CHECK.same("openWindows(2)", x.openWindows(2), 1);
        for (int wrong : new int[] {-1, 3, 6, Integer.MIN_VALUE, Integer.MAX_VALUE}) {
            throwsFor(x, wrong);
        }
    }

    private static void windows() {
        CommaStream x = Check.taught("moon 99;flock a takes 1=1;goose g on a every 8 step 4 tells count;"
            + "goose h on a gap 200 tells count;");
        throwsFor(x, 0, 0);
        x.comma(30, 0, 0, 0);
        x.comma(5, 0, 0, 0);
        x.comma(7, 0, 0, 0);
        x.comma(8, 0, 0, 0);
        int[] starts = {0, 4, 8, 24, 28};
        int[] counts = {2, 3, 1, 1, 1};
        CHECK.same("openWindows(0)", x.openWindows(0), 5);
        for (int i = 0; i < 5; i++) {
            CHECK.same("openStart(0, " + i + ")", x.openStart(0, i), starts[i]);
            CHECK.same("openEnd(0, " + i + ")", x.openEnd(0, i), starts[i] + 8);
            CHECK.same("openCount(0, " + i + ")", x.openCount(0, i), counts[i]);
            CHECK.same("openValue(0, " + i + ")", x.openValue(0, i), counts[i]);
        }
        CHECK.same("openWindows(1)", x.openWindows(1), 1);
        CHECK.same("openStart(1, 0)", x.openStart(1, 0), 5);
        CHECK.same("openEnd(1, 0)", x.openEnd(1, 0), 230);
        CHECK.same("openCount(1, 0)", x.openCount(1, 0), 4);
        throwsFor(x, 0, 5);
        throwsFor(x, 0, -1);
        throwsFor(x, 1, 1);
        throwsFor(x, 0, Integer.MAX_VALUE);
        throwsFor(x, 0, Integer.MIN_VALUE);
        throwsFor(x, 2, 0);
        x.comma(111, 0, 0, 0);
        CHECK.same("openStart(0, 0) behind a telling", x.openStart(0, 0), 8);
        CHECK.same("openWindows(0) behind a telling", x.openWindows(0), 5);
        x.end();
        CHECK.same("openWindows(0) behind end()", x.openWindows(0), 0);
        throwsFor(x, 0, 0);
    }

    private static void values() {
        CommaStream x = Check.taught("moon 50;flock a takes 1=1;goose g on a every 100 tells count;"
            + "goose h on a every 100 tells sum of weight-2*(kind+wing);goose i on a every 100 tells most of hour*kind;"
            + "goose j on a every 100 tells least of wing-kind;goose k on a gap 5 tells most of 0-weight;"
            + "goose l on a gap 5 tells sum of hour;");
        x.comma(10, 3, 20, 5);
        x.comma(20, 1, 7, 0);
        x.comma(4, 9, 50, 9);
        int[] due = {3, 4 + 5 + 14, 36, -1};
        for (int i = 0; i < 4; i++) {
            CHECK.same("openValue(" + i + ", 0)", x.openValue(i, 0), due[i]);
        }
        CHECK.same("openValue(4, 0)", x.openValue(4, 0), -50);
        CHECK.same("openValue(4, 1)", x.openValue(4, 1), -20);
        CHECK.same("openValue(5, 1)", x.openValue(5, 1), 10);
        x.comma(7, 0, 30, 0);
        CHECK.same("openCount(4, 0) of one", x.openCount(4, 0), 3);
        CHECK.same("openValue(4, 0) of one", x.openValue(4, 0), -20);
        CHECK.same("openValue(5, 0) of one", x.openValue(5, 0), 21);
        CHECK.same("openValue(5, 1) of the other", x.openValue(5, 1), 20);
        CHECK.same("openValue(2, 0) with 0", x.openValue(2, 0), 36);
        x.comma(12, 8, 0, 0);
        CHECK.same("openValue(2, 0) with 96", x.openValue(2, 0), 96);
        CHECK.same("openValue(3, 0) with -8", x.openValue(3, 0), -8);
    }

    private static void valuesThatWrap() {
        CommaStream x = Check.taught("flock a takes 1=1;goose g on a every 200 tells sum of 9999*9999*21;"
            + "goose h on a every 200 tells most of 9999*9999*weight;goose i on a gap 9 tells least of 9999*9999*weight;");
        x.comma(1, 0, 21, 0);
        CHECK.same("openValue(0, 0)", x.openValue(0, 0), 2099580021);
        x.comma(1, 0, 22, 0);
        CHECK.same("openValue(0, 0) of two", x.openValue(0, 0), 2 * 2099580021);
        CHECK.same("openValue(1, 0)", x.openValue(1, 0), 2099580021);
        CHECK.same("openValue(2, 0)", x.openValue(2, 0), 99980001 * 22);
    }
}
