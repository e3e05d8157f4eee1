/** Promises 31 to 36: what is told of tellings. */
public final class TellingTest {
    private static final Check CHECK = new Check();

    public static void main(String[] args) {
        CommaStream x = Check.taught("moon 20,0;flock a takes 1=1;flock b takes kind=1;"
            + "goose g on b gap 5 tells sum of weight;goose h on a every 10 tells most of 0-weight;");
        none(x);
        x.comma(3, 1, 9, 0);
        x.comma(6, 1, 4, 0);
        x.comma(12, 1, 70, 0);
        x.comma(14, 0, 30, 0);
        x.comma(13, 0, 20, 0);
        x.comma(31, 0, 1, 0);
        check(x, 0, 0, 3, 11, 2, 13);
        check(x, 1, 1, 0, 10, 2, -4);
        CHECK.same("tellings()", x.tellings(), 2);
        CHECK.same("fullestTelling() of the same", x.fullestTelling(), 0);
        x.passNights(1);
        check(x, 2, 0, 12, 17, 1, 70);
        check(x, 3, 1, 10, 20, 3, -20);
        CHECK.same("tellings() in the night", x.tellings(), 4);
        CHECK.same("fullestTelling()", x.fullestTelling(), 3);
        x.end();
        check(x, 4, 1, 30, 40, 1, -1);
        CHECK.same("fullestTelling() behind end()", x.fullestTelling(), 3);
        check(x, 0, 0, 3, 11, 2, 13);
        for (int wrong : new int[] {-1, 5, Integer.MIN_VALUE, Integer.MAX_VALUE}) {
            throwsFor(x, wrong);
        }
        fullest();
        CHECK.end();
    }

    private static void none(CommaStream x) {
        CHECK.same("fullestTelling() without tellings", x.fullestTelling(), -1);
        throwsFor(x, 0);
        throwsFor(x, -1);
    }

    private static void check(CommaStream x, int telling, int goose, int start, int end, int count, int value) {
        CHECK.same("tellingGoose(" + telling + ")", x.tellingGoose(telling), goose);
        CHECK.same("tellingStart(" + telling + ")", x.tellingStart(telling), start);
        CHECK.same("tellingEnd(" + telling + ")", x.tellingEnd(telling), end);
        CHECK.same("tellingCount(" + telling + ")", x.tellingCount(telling), count);
        CHECK.same("tellingValue(" + telling + ")", x.tellingValue(telling), value);
    }

    private static void throwsFor(CommaStream x, int telling) {
        CHECK.throwsIndex(x, "tellingGoose(" + telling + ")", () -> x.tellingGoose(telling));
        CHECK.throwsIndex(x, "tellingStart(" + telling + ")", () -> x.tellingStart(telling));
        CHECK.throwsIndex(x, "tellingEnd(" + telling + ")", () -> x.tellingEnd(telling));
        CHECK.throwsIndex(x, "tellingCount(" + telling + ")", () -> x.tellingCount(telling));
        CHECK.throwsIndex(x, "tellingValue(" + telling + ")", () -> x.tellingValue(telling));
    }

    private static void fullest() {
        CommaStream x = Check.taught("moon 0;flock a takes 1=1;goose g on a every 10 tells least of hour;");
        x.comma(9, 0, 0, 0);
        x.comma(10, 0, 0, 0);
        CHECK.same("fullestTelling() of one", x.fullestTelling(), 0);
        x.comma(11, 0, 0, 0);
        CHECK.same("fullestTelling() ahead of the telling", x.fullestTelling(), 0);
        x.comma(20, 0, 0, 0);
        x.comma(21, 0, 0, 0);
        x.comma(40, 0, 0, 0);
        CHECK.same("fullestTelling() of 1, 2, 2", x.fullestTelling(), 1);
        check(x, 1, 0, 10, 20, 2, 10);
    }
}
