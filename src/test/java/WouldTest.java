/** Promises 37 to 43: what would be, the mean, and the digest. */
public final class WouldTest {
    private static final Check CHECK = new Check();

    public static void main(String[] args) {
        wouldTake();
        wouldBeLate();
        wouldTell();
        hourToTell();
        nightsUntilTelling();
        meanCount();
        digestOfNothing();
        digestOfMuch();
        CHECK.end();
    }

    private static void wouldTake() {
        CommaStream x = Check.taught("flock a takes hour>9 and kind<5;flock b takes in a or weight=99 and wing=9;");
        long before = x.digest();
        CHECK.same("wouldTake(0, 10, 4, 0, 0)", x.wouldTake(0, 10, 4, 0, 0), true);
        CHECK.same("wouldTake(0, 9, 4, 0, 0)", x.wouldTake(0, 9, 4, 0, 0), false);
        CHECK.same("wouldTake(1, 10, 4, 0, 0)", x.wouldTake(1, 10, 4, 0, 0), true);
        CHECK.same("wouldTake(1, 0, 0, 99, 9)", x.wouldTake(1, 0, 0, 99, 9), true);
        CHECK.same("wouldTake(1, 999, 9, 99, 8)", x.wouldTake(1, 999, 9, 99, 8), false);
        CHECK.same("digest() behind wouldTake", x.digest(), before);
        for (int wrong : new int[] {-1, 2, Integer.MIN_VALUE, Integer.MAX_VALUE}) {
            CHECK.throwsIndex(x, "wouldTake(" + wrong + "..)", () -> x.wouldTake(wrong, 0, 0, 0, 0));
            CHECK.throwsIndex(x, "wouldTake(" + wrong + ", -1..)", () -> x.wouldTake(wrong, -1, 0, 0, 0));
        }
        CHECK.throwsArgument(x, "wouldTake(0, -1, 0, 0, 0)", () -> x.wouldTake(0, -1, 0, 0, 0));
        CHECK.throwsArgument(x, "wouldTake(0, 1000, 0, 0, 0)", () -> x.wouldTake(0, 1000, 0, 0, 0));
        CHECK.throwsArgument(x, "wouldTake(0, 0, -1, 0, 0)", () -> x.wouldTake(0, 0, -1, 0, 0));
        CHECK.throwsArgument(x, "wouldTake(0, 0, 10, 0, 0)", () -> x.wouldTake(0, 0, 10, 0, 0));
        CHECK.throwsArgument(x, "wouldTake(0, 0, 0, -1, 0)", () -> x.wouldTake(0, 0, 0, -1, 0));
        CHECK.throwsArgument(x, "wouldTake(0, 0, 0, 100, 0)", () -> x.wouldTake(0, 0, 0, 100, 0));
        CHECK.throwsArgument(x, "wouldTake(0, 0, 0, 0, -1)", () -> x.wouldTake(0, 0, 0, 0, -1));
        CHECK.throwsArgument(x, "wouldTake(0, 0, 0, 0, 10)", () -> x.wouldTake(0, 0, 0, 0, 10));
        for (int i = 0; i < 120; i++) {
            x.comma(0, 0, 0, 0);
        }
        CHECK.same("wouldTake behind 120 commas", x.wouldTake(0, 10, 4, 0, 0), true);
        CommaStream y = new CommaStream();
        CHECK.throwsIndex(y, "wouldTake without flocks", () -> y.wouldTake(0, 0, 0, 0, 0));
    }

    private static void wouldBeLate() {
        CommaStream x = Check.taught("moon 0;flock a takes 1=2;goose g on a every 10 tells count;"
            + "goose h on a every 12 step 4 tells count;goose i on a gap 6 tells count;");
        CHECK.same("wouldBeLate(0) at first", x.wouldBeLate(0), 0);
        x.comma(20, 0, 0, 0);
        long before = x.digest();
        // the last windows of an hour end at 20, 20 and six hours behind it
        CHECK.same("wouldBeLate(0)", x.wouldBeLate(0), 3);
        CHECK.same("wouldBeLate(11)", x.wouldBeLate(11), 3);
        CHECK.same("wouldBeLate(12)", x.wouldBeLate(12), 2);
        CHECK.same("wouldBeLate(14)", x.wouldBeLate(14), 2);
        CHECK.same("wouldBeLate(15)", x.wouldBeLate(15), 1);
        CHECK.same("wouldBeLate(19)", x.wouldBeLate(19), 1);
        CHECK.same("wouldBeLate(20)", x.wouldBeLate(20), 0);
        CHECK.same("wouldBeLate(999)", x.wouldBeLate(999), 0);
        CHECK.same("digest() behind wouldBeLate", x.digest(), before);
        throwsForHours(x);
        x.end();
        CHECK.same("wouldBeLate(999) behind end()", x.wouldBeLate(999), 3);
        CHECK.same("wouldBeLate without geese", new CommaStream().wouldBeLate(0), 0);
    }

    private static void throwsForHours(CommaStream x) {
        for (int wrong : new int[] {-1, 1000, Integer.MIN_VALUE, Integer.MAX_VALUE}) {
            CHECK.throwsArgument(x, "wouldBeLate(" + wrong + ")", () -> x.wouldBeLate(wrong));
            CHECK.throwsArgument(x, "wouldTell(" + wrong + ")", () -> x.wouldTell(wrong));
        }
    }

    private static CommaStream twoGeese() {
        CommaStream x = Check.taught("moon 30,40,20;flock a takes 1=1;flock b takes kind=1;"
            + "goose g on a every 10 tells count;goose h on b gap 7 tells count;goose i on b gap 7 tells count;");
        x.comma(5, 0, 0, 0);
        x.comma(18, 0, 0, 0);
        x.comma(30, 1, 0, 0);
        return x;
    }

    private static void wouldTell() {
        CommaStream x = twoGeese();
        long before = x.digest();
        CHECK.same("wouldTell(0)", x.wouldTell(0), 0);
        CHECK.same("wouldTell(39)", x.wouldTell(39), 0);
        CHECK.same("wouldTell(40)", x.wouldTell(40), 1);
        CHECK.same("wouldTell(49)", x.wouldTell(49), 1);
        CHECK.same("wouldTell(50)", x.wouldTell(50), 2);
        CHECK.same("wouldTell(66)", x.wouldTell(66), 2);
        CHECK.same("wouldTell(67)", x.wouldTell(67), 4);
        CHECK.same("wouldTell(70)", x.wouldTell(70), 5);
        CHECK.same("wouldTell(999)", x.wouldTell(999), 5);
        CHECK.same("digest() behind wouldTell", x.digest(), before);
        x.end();
        CHECK.same("wouldTell(999) behind end()", x.wouldTell(999), 0);
        throwsForHours(x);
    }

    private static void hourToTell() {
        CommaStream x = twoGeese();
        long before = x.digest();
        CHECK.same("hourToTell(0)", x.hourToTell(0), 40);
        CHECK.same("hourToTell(1)", x.hourToTell(1), 67);
        CHECK.same("hourToTell(2)", x.hourToTell(2), 67);
        CHECK.same("digest() behind hourToTell", x.digest(), before);
        for (int wrong : new int[] {-1, 3, Integer.MIN_VALUE, Integer.MAX_VALUE}) {
            CHECK.throwsIndex(x, "hourToTell(" + wrong + ")", () -> x.hourToTell(wrong));
        }
        x.passNights(1);
        CHECK.same("hourToTell(0) with 40", x.hourToTell(0), 50);
        x.end();
        CHECK.same("hourToTell(0) behind end()", x.hourToTell(0), -1);
        CommaStream y = Check.taught("moon 20;flock a takes 1=1;goose g on a gap 9 tells count;");
        CHECK.same("hourToTell(0) at first", y.hourToTell(0), -1);
        y.comma(971, 0, 0, 0);
        CHECK.same("hourToTell(0) of 1000", y.hourToTell(0), -1);
        y.comma(970, 0, 0, 0);
        CHECK.same("hourToTell(0) of one window", y.hourToTell(0), -1);
        y = Check.taught("moon 20;flock a takes 1=1;goose g on a gap 9 tells count;");
        y.comma(970, 0, 0, 0);
        CHECK.same("hourToTell(0) of 999", y.hourToTell(0), 999);
        y.comma(999, 0, 0, 0);
        CHECK.same("hourToTell(0) of the next", y.hourToTell(0), -1);
    }

    private static void nightsUntilTelling() {
        CommaStream x = twoGeese();
        long before = x.digest();
        CHECK.same("nightsUntilTelling()", x.nightsUntilTelling(), 2);
        CHECK.same("digest() behind nightsUntilTelling", x.digest(), before);
        x.passNights(1);
        CHECK.same("nightsUntilTelling() a night on", x.nightsUntilTelling(), 1);
        x.passNights(1);
        CHECK.same("tellings()", x.tellings(), 1);
        CHECK.same("nightsUntilTelling() behind it", x.nightsUntilTelling(), -1);
        CommaStream y = Check.taught("moon 99,99,98,97,96,95,94,0;flock a takes 1=1;goose g on a every 1 tells count;");
        CHECK.same("nightsUntilTelling() at first", y.nightsUntilTelling(), -1);
        y.comma(97, 0, 0, 0);
        CHECK.same("nightsUntilTelling() of a short window", y.nightsUntilTelling(), -1);
        y.comma(94, 0, 0, 0);
        CHECK.same("nightsUntilTelling() of 7", y.nightsUntilTelling(), 7);
        y.comma(1, 0, 0, 0);
        CHECK.same("nightsUntilTelling() of 5", y.nightsUntilTelling(), 5);
        y.passNights(3);
        y.comma(99, 0, 0, 0);
        CHECK.same("nightsUntilTelling() behind 3", y.nightsUntilTelling(), 4);
        CHECK.same("nightsUntilTelling() without a book", new CommaStream().nightsUntilTelling(), -1);
    }

    private static void meanCount() {
        CommaStream x = Check.taught("moon 0;flock a takes 1=1;goose g on a every 10 tells count;");
        CHECK.sameDouble("meanCount() without tellings", x.meanCount(), 0);
        x.comma(9, 0, 0, 0);
        CHECK.sameDouble("meanCount() of an open one", x.meanCount(), 0);
        x.comma(10, 0, 0, 0);
        CHECK.sameDouble("meanCount() of 1", x.meanCount(), 1);
        x.comma(10, 0, 0, 0);
        x.comma(20, 0, 0, 0);
        CHECK.sameDouble("meanCount() of 1, 2", x.meanCount(), 1.5);
        x.comma(30, 0, 0, 0);
        CHECK.sameDouble("meanCount() of 1, 2, 1", x.meanCount(), 4.0 / 3.0);
        Check.feed(x, "");
        x.teach();
        CHECK.sameDouble("meanCount() behind teach()", x.meanCount(), 0);
    }

    private static long digest(long... numbers) {
        long d = 1973;
        for (long number : numbers) {
            d = d * 31 + number;
        }
        return d;
    }

    private static void digestOfNothing() {
        CommaStream x = new CommaStream();
        CHECK.same("digest() at first", x.digest(), digest(0, 0, 0, 0, 0, 5, -1, 0, 0, 0, -1, -1));
        x.feed(1, 2, 3, 4, 5);
        CHECK.same("digest() with a tape", x.digest(), digest(0, 0, 0, 0, 0, 5, -1, 0, 0, 0, -1, -1));
        x.end();
        CHECK.same("digest() behind end()", x.digest(), digest(0, 0, 0, 0, 0, 5, -1, 2000, 0, 0, -1, -1));
    }

    private static void digestOfMuch() {
        CommaStream x = Check.taught("moon 3,9;flock a takes 1=1;flock b takes kind=1;"
            + "goose g on b gap 5 tells sum of 0-weight;goose h on a every 10 tells most of weight;");
        x.comma(4, 1, 50, 0);
        x.comma(12, 0, 60, 0);
        x.comma(13, 1, 70, 0);
        x.comma(8, 1, 80, 0);
        x.passNights(3);
        x.comma(2, 0, 1, 0);
        CHECK.same("digest()", x.digest(), digest(
            2, 2, 5, 3, 1, 9, 13, 10, 2, 2, 0, -1,
            5, 4, 3, 3,
            1, 0, 2, 22, 8, 13, 1, -80, 13, 18, 1, -70,
            0, 2, 1, 29, 10, 20, 2, 70,
            0, 4, 9, 1, -50, 1, 0, 10, 1, 50));
    }
}
