/** Promises 6 to 43 and parts 2 to 4 of the terms, sentence by sentence, at the boundaries that they name. */
public final class StreamEdgesTest {
    private static final Check CHECK = new Check();
    private static final String ALL = "flock all takes 1=1;";
    /** 2147483647, the greatest number of 32 bits, as a value of the language. */
    private static final String GREATEST = "(9999*9999*21+9999*4790+8416)";

    public static void main(String[] args) {
        commaNumbers();
        hundredAndTwentyCommas();
        wrapAround();
        wrapAroundInWindows();
        andBindsMore();
        moonLines();
        watermarkIfMore();
        everyFromZero();
        everyWithSteps();
        lastHours();
        gapInCommon();
        gapBecomesOne();
        overOrNot();
        lateOrNot();
        lateForSomeWindows();
        nightsOneByOne();
        nightNumbers();
        endOfAll();
        fullest();
        meanOfThree();
        wouldAndDoes();
        hourToTellAtTheLast();
        nightsUntilTheLast();
        noSuchThing();
        fiveHundredAndTwelveCalls();
        CHECK.end();
    }

    private static void windowIs(CommaStream x, int goose, int window, int start, int end, int count) {
        String where = "(" + goose + ", " + window + ")";
        CHECK.same("openStart" + where, x.openStart(goose, window), start);
        CHECK.same("openEnd" + where, x.openEnd(goose, window), end);
        CHECK.same("openCount" + where, x.openCount(goose, window), count);
    }

    private static void tellingIs(CommaStream x, int telling, int goose, int start, int end, int count) {
        CHECK.same("tellingGoose(" + telling + ")", x.tellingGoose(telling), goose);
        CHECK.same("tellingStart(" + telling + ")", x.tellingStart(telling), start);
        CHECK.same("tellingEnd(" + telling + ")", x.tellingEnd(telling), end);
        CHECK.same("tellingCount(" + telling + ")", x.tellingCount(telling), count);
    }

    // "An hour, 0 to 999, a kind, 0 to 9, a weight, 0 to 99, and a wing, 0 to 9."
    private static void commaNumbers() {
        int[] most = {999, 9, 99, 9};
        String[] names = {"hour", "kind", "weight", "wing"};
        for (int i = 0; i < 4; i++) {
            CommaStream x = Check.taught("flock a takes " + names[i] + "=" + most[i] + ";flock b takes "
                + names[i] + "=0;");
            int[] comma = new int[4];
            CHECK.same("the least " + names[i], x.comma(0, 0, 0, 0), 1);
            CHECK.same("isIn(1, 0)", x.isIn(1, 0), true);
            comma[i] = most[i];
            CHECK.same("the greatest " + names[i], x.comma(comma[0], comma[1], comma[2], comma[3]), 1);
            CHECK.same("isIn(0, 1)", x.isIn(0, 1), true);
            CHECK.same("wouldTake the greatest " + names[i],
                x.wouldTake(0, comma[0], comma[1], comma[2], comma[3]), true);
            for (int wrong : new int[] {-1, most[i] + 1, Integer.MIN_VALUE, Integer.MAX_VALUE}) {
                comma[i] = wrong;
                CHECK.throwsArgument(x, "comma with " + names[i] + " " + wrong,
                    () -> x.comma(comma[0], comma[1], comma[2], comma[3]));
                CHECK.throwsArgument(x, "wouldTake with " + names[i] + " " + wrong,
                    () -> x.wouldTake(0, comma[0], comma[1], comma[2], comma[3]));
                CHECK.throwsIndex(x, "wouldTake(2) with " + names[i] + " " + wrong,
                    () -> x.wouldTake(2, comma[0], comma[1], comma[2], comma[3]));
                CHECK.throwsIndex(x, "wouldTake(-1) with " + names[i] + " " + wrong,
                    () -> x.wouldTake(-1, comma[0], comma[1], comma[2], comma[3]));
            }
            CHECK.same("commas()", x.commas(), 2);
        }
    }

    // "at most 120 come"; "If several exceptions apply, the one that is named first is thrown."
    private static void hundredAndTwentyCommas() {
        CommaStream x = Check.taught("moon 99;" + ALL + "flock b takes kind=1;goose g on all every 200 tells count;");
        for (int i = 0; i < 119; i++) {
            x.comma(i, 0, 0, 0);
        }
        CHECK.same("the 120th comma", x.comma(119, 1, 0, 0), 2);
        CHECK.same("commas()", x.commas(), 120);
        CHECK.same("hourOf(119)", x.hourOf(119), 119);
        CHECK.same("flocksOf(119)", x.flocksOf(119), 2);
        CHECK.same("isIn(1, 119)", x.isIn(1, 119), true);
        CHECK.same("sizeOf(0)", x.sizeOf(0), 120);
        CHECK.same("latestIn(0)", x.latestIn(0), 119);
        windowIs(x, 0, 0, 0, 200, 120);
        CHECK.throwsState(x, "the 121st comma", () -> x.comma(999, 1, 0, 0));
        CHECK.throwsArgument(x, "a wrong hour of the 121st comma", () -> x.comma(-1, 0, 0, 0));
        CHECK.throwsArgument(x, "a wrong kind of the 121st comma", () -> x.comma(0, 10, 0, 0));
        CHECK.throwsArgument(x, "a wrong weight of the 121st comma", () -> x.comma(0, 0, 100, 0));
        CHECK.throwsArgument(x, "a wrong wing of the 121st comma", () -> x.comma(0, 0, 0, -1));
        CHECK.throwsIndex(x, "hourOf(120)", () -> x.hourOf(120));
        windowIs(x, 0, 0, 0, 200, 120);
        CHECK.same("latestIn(1)", x.latestIn(1), 119);
        CHECK.same("wouldTake behind 120", x.wouldTake(1, 0, 1, 0, 0), true);
        CHECK.same("wouldTell(298) behind 120", x.wouldTell(298), 0);
        CHECK.same("wouldTell(299) behind 120", x.wouldTell(299), 1);
        CHECK.same("wouldBeLate(0) behind 120", x.wouldBeLate(0), 0);
        CHECK.same("hourToTell(0) behind 120", x.hourToTell(0), 299);
        CHECK.same("passNights behind 120", x.passNights(30), 0);
        CHECK.same("end() behind 120", x.end(), 1);
        tellingIs(x, 0, 0, 0, 200, 120);
        CHECK.throwsState(x, "the 121st comma behind end()", () -> x.comma(999, 1, 0, 0));
        x.teach();
        CHECK.same("a comma behind teach()", x.comma(999, 1, 0, 0), 0);
    }

    private static void holds(String test, boolean due) {
        CommaStream x = Check.taught("flock a takes " + test + ";");
        CHECK.same(test, x.wouldTake(0, 0, 0, 0, 0), due);
    }

    // "sums, differences and products of the language wrap around in 32 bits"
    private static void wrapAround() {
        holds(GREATEST + ">0", true);
        holds(GREATEST + "+1>0", false);
        holds(GREATEST + "+1<0", true);
        holds(GREATEST + "+1=0-" + GREATEST + "-1", true);
        holds("0-" + GREATEST + "-1<0", true);
        holds("0-" + GREATEST + "-2>0", true);
        holds("0-" + GREATEST + "-2=" + GREATEST, true);
        holds(GREATEST + "+" + GREATEST + "=0-2", true);
        holds("2048*1024*1024<0", true);
        holds("2048*1024*1023>0", true);
        holds("2048*1024*1024=0-" + GREATEST + "-1", true);
        holds("4096*4096*256=0", true);
        holds("4096*4096*256+7=7", true);
        holds("(0-1)*2048*1024*1024=2048*1024*1024", true);
        holds(GREATEST + "*" + GREATEST + "=1", true);
        // two numbers whose difference would wrap around are compared as they are
        holds("2048*1024*1024<" + GREATEST, true);
        holds("2048*1024*1024>" + GREATEST, false);
        holds(GREATEST + ">0-1", true);
        holds("2048*1024*1024>1", false);
    }

    private static void wrapAroundInWindows() {
        CommaStream x = Check.taught("moon 9;" + ALL + "goose a on all every 9 tells sum of " + GREATEST
            + "-weight*(" + GREATEST
            + "-1);goose b on all gap 9 tells sum of " + GREATEST + "-weight*(" + GREATEST + "-1);"
            + "goose c on all every 9 tells most of " + GREATEST + "+weight;goose d on all every 9 tells least of "
            + GREATEST + "+weight;");
        x.comma(3, 0, 0, 0);
        CHECK.same("the sum of one", x.openValue(0, 0), Integer.MAX_VALUE);
        CHECK.same("the sum of one, with gap", x.openValue(1, 0), Integer.MAX_VALUE);
        x.comma(3, 0, 1, 0);
        CHECK.same("the sum that wraps around", x.openValue(0, 0), Integer.MIN_VALUE);
        CHECK.same("the sum that wraps around, with gap", x.openValue(1, 0), Integer.MIN_VALUE);
        CHECK.same("the most", x.openValue(2, 0), Integer.MAX_VALUE);
        CHECK.same("the least", x.openValue(3, 0), Integer.MIN_VALUE);
        x.comma(18, 0, 2, 0);
        CHECK.same("tellings()", x.tellings(), 3);
        CHECK.same("tellingValue(0)", x.tellingValue(0), Integer.MIN_VALUE);
        CHECK.same("tellingValue(1)", x.tellingValue(1), Integer.MAX_VALUE);
        CHECK.same("tellingValue(2)", x.tellingValue(2), Integer.MIN_VALUE);
        // what is told of a comma is not 0 at the least, nor at the most
        CommaStream y = Check.taught(ALL + "goose a on all every 9 tells most of 0-weight;"
            + "goose b on all gap 9 tells least of weight;");
        y.comma(5, 0, 7, 0);
        CHECK.same("the most below 0", y.openValue(0, 0), -7);
        CHECK.same("the least above 0", y.openValue(1, 0), 7);
    }

    // "and binds more than or"
    private static void andBindsMore() {
        String[] bits = {"1=2", "1=1"};
        for (int i = 0; i < 8; i++) {
            boolean a = (i & 1) == 1;
            boolean b = (i & 2) == 2;
            boolean c = (i & 4) == 4;
            String one = bits[i & 1];
            String two = bits[i >> 1 & 1];
            String three = bits[i >> 2 & 1];
            holds(one + " or " + two + " and " + three, a || b && c);
            holds(one + " and " + two + " or " + three, a && b || c);
            holds("[" + one + " or " + two + "] and " + three, (a || b) && c);
            holds(one + " and [" + two + " or " + three + "]", a && (b || c));
            holds("not " + one + " or " + two + " and not " + three, !a || b && !c);
            holds("not [" + one + " or " + two + "] and " + three, !(a || b) && c);
            holds("not not " + one + " and not not not " + two, a && !b);
        }
        holds("not ".repeat(300) + "1=1", true);
        holds("not ".repeat(299) + "1=1", false);
    }

    // "as many as it has numbers, and one of 5 without a moon line; .. the rest of the nights .. divided"
    private static void moonLines() {
        CommaStream x = Check.taught(ALL);
        for (int i = 0; i < 3; i++) {
            CHECK.same("phase() without a moon line", x.phase(), 0);
            CHECK.same("allowance() without a moon line", x.allowance(), 5);
            x.passNights(1 + i);
        }
        for (int phases = 1; phases <= 8; phases++) {
            StringBuilder moon = new StringBuilder("moon 99");
            for (int i = 1; i < phases; i++) {
                moon.append(',').append(i - 1);
            }
            CommaStream y = Check.taught(moon.append(';').toString());
            for (int night = 0; night <= 2 * phases; night++) {
                CHECK.same("phase() of " + phases + " in night " + night, y.phase(), night % phases);
                CHECK.same("allowance() of " + phases + " in night " + night, y.allowance(),
                    night % phases == 0 ? 99 : night % phases - 1);
                y.passNights(1);
            }
            y.passNights(30);
            CHECK.same("phase() of " + phases + " behind 30 nights", y.phase(), (2 * phases + 31) % phases);
        }
    }

    // "The watermark is 0 at first; .. it is that greatest hour less the allowance, if this is more."
    private static void watermarkIfMore() {
        for (int allowance : new int[] {0, 1, 5, 99}) {
            CommaStream x = Check.taught("moon " + allowance + ";");
            CHECK.same("watermark() at first", x.watermark(), 0);
            CHECK.same("greatestHour() at first", x.greatestHour(), -1);
            x.passNights(1);
            CHECK.same("watermark() without a comma", x.watermark(), 0);
            x.comma(0, 0, 0, 0);
            CHECK.same("greatestHour() of 0", x.greatestHour(), 0);
            CHECK.same("watermark() of 0", x.watermark(), 0);
            x.comma(allowance, 0, 0, 0);
            CHECK.same("watermark() of the allowance", x.watermark(), 0);
            x.comma(allowance + 1, 0, 0, 0);
            CHECK.same("watermark() of one more", x.watermark(), 1);
            x.comma(allowance, 0, 0, 0);
            CHECK.same("watermark() of one less", x.watermark(), 1);
            CHECK.same("greatestHour() of one less", x.greatestHour(), allowance + 1);
            x.comma(999, 0, 0, 0);
            CHECK.same("watermark() of 999", x.watermark(), 999 - allowance);
        }
        // a night with a greater allowance leaves the watermark alone, and so does a comma in it
        CommaStream x = Check.taught("moon 10,50,9;");
        x.comma(100, 0, 0, 0);
        x.passNights(1);
        CHECK.same("watermark() in a night of 50", x.watermark(), 90);
        x.comma(140, 0, 0, 0);
        CHECK.same("watermark() of 140 less 50", x.watermark(), 90);
        x.comma(141, 0, 0, 0);
        CHECK.same("watermark() of 141 less 50", x.watermark(), 91);
        x.passNights(1);
        CHECK.same("watermark() of 141 less 9", x.watermark(), 132);
    }

    // "windows start at 0, at the step, at twice the step ..; without a step it is n"
    private static void everyFromZero() {
        for (int n : new int[] {1, 2, 7, 99, 200}) {
            CommaStream x = Check.taught("moon 99;" + ALL + "goose g on all every " + n + " tells count;"
                + "goose h on all every "
                + n + " step " + n + " tells count;");
            x.comma(0, 0, 0, 0);
            x.comma(n - 1, 0, 0, 0);
            for (int goose = 0; goose < 2; goose++) {
                CHECK.same("openWindows of every " + n, x.openWindows(goose), 1);
                windowIs(x, goose, 0, 0, n, 2);
            }
            x.comma(n, 0, 0, 0);
            for (int goose = 0; goose < 2; goose++) {
                CHECK.same("openWindows of every " + n + " with n", x.openWindows(goose), 2);
                windowIs(x, goose, 0, 0, n, 2);
                windowIs(x, goose, 1, n, 2 * n, 1);
            }
        }
    }

    private static void everyWithSteps() {
        int[][] pairs = {{6, 1}, {12, 2}, {13, 2}, {20, 3}, {200, 29}, {200, 33}, {200, 100}, {200, 199}, {7, 6}, {1, 1}};
        for (int[] pair : pairs) {
            int n = pair[0];
            int step = pair[1];
            for (int hour : new int[] {0, 1, step - 1, step, step + 1, n - 1, n, n + 1, 3 * n, 999}) {
                CommaStream x = Check.taught("moon 99;" + ALL + "goose g on all every " + n + " step " + step
                    + " tells count;");
                x.comma(hour, 0, 0, 0);
                int due = 0;
                for (int start = 0; start <= hour; start += step) {
                    if (hour < start + n) {
                        windowIs(x, 0, due, start, start + n, 1);
                        due++;
                    }
                }
                CHECK.same("openWindows(0) of " + hour + " every " + n + " step " + step, x.openWindows(0), due);
                CHECK.same("tellings() of " + hour, x.tellings(), 0);
            }
        }
    }

    private static void lastHours() {
        CommaStream x = Check.taught("moon 0;" + ALL + "goose a on all every 200 step 29 tells count;"
            + "goose b on all gap 200 tells count;"
            + "goose c on all every 1 tells count;goose d on all gap 1 tells count;"
                + "goose e on all every 199 tells count;");
        x.comma(999, 9, 99, 9);
        CHECK.same("openWindows(0) of 999", x.openWindows(0), 7);
        windowIs(x, 0, 0, 812, 1012, 1);
        windowIs(x, 0, 6, 986, 1186, 1);
        windowIs(x, 1, 0, 999, 1199, 1);
        windowIs(x, 2, 0, 999, 1000, 1);
        windowIs(x, 3, 0, 999, 1000, 1);
        windowIs(x, 4, 0, 995, 1194, 1);
        CHECK.same("hourToTell(2) of 1000", x.hourToTell(2), -1);
        CHECK.same("nightsUntilTelling() of 1000", x.nightsUntilTelling(), -1);
        CHECK.same("wouldTell(999) of 1000", x.wouldTell(999), 0);
        CHECK.same("end()", x.end(), 11);
    }

    // "windows of the goose that have an hour in common with it become one with it"
    private static void gapInCommon() {
        for (int n : new int[] {1, 2, 5, 200}) {
            String book = "moon 99;" + ALL + "goose g on all gap " + n + " tells sum of hour;";
            for (int near = -n - 1; near <= n + 1; near++) {
                CommaStream x = Check.taught(book);
                x.comma(300, 0, 0, 0);
                if (300 + near + n <= x.watermark()) {
                    continue;
                }
                x.comma(300 + near, 0, 0, 0);
                boolean common = near > -n && near < n;
                CHECK.same("openWindows(0) of gap " + n + " and " + near, x.openWindows(0), common ? 1 : 2);
                if (common) {
                    windowIs(x, 0, 0, 300 + Math.min(near, 0), 300 + n + Math.max(near, 0), 2);
                    CHECK.same("openValue(0, 0)", x.openValue(0, 0), 600 + near);
                } else {
                    windowIs(x, 0, near < 0 ? 0 : 1, 300 + near, 300 + near + n, 1);
                    windowIs(x, 0, near < 0 ? 1 : 0, 300, 300 + n, 1);
                }
            }
        }
    }

    // "from the first start to the last end"
    private static void gapBecomesOne() {
        CommaStream x = Check.taught("moon 99;" + ALL + "flock b takes kind=1;"
            + "goose g on all gap 10 tells most of weight;"
            + "goose h on b gap 10 tells least of weight;");
        x.comma(40, 1, 5, 0);
        x.comma(20, 1, 9, 0);
        x.comma(60, 1, 2, 0);
        x.comma(28, 1, 4, 0);
        windowIs(x, 0, 0, 20, 38, 2);
        windowIs(x, 0, 1, 40, 50, 1);
        // 31 to 41 holds hours of the first and of the second, but not of the third
        x.comma(31, 0, 1, 0);
        CHECK.same("openWindows(0) of a bridge", x.openWindows(0), 2);
        windowIs(x, 0, 0, 20, 50, 4);
        windowIs(x, 0, 1, 60, 70, 1);
        CHECK.same("openValue(0, 0) of a bridge", x.openValue(0, 0), 9);
        CHECK.same("openWindows(1) of another flock", x.openWindows(1), 3);
        // one that lies within the window changes neither its start nor its end
        x.comma(33, 1, 0, 0);
        windowIs(x, 0, 0, 20, 50, 5);
        windowIs(x, 1, 0, 20, 50, 4);
        CHECK.same("openValue(1, 0)", x.openValue(1, 0), 0);
        x.comma(50, 1, 0, 0);
        windowIs(x, 0, 1, 50, 60, 1);
        CHECK.same("openWindows(0) of three side by side", x.openWindows(0), 3);
        x.comma(51, 1, 0, 0);
        windowIs(x, 0, 1, 50, 70, 3);
        x.comma(49, 1, 0, 0);
        CHECK.same("openWindows(0) of all", x.openWindows(0), 1);
        windowIs(x, 0, 0, 20, 70, 9);
    }

    // "A window is over, if its end is the watermark or less."
    private static void overOrNot() {
        for (String window : new String[] {"every 10", "every 10 step 5", "gap 10", "gap 5", "every 5"}) {
            int end = window.contains("10") ? 30 : 25;
            CommaStream x = Check.taught("moon 3;" + ALL + "flock none takes kind=9;goose g on none " + window
                + " tells count;");
            x.comma(20, 9, 0, 0);
            int open = x.openWindows(0);
            int first = x.openEnd(0, 0);
            CHECK.same("the last end of " + window, x.openEnd(0, open - 1), end);
            x.comma(first + 2, 0, 0, 0);
            CHECK.same("watermark() ahead of the end, " + window, x.watermark(), first - 1);
            CHECK.same("tellings() ahead of the end, " + window, x.tellings(), 0);
            CHECK.same("openWindows(0) ahead of the end, " + window, x.openWindows(0), open);
            x.comma(first + 3, 0, 0, 0);
            CHECK.same("watermark() at the end, " + window, x.watermark(), first);
            CHECK.same("tellings() at the end, " + window, x.tellings(), 1);
            CHECK.same("openWindows(0) at the end, " + window, x.openWindows(0), open - 1);
            tellingIs(x, 0, 0, first - (window.contains("10") ? 10 : 5), first, 1);
            // a window that was told is not told once more
            x.comma(first + 4, 0, 0, 0);
            x.passNights(2);
            CHECK.same("openWindows(0) behind the end, " + window, x.openWindows(0), end > first + 1 ? open - 1 : 0);
        }
    }

    // "If all of these are over (with gap n: if its own one would be), the comma is late"
    private static void lateOrNot() {
        String[] windows = {"every 10", "every 10 step 5", "gap 10", "every 1", "gap 1", "every 7 step 3", "gap 200"};
        for (String window : windows) {
            for (int hour = 0; hour < 60; hour++) {
                CommaStream x = Check.taught("moon 2;" + ALL + "flock b takes kind=1;goose g on b " + window
                    + " tells count;");
                x.comma(42, 0, 0, 0);
                int end = lastEnd(window, hour);
                boolean late = end <= 40;
                CHECK.same("wouldBeLate(" + hour + ") of " + window, x.wouldBeLate(hour), late ? 1 : 0);
                CHECK.same("comma that is not taken", x.comma(0, 0, 0, 0), 1);
                CHECK.same("lateFor(0) of one that is not taken", x.lateFor(0), 0);
                CHECK.same("comma of " + hour, x.comma(hour, 1, 0, 0), 2);
                CHECK.same("lateFor(0) of " + hour + " with " + window, x.lateFor(0), late ? 1 : 0);
                CHECK.same("lateInAll() of " + hour + " with " + window, x.lateInAll(), late ? 1 : 0);
                CHECK.same("openWindows(0) of " + hour + " with " + window, x.openWindows(0) > 0, !late);
                CHECK.same("sizeOf(1) of " + hour, x.sizeOf(1), 1);
                CHECK.same("latestIn(1) of " + hour, x.latestIn(1), 2);
            }
        }
    }

    private static int lastEnd(String window, int hour) {
        switch (window) {
            case "every 10":
                return hour / 10 * 10 + 10;
            case "every 10 step 5":
                return hour / 5 * 5 + 10;
            case "every 7 step 3":
                return hour / 3 * 3 + 7;
            case "gap 10":
                return hour + 10;
            case "gap 200":
                return hour + 200;
            default:
                return hour + 1;
        }
    }

    // "the comma is in all its windows that hold its hour and are not over"
    private static void lateForSomeWindows() {
        CommaStream x = Check.taught("moon 0;" + ALL + "flock b takes kind=1;"
            + "goose g on b every 12 step 2 tells sum of weight;");
        x.comma(20, 0, 0, 0);
        x.comma(15, 1, 3, 0);
        // 4 to 16, 6 to 18 and 8 to 20 are over; 10, 12 and 14 are left
        CHECK.same("openWindows(0)", x.openWindows(0), 3);
        windowIs(x, 0, 0, 10, 22, 1);
        windowIs(x, 0, 2, 14, 26, 1);
        x.comma(9, 1, 5, 0);
        CHECK.same("lateFor(0) with 9", x.lateFor(0), 1);
        x.comma(10, 1, 5, 0);
        CHECK.same("lateFor(0) with 10", x.lateFor(0), 1);
        windowIs(x, 0, 0, 10, 22, 2);
        windowIs(x, 0, 1, 12, 24, 1);
        CHECK.same("openValue(0, 0)", x.openValue(0, 0), 8);
        CHECK.same("openValue(0, 1)", x.openValue(0, 1), 3);
        CHECK.same("tellings()", x.tellings(), 0);
        // a comma that is late for one goose may be counted by another one
        CommaStream y = Check.taught("moon 0;" + ALL + "goose g on all every 5 tells count;"
            + "goose h on all gap 50 tells count;"
            + "goose i on all gap 4 tells count;");
        y.comma(14, 0, 0, 0);
        y.comma(9, 0, 0, 0);
        CHECK.same("lateFor(0)", y.lateFor(0), 1);
        CHECK.same("lateFor(1)", y.lateFor(1), 0);
        CHECK.same("lateFor(2)", y.lateFor(2), 1);
        CHECK.same("lateInAll()", y.lateInAll(), 2);
        windowIs(y, 1, 0, 9, 64, 2);
        windowIs(y, 2, 0, 14, 18, 1);
    }

    // "A night: the night is 1 greater; then the watermark, then 3 as above."
    private static void nightsOneByOne() {
        String book = "moon 40,30,20,50;" + ALL + "goose g on all gap 20 tells count;"
            + "goose h on all gap 5 tells count;"
            + "goose i on all gap 18 tells count;";
        CommaStream x = Check.taught(book);
        CommaStream twin = Check.taught(book);
        for (int hour : new int[] {40, 0, 5}) {
            x.comma(hour, 0, 0, 0);
            twin.comma(hour, 0, 0, 0);
        }
        CHECK.same("nightsUntilTelling()", x.nightsUntilTelling(), 1);
        CHECK.same("passNights(1)", twin.passNights(1), 2);
        CHECK.same("watermark() of the first night", twin.watermark(), 10);
        CHECK.same("passNights(1) again", twin.passNights(1), 0);
        CHECK.same("watermark() of the second night", twin.watermark(), 20);
        CHECK.same("passNights(2)", x.passNights(2), 2);
        CHECK.same("digest() of two nights", x.digest(), twin.digest());
        x.comma(40, 0, 0, 0);
        twin.comma(40, 0, 0, 0);
        CHECK.same("passNights(30)", x.passNights(30), 0);
        for (int i = 0; i < 30; i++) {
            CHECK.same("a night of 30", twin.passNights(1), 0);
        }
        CHECK.same("digest() of 30 nights", x.digest(), twin.digest());
        // the first night tells of the second goose, and only the second night of the first one
        CommaStream y = Check.taught("moon 40,30,20;" + ALL + "flock b takes kind=1;"
            + "goose g on all every 20 tells count;"
            + "goose h on b every 10 tells count;");
        y.comma(40, 0, 0, 0);
        y.comma(5, 1, 0, 0);
        y.comma(15, 0, 0, 0);
        CHECK.same("passNights(2) in two", y.passNights(2), 2);
        tellingIs(y, 0, 1, 0, 10, 1);
        tellingIs(y, 1, 0, 0, 20, 2);
    }

    // "if nights is not 1 to 30"
    private static void nightNumbers() {
        CommaStream x = Check.taught("moon 9,8,7;" + ALL + "goose g on all gap 1 tells count;");
        x.comma(8, 0, 0, 0);
        for (int wrong : new int[] {0, -1, 31, Integer.MIN_VALUE, Integer.MAX_VALUE}) {
            CHECK.throwsArgument(x, "passNights(" + wrong + ")", () -> x.passNights(wrong));
        }
        CHECK.same("nights() behind refused calls", x.nights(), 0);
        CHECK.same("passNights(1)", x.passNights(1), 0);
        CHECK.same("nights() of 1", x.nights(), 1);
        CHECK.same("watermark() of 1", x.watermark(), 0);
        CHECK.same("passNights(30)", x.passNights(30), 0);
        CHECK.same("nights() of 31", x.nights(), 31);
        CHECK.same("phase() of 31", x.phase(), 1);
        CHECK.same("watermark() of 31", x.watermark(), 1);
    }

    // "the watermark is 2000 then, and what is open is told"
    private static void endOfAll() {
        CommaStream x = new CommaStream();
        CHECK.same("end() of nothing", x.end(), 0);
        CHECK.same("watermark() of nothing", x.watermark(), 2000);
        CHECK.same("greatestHour() of nothing", x.greatestHour(), -1);
        x = Check.taught("moon 99;" + ALL + "goose g on all every 20 step 10 tells count;"
            + "goose h on all gap 200 tells count;");
        x.comma(999, 0, 0, 0);
        x.comma(985, 0, 0, 0);
        CHECK.same("end()", x.end(), 4);
        tellingIs(x, 0, 0, 970, 990, 1);
        tellingIs(x, 1, 0, 980, 1000, 2);
        tellingIs(x, 2, 0, 990, 1010, 1);
        tellingIs(x, 3, 1, 985, 1199, 2);
        CHECK.same("openWindows(0)", x.openWindows(0), 0);
        CHECK.same("openWindows(1)", x.openWindows(1), 0);
        CHECK.same("end() again", x.end(), 0);
        CHECK.same("wouldBeLate(999)", x.wouldBeLate(999), 2);
        CHECK.same("wouldTell(999)", x.wouldTell(999), 0);
        CHECK.same("hourToTell(1)", x.hourToTell(1), -1);
        CHECK.same("nightsUntilTelling()", x.nightsUntilTelling(), -1);
        CHECK.same("a comma behind end()", x.comma(999, 0, 0, 0), 1);
        CHECK.same("lateInAll()", x.lateInAll(), 2);
        CHECK.same("latestIn(0)", x.latestIn(0), 2);
        CHECK.same("passNights behind end()", x.passNights(30), 0);
        CHECK.same("watermark() stays", x.watermark(), 2000);
        CHECK.same("tellings() stay", x.tellings(), 4);
    }

    // "the telling with the most commas, of several the smallest number; -1 without tellings"
    private static void fullest() {
        CommaStream x = Check.taught("moon 0;" + ALL + "goose g on all every 10 tells least of 0-hour;");
        CHECK.same("fullestTelling() without tellings", x.fullestTelling(), -1);
        int[] counts = {1, 1, 2, 2, 1, 3, 3, 2};
        int[] due = {0, 0, 2, 2, 2, 5, 5, 5};
        for (int i = 0; i < counts.length; i++) {
            for (int j = 0; j < counts[i]; j++) {
                x.comma(10 * i, 0, 0, 0);
            }
            CHECK.same("fullestTelling() ahead of " + i, x.fullestTelling(), i == 0 ? -1 : due[i - 1]);
        }
        x.end();
        CHECK.same("fullestTelling() of all", x.fullestTelling(), 5);
        CHECK.same("tellingCount(5)", x.tellingCount(5), 3);
        x.teach();
        CHECK.same("fullestTelling() behind teach()", x.fullestTelling(), -1);
    }

    // "the mean of how many commas tellings have; 0 without any"
    private static void meanOfThree() {
        CommaStream x = Check.taught("moon 0;" + ALL + "goose g on all every 10 tells sum of 9;");
        CHECK.sameDouble("meanCount() without tellings", x.meanCount(), 0.0);
        for (int i = 0; i < 5; i++) {
            x.comma(1, 0, 0, 0);
        }
        x.comma(11, 0, 0, 0);
        CHECK.sameDouble("meanCount() of 5", x.meanCount(), 5.0);
        x.comma(21, 0, 0, 0);
        CHECK.sameDouble("meanCount() of 5, 1", x.meanCount(), 3.0);
        x.comma(31, 0, 0, 0);
        CHECK.sameDouble("meanCount() of 5, 1, 1", x.meanCount(), 7.0 / 3.0);
        x.end();
        CHECK.sameDouble("meanCount() of 5, 1, 1, 1", x.meanCount(), 2.0);
    }

    /** Four commas, two of them in windows of all geese; what has wing 9 is of no flock. */
    private static CommaStream three() {
        CommaStream x = Check.taught("moon 20,30,10;flock all takes not wing=9;flock b takes kind=1 and in all;"
            + "flock none takes 1=2;goose g on all every 12 step 4 tells count;goose h on b gap 9 tells count;"
            + "goose i on all every 30 tells count;");
        x.comma(30, 1, 0, 0);
        x.comma(11, 0, 0, 0);
        x.comma(17, 1, 0, 0);
        x.comma(45, 1, 0, 0);
        return x;
    }

    // "(nothing is changed)", and a comma that comes does what it would do
    private static void wouldAndDoes() {
        for (int hour = 0; hour <= 999; hour += hour < 120 ? 1 : 293) {
            CommaStream x = three();
            String before = Check.told(x);
            int tells = x.wouldTell(hour);
            int late = x.wouldBeLate(hour);
            boolean[] tellsOf = new boolean[3];
            int[] open = new int[3];
            for (int i = 0; i < 3; i++) {
                int first = x.hourToTell(i);
                tellsOf[i] = first >= 0 && first <= hour;
                open[i] = x.openWindows(i);
            }
            CHECK.same("wouldTake none", x.wouldTake(2, hour, 1, 0, 0), false);
            CHECK.same("wouldTake b", x.wouldTake(1, hour, 1, 0, 0), true);
            CHECK.same("nothing is changed", Check.told(x).equals(before), true);
            int told = x.tellings();
            CHECK.same("a comma of no flock", x.comma(hour, 1, 0, 9), 0);
            CHECK.same("wouldTell(" + hour + ")", tells, x.tellings() - told);
            for (int i = 0; i < 3; i++) {
                CHECK.same("hourToTell(" + i + ") beside " + hour, tellsOf[i], x.openWindows(i) < open[i]);
            }
            CommaStream y = three();
            int ahead = y.lateInAll();
            y.comma(hour, 1, 0, 0);
            CHECK.same("wouldBeLate(" + hour + ")", late, y.lateInAll() - ahead);
        }
        CommaStream x = three();
        for (int wrong : new int[] {-1, 1000, Integer.MIN_VALUE, Integer.MAX_VALUE}) {
            CHECK.throwsArgument(x, "wouldTell(" + wrong + ")", () -> x.wouldTell(wrong));
            CHECK.throwsArgument(x, "wouldBeLate(" + wrong + ")", () -> x.wouldBeLate(wrong));
        }
    }

    // "the smallest hour, 0 to 999, ..; -1 if there is none"
    private static void hourToTellAtTheLast() {
        for (int allowance : new int[] {0, 1, 50, 99}) {
            for (int hour = 999 - allowance - 3; hour <= 999 - allowance + 1 && hour <= 999; hour++) {
                CommaStream x = Check.taught("moon " + allowance + ";" + ALL + "goose g on all gap 2 tells count;");
                CHECK.same("hourToTell(0) without a window", x.hourToTell(0), -1);
                x.comma(hour, 0, 0, 0);
                int due = hour + 2 + allowance;
                CHECK.same("hourToTell(0) of " + hour + " and " + allowance, x.hourToTell(0), due > 999 ? -1 : due);
                CHECK.same("wouldTell(999) of " + hour + " and " + allowance, x.wouldTell(999), due > 999 ? 0 : 1);
                x.comma(999, 0, 0, 0);
                CHECK.same("tellings() of " + hour + " and "
                    + allowance, x.tellings(), due > 999 || hour > 997 ? 0 : 1);
            }
        }
        // the allowance is that of this night, and the window the first that ends
        CommaStream x = Check.taught("moon 9,0,99;" + ALL + "goose g on all gap 20 tells count;"
            + "goose h on all every 20 tells count;");
        x.comma(30, 0, 0, 0);
        x.comma(25, 0, 0, 0);
        CHECK.same("hourToTell(0) with 9", x.hourToTell(0), 59);
        CHECK.same("hourToTell(1) with 9", x.hourToTell(1), 49);
        x.passNights(1);
        CHECK.same("hourToTell(0) with 0", x.hourToTell(0), 50);
        CHECK.same("hourToTell(1) with 0", x.hourToTell(1), 40);
        x.passNights(1);
        CHECK.same("hourToTell(0) with 99", x.hourToTell(0), 149);
        CHECK.throwsIndex(x, "hourToTell(2)", () -> x.hourToTell(2));
        CHECK.throwsIndex(x, "hourToTell(-1)", () -> x.hourToTell(-1));
    }

    // "behind how many nights a window is told .. : 1 to 30; -1 if none is by then"
    private static void nightsUntilTheLast() {
        for (int phases = 1; phases <= 8; phases++) {
            for (int low = 0; low < phases; low++) {
                StringBuilder moon = new StringBuilder("moon ");
                for (int i = 0; i < phases; i++) {
                    moon.append(i == 0 ? "" : ",").append(i == low ? 10 : 20);
                }
                CommaStream x = Check.taught(moon + ";" + ALL + "flock b takes kind=1;"
                    + "goose g on b gap 5 tells count;");
                x.comma(30, 0, 0, 0);
                CHECK.same("nightsUntilTelling() without a window", x.nightsUntilTelling(), -1);
                x.comma(16, 1, 0, 0);
                CHECK.same("nightsUntilTelling() with 21", x.nightsUntilTelling(), -1);
                x.comma(15, 1, 0, 0);
                CHECK.same("nightsUntilTelling() with 21, of one", x.nightsUntilTelling(), -1);
                x = Check.taught(moon + ";" + ALL + "flock b takes kind=1;goose g on b gap 5 tells count;");
                x.comma(30, 0, 0, 0);
                x.comma(15, 1, 0, 0);
                int due = low == 0 ? -1 : low;
                CHECK.same("nightsUntilTelling() of " + moon, x.nightsUntilTelling(), due);
                for (int night = 1; night < due; night++) {
                    CHECK.same("passNights(1)", x.passNights(1), 0);
                    CHECK.same("nightsUntilTelling() behind " + night, x.nightsUntilTelling(), due - night);
                }
                CHECK.same("passNights(1) at last", x.passNights(1), low == 0 ? 0 : 1);
            }
        }
        // the night of the smallest allowance lies at the beginning of the next round
        CommaStream x = Check.taught("moon 9,20,20,20,20,20,20,20;" + ALL + "goose g on all every 1 tells count;");
        x.passNights(1);
        x.comma(20, 0, 0, 0);
        CHECK.same("nightsUntilTelling() of a comma of its own hour", x.nightsUntilTelling(), -1);
        x.comma(10, 0, 0, 0);
        CHECK.same("nightsUntilTelling() of the next round", x.nightsUntilTelling(), 7);
        CHECK.same("passNights(6)", x.passNights(6), 0);
        CHECK.same("nightsUntilTelling() of the next night", x.nightsUntilTelling(), 1);
        CHECK.same("passNights(1)", x.passNights(1), 1);
    }

    // "if there is no such comma", flock, goose, open window, telling: -1, and as many as there are
    private static void noSuchThing() {
        everyIndex(new CommaStream());
        everyIndex(Check.taught(ALL));
        everyIndex(Check.taught(ALL + "goose g on all gap 5 tells count;"));
        everyIndex(three());
        CommaStream x = three();
        x.end();
        everyIndex(x);
        x.teach();
        everyIndex(x);
    }

    private static void everyIndex(CommaStream x) {
        int[] far = {Integer.MIN_VALUE, Integer.MAX_VALUE};
        for (int i : new int[] {-1, x.commas(), far[0], far[1]}) {
            CHECK.throwsIndex(x, "hourOf(" + i + ")", () -> x.hourOf(i));
            CHECK.throwsIndex(x, "flocksOf(" + i + ")", () -> x.flocksOf(i));
            CHECK.throwsIndex(x, "isIn(0, " + i + ")", () -> x.isIn(0, i));
        }
        for (int i : new int[] {-1, x.flocks(), far[0], far[1]}) {
            CHECK.throwsIndex(x, "isIn(" + i + ", 0)", () -> x.isIn(i, 0));
            CHECK.throwsIndex(x, "sizeOf(" + i + ")", () -> x.sizeOf(i));
            CHECK.throwsIndex(x, "latestIn(" + i + ")", () -> x.latestIn(i));
            CHECK.throwsIndex(x, "wouldTake(" + i + ")", () -> x.wouldTake(i, 0, 0, 0, 0));
        }
        for (int i : new int[] {-1, x.tellings(), far[0], far[1]}) {
            CHECK.throwsIndex(x, "tellingGoose(" + i + ")", () -> x.tellingGoose(i));
            CHECK.throwsIndex(x, "tellingStart(" + i + ")", () -> x.tellingStart(i));
            CHECK.throwsIndex(x, "tellingEnd(" + i + ")", () -> x.tellingEnd(i));
            CHECK.throwsIndex(x, "tellingCount(" + i + ")", () -> x.tellingCount(i));
            CHECK.throwsIndex(x, "tellingValue(" + i + ")", () -> x.tellingValue(i));
        }
        for (int i : new int[] {-1, x.geese(), far[0], far[1]}) {
            CHECK.throwsIndex(x, "flockOf(" + i + ")", () -> x.flockOf(i));
            CHECK.throwsIndex(x, "lateFor(" + i + ")", () -> x.lateFor(i));
            CHECK.throwsIndex(x, "openWindows(" + i + ")", () -> x.openWindows(i));
            CHECK.throwsIndex(x, "hourToTell(" + i + ")", () -> x.hourToTell(i));
            noSuchWindow(x, i, 0);
        }
        for (int i = 0; i < x.geese(); i++) {
            noSuchWindow(x, i, -1);
            noSuchWindow(x, i, x.openWindows(i));
            noSuchWindow(x, i, far[0]);
            noSuchWindow(x, i, far[1]);
        }
    }

    private static void noSuchWindow(CommaStream x, int goose, int window) {
        String where = "(" + goose + ", " + window + ")";
        CHECK.throwsIndex(x, "openStart" + where, () -> x.openStart(goose, window));
        CHECK.throwsIndex(x, "openEnd" + where, () -> x.openEnd(goose, window));
        CHECK.throwsIndex(x, "openCount" + where, () -> x.openCount(goose, window));
        CHECK.throwsIndex(x, "openValue" + where, () -> x.openValue(goose, window));
    }

    // "An object is used for at most 512 calls": the last of them answers as the first
    private static void fiveHundredAndTwelveCalls() {
        StringBuilder text = new StringBuilder("moon 99,98,97,0;" + ALL);
        for (int i = 0; i < 6; i++) {
            text.append("goose g").append((char) ('a' + i)).append(" on all every 13 step 2 tells sum of weight;");
        }
        String book = text.toString();
        CommaStream x = new CommaStream();
        Model model = new Model();
        Check.feed(x, book);
        model.tape = book;
        int calls = 2 + (book.length() + 19) / 20 + 1;
        CHECK.same("teach()", x.teach(), model.teach());
        calls++;
        for (int i = 0; i < 120; i++) {
            int hour = i * 8 + i % 7;
            CHECK.same("comma " + i, x.comma(hour, 0, i % 100, 0), model.comma(hour, 0, i % 100, 0));
            CHECK.same("tellings() behind " + i, x.tellings(), model.told.size());
            calls += 2;
        }
        while (calls < 510) {
            CHECK.same("passNights(30)", x.passNights(30), model.passNights(30));
            calls++;
        }
        CHECK.same("call 511, end()", x.end(), model.end());
        CHECK.same("call 512, digest()", x.digest(), model.digest());
    }
}
