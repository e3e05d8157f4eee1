/** Promises 6 to 8: commas come, nights go by, the stream ends. */
public final class ComingTest {
    private static final Check CHECK = new Check();
    private static final String ALL = "flock all takes 1=1;";

    public static void main(String[] args) {
        commaArguments();
        commaLimit();
        tests();
        values();
        everyWindows();
        overlappingWindows();
        sevenWindows();
        gapWindows();
        lateCommas();
        lateWithGap();
        orderOfTellings();
        nights();
        moonThatGrows();
        end();
        fullRows();
        CHECK.end();
    }

    private static void commaArguments() {
        CommaStream x = Check.taught(ALL + "flock none takes 1=2;");
        CHECK.throwsArgument(x, "comma(-1, 0, 0, 0)", () -> x.comma(-1, 0, 0, 0));
        CHECK.throwsArgument(x, "comma(1000, 0, 0, 0)", () -> x.comma(1000, 0, 0, 0));
        CHECK.throwsArgument(x, "comma(0, -1, 0, 0)", () -> x.comma(0, -1, 0, 0));
        CHECK.throwsArgument(x, "comma(0, 10, 0, 0)", () -> x.comma(0, 10, 0, 0));
        CHECK.throwsArgument(x, "comma(0, 0, -1, 0)", () -> x.comma(0, 0, -1, 0));
        CHECK.throwsArgument(x, "comma(0, 0, 100, 0)", () -> x.comma(0, 0, 100, 0));
        CHECK.throwsArgument(x, "comma(0, 0, 0, -1)", () -> x.comma(0, 0, 0, -1));
        CHECK.throwsArgument(x, "comma(0, 0, 0, 10)", () -> x.comma(0, 0, 0, 10));
        CHECK.throwsArgument(x, "comma(least..)", () -> x.comma(Integer.MIN_VALUE, 0, 0, 0));
        CHECK.throwsArgument(x, "comma(.., most)", () -> x.comma(0, 0, 0, Integer.MAX_VALUE));
        CHECK.same("comma(0, 0, 0, 0)", x.comma(0, 0, 0, 0), 1);
        CHECK.same("comma(999, 9, 99, 9)", x.comma(999, 9, 99, 9), 1);
        CHECK.same("commas()", x.commas(), 2);
    }

    private static void commaLimit() {
        CommaStream x = new CommaStream();
        for (int i = 0; i < 120; i++) {
            CHECK.same("comma " + i, x.comma(i, 0, 0, 0), 0);
        }
        CHECK.same("commas()", x.commas(), 120);
        CHECK.throwsState(x, "comma 120", () -> x.comma(5, 0, 0, 0));
        CHECK.throwsArgument(x, "a wrong comma 120", () -> x.comma(1000, 0, 0, 0));
        Check.feed(x, ALL);
        x.teach();
        CHECK.same("comma behind teach()", x.comma(5, 0, 0, 0), 1);
    }

    /** How many flocks of the book take a comma of hour 5, kind 3, weight 40 and wing 7. */
    private static void takes(String test, int due) {
        CommaStream x = Check.taught("flock a takes " + test + ";");
        CHECK.same("comma with " + test, x.comma(5, 3, 40, 7), due);
    }

    private static void tests() {
        takes("hour=5", 1);
        takes("kind=3", 1);
        takes("weight=40", 1);
        takes("wing=7", 1);
        takes("hour=kind", 0);
        takes("hour<5", 0);
        takes("hour<6", 1);
        takes("hour>5", 0);
        takes("hour>4", 1);
        takes("not hour>4", 0);
        takes("not not hour>4", 1);
        takes("not not not hour>4", 0);
        takes("1=1 or 1=1 and 1=2", 1);
        takes("1=2 and 1=1 or 1=1", 1);
        takes("[1=1 or 1=1] and 1=2", 0);
        takes("not 1=1 or 1=1", 1);
        takes("not [1=1 or 1=1]", 0);
        takes("not 1=2 and 1=2", 0);
        takes("1=2 or 1=2 or 1=1", 1);
        takes("1=1 and 1=1 and 1=2", 0);
        CommaStream x = Check.taught("flock a takes hour>4;flock b takes not in a;flock c takes in a and not in b;"
            + "flock d takes in b or in c;");
        CHECK.same("comma with in", x.comma(5, 0, 0, 0), 3);
        CHECK.same("isIn(0, 0)", x.isIn(0, 0), true);
        CHECK.same("isIn(1, 0)", x.isIn(1, 0), false);
        CHECK.same("isIn(2, 0)", x.isIn(2, 0), true);
        CHECK.same("isIn(3, 0)", x.isIn(3, 0), true);
        CHECK.same("comma with not in", x.comma(4, 0, 0, 0), 2);
        CHECK.same("isIn(1, 1)", x.isIn(1, 1), true);
        CHECK.same("isIn(2, 1)", x.isIn(2, 1), false);
    }

    private static void values() {
        takes("10-3-2=5", 1);
        takes("10-(3-2)=9", 1);
        takes("2+3*4=14", 1);
        takes("(2+3)*4=20", 1);
        takes("2*3+4*5=26", 1);
        takes("20-2*3*2+1=9", 1);
        takes("1-2<0", 1);
        takes("9999*9999=9998*9999+9999", 1);
        // 99 980 001 fits 21 times into 31 bits, but not 22 times
        takes("9999*9999*21>0", 1);
        takes("9999*9999*22<0", 1);
        takes("9999*9999*21+9999*9999<0", 1);
        takes("0-9999*9999*21-9999*9999>0", 1);
        takes("hour*kind-weight+wing=0-18", 1);
    }

    private static void windowIs(CommaStream x, int goose, int window, int start, int end, int count) {
        String where = "(" + goose + ", " + window + ")";
        CHECK.same("openStart" + where, x.openStart(goose, window), start);
        CHECK.same("openEnd" + where, x.openEnd(goose, window), end);
        CHECK.same("openCount" + where, x.openCount(goose, window), count);
    }

    private static void tellingIs(CommaStream x, int telling, int goose, int start, int end, int count) {
        CHECK.same("tellingGoose(" + telling + ")", x.tellingGoose(telling), goose);
        CHECK.same("tellingStart(" + telling + ")", x.tellingStart(telling), start);
        CHECK.same("tellingEnd(" + telling + ")", x.tellingEnd(telling), end);
        CHECK.same("tellingCount(" + telling + ")", x.tellingCount(telling), count);
    }

    private static void everyWindows() {
        CommaStream x = Check.taught("moon 20;" + ALL + "goose g on all every 10 tells count;");
        x.comma(9, 0, 0, 0);
        x.comma(10, 0, 0, 0);
        x.comma(0, 0, 0, 0);
        CHECK.same("openWindows(0)", x.openWindows(0), 2);
        windowIs(x, 0, 0, 0, 10, 2);
        windowIs(x, 0, 1, 10, 20, 1);
        x.comma(29, 0, 0, 0);
        CHECK.same("tellings() at 9", x.tellings(), 0);
        x.comma(30, 0, 0, 0);
        CHECK.same("tellings() at 10", x.tellings(), 1);
        tellingIs(x, 0, 0, 0, 10, 2);
        CHECK.same("openWindows(0) at 10", x.openWindows(0), 3);
        windowIs(x, 0, 0, 10, 20, 1);
    }

    private static void overlappingWindows() {
        CommaStream x = Check.taught("moon 50;" + ALL + "goose g on all every 10 step 4 tells count;");
        x.comma(2, 0, 0, 0);
        CHECK.same("openWindows(0) with 2", x.openWindows(0), 1);
        windowIs(x, 0, 0, 0, 10, 1);
        x.comma(9, 0, 0, 0);
        CHECK.same("openWindows(0) with 9", x.openWindows(0), 3);
        windowIs(x, 0, 0, 0, 10, 2);
        windowIs(x, 0, 1, 4, 14, 1);
        windowIs(x, 0, 2, 8, 18, 1);
        x.comma(10, 0, 0, 0);
        CHECK.same("openWindows(0) with 10", x.openWindows(0), 3);
        windowIs(x, 0, 0, 0, 10, 2);
        windowIs(x, 0, 1, 4, 14, 2);
        windowIs(x, 0, 2, 8, 18, 2);
        // windows that hold no comma are not open: 12 to 32 are left out
        x.comma(40, 0, 0, 0);
        CHECK.same("openWindows(0) with 40", x.openWindows(0), 6);
        windowIs(x, 0, 3, 32, 42, 1);
        windowIs(x, 0, 5, 40, 50, 1);
    }

    private static void sevenWindows() {
        CommaStream x = Check.taught("moon 0;" + ALL + "goose g on all every 13 step 2 tells count;");
        x.comma(12, 0, 0, 0);
        CHECK.same("openWindows(0) with 12", x.openWindows(0), 7);
        windowIs(x, 0, 0, 0, 13, 1);
        windowIs(x, 0, 6, 12, 25, 1);
        x.comma(13, 0, 0, 0);
        tellingIs(x, 0, 0, 0, 13, 1);
        windowIs(x, 0, 0, 2, 15, 2);
        CHECK.same("openWindows(0) with 13", x.openWindows(0), 6);
    }

    private static void gapWindows() {
        CommaStream x = Check.taught("moon 90;" + ALL + "goose g on all gap 5 tells count;");
        x.comma(10, 0, 0, 0);
        x.comma(15, 0, 0, 0);
        CHECK.same("openWindows(0) side by side", x.openWindows(0), 2);
        windowIs(x, 0, 0, 10, 15, 1);
        windowIs(x, 0, 1, 15, 20, 1);
        x.comma(14, 0, 0, 0);
        CHECK.same("openWindows(0) become one", x.openWindows(0), 1);
        windowIs(x, 0, 0, 10, 20, 3);
        x.comma(5, 0, 0, 0);
        CHECK.same("openWindows(0) ahead", x.openWindows(0), 2);
        windowIs(x, 0, 0, 5, 10, 1);
        windowIs(x, 0, 1, 10, 20, 3);
        x.comma(12, 0, 0, 0);
        windowIs(x, 0, 1, 10, 20, 4);
        x.comma(6, 0, 0, 0);
        CHECK.same("openWindows(0) all one", x.openWindows(0), 1);
        windowIs(x, 0, 0, 5, 20, 6);
        x.comma(50, 0, 0, 0);
        x.comma(40, 0, 0, 0);
        x.comma(45, 0, 0, 0);
        CHECK.same("openWindows(0) by starts", x.openWindows(0), 4);
        windowIs(x, 0, 1, 40, 45, 1);
        windowIs(x, 0, 2, 45, 50, 1);
        windowIs(x, 0, 3, 50, 55, 1);
    }

    private static void lateCommas() {
        CommaStream x = Check.taught("moon 3;" + ALL + "flock odd takes kind=1;"
            + "goose g on all every 10 tells count;goose h on odd every 12 step 4 tells count;");
        x.comma(23, 0, 0, 0);
        CHECK.same("watermark()", x.watermark(), 20);
        CHECK.same("comma(9, 1..)", x.comma(9, 1, 0, 0), 2);
        CHECK.same("lateFor(0)", x.lateFor(0), 1);
        CHECK.same("lateFor(1)", x.lateFor(1), 1);
        // hour 12 stands in the windows 4 to 16, 8 to 20 and 12 to 24: the last one is not over
        x.comma(12, 1, 0, 0);
        CHECK.same("lateFor(0) with 12", x.lateFor(0), 2);
        CHECK.same("lateFor(1) with 12", x.lateFor(1), 1);
        CHECK.same("openWindows(1)", x.openWindows(1), 1);
        windowIs(x, 1, 0, 12, 24, 1);
        CHECK.same("tellings() of windows that were over", x.tellings(), 0);
        x.comma(5, 0, 0, 0);
        CHECK.same("lateFor(1) with none of its flock", x.lateFor(1), 1);
        CHECK.same("lateFor(0) with 5", x.lateFor(0), 3);
        CHECK.same("lateInAll()", x.lateInAll(), 4);
        CHECK.same("sizeOf(0)", x.sizeOf(0), 4);
        x.comma(20, 0, 0, 0);
        CHECK.same("lateFor(0) with 20", x.lateFor(0), 3);
        windowIs(x, 0, 0, 20, 30, 2);
    }

    private static void lateWithGap() {
        CommaStream x = Check.taught("moon 3;" + ALL + "goose g on all gap 6 tells count;");
        x.comma(10, 0, 0, 0);
        x.comma(5, 0, 0, 0);
        x.comma(14, 0, 0, 0);
        windowIs(x, 0, 0, 5, 20, 3);
        CHECK.same("watermark()", x.watermark(), 11);
        // an open window holds hour 5, but its own one would end at 11
        x.comma(5, 0, 0, 0);
        CHECK.same("lateFor(0) with 5", x.lateFor(0), 1);
        windowIs(x, 0, 0, 5, 20, 3);
        x.comma(6, 0, 0, 0);
        CHECK.same("lateFor(0) with 6", x.lateFor(0), 1);
        windowIs(x, 0, 0, 5, 20, 4);
        x.comma(23, 0, 0, 0);
        tellingIs(x, 0, 0, 5, 20, 4);
        // what was told becomes one with nothing
        x.comma(15, 0, 0, 0);
        CHECK.same("openWindows(0)", x.openWindows(0), 2);
        windowIs(x, 0, 0, 15, 21, 1);
        windowIs(x, 0, 1, 23, 29, 1);
    }

    private static void orderOfTellings() {
        CommaStream x = Check.taught("moon 9;" + ALL + "goose g on all every 6 step 3 tells count;"
            + "goose h on all gap 2 tells count;");
        x.comma(7, 0, 0, 0);
        x.comma(1, 0, 0, 0);
        x.comma(2, 0, 0, 0);
        x.comma(4, 0, 0, 0);
        CHECK.same("tellings()", x.tellings(), 0);
        x.comma(90, 0, 0, 0);
        CHECK.same("tellings() then", x.tellings(), 6);
        tellingIs(x, 0, 0, 0, 6, 3);
        tellingIs(x, 1, 0, 3, 9, 2);
        tellingIs(x, 2, 0, 6, 12, 1);
        tellingIs(x, 3, 1, 1, 4, 2);
        tellingIs(x, 4, 1, 4, 6, 1);
        tellingIs(x, 5, 1, 7, 9, 1);
    }

    private static void nights() {
        CommaStream x = Check.taught("moon 20,10,0;" + ALL + "goose g on all every 10 tells count;");
        CHECK.throwsArgument(x, "passNights(0)", () -> x.passNights(0));
        CHECK.throwsArgument(x, "passNights(-1)", () -> x.passNights(-1));
        CHECK.throwsArgument(x, "passNights(31)", () -> x.passNights(31));
        CHECK.throwsArgument(x, "passNights(most)", () -> x.passNights(Integer.MAX_VALUE));
        x.comma(3, 0, 0, 0);
        x.comma(20, 0, 0, 0);
        CHECK.same("watermark() with 20", x.watermark(), 0);
        CHECK.same("passNights(1)", x.passNights(1), 1);
        CHECK.same("watermark() with 10", x.watermark(), 10);
        tellingIs(x, 0, 0, 0, 10, 1);
        CHECK.same("passNights(1) again", x.passNights(1), 0);
        CHECK.same("watermark() with 0", x.watermark(), 20);
        CHECK.same("passNights(30)", x.passNights(30), 0);
        CHECK.same("nights()", x.nights(), 32);
        CHECK.same("phase()", x.phase(), 2);
        CHECK.same("watermark() stays", x.watermark(), 20);
        x.comma(30, 0, 0, 0);
        CHECK.same("tellings() behind 30", x.tellings(), 2);
        tellingIs(x, 1, 0, 20, 30, 1);
        CHECK.same("passNights(1) once more", x.passNights(1), 0);
        CHECK.same("watermark() does not fall", x.watermark(), 30);
    }

    /** The watermark is looked at in each night, not only in the last one. */
    private static void moonThatGrows() {
        CommaStream x = Check.taught("moon 30,0,30;" + ALL + "goose g on all every 5 tells count;");
        x.comma(1, 0, 0, 0);
        x.comma(30, 0, 0, 0);
        CHECK.same("passNights(2)", x.passNights(2), 1);
        CHECK.same("allowance()", x.allowance(), 30);
        CHECK.same("watermark()", x.watermark(), 30);
    }

    private static void end() {
        CommaStream x = Check.taught(ALL + "goose g on all gap 200 tells count;goose h on all every 7 tells count;");
        x.comma(999, 0, 0, 0);
        x.comma(900, 0, 0, 0);
        x.comma(500, 0, 0, 0);
        CHECK.same("end()", x.end(), 2);
        CHECK.same("watermark()", x.watermark(), 2000);
        tellingIs(x, 0, 0, 900, 1199, 2);
        tellingIs(x, 1, 1, 994, 1001, 1);
        CHECK.same("end() again", x.end(), 0);
        CHECK.same("tellings()", x.tellings(), 2);
        CHECK.same("comma behind end()", x.comma(999, 0, 0, 0), 1);
        CHECK.same("lateFor(0)", x.lateFor(0), 2);
        CHECK.same("greatestHour()", x.greatestHour(), 999);
        CHECK.same("watermark() behind a comma", x.watermark(), 2000);
        CHECK.same("passNights behind end()", x.passNights(3), 0);
        CHECK.same("nights()", x.nights(), 3);
        CHECK.same("watermark() behind nights", x.watermark(), 2000);
        Check.feed(x, ALL);
        x.teach();
        CHECK.same("watermark() behind teach()", x.watermark(), 0);
    }

    /** As many tellings and open windows as a stream can have. */
    private static void fullRows() {
        StringBuilder book = new StringBuilder("moon 99,0;" + ALL);
        for (int i = 0; i < 6; i++) {
            book.append("goose g").append((char) ('a' + i)).append(" on all every 13 step 2 tells count;");
        }
        CommaStream x = Check.taught(book.toString());
        for (int i = 0; i < 120; i++) {
            x.comma(20 + 8 * i, 0, 0, 0);
        }
        x.end();
        int due = 0;
        for (int start = 0; start < 1000; start += 2) {
            boolean holds = false;
            for (int i = 0; i < 120; i++) {
                holds |= start <= 20 + 8 * i && 20 + 8 * i < start + 13;
            }
            due += holds ? 6 : 0;
        }
        CHECK.same("tellings()", x.tellings(), due);
        CHECK.same("tellingGoose of the last", x.tellingGoose(due - 1), 5);

        CommaStream y = Check.taught("moon 99;" + ALL + "goose g on all every 6 step 1 tells count;"
            + "goose h on all gap 1 tells count;");
        for (int i = 0; i < 120; i++) {
            y.comma(800 + i, 0, 0, 0);
        }
        CHECK.same("watermark()", y.watermark(), 820);
        CHECK.same("openWindows(0)", y.openWindows(0), 105);
        windowIs(y, 0, 0, 815, 821, 6);
        windowIs(y, 0, 104, 919, 925, 1);
        CHECK.same("openWindows(1)", y.openWindows(1), 100);
        CHECK.same("tellings()", y.tellings(), 20 + 20);
    }
}
