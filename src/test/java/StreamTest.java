/** Promises 9 to 18: what the stream tells of itself. */
public final class StreamTest {
    private static final Check CHECK = new Check();

    public static void main(String[] args) {
        flocksAndGeese();
        commasAndNights();
        phases();
        hoursAndWatermark();
        lateAndTellings();
        CHECK.end();
    }

    private static void flocksAndGeese() {
        CommaStream x = new CommaStream();
        CHECK.same("flocks() without a book", x.flocks(), 0);
        CHECK.same("geese() without a book", x.geese(), 0);
        x = Check.taught("flock a takes 1=1;flock b takes 1=1;goose c on a gap 1 tells count;flock d takes 1=1;");
        CHECK.same("flocks()", x.flocks(), 3);
        CHECK.same("geese()", x.geese(), 1);
        x = Check.taught("flock a takes 1=1;goose b on a gap 1 tells count;goose c on a gap 1 tells count;");
        CHECK.same("flocks() of another", x.flocks(), 1);
        CHECK.same("geese() of another", x.geese(), 2);
    }

    private static void commasAndNights() {
        CommaStream x = Check.taught("flock a takes kind=1;");
        CHECK.same("commas() at first", x.commas(), 0);
        CHECK.same("nights() at first", x.nights(), 0);
        x.comma(5, 1, 0, 0);
        x.comma(5, 2, 0, 0);
        CHECK.same("commas()", x.commas(), 2);
        x.passNights(1);
        x.passNights(30);
        CHECK.same("nights()", x.nights(), 31);
        x.wouldTake(0, 5, 1, 0, 0);
        x.wouldTell(999);
        x.end();
        CHECK.same("commas() behind end()", x.commas(), 2);
        CHECK.same("nights() behind end()", x.nights(), 31);
    }

    private static void phases() {
        CommaStream x = new CommaStream();
        CHECK.same("phase() without a book", x.phase(), 0);
        x.passNights(3);
        CHECK.same("phase() without a moon line", x.phase(), 0);
        CHECK.same("allowance() without a moon line", x.allowance(), 5);
        x = Check.taught("moon 3,99,0,7;");
        int[] due = {3, 99, 0, 7};
        for (int i = 0; i < 10; i++) {
            CHECK.same("phase() in night " + i, x.phase(), i % 4);
            CHECK.same("allowance() in night " + i, x.allowance(), due[i % 4]);
            x.passNights(1);
        }
        x.passNights(29);
        CHECK.same("nights()", x.nights(), 39);
        CHECK.same("phase() in night 39", x.phase(), 3);
        x = Check.taught("moon 0,1,2,3,4,5,6,7;");
        x.passNights(15);
        CHECK.same("phase() of eight", x.phase(), 7);
        CHECK.same("allowance() of eight", x.allowance(), 7);
    }

    private static void hoursAndWatermark() {
        CommaStream x = new CommaStream();
        CHECK.same("greatestHour() at first", x.greatestHour(), -1);
        CHECK.same("watermark() at first", x.watermark(), 0);
        x.comma(0, 0, 0, 0);
        CHECK.same("greatestHour() with 0", x.greatestHour(), 0);
        CHECK.same("watermark() with 0", x.watermark(), 0);
        x.comma(5, 0, 0, 0);
        CHECK.same("watermark() with 5", x.watermark(), 0);
        x.comma(6, 0, 0, 0);
        CHECK.same("watermark() with 6", x.watermark(), 1);
        x.comma(999, 0, 0, 0);
        x.comma(40, 0, 0, 0);
        CHECK.same("greatestHour() with less", x.greatestHour(), 999);
        CHECK.same("watermark() with less", x.watermark(), 994);
        // in the nights the watermark grows with a smaller allowance, and never falls
        x = Check.taught("moon 20,60,10;");
        x.comma(100, 0, 0, 0);
        CHECK.same("watermark() in phase 0", x.watermark(), 80);
        x.passNights(1);
        CHECK.same("watermark() in phase 1", x.watermark(), 80);
        x.comma(139, 0, 0, 0);
        CHECK.same("watermark() with 139", x.watermark(), 80);
        x.comma(141, 0, 0, 0);
        CHECK.same("watermark() with 141", x.watermark(), 81);
        x.passNights(1);
        CHECK.same("watermark() in phase 2", x.watermark(), 131);
        x.passNights(2);
        CHECK.same("watermark() in phase 1 again", x.watermark(), 131);
        // without commas the nights leave it alone
        x = Check.taught("moon 0;");
        x.passNights(2);
        CHECK.same("watermark() without commas", x.watermark(), 0);
        CHECK.same("greatestHour() without commas", x.greatestHour(), -1);
        x.end();
        CHECK.same("greatestHour() behind end()", x.greatestHour(), -1);
        CHECK.same("watermark() behind end()", x.watermark(), 2000);
    }

    private static void lateAndTellings() {
        CommaStream x = Check.taught("moon 0;flock a takes 1=1;flock b takes kind=1;"
            + "goose c on a every 5 tells count;goose d on b every 5 tells count;goose e on a gap 9 tells count;");
        CHECK.same("lateInAll() at first", x.lateInAll(), 0);
        CHECK.same("tellings() at first", x.tellings(), 0);
        x.comma(10, 1, 0, 0);
        CHECK.same("tellings() with 10", x.tellings(), 0);
        x.comma(1, 1, 0, 0);
        CHECK.same("lateInAll() with 1, 1", x.lateInAll(), 3);
        x.comma(1, 0, 0, 0);
        CHECK.same("lateInAll() with 1, 0", x.lateInAll(), 5);
        x.comma(2, 0, 0, 0);
        CHECK.same("lateInAll() with 2, 0", x.lateInAll(), 6);
        // the comma of hour 2 made the window to 11 of goose e one with that to 19
        CHECK.same("openWindows(2)", x.openWindows(2), 1);
        x.comma(15, 0, 0, 0);
        CHECK.same("tellings() with 15", x.tellings(), 2);
        x.end();
        CHECK.same("tellings() behind end()", x.tellings(), 4);
        CHECK.same("lateInAll() behind end()", x.lateInAll(), 6);
    }
}
