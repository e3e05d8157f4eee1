/** Promises 1 to 5: a new object, the tape, and the errors of a book. */
public final class BookTest {
    private static final Check CHECK = new Check();
    private static final String FLOCK = "flock a takes 1=1;";

    public static void main(String[] args) {
        newObject();
        feedAndTrim();
        teachEmptiesTheTape();
        teachBeginsAnew();
        errorKeepsAll();
        tokens();
        manyTokens();
        grammar();
        nesting();
        names();
        tooMany();
        numbers();
        orderOfErrors();
        CHECK.end();
    }

    private static void newObject() {
        CommaStream x = new CommaStream();
        CHECK.same("flocks() at first", x.flocks(), 0);
        CHECK.same("geese() at first", x.geese(), 0);
        CHECK.same("commas() at first", x.commas(), 0);
        CHECK.same("nights() at first", x.nights(), 0);
        CHECK.same("tellings() at first", x.tellings(), 0);
        CHECK.same("errorAt() at first", x.errorAt(), -1);
        CHECK.same("allowance() at first", x.allowance(), 5);
        CHECK.same("trim(0) at first", x.trim(0), 0);
        CHECK.throwsArgument(x, "trim(1) at first", () -> x.trim(1));
        CHECK.same("feed at first", x.feed(0, 0, 0, 0, 0), 20);
    }

    private static void feedAndTrim() {
        CommaStream x = new CommaStream();
        for (int i = 1; i <= 80; i++) {
            CHECK.same("feed " + i, x.feed(0x20202020, 0x20202020, 0x20202020, 0x20202020, 0x20202020), 20 * i);
        }
        CHECK.throwsState(x, "feed 81", () -> x.feed(0, 0, 0, 0, 0));
        CHECK.throwsArgument(x, "trim(1601)", () -> x.trim(1601));
        CHECK.throwsArgument(x, "trim(-1)", () -> x.trim(-1));
        CHECK.throwsArgument(x, "trim(least)", () -> x.trim(Integer.MIN_VALUE));
        CHECK.throwsArgument(x, "trim(most)", () -> x.trim(Integer.MAX_VALUE));
        CHECK.same("trim(1600)", x.trim(1600), 1600);
        CHECK.same("trim(1581)", x.trim(1581), 1581);
        CHECK.throwsState(x, "feed behind 1581", () -> x.feed(0, 0, 0, 0, 0));
        CHECK.same("trim(1580)", x.trim(1580), 1580);
        CHECK.same("feed behind 1580", x.feed(0x20202020, 0x20202020, 0x20202020, 0x20202020, 0x20202020), 1600);
        CHECK.same("teach() of blanks", x.teach(), 0);

        // "moon 7;" and what is trimmed away, then another line behind it
        x.feed(0x6d6f6f6e, 0x20373b00, 0x80ff0102, 0x41424344, -1);
        CHECK.same("trim(7)", x.trim(7), 7);
        x.feed(0x666c6f63, 0x6b206120, 0x74616b65, 0x7320313d, 0x313b2020);
        CHECK.same("teach() behind trim(7)", x.teach(), 0);
        CHECK.same("allowance() behind trim(7)", x.allowance(), 7);
        CHECK.same("flocks() behind trim(7)", x.flocks(), 1);
    }

    private static void teachEmptiesTheTape() {
        CommaStream x = new CommaStream();
        Check.feed(x, "moon 3;");
        CHECK.same("teach()", x.teach(), 0);
        CHECK.throwsArgument(x, "trim(1) behind teach()", () -> x.trim(1));
        Check.feed(x, "moon moon");
        CHECK.same("teach() with an error", x.teach(), 1);
        CHECK.same("errorAt()", x.errorAt(), 5);
        CHECK.throwsArgument(x, "trim(1) behind an error", () -> x.trim(1));
        CHECK.same("allowance() behind an error", x.allowance(), 3);
        CHECK.same("teach() of nothing", x.teach(), 0);
        CHECK.same("errorAt() of nothing", x.errorAt(), -1);
        CHECK.same("allowance() of nothing", x.allowance(), 5);
    }

    private static CommaStream lively() {
        CommaStream x = Check.taught("moon 4,2;" + FLOCK + "goose g on a every 3 tells count;");
        x.comma(9, 1, 1, 1);
        x.comma(20, 1, 1, 1);
        x.comma(2, 1, 1, 1);
        x.passNights(1);
        return x;
    }

    private static void teachBeginsAnew() {
        CommaStream x = lively();
        CHECK.same("commas() ahead of teach()", x.commas(), 3);
        CHECK.same("tellings() ahead of teach()", x.tellings(), 1);
        CHECK.same("lateInAll() ahead of teach()", x.lateInAll(), 1);
        Check.feed(x, "flock b takes 1=2; flock c takes in b; goose h on c gap 9 tells count;");
        CHECK.same("teach()", x.teach(), 0);
        CHECK.same("flocks()", x.flocks(), 2);
        CHECK.same("geese()", x.geese(), 1);
        CHECK.same("flockOf(0)", x.flockOf(0), 1);
        CHECK.same("commas()", x.commas(), 0);
        CHECK.same("nights()", x.nights(), 0);
        CHECK.same("phase()", x.phase(), 0);
        CHECK.same("allowance()", x.allowance(), 5);
        CHECK.same("greatestHour()", x.greatestHour(), -1);
        CHECK.same("watermark()", x.watermark(), 0);
        CHECK.same("lateInAll()", x.lateInAll(), 0);
        CHECK.same("tellings()", x.tellings(), 0);
        CHECK.same("openWindows(0)", x.openWindows(0), 0);
        CHECK.same("latestIn(0)", x.latestIn(0), -1);
    }

    private static void errorKeepsAll() {
        CommaStream x = lively();
        long before = x.digest();
        String[] wrong = {"flock", "flock b takes 1=1; flock b takes 1=1;", "goose h on z gap 5 tells count;",
            "moon 1,1,1,1,1,1,1,1,1;", "flock n takes 2=2; goose o on n every 201 tells count;"};
        for (int i = 0; i < wrong.length; i++) {
            Check.feed(x, wrong[i]);
            CHECK.same("teach() of " + wrong[i], x.teach(), i + 1);
            CHECK.same("digest() behind " + wrong[i], x.digest(), before);
        }
        CHECK.same("wouldTake behind errors", x.wouldTake(0, 0, 0, 0, 0), true);
        CHECK.same("comma behind errors", x.comma(30, 0, 0, 0), 1);
    }

    /** Teaches a new stream the text, and compares the error and where it is. */
    private static void due(String text, int error, int place) {
        CommaStream x = new CommaStream();
        Check.feed(x, text);
        String shown = text.length() > 90 ? text.substring(0, 90) + ".." : text;
        CHECK.same("teach() of " + shown, x.teach(), error);
        CHECK.same("errorAt() of " + shown, x.errorAt(), place);
    }

    private static void fine(String text) {
        due(text, 0, -1);
    }

    private static void tokens() {
        fine("");
        fine(" \n \n");
        fine(FLOCK);
        fine("flock\na\ntakes\n1\n=\n1\n;");
        fine("moon 05,0099;");
        fine("moon1;flock a takes 1<2;");
        fine("flock abcdefgh takes 9999=1;");
        due("flock abcdefghi takes 1=1;", 1, 6);
        due("flock a takes 10000=1;", 1, 14);
        due("flock a takes 00001=1;", 1, 14);
        due("flock a takes 1=1\t;", 1, 17);
        due("flock a takes 1=1\r;", 1, 17);
        due("flock A takes 1=1;", 1, 6);
        due("flock a.takes 1=1;", 1, 7);
        due("flock a takes 1=1;\0", 1, 18);
        due("flock a takes 1=1;\u00ff", 1, 18);
        due("flock a takes 1/1;", 1, 15);
        due("flock a9 takes 1=1;", 1, 7);
        due("flocka takes 1=1;", 1, 0);
        due("{", 1, 0);
        due("`", 1, 0);
        due(" @", 1, 1);
        due(":", 1, 0);
        fine("flock a takes 2*hour+3*kind-weight<wing;");
        due("flock a takes 12hour=1;", 1, 16);
    }

    private static String plusOnes(String first, int often) {
        StringBuilder text = new StringBuilder(first);
        for (int i = 0; i < often; i++) {
            text.append("+1");
        }
        return text.toString();
    }

    private static void manyTokens() {
        // 5 tokens, 196 times 2, and 3 are 400
        String most = plusOnes("flock a takes not 1", 196) + "=1;";
        fine(most);
        fine(most + " \n ");
        due(most + ";", 1, most.length());
        due(most + " flock b takes 1=1;", 1, most.length() + 1);
        String more = plusOnes("flock a takes not not 1", 196) + "=1;";
        due(more, 1, more.length() - 1);
        // the first line has 7 tokens: 393 of the second one are left, 5 and 194 times 2
        due("flock b takes 1=1;" + most, 1, 18 + 19 + 194 * 2);
        // the 401st token is told ahead of the name that is no flock
        String named = plusOnes("goose g on a gap 1 tells sum of 1", 195) + ";";
        due(named, 1, named.length() - 1);
        due(plusOnes("goose g on a gap 1 tells sum of 1", 194) + ";", 3, 11);
        due("flock ; " + most, 1, 6);
    }

    private static void grammar() {
        due("moon;", 1, 4);
        due("moon 1", 1, 6);
        due("moon 1  ", 1, 8);
        due("moon 1,;", 1, 7);
        due("moon 1 2;", 1, 7);
        due("moon ,1;", 1, 5);
        due("moon 5;moon 6;", 1, 7);
        due(FLOCK + "moon 5;", 1, 18);
        due(";", 1, 0);
        due("a", 1, 0);
        due("flock", 1, 5);
        due("flock 1", 1, 6);
        due("flock moon takes 1=1;", 1, 6);
        due("flock count takes 1=1;", 1, 6);
        due("flock a", 1, 7);
        due("flock a 1=1;", 1, 8);
        due("flock a takes", 1, 13);
        due("flock a takes ;", 1, 14);
        due("flock a takes 1;", 1, 15);
        due("flock a takes 1=;", 1, 16);
        due("flock a takes =1;", 1, 14);
        due("flock a takes 1=1", 1, 17);
        due("flock a takes 1=1=1;", 1, 17);
        due("flock a takes 1<>1;", 1, 16);
        due("flock a takes b;", 1, 14);
        due("flock a takes in;", 1, 16);
        due("flock a takes in 1;", 1, 17);
        due("flock a takes in hour;", 1, 17);
        due("flock a takes not;", 1, 17);
        due("flock a takes not not 1=1 not;", 1, 26);
        due("flock a takes 1=1 and;", 1, 21);
        due("flock a takes 1=1 or or 1=1;", 1, 21);
        due("flock a takes 1=1 or;", 1, 20);
        due("flock a takes 1=1+;", 1, 18);
        due("flock a takes 1=1*;", 1, 18);
        due("flock;", 1, 5);
        due("flock a;", 1, 7);
        due("flock a takes and 1=1;", 1, 14);
        due("flock a takes [1=1;", 1, 18);
        due("flock a takes [1]=1;", 1, 16);
        due("flock a takes (1=1);", 1, 16);
        due("flock a takes 1=1];", 1, 17);
        due("flock a takes [1=1)];", 1, 18);
        due("flock a takes ();", 1, 15);
        due("flock a takes [];", 1, 15);
        due("flock a takes (1=1;", 1, 16);
        due("flock a takes -1=1;", 1, 14);
        due("flock a takes 1+=1;", 1, 16);
        due("flock a takes 1**1=1;", 1, 16);
        due("flock a takes 1 1=1;", 1, 16);
        due("flock a takes count=1;", 1, 14);
        fine("flock a takes not not not [1=1 or not 2>1 and [3<4]] and not 0=1;");
        fine("flock a takes ((1+2)*(3-hour)-1)*2>weight*(wing+kind);");
        due(FLOCK + "goose", 1, 23);
        due(FLOCK + "goose;", 1, 23);
        due(FLOCK + "goose g;", 1, 25);
        due(FLOCK + "goose g on;", 1, 28);
        due(FLOCK + "goose g on a;", 1, 30);
        due(FLOCK + "goose on a every 5 tells count;", 1, 24);
        due(FLOCK + "goose g a every 5 tells count;", 1, 26);
        due(FLOCK + "goose g on every 5 tells count;", 1, 29);
        due(FLOCK + "goose g on a tells count;", 1, 31);
        due(FLOCK + "goose g on a every tells count;", 1, 37);
        due(FLOCK + "goose g on a every hour tells count;", 1, 37);
        due(FLOCK + "goose g on a every 5 step tells count;", 1, 44);
        due(FLOCK + "goose g on a every 5 count;", 1, 39);
        due(FLOCK + "goose g on a gap 5 step 1 tells count;", 1, 37);
        due(FLOCK + "goose g on a gap tells count;", 1, 35);
        due(FLOCK + "goose g on a every 5 tells;", 1, 44);
        due(FLOCK + "goose g on a every 5 tells count of hour;", 1, 51);
        due(FLOCK + "goose g on a every 5 tells sum hour;", 1, 49);
        due(FLOCK + "goose g on a every 5 tells sum of;", 1, 51);
        due(FLOCK + "goose g on a every 5 tells most of in a;", 1, 53);
        due(FLOCK + "goose g on a every 5 tells least of (hour;", 1, 59);
        due(FLOCK + "goose g on a every 5 tells hour;", 1, 45);
        due(FLOCK + "goose g on a every 5 tells count", 1, 50);
        fine(FLOCK + "goose g on a every 5 step 5 tells least of (hour+1)*2;goose h on a gap 200 tells most of 3;");
        fine(FLOCK + "goose g on a gap 1 tells count;flock b takes in a;goose h on b every 1 tells count;");
    }

    private static void nesting() {
        fine("flock a takes [[[[[[1=1]]]]]];");
        due("flock a takes [[[[[[[1=1]]]]]]];", 1, 20);
        fine("flock a takes ((((((1))))))=((((((1))))));");
        due("flock a takes (((((((1)))))))=1;", 1, 20);
        due("flock a takes 1=(((((((1)))))));", 1, 22);
        fine("flock a takes [[[(((hour)+1))=1]]];");
        due("flock a takes [[[((((1))))=1]]];", 1, 20);
        fine("flock a takes [[[[[[1=1]]]]]] and [[[[[[1=1]]]]]] or (1)=(((((2)))));");
        fine(FLOCK + "goose g on a gap 5 tells sum of ((((((hour))))));");
        due(FLOCK + "goose g on a gap 5 tells sum of (((((((hour)))))));", 1, 18 + 38);
    }

    private static void names() {
        due("flock a takes 1=1;flock a takes 1=1;", 2, 24);
        due(FLOCK + "goose a on a gap 5 tells count;", 2, 24);
        due(FLOCK + "goose g on a gap 5 tells count;flock g takes 1=1;", 2, 55);
        due(FLOCK + "goose g on a gap 5 tells count;goose g on a gap 5 tells count;", 2, 55);
        fine("flock a takes 1=1;flock aa takes in a;flock b takes in aa and in a;");
        due("flock a takes in a;", 3, 17);
        due("flock a takes in b;flock b takes 1=1;", 3, 17);
        due(FLOCK + "goose g on g gap 5 tells count;", 3, 29);
        due(FLOCK + "goose g on b gap 5 tells count;flock b takes 1=1;", 3, 29);
        due(FLOCK + "goose g on a gap 5 tells count;flock b takes in g;", 3, 66);
        due(FLOCK + "goose g on a gap 5 tells count;goose h on g gap 5 tells count;", 3, 60);
        fine("flock baaaaaaa takes 1=1;flock aaaaaaaa takes 1=1;flock aaaaaaab takes in aaaaaaaa;");
        due("flock baaaaaaa takes 1=1;flock aaaaaaab takes in aaaaaaaa;", 3, 49);
        due("flock abcdefgh takes 1=1;flock b takes in abcdefg;", 3, 42);
        due("flock a takes 1=1;flock z takes 1=1;flock b takes in az;", 3, 53);
    }

    private static void tooMany() {
        StringBuilder flocks = new StringBuilder();
        for (int i = 0; i < 8; i++) {
            flocks.append("flock f").append((char) ('a' + i)).append(" takes hour>").append(i).append(';');
        }
        fine(flocks.toString());
        due(flocks + "flock more takes 1=1;", 4, flocks.length() + 6);
        due(flocks + "flock fc takes 1=1;", 2, flocks.length() + 6);
        due(flocks + "flock more takes 1=1;flock moree takes 1=1;", 4, flocks.length() + 6);
        due(flocks + "flock more takes in more;", 4, flocks.length() + 6);
        StringBuilder geese = new StringBuilder(flocks);
        for (int i = 0; i < 6; i++) {
            geese.append("goose g").append((char) ('a' + i)).append(" on fh gap 5 tells count;");
        }
        fine(geese.toString());
        due(geese + "goose more on fa gap 5 tells count;", 4, geese.length() + 6);
        due(geese + "goose ga on fa gap 5 tells count;", 2, geese.length() + 6);
        due(geese + "goose fa on fa gap 5 tells count;", 2, geese.length() + 6);
        due(geese + "goose more on fa gap 5 tells;", 1, geese.length() + 28);
        fine("moon 1,2,3,4,5,6,7,8;");
        due("moon 1,2,3,4,5,6,7,8,9;", 4, 21);
        due("moon 1,2,3,4,5,6,7,8,100;", 4, 21);
        due("moon 1,2,3,4,5,6,7,8,9,10,11;", 4, 21);
        due("moon 1,2,3,4,5,6,7,100,9;", 5, 19);
    }

    private static void numbers() {
        fine("moon 0,99;");
        due("moon 100;", 5, 5);
        due("moon 3,9999;", 5, 7);
        String goose = FLOCK + "goose g on a ";
        int at = goose.length();
        fine(goose + "every 1 tells count;");
        fine(goose + "every 200 tells count;");
        due(goose + "every 0 tells count;", 5, at + 6);
        due(goose + "every 201 tells count;", 5, at + 6);
        fine(goose + "gap 1 tells count;");
        fine(goose + "gap 200 tells count;");
        due(goose + "gap 0 tells count;", 5, at + 4);
        due(goose + "gap 201 tells count;", 5, at + 4);
        fine(goose + "every 1 step 1 tells count;");
        fine(goose + "every 6 step 1 tells count;");
        due(goose + "every 7 step 1 tells count;", 5, at + 13);
        fine(goose + "every 12 step 2 tells count;");
        fine(goose + "every 13 step 2 tells count;");
        due(goose + "every 14 step 2 tells count;", 5, at + 14);
        due(goose + "every 12 step 0 tells count;", 5, at + 14);
        due(goose + "every 12 step 13 tells count;", 5, at + 14);
        fine(goose + "every 12 step 12 tells count;");
        fine(goose + "every 200 step 33 tells count;");
        fine(goose + "every 200 step 29 tells count;");
        due(goose + "every 200 step 28 tells count;", 5, at + 15);
        due(goose + "every 0 step 0 tells count;", 5, at + 6);
        due(goose + "every 999 step 999 tells count;", 5, at + 6);
    }

    private static void orderOfErrors() {
        due("moon 100;flock a takes 1=1;flock a takes 1=1;", 5, 5);
        due("flock a takes in b;flock a takes 1=1;", 3, 17);
        due("flock a takes 1=1;flock a takes in c;", 2, 24);
        due("moon 100;flock a takes in b;goose a on c every 0 step 9 tells count", 1, 67);
        due("moon 100;flock a takes in b;;", 1, 28);
        due("flock a takes 1=1; % ; flock a takes 1=1;", 1, 19);
        due(FLOCK + "goose g on b every 0 tells count;", 3, 29);
        due(FLOCK + "goose a on b every 0 tells count;", 2, 24);
    }
}
