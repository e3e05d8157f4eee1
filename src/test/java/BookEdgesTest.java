import java.util.ArrayList;
import java.util.List;

/** Promises 1 to 5 and part 1 of the terms, sentence by sentence, at the boundaries that they name. */
public final class BookEdgesTest {
    private static final Check CHECK = new Check();
    private static final String FLOCK = "flock a takes 1=1;";
    private static final String[] KEYWORDS = {"moon", "flock", "takes", "in", "not", "and", "or", "hour", "kind",
        "weight", "wing", "goose", "on", "every", "step", "gap", "tells", "count", "sum", "most", "least", "of"};
    private static final String RICH = "moon 3 , 10 ; flock all takes hour > 0 or not not hour = 0 and 1 < 2 ;"
        + " flock odd takes [ in all and [ kind = ( 1 + 2 ) * 3 - 8 ] ] ; goose gus on odd every 12 step 4 tells"
        + " sum of weight * ( wing - 2 ) ; goose eva on all gap 6 tells most of hour ; goose ivo on all every 9"
        + " tells least of kind ; goose ada on all every 7 tells count ;";

    public static void main(String[] args) {
        tapeOfTheGreatestLength();
        tapeBehindRefusedCalls();
        placesOfBytes();
        trimLeavesTheFirst();
        everyByte();
        wordsAndNumbers();
        fourHundredTokens();
        keywordsAreNoNames();
        theEndAndWrongTokens();
        bracketsInEachOther();
        namesOfOtherBooks();
        mostOfAll();
        numbersBehindWords();
        stepsAtSix();
        firstError();
        errorsLeaveAll();
        booksOneBehindTheOther();
        longestBooks();
        errorAtStays();
        CHECK.end();
    }

    private static void due(String text, int error, int place) {
        CommaStream x = new CommaStream();
        feed(x, text);
        String shown = text.length() > 90 ? text.substring(0, 90) + ".." : text;
        CHECK.same("teach() of " + shown, x.teach(), error);
        CHECK.same("errorAt() of " + shown, x.errorAt(), place);
    }

    private static void fine(String text) {
        due(text, 0, -1);
    }

    /** Unlike Check.feed this one takes texts up to 1600 signs to an empty tape. */
    private static void feed(CommaStream x, String text) {
        for (int from = 0; from < text.length(); from += 20) {
            int[] row = new int[5];
            for (int i = 0; i < 20; i++) {
                int sign = from + i < text.length() ? text.charAt(from + i) & 255 : 32;
                row[i / 4] = row[i / 4] << 8 | sign;
            }
            x.feed(row[0], row[1], row[2], row[3], row[4]);
        }
        x.trim(text.length());
    }

    private static String padded(String first, String last) {
        return first + " ".repeat(1600 - first.length() - last.length()) + last;
    }

    private static void lengthIs(CommaStream x, int length) {
        CHECK.throwsArgument(x, "trim(" + (length + 1) + ")", () -> x.trim(length + 1));
        CHECK.same("trim(" + length + ")", x.trim(length), length);
    }

    // "a row of at most 1600 bytes"
    private static void tapeOfTheGreatestLength() {
        fine(padded(FLOCK, "flock b takes in a;"));
        due(padded(FLOCK, ";"), 1, 1599);
        due(padded(FLOCK, "flock"), 1, 1600);
        due(padded("moon 1", ""), 1, 1600);
        due(padded(FLOCK, "flock b takes in c;"), 3, 1598);
        fine("\n".repeat(1600));
        due("a".repeat(1600), 1, 0);
        due("moon " + "1".repeat(1595), 1, 5);
        due(padded("", "\u0000"), 1, 1599);
    }

    // "A method that throws an exception changes nothing", for the tape
    private static void tapeBehindRefusedCalls() {
        for (int length : new int[] {1581, 1590, 1599, 1600}) {
            CommaStream x = new CommaStream();
            feed(x, padded("moon 7;" + FLOCK, ""));
            x.trim(length);
            CHECK.throwsState(x, "feed with " + length, () -> x.feed(-1, -1, -1, -1, -1));
            lengthIs(x, length);
            CHECK.throwsArgument(x, "trim(-1)", () -> x.trim(-1));
            CHECK.throwsArgument(x, "trim(least)", () -> x.trim(Integer.MIN_VALUE));
            CHECK.throwsArgument(x, "trim(most)", () -> x.trim(Integer.MAX_VALUE));
            lengthIs(x, length);
            CHECK.same("teach() behind refused calls", x.teach(), 0);
            CHECK.same("allowance() behind refused calls", x.allowance(), 7);
            CHECK.same("flocks() behind refused calls", x.flocks(), 1);
            lengthIs(x, 0);
        }
        CommaStream x = new CommaStream();
        feed(x, padded("", ""));
        x.trim(1580);
        CHECK.same("feed with 1580", x.feed(0x20202020, 0x20202020, 0x20202020, 0x20202020, 0x2020203b), 1600);
        CHECK.same("teach() of the last byte", x.teach(), 1);
        CHECK.same("errorAt() of the last byte", x.errorAt(), 1599);
        // calls of another part that are refused leave the tape alone, too
        feed(x, FLOCK);
        CHECK.throwsArgument(x, "comma(1000, 0, 0, 0)", () -> x.comma(1000, 0, 0, 0));
        CHECK.throwsIndex(x, "hourOf(0)", () -> x.hourOf(0));
        lengthIs(x, FLOCK.length());
        CHECK.same("teach() of the flock", x.teach(), 0);
        CHECK.same("flocks()", x.flocks(), 1);
    }

    // "the four bytes of each number, the highest one first"
    private static void placesOfBytes() {
        for (int place = 0; place < 20; place++) {
            int[] row = {0x20202020, 0x0a0a0a0a, 0x20202020, 0x0a202020, 0x2020200a};
            int shift = 24 - place % 4 * 8;
            row[place / 4] = row[place / 4] & ~(255 << shift) | 0xff << shift;
            CommaStream x = new CommaStream();
            CHECK.same("feed", x.feed(row[0], row[1], row[2], row[3], row[4]), 20);
            CHECK.same("teach() with a wrong byte " + place, x.teach(), 1);
            CHECK.same("errorAt() with a wrong byte " + place, x.errorAt(), place);
        }
    }

    // "Leaves the first bytes of the tape alone"; "if bytes is not 0 to how many there are"
    private static void trimLeavesTheFirst() {
        CommaStream x = new CommaStream();
        lengthIs(x, 0);
        String text = "moon 7;moon 8;" + "x".repeat(26);
        feed(x, text);
        lengthIs(x, 40);
        CHECK.same("trim(39)", x.trim(39), 39);
        lengthIs(x, 39);
        CHECK.same("trim(7)", x.trim(7), 7);
        CHECK.same("feed behind trim(7)", x.feed(0x20202020, 0x20202020, 0x20202020, 0x20202020, 0x20202020), 27);
        CHECK.same("teach()", x.teach(), 0);
        CHECK.same("allowance()", x.allowance(), 7);
        feed(x, text);
        CHECK.same("trim(0)", x.trim(0), 0);
        lengthIs(x, 0);
        CHECK.same("teach() behind trim(0)", x.teach(), 0);
        CHECK.same("allowance() behind trim(0)", x.allowance(), 5);
    }

    /** Each byte as what stands between two numbers, and as all that there is. */
    private static void everyByte() {
        for (int sign = 0; sign < 256; sign++) {
            char one = (char) sign;
            boolean blank = sign == 32 || sign == 10;
            boolean digit = one >= '0' && one <= '9';
            if (blank) {
                fine("" + one);
                due("flock a takes 1" + one + "2=1;", 1, 16);
            } else if (digit) {
                due("" + one, 1, 0);
                fine("flock a takes 1" + one + "2=1;");
            } else if (one == '+' || one == '-' || one == '*') {
                due("" + one, 1, 0);
                fine("flock a takes 1" + one + "2=1;");
            } else if (one == '<' || one == '>' || one == '=') {
                due("" + one, 1, 0);
                due("flock a takes 1" + one + "2=1;", 1, 17);
            } else {
                due("" + one, 1, 0);
                due("flock a takes 1" + one + "2=1;", 1, 15);
            }
            boolean letter = one >= 'a' && one <= 'z';
            if (letter || blank) {
                fine("flock a" + one + " takes 1=1;");
            } else {
                due("flock a" + one + " takes 1=1;", 1, 7);
            }
        }
    }

    // "a word, .. at most 8 of them; a number, .. at most 4"; "are one word, .. are one number"
    private static void wordsAndNumbers() {
        String eight = "flock abcdefgh takes 1=1;";
        fine(eight + "goose hgfedcba on abcdefgh every 5 tells count;flock zzzzzzzz takes in abcdefgh;");
        due("flock abcdefghi takes 1=1;", 1, 6);
        due(eight + "goose hgfedcbaa on abcdefgh every 5 tells count;", 1, 31);
        due(eight + "goose g on abcdefghh every 5 tells count;", 1, 36);
        due(eight + "flock b takes in abcdefghh;", 1, 42);
        due("floc k a takes 1=1;", 1, 0);
        due("flockflock a takes 1=1;", 1, 0);
        due("flock a takestak 1=1;", 1, 8);
        due("flock a takes notnot 1=1;", 1, 14);
        fine("flock a takes not[1=1]and not 1=2or not 3=3;");
        fine("flock a takes 1=1and 2=2;");
        fine("moon 0000,0099;");
        due("moon 0100;", 5, 5);
        due("moon 00099;", 1, 5);
        due("moon 1,00000;", 1, 7);
        fine("flock a takes 9999>9998;");
        due("flock a takes 9999>99980;", 1, 19);
        due("flock a takes 00000=0;", 1, 14);
        String goose = FLOCK + "goose g on a ";
        fine(goose + "every 0012 step 0006 tells sum of 9999;");
        due(goose + "every 00012 tells count;", 1, goose.length() + 6);
        due(goose + "every 12 step 00006 tells count;", 1, goose.length() + 14);
        due(goose + "gap 00012 tells count;", 1, goose.length() + 4);
        due(goose + "gap 12 tells sum of 10000;", 1, goose.length() + 20);
        due("moon 1 2;", 1, 7);
        due("moon 1\n2;", 1, 7);
    }

    // "At most 400 tokens; if there are more, the next one is a wrong token."
    private static void fourHundredTokens() {
        // 3 tokens ahead of the nots, and 4 behind them
        String most = "flock b takes" + " not".repeat(393) + " 1=1;";
        fine(most);
        fine(most + " ");
        due(most + ";", 1, most.length());
        due(most + "\nflock", 1, most.length() + 1);
        due(most + "\n%", 1, most.length() + 1);
        due(most.replace(";", " "), 1, most.length());
        String more = "flock b takes" + " not".repeat(394) + " 1=1;";
        due(more, 1, more.length() - 1);
        due("flock b takes" + " not".repeat(396) + "1", 1, 13 + 396 * 4 + 1);
        // the other errors are told of 400 tokens, but not of 401
        String known = "flock b takes" + " not".repeat(395) + " in ";
        due(known + ";", 1, known.length());
        due("flock b takes" + " not".repeat(394) + " in b;", 3, 13 + 394 * 4 + 4);
        due("flock b takes" + " not".repeat(395) + " in b;", 1, 13 + 395 * 4 + 5);
        String phases = "moon " + "1,".repeat(198) + "1;";
        due(phases, 4, 21);
        due(phases + "flock", 1, phases.length() + 5);
        due(phases + "flock a", 1, phases.length() + 6);
        // a token that cannot stand there is told ahead of the 401st
        due("flock b flock" + " not".repeat(396), 1, 8);
        due("(".repeat(1600), 1, 0);
    }

    private static void keywordsAreNoNames() {
        for (String word : KEYWORDS) {
            due("flock " + word + " takes 1=1;", 1, 6);
            due(FLOCK + "goose " + word + " on a every 5 tells count;", 1, 24);
            due(FLOCK + "goose g on " + word + " every 5 tells count;", 1, 29);
            due(FLOCK + "flock b takes in " + word + ";", 1, 35);
            String longer = word + "x";
            fine("flock " + longer + " takes 1=1;flock y takes in " + longer + ";goose z on " + longer
                + " gap 5 tells count;");
            String shorter = word.substring(0, word.length() - 1);
            fine("flock " + shorter + " takes 1=1;flock y takes in " + shorter + ";");
        }
    }

    // "a token that cannot stand there (a wrong one, too, and the end, if something is missing)"
    private static void theEndAndWrongTokens() {
        fine(RICH);
        List<Integer> begins = new ArrayList<>();
        for (int i = 0; i < RICH.length(); i++) {
            if (RICH.charAt(i) != ' ' && (i == 0 || RICH.charAt(i - 1) == ' ')) {
                begins.add(i);
            }
        }
        CHECK.same("tokens of the rich book", begins.size(), 94);
        for (int i = 0; i < begins.size(); i++) {
            int from = begins.get(i);
            String ahead = RICH.substring(0, from);
            if (ahead.isEmpty() || ahead.endsWith("; ")) {
                fine(ahead);
            } else {
                due(ahead, 1, from);
                due(ahead.substring(0, from - 1), 1, from - 1);
            }
            int to = i + 1 < begins.size() ? begins.get(i + 1) - 1 : RICH.length();
            due(ahead + "?" + RICH.substring(to), 1, from);
            due(ahead + "moon" + RICH.substring(to), i == 0 ? 0 : 1, i == 0 ? -1 : from);
        }
        due("moon", 1, 4);
        due("moon 1,", 1, 7);
        due("moon 1, \n", 1, 9);
    }

    // "may be at most six in each other"
    private static void bracketsInEachOther() {
        for (int tests = 0; tests <= 7; tests++) {
            for (int values = 0; values <= 7; values++) {
                String head = "flock a takes " + "[".repeat(tests) + "(".repeat(values);
                String text = head + "hour" + ")".repeat(values) + "=5" + "]".repeat(tests) + ";";
                if (tests + values <= 6) {
                    fine(text);
                    CommaStream x = Check.taught(text);
                    CHECK.same("comma of 5 with " + text, x.comma(5, 0, 0, 0), 1);
                    CHECK.same("comma of 6 with " + text, x.comma(6, 0, 0, 0), 0);
                } else {
                    due(text, 1, 20);
                }
            }
        }
        // those that stand beside each other do not count
        fine("flock a takes [[[[[[1=1]]] and [[[1=1]]]]]] or [[[[[(1)+(2)*(3)=(4)]]]]];");
        due("flock a takes [[[[[[1=1]]] and [[[[1=1]]]]]]];", 1, 34);
        due("flock a takes [[[[[[(1)=1]]]]]];", 1, 20);
        fine("flock a takes [[[[[[1=1]]]]]];flock b takes ((((((1))))))=((((((1))))));");
        String goose = FLOCK + "goose g on a gap 5 tells sum of ";
        fine(goose + "((((((1))))))+((((((2))))))*((((((3))))));");
        due(goose + "((((((1))))))+(((((((2)))))));", 1, goose.length() + 20);
        // six deep with something left to do at each level
        CommaStream x = Check.taught("flock a takes 1=2 or 1=1 and [1=2 or 1=1 and [1=2 or 1=1 and"
            + " 1+2*(1+2*(1+2*(1+2*hour)))=31]];");
        CHECK.same("comma of 1, six deep", x.comma(1, 0, 0, 0), 1);
        CHECK.same("comma of 2, six deep", x.comma(2, 0, 0, 0), 0);
    }

    /** What is told in a book, is told in that one alone. */
    private static void namesOfOtherBooks() {
        CommaStream x = Check.taught(FLOCK + "goose g on a gap 5 tells count;");
        feed(x, "goose g on a gap 5 tells count;");
        CHECK.same("teach() on a flock of another book", x.teach(), 3);
        CHECK.same("errorAt() on a flock of another book", x.errorAt(), 11);
        feed(x, "flock g takes 1=1;goose a on g gap 5 tells count;");
        CHECK.same("teach() with names of another book", x.teach(), 0);
        feed(x, "flock a takes 1=1;flock a takes 1=1;");
        CHECK.same("teach() with a name twice", x.teach(), 2);
        feed(x, FLOCK);
        CHECK.same("teach() with a name of a book that was none", x.teach(), 0);
        feed(x, "flock b takes in a;");
        CHECK.same("teach() in a flock of the book ahead", x.teach(), 3);
        // a name as long as can be differs in its first letter, or in its last one
        fine("flock aaaaaaaa takes 1=1;flock baaaaaaa takes 1=1;flock aaaaaaab takes 1=1;goose aaaaaaa on aaaaaaab"
            + " gap 5 tells count;goose z on baaaaaaa gap 5 tells count;");
        due("flock zzzzzzzz takes 1=1;flock zzzzzzzz takes 1=1;", 2, 31);
    }

    private static String flocks(int count) {
        StringBuilder text = new StringBuilder();
        for (int i = 0; i < count; i++) {
            text.append("flock f").append((char) ('a' + i)).append(" takes hour>").append(i).append(';');
        }
        return text.toString();
    }

    private static String geese(int count) {
        StringBuilder text = new StringBuilder();
        for (int i = 0; i < count; i++) {
            text.append("goose g").append((char) ('a' + i)).append(" on f").append((char) ('a' + i))
                .append(" gap 5 tells count;");
        }
        return text.toString();
    }

    // "the name of the 9th flock, of the 7th goose, or the 9th number of the moon"
    private static void mostOfAll() {
        CommaStream x = Check.taught("moon 8,7,6,5,4,3,2,1;" + flocks(8) + geese(6));
        CHECK.same("flocks()", x.flocks(), 8);
        CHECK.same("geese()", x.geese(), 6);
        CHECK.same("comma(8, 0, 0, 0)", x.comma(8, 0, 0, 0), 8);
        CHECK.same("comma(7, 0, 0, 0)", x.comma(7, 0, 0, 0), 7);
        CHECK.same("isIn(7, 0)", x.isIn(7, 0), true);
        CHECK.same("isIn(7, 1)", x.isIn(7, 1), false);
        CHECK.same("flockOf(5)", x.flockOf(5), 5);
        CHECK.same("openCount(5, 0)", x.openCount(5, 0), 2);
        x.passNights(7);
        CHECK.same("allowance() of the 8th number", x.allowance(), 1);
        int at = flocks(8).length() + 6;
        due(flocks(9), 4, at);
        due(flocks(10), 4, at);
        due(flocks(8) + geese(6) + "flock i takes 1=1;", 4, (flocks(8) + geese(6)).length() + 6);
        due(flocks(7) + geese(7), 4, (flocks(7) + geese(6)).length() + 6);
        due(flocks(8) + geese(8), 4, (flocks(8) + geese(6)).length() + 6);
        due("moon 1,2,3,4,5,6,7,8,9;" + flocks(9), 4, 21);
        // what is told behind the name of one too many is looked at for the smallest error alone
        due(flocks(8) + "flock i takes in fz;", 4, at);
        due(flocks(8) + "flock i takes in i;flock j takes in i;", 4, at);
        due(flocks(8) + "flock i takes in fz", 1, flocks(8).length() + 19);
        due(flocks(8) + geese(6) + "goose i on fz every 0 step 9 tells count;", 4,
            (flocks(8) + geese(6)).length() + 6);
        // the same token has two errors
        due(flocks(8) + "flock fa takes 1=1;", 2, at);
        due(flocks(8) + geese(6) + "flock ga takes 1=1;", 2, (flocks(8) + geese(6)).length() + 6);
        due(flocks(8) + geese(6) + "goose gf on fa gap 5 tells count;", 2, (flocks(8) + geese(6)).length() + 6);
        due("moon 1,2,3,4,5,6,7,8,9999;", 4, 21);
        due("moon 1,2,3,4,5,6,7,8,00009;", 1, 21);
    }

    // "a number of the moon is greater than 99, the one behind every or gap is not 1 to 200"
    private static void numbersBehindWords() {
        for (int i = 0; i < 8; i++) {
            String ahead = "moon " + "1,".repeat(i);
            fine(ahead + "99;");
            fine(ahead + "0;");
            due(ahead + "100;", 5, ahead.length());
        }
        for (String word : new String[] {"every ", "gap "}) {
            String ahead = FLOCK + "goose g on a " + word;
            fine(ahead + "1 tells count;");
            fine(ahead + "200 tells count;");
            due(ahead + "0 tells count;", 5, ahead.length());
            due(ahead + "201 tells count;", 5, ahead.length());
            due(ahead + "9999 tells count;", 5, ahead.length());
            due(ahead + "hour tells count;", 1, ahead.length());
            due(ahead + "(5) tells count;", 1, ahead.length());
        }
    }

    // "the one behind step is not 1 to that behind every, or goes into that more than 6 times"
    private static void stepsAtSix() {
        String ahead = FLOCK + "goose g on a every ";
        for (int step = 1; step <= 28; step++) {
            String six = ahead + (7 * step - 1) + " step ";
            fine(six + step + " tells count;");
            String seven = ahead + 7 * step + " step ";
            due(seven + step + " tells count;", 5, seven.length());
            fine(ahead + 6 * step + " step " + step + " tells count;");
        }
        for (int length : new int[] {1, 2, 6, 7, 100, 199, 200}) {
            String text = ahead + length + " step ";
            fine(text + length + " tells count;");
            due(text + (length + 1) + " tells count;", 5, text.length());
            due(text + "0 tells count;", 5, text.length());
            due(text + "9999 tells count;", 5, text.length());
        }
        fine(ahead + "200 step 29 tells count;");
        due(ahead + "200 step 28 tells count;", 5, ahead.length() + 9);
        due(ahead + "200 step 1 tells count;", 5, ahead.length() + 9);
        // a wrong number behind every is told ahead of one behind step
        due(ahead + "0 step 0 tells count;", 5, ahead.length());
        due(ahead + "0 step 1 tells count;", 5, ahead.length());
        due(ahead + "201 step 100 tells count;", 5, ahead.length());
        due(ahead + "201 step 202 tells count;", 5, ahead.length());
    }

    /** Of any two errors of a book the first one is told, but 1 is told ahead of all others. */
    private static void firstError() {
        String[] good = {"moon 9;", "flock a takes 1=1;", "flock b takes in a;", "goose g on b every 9 tells count;",
            "goose h on b every 9 step 3 tells count;", "flock c takes 1=1;"};
        String[] wrong = {"moon 100;", "flock b takes 1=1;", "flock b takes in x;", "goose g on x every 9 tells count;",
            "goose h on b every 9 step 1 tells count;", "flock h takes 1=1;"};
        int[] numbers = {5, 0, 3, 3, 5, 2};
        int[] places = {5, 0, 17, 11, 26, 6};
        for (int i = 0; i < good.length; i++) {
            for (int j = i; j < good.length; j++) {
                if (i == 1 || j == 1) {
                    continue;
                }
                String text = "";
                int at = -1;
                for (int k = 0; k < good.length; k++) {
                    at = k == i ? text.length() + places[i] : at;
                    text += k == i || k == j ? wrong[k] : good[k];
                }
                due(text, numbers[i], at);
                due(text + "!", 1, text.length());
                due(text + "flock", 1, text.length() + 5);
            }
        }
        due("flock a takes 1=1;flock b takes in x;flock b takes 1=1;", 3, 35);
        due("flock a takes 1=1;flock a takes in x;", 2, 24);
        due("flock a takes in a;", 3, 17);
        due(FLOCK + "goose g on g every 0 tells count;", 3, 29);
        due(FLOCK + "goose a on x every 0 tells count;", 2, 24);
    }

    private static CommaStream lively() {
        CommaStream x = Check.taught("moon 4,2,9;" + FLOCK + "flock b takes kind=1 and in a;"
            + "goose g on a every 6 step 2"
            + " tells sum of weight;goose h on b gap 7 tells most of wing-hour;");
        x.comma(9, 1, 10, 1);
        x.comma(20, 1, 20, 2);
        x.comma(2, 0, 30, 3);
        x.comma(17, 0, 40, 4);
        x.passNights(2);
        return x;
    }

    // "otherwise all stays as it was, but the tape", looked at beside a stream that was not taught again
    private static void errorsLeaveAll() {
        String other = "moon 0,0;flock z takes 1=2;flock y takes not in z;flock x takes 1=1;"
            + "goose w on y gap 1 tells count;goose v on x every 1 tells least of 0-1;";
        String[] wrong = {"moon 1;flock", other + "%", other + "flock z takes 1=1;",
            other + "goose u on t gap 5 tells count;", "moon 1,2,3,4,5,6,7,8,9;" + other.substring(9),
            other + "goose u on x gap 201 tells count;", "?"};
        int[] errors = {1, 1, 2, 3, 4, 5, 1};
        for (int i = 0; i < wrong.length; i++) {
            CommaStream x = lively();
            CommaStream twin = lively();
            feed(x, wrong[i]);
            CHECK.same("teach() of " + wrong[i], x.teach(), errors[i]);
            CHECK.same("errorAt() of " + wrong[i], x.errorAt() >= 0, true);
            lengthIs(x, 0);
            goOn(x, twin, wrong[i]);
        }
    }

    private static void goOn(CommaStream x, CommaStream twin, String what) {
        CHECK.same("digest() behind " + what, x.digest(), twin.digest());
        for (int i = 0; i < x.commas(); i++) {
            CHECK.same("hourOf(" + i + ") behind " + what, x.hourOf(i), twin.hourOf(i));
            CHECK.same("flocksOf(" + i + ") behind " + what, x.flocksOf(i), twin.flocksOf(i));
            CHECK.same("isIn(1, " + i + ") behind " + what, x.isIn(1, i), twin.isIn(1, i));
        }
        for (int i = 0; i < 8; i++) {
            CHECK.same("comma behind " + what, x.comma(18 + i * 3, i % 3, i, i), twin.comma(18 + i * 3, i % 3, i, i));
            CHECK.same("wouldTake behind " + what, x.wouldTake(1, i, i % 2, 0, 0), twin.wouldTake(1, i, i % 2, 0, 0));
            CHECK.same("passNights behind " + what, x.passNights(1), twin.passNights(1));
            CHECK.same("digest() going on behind " + what, x.digest(), twin.digest());
        }
        CHECK.same("end() behind " + what, x.end(), twin.end());
        CHECK.same("digest() at the end behind " + what, x.digest(), twin.digest());
    }

    // "Without an error all begins anew", however many books there were, and errors between them
    private static void booksOneBehindTheOther() {
        String[] books = {"moon 3,4,5;" + flocks(8) + geese(6), "flock a takes hour<kind;", "moon 9;"
            + "flock z takes not 1=1;flock y takes"
            + " [in z or kind=2];"
                + "goose x on y every 10 step 5 tells least of wing*weight;", "", "moon 0,0,0,0,0,0,0,1;",
            flocks(3) + geese(2), "moon 2;" + flocks(8) + geese(6)};
        CommaStream x = new CommaStream();
        for (int i = 0; i < 3 * books.length; i++) {
            String book = books[i % books.length];
            if (i % 3 == 1) {
                feed(x, "moon 1,2;" + flocks(9));
                CHECK.same("teach() of 9 flocks", x.teach(), 4);
            }
            feed(x, book);
            CHECK.same("teach() of book " + i, x.teach(), 0);
            CommaStream fresh = Check.taught(book);
            CHECK.same("book " + i + " as in a new object", Check.told(x).equals(Check.told(fresh)), true);
            for (int j = 0; j < 6; j++) {
                CHECK.same("comma in book " + i, x.comma(j * 4, j % 3, j, j), fresh.comma(j * 4, j % 3, j, j));
            }
            CHECK.same("passNights in book " + i, x.passNights(3), fresh.passNights(3));
            CHECK.same("digest() in book " + i, x.digest(), fresh.digest());
        }
    }

    /** Books of 400 tokens, and errors in such ones, leave room for the next. */
    private static void longestBooks() {
        // 5 tokens, 196 times 2, and 3 are 400
        String sum = "flock a takes not hour" + "+1".repeat(196) + "=";
        CommaStream x = new CommaStream();
        for (int i = 0; i < 5; i++) {
            feed(x, sum + (196 + i) + ";");
            CHECK.same("teach() of 400 tokens", x.teach(), 0);
            CHECK.same("wouldTake of the hour of 400 tokens", x.wouldTake(0, i, 0, 0, 0), false);
            CHECK.same("wouldTake of another hour", x.wouldTake(0, i + 1, 0, 0, 0), true);
            feed(x, sum + "1;;");
            CHECK.same("teach() of 401 tokens", x.teach(), 1);
            CHECK.same("wouldTake behind 401 tokens", x.wouldTake(0, i, 0, 0, 0), false);
            CHECK.same("wouldTake of another hour behind 401", x.wouldTake(0, i + 1, 0, 0, 0), true);
        }
    }

    // "the token of the latest error of teach(); -1 if the latest one had none, or there was none"
    private static void errorAtStays() {
        CommaStream x = new CommaStream();
        CHECK.same("errorAt() at first", x.errorAt(), -1);
        feed(x, "  ;");
        CHECK.same("errorAt() ahead of teach()", x.errorAt(), -1);
        CHECK.same("teach()", x.teach(), 1);
        CHECK.same("errorAt()", x.errorAt(), 2);
        feed(x, FLOCK + FLOCK);
        x.comma(5, 0, 0, 0);
        x.passNights(1);
        x.end();
        CHECK.same("errorAt() ahead of the next teach()", x.errorAt(), 2);
        CHECK.same("teach() with another", x.teach(), 2);
        CHECK.same("errorAt() of another", x.errorAt(), 24);
        feed(x, "%");
        x.teach();
        CHECK.same("errorAt() of the first byte", x.errorAt(), 0);
        feed(x, FLOCK);
        x.teach();
        CHECK.same("errorAt() without an error", x.errorAt(), -1);
        x.teach();
        CHECK.same("errorAt() of an empty tape", x.errorAt(), -1);
    }
}
