import java.util.ArrayList;
import java.util.List;
import java.util.Random;

/** All promises: long runs of calls, drawn from fixed seeds, answer what Model answers. */
public final class ModelTest {
    private static final Check CHECK = new Check();
    private static int taughtWell;
    private static final int[] ERRORS = new int[6];

    public static void main(String[] args) {
        for (int seed = 1; seed <= 12000; seed++) {
            books(new Random(seed));
        }
        for (int seed = 1; seed <= 400; seed++) {
            run(new Random(seed), seed);
        }
        System.out.println(taughtWell + " books without an error; of the errors "
            + java.util.Arrays.toString(ERRORS));
        CHECK.end();
    }

    // ---- books, right and wrong

    private static void books(Random random) {
        CommaStream stream = new CommaStream();
        Model model = new Model();
        String text = new Author(random, random.nextInt(4) == 0).book();
        if (random.nextInt(3) > 0) {
            text = spoiled(random, text);
        }
        if (text.length() > 1600) {
            text = text.substring(0, 1600);
        }
        teach(stream, model, text);
    }

    private static void teach(CommaStream stream, Model model, String text) {
        if (text.length() <= 1580) {
            Check.feed(stream, text);
        } else {
            Check.feed(stream, text.substring(0, 1560));
            feedRest(stream, text.substring(1560));
        }
        model.tape = text;
        int error = model.teach();
        CHECK.same("teach() of " + text, stream.teach(), error);
        CHECK.same("errorAt() of " + text, stream.errorAt(), model.errorAt);
        ERRORS[error]++;
        taughtWell += error == 0 ? 1 : 0;
    }

    private static void feedRest(CommaStream stream, String text) {
        StringBuilder padded = new StringBuilder(text);
        while (padded.length() < 40) {
            padded.append(' ');
        }
        for (int i = 0; i < 40; i += 20) {
            int[] row = new int[5];
            for (int j = 0; j < 20; j++) {
                row[j / 4] = row[j / 4] << 8 | padded.charAt(i + j) & 255;
            }
            stream.feed(row[0], row[1], row[2], row[3], row[4]);
        }
        stream.trim(1560 + text.length());
    }

    private static String spoiled(Random random, String text) {
        List<String> words = new ArrayList<>(List.of(text.split("(?<=[ ;])|(?=[ ;])")));
        String[] others = {"moon", "flock", "takes", "in", "not", "and", "or", "hour", "kind", "weight", "wing",
            "goose", "on", "every", "step", "gap", "tells", "count", "sum", "most", "least", "of", "(", ")", "[",
            "]", ";", ",", "<", ">", "=", "+", "-", "*", "0", "1", "7", "99", "100", "200", "201", "9999", "10000",
            "a", "b", "name", "abcdefgh", "abcdefghi", "\t", "Z", "\u00e9", "\0", "\n", "%"};
        for (int i = random.nextInt(3); i >= 0 && words.size() > 1; i--) {
            int place = random.nextInt(words.size());
            String other = random.nextBoolean() ? others[random.nextInt(others.length)]
                : words.get(random.nextInt(words.size()));
            switch (random.nextInt(4)) {
                case 0:
                    words.remove(place);
                    break;
                case 1:
                    words.set(place, other);
                    break;
                case 2:
                    words.add(place, " " + other + " ");
                    break;
                default:
                    words.subList(place, words.size()).clear();
                    break;
            }
        }
        return String.join("", words);
    }

    /** Writes books by the grammar; a careless author does not look at names and numbers. */
    private static final class Author {
        private final Random random;
        private final boolean careless;
        private final List<String> flocks = new ArrayList<>();
        private int names;

        Author(Random random, boolean careless) {
            this.random = random;
            this.careless = careless;
        }

        private int upTo(int least, int most) {
            return least + random.nextInt(most - least + 1);
        }

        String book() {
            StringBuilder text = new StringBuilder();
            if (random.nextInt(3) > 0) {
                text.append("moon ").append(phase());
                for (int i = upTo(0, careless ? 9 : 7); i > 0; i--) {
                    text.append(random.nextBoolean() ? "," : " , ").append(phase());
                }
                text.append(";");
            }
            int geese = 0;
            for (int i = upTo(0, careless ? 16 : 11); i > 0; i--) {
                if (!flocks.isEmpty() && random.nextInt(2) == 0 && (careless || geese < 6)) {
                    text.append(goose());
                    geese++;
                } else if (careless || flocks.size() < 8) {
                    text.append(flock());
                }
            }
            return text.toString();
        }

        private int phase() {
            return random.nextInt(5) == 0 ? upTo(0, careless ? 101 : 99) : upTo(0, 20);
        }

        private String newName() {
            String name = "n" + (char) ('a' + names++ % 26) + (random.nextInt(9) == 0 ? "xxxxxx" : "");
            return careless && random.nextInt(20) == 0 ? flocks.isEmpty() ? name : flocks.get(0) : name;
        }

        private String aFlock() {
            return careless && random.nextInt(20) == 0 ? "other" : flocks.get(random.nextInt(flocks.size()));
        }

        private String flock() {
            String name = newName();
            String line = "flock " + name + " takes " + (random.nextInt(4) == 0 ? "1=1" : test(upTo(0, 5))) + ";";
            flocks.add(name);
            return line;
        }

        private String goose() {
            String line = "goose " + newName() + " on " + aFlock();
            int length = random.nextInt(3) == 0 ? upTo(careless ? 0 : 1, careless ? 205 : 200) : upTo(1, 25);
            if (random.nextInt(5) < 2) {
                line += " gap " + length;
            } else {
                line += " every " + length;
                if (random.nextInt(3) > 0) {
                    line += " step " + (careless ? upTo(0, length + 1) : upTo(length / 7 + 1, length));
                }
            }
            String[] tellings = {" tells count", " tells sum of ", " tells most of ", " tells least of "};
            int telling = upTo(0, 3);
            return line + tellings[telling] + (telling == 0 ? "" : value(upTo(0, 4))) + ";";
        }

        private String test(int deep) {
            switch (upTo(0, deep < 1 ? 2 : 7)) {
                case 0:
                    if (!flocks.isEmpty()) {
                        return "in " + aFlock();
                    }
                    return value(deep) + ">" + value(deep);
                case 1:
                    return value(deep - 1) + "<" + value(deep - 1);
                case 2:
                    return value(deep - 1) + (random.nextInt(3) == 0 ? " = " : " > ") + value(deep - 1);
                case 3:
                    return "[" + test(deep - 1) + "]";
                case 4:
                    return "not " + (random.nextBoolean() ? "[" + test(deep - 1) + "]" : "not 1 = kind");
                case 5:
                    return test(deep - 1) + " and " + test(deep - 1);
                default:
                    return test(deep - 1) + " or " + test(deep - 1);
            }
        }

        private String value(int deep) {
            String[] atoms = {"hour", "kind", "weight", "wing"};
            switch (upTo(0, deep < 1 ? 5 : 9)) {
                case 0: case 1: case 2: case 3:
                    return atoms[upTo(0, 3)];
                case 4:
                    return "" + upTo(0, 60);
                case 5:
                    return "" + (random.nextInt(4) == 0 ? upTo(0, 9999) : upTo(0, 9));
                case 6:
                    return "(" + value(deep - 1) + ")";
                case 7:
                    return value(deep - 1) + "+" + value(deep - 1);
                case 8:
                    return value(deep - 1) + "-" + value(deep - 1);
                default:
                    return value(deep - 1) + "*" + value(deep - 1);
            }
        }
    }

    // ---- runs

    private static void run(Random random, int seed) {
        CommaStream stream = new CommaStream();
        Model model = new Model();
        String text = "";
        for (int i = 0; i < 20 && !text.contains("goose"); i++) {
            text = new Author(random, false).book();
        }
        teach(stream, model, text);
        int hour = random.nextInt(100);
        int pace = 1 + random.nextInt(25);
        for (int i = 0; i < 60; i++) {
            String at = "run " + seed + " step " + i + " of " + text + ": ";
            int choice = random.nextInt(20);
            if (choice < 14) {
                hour = Math.max(0, Math.min(999, hour + random.nextInt(3 * pace) - pace));
                int near = Math.max(0, hour - random.nextInt(1 + random.nextInt(1 + 4 * pace)));
                int come = random.nextInt(12) == 0 ? random.nextInt(1000) : near;
                int kind = random.nextInt(10);
                int weight = random.nextInt(100);
                int wing = random.nextInt(10);
                CHECK.same(at + "comma", stream.comma(come, kind, weight, wing),
                    model.comma(come, kind, weight, wing));
            } else if (choice < 18) {
                int nights = 1 + random.nextInt(random.nextInt(4) == 0 ? 30 : 2);
                CHECK.same(at + "passNights", stream.passNights(nights), model.passNights(nights));
            } else if (choice == 18 && random.nextInt(12) == 0) {
                CHECK.same(at + "end()", stream.end(), model.end());
            } else {
                ask(random, at, stream, model);
            }
            counts(at, stream, model);
        }
        CHECK.same("run " + seed + " of " + text + ": digest()", stream.digest(), model.digest());
        rows("run " + seed + ": ", stream, model);
    }

    private static void ask(Random random, String at, CommaStream stream, Model model) {
        int hour = random.nextInt(1000);
        int kind = random.nextInt(10);
        int weight = random.nextInt(100);
        int wing = random.nextInt(10);
        for (int i = 0; i < model.book.flocks.size(); i++) {
            CHECK.same(at + "wouldTake", stream.wouldTake(i, hour, kind, weight, wing),
                model.judged(hour, kind, weight, wing).in()[i]);
        }
        int near = Math.max(0, Math.min(999, model.watermark + random.nextInt(100) - 60));
        CHECK.same(at + "wouldBeLate(" + near + ")", stream.wouldBeLate(near), model.wouldBeLate(near));
        CHECK.same(at + "wouldTell(" + near + ")", stream.wouldTell(near), model.wouldTell(near));
        CHECK.same(at + "wouldTell(" + hour + ")", stream.wouldTell(hour), model.wouldTell(hour));
        for (int i = 0; i < model.book.geese.size(); i++) {
            CHECK.same(at + "hourToTell(" + i + ")", stream.hourToTell(i), model.hourToTell(i));
        }
    }

    private static void counts(String at, CommaStream stream, Model model) {
        CHECK.same(at + "flocks()", stream.flocks(), model.book.flocks.size());
        CHECK.same(at + "geese()", stream.geese(), model.book.geese.size());
        CHECK.same(at + "commas()", stream.commas(), model.commas.size());
        CHECK.same(at + "nights()", stream.nights(), model.nights);
        CHECK.same(at + "phase()", stream.phase(), model.phase());
        CHECK.same(at + "allowance()", stream.allowance(), model.allowance());
        CHECK.same(at + "greatestHour()", stream.greatestHour(), model.greatest);
        CHECK.same(at + "watermark()", stream.watermark(), model.watermark);
        CHECK.same(at + "lateInAll()", stream.lateInAll(), model.lateInAll());
        CHECK.same(at + "tellings()", stream.tellings(), model.told.size());
        CHECK.same(at + "fullestTelling()", stream.fullestTelling(), model.fullest());
        CHECK.same(at + "nightsUntilTelling()", stream.nightsUntilTelling(), model.nightsUntilTelling());
        CHECK.sameDouble(at + "meanCount()", stream.meanCount(), model.meanCount());
    }

    private static void rows(String at, CommaStream stream, Model model) {
        for (int i = 0; i < model.commas.size(); i++) {
            CHECK.same(at + "hourOf(" + i + ")", stream.hourOf(i), model.commas.get(i).hour());
            CHECK.same(at + "flocksOf(" + i + ")", stream.flocksOf(i), Model.takers(model.commas.get(i)));
            for (int j = 0; j < model.book.flocks.size(); j++) {
                CHECK.same(at + "isIn(" + j + ", " + i + ")", stream.isIn(j, i), model.commas.get(i).in()[j]);
            }
        }
        for (int i = 0; i < model.told.size(); i++) {
            Model.Telling telling = model.told.get(i);
            CHECK.same(at + "tellingGoose(" + i + ")", stream.tellingGoose(i), telling.goose());
            CHECK.same(at + "tellingStart(" + i + ")", stream.tellingStart(i), telling.start());
            CHECK.same(at + "tellingEnd(" + i + ")", stream.tellingEnd(i), telling.end());
            CHECK.same(at + "tellingCount(" + i + ")", stream.tellingCount(i), telling.count());
            CHECK.same(at + "tellingValue(" + i + ")", stream.tellingValue(i), telling.value());
        }
        for (int i = 0; i < model.book.geese.size(); i++) {
            CHECK.same(at + "lateFor(" + i + ")", stream.lateFor(i), model.late[i]);
            CHECK.same(at + "openWindows(" + i + ")", stream.openWindows(i), model.open.get(i).size());
            int place = 0;
            for (Model.Window window : model.open.get(i).values()) {
                CHECK.same(at + "openStart", stream.openStart(i, place), window.start);
                CHECK.same(at + "openEnd", stream.openEnd(i, place), window.end);
                CHECK.same(at + "openCount", stream.openCount(i, place), window.commas.size());
                CHECK.same(at + "openValue", stream.openValue(i, place),
                    Model.value(model.book.geese.get(i), window));
                place++;
            }
        }
    }
}
