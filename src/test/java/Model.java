import java.util.ArrayList;
import java.util.List;
import java.util.TreeMap;

/**
 * The document once more, without regard for its cost: it keeps every comma, looks at windows one by one,
 * and answers what would be by doing it on a copy. ModelTest compares the class with it.
 */
final class Model {
    static final class Flaw extends RuntimeException {
        private static final long serialVersionUID = 1L;
        final int at;

        Flaw(int at) {
            this.at = at;
        }
    }

    record Comma(int hour, int kind, int weight, int wing, boolean[] in) { }

    interface Test {
        boolean holds(Comma comma);
    }

    interface Value {
        int of(Comma comma);
    }

    record Token(String text, int at) { }

    record Error(int at, int number) { }

    record Goose(int flock, boolean gap, int length, int step, String telling, Value value) { }

    static final class Window {
        final int start;
        final int end;
        final List<Comma> commas = new ArrayList<>();

        Window(int start, int end) {
            this.start = start;
            this.end = end;
        }
    }

    record Telling(int goose, int start, int end, int count, int value) { }

    static final class Book {
        final List<Integer> moon = new ArrayList<>();
        final List<Test> flocks = new ArrayList<>();
        final List<Goose> geese = new ArrayList<>();
    }

    String tape = "";
    int errorAt = -1;
    Book book = new Book();
    List<Comma> commas = new ArrayList<>();
    int nights;
    int greatest = -1;
    int watermark;
    List<Telling> told = new ArrayList<>();
    List<TreeMap<Integer, Window>> open = new ArrayList<>();
    int[] late = new int[0];

    Model copy() {
        Model copy = new Model();
        copy.book = book;
        copy.commas = new ArrayList<>(commas);
        copy.nights = nights;
        copy.greatest = greatest;
        copy.watermark = watermark;
        copy.told = new ArrayList<>(told);
        for (TreeMap<Integer, Window> windows : open) {
            copy.open.add(new TreeMap<>(windows));
        }
        copy.late = late.clone();
        return copy;
    }

    // ---- the book

    int teach() {
        Reader reader = new Reader(tape);
        tape = "";
        errorAt = -1;
        try {
            reader.book();
        } catch (Flaw flaw) {
            errorAt = flaw.at;
            return 1;
        }
        Error first = null;
        for (Error error : reader.errors) {
            if (first == null || error.at < first.at || error.at == first.at && error.number < first.number) {
                first = error;
            }
        }
        if (first != null) {
            errorAt = first.at;
            return first.number;
        }
        book = reader.book;
        commas.clear();
        nights = 0;
        greatest = -1;
        watermark = 0;
        told.clear();
        open.clear();
        for (int i = 0; i < book.geese.size(); i++) {
            open.add(new TreeMap<>());
        }
        late = new int[book.geese.size()];
        return 0;
    }

    static final class Reader {
        final List<Token> tokens = new ArrayList<>();
        final List<Error> errors = new ArrayList<>();
        final List<String> flocks = new ArrayList<>();
        final List<String> all = new ArrayList<>();
        final Book book = new Book();
        int next;

        Reader(String tape) {
            int at = 0;
            while (at < tape.length()) {
                char sign = tape.charAt(at);
                int end = at + 1;
                if (sign == ' ' || sign == '\n') {
                    at++;
                    continue;
                }
                String same = letter(sign) ? "[a-z]" : digit(sign) ? "[0-9]" : null;
                while (same != null && end < tape.length() && ("" + tape.charAt(end)).matches(same)) {
                    end++;
                }
                String text = tape.substring(at, end);
                boolean good = letter(sign) && text.length() <= 8 || digit(sign) && text.length() <= 4
                    || "()[];,<>=+-*".indexOf(sign) >= 0;
                tokens.add(new Token(good && tokens.size() < 400 ? text : "?", at));
                at = end;
            }
            tokens.add(new Token("", tape.length()));
        }

        static boolean letter(char sign) {
            return sign >= 'a' && sign <= 'z';
        }

        static boolean digit(char sign) {
            return sign >= '0' && sign <= '9';
        }

        String text() {
            return tokens.get(next).text;
        }

        int at() {
            return tokens.get(next).at;
        }

        Flaw flaw() {
            return new Flaw(at());
        }

        boolean eat(String text) {
            if (!text().equals(text)) {
                return false;
            }
            next++;
            return true;
        }

        void must(String text) {
            if (!eat(text)) {
                throw flaw();
            }
        }

        void err(boolean wrong, int at, int number) {
            if (wrong) {
                errors.add(new Error(at, number));
            }
        }

        int number() {
            if (!text().matches("[0-9]+")) {
                throw flaw();
            }
            return Integer.parseInt(tokens.get(next++).text);
        }

        String name() {
            List<String> keys = List.of("moon", "flock", "takes", "in", "not", "and", "or", "hour", "kind",
                "weight", "wing", "goose", "on", "every", "step", "gap", "tells", "count", "sum", "most",
                "least", "of");
            if (!text().matches("[a-z]+") || keys.contains(text())) {
                throw flaw();
            }
            return tokens.get(next++).text;
        }

        void book() {
            if (eat("moon")) {
                do {
                    int at = at();
                    book.moon.add(number());
                    err(book.moon.size() >= 9, at, 4);
                    err(book.moon.get(book.moon.size() - 1) > 99, at, 5);
                } while (eat(","));
                must(";");
            }
            while (!text().equals("")) {
                if (eat("flock")) {
                    flock();
                } else if (eat("goose")) {
                    goose();
                } else {
                    throw flaw();
                }
                must(";");
            }
        }

        void flock() {
            int at = at();
            String name = name();
            err(all.contains(name), at, 2);
            err(book.flocks.size() >= 8, at, 4);
            must("takes");
            book.flocks.add(test(0));
            all.add(name);
            flocks.add(name);
        }

        int knownFlock() {
            int at = at();
            int flock = flocks.indexOf(name());
            err(flock < 0, at, 3);
            return flock;
        }

        void goose() {
            int at = at();
            String name = name();
            err(all.contains(name), at, 2);
            err(book.geese.size() >= 6, at, 4);
            must("on");
            int flock = knownFlock();
            boolean gap = eat("gap");
            if (!gap) {
                must("every");
            }
            at = at();
            int length = number();
            int step = length;
            err(length < 1 || length > 200, at, 5);
            if (!gap && eat("step")) {
                at = at();
                step = number();
                err(step < 1 || step > length, at, 5);
                err(step >= 1 && length / step > 6, at, 5);
            }
            must("tells");
            String telling = text();
            Value value = comma -> 1;
            if (!eat("count")) {
                if (!eat("sum") && !eat("most") && !eat("least")) {
                    throw flaw();
                }
                must("of");
                value = value(0);
            }
            all.add(name);
            book.geese.add(new Goose(flock, gap, length, step, telling, value));
        }

        Test test(int deep) {
            Test left = both(deep);
            while (eat("or")) {
                Test one = left;
                Test other = both(deep);
                left = comma -> one.holds(comma) || other.holds(comma);
            }
            return left;
        }

        Test both(int deep) {
            Test left = single(deep);
            while (eat("and")) {
                Test one = left;
                Test other = single(deep);
                left = comma -> one.holds(comma) && other.holds(comma);
            }
            return left;
        }

        Test single(int deep) {
            if (eat("not")) {
                Test kept = single(deep);
                return comma -> !kept.holds(comma);
            }
            if (text().equals("[") && deep < 6) {
                next++;
                Test kept = test(deep + 1);
                must("]");
                return kept;
            }
            if (eat("in")) {
                int flock = knownFlock();
                return comma -> comma.in[flock];
            }
            Value left = value(deep);
            String sign = text();
            if (!eat("<") && !eat(">") && !eat("=")) {
                throw flaw();
            }
            Value right = value(deep);
            return comma -> {
                int order = Integer.compare(left.of(comma), right.of(comma));
                return sign.equals("<") ? order < 0 : sign.equals(">") ? order > 0 : order == 0;
            };
        }

        Value value(int deep) {
            Value left = product(deep);
            while (text().equals("+") || text().equals("-")) {
                boolean plus = tokens.get(next++).text.equals("+");
                Value one = left;
                Value other = product(deep);
                left = comma -> plus ? one.of(comma) + other.of(comma) : one.of(comma) - other.of(comma);
            }
            return left;
        }

        Value product(int deep) {
            Value left = atom(deep);
            while (eat("*")) {
                Value one = left;
                Value other = atom(deep);
                left = comma -> one.of(comma) * other.of(comma);
            }
            return left;
        }

        Value atom(int deep) {
            if (text().equals("(") && deep < 6) {
                next++;
                Value value = value(deep + 1);
                must(")");
                return value;
            }
            if (eat("hour")) {
                return Comma::hour;
            }
            if (eat("kind")) {
                return Comma::kind;
            }
            if (eat("weight")) {
                return Comma::weight;
            }
            if (eat("wing")) {
                return Comma::wing;
            }
            int number = number();
            return comma -> number;
        }
    }

    // ---- what comes

    int phase() {
        return book.moon.isEmpty() ? 0 : nights % book.moon.size();
    }

    int allowance() {
        return book.moon.isEmpty() ? 5 : book.moon.get(phase());
    }

    Comma judged(int hour, int kind, int weight, int wing) {
        Comma comma = new Comma(hour, kind, weight, wing, new boolean[book.flocks.size()]);
        for (int i = 0; i < book.flocks.size(); i++) {
            comma.in[i] = book.flocks.get(i).holds(comma);
        }
        return comma;
    }

    int comma(int hour, int kind, int weight, int wing) {
        Comma comma = judged(hour, kind, weight, wing);
        commas.add(comma);
        arrive(comma);
        return takers(comma);
    }

    static int takers(Comma comma) {
        int takers = 0;
        for (boolean in : comma.in) {
            takers += in ? 1 : 0;
        }
        return takers;
    }

    void arrive(Comma comma) {
        for (int i = 0; i < book.geese.size(); i++) {
            Goose goose = book.geese.get(i);
            if (comma.in[goose.flock] && !put(goose, open.get(i), comma)) {
                late[i]++;
            }
        }
        greatest = Math.max(greatest, comma.hour);
        watermark = Math.max(watermark, greatest - allowance());
        tell();
    }

    boolean put(Goose goose, TreeMap<Integer, Window> windows, Comma comma) {
        if (goose.gap) {
            return putWithGap(goose, windows, comma);
        }
        boolean kept = false;
        for (int start = 0; start <= comma.hour; start += goose.step) {
            int end = start + goose.length;
            if (comma.hour < end && end > watermark) {
                Window had = windows.get(start);
                Window window = new Window(start, end);
                if (had != null) {
                    window.commas.addAll(had.commas);
                }
                window.commas.add(comma);
                windows.put(start, window);
                kept = true;
            }
        }
        return kept;
    }

    boolean putWithGap(Goose goose, TreeMap<Integer, Window> windows, Comma comma) {
        if (comma.hour + goose.length <= watermark) {
            return false;
        }
        boolean[] own = new boolean[2000];
        for (int hour = comma.hour; hour < comma.hour + goose.length; hour++) {
            own[hour] = true;
        }
        int start = comma.hour;
        int end = comma.hour + goose.length;
        List<Comma> joined = new ArrayList<>();
        for (Window window : List.copyOf(windows.values())) {
            boolean common = false;
            for (int hour = window.start; hour < window.end; hour++) {
                common |= own[hour];
            }
            if (common) {
                windows.remove(window.start);
                joined.addAll(window.commas);
                start = Math.min(start, window.start);
                end = Math.max(end, window.end);
            }
        }
        joined.add(comma);
        Window window = new Window(start, end);
        window.commas.addAll(joined);
        windows.put(start, window);
        return true;
    }

    void tell() {
        for (int i = 0; i < book.geese.size(); i++) {
            for (Window window : List.copyOf(open.get(i).values())) {
                if (window.end <= watermark) {
                    open.get(i).remove(window.start);
                    told.add(new Telling(i, window.start, window.end, window.commas.size(),
                        value(book.geese.get(i), window)));
                }
            }
        }
    }

    static int value(Goose goose, Window window) {
        int value = goose.value.of(window.commas.get(0));
        for (Comma comma : window.commas.subList(1, window.commas.size())) {
            int one = goose.value.of(comma);
            switch (goose.telling) {
                case "most":
                    value = value > one ? value : one;
                    break;
                case "least":
                    value = value < one ? value : one;
                    break;
                default:
                    value += one;
            }
        }
        return value;
    }

    int passNights(int often) {
        int before = told.size();
        for (int i = 0; i < often; i++) {
            nights++;
            watermark = Math.max(watermark, greatest - allowance());
            tell();
        }
        return told.size() - before;
    }

    int end() {
        int before = told.size();
        watermark = 2000;
        tell();
        return told.size() - before;
    }

    // ---- what would be

    Comma unwanted(int hour) {
        return new Comma(hour, 0, 0, 0, new boolean[book.flocks.size()]);
    }

    int wouldBeLate(int hour) {
        Model copy = copy();
        int before = 0;
        int behind = 0;
        for (int i = 0; i < late.length; i++) {
            before += late[i];
        }
        Comma comma = unwanted(hour);
        java.util.Arrays.fill(comma.in, true);
        copy.arrive(comma);
        for (int i = 0; i < late.length; i++) {
            behind += copy.late[i];
        }
        return behind - before;
    }

    int wouldTell(int hour) {
        Model copy = copy();
        copy.arrive(unwanted(hour));
        return copy.told.size() - told.size();
    }

    int hourToTell(int goose) {
        for (int hour = 0; hour < 1000; hour++) {
            Model copy = copy();
            copy.arrive(unwanted(hour));
            for (Telling telling : copy.told.subList(told.size(), copy.told.size())) {
                if (telling.goose == goose) {
                    return hour;
                }
            }
        }
        return -1;
    }

    int nightsUntilTelling() {
        for (int often = 1; often <= 30; often++) {
            if (copy().passNights(often) > 0) {
                return often;
            }
        }
        return -1;
    }

    int fullest() {
        int fullest = -1;
        for (int i = told.size() - 1; i >= 0; i--) {
            if (fullest < 0 || told.get(i).count >= told.get(fullest).count) {
                fullest = i;
            }
        }
        return fullest;
    }

    double meanCount() {
        double sum = 0;
        for (Telling telling : told) {
            sum += telling.count;
        }
        return told.isEmpty() ? 0 : sum / told.size();
    }

    int sizeOf(int flock) {
        int size = 0;
        for (Comma comma : commas) {
            size += comma.in[flock] ? 1 : 0;
        }
        return size;
    }

    int latestIn(int flock) {
        int latest = -1;
        for (int i = 0; i < commas.size(); i++) {
            latest = commas.get(i).in[flock] ? i : latest;
        }
        return latest;
    }

    int lateInAll() {
        int sum = 0;
        for (int one : late) {
            sum += one;
        }
        return sum;
    }

    long digest() {
        List<Integer> row = new ArrayList<>(List.of(book.flocks.size(), book.geese.size(), commas.size(),
            nights, phase(), allowance(), greatest, watermark, lateInAll(), told.size()));
        row.addAll(List.of(fullest(), nightsUntilTelling()));
        for (int i = 0; i < book.flocks.size(); i++) {
            row.addAll(List.of(sizeOf(i), latestIn(i)));
        }
        for (int i = 0; i < book.geese.size(); i++) {
            row.addAll(List.of(book.geese.get(i).flock, late[i], open.get(i).size(), hourToTell(i)));
            for (Window window : open.get(i).values()) {
                row.addAll(List.of(window.start, window.end, window.commas.size(),
                    value(book.geese.get(i), window)));
            }
        }
        for (Telling telling : told) {
            row.addAll(List.of(telling.goose, telling.start, telling.end, telling.count, telling.value));
        }
        long d = 1973;
        for (int one : row) {
            d = d * 31 + one;
        }
        return d;
    }
}
