import java.util.Arrays;

/** A stream of migrating commas: flocks take them, geese count them in windows of hours. */
public final class CommaStream {
    private static final int MAX_BYTES = 1600;
    private static final int MAX_TOKENS = 400;
    private static final int MAX_LETTERS = 8;
    private static final int MAX_DIGITS = 4;
    private static final int MAX_NESTING = 6;
    private static final int MAX_FLOCKS = 8;
    private static final int MAX_GEESE = 6;
    private static final int MAX_PHASES = 8;
    private static final int MAX_ALLOWANCE = 99;
    private static final int MAX_LENGTH = 200;
    private static final int MAX_STEPS = 6;
    private static final int MAX_COMMAS = 120;
    private static final int MAX_HOUR = 999;
    private static final int MAX_WEIGHT = 99;
    private static final int MAX_DIGIT = 9;
    private static final int MAX_NIGHTS = 30;
    private static final int USUAL_ALLOWANCE = 5;
    private static final int LAST_WATERMARK = 2000;

    /** A step may go 6 times into the length with a rest, and then 7 windows hold an hour. */
    private static final int MAX_OVERLAP = MAX_STEPS + 1;
    /**
     * The watermark is at most 99 behind the greatest hour, and what ends there is told: that leaves 99 + 7
     * starts for open windows, and a comma brings 7 more before the next are told.
     */
    private static final int MAX_OPEN = 128;
    /** A window holds a comma at least, and is told once. */
    private static final int MAX_TELLINGS = MAX_COMMAS * MAX_OVERLAP * MAX_GEESE;
    private static final int FIRST_TELLINGS = 64;
    /** Each level of brackets leaves two numbers on the stack at most. */
    private static final int MAX_STACK = 32;

    private static final int NO_ERROR = 0;
    private static final int WRONG_TOKEN = 1;
    private static final int NAME_NOT_NEW = 2;
    private static final int NOT_A_FLOCK = 3;
    private static final int TOO_MANY = 4;
    private static final int WRONG_NUMBER = 5;

    private static final Kind[] KINDS = Kind.values();

    private final Tape tape;
    private final Teacher teacher;
    private final Comma probe;
    private final int[] hours;
    private final int[] takers;
    private final Windows[] windows;
    private final Tellings told;
    private Book book;
    private int commas;
    private int nights;
    private int greatestHour;
    private int watermark;

    public CommaStream() {
        teacher = new Teacher();
        tape = teacher.tokens.tape;
        probe = new Comma();
        hours = new int[MAX_COMMAS];
        takers = new int[MAX_COMMAS];
        windows = new Windows[MAX_GEESE];
        for (int i = 0; i < windows.length; i++) {
            windows[i] = new Windows();
        }
        told = new Tellings();
        book = new Book();
        greatestHour = -1;
    }

    // ---- the book

    public int feed(int a, int b, int c, int d, int e) throws IllegalStateException {
        if (tape.length > MAX_BYTES - 20) {
            throw new IllegalStateException("the tape would be too long");
        }
        tape.append(a);
        tape.append(b);
        tape.append(c);
        tape.append(d);
        tape.append(e);
        return tape.length;
    }

    public int trim(int bytes) throws IllegalArgumentException {
        if (bytes < 0 || bytes > tape.length) {
            throw new IllegalArgumentException("the tape does not have so many bytes");
        }
        tape.length = bytes;
        return bytes;
    }

    public int teach() {
        teacher.read();
        tape.length = 0;
        if (teacher.error == NO_ERROR) {
            Book taught = teacher.book;
            teacher.book = book;
            book = taught;
            beginAnew();
        }
        return teacher.error;
    }

    public int errorAt() {
        return teacher.errorAt;
    }

    // ---- what comes

    public int comma(int hour, int kind, int weight, int wing)
            throws IllegalArgumentException, IllegalStateException {
        if (!isComma(hour, kind, weight, wing)) {
            throw new IllegalArgumentException("there is no such comma");
        }
        if (commas < 0 || commas >= hours.length || commas >= takers.length) {
            throw new IllegalStateException("no more commas can come");
        }
        probe.become(hour, kind, weight, wing);
        book.judge(probe);
        hours[commas] = hour;
        takers[commas] = probe.takers;
        commas++;
        countInGeese();
        greatestHour = Math.max(greatestHour, hour);
        watermark = watermarkBehind(greatestHour, nights);
        tellWhatIsOver();
        return Integer.bitCount(probe.takers);
    }

    public int passNights(int nights) throws IllegalArgumentException {
        if (nights < 1 || nights > MAX_NIGHTS) {
            throw new IllegalArgumentException("so many nights cannot go by");
        }
        int before = told.size;
        for (int i = 0; i < nights; i++) {
            this.nights++;
            watermark = watermarkBehind(greatestHour, this.nights);
            tellWhatIsOver();
        }
        return told.size - before;
    }

    public int end() {
        int before = told.size;
        watermark = LAST_WATERMARK;
        tellWhatIsOver();
        return told.size - before;
    }

    // ---- the stream

    public int flocks() {
        return book.flockCount;
    }

    public int geese() {
        return book.gooseCount;
    }

    public int commas() {
        return commas;
    }

    public int nights() {
        return nights;
    }

    public int phase() {
        return book.phaseIn(nights);
    }

    public int allowance() {
        return book.allowanceIn(nights);
    }

    public int greatestHour() {
        return greatestHour;
    }

    public int watermark() {
        return watermark;
    }

    public int lateInAll() {
        int late = 0;
        for (int i = 0; i < windows.length; i++) {
            late += windows[i].late;
        }
        return late;
    }

    public int tellings() {
        return told.size;
    }

    // ---- of commas and flocks

    public int hourOf(int comma) throws IndexOutOfBoundsException {
        requireComma(comma);
        return at(hours, comma);
    }

    public int flocksOf(int comma) throws IndexOutOfBoundsException {
        requireComma(comma);
        return Integer.bitCount(at(takers, comma));
    }

    public boolean isIn(int flock, int comma) throws IndexOutOfBoundsException {
        requireFlock(flock);
        requireComma(comma);
        return takes(flock, at(takers, comma));
    }

    public int sizeOf(int flock) throws IndexOutOfBoundsException {
        requireFlock(flock);
        int size = 0;
        for (int i = 0; i < commas; i++) {
            if (takes(flock, at(takers, i))) {
                size++;
            }
        }
        return size;
    }

    public int latestIn(int flock) throws IndexOutOfBoundsException {
        requireFlock(flock);
        for (int i = commas - 1; i >= 0; i--) {
            if (takes(flock, at(takers, i))) {
                return i;
            }
        }
        return -1;
    }

    // ---- of geese

    public int flockOf(int goose) throws IndexOutOfBoundsException {
        requireGoose(goose);
        return book.geese[goose].flock;
    }

    public int lateFor(int goose) throws IndexOutOfBoundsException {
        requireGoose(goose);
        return windows[goose].late;
    }

    public int openWindows(int goose) throws IndexOutOfBoundsException {
        requireGoose(goose);
        return windows[goose].size;
    }

    public int openStart(int goose, int window) throws IndexOutOfBoundsException {
        requireWindow(goose, window);
        return at(windows[goose].starts, window);
    }

    public int openEnd(int goose, int window) throws IndexOutOfBoundsException {
        requireWindow(goose, window);
        return at(windows[goose].ends, window);
    }

    public int openCount(int goose, int window) throws IndexOutOfBoundsException {
        requireWindow(goose, window);
        return at(windows[goose].counts, window);
    }

    public int openValue(int goose, int window) throws IndexOutOfBoundsException {
        requireWindow(goose, window);
        return at(windows[goose].values, window);
    }

    // ---- tellings

    public int tellingGoose(int telling) throws IndexOutOfBoundsException {
        requireTelling(telling);
        return at(told.geese, telling);
    }

    public int tellingStart(int telling) throws IndexOutOfBoundsException {
        requireTelling(telling);
        return at(told.starts, telling);
    }

    public int tellingEnd(int telling) throws IndexOutOfBoundsException {
        requireTelling(telling);
        return at(told.ends, telling);
    }

    public int tellingCount(int telling) throws IndexOutOfBoundsException {
        requireTelling(telling);
        return at(told.counts, telling);
    }

    public int tellingValue(int telling) throws IndexOutOfBoundsException {
        requireTelling(telling);
        return at(told.values, telling);
    }

    public int fullestTelling() {
        int fullest = -1;
        int most = 0;
        for (int i = 0; i < told.size; i++) {
            if (at(told.counts, i) > most) {
                fullest = i;
                most = at(told.counts, i);
            }
        }
        return fullest;
    }

    // ---- what would be

    public boolean wouldTake(int flock, int hour, int kind, int weight, int wing)
            throws IndexOutOfBoundsException, IllegalArgumentException {
        requireFlock(flock);
        if (!isComma(hour, kind, weight, wing)) {
            throw new IllegalArgumentException("there is no such comma");
        }
        probe.become(hour, kind, weight, wing);
        book.judge(probe);
        return takes(flock, probe.takers);
    }

    public int wouldBeLate(int hour) throws IllegalArgumentException {
        requireHour(hour);
        int late = 0;
        for (int i = 0; i < countedGeese(); i++) {
            if (book.geese[i].isLate(hour, watermark)) {
                late++;
            }
        }
        return late;
    }

    public int wouldTell(int hour) throws IllegalArgumentException {
        requireHour(hour);
        int mark = watermarkBehind(Math.max(greatestHour, hour), nights);
        int over = 0;
        for (int i = 0; i < windows.length; i++) {
            over += windows[i].countOver(mark);
        }
        return over;
    }

    public int hourToTell(int goose) throws IndexOutOfBoundsException {
        requireGoose(goose);
        if (windows[goose].size == 0) {
            return -1;
        }
        int hour = windows[goose].firstEnd() + book.allowanceIn(nights);
        return hour > MAX_HOUR ? -1 : hour;
    }

    public int nightsUntilTelling() {
        for (int i = 1; i <= MAX_NIGHTS; i++) {
            if (isAnyOver(watermarkBehind(greatestHour, nights + i))) {
                return i;
            }
        }
        return -1;
    }

    public double meanCount() {
        if (told.size < 1) {
            return 0;
        }
        int sum = 0;
        for (int i = 0; i < told.size; i++) {
            sum += at(told.counts, i);
        }
        return (double) sum / (double) told.size;
    }

    public long digest() {
        long d = 1973;
        d = d * 31 + flocks();
        d = d * 31 + geese();
        d = d * 31 + commas();
        d = d * 31 + nights();
        d = d * 31 + phase();
        d = d * 31 + allowance();
        d = d * 31 + greatestHour();
        d = d * 31 + watermark();
        d = d * 31 + lateInAll();
        d = d * 31 + tellings();
        d = d * 31 + fullestTelling();
        d = d * 31 + nightsUntilTelling();
        for (int i = 0; i < flocks(); i++) {
            d = d * 31 + sizeOf(i);
            d = d * 31 + latestIn(i);
        }
        for (int i = 0; i < geese(); i++) {
            d = digestOfGoose(d, i);
        }
        return digestOfTellings(d);
    }

    // ---- inside

    private void beginAnew() {
        commas = 0;
        nights = 0;
        greatestHour = -1;
        watermark = 0;
        told.size = 0;
        for (int i = 0; i < windows.length; i++) {
            windows[i].clear();
        }
    }

    /** Shows the comma that the probe is to each goose whose flock takes it. */
    private void countInGeese() {
        for (int i = 0; i < countedGeese(); i++) {
            Goose goose = book.geese[i];
            if (!takes(goose.flock, probe.takers)) {
                continue;
            }
            int value = book.valueFor(goose, probe);
            if (goose.isLate(probe.hour, watermark)) {
                windows[i].late++;
            } else if (goose.gap) {
                windows[i].countWithGap(goose, probe.hour, value);
            } else {
                windows[i].countEvery(goose, probe.hour, value, watermark);
            }
        }
    }

    private void tellWhatIsOver() {
        for (int i = 0; i < windows.length; i++) {
            windows[i].tell(i, watermark, told);
        }
    }

    /** What the watermark would be with that greatest hour, in the phase behind so many nights. */
    private int watermarkBehind(int greatest, int nightsGone) {
        return Math.max(watermark, greatest - book.allowanceIn(nightsGone));
    }

    private boolean isAnyOver(int mark) {
        for (int i = 0; i < windows.length; i++) {
            if (windows[i].countOver(mark) > 0) {
                return true;
            }
        }
        return false;
    }

    private int countedGeese() {
        return Math.min(book.gooseCount, Math.min(book.geese.length, windows.length));
    }

    private long digestOfGoose(long before, int goose) {
        long d = before;
        d = d * 31 + flockOf(goose);
        d = d * 31 + lateFor(goose);
        d = d * 31 + openWindows(goose);
        d = d * 31 + hourToTell(goose);
        for (int i = 0; i < openWindows(goose); i++) {
            d = d * 31 + openStart(goose, i);
            d = d * 31 + openEnd(goose, i);
            d = d * 31 + openCount(goose, i);
            d = d * 31 + openValue(goose, i);
        }
        return d;
    }

    private long digestOfTellings(long before) {
        long d = before;
        for (int i = 0; i < told.size; i++) {
            d = d * 31 + tellingGoose(i);
            d = d * 31 + tellingStart(i);
            d = d * 31 + tellingEnd(i);
            d = d * 31 + tellingCount(i);
            d = d * 31 + tellingValue(i);
        }
        return d;
    }

    private void requireHour(int hour) {
        if (!isHour(hour)) {
            throw new IllegalArgumentException("there is no such hour");
        }
    }

    private void requireComma(int comma) {
        if (comma < 0 || comma >= commas) {
            throw new IndexOutOfBoundsException("there is no such comma");
        }
    }

    private void requireFlock(int flock) {
        if (flock < 0 || flock >= book.flockCount) {
            throw new IndexOutOfBoundsException("there is no such flock");
        }
    }

    private void requireGoose(int goose) {
        if (goose < 0 || goose >= countedGeese()) {
            throw new IndexOutOfBoundsException("there is no such goose");
        }
    }

    private void requireWindow(int goose, int window) {
        requireGoose(goose);
        if (window < 0 || window >= windows[goose].size) {
            throw new IndexOutOfBoundsException("there is no such open window");
        }
    }

    private void requireTelling(int telling) {
        if (telling < 0 || telling >= told.size) {
            throw new IndexOutOfBoundsException("there is no such telling");
        }
    }

    private static boolean isHour(int hour) {
        return hour >= 0 && hour <= MAX_HOUR;
    }

    private static boolean isComma(int hour, int kind, int weight, int wing) {
        return isHour(hour)
            && kind >= 0 && kind <= MAX_DIGIT
            && weight >= 0 && weight <= MAX_WEIGHT
            && wing >= 0 && wing <= MAX_DIGIT;
    }

    private static boolean takes(int flock, int takers) {
        return (takers >> flock & 1) == 1;
    }

    private static int at(int[] row, int place) {
        return place >= 0 && place < row.length ? row[place] : 0;
    }

    /** The kinds of tokens; some are the commands of a program, too. */
    private enum Kind {
        END(""), WRONG(""), NAME(""), NUMBER(""),
        MOON("moon"), FLOCK("flock"), TAKES("takes"), IN("in"), NOT("not"), AND("and"), OR("or"),
        HOUR("hour"), KIND("kind"), WEIGHT("weight"), WING("wing"), GOOSE("goose"), ON("on"),
        EVERY("every"), STEP("step"), GAP("gap"), TELLS("tells"), COUNT("count"), SUM("sum"),
        MOST("most"), LEAST("least"), OF("of"),
        OPEN("("), CLOSE(")"), OPEN_TEST("["), CLOSE_TEST("]"), SEMICOLON(";"), COMMA(","),
        LESS("<"), GREATER(">"), EQUAL("="), PLUS("+"), MINUS("-"), TIMES("*");

        private final String text;

        Kind(String text) {
            this.text = text;
        }
    }

    private static final class Tape {
        private final byte[] bytes = new byte[MAX_BYTES];
        private int length;

        private void append(int number) {
            for (int shift = 24; shift >= 0; shift -= 8) {
                if (length >= 0 && length < bytes.length) {
                    bytes[length] = (byte) (number >> shift);
                    length++;
                }
            }
        }

        private int byteAt(int place) {
            return place >= 0 && place < length && place < bytes.length ? bytes[place] & 255 : -1;
        }

        private int numberIn(int from, int to) {
            int number = 0;
            for (int i = from; i < to; i++) {
                number = number * 10 + byteAt(i) - '0';
            }
            return number;
        }

        /** Eight letters of five bits make one long, so that names are compared as numbers. */
        private long wordIn(int from, int to) {
            long word = 0;
            for (int i = from; i < to; i++) {
                word = word << 5 | byteAt(i) - 'a' + 1;
            }
            return word;
        }

        private boolean stands(String text, int from, int to) {
            if (text.length() != to - from) {
                return false;
            }
            for (int i = 0; i < text.length(); i++) {
                if (byteAt(from + i) != text.charAt(i)) {
                    return false;
                }
            }
            return true;
        }
    }

    /** The tape cut into tokens, and which of them is looked at. */
    private static final class Tokens {
        private final Tape tape = new Tape();
        private final Kind[] kinds = new Kind[MAX_TOKENS + 1];
        private final int[] starts = new int[MAX_TOKENS + 1];
        private final int[] numbers = new int[MAX_TOKENS + 1];
        private final long[] words = new long[MAX_TOKENS + 1];
        private int size;
        private int here;

        /** Ends with the end of the tape or a wrong token, since no book is read beyond one. */
        private void cut() {
            size = 0;
            here = 0;
            int to = 0;
            Kind kind = Kind.SEMICOLON;
            for (int i = 0; i <= MAX_TOKENS && kind != Kind.END && kind != Kind.WRONG; i++) {
                int from = behindBlanks(to);
                to = behindToken(from);
                kind = kindOf(from, to);
                if (i == MAX_TOKENS && kind != Kind.END) {
                    kind = Kind.WRONG;
                }
                add(kind, from, to);
            }
        }

        private int behindBlanks(int from) {
            int to = from;
            while (to < tape.length && isBlank(tape.byteAt(to))) {
                to++;
            }
            return to;
        }

        private int behindToken(int from) {
            int to = from;
            while (to < tape.length && isLetter(tape.byteAt(to))) {
                to++;
            }
            while (to < tape.length && isDigit(tape.byteAt(from)) && isDigit(tape.byteAt(to))) {
                to++;
            }
            return to > from ? to : Math.min(from + 1, tape.length);
        }

        private Kind kindOf(int from, int to) {
            if (from >= to) {
                return Kind.END;
            }
            int first = tape.byteAt(from);
            if (isDigit(first)) {
                return to - from > MAX_DIGITS ? Kind.WRONG : Kind.NUMBER;
            }
            for (Kind one : KINDS) {
                if (tape.stands(one.text, from, to)) {
                    return one;
                }
            }
            return isLetter(first) && to - from <= MAX_LETTERS ? Kind.NAME : Kind.WRONG;
        }

        private void add(Kind kind, int from, int to) {
            if (size >= 0 && size < kinds.length && size < starts.length
                && size < numbers.length && size < words.length) {
                kinds[size] = kind;
                starts[size] = from;
                numbers[size] = kind == Kind.NUMBER ? tape.numberIn(from, to) : 0;
                words[size] = kind == Kind.NAME ? tape.wordIn(from, to) : 0;
                size++;
            }
        }

        private Kind kind() {
            return here >= 0 && here < size && here < kinds.length ? kinds[here] : Kind.END;
        }

        private int number() {
            return here >= 0 && here < numbers.length ? numbers[here] : 0;
        }

        private long word() {
            return here >= 0 && here < words.length ? words[here] : 0;
        }

        private boolean skip(Kind kind) {
            if (here < 0 || here >= size || here >= kinds.length || kinds[here] != kind) {
                return false;
            }
            here++;
            return true;
        }

        private static boolean isBlank(int sign) {
            return sign == 32 || sign == 10;
        }

        private static boolean isLetter(int sign) {
            return sign >= 'a' && sign <= 'z';
        }

        private static boolean isDigit(int sign) {
            return sign >= '0' && sign <= '9';
        }
    }

    /** The comma that is judged just now. */
    private static final class Comma {
        private int hour;
        private int kind;
        private int weight;
        private int wing;
        private int takers;

        private void become(int hour, int kind, int weight, int wing) {
            this.hour = hour;
            this.kind = kind;
            this.weight = weight;
            this.wing = wing;
            this.takers = 0;
        }
    }

    /** Tests and values of a book, operands ahead of what joins them; what holds is 1, else 0. */
    private static final class Program {
        private final Kind[] commands = new Kind[MAX_TOKENS];
        private final int[] numbers = new int[MAX_TOKENS];
        private final int[] stack = new int[MAX_STACK];
        private int size;
        private int depth;

        private void add(Kind command, int number) {
            if (size >= 0 && size < commands.length && size < numbers.length) {
                commands[size] = command;
                numbers[size] = number;
                size++;
            }
        }

        private int run(int from, int to, Comma comma) {
            depth = 0;
            for (int i = Math.max(from, 0); i < to && i < commands.length && i < numbers.length; i++) {
                if (commands[i] != null) {
                    obey(commands[i], numbers[i], comma);
                }
            }
            return pop();
        }

        private void obey(Kind command, int number, Comma comma) {
            switch (command) {
                case NUMBER:
                    push(number);
                    break;
                case HOUR:
                    push(comma.hour);
                    break;
                case KIND:
                    push(comma.kind);
                    break;
                case WEIGHT:
                    push(comma.weight);
                    break;
                case WING:
                    push(comma.wing);
                    break;
                case IN:
                    push(takes(number, comma.takers) ? 1 : 0);
                    break;
                case NOT:
                    push(1 - pop());
                    break;
                default:
                    int right = pop();
                    int left = pop();
                    push(joined(command, left, right));
                    break;
            }
        }

        private static int joined(Kind command, int left, int right) {
            switch (command) {
                case PLUS:
                    return left + right;
                case MINUS:
                    return left - right;
                case TIMES:
                    return left * right;
                case LESS:
                    return left < right ? 1 : 0;
                case GREATER:
                    return left > right ? 1 : 0;
                case EQUAL:
                    return left == right ? 1 : 0;
                case AND:
                    return left & right;
                default:
                    return left | right;
            }
        }

        private void push(int number) {
            if (depth >= 0 && depth < stack.length) {
                stack[depth] = number;
                depth++;
            }
        }

        private int pop() {
            if (depth < 1 || depth > stack.length) {
                return 0;
            }
            depth--;
            return stack[depth];
        }
    }

    /** What a line of a goose tells. */
    private static final class Goose {
        private int flock;
        private boolean gap;
        private int length = 1;
        private int step = 1;
        private Kind telling = Kind.COUNT;
        private int from;
        private int to;

        /** The start of the latest window that holds the hour; with gap the step is 1. */
        private int lastStart(int hour) {
            return step < 1 ? hour : hour - hour % step;
        }

        private boolean isLate(int hour, int watermark) {
            return lastStart(hour) + length <= watermark;
        }

        private int joined(int one, int other) {
            if (telling == Kind.MOST) {
                return Math.max(one, other);
            }
            if (telling == Kind.LEAST) {
                return Math.min(one, other);
            }
            return one + other;
        }
    }

    private static final class Book {
        private final int[] allowances = new int[MAX_PHASES];
        private final int[] testFrom = new int[MAX_FLOCKS];
        private final int[] testTo = new int[MAX_FLOCKS];
        private final Goose[] geese = new Goose[MAX_GEESE];
        private final Program program = new Program();
        private int phases;
        private int flockCount;
        private int gooseCount;

        private Book() {
            for (int i = 0; i < geese.length; i++) {
                geese[i] = new Goose();
            }
        }

        private void clear() {
            phases = 0;
            flockCount = 0;
            gooseCount = 0;
            program.size = 0;
        }

        private void addPhase(int allowance) {
            if (phases >= 0 && phases < allowances.length) {
                allowances[phases] = allowance;
                phases++;
            }
        }

        private void addFlock(int from, int to) {
            if (flockCount >= 0 && flockCount < testFrom.length && flockCount < testTo.length) {
                testFrom[flockCount] = from;
                testTo[flockCount] = to;
                flockCount++;
            }
        }

        private int phaseIn(int nights) {
            return phases < 1 ? 0 : nights % phases;
        }

        private int allowanceIn(int nights) {
            return phases < 1 ? USUAL_ALLOWANCE : at(allowances, phaseIn(nights));
        }

        /** Tells the comma its flocks, in their order, since a test may ask for those ahead. */
        private void judge(Comma comma) {
            comma.takers = 0;
            for (int i = 0; i < flockCount; i++) {
                comma.takers |= program.run(at(testFrom, i), at(testTo, i), comma) << i;
            }
        }

        private int valueFor(Goose goose, Comma comma) {
            return goose.telling == Kind.COUNT ? 1 : program.run(goose.from, goose.to, comma);
        }
    }

    /**
     * Reads the tape into a book of its own, so that an error leaves the one in use as it was. Each reading
     * method answers whether it met no token that cannot stand there.
     */
    private static final class Teacher {
        private final Tokens tokens = new Tokens();
        private final long[] flockNames = new long[MAX_FLOCKS];
        private final long[] gooseNames = new long[MAX_GEESE];
        private final Goose unwanted = new Goose();
        private Book book = new Book();
        private int error = NO_ERROR;
        private int errorToken;
        private int errorAt = -1;

        private void read() {
            book.clear();
            error = NO_ERROR;
            tokens.cut();
            boolean good = readMoon();
            for (int i = 0; i < MAX_TOKENS && good && tokens.kind() != Kind.END; i++) {
                good = readLine();
            }
            if (!good) {
                error = WRONG_TOKEN;
                errorToken = tokens.here;
            }
            errorAt = error == NO_ERROR ? -1 : at(tokens.starts, errorToken);
        }

        /** Keeps the first error alone; a token that cannot stand there goes ahead of it nevertheless. */
        private void note(boolean wrong, int number) {
            if (wrong && error == NO_ERROR) {
                error = number;
                errorToken = tokens.here;
            }
        }

        private boolean readMoon() {
            if (!tokens.skip(Kind.MOON)) {
                return true;
            }
            if (!readPhase()) {
                return false;
            }
            for (int i = 0; i < MAX_TOKENS && tokens.skip(Kind.COMMA); i++) {
                if (!readPhase()) {
                    return false;
                }
            }
            return tokens.skip(Kind.SEMICOLON);
        }

        private boolean readPhase() {
            note(book.phases >= MAX_PHASES, TOO_MANY);
            note(tokens.number() > MAX_ALLOWANCE, WRONG_NUMBER);
            book.addPhase(tokens.number());
            return tokens.skip(Kind.NUMBER);
        }

        private boolean readLine() {
            if (tokens.skip(Kind.FLOCK)) {
                return readFlock() && tokens.skip(Kind.SEMICOLON);
            }
            return tokens.skip(Kind.GOOSE) && readGoose() && tokens.skip(Kind.SEMICOLON);
        }

        private boolean readFlock() {
            long name = tokens.word();
            int from = book.program.size;
            if (!readNewName(book.flockCount >= MAX_FLOCKS) || !tokens.skip(Kind.TAKES) || !readTest(0)) {
                return false;
            }
            if (book.flockCount >= 0 && book.flockCount < flockNames.length) {
                flockNames[book.flockCount] = name;
                book.addFlock(from, book.program.size);
            }
            return true;
        }

        /** Behind the last goose that may be told the lines are read on, for wrong tokens in them. */
        private boolean readGoose() {
            boolean fits = book.gooseCount >= 0 && book.gooseCount < gooseNames.length
                && book.gooseCount < book.geese.length;
            Goose goose = fits ? book.geese[book.gooseCount] : unwanted;
            long name = tokens.word();
            if (!readNewName(!fits) || !tokens.skip(Kind.ON)) {
                return false;
            }
            goose.flock = flockHere();
            if (!readFlockName(goose.flock) || !readWindow(goose)) {
                return false;
            }
            if (!tokens.skip(Kind.TELLS) || !readTelling(goose)) {
                return false;
            }
            if (fits) {
                gooseNames[book.gooseCount] = name;
                book.gooseCount++;
            }
            return true;
        }

        private boolean readNewName(boolean tooMany) {
            note(isTold(tokens.word()), NAME_NOT_NEW);
            note(tooMany, TOO_MANY);
            return tokens.skip(Kind.NAME);
        }

        private boolean isTold(long name) {
            return placeIn(flockNames, book.flockCount, name) >= 0
                || placeIn(gooseNames, book.gooseCount, name) >= 0;
        }

        private int flockHere() {
            return placeIn(flockNames, book.flockCount, tokens.word());
        }

        private static int placeIn(long[] names, int count, long name) {
            for (int i = 0; i < count && i < names.length; i++) {
                if (names[i] == name) {
                    return i;
                }
            }
            return -1;
        }

        private boolean readFlockName(int flock) {
            note(flock < 0, NOT_A_FLOCK);
            return tokens.skip(Kind.NAME);
        }

        private boolean readWindow(Goose goose) {
            goose.gap = tokens.skip(Kind.GAP);
            if (!goose.gap && !tokens.skip(Kind.EVERY)) {
                return false;
            }
            goose.length = tokens.number();
            goose.step = goose.gap ? 1 : goose.length;
            note(goose.length < 1 || goose.length > MAX_LENGTH, WRONG_NUMBER);
            if (!tokens.skip(Kind.NUMBER)) {
                return false;
            }
            return goose.gap || !tokens.skip(Kind.STEP) || readStep(goose);
        }

        private boolean readStep(Goose goose) {
            goose.step = tokens.number();
            note(goose.step < 1 || goose.step > goose.length || goose.length / goose.step > MAX_STEPS,
                WRONG_NUMBER);
            return tokens.skip(Kind.NUMBER);
        }

        private boolean readTelling(Goose goose) {
            goose.telling = tokens.kind();
            goose.from = book.program.size;
            goose.to = goose.from;
            if (tokens.skip(Kind.COUNT)) {
                return true;
            }
            if (!tokens.skip(Kind.SUM) && !tokens.skip(Kind.MOST) && !tokens.skip(Kind.LEAST)) {
                return false;
            }
            if (!tokens.skip(Kind.OF) || !readValue(0)) {
                return false;
            }
            goose.to = book.program.size;
            return true;
        }

        private boolean readTest(int nesting) {
            if (!readBoth(nesting)) {
                return false;
            }
            for (int i = 0; i < MAX_TOKENS && tokens.skip(Kind.OR); i++) {
                if (!readBoth(nesting)) {
                    return false;
                }
                book.program.add(Kind.OR, 0);
            }
            return true;
        }

        private boolean readBoth(int nesting) {
            if (!readSingle(nesting)) {
                return false;
            }
            for (int i = 0; i < MAX_TOKENS && tokens.skip(Kind.AND); i++) {
                if (!readSingle(nesting)) {
                    return false;
                }
                book.program.add(Kind.AND, 0);
            }
            return true;
        }

        private boolean readSingle(int nesting) {
            boolean turned = false;
            for (int i = 0; i < MAX_TOKENS && tokens.skip(Kind.NOT); i++) {
                turned = !turned;
            }
            if (!readKept(nesting)) {
                return false;
            }
            if (turned) {
                book.program.add(Kind.NOT, 0);
            }
            return true;
        }

        private boolean readKept(int nesting) {
            if (tokens.kind() == Kind.OPEN_TEST) {
                return nesting < MAX_NESTING && tokens.skip(Kind.OPEN_TEST)
                    && readTest(nesting + 1) && tokens.skip(Kind.CLOSE_TEST);
            }
            if (tokens.skip(Kind.IN)) {
                int flock = flockHere();
                book.program.add(Kind.IN, flock);
                return readFlockName(flock);
            }
            if (!readValue(nesting)) {
                return false;
            }
            Kind sign = tokens.kind();
            if (!isOrder(sign) || !tokens.skip(sign) || !readValue(nesting)) {
                return false;
            }
            book.program.add(sign, 0);
            return true;
        }

        private boolean readValue(int nesting) {
            if (!readProduct(nesting)) {
                return false;
            }
            Kind sign = tokens.kind();
            for (int i = 0; i < MAX_TOKENS && (tokens.skip(Kind.PLUS) || tokens.skip(Kind.MINUS)); i++) {
                if (!readProduct(nesting)) {
                    return false;
                }
                book.program.add(sign, 0);
                sign = tokens.kind();
            }
            return true;
        }

        private boolean readProduct(int nesting) {
            if (!readAtom(nesting)) {
                return false;
            }
            for (int i = 0; i < MAX_TOKENS && tokens.skip(Kind.TIMES); i++) {
                if (!readAtom(nesting)) {
                    return false;
                }
                book.program.add(Kind.TIMES, 0);
            }
            return true;
        }

        private boolean readAtom(int nesting) {
            if (tokens.kind() == Kind.OPEN) {
                return nesting < MAX_NESTING && tokens.skip(Kind.OPEN)
                    && readValue(nesting + 1) && tokens.skip(Kind.CLOSE);
            }
            if (!isOperand(tokens.kind())) {
                return false;
            }
            book.program.add(tokens.kind(), tokens.number());
            return tokens.skip(tokens.kind());
        }

        private static boolean isOrder(Kind kind) {
            return kind == Kind.LESS || kind == Kind.GREATER || kind == Kind.EQUAL;
        }

        private static boolean isOperand(Kind kind) {
            return kind == Kind.NUMBER || kind == Kind.HOUR || kind == Kind.KIND
                || kind == Kind.WEIGHT || kind == Kind.WING;
        }
    }

    /** The open windows of a goose, by their starts, and how many commas it was too late for. */
    private static final class Windows {
        private final int[] starts = new int[MAX_OPEN];
        private final int[] ends = new int[MAX_OPEN];
        private final int[] counts = new int[MAX_OPEN];
        private final int[] values = new int[MAX_OPEN];
        private int size;
        private int late;

        private void clear() {
            size = 0;
            late = 0;
        }

        private void countEvery(Goose goose, int hour, int value, int watermark) {
            int start = goose.lastStart(hour);
            for (int i = 0; i < MAX_OVERLAP && start >= 0; i++) {
                int end = start + goose.length;
                if (end > hour && end > watermark) {
                    countIn(goose, start, value);
                }
                start -= goose.step;
            }
        }

        private void countIn(Goose goose, int start, int value) {
            int place = placeFor(start);
            if (place < size && at(starts, place) == start) {
                set(place, start, at(ends, place), at(counts, place) + 1,
                    goose.joined(at(values, place), value));
            } else {
                insert(start, start + goose.length, 1, value);
            }
        }

        private void countWithGap(Goose goose, int hour, int value) {
            int start = hour;
            int end = hour + goose.length;
            int count = 1;
            int joined = value;
            int kept = 0;
            for (int i = 0; i < size; i++) {
                if (at(starts, i) < hour + goose.length && hour < at(ends, i)) {
                    start = Math.min(start, at(starts, i));
                    end = Math.max(end, at(ends, i));
                    count += at(counts, i);
                    joined = goose.joined(joined, at(values, i));
                } else {
                    move(i, kept);
                    kept++;
                }
            }
            size = kept;
            insert(start, end, count, joined);
        }

        /** What is not over moves up, so that no window is moved twice. */
        private void tell(int goose, int watermark, Tellings told) {
            int kept = 0;
            for (int i = 0; i < size; i++) {
                if (at(ends, i) <= watermark) {
                    told.add(goose, at(starts, i), at(ends, i), at(counts, i), at(values, i));
                } else {
                    move(i, kept);
                    kept++;
                }
            }
            size = kept;
        }

        private int countOver(int watermark) {
            int over = 0;
            for (int i = 0; i < size; i++) {
                if (at(ends, i) <= watermark) {
                    over++;
                }
            }
            return over;
        }

        private int firstEnd() {
            int first = LAST_WATERMARK;
            for (int i = 0; i < size; i++) {
                first = Math.min(first, at(ends, i));
            }
            return first;
        }

        private int placeFor(int start) {
            for (int i = 0; i < size; i++) {
                if (at(starts, i) >= start) {
                    return i;
                }
            }
            return size;
        }

        private void insert(int start, int end, int count, int value) {
            if (size >= MAX_OPEN) {
                return;
            }
            int place = placeFor(start);
            for (int i = size; i > place; i--) {
                move(i - 1, i);
            }
            set(place, start, end, count, value);
            size++;
        }

        private void move(int from, int to) {
            set(to, at(starts, from), at(ends, from), at(counts, from), at(values, from));
        }

        private void set(int place, int start, int end, int count, int value) {
            if (place >= 0 && place < starts.length && place < ends.length
                && place < counts.length && place < values.length) {
                starts[place] = start;
                ends[place] = end;
                counts[place] = count;
                values[place] = value;
            }
        }
    }

    /** What was told; the rows grow, since most streams tell little. */
    private static final class Tellings {
        private int[] geese = new int[FIRST_TELLINGS];
        private int[] starts = new int[FIRST_TELLINGS];
        private int[] ends = new int[FIRST_TELLINGS];
        private int[] counts = new int[FIRST_TELLINGS];
        private int[] values = new int[FIRST_TELLINGS];
        private int size;

        private void add(int goose, int start, int end, int count, int value) {
            if (size < 0 || size >= MAX_TELLINGS) {
                return;
            }
            if (size >= geese.length) {
                grow();
            }
            if (size < geese.length && size < starts.length && size < ends.length
                && size < counts.length && size < values.length) {
                geese[size] = goose;
                starts[size] = start;
                ends[size] = end;
                counts[size] = count;
                values[size] = value;
                size++;
            }
        }

        private void grow() {
            int length = Math.min(MAX_TELLINGS, geese.length * 2);
            if (length > geese.length) {
                geese = Arrays.copyOf(geese, length);
                starts = Arrays.copyOf(starts, length);
                ends = Arrays.copyOf(ends, length);
                counts = Arrays.copyOf(counts, length);
                values = Arrays.copyOf(values, length);
            }
        }
    }
}
