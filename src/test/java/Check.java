/** Compares answers with those that are due, and ends a test with 1 if one was not. */
final class Check {
    private int wrong = 0;
    private int seen = 0;

    void same(String call, long got, long want) {
        seen++;
        if (got != want) {
            complain(call + " answered " + got + ", due is " + want);
        }
    }

    void same(String call, boolean got, boolean want) {
        seen++;
        if (got != want) {
            complain(call + " answered " + got + ", due is " + want);
        }
    }

    void sameDouble(String call, double got, double want) {
        seen++;
        if (got != want) {
            complain(call + " answered " + got + ", due is " + want);
        }
    }

    void sameText(String call, String got, String want) {
        seen++;
        if (!got.equals(want)) {
            complain(call + " answered " + got + ", due is " + want);
        }
    }

    void throwsState(CommaStream stream, String call, Runnable run) {
        throwsExactly(IllegalStateException.class, stream, call, run);
    }

    void throwsArgument(CommaStream stream, String call, Runnable run) {
        throwsExactly(IllegalArgumentException.class, stream, call, run);
    }

    void throwsIndex(CommaStream stream, String call, Runnable run) {
        throwsExactly(IndexOutOfBoundsException.class, stream, call, run);
    }

    private void throwsExactly(Class<?> due, CommaStream stream, String call, Runnable run) {
        seen++;
        String before = told(stream);
        Class<?> got = null;
        try {
            run.run();
        } catch (RuntimeException e) {
            got = e.getClass();
        }
        if (got != due) {
            complain(call + " threw " + got + ", due is " + due);
        }
        if (!told(stream).equals(before)) {
            complain(call + " threw and changed something");
        }
    }

    /** What the digest leaves out is told behind it; of the commas the last one, for few calls. */
    static String told(CommaStream stream) {
        StringBuilder text = new StringBuilder();
        text.append(stream.digest()).append(' ').append(stream.errorAt()).append(' ').append(stream.meanCount());
        int last = stream.commas() - 1;
        if (last >= 0) {
            text.append(' ').append(stream.hourOf(last)).append(' ').append(stream.flocksOf(last));
        }
        return text.toString();
    }

    private void complain(String text) {
        wrong++;
        System.out.println(text);
    }

    void end() {
        System.out.println(seen + " answers, " + wrong + " of them wrong");
        if (wrong > 0 || seen == 0) {
            System.exit(1);
        }
    }

    /** Puts the text behind what the tape has; blanks fill the last twenty bytes and are trimmed away. */
    static void feed(CommaStream stream, String text) {
        int before = stream.feed(0, 0, 0, 0, 0) - 20;
        stream.trim(before);
        for (int from = 0; from < text.length(); from += 20) {
            stream.feed(four(text, from), four(text, from + 4), four(text, from + 8),
                four(text, from + 12), four(text, from + 16));
        }
        stream.trim(before + text.length());
    }

    private static int four(String text, int from) {
        int number = 0;
        for (int i = from; i < from + 4; i++) {
            number = number << 8 | (i < text.length() ? text.charAt(i) & 255 : 32);
        }
        return number;
    }

    static CommaStream taught(String book) {
        CommaStream stream = new CommaStream();
        feed(stream, book);
        int error = stream.teach();
        if (error != 0) {
            throw new IllegalStateException("error " + error + " at " + stream.errorAt() + ": " + book);
        }
        return stream;
    }
}
