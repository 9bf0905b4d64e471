/** What the tests share: comparing answers, expecting exceptions, and loading texts. */
final class Exam {
    interface Call {
        void make();
    }

    private static int compared = 0;
    private static int wrong = 0;

    private Exam() {
    }

    static void same(String what, long got, long want) {
        compared++;
        if (got != want) {
            wrong++;
            System.out.println(what + ": answered " + got + ", due is " + want);
        }
    }

    static void thrown(String what, Class<? extends Exception> want, Call call) {
        compared++;
        String got = "nothing";
        try {
            call.make();
        } catch (Exception e) {
            got = e.getClass().getName();
        }
        if (!got.equals(want.getName())) {
            wrong++;
            System.out.println(what + ": threw " + got + ", due is " + want.getName());
        }
    }

    static void index(String what, Call call) {
        thrown(what, IndexOutOfBoundsException.class, call);
    }

    static void argument(String what, Call call) {
        thrown(what, IllegalArgumentException.class, call);
    }

    static void state(String what, Call call) {
        thrown(what, IllegalStateException.class, call);
    }

    static void element(String what, Call call) {
        thrown(what, java.util.NoSuchElementException.class, call);
    }

    /** Appends the text, filled up with spaces to a multiple of 20 bytes. */
    static void append(CallForks forks, String text) {
        StringBuilder filled = new StringBuilder(text);
        while (filled.length() % 20 != 0) {
            filled.append(' ');
        }
        for (int at = 0; at < filled.length(); at += 20) {
            forks.append(word(filled, at), word(filled, at + 4), word(filled, at + 8),
                    word(filled, at + 12), word(filled, at + 16));
        }
    }

    static int word(CharSequence text, int at) {
        return text.charAt(at) << 24 | text.charAt(at + 1) << 16 | text.charAt(at + 2) << 8 | text.charAt(at + 3);
    }

    static int load(CallForks forks, String text) {
        append(forks, text);
        return forks.load(text.length());
    }

    /** An exchange with this setup text, which has no error. */
    static CallForks loaded(String text) {
        CallForks forks = new CallForks();
        int parties = load(forks, text);
        if (parties < 0) {
            same("load of " + text, parties, 0);
        }
        return forks;
    }

    /** An exchange whose parties 0 and 1, which answers after a second, talk on leg 0 since the time 1. */
    static CallForks talking(String statements) {
        CallForks forks = loaded("exchange;" + statements);
        same("dial", forks.dial(0, 2), 1);
        same("pass", forks.pass(1), 1);
        return forks;
    }

    /** Ends the program: with exit code 1 if an answer was wrong. */
    static void finish() {
        System.out.println(compared + " answers compared, " + wrong + " wrong");
        if (wrong != 0) {
            System.exit(1);
        }
    }
}
