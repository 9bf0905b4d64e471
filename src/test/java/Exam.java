/** What the tests share: comparing answers, expecting exceptions, and loading texts. */
final class Exam {
    interface Call {
        void make();
    }

    private static int compared = 0;
    private static int wrong = 0;
    private static String sentence = "";

    private Exam() {
    }

    /** Makes the test of one sentence of the document, which stands before each wrong answer then. */
    static void sentence(String words, Call test) {
        sentence = "\"" + words + "\" ";
        test.make();
        sentence = "";
    }

    static void same(String what, long got, long want) {
        compared++;
        if (got != want) {
            wrong++;
            System.out.println(sentence + what + ": answered " + got + ", due is " + want);
        }
    }

    static void thrown(String what, Class<? extends Exception> want, Call call) {
        compared++;
        String got = "nothing";
        try {
            call.make();
        } catch (Exception e) {
            got = e.getClass().getName();
        }
        if (!got.equals(want.getName())) {
            wrong++;
            System.out.println(sentence + what + ": threw " + got + ", due is " + want.getName());
        }
    }

    static void index(String what, Call call) {
        thrown(what, IndexOutOfBoundsException.class, call);
    }

    static void argument(String what, Call call) {
        thrown(what, IllegalArgumentException.class, call);
    }

    static void state(String what, Call call) {
        thrown(what, IllegalStateException.class, call);
    }

    static void element(String what, Call call) {
        thrown(what, java.util.NoSuchElementException.class, call);
    }

    /** Appends the text, filled up with spaces to a multiple of 20 bytes. */
    static void append(CallForks forks, String text) {
        StringBuilder filled = new StringBuilder(text);
        while (filled.length() % 20 != 0) {
            filled.append(' ');
        }
        for (int at = 0; at < filled.length(); at += 20) {
            forks.append(word(filled, at), word(filled, at + 4), word(filled, at + 8),
                    word(filled, at + 12), word(filled, at + 16));
        }
    }

    static int word(CharSequence text, int at) {
        return text.charAt(at) << 24 | text.charAt(at + 1) << 16 | text.charAt(at + 2) << 8 | text.charAt(at + 3);
    }

    static int load(CallForks forks, String text) {
        append(forks, text);
        return forks.load(text.length());
    }

    /** An exchange with this setup text, which has no error. */
    static CallForks loaded(String text) {
        CallForks forks = new CallForks();
        int parties = load(forks, text);
        if (parties < 0) {
            same("load of " + text, parties, 0);
        }
        return forks;
    }

    /** An exchange with so many parties that never answer or reply, and these statements. */
    static CallForks silent(int parties, String statements) {
        return loaded("exchange;" + "party0 0 0;".repeat(parties) + statements);
    }

    /** An exchange whose parties 0 and 1, which answers after a second, talk on leg 0 since the time 1. */
    static CallForks talking(String statements) {
        CallForks forks = loaded("exchange;" + statements);
        same("dial", forks.dial(0, 2), 1);
        same("pass", forks.pass(1), 1);
        return forks;
    }

    /** The text is read without an error, as one with so many parties. */
    static void reads(String text, int parties) {
        CallForks forks = new CallForks();
        same("load " + text, load(forks, text), parties);
        same("offset of " + text, forks.errorOffset(), -1);
        same("parties of " + text, forks.count(0), parties);
    }

    /** The first error of the text is this one. */
    static void fails(String text, int error, int offset) {
        CallForks forks = new CallForks();
        same("load " + text, load(forks, text), error);
        same("offset of " + text, forks.errorOffset(), offset);
    }

    /** The ring time of a call of party 3 to parties 1 and 2, begun at the time 7. */
    static void rings(String rule, int seconds) {
        CallForks forks = silent(4, "ring " + rule + ";");
        forks.pass(7);
        forks.dial(3, 6);
        same("ring " + rule, forks.call(0, 2), seconds);
    }

    static void leg(CallForks forks, int leg, int state, int reason) {
        same("state of leg " + leg + " at " + forks.time(), forks.leg(leg, 2), state);
        same("reason of leg " + leg + " at " + forks.time(), forks.leg(leg, 3), reason);
    }

    static void repetitions(CallForks forks, int leg, int caller, int callee) {
        same("repetition 0 of leg " + leg + " at " + forks.time(), forks.repetition(leg, 0), caller);
        same("repetition 1 of leg " + leg + " at " + forks.time(), forks.repetition(leg, 1), callee);
    }

    static void pending(CallForks forks, int leg, int side, int value, int since) {
        int[] due = {side, value, since};
        for (int what = 0; what < due.length; what++) {
            same("pending " + leg + " " + what + " at " + forks.time(), forks.pending(leg, what), due[what]);
        }
    }

    static void noOffer(CallForks forks, int leg) {
        element("an offer pending on leg " + leg + " at " + forks.time(), () -> forks.pending(leg, 0));
    }

    /** The first totals are these. */
    static void totals(CallForks forks, int... due) {
        for (int what = 0; what < due.length; what++) {
            same("total " + what + " at " + forks.time(), forks.total(what), due[what]);
        }
    }

    /** Lets the time become this one, which is later than now. */
    static void passTo(CallForks forks, int time) {
        while (forks.time() < time) {
            forks.pass(Math.min(time - forks.time(), 200));
        }
    }

    /** Ends the program: with exit code 1 if an answer was wrong. */
    static void finish() {
        System.out.println(compared + " answers compared, " + wrong + " wrong");
        if (wrong != 0) {
            System.exit(1);
        }
    }
}
