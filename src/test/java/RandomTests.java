/** Long runs of calls, made by a fixed rule, whose answers are compared with those of the Model. */
public final class RandomTests {
    private static final int RUNS = 8000;
    // What an object answers after so many calls is free.
    private static final int MOST_CALLS = 512;
    private static final String[] FACTORS = {"legs", "caller", "referred", "time", "0", "1", "2", "7", "13", "9999", "0040"};
    private static final String[] SIGNS = {"+", "-", "*", "/", " + ", "- ", " *", " / "};
    private static final String NOISE = " ;()+-*/0123456789abcdefghijklmnopqrstuvwxyz;;((  \tA\u00e9";

    private long seed;
    private CallForks forks;
    private Model model;
    private int callsMade;
    // How rarely this run looks at all data after a step: this takes calls away from its steps.
    private int rarely;
    private final StringBuilder story = new StringBuilder();

    private RandomTests(long seed) {
        this.seed = seed * 7919 + 17;
    }

    public static void main(String[] args) {
        for (int run = 0; run < RUNS; run++) {
            new RandomTests(run).play();
        }
        Exam.finish();
    }

    private int random(int bound) {
        seed = seed * 6364136223846793005L + 1442695040888963407L;
        return (int) ((seed >>> 33) % bound);
    }

    private void play() {
        forks = new CallForks();
        model = new Model();
        rarely = 1 + random(5);
        if (random(20) != 0) {
            loadSetup(random(12) == 0);
        }
        boolean same = true;
        while (same && callsMade < MOST_CALLS) {
            same = step();
            if (random(rarely) == 0) {
                same &= check("checksum", () -> forks.checksum(), () -> model.checksum());
            }
            if (random(2 * rarely) == 0) {
                same &= pendingOffers();
            }
        }
    }

    private String sum(int depth) {
        StringBuilder text = new StringBuilder(factor(depth));
        for (int k = random(4); k > 0; k--) {
            text.append(SIGNS[random(SIGNS.length)]).append(factor(depth));
        }
        return text.toString();
    }

    private String factor(int depth) {
        if (random(4) == 0 && depth < 5) {
            return "(" + sum(depth + 1) + ")";
        }
        return FACTORS[random(FACTORS.length)];
    }

    private String setup(boolean odd) {
        StringBuilder text = new StringBuilder("exchange;");
        int parties = odd ? random(13) : 2 + random(9);
        int quick = 3 + random(8);
        for (int k = 0; k < parties; k++) {
            text.append("party ").append(random(5) == 0 ? 0 : random(quick)).append(' ')
                    .append(random(4) == 0 ? 0 : random(quick)).append(' ').append(random(odd ? 1100 : 1000)).append(';');
        }
        if (random(2) == 0) {
            text.append("ring ").append(sum(0)).append(';');
        }
        if (random(2) == 0) {
            text.append("wait ").append(1 + random(6)).append(' ').append(1 + random(6)).append(';');
        }
        if (random(2) == 0) {
            text.append("patience ").append(random(odd ? 120 : 9) + (odd ? 0 : 1)).append(';');
        }
        if (odd && random(2) == 0) {
            text.append(new String[] {"wait 1 1;", "patience 3;", "ring legs;", "party 1 1 1;"}[random(4)]);
        }
        for (int k = odd ? random(3) : 0; k > 0 && text.length() > 0; k--) {
            int at = random(text.length());
            char noise = NOISE.charAt(random(NOISE.length()));
            switch (random(3)) {
                case 0:
                    text.setCharAt(at, noise);
                    break;
                case 1:
                    text.insert(at, noise);
                    break;
                default:
                    text.deleteCharAt(at);
            }
        }
        return text.toString();
    }

    private void loadSetup(boolean odd) {
        String text = setup(odd);
        StringBuilder filled = new StringBuilder(text);
        while (filled.length() % 20 != 0) {
            filled.append(random(9) == 0 ? ';' : ' ');
        }
        for (int at = 0; at < filled.length(); at += 20) {
            int[] words = new int[5];
            for (int k = 0; k < 5; k++) {
                words[k] = Exam.word(filled, at + 4 * k);
            }
            check("append", () -> forks.append(words[0], words[1], words[2], words[3], words[4]), () -> model.append(words));
        }
        int length = odd && random(3) == 0 ? random(text.length() + 1) : text.length();
        check("load " + text.substring(0, Math.min(length, text.length())), () -> forks.load(length), () -> model.load(length));
        check("errorOffset", () -> forks.errorOffset(), () -> model.errorOffset());
    }

    private boolean step() {
        int p = random(11) - (random(30) == 0 ? 1 : 0);
        int q = random(11);
        int c = random(40) == 0 ? random(22) - 1 : random(Math.max(1, model.count(1)));
        int l = random(40) == 0 ? random(42) - 1 : random(Math.max(1, model.count(2)));
        int small = random(9) - 1;
        int set = random(8) == 0 ? random(4000) - 100 : random(1 << Math.max(1, model.count(0))) & ~(1 << Math.max(p, 0));
        int few = set & random(1024) & random(1024);
        int value = random(20) == 0 ? random(1300) - 100 : random(1000);
        int seconds = random(60) == 0 ? random(210) - 2 : 1 + random(random(4) == 0 ? 12 : 3);
        boolean same = true;
        switch (random(26)) {
            case 0: case 1: case 2:
                same = check("dial " + p + " " + few, () -> forks.dial(p, few), () -> model.dial(p, few));
                break;
            case 3:
                same = check("dial " + p + " " + set, () -> forks.dial(p, set), () -> model.dial(p, set));
                break;
            case 4: case 5: case 6:
                same = check("transfer " + p + " " + q, () -> forks.transfer(p, q), () -> model.transfer(p, q));
                break;
            case 7:
                same = random(3) != 0 || check("hangUp " + p, () -> forks.hangUp(p), () -> model.hangUp(p));
                break;
            case 8: case 9: case 10: case 11:
                same = check("offer " + p + " " + value, () -> forks.offer(p, value), () -> model.offer(p, value));
                break;
            case 12: case 13: case 14: case 15: case 16:
                same = check("pass " + seconds, () -> forks.pass(seconds), () -> model.pass(seconds));
                break;
            case 17:
                int number = random(30) == 0 ? value : small == 2 ? value : 1 + value % 9;
                same = check("setParty " + p + " " + small + " " + number,
                        () -> forks.setParty(p, small, number), () -> model.setParty(p, small, number));
                break;
            case 18:
                for (int k = random(4) == 0 ? random(11) : random(3); k > 0; k--) {
                    same &= check("undo", () -> forks.undo(), () -> model.undo());
                }
                break;
            case 19:
                if (random(40) == 0) {
                    loadSetup(random(2) == 0);
                }
                break;
            case 20:
                same = check("count " + small, () -> forks.count(small), () -> model.count(small))
                        & check("total " + small, () -> forks.total(small), () -> model.total(small));
                break;
            case 21:
                same = check("party " + p + " " + small, () -> forks.party(p, small), () -> model.party(p, small))
                        & check("call " + c + " " + small, () -> forks.call(c, small), () -> model.call(c, small))
                        & check("leg " + l + " " + small, () -> forks.leg(l, small), () -> model.leg(l, small));
                break;
            case 22: case 23:
                same = check("pending " + l + " " + small, () -> forks.pending(l, small), () -> model.pending(l, small))
                        & check("repetition " + l + " " + small, () -> forks.repetition(l, small), () -> model.repetition(l, small));
                break;
            default:
                same = check("settlesIn " + c, () -> forks.settlesIn(c), () -> model.settlesIn(c))
                        & check("answeredBy " + c, () -> forks.answeredBy(c), () -> model.answeredBy(c));
        }
        return same;
    }

    private boolean pendingOffers() {
        boolean same = true;
        for (int leg = 0; leg < model.count(2); leg++) {
            for (int what = 0; what < 3; what++) {
                if (model.leg(leg, 2) == 1) {
                    int at = leg;
                    int number = what;
                    same &= check("pending " + leg, () -> forks.pending(at, number), () -> model.pending(at, number));
                }
            }
        }
        return same;
    }

    interface Answer {
        long get();
    }

    private static String told(Answer answer) {
        try {
            return Long.toString(answer.get());
        } catch (RuntimeException e) {
            return e.getClass().getName();
        }
    }

    private boolean check(String what, Answer program, Answer due) {
        if (callsMade == MOST_CALLS) {
            return true;
        }
        callsMade++;
        String got = told(program);
        String want = told(due);
        if (!what.equals("checksum") && !what.startsWith("pending")) {
            story.append(what).append(" = ").append(want).append('\n');
        }
        if (!got.equals(want)) {
            System.out.println(story + what + " answered " + got + ", due is " + want);
        }
        Exam.same(what, got.equals(want) ? 1 : 0, 1);
        return got.equals(want);
    }
}
