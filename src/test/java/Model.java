import java.math.BigInteger;
import java.util.ArrayList;
import java.util.List;
import java.util.NoSuchElementException;

/**
 * The document once more, written another way: objects with references, deep copies for undo, the
 * ring expression kept as tokens and evaluated where it is needed. RandomTests compares with it.
 */
final class Model {
    static final class Party {
        int[] numbers = new int[3];
    }

    static final class Call {
        int index;
        int caller;
        int began;
        int ringTime;
        int referredBy;
        int answered = -1;
    }

    static final class Offer {
        int side;
        int value;
        int since;
    }

    static final class Repetition {
        int value;
        int due;
    }

    static final class Leg {
        Call call;
        int callee;
        String state = "ringing";
        int reason;
        int setting;
        int version;
        Offer offer;
        Repetition[] repetitions = new Repetition[2];

        boolean is(String wanted) {
            return state.equals(wanted);
        }
    }

    static final class Data {
        List<Party> parties = new ArrayList<>();
        List<Call> calls = new ArrayList<>();
        List<Leg> legs = new ArrayList<>();
        long[] totals = new long[7];
        int[] waits = {3, 5};
        int patience = 20;
        List<String> ring = null;
        int time;

        Data copy() {
            Data copy = new Data();
            for (Party party : parties) {
                Party twin = new Party();
                twin.numbers = party.numbers.clone();
                copy.parties.add(twin);
            }
            for (Call call : calls) {
                Call twin = new Call();
                twin.index = call.index;
                twin.caller = call.caller;
                twin.began = call.began;
                twin.ringTime = call.ringTime;
                twin.referredBy = call.referredBy;
                twin.answered = call.answered;
                copy.calls.add(twin);
            }
            for (Leg leg : legs) {
                Leg twin = new Leg();
                twin.call = copy.calls.get(leg.call.index);
                twin.callee = leg.callee;
                twin.state = leg.state;
                twin.reason = leg.reason;
                twin.setting = leg.setting;
                twin.version = leg.version;
                twin.offer = copyOf(leg.offer);
                twin.repetitions[0] = copyOf(leg.repetitions[0]);
                twin.repetitions[1] = copyOf(leg.repetitions[1]);
                copy.legs.add(twin);
            }
            copy.totals = totals.clone();
            copy.waits = waits.clone();
            copy.patience = patience;
            copy.ring = ring;
            copy.time = time;
            return copy;
        }

        private static Offer copyOf(Offer offer) {
            if (offer == null) {
                return null;
            }
            Offer twin = new Offer();
            twin.side = offer.side;
            twin.value = offer.value;
            twin.since = offer.since;
            return twin;
        }

        private static Repetition copyOf(Repetition repetition) {
            if (repetition == null) {
                return null;
            }
            Repetition twin = new Repetition();
            twin.value = repetition.value;
            twin.due = repetition.due;
            return twin;
        }

        int party(Leg leg, int side) {
            return side == 0 ? leg.call.caller : leg.callee;
        }

        boolean engaged(int party) {
            for (Leg leg : legs) {
                boolean in = leg.call.caller == party || leg.callee == party;
                if (in && (leg.is("talking") || leg.is("held"))) {
                    return true;
                }
            }
            for (Call call : calls) {
                if (call.caller == party && !ringing(call).isEmpty()) {
                    return true;
                }
            }
            return false;
        }

        List<Leg> ringing(Call call) {
            List<Leg> found = new ArrayList<>();
            for (Leg leg : legs) {
                if (leg.call == call && leg.is("ringing")) {
                    found.add(leg);
                }
            }
            return found;
        }

        boolean talks(Call call) {
            for (Leg leg : legs) {
                if (leg.call == call && leg.is("talking")) {
                    return true;
                }
            }
            return false;
        }

        List<Leg> ringingTo(int callee) {
            List<Leg> found = new ArrayList<>();
            for (Leg leg : legs) {
                if (leg.callee == callee && leg.is("ringing")) {
                    found.add(leg);
                }
            }
            return found;
        }

        Leg legOf(int party, String state) {
            Leg found = null;
            for (Leg leg : legs) {
                if (leg.is(state) && (leg.call.caller == party || leg.callee == party)) {
                    if (found != null && state.equals("talking")) {
                        throw new AssertionError("a party talks in two legs");
                    }
                    found = found == null ? leg : found;
                }
            }
            return found;
        }

        void end(Leg leg, int reason) {
            leg.state = "ended";
            leg.reason = reason;
            silence(leg);
        }

        void silence(Leg leg) {
            leg.offer = null;
            leg.repetitions = new Repetition[2];
        }

        void failed(Call call) {
            totals[5]++;
            back(call);
        }

        void back(Call call) {
            if (call.referredBy >= 0 && legs.get(call.referredBy).is("held")) {
                legs.get(call.referredBy).state = "talking";
            }
        }

        int begin(int caller, List<Integer> callees, int referredBy) {
            Call call = new Call();
            call.index = calls.size();
            call.caller = caller;
            call.began = time;
            call.referredBy = referredBy;
            call.ringTime = 30;
            if (ring != null) {
                Evaluation evaluation = new Evaluation(ring, callees.size(), caller, referredBy >= 0 ? 1 : 0, time);
                call.ringTime = Math.max(1, Math.min(99, evaluation.sum().intValue()));
            }
            List<Boolean> busy = new ArrayList<>();
            for (int callee : callees) {
                busy.add(engaged(callee));
            }
            calls.add(call);
            for (int k = 0; k < callees.size(); k++) {
                Leg leg = new Leg();
                leg.call = call;
                leg.callee = callees.get(k);
                legs.add(leg);
                if (busy.get(k)) {
                    end(leg, 1);
                }
            }
            int rings = ringing(call).size();
            if (rings == 0) {
                failed(call);
            }
            return rings;
        }

        void second() {
            time++;
            for (Leg leg : legs) {
                for (int side = 0; side < 2 && leg.is("talking"); side++) {
                    Repetition repetition = leg.repetitions[side];
                    if (repetition != null && repetition.due == time) {
                        leg.repetitions[side] = null;
                        if (leg.offer == null) {
                            offer(leg, side, repetition.value);
                        } else {
                            totals[3]++;
                        }
                    }
                }
            }
            for (Leg leg : legs) {
                if (leg.is("talking") && leg.offer != null) {
                    reply(leg);
                }
            }
            for (Leg leg : legs) {
                int delay = parties.get(leg.callee).numbers[0];
                if (leg.is("ringing") && delay > 0 && leg.call.began + delay == time && !engaged(leg.callee)) {
                    answer(leg);
                }
            }
            for (Call call : calls) {
                List<Leg> ringing = ringing(call);
                if (!ringing.isEmpty() && time >= call.began + call.ringTime) {
                    for (Leg leg : ringing) {
                        end(leg, 3);
                    }
                    failed(call);
                }
            }
        }

        void offer(Leg leg, int side, int value) {
            leg.offer = new Offer();
            leg.offer.side = side;
            leg.offer.value = value;
            leg.offer.since = time;
        }

        void reply(Leg leg) {
            int[] replier = parties.get(party(leg, 1 - leg.offer.side)).numbers;
            if (replier[1] > 0 && leg.offer.since + replier[1] == time) {
                if (leg.offer.value <= replier[2]) {
                    leg.setting = leg.offer.value;
                    leg.version++;
                    totals[0]++;
                } else {
                    totals[1]++;
                }
                leg.offer = null;
            }
            if (leg.offer != null && time - leg.offer.since >= patience) {
                leg.offer = null;
                totals[1]++;
            }
        }

        void answer(Leg answered) {
            answered.state = "talking";
            answered.call.answered = legs.indexOf(answered);
            totals[4]++;
            for (Leg leg : ringing(answered.call)) {
                end(leg, 2);
            }
            refuse(answered.callee, 1);
            int referrer = answered.call.referredBy;
            if (referrer >= 0 && legs.get(referrer).is("held")) {
                end(legs.get(referrer), 7);
                totals[6]++;
            }
        }

        int refuse(int callee, int reason) {
            List<Leg> ended = ringingTo(callee);
            for (Leg leg : ended) {
                end(leg, reason);
            }
            for (Call call : calls) {
                boolean touched = false;
                for (Leg leg : ended) {
                    touched |= leg.call == call;
                }
                if (touched && ringing(call).isEmpty() && !talks(call)) {
                    failed(call);
                }
            }
            return ended.size();
        }
    }

    /** Evaluates a ring expression from its tokens. */
    static final class Evaluation {
        private final List<String> tokens;
        private final int[] words;
        private int at;

        Evaluation(List<String> tokens, int legs, int caller, int referred, int time) {
            this.tokens = tokens;
            this.words = new int[] {legs, caller, referred, time};
        }

        private boolean next(String token) {
            return at < tokens.size() && tokens.get(at).equals(token);
        }

        private static BigInteger limited(BigInteger value) {
            BigInteger most = BigInteger.valueOf(1000000);
            return value.min(most).max(most.negate());
        }

        BigInteger sum() {
            BigInteger value = term();
            while (next("+") || next("-")) {
                boolean plus = tokens.get(at++).equals("+");
                BigInteger right = term();
                value = limited(plus ? value.add(right) : value.subtract(right));
            }
            return value;
        }

        private BigInteger term() {
            BigInteger value = factor();
            while (next("*") || next("/")) {
                boolean times = tokens.get(at++).equals("*");
                BigInteger right = factor();
                if (times) {
                    value = limited(value.multiply(right));
                } else {
                    value = right.signum() == 0 ? BigInteger.ZERO : limited(value.divide(right));
                }
            }
            return value;
        }

        private BigInteger factor() {
            String token = tokens.get(at++);
            switch (token) {
                case "(":
                    BigInteger inner = sum();
                    at++;
                    return inner;
                case "legs":
                    return BigInteger.valueOf(words[0]);
                case "caller":
                    return BigInteger.valueOf(words[1]);
                case "referred":
                    return BigInteger.valueOf(words[2]);
                case "time":
                    return BigInteger.valueOf(words[3]);
                default:
                    return new BigInteger(token);
            }
        }
    }

    /** The first error of a text. */
    static final class Mistake extends RuntimeException {
        private static final long serialVersionUID = 1;
        final int code;
        final int offset;

        Mistake(int code, int offset) {
            this.code = code;
            this.offset = offset;
        }
    }

    /** Reads a text that has been cut into tokens before; the last token is empty and stands at the end. */
    static final class Parser {
        private final List<String> tokens = new ArrayList<>();
        private final List<Integer> offsets = new ArrayList<>();
        private final Data data = new Data();
        private final List<String> once = new ArrayList<>();
        private int at;

        Parser(String text) {
            int from = 0;
            while (from < text.length()) {
                int to = from + 1;
                if (text.charAt(from) != ' ') {
                    String kind = kind(text.charAt(from));
                    while (to < text.length() && !kind.isEmpty() && kind(text.charAt(to)).equals(kind)) {
                        to++;
                    }
                    tokens.add(text.substring(from, to));
                    offsets.add(from);
                }
                from = to;
            }
            tokens.add("");
            offsets.add(text.length());
        }

        private static String kind(char c) {
            return c >= '0' && c <= '9' ? "number" : c >= 'a' && c <= 'z' ? "word" : "";
        }

        private String token() {
            return tokens.get(at);
        }

        private Mistake mistake(int code) {
            return new Mistake(code, offsets.get(at));
        }

        private void take(String token) {
            if (!token().equals(token)) {
                throw mistake(-2);
            }
            at++;
        }

        private int number(int low, int high) {
            if (token().isEmpty() || !kind(token().charAt(0)).equals("number")) {
                throw mistake(-2);
            }
            BigInteger value = new BigInteger(token());
            if (value.compareTo(BigInteger.valueOf(low)) < 0 || value.compareTo(BigInteger.valueOf(high)) > 0) {
                throw mistake(-3);
            }
            at++;
            return value.intValue();
        }

        Data setup() {
            take("exchange");
            take(";");
            while (!token().isEmpty()) {
                statement();
                take(";");
            }
            return data;
        }

        private void statement() {
            String word = token();
            if (once.contains(word)) {
                throw mistake(-2);
            }
            switch (word) {
                case "party":
                    if (data.parties.size() == 10) {
                        throw mistake(-4);
                    }
                    at++;
                    Party party = new Party();
                    party.numbers = new int[] {number(0, 99), number(0, 99), number(0, 999)};
                    data.parties.add(party);
                    return;
                case "wait":
                    at++;
                    data.waits = new int[] {number(1, 99), number(1, 99)};
                    break;
                case "patience":
                    at++;
                    data.patience = number(1, 99);
                    break;
                case "ring":
                    at++;
                    int from = at;
                    sum(0);
                    data.ring = new ArrayList<>(tokens.subList(from, at));
                    break;
                default:
                    throw mistake(-2);
            }
            once.add(word);
        }

        private void sum(int inside) {
            term(inside);
            while (token().equals("+") || token().equals("-")) {
                at++;
                term(inside);
            }
        }

        private void term(int inside) {
            factor(inside);
            while (token().equals("*") || token().equals("/")) {
                at++;
                factor(inside);
            }
        }

        private void factor(int inside) {
            if (List.of("legs", "caller", "referred", "time").contains(token())) {
                at++;
            } else if (token().equals("(")) {
                if (inside == 4) {
                    throw mistake(-5);
                }
                at++;
                sum(inside + 1);
                take(")");
            } else {
                number(0, 9999);
            }
        }
    }

    private final StringBuilder buffer = new StringBuilder();
    private final List<Data> before = new ArrayList<>();
    private Data data = new Data();
    private int errorOffset = -1;

    private void change() {
        before.add(data);
        data = data.copy();
        if (before.size() > 8) {
            before.remove(0);
        }
    }

    private static void range(int value, int low, int high) {
        if (value < low || value > high) {
            throw new IllegalArgumentException();
        }
    }

    private static void index(int index, List<?> list) {
        if (index < 0 || index >= list.size()) {
            throw new IndexOutOfBoundsException();
        }
    }

    int append(int[] words) {
        if (buffer.length() > 580) {
            return -1;
        }
        for (int word : words) {
            for (int k = 0; k < 4; k++) {
                buffer.append((char) (word >>> (24 - 8 * k) & 255));
            }
        }
        return buffer.length();
    }

    int load(int length) {
        range(length, 0, buffer.length());
        String text = buffer.substring(0, length);
        buffer.setLength(0);
        errorOffset = -1;
        try {
            Data read = new Parser(text).setup();
            change();
            data = read;
            return read.parties.size();
        } catch (Mistake mistake) {
            errorOffset = mistake.offset;
            return mistake.code;
        }
    }

    int errorOffset() {
        return errorOffset;
    }

    int time() {
        return data.time;
    }

    int count(int what) {
        range(what, 0, 7);
        int talking = 0;
        int ringing = 0;
        for (Leg leg : data.legs) {
            talking += leg.is("talking") ? 1 : 0;
            ringing += leg.is("ringing") ? 1 : 0;
        }
        return new int[] {data.parties.size(), data.calls.size(), data.legs.size(), talking, ringing,
            data.waits[0], data.waits[1], data.patience}[what];
    }

    int party(int party, int what) {
        index(party, data.parties);
        range(what, 0, 5);
        if (what < 3) {
            return data.parties.get(party).numbers[what];
        }
        if (what == 3) {
            return data.engaged(party) ? 1 : 0;
        }
        if (what == 4) {
            return data.legs.indexOf(data.legOf(party, "talking"));
        }
        return data.ringingTo(party).size();
    }

    int call(int index, int what) {
        index(index, data.calls);
        range(what, 0, 5);
        Call call = data.calls.get(index);
        int rings = data.ringing(call).isEmpty() ? 0 : 1;
        return new int[] {call.caller, call.began, call.ringTime, call.referredBy, rings, call.answered}[what];
    }

    int leg(int index, int what) {
        index(index, data.legs);
        range(what, 0, 5);
        Leg leg = data.legs.get(index);
        int state = List.of("ringing", "talking", "held", "ended").indexOf(leg.state);
        return new int[] {leg.call.index, leg.callee, state, leg.reason, leg.setting, leg.version}[what];
    }

    int pending(int index, int what) {
        index(index, data.legs);
        Offer offer = data.legs.get(index).offer;
        if (offer == null) {
            throw new NoSuchElementException();
        }
        range(what, 0, 2);
        return new int[] {offer.side, offer.value, offer.since}[what];
    }

    int repetition(int index, int side) {
        index(index, data.legs);
        range(side, 0, 1);
        Repetition repetition = data.legs.get(index).repetitions[side];
        return repetition == null ? -1 : repetition.due;
    }

    int total(int what) {
        range(what, 0, 6);
        return (int) data.totals[what];
    }

    int settlesIn(int index) {
        index(index, data.calls);
        Data future = data.copy();
        while (!future.ringing(future.calls.get(index)).isEmpty()) {
            future.second();
        }
        return future.time - data.time;
    }

    int answeredBy(int index) {
        index(index, data.calls);
        Data future = data.copy();
        while (!future.ringing(future.calls.get(index)).isEmpty()) {
            future.second();
        }
        return future.calls.get(index).answered;
    }

    int pass(int seconds) {
        range(seconds, 1, 200);
        range(data.time + seconds, 0, 9999);
        change();
        for (int k = 0; k < seconds; k++) {
            data.second();
        }
        return count(3);
    }

    int dial(int party, int callees) {
        index(party, data.parties);
        range(callees, 1, Integer.MAX_VALUE);
        List<Integer> list = new ArrayList<>();
        for (int k = 0; k < 31; k++) {
            if ((callees >>> k) % 2 == 1) {
                if (k == party || k >= data.parties.size()) {
                    throw new IllegalArgumentException();
                }
                list.add(k);
            }
        }
        if (data.engaged(party) || data.calls.size() == 20 || data.legs.size() + list.size() > 40) {
            throw new IllegalStateException();
        }
        change();
        return data.begin(party, list, -1);
    }

    int transfer(int party, int target) {
        index(party, data.parties);
        index(target, data.parties);
        Leg leg = data.legOf(party, "talking");
        if (leg == null || data.calls.size() == 20 || data.legs.size() == 40) {
            throw new IllegalStateException();
        }
        int other = leg.callee == party ? leg.call.caller : leg.callee;
        if (target == party || target == other) {
            throw new IllegalArgumentException();
        }
        int referrer = data.legs.indexOf(leg);
        change();
        data.legs.get(referrer).state = "held";
        data.silence(data.legs.get(referrer));
        return data.begin(other, List.of(target), referrer);
    }

    int hangUp(int party) {
        index(party, data.parties);
        change();
        Leg talking = data.legOf(party, "talking");
        if (talking != null) {
            data.end(talking, 6);
            return 1;
        }
        for (Call call : data.calls) {
            List<Leg> ringing = data.ringing(call);
            if (call.caller == party && !ringing.isEmpty()) {
                for (Leg leg : ringing) {
                    data.end(leg, 4);
                }
                data.back(call);
                return 2;
            }
        }
        Leg held = data.legOf(party, "held");
        if (held != null) {
            data.end(held, 6);
            return 3;
        }
        return data.refuse(party, 5) == 0 ? 0 : 4;
    }

    int offer(int party, int value) {
        index(party, data.parties);
        range(value, 0, 999);
        if (data.legOf(party, "talking") == null) {
            throw new IllegalStateException();
        }
        change();
        Leg leg = data.legOf(party, "talking");
        int side = leg.call.caller == party ? 0 : 1;
        if (leg.offer == null) {
            data.offer(leg, side, value);
            return 1;
        }
        if (leg.offer.side == side) {
            return 0;
        }
        int[] values = new int[2];
        values[side] = value;
        values[1 - side] = leg.offer.value;
        for (int k = 0; k < 2; k++) {
            leg.repetitions[k] = new Repetition();
            leg.repetitions[k].value = values[k];
            leg.repetitions[k].due = data.time + data.waits[k];
        }
        leg.offer = null;
        data.totals[2]++;
        return -1;
    }

    int setParty(int party, int what, int value) {
        index(party, data.parties);
        range(what, 0, 2);
        range(value, 0, what == 2 ? 999 : 99);
        change();
        int[] numbers = data.parties.get(party).numbers;
        int previous = numbers[what];
        numbers[what] = value;
        return previous;
    }

    int undo() {
        if (before.isEmpty()) {
            return -1;
        }
        data = before.remove(before.size() - 1);
        return before.size();
    }

    long checksum() {
        List<Integer> numbers = new ArrayList<>();
        numbers.add(time());
        for (int k = 0; k < 6 * data.parties.size(); k++) {
            numbers.add(party(k / 6, k % 6));
        }
        for (int k = 0; k < 6 * data.calls.size(); k++) {
            numbers.add(call(k / 6, k % 6));
        }
        for (int k = 0; k < 8 * data.legs.size(); k++) {
            numbers.add(k % 8 < 6 ? leg(k / 8, k % 8) : repetition(k / 8, k % 8 - 6));
        }
        for (int k = 0; k < 7; k++) {
            numbers.add(total(k));
        }
        long sum = 0;
        for (int number : numbers) {
            sum = 31 * sum + number;
        }
        return sum;
    }
}
