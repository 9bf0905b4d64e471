import java.util.Arrays;
import java.util.NoSuchElementException;

/**
 * An exchange of telephone calls second by second: calls that fork to several parties, transfers
 * that are taken back if nobody answers, offers on talking legs, and timers by an expression.
 */
public final class CallForks {
    /** Error code of load: the text does not follow the grammar. */
    public static final int SYNTAX_ERROR = -2;
    /** Error code of load: a number is not allowed. */
    public static final int OUT_OF_RANGE = -3;
    /** Error code of load: too many parties. */
    public static final int TOO_MANY = -4;
    /** Error code of load: parentheses are nested too deeply. */
    public static final int TOO_DEEP = -5;

    private static final int NONE = -1;
    private static final int NO_ERROR = 0;

    private static final int MOST_BYTES = 600;
    private static final int BYTES_PER_APPEND = 20;
    private static final int MOST_PARTIES = 10;
    private static final int MOST_CALLS = 20;
    private static final int MOST_LEGS = 40;
    private static final int MOST_UNDOS = 8;
    private static final int MOST_SECONDS = 200;
    private static final int LATEST_TIME = 9999;
    private static final int LONGEST_DELAY = 99;
    private static final int HIGHEST_CAP = 999;
    private static final int HIGHEST_OFFER = 999;
    private static final int LARGEST_FACTOR = 9999;
    private static final int LARGEST_RESULT = 1000000;
    private static final int DEEPEST_NESTING = 4;

    private static final int DEFAULT_CALLER_WAIT = 3;
    private static final int DEFAULT_CALLEE_WAIT = 5;
    private static final int DEFAULT_PATIENCE = 20;
    private static final int DEFAULT_RING_TIME = 30;

    // The columns of the tables bear the numbers by which the face tells them (its "what").
    private static final int ANSWER_DELAY = 0;
    private static final int REPLY_DELAY = 1;
    private static final int CAP = 2;
    private static final int PARTY_COLUMNS = 3;

    // The face's number 4 (whether a leg of the call rings) has no column: the legs tell it.
    private static final int CALLER = 0;
    private static final int BEGAN = 1;
    private static final int RING_TIME = 2;
    private static final int REFERRED_BY = 3;
    private static final int ANSWERED_LEG = 5;
    private static final int FIRST_LEG = 6;
    private static final int AFTER_LAST_LEG = 7;
    private static final int CALL_COLUMNS = 8;

    private static final int CALL = 0;
    private static final int CALLEE = 1;
    private static final int STATE = 2;
    private static final int REASON = 3;
    private static final int SETTING = 4;
    private static final int VERSION = 5;
    private static final int OFFER_SIDE = 6;
    private static final int OFFER_VALUE = 7;
    private static final int OFFER_SINCE = 8;
    private static final int REPETITION_DUE = 9;
    private static final int REPETITION_VALUE = 11;
    private static final int LEG_COLUMNS = 13;

    private static final int CALLER_SIDE = 0;
    private static final int CALLEE_SIDE = 1;

    private static final int RINGING = 0;
    private static final int TALKING = 1;
    private static final int HELD = 2;
    private static final int ENDED = 3;

    private static final int CALLEE_BUSY = 1;
    private static final int OTHER_LEG_ANSWERED = 2;
    private static final int NO_ANSWER = 3;
    private static final int CALLER_GAVE_UP = 4;
    private static final int CALLEE_REFUSED = 5;
    private static final int HUNG_UP = 6;
    private static final int TRANSFERRED = 7;

    private static final int OFFERS_ACCEPTED = 0;
    private static final int OFFERS_ROLLED_BACK = 1;
    private static final int GLARES = 2;
    private static final int REPETITIONS_LOST = 3;
    private static final int CALLS_ANSWERED = 4;
    private static final int CALLS_FAILED = 5;
    private static final int LEGS_TRANSFERRED = 6;
    private static final int TOTALS = 7;

    // Codes of a ring rule; a code that is not negative is a number of the expression.
    private static final int LEGS_WORD = -1;
    private static final int CALLER_WORD = -2;
    private static final int REFERRED_WORD = -3;
    private static final int TIME_WORD = -4;
    private static final int ADD = -5;
    private static final int SUBTRACT = -6;
    private static final int MULTIPLY = -7;
    private static final int DIVIDE = -8;

    private final Exchange now = new Exchange();
    private final Exchange future = new Exchange();
    private final History history = new History();
    private final SetupReader reader = new SetupReader();
    private int latestErrorOffset = NONE;

    /** Creates an exchange without parties, with an empty input buffer. */
    public CallForks() {
        // The fields begin as they are declared.
    }

    /** Appends 20 bytes to the input buffer, the most significant byte of each argument first. */
    public int append(int w0, int w1, int w2, int w3, int w4) {
        if (!reader.hasRoomFor(BYTES_PER_APPEND)) {
            return NONE;
        }
        reader.addWord(w0);
        reader.addWord(w1);
        reader.addWord(w2);
        reader.addWord(w3);
        reader.addWord(w4);
        return reader.bytesAdded;
    }

    /** Reads the first bytes of the input buffer as a setup text, and replaces all data by it. */
    public int load(int length) throws IllegalArgumentException {
        requireRange(length, 0, reader.bytesAdded);
        int error = reader.readSetup(length);
        latestErrorOffset = reader.errorOffset;
        if (error != NO_ERROR) {
            return error;
        }
        history.push(now);
        now.copyFrom(reader.setup);
        return now.parties.rows;
    }

    /** Tells the offset of the error that the latest load found. */
    public int errorOffset() {
        return latestErrorOffset;
    }

    /** Tells the time. */
    public int time() {
        return now.time;
    }

    /** Counts parties, calls or legs, or tells one of the waits or the patience. */
    public int count(int what) throws IllegalArgumentException {
        switch (what) {
            case 0:
                return now.parties.rows;
            case 1:
                return now.calls.rows;
            case 2:
                return now.legs.rows;
            case 3:
                return now.legsInState(TALKING);
            case 4:
                return now.legsInState(RINGING);
            case 5:
                return now.callerWait;
            case 6:
                return now.calleeWait;
            case 7:
                return now.patience;
            default:
                throw new IllegalArgumentException("what is out of range");
        }
    }

    /** Tells a number of a party. */
    public int party(int party, int what) throws IndexOutOfBoundsException, IllegalArgumentException {
        requireParty(party);
        requireRange(what, 0, 5);
        switch (what) {
            case 3:
                return now.isEngaged(party) ? 1 : 0;
            case 4:
                return now.legOf(party, TALKING);
            case 5:
                return now.legsRingingAt(party);
            default:
                return now.parties.get(party, what);
        }
    }

    /** Tells a number of a call. */
    public int call(int call, int what) throws IndexOutOfBoundsException, IllegalArgumentException {
        requireCall(call);
        requireRange(what, 0, 5);
        if (what == 4) {
            return now.rings(call) ? 1 : 0;
        }
        return now.calls.get(call, what);
    }

    /** Tells a number of a leg. */
    public int leg(int leg, int what) throws IndexOutOfBoundsException, IllegalArgumentException {
        requireLeg(leg);
        requireRange(what, CALL, VERSION);
        return now.legs.get(leg, what);
    }

    /** Tells a number of the pending offer of a leg. */
    public int pending(int leg, int what)
            throws IndexOutOfBoundsException, NoSuchElementException, IllegalArgumentException {
        requireLeg(leg);
        if (now.legs.get(leg, OFFER_SIDE) == NONE) {
            throw new NoSuchElementException("no offer is pending");
        }
        requireRange(what, 0, 2);
        return now.legs.get(leg, OFFER_SIDE + what);
    }

    /** Tells when the repetition of a side of a leg is due. */
    public int repetition(int leg, int side) throws IndexOutOfBoundsException, IllegalArgumentException {
        requireLeg(leg);
        requireRange(side, CALLER_SIDE, CALLEE_SIDE);
        return now.legs.get(leg, REPETITION_DUE + side);
    }

    /** Tells how often something happened since the latest load. */
    public int total(int what) throws IllegalArgumentException {
        requireRange(what, 0, TOTALS - 1);
        return now.totals.get(0, what);
    }

    /** Predicts after how many seconds no leg of a call rings any more. */
    public int settlesIn(int call) throws IndexOutOfBoundsException {
        requireCall(call);
        return playUntilSettled(call);
    }

    /** Predicts the leg of a call that is answered. */
    public int answeredBy(int call) throws IndexOutOfBoundsException {
        requireCall(call);
        playUntilSettled(call);
        return future.calls.get(call, ANSWERED_LEG);
    }

    /** Lets seconds pass. */
    public int pass(int seconds) throws IllegalArgumentException {
        requireRange(seconds, 1, MOST_SECONDS);
        if (now.time + seconds > LATEST_TIME) {
            throw new IllegalArgumentException("the time would be too late");
        }
        history.push(now);
        for (int second = 0; second < seconds; second++) {
            now.passSecond();
        }
        return now.legsInState(TALKING);
    }

    /** Begins a call of a party to a set of parties. */
    public int dial(int party, int callees)
            throws IndexOutOfBoundsException, IllegalArgumentException, IllegalStateException {
        requireParty(party);
        if (callees <= 0 || callees >= (1 << now.parties.rows) || (callees >> party & 1) != 0) {
            throw new IllegalArgumentException("not a set of other parties");
        }
        if (now.isEngaged(party) || !now.hasRoomFor(Integer.bitCount(callees))) {
            throw new IllegalStateException("no call can begin");
        }
        history.push(now);
        return now.beginCall(party, callees, NONE);
    }

    /** Transfers the other party of the talking leg of a party to a third one. */
    public int transfer(int party, int target)
            throws IndexOutOfBoundsException, IllegalStateException, IllegalArgumentException {
        requireParty(party);
        requireParty(target);
        int leg = now.legOf(party, TALKING);
        if (leg == NONE || !now.hasRoomFor(1)) {
            throw new IllegalStateException("no transfer can begin");
        }
        if (now.isIn(leg, target)) {
            throw new IllegalArgumentException("the target is in the leg");
        }
        history.push(now);
        return now.referOtherParty(leg, party, target);
    }

    /** Lets a party hang up. */
    public int hangUp(int party) throws IndexOutOfBoundsException {
        requireParty(party);
        history.push(now);
        return now.leave(party);
    }

    /** Makes an offer of a party on its talking leg. */
    public int offer(int party, int value)
            throws IndexOutOfBoundsException, IllegalArgumentException, IllegalStateException {
        requireParty(party);
        requireRange(value, 0, HIGHEST_OFFER);
        int leg = now.legOf(party, TALKING);
        if (leg == NONE) {
            throw new IllegalStateException("the party is in no talking leg");
        }
        history.push(now);
        return now.makeOffer(leg, now.sideOf(leg, party), value);
    }

    /** Sets a number of a party. */
    public int setParty(int party, int what, int value)
            throws IndexOutOfBoundsException, IllegalArgumentException {
        requireParty(party);
        requireRange(what, ANSWER_DELAY, CAP);
        requireRange(value, 0, what == CAP ? HIGHEST_CAP : LONGEST_DELAY);
        history.push(now);
        int previous = now.parties.get(party, what);
        now.parties.set(party, what, value);
        return previous;
    }

    /** Undoes the latest change that is not final and has not been undone. */
    public int undo() {
        return history.popInto(now);
    }

    /** Computes a checksum over all that the face tells. */
    public long checksum() {
        long sum = now.time;
        for (int party = 0; party < now.parties.rows; party++) {
            for (int what = 0; what <= 5; what++) {
                sum = 31 * sum + party(party, what);
            }
        }
        for (int call = 0; call < now.calls.rows; call++) {
            for (int what = 0; what <= 5; what++) {
                sum = 31 * sum + call(call, what);
            }
        }
        for (int leg = 0; leg < now.legs.rows; leg++) {
            for (int what = 0; what <= 5; what++) {
                sum = 31 * sum + leg(leg, what);
            }
            sum = 31 * sum + repetition(leg, CALLER_SIDE);
            sum = 31 * sum + repetition(leg, CALLEE_SIDE);
        }
        for (int what = 0; what < TOTALS; what++) {
            sum = 31 * sum + total(what);
        }
        return sum;
    }

    private void requireParty(int party) {
        if (!now.parties.has(party)) {
            throw new IndexOutOfBoundsException("no such party");
        }
    }

    private void requireCall(int call) {
        if (!now.calls.has(call)) {
            throw new IndexOutOfBoundsException("no such call");
        }
    }

    private void requireLeg(int leg) {
        if (!now.legs.has(leg)) {
            throw new IndexOutOfBoundsException("no such leg");
        }
    }

    private static void requireRange(int value, int low, int high) {
        if (value < low || value > high) {
            throw new IllegalArgumentException("a number is out of range");
        }
    }

    // Leaves the exchange as it is then in future. A ring time is at most 99 seconds, so
    // that many are enough for every call.
    private int playUntilSettled(int call) {
        future.copyFrom(now);
        int seconds = 0;
        while (seconds < LONGEST_DELAY && future.rings(call)) {
            future.passSecond();
            seconds++;
        }
        return seconds;
    }

    private static int limit(long value, int low, int high) {
        if (value < low) {
            return low;
        }
        return value > high ? high : (int) value;
    }

    /** Rows of numbers. A cell outside of them reads as 0 and is not written. */
    private static final class Table {
        private final int[] cells;
        private final int columns;
        private int rows;

        Table(int[] cells, int columns) {
            this.cells = cells;
            this.columns = columns;
        }

        boolean has(int row) {
            return row >= 0 && row < rows;
        }

        int get(int row, int column) {
            int cell = row * columns + column;
            if (row < 0 || row >= rows || column < 0 || column >= columns || cell < 0 || cell >= cells.length) {
                return 0;
            }
            return cells[cell];
        }

        void set(int row, int column, int value) {
            int cell = row * columns + column;
            if (row < 0 || row >= rows || column < 0 || column >= columns || cell < 0 || cell >= cells.length) {
                return;
            }
            cells[cell] = value;
        }

        /** Adds a row of zeros, if there is room, and tells its index. */
        int addRow() {
            int row = rows;
            if ((row + 1) * columns > cells.length) {
                return NONE;
            }
            rows++;
            for (int column = 0; column < columns; column++) {
                set(row, column, 0);
            }
            return row;
        }

        void clear() {
            rows = 0;
        }

        void copyFrom(Table other) {
            rows = other.rows;
            for (int cell = 0; cell < cells.length && cell < other.cells.length && cell < rows * columns; cell++) {
                cells[cell] = other.cells[cell];
            }
        }
    }

    /** A ring expression: numbers, words and operations, each operation behind what it is made on. */
    private static final class RingRule {
        // Five nested sums hold back a sum and a term each, and one factor is at work.
        private static final int MOST_VALUES = 2 * (DEEPEST_NESTING + 1) + 1;
        private final int[] codes;
        private final int[] values = new int[MOST_VALUES];
        private int height;

        RingRule(int[] codes) {
            this.codes = codes;
        }

        int valueFor(int legs, int caller, int referred, int time) {
            height = 0;
            for (int at = 0; at < codes.length; at++) {
                int code = codes[at];
                switch (code) {
                    case LEGS_WORD:
                        push(legs);
                        break;
                    case CALLER_WORD:
                        push(caller);
                        break;
                    case REFERRED_WORD:
                        push(referred);
                        break;
                    case TIME_WORD:
                        push(time);
                        break;
                    case ADD:
                    case SUBTRACT:
                    case MULTIPLY:
                    case DIVIDE:
                        operate(code);
                        break;
                    default:
                        push(code);
                }
            }
            return pop();
        }

        private void push(int value) {
            if (height >= 0 && height < values.length) {
                values[height] = value;
                height++;
            }
        }

        private int pop() {
            if (height <= 0 || height > values.length) {
                return 0;
            }
            height--;
            return values[height];
        }

        private void operate(int operation) {
            long right = pop();
            long left = pop();
            long result;
            if (operation == ADD) {
                result = left + right;
            } else if (operation == SUBTRACT) {
                result = left - right;
            } else if (operation == MULTIPLY) {
                result = left * right;
            } else {
                result = right == 0 ? 0 : left / right;
            }
            push(limit(result, -LARGEST_RESULT, LARGEST_RESULT));
        }
    }

    /** All data that a change may change and undo brings back. */
    private static final class Exchange {
        private final Table parties = new Table(new int[MOST_PARTIES * PARTY_COLUMNS], PARTY_COLUMNS);
        private final Table calls = new Table(new int[MOST_CALLS * CALL_COLUMNS], CALL_COLUMNS);
        private final Table legs = new Table(new int[MOST_LEGS * LEG_COLUMNS], LEG_COLUMNS);
        private final Table totals = new Table(new int[TOTALS], TOTALS);
        // Null without a ring statement.
        private RingRule ring;
        private int time;
        private int callerWait = DEFAULT_CALLER_WAIT;
        private int calleeWait = DEFAULT_CALLEE_WAIT;
        private int patience = DEFAULT_PATIENCE;

        Exchange() {
            totals.addRow();
        }

        void clear() {
            parties.clear();
            calls.clear();
            legs.clear();
            totals.clear();
            totals.addRow();
            ring = null;
            time = 0;
            callerWait = DEFAULT_CALLER_WAIT;
            calleeWait = DEFAULT_CALLEE_WAIT;
            patience = DEFAULT_PATIENCE;
        }

        void copyFrom(Exchange other) {
            parties.copyFrom(other.parties);
            calls.copyFrom(other.calls);
            legs.copyFrom(other.legs);
            totals.copyFrom(other.totals);
            ring = other.ring;
            time = other.time;
            callerWait = other.callerWait;
            calleeWait = other.calleeWait;
            patience = other.patience;
        }

        void addParty(int answerDelay, int replyDelay, int cap) {
            int party = parties.addRow();
            parties.set(party, ANSWER_DELAY, answerDelay);
            parties.set(party, REPLY_DELAY, replyDelay);
            parties.set(party, CAP, cap);
        }

        int legsInState(int state) {
            int found = 0;
            for (int leg = 0; leg < legs.rows; leg++) {
                if (legs.get(leg, STATE) == state) {
                    found++;
                }
            }
            return found;
        }

        int legsRingingAt(int callee) {
            int found = 0;
            for (int leg = 0; leg < legs.rows; leg++) {
                if (ringsAt(leg, callee)) {
                    found++;
                }
            }
            return found;
        }

        boolean hasRoomFor(int newLegs) {
            return calls.rows < MOST_CALLS && legs.rows + newLegs <= MOST_LEGS;
        }

        boolean isEngaged(int party) {
            for (int leg = 0; leg < legs.rows; leg++) {
                int state = legs.get(leg, STATE);
                if (state != ENDED && callerOf(leg) == party) {
                    return true;
                }
                if ((state == TALKING || state == HELD) && legs.get(leg, CALLEE) == party) {
                    return true;
                }
            }
            return false;
        }

        /** The leg of this state in which the party is. */
        int legOf(int party, int state) {
            for (int leg = 0; leg < legs.rows; leg++) {
                if (legs.get(leg, STATE) == state && isIn(leg, party)) {
                    return leg;
                }
            }
            return NONE;
        }

        boolean isIn(int leg, int party) {
            return callerOf(leg) == party || legs.get(leg, CALLEE) == party;
        }

        int sideOf(int leg, int party) {
            return callerOf(leg) == party ? CALLER_SIDE : CALLEE_SIDE;
        }

        boolean rings(int call) {
            for (int leg = calls.get(call, FIRST_LEG); leg < calls.get(call, AFTER_LAST_LEG); leg++) {
                if (legs.get(leg, STATE) == RINGING) {
                    return true;
                }
            }
            return false;
        }

        /** Begins a call, perhaps referred by a leg, and tells how many of its legs ring. */
        int beginCall(int caller, int callees, int referredBy) {
            int call = calls.addRow();
            int newLegs = Integer.bitCount(callees);
            int referred = referredBy == NONE ? 0 : 1;
            calls.set(call, CALLER, caller);
            calls.set(call, BEGAN, time);
            calls.set(call, RING_TIME, ringTime(newLegs, caller, referred));
            calls.set(call, REFERRED_BY, referredBy);
            calls.set(call, ANSWERED_LEG, NONE);
            calls.set(call, FIRST_LEG, legs.rows);
            calls.set(call, AFTER_LAST_LEG, legs.rows + newLegs);
            int ringing = 0;
            for (int callee = 0; callee < parties.rows; callee++) {
                if ((callees >> callee & 1) != 0) {
                    ringing += addLeg(call, callee);
                }
            }
            if (ringing == 0) {
                failCall(call);
            }
            return ringing;
        }

        /** The leg is held, and the party's opposite begins a call to the target. */
        int referOtherParty(int leg, int party, int target) {
            int other = partyOn(leg, CALLEE_SIDE - sideOf(leg, party));
            legs.set(leg, STATE, HELD);
            dropOffers(leg);
            return beginCall(other, 1 << target, leg);
        }

        /** Lets a party hang up and tells which of the rules for it applied. */
        int leave(int party) {
            int talking = legOf(party, TALKING);
            if (talking != NONE) {
                endLeg(talking, HUNG_UP);
                return 1;
            }
            int given = ringingCallOf(party);
            if (given != NONE) {
                endRinging(given, CALLER_GAVE_UP);
                resumeReferrer(given);
                return 2;
            }
            int held = legOf(party, HELD);
            if (held != NONE) {
                endLeg(held, HUNG_UP);
                return 3;
            }
            return endRingingAt(party, CALLEE_REFUSED) > 0 ? 4 : 0;
        }

        /** Tells 1 if the offer is pending then, 0 if it is refused, -1 if there is glare. */
        int makeOffer(int leg, int side, int value) {
            int pendingSide = legs.get(leg, OFFER_SIDE);
            if (pendingSide == side) {
                return 0;
            }
            if (pendingSide == NONE) {
                setOffer(leg, side, value);
                return 1;
            }
            planRepetition(leg, pendingSide, legs.get(leg, OFFER_VALUE));
            planRepetition(leg, side, value);
            legs.set(leg, OFFER_SIDE, NONE);
            tally(GLARES);
            return -1;
        }

        void passSecond() {
            time++;
            for (int leg = 0; leg < legs.rows; leg++) {
                repeatOffer(leg, CALLER_SIDE);
                repeatOffer(leg, CALLEE_SIDE);
            }
            for (int leg = 0; leg < legs.rows; leg++) {
                settleOffer(leg);
            }
            for (int leg = 0; leg < legs.rows; leg++) {
                if (isAnsweredNow(leg)) {
                    answer(leg);
                }
            }
            for (int call = 0; call < calls.rows; call++) {
                if (time - calls.get(call, BEGAN) >= calls.get(call, RING_TIME) && rings(call)) {
                    endRinging(call, NO_ANSWER);
                    failCall(call);
                }
            }
        }

        private int ringTime(int newLegs, int caller, int referred) {
            if (ring == null) {
                return DEFAULT_RING_TIME;
            }
            return limit(ring.valueFor(newLegs, caller, referred, time), 1, LONGEST_DELAY);
        }

        private int callerOf(int leg) {
            return calls.get(legs.get(leg, CALL), CALLER);
        }

        private int partyOn(int leg, int side) {
            return side == CALLER_SIDE ? callerOf(leg) : legs.get(leg, CALLEE);
        }

        private boolean ringsAt(int leg, int callee) {
            return legs.get(leg, STATE) == RINGING && legs.get(leg, CALLEE) == callee;
        }

        private int ringingCallOf(int caller) {
            for (int call = 0; call < calls.rows; call++) {
                if (calls.get(call, CALLER) == caller && rings(call)) {
                    return call;
                }
            }
            return NONE;
        }

        private int addLeg(int call, int callee) {
            boolean busy = isEngaged(callee);
            int leg = legs.addRow();
            legs.set(leg, CALL, call);
            legs.set(leg, CALLEE, callee);
            legs.set(leg, STATE, RINGING);
            dropOffers(leg);
            if (busy) {
                endLeg(leg, CALLEE_BUSY);
            }
            return busy ? 0 : 1;
        }

        private void endLeg(int leg, int reason) {
            legs.set(leg, STATE, ENDED);
            legs.set(leg, REASON, reason);
            dropOffers(leg);
        }

        private void endRinging(int call, int reason) {
            for (int leg = calls.get(call, FIRST_LEG); leg < calls.get(call, AFTER_LAST_LEG); leg++) {
                if (legs.get(leg, STATE) == RINGING) {
                    endLeg(leg, reason);
                }
            }
        }

        // A call has at most one leg to this callee, so that it fails at the end of just this one.
        private int endRingingAt(int callee, int reason) {
            int ended = 0;
            for (int leg = 0; leg < legs.rows; leg++) {
                if (ringsAt(leg, callee)) {
                    endLeg(leg, reason);
                    ended++;
                    int call = legs.get(leg, CALL);
                    if (!rings(call)) {
                        failCall(call);
                    }
                }
            }
            return ended;
        }

        private void failCall(int call) {
            tally(CALLS_FAILED);
            resumeReferrer(call);
        }

        private void resumeReferrer(int call) {
            int referrer = calls.get(call, REFERRED_BY);
            if (referrer != NONE && legs.get(referrer, STATE) == HELD) {
                legs.set(referrer, STATE, TALKING);
            }
        }

        private boolean isAnsweredNow(int leg) {
            if (legs.get(leg, STATE) != RINGING) {
                return false;
            }
            int callee = legs.get(leg, CALLEE);
            int delay = parties.get(callee, ANSWER_DELAY);
            int rangFor = time - calls.get(legs.get(leg, CALL), BEGAN);
            return delay != 0 && rangFor == delay && !isEngaged(callee);
        }

        private void answer(int leg) {
            int call = legs.get(leg, CALL);
            legs.set(leg, STATE, TALKING);
            calls.set(call, ANSWERED_LEG, leg);
            tally(CALLS_ANSWERED);
            endRinging(call, OTHER_LEG_ANSWERED);
            endRingingAt(legs.get(leg, CALLEE), CALLEE_BUSY);
            int referrer = calls.get(call, REFERRED_BY);
            if (referrer != NONE && legs.get(referrer, STATE) == HELD) {
                endLeg(referrer, TRANSFERRED);
                tally(LEGS_TRANSFERRED);
            }
        }

        private void setOffer(int leg, int side, int value) {
            legs.set(leg, OFFER_SIDE, side);
            legs.set(leg, OFFER_VALUE, value);
            legs.set(leg, OFFER_SINCE, time);
        }

        private void planRepetition(int leg, int side, int value) {
            int wait = side == CALLER_SIDE ? callerWait : calleeWait;
            legs.set(leg, REPETITION_DUE + side, time + wait);
            legs.set(leg, REPETITION_VALUE + side, value);
        }

        private void dropOffers(int leg) {
            legs.set(leg, OFFER_SIDE, NONE);
            legs.set(leg, REPETITION_DUE + CALLER_SIDE, NONE);
            legs.set(leg, REPETITION_DUE + CALLEE_SIDE, NONE);
        }

        // Only talking legs have repetitions and offers: the others have dropped theirs.
        private void repeatOffer(int leg, int side) {
            if (legs.get(leg, REPETITION_DUE + side) != time) {
                return;
            }
            legs.set(leg, REPETITION_DUE + side, NONE);
            if (legs.get(leg, OFFER_SIDE) == NONE) {
                setOffer(leg, side, legs.get(leg, REPETITION_VALUE + side));
            } else {
                tally(REPETITIONS_LOST);
            }
        }

        private void settleOffer(int leg) {
            int side = legs.get(leg, OFFER_SIDE);
            if (side == NONE) {
                return;
            }
            int replier = partyOn(leg, CALLEE_SIDE - side);
            int delay = parties.get(replier, REPLY_DELAY);
            int value = legs.get(leg, OFFER_VALUE);
            int waited = time - legs.get(leg, OFFER_SINCE);
            boolean replies = delay != 0 && waited == delay;
            if (replies && value <= parties.get(replier, CAP)) {
                legs.set(leg, SETTING, value);
                legs.set(leg, VERSION, legs.get(leg, VERSION) + 1);
                legs.set(leg, OFFER_SIDE, NONE);
                tally(OFFERS_ACCEPTED);
            } else if (replies || waited >= patience) {
                legs.set(leg, OFFER_SIDE, NONE);
                tally(OFFERS_ROLLED_BACK);
            }
        }

        private void tally(int what) {
            totals.set(0, what, totals.get(0, what) + 1);
        }
    }

    /** The exchange as it was before each of the latest changes that can be undone. */
    private static final class History {
        private final Exchange[] saved = new Exchange[MOST_UNDOS];
        private int next;
        private int undoable;

        History() {
            for (int slot = 0; slot < saved.length; slot++) {
                saved[slot] = new Exchange();
            }
        }

        void push(Exchange exchange) {
            if (next < 0 || next >= saved.length || saved[next] == null) {
                return;
            }
            saved[next].copyFrom(exchange);
            next = next + 1 == saved.length ? 0 : next + 1;
            undoable = Math.min(undoable + 1, saved.length);
        }

        /** Tells how many changes can still be undone; -1 if there was none to undo. */
        int popInto(Exchange exchange) {
            if (undoable == 0) {
                return NONE;
            }
            int slot = next == 0 ? saved.length - 1 : next - 1;
            if (slot < 0 || slot >= saved.length || saved[slot] == null) {
                return NONE;
            }
            exchange.copyFrom(saved[slot]);
            next = slot;
            undoable--;
            return undoable;
        }
    }

    /** The input buffer, and what reads a setup text in it token by token until its first error. */
    private static final class SetupReader {
        private static final int END = 0;
        private static final int WORD = 1;
        private static final int NUMBER = 2;
        private static final int SIGN = 3;
        // Stands for every number that is greater than all ranges.
        private static final int HUGE = 100000;

        private final byte[] text = new byte[MOST_BYTES];
        private int bytesAdded;
        private final Exchange setup = new Exchange();
        private final int[] codes = new int[MOST_BYTES];
        private int codeCount;
        private int length;
        private int position;
        private int token;
        private int tokenStart;
        private int tokenValue;
        private boolean waitSeen;
        private boolean patienceSeen;
        private boolean ringSeen;
        private int error;
        private int errorOffset;

        boolean hasRoomFor(int bytes) {
            return bytesAdded + bytes <= text.length;
        }

        /** Adds the 4 bytes of the word to the text, the most significant one first. */
        void addWord(int word) {
            for (int shift = 24; shift >= 0; shift -= 8) {
                if (bytesAdded >= 0 && bytesAdded < text.length) {
                    text[bytesAdded] = (byte) (word >> shift);
                    bytesAdded++;
                }
            }
        }

        /** Reads the first bytes of the text into setup, empties the text, and tells the error. */
        int readSetup(int textLength) {
            bytesAdded = 0;
            length = textLength;
            position = 0;
            codeCount = 0;
            waitSeen = false;
            patienceSeen = false;
            ringSeen = false;
            error = NO_ERROR;
            errorOffset = NONE;
            setup.clear();
            nextToken();
            if (!atWord("exchange")) {
                fail(SYNTAX_ERROR);
                return error;
            }
            nextToken();
            takeSign(';');
            for (int statement = 0; statement < length && error == NO_ERROR && token != END; statement++) {
                readStatement();
                takeSign(';');
            }
            if (error == NO_ERROR && ringSeen && codeCount >= 0 && codeCount <= codes.length) {
                setup.ring = new RingRule(Arrays.copyOf(codes, codeCount));
            }
            return error;
        }

        private void readStatement() {
            if (atWord("party")) {
                readParty();
            } else if (atWord("wait") && !waitSeen) {
                readWait();
            } else if (atWord("patience") && !patienceSeen) {
                readPatience();
            } else if (atWord("ring") && !ringSeen) {
                ringSeen = true;
                nextToken();
                readSum(0);
            } else {
                fail(SYNTAX_ERROR);
            }
        }

        private void readParty() {
            if (setup.parties.rows >= MOST_PARTIES) {
                fail(TOO_MANY);
                return;
            }
            nextToken();
            int answerDelay = takeNumber(0, LONGEST_DELAY);
            int replyDelay = takeNumber(0, LONGEST_DELAY);
            int cap = takeNumber(0, HIGHEST_CAP);
            setup.addParty(answerDelay, replyDelay, cap);
        }

        private void readWait() {
            waitSeen = true;
            nextToken();
            setup.callerWait = takeNumber(1, LONGEST_DELAY);
            setup.calleeWait = takeNumber(1, LONGEST_DELAY);
        }

        private void readPatience() {
            patienceSeen = true;
            nextToken();
            setup.patience = takeNumber(1, LONGEST_DELAY);
        }

        private void readSum(int nesting) {
            readTerm(nesting);
            for (int round = 0; round < length && (atSign('+') || atSign('-')) && error == NO_ERROR; round++) {
                int operation = atSign('+') ? ADD : SUBTRACT;
                nextToken();
                readTerm(nesting);
                addCode(operation);
            }
        }

        private void readTerm(int nesting) {
            readFactor(nesting);
            for (int round = 0; round < length && (atSign('*') || atSign('/')) && error == NO_ERROR; round++) {
                int operation = atSign('*') ? MULTIPLY : DIVIDE;
                nextToken();
                readFactor(nesting);
                addCode(operation);
            }
        }

        private void readFactor(int nesting) {
            if (token == NUMBER) {
                addCode(numberInRange(0, LARGEST_FACTOR));
            } else if (atWord("legs")) {
                addCode(LEGS_WORD);
            } else if (atWord("caller")) {
                addCode(CALLER_WORD);
            } else if (atWord("referred")) {
                addCode(REFERRED_WORD);
            } else if (atWord("time")) {
                addCode(TIME_WORD);
            } else if (!atSign('(')) {
                fail(SYNTAX_ERROR);
            } else if (nesting >= DEEPEST_NESTING) {
                fail(TOO_DEEP);
            } else {
                nextToken();
                readSum(nesting + 1);
                if (!atSign(')')) {
                    fail(SYNTAX_ERROR);
                }
            }
            nextToken();
        }

        private void addCode(int code) {
            if (codeCount >= 0 && codeCount < codes.length) {
                codes[codeCount] = code;
                codeCount++;
            }
        }

        // What follows the first error may fail as well, but does not count.
        private void fail(int code) {
            if (error == NO_ERROR) {
                error = code;
                errorOffset = tokenStart;
            }
        }

        private void takeSign(char sign) {
            if (!atSign(sign)) {
                fail(SYNTAX_ERROR);
            }
            nextToken();
        }

        private int takeNumber(int low, int high) {
            int number = numberInRange(low, high);
            nextToken();
            return number;
        }

        private int numberInRange(int low, int high) {
            if (token != NUMBER) {
                fail(SYNTAX_ERROR);
            } else if (tokenValue < low || tokenValue > high) {
                fail(OUT_OF_RANGE);
            }
            return tokenValue;
        }

        private boolean atSign(char sign) {
            return token == SIGN && byteAt(tokenStart) == sign;
        }

        private boolean atWord(String word) {
            if (token != WORD || position - tokenStart != word.length()) {
                return false;
            }
            for (int at = 0; at < word.length(); at++) {
                if (byteAt(tokenStart + at) != word.charAt(at)) {
                    return false;
                }
            }
            return true;
        }

        private void nextToken() {
            while (position < length && byteAt(position) == ' ') {
                position++;
            }
            tokenStart = position;
            int first = byteAt(position);
            if (isDigit(first)) {
                token = NUMBER;
                tokenValue = 0;
                while (position < length && isDigit(byteAt(position))) {
                    tokenValue = Math.min(10 * tokenValue + byteAt(position) - '0', HUGE);
                    position++;
                }
            } else if (isLetter(first)) {
                token = WORD;
                while (position < length && isLetter(byteAt(position))) {
                    position++;
                }
            } else if (position < length) {
                token = SIGN;
                position++;
            } else {
                token = END;
            }
        }

        private int byteAt(int offset) {
            if (offset < 0 || offset >= length || offset >= text.length) {
                return NONE;
            }
            return text[offset] & 255;
        }

        private static boolean isDigit(int character) {
            return character >= '0' && character <= '9';
        }

        private static boolean isLetter(int character) {
            return character >= 'a' && character <= 'z';
        }
    }
}
