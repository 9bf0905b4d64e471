/** Promises 7 to 14 and 22: what is told of parties, calls, legs and offers, predictions and the checksum. */
public final class ViewTests {
    public static void main(String[] args) {
        promise7Party();
        promise8Call();
        promise9Leg();
        promise10Pending();
        promise11Repetition();
        promise12Total();
        promise13SettlesIn();
        promise14AnsweredBy();
        predictionsChangeNothing();
        promise22Checksum();
        Exam.finish();
    }

    private static void promise7Party() {
        CallForks forks = Exam.loaded("exchange;party 1 2 3;party 2 98 999;party 0 0 0;party 99 4 5;party 0 0 0;");
        party(forks, 0, 1, 2, 3, 0, -1, 0);
        party(forks, 3, 99, 4, 5, 0, -1, 0);
        forks.dial(0, 2 + 4);
        party(forks, 0, 1, 2, 3, 1, -1, 0);
        party(forks, 1, 2, 98, 999, 0, -1, 1);
        party(forks, 2, 0, 0, 0, 0, -1, 1);
        forks.dial(3, 4);
        party(forks, 2, 0, 0, 0, 0, -1, 2);
        forks.pass(2);
        party(forks, 0, 1, 2, 3, 1, 0, 0);
        party(forks, 1, 2, 98, 999, 1, 0, 0);
        party(forks, 2, 0, 0, 0, 0, -1, 1);
        forks.transfer(0, 4);
        party(forks, 0, 1, 2, 3, 1, -1, 0);
        party(forks, 1, 2, 98, 999, 1, -1, 0);
        party(forks, 4, 0, 0, 0, 0, -1, 1);
        forks.hangUp(0);
        party(forks, 0, 1, 2, 3, 0, -1, 0);
        party(forks, 1, 2, 98, 999, 1, -1, 0);
        forks.hangUp(1);
        party(forks, 1, 2, 98, 999, 0, -1, 0);
        Exam.index("party -1", () -> forks.party(-1, 0));
        Exam.index("party 5", () -> forks.party(5, 0));
        Exam.index("party 5 before what", () -> forks.party(5, 9));
        Exam.argument("party what -1", () -> forks.party(4, -1));
        Exam.argument("party what 6", () -> forks.party(4, 6));
        Exam.argument("party greatest what", () -> forks.party(4, Integer.MAX_VALUE));
    }

    private static void promise8Call() {
        CallForks forks = Exam.loaded("exchange;party 0 0 0;party 3 0 0;party 0 0 0;party 2 0 0;party 0 0 0;ring legs*10+caller+referred*5;");
        forks.pass(4);
        forks.dial(2, 1 + 2);
        call(forks, 0, 2, 4, 22, -1, 1, -1);
        forks.pass(3);
        call(forks, 0, 2, 4, 22, -1, 0, 1);
        forks.dial(4, 2 + 4);
        call(forks, 1, 4, 7, 24, -1, 0, -1);
        forks.transfer(2, 3);
        call(forks, 2, 1, 7, 16, 1, 1, -1);
        forks.pass(2);
        call(forks, 2, 1, 7, 16, 1, 0, 4);
        call(forks, 0, 2, 4, 22, -1, 0, 1);
        forks.hangUp(3);
        call(forks, 2, 1, 7, 16, 1, 0, 4);
        Exam.index("call -1", () -> forks.call(-1, 0));
        Exam.index("call 3", () -> forks.call(3, 0));
        Exam.index("call 3 before what", () -> forks.call(3, 6));
        Exam.argument("call what -1", () -> forks.call(2, -1));
        Exam.argument("call what 6", () -> forks.call(2, 6));
    }

    private static void promise9Leg() {
        CallForks forks = Exam.loaded("exchange;party 0 0 0;party 2 1 9;party 0 0 0;party 0 0 0;");
        forks.dial(0, 4 + 2);
        leg(forks, 0, 0, 1, 0, 0, 0, 0);
        leg(forks, 1, 0, 2, 0, 0, 0, 0);
        forks.pass(2);
        leg(forks, 0, 0, 1, 1, 0, 0, 0);
        leg(forks, 1, 0, 2, 3, 2, 0, 0);
        forks.offer(0, 9);
        forks.pass(1);
        leg(forks, 0, 0, 1, 1, 0, 9, 1);
        forks.offer(0, 9);
        forks.pass(1);
        leg(forks, 0, 0, 1, 1, 0, 9, 2);
        forks.offer(0, 8);
        forks.transfer(0, 2);
        leg(forks, 0, 0, 1, 2, 0, 9, 2);
        leg(forks, 2, 1, 2, 0, 0, 0, 0);
        forks.hangUp(2);
        leg(forks, 0, 0, 1, 1, 0, 9, 2);
        leg(forks, 2, 1, 2, 3, 5, 0, 0);
        forks.hangUp(1);
        leg(forks, 0, 0, 1, 3, 6, 9, 2);
        forks.dial(0, 4);
        leg(forks, 3, 2, 2, 0, 0, 0, 0);
        forks.dial(3, 1 + 2);
        leg(forks, 4, 3, 0, 3, 1, 0, 0);
        leg(forks, 5, 3, 1, 0, 0, 0, 0);
        Exam.index("leg -1", () -> forks.leg(-1, 0));
        Exam.index("leg 6", () -> forks.leg(6, 0));
        Exam.index("leg 6 before what", () -> forks.leg(6, -1));
        Exam.argument("leg what -1", () -> forks.leg(5, -1));
        Exam.argument("leg what 6", () -> forks.leg(5, 6));
    }

    private static void promise10Pending() {
        CallForks forks = Exam.talking("party 0 0 0;party 1 0 0;party 0 0 0;");
        Exam.element("no offer", () -> forks.pending(0, 0));
        Exam.element("no offer before what", () -> forks.pending(0, 3));
        Exam.index("no leg", () -> forks.pending(1, 0));
        Exam.index("leg -1", () -> forks.pending(-1, 3));
        forks.pass(2);
        forks.offer(1, 999);
        Exam.pending(forks, 0, 1, 999, 3);
        forks.pass(2);
        Exam.pending(forks, 0, 1, 999, 3);
        Exam.argument("pending what 3", () -> forks.pending(0, 3));
        Exam.argument("pending what -1", () -> forks.pending(0, -1));
        forks.dial(2, 1);
        Exam.element("a leg that ended at once", () -> forks.pending(1, 0));
        forks.transfer(0, 2);
        Exam.element("a held leg", () -> forks.pending(0, 0));
        forks.hangUp(1);
        Exam.same("it talks again", forks.leg(0, 2), 1);
        Exam.element("its offer has gone", () -> forks.pending(0, 0));
        forks.offer(0, 0);
        Exam.pending(forks, 0, 0, 0, 5);
        forks.hangUp(0);
        Exam.element("an ended leg", () -> forks.pending(0, 0));
        Exam.same("what goes is counted nowhere", forks.total(0) + forks.total(1) + forks.total(3), 0);
    }

    private static void promise11Repetition() {
        CallForks forks = Exam.talking("party 0 0 0;party 1 0 0;party 0 0 0;wait 4 6;");
        Exam.repetitions(forks, 0, -1, -1);
        forks.offer(1, 3);
        Exam.repetitions(forks, 0, -1, -1);
        forks.offer(0, 4);
        Exam.repetitions(forks, 0, 5, 7);
        forks.pass(1);
        forks.offer(0, 5);
        Exam.repetitions(forks, 0, 5, 7);
        forks.offer(1, 6);
        Exam.repetitions(forks, 0, 6, 8);
        forks.pass(4);
        Exam.repetitions(forks, 0, -1, 8);
        Exam.pending(forks, 0, 0, 5, 6);
        forks.undo();
        Exam.repetitions(forks, 0, 6, 8);
        forks.transfer(1, 2);
        Exam.repetitions(forks, 0, -1, -1);
        forks.undo();
        forks.hangUp(0);
        Exam.repetitions(forks, 0, -1, -1);
        Exam.argument("side -1", () -> forks.repetition(0, -1));
        Exam.argument("side 2", () -> forks.repetition(0, 2));
        Exam.index("leg 1", () -> forks.repetition(1, 0));
        Exam.index("leg 1 before side", () -> forks.repetition(1, 2));
        Exam.index("leg -1", () -> forks.repetition(-1, 0));
    }

    private static void promise12Total() {
        CallForks forks = Exam.talking("party 0 1 10;party 1 2 20;party 1 0 0;party 0 0 0;wait 2 2;patience 3;");
        Exam.totals(forks, 0, 0, 0, 0, 1, 0, 0);
        forks.offer(0, 20);
        forks.pass(2);
        Exam.totals(forks, 1, 0, 0, 0, 1, 0, 0);
        forks.offer(0, 21);
        forks.pass(2);
        Exam.totals(forks, 1, 1, 0, 0, 1, 0, 0);
        forks.offer(0, 5);
        forks.offer(1, 6);
        Exam.totals(forks, 1, 1, 1, 0, 1, 0, 0);
        forks.pass(2);
        Exam.totals(forks, 1, 1, 1, 1, 1, 0, 0);
        forks.undo();
        Exam.totals(forks, 1, 1, 1, 0, 1, 0, 0);
        forks.dial(3, 1);
        Exam.totals(forks, 1, 1, 1, 0, 1, 1, 0);
        forks.transfer(0, 2);
        forks.pass(1);
        Exam.totals(forks, 1, 1, 1, 0, 2, 1, 1);
        forks.dial(3, 1);
        forks.hangUp(3);
        Exam.totals(forks, 1, 1, 1, 0, 2, 1, 1);
        forks.dial(3, 1);
        forks.hangUp(0);
        Exam.totals(forks, 1, 1, 1, 0, 2, 2, 1);
        Exam.argument("total -1", () -> forks.total(-1));
        Exam.argument("total 7", () -> forks.total(7));
        Exam.load(forks, "exchange;");
        Exam.totals(forks, 0, 0, 0, 0, 0, 0, 0);
    }

    private static void promise13SettlesIn() {
        CallForks forks = Exam.loaded("exchange;party 0 0 0;party 9 0 0;party 4 0 0;party 6 0 0;party 0 0 0;ring 12;");
        forks.dial(0, 2 + 8);
        Exam.same("the first to answer", forks.settlesIn(0), 6);
        forks.pass(2);
        Exam.same("later", forks.settlesIn(0), 4);
        forks.dial(4, 8);
        Exam.same("taken away by another answer", forks.settlesIn(1), 4);
        forks.dial(2, 2);
        Exam.same("nothing in its way", forks.settlesIn(2), 9);
        forks.setParty(1, 0, 50);
        Exam.same("the ring time", forks.settlesIn(2), 12);
        forks.pass(4);
        Exam.same("settled", forks.settlesIn(0), 0);
        Exam.same("failed", forks.settlesIn(1), 0);
        Exam.index("call -1", () -> forks.settlesIn(-1));
        Exam.index("call 3", () -> forks.settlesIn(3));
        CallForks late = Exam.loaded("exchange;party 0 0 0;party 0 0 0;party 98 0 0;ring 99;");
        for (int k = 0; k < 49; k++) {
            late.pass(200);
        }
        late.pass(199);
        late.dial(0, 2);
        late.dial(1, 4);
        Exam.same("beyond the latest time", late.settlesIn(0), 99);
        Exam.same("an answer beyond the latest time", late.settlesIn(1), 98);
        Exam.same("answered beyond it", late.answeredBy(1), 1);
        Exam.same("the time stays", late.time(), 9999);
    }

    private static void promise14AnsweredBy() {
        CallForks forks = Exam.loaded("exchange;party 0 0 0;party 9 0 0;party 4 0 0;party 6 0 0;party 0 0 0;ring 12;");
        forks.dial(0, 2 + 8);
        Exam.same("the first to answer", forks.answeredBy(0), 1);
        forks.dial(4, 8);
        Exam.same("nobody", forks.answeredBy(1), -1);
        forks.dial(2, 2);
        Exam.same("later", forks.answeredBy(2), 3);
        forks.setParty(1, 0, 12);
        Exam.same("at the ring time itself", forks.answeredBy(2), 3);
        forks.setParty(1, 0, 13);
        Exam.same("after the ring time", forks.answeredBy(2), -1);
        forks.pass(6);
        Exam.same("has answered", forks.answeredBy(0), 1);
        Exam.same("failed", forks.answeredBy(1), -1);
        forks.hangUp(0);
        Exam.same("hung up", forks.answeredBy(0), 1);
        Exam.index("call -1", () -> forks.answeredBy(-1));
        Exam.index("call 3", () -> forks.answeredBy(3));
    }

    private static void predictionsChangeNothing() {
        CallForks forks = Exam.talking("party 0 3 999;party 1 2 999;party 5 0 0;party 0 0 0;");
        forks.offer(0, 4);
        forks.dial(3, 4);
        long before = forks.checksum();
        Exam.same("settlesIn", forks.settlesIn(1), 5);
        Exam.same("answeredBy", forks.answeredBy(1), 1);
        Exam.same("checksum after predictions", forks.checksum(), before);
        Exam.pending(forks, 0, 0, 4, 1);
        Exam.same("predictions are no changes", forks.undo(), 4);
    }

    private static void promise22Checksum() {
        CallForks forks = Exam.talking("party 0 2 3;party 1 4 5;party 0 0 0;");
        forks.offer(0, 7);
        forks.offer(1, 8);
        forks.dial(2, 1);
        Exam.same("undo the dial", forks.undo(), 5);
        long[] numbers = {1,
            0, 2, 3, 1, 0, 0, 1, 4, 5, 1, 0, 0, 0, 0, 0, 0, -1, 0,
            0, 0, 30, -1, 0, 0,
            0, 1, 1, 0, 0, 0, 4, 6,
            0, 0, 1, 0, 1, 0, 0};
        long sum = 0;
        for (long number : numbers) {
            sum = sum * 31 + number;
        }
        Exam.same("checksum", forks.checksum(), sum);
        CallForks empty = new CallForks();
        empty.pass(3);
        Exam.same("checksum without parties", empty.checksum(), 3L * 31 * 31 * 31 * 31 * 31 * 31 * 31);
    }

    private static void party(CallForks forks, int party, int... due) {
        for (int what = 0; what < due.length; what++) {
            Exam.same("party " + party + " " + what + " at " + forks.time(), forks.party(party, what), due[what]);
        }
    }

    private static void call(CallForks forks, int call, int... due) {
        for (int what = 0; what < due.length; what++) {
            Exam.same("call " + call + " " + what + " at " + forks.time(), forks.call(call, what), due[what]);
        }
    }

    private static void leg(CallForks forks, int leg, int... due) {
        for (int what = 0; what < due.length; what++) {
            Exam.same("leg " + leg + " " + what + " at " + forks.time(), forks.leg(leg, what), due[what]);
        }
    }
}
