/** Promises 15 to 21: what seconds, dialling, transfers, hanging up, offers, settings and undo change. */
public final class ChangeTests {
    public static void main(String[] args) {
        promise15PassRange();
        promise15Answers();
        promise15AnswerAndFork();
        promise15RingTime();
        promise15Replies();
        promise15Patience();
        promise15Repetitions();
        promise15FreedInTheSameSecond();
        promise16Dial();
        promise16Limits();
        promise17Transfer();
        promise17TakenBack();
        promise17Refused();
        promise17Limits();
        promise18HangUp();
        promise18Refusals();
        promise19Offer();
        promise20SetParty();
        promise21Undo();
        promise21MadeAgain();
        promise21EveryChange();
        Exam.finish();
    }

    private static void promise15PassRange() {
        CallForks forks = new CallForks();
        Exam.argument("pass 0", () -> forks.pass(0));
        Exam.argument("pass -1", () -> forks.pass(-1));
        Exam.argument("pass 201", () -> forks.pass(201));
        Exam.argument("pass the greatest", () -> forks.pass(Integer.MAX_VALUE));
        Exam.same("a refused pass is no change", forks.undo(), -1);
        for (int k = 0; k < 49; k++) {
            Exam.same("pass 200", forks.pass(200), 0);
        }
        Exam.argument("pass to 10000", () -> forks.pass(200));
        Exam.same("pass to 9999", forks.pass(199), 0);
        Exam.same("the latest time", forks.time(), 9999);
        Exam.argument("pass beyond 9999", () -> forks.pass(1));
    }

    private static void promise15Answers() {
        CallForks forks = Exam.loaded("exchange;party 0 0 0;party 3 0 0;party 0 0 0;party 1 0 0;party 0 0 0;");
        forks.dial(0, 2);
        Exam.same("before the answer", forks.pass(2), 0);
        Exam.leg(forks, 0, 0, 0);
        Exam.same("the answer", forks.pass(1), 1);
        Exam.leg(forks, 0, 1, 0);
        forks.dial(2, 8);
        Exam.same("two talk", forks.pass(1), 2);
        forks.hangUp(1);
        forks.dial(0, 2);
        forks.dial(1, 16);
        Exam.same("an engaged callee", forks.pass(3), 1);
        Exam.leg(forks, 2, 0, 0);
        forks.hangUp(1);
        Exam.same("free only after its delay", forks.pass(20), 1);
        Exam.leg(forks, 2, 0, 0);
        forks.pass(7);
        Exam.leg(forks, 2, 3, 3);
        forks.dial(0, 2);
        forks.pass(2);
        forks.setParty(1, 0, 2);
        forks.pass(1);
        Exam.leg(forks, 4, 0, 0);
        forks.setParty(1, 0, 5);
        forks.pass(2);
        Exam.leg(forks, 4, 1, 0);
    }

    private static void promise15AnswerAndFork() {
        CallForks forks = Exam.loaded("exchange;" + "party 0 0 0;".repeat(3) + "party 2 0 0;party 2 0 0;party 1 0 0;party 0 0 0;party 0 0 0;");
        forks.dial(0, 8 + 16);
        forks.dial(1, 8);
        forks.dial(2, 8 + 64);
        forks.dial(7, 16);
        Exam.same("pass", forks.pass(2), 2);
        Exam.leg(forks, 0, 1, 0);
        Exam.leg(forks, 1, 3, 2);
        Exam.leg(forks, 2, 3, 1);
        Exam.leg(forks, 3, 3, 1);
        Exam.leg(forks, 4, 0, 0);
        Exam.leg(forks, 5, 1, 0);
        Exam.same("the call with one leg has failed", forks.total(5), 1);
        Exam.same("answered calls", forks.total(4), 2);
        Exam.same("the other call rings on", forks.call(2, 4), 1);
        Exam.same("no leg of the failed call", forks.call(1, 5), -1);
        Exam.same("the caller of the failed call is free", forks.party(1, 3), 0);
    }

    private static void promise15RingTime() {
        CallForks forks = Exam.loaded("exchange;party 0 0 0;party 5 0 0;party 0 0 0;party 6 0 0;ring 5;");
        forks.dial(0, 4 + 8);
        forks.dial(1, 4);
        forks.pass(4);
        Exam.same("ringing", forks.count(4), 3);
        forks.pass(1);
        Exam.same("no ringing", forks.count(4), 0);
        Exam.leg(forks, 0, 3, 3);
        Exam.leg(forks, 1, 3, 3);
        Exam.leg(forks, 2, 3, 3);
        Exam.same("failed", forks.total(5), 2);
        forks.dial(0, 2);
        Exam.same("an answer at the ring time counts", forks.pass(5), 1);
        forks.hangUp(0);
        forks.dial(0, 8);
        Exam.same("an answer after the ring time does not", forks.pass(6), 0);
    }

    private static void promise15Replies() {
        CallForks forks = Exam.talking("party 0 4 50;party 1 2 40;");
        forks.offer(0, 40);
        forks.pass(1);
        Exam.same("not yet", forks.pending(0, 1), 40);
        forks.pass(1);
        offered(forks, 40, 1, 1, 0);
        forks.offer(0, 41);
        forks.pass(2);
        offered(forks, 40, 1, 1, 1);
        forks.offer(1, 50);
        forks.pass(3);
        Exam.same("the caller's delay", forks.pending(0, 2), 5);
        forks.pass(1);
        offered(forks, 50, 2, 2, 1);
        forks.offer(1, 51);
        forks.pass(4);
        offered(forks, 50, 2, 2, 2);
        forks.offer(0, 0);
        forks.setParty(1, 1, 1);
        forks.pass(1);
        offered(forks, 0, 3, 3, 2);
        forks.offer(0, 7);
        forks.pass(1);
        forks.offer(0, 9);
        forks.setParty(1, 2, 8);
        forks.pass(1);
        offered(forks, 7, 4, 4, 3);
    }

    private static void promise15Patience() {
        CallForks forks = Exam.talking("party 0 0 0;party 1 5 99;patience 5;");
        forks.offer(0, 3);
        forks.pass(5);
        offered(forks, 3, 1, 1, 0);
        forks.setParty(1, 1, 6);
        forks.offer(0, 4);
        forks.pass(4);
        Exam.same("still pending", forks.pending(0, 1), 4);
        forks.pass(1);
        offered(forks, 3, 1, 1, 1);
        forks.offer(1, 4);
        forks.pass(5);
        offered(forks, 3, 1, 1, 2);
        CallForks plain = Exam.talking("party 0 0 0;party 1 0 0;");
        plain.offer(1, 1);
        plain.pass(19);
        Exam.same("patience of 20", plain.pending(0, 0), 1);
        plain.pass(1);
        offered(plain, 0, 0, 0, 1);
    }

    private static void promise15Repetitions() {
        CallForks forks = Exam.talking("party 0 0 99;party 1 1 99;wait 2 3;");
        forks.offer(1, 11);
        Exam.same("glare", forks.offer(0, 22), -1);
        forks.pass(2);
        Exam.same("the caller repeats", forks.pending(0, 1), 22);
        Exam.same("since then", forks.pending(0, 2), 3);
        Exam.same("no repetition of the caller", forks.repetition(0, 0), -1);
        forks.pass(1);
        Exam.same("lost, as step 1 comes first", forks.total(3), 1);
        offered(forks, 22, 1, 1, 0);
        CallForks callee = Exam.talking("party 0 0 99;party 1 0 99;wait 3 2;");
        callee.offer(1, 11);
        callee.offer(0, 22);
        callee.pass(2);
        Exam.same("the callee repeats its side", callee.pending(0, 0), 1);
        Exam.same("the callee repeats its value", callee.pending(0, 1), 11);
        Exam.repetitions(callee, 0, 4, -1);
        callee.pass(1);
        Exam.same("the caller's one is lost", callee.total(3), 1);
        CallForks equal = Exam.talking("party 0 0 99;party 1 0 99;wait 4 4;");
        equal.offer(0, 1);
        equal.offer(1, 2);
        equal.pass(4);
        Exam.same("side 0 first", equal.pending(0, 0), 0);
        Exam.same("side 1 is lost", equal.total(3), 1);
        Exam.repetitions(equal, 0, -1, -1);
        CallForks own = Exam.talking("party 0 0 99;party 1 0 99;party 0 0 0;wait 2 9;");
        own.offer(0, 1);
        own.offer(1, 2);
        own.offer(0, 3);
        own.pass(2);
        Exam.same("lost by an offer of its own side", own.total(3), 1);
        Exam.same("which stays", own.pending(0, 1), 3);
        own.transfer(0, 2);
        own.hangUp(1);
        Exam.repetitions(own, 0, -1, -1);
        own.pass(9);
        Exam.same("repetitions of a held leg have gone", own.total(3), 1);
    }

    private static void promise15FreedInTheSameSecond() {
        // When 3 answers leg 0, the call of 2 to it fails: 2 is free before the turn of leg 1.
        CallForks freed = Exam.loaded("exchange;party 0 0 0;party 0 0 0;party 2 0 0;party 2 0 0;");
        freed.dial(0, 8);
        freed.dial(1, 4);
        freed.dial(2, 8);
        Exam.same("both answer", freed.pass(2), 2);
        Exam.leg(freed, 0, 1, 0);
        Exam.leg(freed, 1, 1, 0);
        Exam.leg(freed, 2, 3, 1);
        Exam.same("one has failed", freed.total(5), 1);
        // Here the turn of the leg to 2 comes first, when 2 is still engaged.
        CallForks early = Exam.loaded("exchange;party 0 0 0;party 0 0 0;party 2 0 0;party 2 0 0;");
        early.dial(1, 4);
        early.dial(0, 8);
        early.dial(2, 8);
        Exam.same("one answers", early.pass(2), 1);
        Exam.leg(early, 0, 0, 0);
        Exam.leg(early, 1, 1, 0);
        Exam.leg(early, 2, 3, 1);
        // Two callees would answer in one second: the first leg talks, the other one is left out.
        CallForks both = Exam.loaded("exchange;party 0 0 0;party 2 0 0;party 2 0 0;");
        both.dial(0, 6);
        Exam.same("one of both", both.pass(2), 1);
        Exam.leg(both, 0, 1, 0);
        Exam.leg(both, 1, 3, 2);
        Exam.same("answered once", both.total(4), 1);
    }

    private static void promise16Dial() {
        CallForks forks = Exam.loaded("exchange;" + "party 0 0 0;".repeat(3) + "party 1 0 0;party 0 0 0;");
        Exam.same("three ring", forks.dial(1, 1 + 4 + 8), 3);
        for (int k = 0; k < 3; k++) {
            Exam.same("callee " + k, forks.leg(k, 1), new int[] {0, 2, 3}[k]);
            Exam.same("state " + k, forks.leg(k, 2), 0);
        }
        Exam.same("one is engaged", forks.dial(4, 2 + 8), 1);
        Exam.leg(forks, 3, 3, 1);
        Exam.leg(forks, 4, 0, 0);
        Exam.same("all are engaged", forks.dial(0, 2 + 16), 0);
        Exam.leg(forks, 5, 3, 1);
        Exam.leg(forks, 6, 3, 1);
        Exam.same("has failed", forks.total(5), 1);
        Exam.same("a call though", forks.count(1), 3);
        Exam.same("its caller is free", forks.party(0, 3), 0);
        forks.pass(1);
        Exam.index("party -1", () -> forks.dial(-1, 0));
        Exam.index("party 5", () -> forks.dial(5, 0));
        Exam.argument("no callees", () -> forks.dial(1, 0));
        Exam.argument("negative callees", () -> forks.dial(1, -1));
        Exam.argument("least callees", () -> forks.dial(1, Integer.MIN_VALUE));
        Exam.argument("itself", () -> forks.dial(1, 2));
        Exam.argument("itself and another", () -> forks.dial(0, 1 + 4));
        Exam.argument("an unknown callee", () -> forks.dial(1, 32));
        Exam.argument("an unknown callee and another", () -> forks.dial(0, 32 + 4));
        Exam.argument("a far callee", () -> forks.dial(0, 1 << 30));
        Exam.state("talking", () -> forks.dial(1, 1));
        forks.transfer(1, 2);
        Exam.state("held", () -> forks.dial(1, 1));
        Exam.state("the caller of a ringing call", () -> forks.dial(3, 1));
        long before = forks.checksum();
        Exam.state("again", () -> forks.dial(3, 1));
        Exam.same("nothing has changed", forks.checksum(), before);
        Exam.same("a party that is only rung may dial", forks.dial(2, 1), 1);
    }

    private static void promise16Limits() {
        CallForks calls = Exam.loaded("exchange;party 0 0 0;party 0 0 0;");
        for (int k = 0; k < 20; k++) {
            Exam.same("dial " + k, calls.dial(0, 2), 1);
            calls.hangUp(0);
        }
        Exam.argument("the 21st call, without callees", () -> calls.dial(0, 0));
        Exam.state("the 21st call", () -> calls.dial(0, 2));
        CallForks legs = Exam.loaded("exchange;" + "party 0 0 0;".repeat(10));
        for (int k = 0; k < 4; k++) {
            Exam.same("nine legs", legs.dial(0, 1022), 9);
            legs.hangUp(0);
        }
        Exam.state("41 legs", () -> legs.dial(9, 31));
        Exam.same("40 legs", legs.dial(9, 15), 4);
        Exam.state("a leg more", () -> legs.dial(0, 2));
        Exam.same("all legs", legs.count(2), 40);
        Exam.same("undo", legs.undo(), 7);
        Exam.same("39 legs", legs.dial(9, 7), 3);
        Exam.state("41 legs again", () -> legs.dial(0, 6));
        Exam.same("40 legs again", legs.dial(0, 2), 1);
    }

    private static void promise17Transfer() {
        CallForks forks = Exam.talking("party 0 0 0;party 1 1 9;party 3 0 0;");
        forks.offer(0, 9);
        forks.pass(1);
        forks.offer(1, 1);
        forks.offer(0, 2);
        forks.offer(1, 3);
        Exam.same("the caller transfers", forks.transfer(0, 2), 1);
        Exam.leg(forks, 0, 2, 0);
        Exam.leg(forks, 1, 0, 0);
        Exam.element("no offer", () -> forks.pending(0, 0));
        Exam.repetitions(forks, 0, -1, -1);
        Exam.same("the other party calls", forks.call(1, 0), 1);
        Exam.same("the third is called", forks.leg(1, 1), 2);
        Exam.same("referred", forks.call(1, 3), 0);
        Exam.same("both engaged", forks.party(0, 3) + forks.party(1, 3), 2);
        forks.pass(3);
        Exam.leg(forks, 0, 3, 7);
        Exam.leg(forks, 1, 1, 0);
        Exam.same("transferred", forks.total(6), 1);
        Exam.same("setting and version stay", forks.leg(0, 4) * 10 + forks.leg(0, 5), 91);
        Exam.same("the first is free", forks.party(0, 3), 0);
        forks.setParty(0, 0, 2);
        Exam.same("the callee transfers", forks.transfer(2, 0), 1);
        Exam.same("the caller calls", forks.call(2, 0), 1);
        forks.pass(2);
        Exam.leg(forks, 1, 3, 7);
        Exam.same("who talks", forks.party(0, 4), 2);
    }

    private static void promise17TakenBack() {
        CallForks forks = Exam.talking("party 0 0 0;party 1 0 0;party 0 0 0;party 0 0 0;ring 4;");
        Exam.same("rings", forks.transfer(1, 2), 1);
        Exam.same("the caller is transferred", forks.call(1, 0), 0);
        forks.pass(3);
        Exam.leg(forks, 0, 2, 0);
        Exam.same("taken back", forks.pass(1), 1);
        Exam.leg(forks, 0, 1, 0);
        Exam.leg(forks, 1, 3, 3);
        Exam.same("failed", forks.total(5), 1);
        forks.dial(2, 8);
        forks.offer(0, 5);
        Exam.same("the third is engaged", forks.transfer(0, 2), 0);
        Exam.leg(forks, 0, 1, 0);
        Exam.leg(forks, 3, 3, 1);
        Exam.same("the offer has gone", forks.total(0) + forks.total(1), 0);
        Exam.element("no offer", () -> forks.pending(0, 0));
        Exam.same("failed at once", forks.total(5), 2);
        Exam.same("to a party that is only rung", forks.transfer(0, 3), 1);
        Exam.same("the third refuses", forks.hangUp(3), 4);
        Exam.leg(forks, 0, 1, 0);
        Exam.leg(forks, 2, 3, 5);
        Exam.leg(forks, 4, 3, 5);
        Exam.same("both failed", forks.total(5), 4);
        forks.transfer(0, 3);
        Exam.same("the other gives up", forks.hangUp(1), 2);
        Exam.leg(forks, 0, 1, 0);
        Exam.same("gave up has not failed", forks.total(5), 4);
        forks.transfer(0, 3);
        Exam.same("who transferred hangs up", forks.hangUp(0), 3);
        Exam.leg(forks, 0, 3, 6);
        forks.hangUp(3);
        Exam.leg(forks, 0, 3, 6);
        Exam.same("the referred call failed", forks.total(5), 5);
        Exam.same("nothing talks", forks.count(3), 0);
    }

    private static void promise17Refused() {
        // The transfer to 2 fails when 2 answers another call, and leg 0 talks again at once.
        CallForks forks = Exam.talking("party 0 0 0;party 1 0 0;party 3 0 0;party 0 0 0;");
        forks.dial(3, 4);
        forks.pass(1);
        forks.transfer(0, 2);
        Exam.same("talking", forks.pass(2), 2);
        Exam.leg(forks, 0, 1, 0);
        Exam.leg(forks, 1, 1, 0);
        Exam.leg(forks, 2, 3, 1);
        Exam.same("failed", forks.total(5), 1);
        Exam.same("not transferred", forks.total(6), 0);
        // Here the held leg has ended before the third one answers.
        CallForks ended = Exam.talking("party 0 0 0;party 1 0 0;party 2 0 0;");
        ended.transfer(0, 2);
        ended.hangUp(0);
        Exam.same("the call goes on", ended.pass(2), 1);
        Exam.leg(ended, 0, 3, 6);
        Exam.leg(ended, 1, 1, 0);
        Exam.same("not counted as transferred", ended.total(6), 0);
    }

    private static void promise17Limits() {
        CallForks forks = Exam.talking("party 0 0 0;party 1 0 0;party 0 0 0;");
        Exam.index("party -1", () -> forks.transfer(-1, 2));
        Exam.index("party 3", () -> forks.transfer(3, 2));
        Exam.index("target -1", () -> forks.transfer(0, -1));
        Exam.index("target 3", () -> forks.transfer(0, 3));
        Exam.index("target 3 of a silent party", () -> forks.transfer(2, 3));
        Exam.state("a silent party", () -> forks.transfer(2, 0));
        Exam.state("a silent party to itself", () -> forks.transfer(2, 2));
        Exam.argument("to itself", () -> forks.transfer(0, 0));
        Exam.argument("to the other", () -> forks.transfer(0, 1));
        Exam.argument("the callee to the other", () -> forks.transfer(1, 0));
        for (int k = 0; k < 19; k++) {
            Exam.same("transfer " + k, forks.transfer(k % 2, 2), 1);
            forks.hangUp(2);
        }
        Exam.state("a 21st call", () -> forks.transfer(0, 2));
        Exam.state("a 21st call to itself", () -> forks.transfer(0, 0));
        CallForks legs = Exam.loaded("exchange;party 1 0 0;" + "party 0 0 0;".repeat(9));
        for (int k = 0; k < 4; k++) {
            legs.dial(1, 1021);
            legs.hangUp(1);
        }
        legs.dial(1, 1 + 4 + 8);
        legs.pass(1);
        Exam.same("the 40th leg", legs.transfer(1, 2), 1);
        legs.hangUp(2);
        Exam.state("a 41st leg", () -> legs.transfer(1, 2));
    }

    private static void promise18HangUp() {
        CallForks forks = Exam.loaded("exchange;party 0 0 0;party 1 0 0;party 0 0 0;party 0 0 0;");
        Exam.same("nothing to do", forks.hangUp(0), 0);
        Exam.same("a change though", forks.undo(), 1);
        forks.dial(3, 1 + 4);
        forks.dial(0, 2);
        Exam.same("the caller gives up, though it is rung", forks.hangUp(0), 2);
        Exam.leg(forks, 2, 3, 4);
        Exam.leg(forks, 0, 0, 0);
        Exam.same("not failed", forks.total(5), 0);
        Exam.same("all legs of the call end", forks.hangUp(3), 2);
        Exam.leg(forks, 0, 3, 4);
        Exam.leg(forks, 1, 3, 4);
        forks.dial(3, 1);
        forks.dial(0, 2);
        forks.pass(1);
        forks.offer(0, 3);
        Exam.same("the talking leg, though it is rung", forks.hangUp(0), 1);
        Exam.leg(forks, 4, 3, 6);
        Exam.leg(forks, 3, 0, 0);
        Exam.element("its offer has gone", () -> forks.pending(4, 0));
        forks.dial(2, 2);
        forks.pass(1);
        Exam.same("the callee of the talking leg", forks.hangUp(1), 1);
        forks.dial(2, 2);
        forks.pass(1);
        forks.transfer(1, 0);
        Exam.same("rung twice", forks.party(0, 5), 2);
        Exam.same("who is transferred gives up first", forks.hangUp(2), 2);
        Exam.same("and talks again", forks.party(2, 4), 6);
        forks.transfer(1, 0);
        Exam.same("the callee of the held leg", forks.hangUp(1), 3);
        Exam.leg(forks, 6, 3, 6);
        Exam.leg(forks, 8, 0, 0);
        forks.undo();
        forks.hangUp(2);
        forks.transfer(2, 0);
        Exam.same("the caller of the held leg", forks.hangUp(2), 3);
        Exam.leg(forks, 6, 3, 6);
        Exam.leg(forks, 9, 0, 0);
        Exam.same("its call goes on", forks.party(1, 3), 1);
        Exam.index("party -1", () -> forks.hangUp(-1));
        Exam.index("party 4", () -> forks.hangUp(4));
    }

    private static void promise18Refusals() {
        CallForks forks = Exam.loaded("exchange;" + "party 0 0 0;".repeat(6));
        forks.dial(0, 8);
        forks.dial(1, 8 + 16);
        forks.dial(2, 8 + 32);
        Exam.same("refuses all", forks.hangUp(3), 4);
        Exam.leg(forks, 0, 3, 5);
        Exam.leg(forks, 1, 3, 5);
        Exam.leg(forks, 2, 0, 0);
        Exam.leg(forks, 3, 3, 5);
        Exam.leg(forks, 4, 0, 0);
        Exam.same("one has failed", forks.total(5), 1);
        Exam.same("its caller is free", forks.party(0, 3), 0);
        Exam.same("the others ring on", forks.call(1, 4) + forks.call(2, 4), 2);
        Exam.same("nothing more to refuse", forks.hangUp(3), 0);
        Exam.same("the last leg", forks.hangUp(4), 4);
        Exam.same("two have failed", forks.total(5), 2);
    }

    private static void promise19Offer() {
        CallForks forks = Exam.talking("party 0 0 0;party 1 0 0;party 0 0 0;");
        Exam.index("party -1", () -> forks.offer(-1, 1000));
        Exam.index("party 3", () -> forks.offer(3, 1));
        Exam.argument("value -1", () -> forks.offer(0, -1));
        Exam.argument("value 1000", () -> forks.offer(0, 1000));
        Exam.argument("value 1000 of a silent party", () -> forks.offer(2, 1000));
        Exam.state("a silent party", () -> forks.offer(2, 1));
        Exam.same("pending", forks.offer(0, 999), 1);
        Exam.same("refused", forks.offer(0, 1), 0);
        Exam.same("the first stays", forks.pending(0, 1), 999);
        Exam.same("a refused offer is a change", forks.undo(), 4);
        Exam.same("glare", forks.offer(1, 0), -1);
        Exam.element("no offer then", () -> forks.pending(0, 0));
        Exam.same("counted", forks.total(2), 1);
        Exam.repetitions(forks, 0, 4, 6);
        Exam.same("an offer of the callee", forks.offer(1, 5), 1);
        Exam.same("its side", forks.pending(0, 0), 1);
        Exam.repetitions(forks, 0, 4, 6);
        forks.pass(3);
        Exam.same("the repetition is lost", forks.total(3), 1);
        Exam.same("glare again", forks.offer(0, 7), -1);
        Exam.repetitions(forks, 0, 7, 9);
        forks.pass(3);
        Exam.same("the later value of the caller", forks.pending(0, 1), 7);
        forks.transfer(0, 2);
        Exam.state("held", () -> forks.offer(0, 1));
        Exam.state("a ringing callee", () -> forks.offer(2, 1));
        forks.hangUp(0);
        Exam.state("ended", () -> forks.offer(0, 1));
    }

    private static void promise20SetParty() {
        CallForks forks = Exam.loaded("exchange;party 1 2 3;party 4 5 6;");
        Exam.same("answer delay", forks.setParty(0, 0, 99), 1);
        Exam.same("reply delay", forks.setParty(0, 1, 99), 2);
        Exam.same("cap", forks.setParty(0, 2, 999), 3);
        Exam.same("its numbers", forks.party(0, 0) + forks.party(0, 1) + forks.party(0, 2), 1197);
        Exam.same("previous", forks.setParty(0, 0, 0), 99);
        Exam.same("previous 0", forks.setParty(0, 0, 0), 0);
        Exam.same("the same number is a change", forks.undo(), 5);
        Exam.same("the other party", forks.party(1, 0) * 100 + forks.party(1, 1) * 10 + forks.party(1, 2), 456);
        Exam.index("party -1", () -> forks.setParty(-1, 0, 0));
        Exam.index("party 2", () -> forks.setParty(2, 3, 1000));
        Exam.argument("what -1", () -> forks.setParty(0, -1, 0));
        Exam.argument("what 3", () -> forks.setParty(0, 3, 0));
        Exam.argument("value -1", () -> forks.setParty(0, 0, -1));
        Exam.argument("answer delay 100", () -> forks.setParty(0, 0, 100));
        Exam.argument("reply delay 100", () -> forks.setParty(0, 1, 100));
        Exam.argument("cap 1000", () -> forks.setParty(0, 2, 1000));
        Exam.argument("cap -1", () -> forks.setParty(0, 2, -1));
        Exam.same("a refused setting changes nothing", forks.undo(), 4);
    }

    private static void promise21Undo() {
        CallForks forks = Exam.loaded("exchange;party 0 0 0;");
        for (int k = 1; k <= 9; k++) {
            forks.setParty(0, 2, k);
        }
        for (int k = 7; k >= 0; k--) {
            Exam.same("undo to " + k, forks.undo(), k);
            Exam.same("cap", forks.party(0, 2), k + 1);
        }
        Exam.same("the rest is final", forks.undo(), -1);
        Exam.same("nothing changes", forks.party(0, 2), 1);
        forks.setParty(0, 2, 50);
        Exam.same("the new change", forks.undo(), 0);
        for (int k = 0; k < 8; k++) {
            forks.setParty(0, 2, 100 + k);
        }
        forks.undo();
        forks.undo();
        forks.setParty(0, 2, 200);
        Exam.same("an undone change is not in the way", forks.undo(), 6);
        Exam.same("cap before", forks.party(0, 2), 105);
        for (int k = 5; k >= 0; k--) {
            Exam.same("undo on to " + k, forks.undo(), k);
        }
        Exam.same("all undone", forks.party(0, 2), 1);
        Exam.append(forks, "exchange;");
        forks.setParty(0, 2, 3);
        forks.undo();
        Exam.same("the input buffer stays", forks.load(9), 0);
    }

    private static void promise21MadeAgain() {
        CallForks forks = Exam.talking("party 0 0 0;party 1 1 9;party 0 0 0;");
        forks.offer(0, 9);
        forks.pass(1);
        forks.hangUp(0);
        Exam.leg(forks, 0, 3, 6);
        for (int k = 0; k < 5; k++) {
            forks.undo();
        }
        Exam.same("no leg", forks.count(2), 0);
        forks.dial(2, 2);
        for (int what = 2; what <= 5; what++) {
            Exam.same("a leg made again " + what, forks.leg(0, what), 0);
        }
        Exam.same("no answer yet", forks.call(0, 5), -1);
    }

    private static void promise21EveryChange() {
        CallForks forks = Exam.talking("party 0 0 0;party 1 2 9;party 2 0 0;party 0 0 0;");
        undone("offer", forks, () -> forks.offer(0, 8));
        forks.offer(0, 8);
        undone("refused offer", forks, () -> forks.offer(0, 8));
        undone("glare", forks, () -> forks.offer(1, 8));
        undone("pass", forks, () -> forks.pass(2));
        undone("transfer", forks, () -> forks.transfer(1, 2));
        undone("failed transfer", forks, () -> {
            forks.dial(2, 8);
            forks.transfer(1, 2);
            forks.undo();
        });
        undone("dial", forks, () -> forks.dial(2, 8));
        undone("failed dial", forks, () -> forks.dial(2, 1));
        undone("hangUp", forks, () -> forks.hangUp(1));
        undone("idle hangUp", forks, () -> forks.hangUp(3));
        undone("setParty", forks, () -> forks.setParty(1, 2, 7));
        undone("load", forks, () -> Exam.load(forks, "exchange;wait 9 9;ring 3;patience 4;"));
        Exam.same("the waits before the load", forks.count(5) * 100 + forks.count(6) * 10 + forks.count(7), 370);
    }

    private static void undone(String what, CallForks forks, Exam.Call change) {
        long before = forks.checksum();
        long offer = offer(forks);
        change.make();
        forks.undo();
        Exam.same("undone " + what, forks.checksum(), before);
        Exam.same("offer after undone " + what, offer(forks), offer);
    }

    private static long offer(CallForks forks) {
        try {
            return forks.pending(0, 0) * 100000L + forks.pending(0, 1) * 100L + forks.pending(0, 2);
        } catch (java.util.NoSuchElementException e) {
            return -1;
        }
    }

    /** No offer is pending on leg 0, and this has become of the earlier ones. */
    private static void offered(CallForks forks, int setting, int version, int accepted, int rolledBack) {
        Exam.noOffer(forks, 0);
        Exam.same("setting at " + forks.time(), forks.leg(0, 4), setting);
        Exam.same("version at " + forks.time(), forks.leg(0, 5), version);
        Exam.same("accepted at " + forks.time(), forks.total(0), accepted);
        Exam.same("rolled back at " + forks.time(), forks.total(1), rolledBack);
    }
}
