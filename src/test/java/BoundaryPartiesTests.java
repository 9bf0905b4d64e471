/**
 * The sentences of the document's "Terms" that name a boundary case, in "Conventions", "Parties, calls
 * and legs", "Ringing" and "Transfers": a test for each one, under the words of the sentence.
 */
public final class BoundaryPartiesTests {
    public static void main(String[] args) {
        conventions();
        parties();
        ringing();
        ringTimes();
        transfers();
        Exam.finish();
    }

    private static void conventions() {
        Exam.sentence("Division truncates toward zero.", BoundaryPartiesTests::divisionTruncates);
        Exam.sentence("A number that is limited to a range becomes the nearer bound if it is outside of it.",
                BoundaryPartiesTests::nearerBound);
        Exam.sentence("The time is counted in seconds, 0 at first.", BoundaryPartiesTests::timeAtFirst);
    }

    private static void parties() {
        Exam.sentence("There are at most 10 parties, with indexes from 0.", BoundaryPartiesTests::tenParties);
        Exam.sentence("an answer delay (1 to 99 seconds, or 0 if it never answers)", BoundaryPartiesTests::answerDelays);
        Exam.sentence("a reply delay (1 to 99 seconds, or 0 if it never replies)", BoundaryPartiesTests::replyDelays);
        Exam.sentence("a cap (0 to 999)", BoundaryPartiesTests::caps);
        Exam.sentence("Calls and legs have indexes from 0 in the order in which they are made", BoundaryPartiesTests::indexes);
        Exam.sentence("there are at most 20 calls", BoundaryPartiesTests::twentyCalls);
        Exam.sentence("at most 40 legs", BoundaryPartiesTests::fortyLegs);
        Exam.sentence("(ended ones count, too)", BoundaryPartiesTests::endedOnesCount);
        Exam.sentence("perhaps it is referred by a leg", BoundaryPartiesTests::perhapsReferred);
        Exam.sentence("a state: 0 ringing, 1 talking, 2 held, 3 ended", BoundaryPartiesTests::states);
        Exam.sentence("A leg that has ended has a reason: 1 the callee was busy, 2 another leg of the call was answered, "
                + "3 no answer in time, 4 the caller gave up, 5 the callee refused, 6 one of both hung up, 7 transferred.",
                BoundaryPartiesTests::reasons);
        Exam.sentence("When a leg ends or is held, its pending offer and its repetitions (see below) go, "
                + "which is counted nowhere.", BoundaryPartiesTests::offersGo);
        Exam.sentence("A party is in a leg if it is the caller of its call or its callee.", BoundaryPartiesTests::inALeg);
        Exam.sentence("A party is engaged if it is in a leg that is talking or held", BoundaryPartiesTests::engagedInALeg);
        Exam.sentence("or is the caller of a call with a ringing leg", BoundaryPartiesTests::engagedAsACaller);
        Exam.sentence("(A party that is not engaged can be rung by several legs.", BoundaryPartiesTests::rungBySeveral);
        Exam.sentence("A party is in at most one talking leg.)", BoundaryPartiesTests::oneTalkingLeg);
    }

    private static void ringing() {
        Exam.sentence("When a call begins, its legs are made in the order of their callees", BoundaryPartiesTests::orderOfLegs);
        Exam.sentence("a leg whose callee is engaged ends at once (1)", BoundaryPartiesTests::busyAtOnce);
        Exam.sentence("If no leg rings then, the call has failed.", BoundaryPartiesTests::noLegRings);
        Exam.sentence("If a callee answers a leg, this leg talks", BoundaryPartiesTests::answeredLegTalks);
        Exam.sentence("all other ringing legs of its call end (2)", BoundaryPartiesTests::otherLegsOfTheCall);
        Exam.sentence("and then all other ringing legs to this callee end (1)", BoundaryPartiesTests::otherLegsToTheCallee);
        Exam.sentence("Calls that have no ringing leg any more by this, and none that talks, have failed.",
                BoundaryPartiesTests::callsLeftWithoutLegs);
    }

    private static void ringTimes() {
        Exam.sentence("The ring time of a call is the value of the ring expression at the time at which the call began",
                BoundaryPartiesTests::ringTimeOfTheBegin);
        Exam.sentence("limited to the range 1 to 99", BoundaryPartiesTests::ringTimeLimited);
        Exam.sentence("legs is the number of legs of the call (also those that ended at once)", BoundaryPartiesTests::wordLegs);
        Exam.sentence("caller the index of its caller", BoundaryPartiesTests::wordCaller);
        Exam.sentence("referred is 1 if it is referred and 0 if not", BoundaryPartiesTests::wordReferred);
        Exam.sentence("and time is this time", BoundaryPartiesTests::wordTime);
        Exam.sentence("Division by 0 gives 0.", BoundaryPartiesTests::divisionByZero);
        Exam.sentence("The operations of one sum or term are made from the left to the right",
                BoundaryPartiesTests::leftToRight);
        Exam.sentence("the result of each one is limited to the range -1000000 to 1000000",
                BoundaryPartiesTests::resultsLimited);
        Exam.sentence("Without a ring statement the value is 30.", BoundaryPartiesTests::noRingStatement);
    }

    private static void transfers() {
        Exam.sentence("the leg is held, and the other party begins a call (though it is engaged) to the third one, "
                + "which is referred by this leg", BoundaryPartiesTests::otherPartyCalls);
        Exam.sentence("If this call fails, or its caller gives up, the leg talks again at once",
                BoundaryPartiesTests::talksAgain);
        Exam.sentence("the leg talks again at once, provided that it is still held", BoundaryPartiesTests::notHeldAnyMore);
        Exam.sentence("If it is answered, the leg ends (7)", BoundaryPartiesTests::transferredLegEnds);
        Exam.sentence("the leg ends (7), provided that it is still held", BoundaryPartiesTests::endedBeforeTheAnswer);
    }

    private static void divisionTruncates() {
        Exam.rings("10+7/2", 13);
        Exam.rings("10+(0-7)/2", 7);
        Exam.rings("10+7/(0-2)", 7);
        Exam.rings("10+(0-7)/(0-2)", 13);
        Exam.rings("10+(0-1)/2", 10);
    }

    private static void nearerBound() {
        Exam.rings("0-9999", 1);
        Exam.rings("0", 1);
        Exam.rings("1", 1);
        Exam.rings("2", 2);
        Exam.rings("98", 98);
        Exam.rings("99", 99);
        Exam.rings("100", 99);
        Exam.rings("9999*9999", 99);
    }

    private static void timeAtFirst() {
        CallForks forks = new CallForks();
        Exam.same("of a new object", forks.time(), 0);
        Exam.load(forks, "exchange;party 1 0 0;party 1 0 0;");
        Exam.same("after a load", forks.time(), 0);
        forks.dial(0, 2);
        Exam.same("the begin of a call", forks.call(0, 1), 0);
        forks.pass(1);
        Exam.same("after a second", forks.time(), 1);
        forks.pass(200);
        Exam.same("after 200 more", forks.time(), 201);
    }

    private static void tenParties() {
        StringBuilder text = new StringBuilder("exchange;");
        for (int party = 0; party < 10; party++) {
            text.append("party 0 0 ").append(100 + party).append(';');
        }
        CallForks forks = Exam.loaded(text.toString());
        Exam.same("parties", forks.count(0), 10);
        Exam.same("the first", forks.party(0, 2), 100);
        Exam.same("the last", forks.party(9, 2), 109);
        Exam.index("an 11th", () -> forks.party(10, 2));
        Exam.same("the last one calls the first", forks.dial(9, 1), 1);
        Exam.same("the second one calls the ninth", forks.dial(1, 1 << 8), 1);
        Exam.same("an 11th party is refused", Exam.load(forks, text + "party 0 0 0;"), CallForks.TOO_MANY);
        Exam.same("none at all", Exam.load(forks, "exchange;"), 0);
        Exam.index("not even party 0", () -> forks.party(0, 2));
    }

    private static void answerDelays() {
        CallForks forks = Exam.loaded("exchange;party 0 0 0;party 1 0 0;party 99 0 0;party 0 0 0;party 0 0 0;ring 99;");
        forks.dial(0, 2);
        Exam.same("a delay of 1", forks.pass(1), 1);
        forks.hangUp(0);
        forks.dial(0, 4);
        Exam.same("before a delay of 99", forks.pass(98), 0);
        Exam.same("a delay of 99", forks.pass(1), 1);
        forks.dial(3, 16);
        forks.pass(98);
        Exam.leg(forks, 2, 0, 0);
        Exam.same("never", forks.pass(1), 1);
        Exam.leg(forks, 2, 3, 3);
    }

    private static void replyDelays() {
        CallForks forks = Exam.talking("party 99 0 999;party 1 1 999;patience 99;");
        forks.offer(0, 5);
        forks.pass(1);
        Exam.totals(forks, 1, 0);
        forks.setParty(1, 1, 99);
        forks.offer(0, 6);
        forks.pass(98);
        Exam.pending(forks, 0, 0, 6, 2);
        forks.pass(1);
        Exam.totals(forks, 2, 0);
        forks.offer(1, 7);
        forks.pass(98);
        Exam.pending(forks, 0, 1, 7, 101);
        forks.pass(1);
        Exam.totals(forks, 2, 1);
    }

    private static void caps() {
        CallForks forks = Exam.talking("party 0 1 0;party 1 1 999;");
        forks.offer(0, 999);
        forks.pass(1);
        Exam.same("999 of 999", forks.leg(0, 4), 999);
        forks.offer(1, 1);
        forks.pass(1);
        Exam.totals(forks, 1, 1);
        Exam.same("1 of 0", forks.leg(0, 4), 999);
        forks.offer(1, 0);
        forks.pass(1);
        Exam.totals(forks, 2, 1);
        Exam.same("0 of 0", forks.leg(0, 4), 0);
    }

    private static void indexes() {
        CallForks forks = Exam.silent(4, "");
        forks.dial(3, 1 + 2);
        forks.dial(2, 1);
        forks.hangUp(3);
        forks.dial(3, 2);
        int[] callers = {3, 2, 3};
        for (int call = 0; call < callers.length; call++) {
            Exam.same("caller of call " + call, forks.call(call, 0), callers[call]);
        }
        Exam.index("call -1", () -> forks.call(-1, 0));
        Exam.index("call 3", () -> forks.call(3, 0));
        int[] calls = {0, 0, 1, 2};
        int[] callees = {0, 1, 0, 1};
        for (int leg = 0; leg < calls.length; leg++) {
            Exam.same("call of leg " + leg, forks.leg(leg, 0), calls[leg]);
            Exam.same("callee of leg " + leg, forks.leg(leg, 1), callees[leg]);
        }
        Exam.index("leg -1", () -> forks.leg(-1, 0));
        Exam.index("leg 4", () -> forks.leg(4, 0));
    }

    private static void twentyCalls() {
        CallForks forks = Exam.silent(3, "");
        for (int call = 0; call < 20; call++) {
            Exam.same("call " + call, forks.dial(0, 2), 1);
            forks.hangUp(0);
        }
        Exam.state("a 21st call", () -> forks.dial(0, 2));
        Exam.same("calls", forks.count(1), 20);
        Exam.same("the last one", forks.call(19, 0), 0);
        CallForks talking = Exam.talking("party 0 0 0;party 1 0 0;party 0 0 0;");
        for (int call = 1; call < 20; call++) {
            Exam.same("call " + call + " by a transfer", talking.transfer(0, 2), 1);
            talking.hangUp(1);
        }
        Exam.state("a 21st call by a transfer", () -> talking.transfer(0, 2));
        Exam.same("calls with transfers", talking.count(1), 20);
    }

    private static void fortyLegs() {
        CallForks forks = Exam.silent(10, "");
        for (int call = 0; call < 4; call++) {
            forks.dial(0, 1022);
            forks.hangUp(0);
        }
        Exam.same("legs", forks.count(2), 36);
        Exam.state("the legs 36 to 40", () -> forks.dial(9, 31));
        Exam.same("the legs 36 to 39", forks.dial(9, 15), 4);
        Exam.same("the last leg", forks.leg(39, 1), 3);
        Exam.index("leg 40", () -> forks.leg(40, 1));
        Exam.state("a leg more", () -> forks.dial(8, 1));
    }

    private static void endedOnesCount() {
        CallForks forks = Exam.silent(3, "");
        for (int call = 0; call < 20; call++) {
            Exam.same("call " + call, forks.dial(0, 6), 2);
            forks.hangUp(0);
        }
        Exam.same("calls", forks.count(1), 20);
        Exam.same("legs", forks.count(2), 40);
        Exam.same("none rings", forks.count(4), 0);
        Exam.state("though all have ended", () -> forks.dial(0, 2));
    }

    private static void perhapsReferred() {
        CallForks forks = Exam.talking("party 0 0 0;party 1 0 0;party 0 0 0;");
        forks.transfer(0, 2);
        Exam.same("a call that was dialled", forks.call(0, 3), -1);
        Exam.same("a call by a transfer", forks.call(1, 3), 0);
    }

    private static void states() {
        CallForks forks = Exam.loaded("exchange;party 0 0 0;party 1 0 0;party 0 0 0;");
        forks.dial(0, 2);
        Exam.same("ringing", forks.leg(0, 2), 0);
        forks.pass(1);
        Exam.same("talking", forks.leg(0, 2), 1);
        forks.transfer(0, 2);
        Exam.same("held", forks.leg(0, 2), 2);
        forks.hangUp(0);
        Exam.same("ended", forks.leg(0, 2), 3);
    }

    private static void reasons() {
        CallForks forks = Exam.loaded("exchange;party 0 0 0;party 1 0 0;party 0 0 0;party 1 0 0;party 0 0 0;ring 2;");
        forks.dial(0, 2 + 4);
        Exam.leg(forks, 0, 0, 0);
        Exam.leg(forks, 1, 0, 0);
        forks.dial(2, 1);
        Exam.leg(forks, 2, 3, 1);
        forks.pass(1);
        Exam.leg(forks, 0, 1, 0);
        Exam.leg(forks, 1, 3, 2);
        forks.dial(2, 16);
        forks.pass(2);
        Exam.leg(forks, 3, 3, 3);
        forks.dial(2, 16);
        forks.hangUp(2);
        Exam.leg(forks, 4, 3, 4);
        forks.dial(2, 16);
        forks.hangUp(4);
        Exam.leg(forks, 5, 3, 5);
        forks.transfer(0, 3);
        Exam.leg(forks, 0, 2, 0);
        forks.pass(1);
        Exam.leg(forks, 0, 3, 7);
        Exam.leg(forks, 6, 1, 0);
        forks.hangUp(3);
        Exam.leg(forks, 6, 3, 6);
    }

    private static void offersGo() {
        for (int way = 0; way < 2; way++) {
            CallForks forks = Exam.talking("party 0 1 999;party 1 1 999;party 0 0 0;wait 2 2;");
            forks.offer(0, 1);
            forks.offer(1, 2);
            forks.offer(0, 3);
            Exam.repetitions(forks, 0, 3, 3);
            Exam.pending(forks, 0, 0, 3, 1);
            if (way == 0) {
                forks.transfer(0, 2);
            } else {
                forks.hangUp(0);
            }
            Exam.noOffer(forks, 0);
            Exam.repetitions(forks, 0, -1, -1);
            forks.hangUp(2);
            Exam.leg(forks, 0, way == 0 ? 1 : 3, way == 0 ? 0 : 6);
            forks.pass(5);
            Exam.noOffer(forks, 0);
            Exam.totals(forks, 0, 0, 1, 0);
        }
    }

    private static void inALeg() {
        CallForks forks = Exam.talking("party 0 0 0;party 1 0 0;party 0 0 0;");
        Exam.same("the caller", forks.party(0, 4), 0);
        Exam.same("the callee", forks.party(1, 4), 0);
        Exam.same("another", forks.party(2, 4), -1);
    }

    private static void engagedInALeg() {
        CallForks forks = Exam.talking("party 0 0 0;party 1 0 0;party 0 0 0;party 0 0 0;");
        engaged(forks, 1, 1, 0, 0);
        forks.transfer(0, 2);
        engaged(forks, 1, 1, 0, 0);
        forks.hangUp(1);
        engaged(forks, 1, 1, 0, 0);
        forks.transfer(1, 2);
        engaged(forks, 1, 1, 0, 0);
        Exam.same("a held callee is busy", forks.dial(3, 2), 0);
        Exam.state("a held callee does not dial", () -> forks.dial(1, 8));
        forks.hangUp(1);
        engaged(forks, 1, 0, 0, 0);
        forks.hangUp(0);
        engaged(forks, 0, 0, 0, 0);
    }

    private static void engagedAsACaller() {
        CallForks forks = Exam.silent(4, "");
        forks.dial(0, 2 + 4);
        engaged(forks, 1, 0, 0, 0);
        forks.hangUp(1);
        engaged(forks, 1, 0, 0, 0);
        forks.hangUp(2);
        engaged(forks, 0, 0, 0, 0);
        forks.dial(1, 4);
        forks.dial(3, 1 + 2);
        engaged(forks, 0, 1, 0, 1);
        forks.hangUp(1);
        forks.hangUp(0);
        engaged(forks, 0, 0, 0, 0);
        Exam.same("the call of a caller that is free has no ringing leg", forks.call(2, 4), 0);
    }

    private static void engaged(CallForks forks, int... due) {
        for (int party = 0; party < due.length; party++) {
            Exam.same("party " + party + " engaged", forks.party(party, 3), due[party]);
        }
    }

    private static void rungBySeveral() {
        CallForks forks = Exam.silent(10, "");
        for (int caller = 0; caller < 9; caller++) {
            Exam.same("a call of party " + caller, forks.dial(caller, 1 << 9), 1);
            Exam.same("legs that ring", forks.party(9, 5), caller + 1);
            Exam.same("not engaged", forks.party(9, 3), 0);
        }
        Exam.same("engaged by its own call", forks.dial(9, 1), 0);
        forks.hangUp(0);
        Exam.same("its own call to the free one", forks.dial(9, 1), 1);
        Exam.same("still rung", forks.party(9, 5), 8);
        Exam.same("engaged now", forks.party(9, 3), 1);
    }

    private static void oneTalkingLeg() {
        CallForks forks = Exam.loaded("exchange;" + "party 0 0 0;".repeat(9) + "party 1 0 0;");
        for (int caller = 0; caller < 9; caller++) {
            forks.dial(caller, 1 << 9);
        }
        Exam.same("nine would be answered", forks.pass(1), 1);
        Exam.same("the first one is", forks.party(9, 4), 0);
        Exam.totals(forks, 0, 0, 0, 0, 1, 8, 0);
    }

    private static void orderOfLegs() {
        CallForks forks = Exam.silent(10, "");
        forks.dial(5, 1 << 9 | 1 | 1 << 3);
        int[] callees = {0, 3, 9};
        for (int leg = 0; leg < callees.length; leg++) {
            Exam.same("callee of leg " + leg, forks.leg(leg, 1), callees[leg]);
        }
        forks.dial(9, 1023 - 512);
        for (int leg = 3; leg < 12; leg++) {
            Exam.same("callee of leg " + leg, forks.leg(leg, 1), leg - 3);
        }
    }

    private static void busyAtOnce() {
        CallForks forks = Exam.silent(4, "");
        forks.dial(0, 2);
        Exam.same("one of both rings", forks.dial(2, 1 + 2), 1);
        Exam.leg(forks, 1, 3, 1);
        Exam.leg(forks, 2, 0, 0);
        CallForks talking = Exam.talking("party 0 0 0;party 1 0 0;party 0 0 0;party 0 0 0;");
        Exam.same("both talk, and one is free", talking.dial(2, 1 + 2 + 8), 1);
        Exam.leg(talking, 1, 3, 1);
        Exam.leg(talking, 2, 3, 1);
        Exam.leg(talking, 3, 0, 0);
    }

    private static void noLegRings() {
        CallForks forks = Exam.silent(4, "");
        forks.dial(0, 2);
        Exam.same("a leg that rings", forks.total(5), 0);
        forks.dial(2, 1 + 2);
        Exam.same("one of two that rings", forks.total(5), 0);
        Exam.same("none", forks.dial(3, 1 + 4), 0);
        Exam.same("has failed", forks.total(5), 1);
        Exam.same("does not ring", forks.call(2, 4), 0);
        Exam.same("its caller is free", forks.party(3, 3), 0);
        forks.pass(30);
        Exam.same("fails once", forks.total(5), 3);
    }

    private static void answeredLegTalks() {
        CallForks forks = Exam.loaded("exchange;party 0 0 0;party 1 0 0;");
        forks.dial(0, 2);
        forks.pass(1);
        Exam.leg(forks, 0, 1, 0);
        Exam.same("the answered leg of its call", forks.call(0, 5), 0);
        Exam.totals(forks, 0, 0, 0, 0, 1, 0, 0);
        forks.pass(30);
        Exam.leg(forks, 0, 1, 0);
        Exam.totals(forks, 0, 0, 0, 0, 1, 0, 0);
    }

    private static void otherLegsOfTheCall() {
        CallForks forks = Exam.loaded("exchange;" + "party 0 0 0;".repeat(3) + "party 2 0 0;" + "party 0 0 0;".repeat(3));
        forks.dial(6, 1);
        forks.dial(0, 1 << 2 | 1 << 3 | 1 << 4 | 1 << 5 | 1 << 6);
        forks.dial(1, 1 << 4);
        forks.hangUp(5);
        forks.pass(2);
        Exam.leg(forks, 1, 3, 2);
        Exam.leg(forks, 2, 1, 0);
        Exam.leg(forks, 3, 3, 2);
        Exam.leg(forks, 4, 3, 5);
        Exam.leg(forks, 5, 3, 1);
        Exam.leg(forks, 6, 0, 0);
        Exam.leg(forks, 0, 0, 0);
    }

    private static void otherLegsToTheCallee() {
        CallForks forks = Exam.loaded("exchange;" + "party 0 0 0;".repeat(3) + "party 2 0 0;" + "party 0 0 0;".repeat(3));
        forks.dial(0, 8);
        forks.hangUp(0);
        forks.dial(1, 8);
        forks.dial(2, 8 + 16);
        forks.dial(0, 8);
        forks.dial(5, 16);
        forks.pass(2);
        Exam.leg(forks, 0, 3, 4);
        Exam.leg(forks, 1, 1, 0);
        Exam.leg(forks, 2, 3, 1);
        Exam.leg(forks, 3, 0, 0);
        Exam.leg(forks, 4, 3, 1);
        Exam.leg(forks, 5, 0, 0);
    }

    private static void callsLeftWithoutLegs() {
        CallForks forks = Exam.loaded("exchange;" + "party 0 0 0;".repeat(3) + "party 2 0 0;party 0 0 0;party 0 0 0;");
        forks.dial(0, 8);
        forks.dial(1, 8);
        forks.dial(2, 8 + 16);
        forks.dial(5, 1);
        forks.pass(2);
        Exam.same("answered", forks.total(4), 1);
        Exam.same("only the call of party 1 and the busy one", forks.total(5), 2);
        Exam.same("the call of party 2 goes on", forks.call(2, 4), 1);
        forks.hangUp(4);
        Exam.same("it fails later", forks.total(5), 3);
        forks.hangUp(0);
        Exam.same("the answered one never", forks.total(5), 3);
    }

    private static void ringTimeOfTheBegin() {
        CallForks forks = Exam.silent(2, "ring time+10;");
        forks.pass(7);
        forks.dial(0, 2);
        Exam.same("at its begin", forks.call(0, 2), 17);
        forks.pass(16);
        Exam.same("later", forks.call(0, 2), 17);
        Exam.leg(forks, 0, 0, 0);
        forks.pass(1);
        Exam.leg(forks, 0, 3, 3);
        Exam.same("at its end", forks.call(0, 2), 17);
        forks.dial(0, 2);
        Exam.same("of the next call", forks.call(1, 2), 34);
        Exam.same("of the first call still", forks.call(0, 2), 17);
    }

    private static void ringTimeLimited() {
        CallForks least = Exam.silent(2, "ring 0-50;");
        least.dial(0, 2);
        Exam.same("the least one", least.call(0, 2), 1);
        Exam.leg(least, 0, 0, 0);
        least.pass(1);
        Exam.leg(least, 0, 3, 3);
        CallForks greatest = Exam.silent(2, "ring 100;");
        greatest.dial(0, 2);
        Exam.same("the greatest one", greatest.call(0, 2), 99);
        greatest.pass(98);
        Exam.leg(greatest, 0, 0, 0);
        greatest.pass(1);
        Exam.leg(greatest, 0, 3, 3);
    }

    private static void wordLegs() {
        CallForks forks = Exam.silent(10, "ring legs*10;");
        forks.dial(0, 2);
        Exam.same("one", forks.call(0, 2), 10);
        forks.dial(2, 1 + 2);
        Exam.same("one rings and one has ended", forks.call(1, 2), 20);
        forks.dial(3, 1 + 4);
        Exam.same("both have ended", forks.call(2, 2), 20);
        forks.dial(9, 511);
        Exam.same("nine", forks.call(3, 2), 90);
    }

    private static void wordCaller() {
        CallForks forks = Exam.silent(10, "ring caller+5;");
        forks.dial(0, 2);
        Exam.same("the first", forks.call(0, 2), 5);
        forks.dial(9, 2);
        Exam.same("the last", forks.call(1, 2), 14);
    }

    private static void wordReferred() {
        CallForks forks = Exam.talking("party 0 0 0;party 1 0 0;party 0 0 0;ring 5+referred*3+caller*10;");
        forks.transfer(0, 2);
        Exam.same("not referred", forks.call(0, 2), 5);
        Exam.same("referred, by leg 0", forks.call(1, 2), 18);
    }

    private static void wordTime() {
        CallForks forks = Exam.silent(4, "ring time/100;");
        forks.dial(0, 2);
        Exam.same("at 0", forks.call(0, 2), 1);
        Exam.passTo(forks, 9799);
        forks.dial(0, 2);
        Exam.same("at 9799", forks.call(1, 2), 97);
        Exam.passTo(forks, 9999);
        forks.dial(0, 2);
        Exam.same("at 9999", forks.call(2, 2), 99);
    }

    private static void divisionByZero() {
        Exam.rings("5/0+8", 8);
        Exam.rings("0/0+8", 8);
        Exam.rings("(0-5)/0+8", 8);
        Exam.rings("50-5/(legs-2)", 50);
        Exam.rings("9+7/referred", 9);
        Exam.rings("7/0*9+3", 3);
    }

    private static void leftToRight() {
        Exam.rings("20-5-3", 12);
        Exam.rings("20-5+3", 18);
        Exam.rings("90/9/2", 5);
        Exam.rings("7/2*2", 6);
        Exam.rings("7*2/2", 7);
        Exam.rings("20-6/3*2", 16);
        Exam.rings("20-(5-3)", 18);
        Exam.rings("90/(9/2)", 22);
    }

    private static void resultsLimited() {
        // A sum: 1000000, 1000001, and below 0.
        Exam.rings("9999*100+100-9999*100-50", 50);
        Exam.rings("9999*100+101-9999*100-50", 50);
        Exam.rings("0-9999*100-100+9999*100+150", 50);
        Exam.rings("0-9999*100-101+9999*100+150", 50);
        Exam.rings("9999*100-(0-101)-9999*100-50", 50);
        // A product: 1000000, 1000001, and below 0.
        Exam.rings("1000*1000-9999*100-50", 50);
        Exam.rings("101*9901-9999*100-50", 50);
        Exam.rings("(0-1000)*1000+9999*100+150", 50);
        Exam.rings("(0-101)*9901+9999*100+150", 50);
        // Each one: the product of limited products, which an int does not hold.
        Exam.rings("9999*9999/9999-50", 50);
        Exam.rings("9999*9999*(9999*9999)/9999-50", 50);
        Exam.rings("9999*9999*(0-9999*9999)/9999+150", 50);
        Exam.rings("1000*1000+1000*1000-9999*100-50", 50);
    }

    private static void noRingStatement() {
        CallForks forks = Exam.silent(2, "");
        forks.dial(0, 2);
        Exam.same("ring time", forks.call(0, 2), 30);
        forks.pass(29);
        Exam.leg(forks, 0, 0, 0);
        forks.pass(1);
        Exam.leg(forks, 0, 3, 3);
    }

    private static void otherPartyCalls() {
        CallForks forks = Exam.talking("party 0 0 0;party 1 0 0;party 0 0 0;");
        forks.pass(4);
        Exam.same("by the caller", forks.transfer(0, 2), 1);
        Exam.leg(forks, 0, 2, 0);
        Exam.leg(forks, 1, 0, 0);
        int[] due = {1, 5, 30, 0, 1, -1};
        for (int what = 0; what < due.length; what++) {
            Exam.same("call 1 " + what, forks.call(1, what), due[what]);
        }
        Exam.same("the third one is called", forks.leg(1, 1), 2);
        forks.undo();
        Exam.same("by the callee", forks.transfer(1, 2), 1);
        Exam.leg(forks, 0, 2, 0);
        Exam.same("the caller calls", forks.call(1, 0), 0);
        Exam.same("referred", forks.call(1, 3), 0);
        Exam.same("the third one again", forks.leg(1, 1), 2);
    }

    private static void talksAgain() {
        CallForks forks = Exam.talking("party 0 0 0;party 1 0 0;party 0 0 0;party 0 0 0;ring 4;");
        forks.dial(2, 8);
        Exam.same("the third is engaged", forks.transfer(0, 2), 0);
        Exam.leg(forks, 0, 1, 0);
        Exam.same("failed at once", forks.total(5), 1);
        forks.hangUp(2);
        forks.transfer(0, 2);
        Exam.same("not yet", forks.pass(3), 0);
        Exam.same("no answer", forks.pass(1), 1);
        Exam.leg(forks, 0, 1, 0);
        forks.transfer(0, 2);
        forks.hangUp(2);
        Exam.leg(forks, 0, 1, 0);
        Exam.same("refused", forks.total(5), 3);
        forks.transfer(0, 2);
        Exam.same("given up", forks.hangUp(1), 2);
        Exam.leg(forks, 0, 1, 0);
        Exam.same("which is no failure", forks.total(5), 3);
        forks.setParty(2, 0, 2);
        forks.dial(3, 4);
        forks.pass(1);
        forks.transfer(1, 2);
        Exam.same("the third answers another call", forks.pass(1), 2);
        Exam.leg(forks, 0, 1, 0);
        Exam.same("failed by this", forks.total(5), 4);
    }

    private static void notHeldAnyMore() {
        for (int way = 0; way < 4; way++) {
            CallForks forks = Exam.talking("party 0 0 0;party 1 0 0;party 0 0 0;party 0 0 0;ring 4;");
            forks.transfer(0, 2);
            Exam.same("hangs up", forks.hangUp(0), 3);
            Exam.same("the call goes on", forks.call(1, 4), 1);
            if (way == 0) {
                Exam.same("no answer", forks.pass(4), 0);
            } else if (way == 1) {
                Exam.same("refused", forks.hangUp(2), 4);
            } else if (way == 2) {
                Exam.same("given up", forks.hangUp(1), 2);
            } else {
                forks.pass(1);
                forks.setParty(2, 0, 1);
                forks.dial(3, 4);
                Exam.same("the third answers another call", forks.pass(1), 1);
            }
            Exam.leg(forks, 0, 3, 6);
            Exam.same("the call has ended", forks.call(1, 4), 0);
            Exam.same("a failure, but for who gave up", forks.total(5), way == 2 ? 0 : 1);
            Exam.same("the first is free", forks.party(0, 3), 0);
        }
    }

    private static void transferredLegEnds() {
        CallForks forks = Exam.talking("party 0 0 0;party 1 0 0;party 3 0 0;");
        forks.transfer(0, 2);
        forks.pass(2);
        Exam.leg(forks, 0, 2, 0);
        Exam.same("counted later", forks.total(6), 0);
        forks.pass(1);
        Exam.leg(forks, 0, 3, 7);
        Exam.leg(forks, 1, 1, 0);
        Exam.totals(forks, 0, 0, 0, 0, 2, 0, 1);
        Exam.same("the first is free", forks.party(0, 3), 0);
    }

    private static void endedBeforeTheAnswer() {
        CallForks forks = Exam.talking("party 0 0 0;party 1 0 0;party 3 0 0;");
        forks.transfer(0, 2);
        forks.pass(2);
        forks.hangUp(0);
        forks.pass(1);
        Exam.leg(forks, 0, 3, 6);
        Exam.leg(forks, 1, 1, 0);
        Exam.totals(forks, 0, 0, 0, 0, 2, 0, 0);
    }
}
