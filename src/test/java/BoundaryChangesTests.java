/**
 * The sentences of the document's promises 15 to 21, which change, that name a boundary case: a test for
 * each one, under the words of the sentence.
 */
public final class BoundaryChangesTests {
    public static void main(String[] args) {
        pass();
        dial();
        transfer();
        hangUp();
        offerAndSetParty();
        undo();
        Exam.finish();
    }

    private static void pass() {
        Exam.sentence("1 to 200", BoundaryChangesTests::seconds);
        Exam.sentence("Returns the number of talking legs then.", BoundaryChangesTests::talkingThen);
        Exam.sentence("Throws IllegalArgumentException if seconds is out of range", BoundaryChangesTests::secondsOutOfRange);
        Exam.sentence("or the time would exceed 9999", BoundaryChangesTests::timeWouldExceed);
    }

    private static void dial() {
        Exam.sentence("a set of parties: bit k for party k; their order is that of their indexes",
                BoundaryChangesTests::setOfParties);
        Exam.sentence("Returns the number of legs that ring; 0 if the call has failed.", BoundaryChangesTests::legsThatRing);
        Exam.sentence("if callees is 0 or negative", BoundaryChangesTests::noCallees);
        Exam.sentence("or has the caller or a party that does not exist", BoundaryChangesTests::wrongCallees);
        Exam.sentence("Throws IllegalStateException if the caller is engaged", BoundaryChangesTests::engagedCaller);
        Exam.sentence("there are 20 calls, or there would be more than 40 legs", BoundaryChangesTests::dialLimits);
    }

    private static void transfer() {
        Exam.sentence("Returns 1 if the new call rings, 0 if it has failed.", BoundaryChangesTests::newCallRings);
        Exam.sentence("Throws IllegalStateException if the party is in no talking leg", BoundaryChangesTests::noLegToTransfer);
        Exam.sentence("there are 20 calls, or there are 40 legs", BoundaryChangesTests::transferLimits);
        Exam.sentence("Throws IllegalArgumentException if target is one of the two parties of the leg",
                BoundaryChangesTests::targetInTheLeg);
    }

    private static void hangUp() {
        Exam.sentence("Lets a party hang up, by the first of these rules that applies", BoundaryChangesTests::firstRule);
        Exam.sentence("if it is in a talking leg, this ends (6)", BoundaryChangesTests::endsTalking);
        Exam.sentence("it gives up: the ringing legs of this call end (4), in ascending order", BoundaryChangesTests::givesUp);
        Exam.sentence("If it is in a held leg, this ends (6); a call that is referred by it goes on.",
                BoundaryChangesTests::endsHeld);
        Exam.sentence("If it is the callee of ringing legs, all these end (5), in ascending order",
                BoundaryChangesTests::refuses);
        Exam.sentence("calls that have no ringing leg any more by this have failed", BoundaryChangesTests::refusedCalls);
        Exam.sentence("Otherwise nothing is done.", BoundaryChangesTests::nothingIsDone);
        Exam.sentence("Returns the number of the rule, 1 to 4; 0 if nothing is done.", BoundaryChangesTests::numberOfTheRule);
    }

    private static void offerAndSetParty() {
        Exam.sentence("0 to 999", BoundaryChangesTests::offeredValues);
        Exam.sentence("Returns 1 if it is pending, 0 if it is refused, -1 if there is glare.", BoundaryChangesTests::offerAnswers);
        Exam.sentence("Throws IllegalArgumentException if value is out of range", BoundaryChangesTests::valueOutOfRange);
        Exam.sentence("Throws IllegalStateException if the party is in no talking leg", BoundaryChangesTests::noLegForAnOffer);
        Exam.sentence("0 to 99 for the delays, 0 to 999 for the cap", BoundaryChangesTests::partyValues);
        Exam.sentence("Returns the previous number.", BoundaryChangesTests::previousNumber);
        Exam.sentence("Throws IllegalArgumentException if what or value is out of range",
                BoundaryChangesTests::whatOrValueOutOfRange);
    }

    private static void undo() {
        Exam.sentence("Undoes the latest change that is not final and has not been undone.",
                BoundaryChangesTests::latestChange);
        Exam.sentence("The input buffer and the error offset are not affected.", BoundaryChangesTests::notAffected);
        Exam.sentence("Returns the number of changes that can still be undone", BoundaryChangesTests::changesLeft);
        Exam.sentence("-1 if there was none to undo, and nothing changes then", BoundaryChangesTests::noneToUndo);
    }

    private static void seconds() {
        CallForks forks = new CallForks();
        forks.pass(1);
        Exam.same("1", forks.time(), 1);
        forks.pass(200);
        Exam.same("200", forks.time(), 201);
        forks.pass(199);
        Exam.same("199", forks.time(), 400);
        // 200 seconds are passed one by one.
        CallForks talking = Exam.talking("party 0 0 99;party 1 3 99;party 0 0 0;wait 90 99;patience 99;");
        talking.offer(0, 5);
        talking.offer(1, 6);
        talking.pass(200);
        Exam.same("accepted at 94", talking.leg(0, 4), 5);
        Exam.totals(talking, 1, 1, 1, 0);
    }

    private static void talkingThen() {
        CallForks forks = Exam.loaded("exchange;party 0 0 0;party 1 0 0;party 0 0 0;party 2 0 0;party 0 0 0;ring 9;");
        Exam.same("none", forks.pass(1), 0);
        forks.dial(0, 2);
        forks.dial(2, 8);
        Exam.same("one", forks.pass(1), 1);
        Exam.same("two", forks.pass(1), 2);
        forks.transfer(0, 4);
        Exam.same("one, as the other is held", forks.pass(8), 1);
        Exam.same("two, as it is taken back", forks.pass(1), 2);
        forks.hangUp(3);
        Exam.same("one, as the other has ended", forks.pass(1), 1);
    }

    private static void secondsOutOfRange() {
        CallForks forks = new CallForks();
        int[] wrong = {0, -1, 201, Integer.MIN_VALUE, Integer.MAX_VALUE};
        for (int seconds : wrong) {
            Exam.argument("pass " + seconds, () -> forks.pass(seconds));
        }
        Exam.same("no second has passed", forks.time(), 0);
        Exam.same("no change", forks.undo(), -1);
        Exam.passTo(forks, 100);
        Exam.argument("overflow", () -> forks.pass(Integer.MAX_VALUE));
        Exam.argument("back", () -> forks.pass(-50));
    }

    private static void timeWouldExceed() {
        CallForks forks = new CallForks();
        Exam.passTo(forks, 9800);
        Exam.argument("10000", () -> forks.pass(200));
        Exam.same("the time stays", forks.time(), 9800);
        Exam.same("9999", forks.pass(199), 0);
        Exam.same("the latest time", forks.time(), 9999);
        Exam.argument("10000 again", () -> forks.pass(1));
        Exam.argument("10199", () -> forks.pass(200));
        forks.undo();
        Exam.passTo(forks, 9998);
        Exam.argument("10000 by two", () -> forks.pass(2));
        Exam.same("9999 by one", forks.pass(1), 0);
    }

    private static void setOfParties() {
        CallForks forks = Exam.silent(10, "");
        Exam.same("bit 0", forks.dial(1, 1), 1);
        Exam.same("party 0", forks.leg(0, 1), 0);
        Exam.same("bit 9", forks.dial(2, 512), 1);
        Exam.same("party 9", forks.leg(1, 1), 9);
        Exam.same("all others", forks.dial(0, 1022), 7);
        for (int leg = 2; leg < 11; leg++) {
            Exam.same("callee of leg " + leg, forks.leg(leg, 1), leg - 1);
        }
        Exam.same("bits 3 and 6", forks.dial(9, 64 + 8), 2);
        Exam.same("party 3 first", forks.leg(11, 1), 3);
        Exam.same("party 6 then", forks.leg(12, 1), 6);
    }

    private static void legsThatRing() {
        CallForks forks = Exam.silent(10, "");
        Exam.same("nine", forks.dial(0, 1022), 9);
        Exam.same("one of two", forks.dial(1, 1 + 4), 1);
        Exam.same("failed", forks.dial(2, 1 + 2), 0);
        Exam.same("seven of nine", forks.dial(3, 1023 - 8), 7);
        Exam.same("failed calls", forks.total(5), 1);
    }

    private static void noCallees() {
        CallForks forks = Exam.silent(10, "");
        int[] wrong = {0, -1, -2, -1024, Integer.MIN_VALUE, Integer.MIN_VALUE + 2};
        for (int callees : wrong) {
            Exam.argument("callees " + callees, () -> forks.dial(0, callees));
        }
        Exam.same("no call", forks.count(1), 0);
    }

    private static void wrongCallees() {
        CallForks forks = Exam.silent(3, "");
        Exam.argument("the caller alone", () -> forks.dial(0, 1));
        Exam.argument("the caller and another", () -> forks.dial(2, 4 + 1));
        Exam.argument("all", () -> forks.dial(1, 7));
        Exam.argument("party 3", () -> forks.dial(0, 8));
        Exam.argument("party 3 and another", () -> forks.dial(0, 8 + 2));
        Exam.argument("party 30", () -> forks.dial(0, 1 << 30));
        Exam.argument("party 30 and another", () -> forks.dial(0, (1 << 30) + 2));
        Exam.argument("the greatest set", () -> forks.dial(0, Integer.MAX_VALUE));
        Exam.same("all others", forks.dial(1, 5), 2);
        CallForks ten = Exam.silent(10, "");
        Exam.argument("party 10", () -> ten.dial(0, 1024));
        Exam.argument("party 10 and another", () -> ten.dial(0, 1024 + 2));
        Exam.argument("the caller 9", () -> ten.dial(9, 512));
        Exam.same("no call", ten.count(1), 0);
    }

    private static void engagedCaller() {
        CallForks forks = Exam.talking("party 0 0 0;party 1 0 0;party 0 0 0;party 0 0 0;");
        Exam.state("the caller of a talking leg", () -> forks.dial(0, 8));
        Exam.state("the callee of a talking leg", () -> forks.dial(1, 8));
        forks.transfer(0, 2);
        Exam.state("in a held leg", () -> forks.dial(0, 8));
        Exam.state("the caller of a ringing leg", () -> forks.dial(1, 8));
        Exam.same("the callee of a ringing leg is free to dial", forks.dial(2, 8), 1);
        Exam.state("but not twice", () -> forks.dial(2, 8));
        forks.hangUp(3);
        Exam.same("and again when its call has failed", forks.dial(2, 8), 1);
        forks.hangUp(0);
        Exam.same("free after the held leg", forks.dial(0, 8), 1);
    }

    private static void dialLimits() {
        CallForks calls = Exam.silent(2, "");
        for (int call = 0; call < 20; call++) {
            Exam.same("call " + call, calls.dial(0, 2), 1);
            calls.hangUp(0);
        }
        Exam.state("call 20", () -> calls.dial(0, 2));
        calls.undo();
        calls.undo();
        Exam.same("call 19 again", calls.dial(0, 2), 1);
        CallForks legs = Exam.silent(10, "");
        for (int call = 0; call < 4; call++) {
            legs.dial(0, 1022);
            legs.hangUp(0);
        }
        Exam.state("41 legs", () -> legs.dial(1, 1 + 4 + 8 + 16 + 32));
        Exam.state("45 legs", () -> legs.dial(9, 511));
        Exam.same("39 legs", legs.dial(1, 1 + 4 + 8), 3);
        Exam.state("41 legs again", () -> legs.dial(9, 8 + 16));
        Exam.same("40 legs", legs.dial(9, 8), 1);
        Exam.state("a leg more", () -> legs.dial(8, 8));
        Exam.same("legs", legs.count(2), 40);
    }

    private static void newCallRings() {
        CallForks forks = Exam.talking("party 0 0 0;party 1 0 0;party 0 0 0;party 0 0 0;");
        Exam.same("rings", forks.transfer(0, 2), 1);
        forks.hangUp(2);
        Exam.same("rings at a party that is rung", forks.dial(3, 4), 1);
        Exam.same("rings there, too", forks.transfer(1, 2), 1);
        forks.hangUp(2);
        forks.dial(2, 8);
        Exam.same("failed", forks.transfer(0, 2), 0);
        Exam.same("failed by the callee", forks.transfer(1, 2), 0);
        Exam.same("rings at the other end", forks.transfer(1, 3), 1);
    }

    private static void noLegToTransfer() {
        CallForks forks = Exam.talking("party 0 0 0;party 1 0 0;party 0 0 0;party 0 0 0;");
        Exam.state("in no leg", () -> forks.transfer(2, 3));
        forks.transfer(0, 2);
        Exam.state("in a held leg", () -> forks.transfer(0, 3));
        Exam.state("in a held leg and the caller of a ringing one", () -> forks.transfer(1, 3));
        Exam.state("the callee of a ringing leg", () -> forks.transfer(2, 3));
        forks.hangUp(1);
        forks.hangUp(1);
        Exam.state("in a leg that has ended", () -> forks.transfer(0, 3));
    }

    private static void transferLimits() {
        CallForks calls = Exam.talking("party 0 0 0;party 1 0 0;party 0 0 0;");
        for (int call = 1; call < 20; call++) {
            Exam.same("call " + call, calls.transfer(call % 2, 2), 1);
            calls.hangUp(2);
        }
        Exam.state("call 20", () -> calls.transfer(0, 2));
        CallForks legs = Exam.talking("party 0 0 0;party 1 0 0;" + "party 0 0 0;".repeat(8));
        for (int call = 0; call < 5; call++) {
            legs.dial(2, 1016);
            legs.hangUp(2);
        }
        legs.dial(2, 8 + 16);
        legs.hangUp(2);
        Exam.same("38 legs", legs.count(2), 38);
        Exam.same("leg 38", legs.transfer(0, 2), 1);
        legs.hangUp(2);
        Exam.same("leg 39", legs.transfer(0, 2), 1);
        legs.hangUp(2);
        Exam.state("leg 40", () -> legs.transfer(0, 2));
        Exam.leg(legs, 0, 1, 0);
    }

    private static void targetInTheLeg() {
        CallForks forks = Exam.talking("party 0 0 0;party 1 0 0;party 0 0 0;");
        Exam.argument("the caller to itself", () -> forks.transfer(0, 0));
        Exam.argument("the caller to the callee", () -> forks.transfer(0, 1));
        Exam.argument("the callee to the caller", () -> forks.transfer(1, 0));
        Exam.argument("the callee to itself", () -> forks.transfer(1, 1));
        Exam.leg(forks, 0, 1, 0);
        Exam.same("to a third one", forks.transfer(1, 2), 1);
    }

    private static void firstRule() {
        CallForks forks = Exam.loaded("exchange;party 0 0 0;party 2 0 0;party 0 0 0;party 0 0 0;");
        forks.dial(3, 1 + 2);
        forks.dial(0, 4);
        Exam.same("a ringing call of its own before one to it", forks.hangUp(0), 2);
        Exam.leg(forks, 0, 0, 0);
        CallForks rung = Exam.loaded("exchange;party 0 0 0;party 1 0 0;party 0 0 0;party 0 0 0;");
        rung.dial(2, 1);
        rung.dial(0, 2);
        rung.pass(1);
        Exam.same("a talking leg before a ringing one", rung.hangUp(0), 1);
        Exam.leg(rung, 0, 0, 0);
        rung.dial(0, 2);
        rung.pass(1);
        rung.transfer(1, 3);
        Exam.same("a ringing call of its own before a held leg", rung.hangUp(0), 2);
        Exam.leg(rung, 2, 1, 0);
        rung.transfer(0, 3);
        Exam.same("a held leg before a ringing one", rung.hangUp(0), 3);
        Exam.leg(rung, 0, 0, 0);
        Exam.same("a ringing one at last", rung.hangUp(0), 4);
        Exam.leg(rung, 0, 3, 5);
        Exam.same("nothing then", rung.hangUp(0), 0);
    }

    private static void endsTalking() {
        for (int party = 0; party < 2; party++) {
            CallForks forks = Exam.talking("party 0 0 0;party 1 0 0;party 0 0 0;");
            Exam.same("rule 1", forks.hangUp(party), 1);
            Exam.leg(forks, 0, 3, 6);
            Exam.same("both are free", forks.party(0, 3) + forks.party(1, 3), 0);
            Exam.same("not failed", forks.total(5), 0);
            Exam.same("the other has nothing to do", forks.hangUp(1 - party), 0);
        }
    }

    private static void givesUp() {
        CallForks forks = Exam.silent(6, "");
        forks.dial(0, 2 + 4 + 8);
        forks.dial(4, 2);
        forks.hangUp(2);
        Exam.same("rule 2", forks.hangUp(0), 2);
        Exam.leg(forks, 0, 3, 4);
        Exam.leg(forks, 1, 3, 5);
        Exam.leg(forks, 2, 3, 4);
        Exam.leg(forks, 3, 0, 0);
        Exam.same("the caller is free", forks.party(0, 3), 0);
        Exam.same("not failed", forks.total(5), 0);
    }

    private static void endsHeld() {
        CallForks forks = Exam.talking("party 0 0 0;party 1 0 0;party 3 0 0;");
        forks.transfer(0, 2);
        Exam.same("rule 3", forks.hangUp(0), 3);
        Exam.leg(forks, 0, 3, 6);
        Exam.leg(forks, 1, 0, 0);
        Exam.same("it still rings", forks.call(1, 4), 1);
        Exam.same("still referred", forks.call(1, 3), 0);
        Exam.same("and is answered", forks.pass(3), 1);
        Exam.leg(forks, 1, 1, 0);
        CallForks callee = Exam.talking("party 0 0 0;party 1 0 0;party 3 0 0;");
        callee.transfer(1, 2);
        Exam.same("rule 3 of the callee", callee.hangUp(1), 3);
        Exam.leg(callee, 0, 3, 6);
        Exam.leg(callee, 1, 0, 0);
    }

    private static void refuses() {
        CallForks forks = Exam.silent(10, "");
        for (int caller = 0; caller < 9; caller++) {
            forks.dial(caller, 512);
        }
        forks.hangUp(0);
        Exam.same("rule 4", forks.hangUp(9), 4);
        Exam.leg(forks, 0, 3, 4);
        for (int leg = 1; leg < 9; leg++) {
            Exam.leg(forks, leg, 3, 5);
        }
        Exam.same("none rings", forks.count(4), 0);
        Exam.same("all have failed but for the first", forks.total(5), 8);
    }

    private static void refusedCalls() {
        CallForks forks = Exam.talking("party 0 0 0;party 1 0 0;" + "party 0 0 0;".repeat(5));
        forks.dial(3, 4);
        forks.dial(4, 4 + 8);
        forks.dial(5, 4 + 64);
        forks.transfer(0, 2);
        Exam.same("rule 4", forks.hangUp(2), 4);
        Exam.same("but for the one that rings on", forks.total(5), 3);
        Exam.same("free", forks.party(3, 3) + forks.party(4, 3), 0);
        Exam.same("not free", forks.party(5, 3), 1);
        Exam.leg(forks, 0, 1, 0);
        forks.hangUp(6);
        Exam.same("the last one", forks.total(5), 4);
    }

    private static void nothingIsDone() {
        CallForks forks = Exam.talking("party 0 0 0;party 1 0 0;party 0 0 0;party 0 0 0;");
        forks.dial(2, 8);
        forks.hangUp(2);
        long before = forks.checksum();
        Exam.same("a party that was a caller", forks.hangUp(2), 0);
        Exam.same("a party that was a callee", forks.hangUp(3), 0);
        Exam.same("checksum", forks.checksum(), before);
    }

    private static void numberOfTheRule() {
        CallForks forks = Exam.talking("party 0 0 0;party 1 0 0;party 0 0 0;party 0 0 0;");
        Exam.same("nothing", forks.hangUp(2), 0);
        forks.dial(2, 8);
        Exam.same("refuses", forks.hangUp(3), 4);
        forks.dial(2, 8);
        Exam.same("gives up", forks.hangUp(2), 2);
        forks.transfer(0, 2);
        Exam.same("ends a held leg", forks.hangUp(0), 3);
        Exam.same("gives up a referred call", forks.hangUp(1), 2);
        forks.dial(0, 2);
        forks.pass(1);
        Exam.same("ends a talking leg", forks.hangUp(1), 1);
    }

    private static void offeredValues() {
        CallForks forks = Exam.talking("party 0 1 999;party 1 1 999;");
        Exam.same("999", forks.offer(0, 999), 1);
        forks.pass(1);
        Exam.same("setting", forks.leg(0, 4), 999);
        Exam.same("0", forks.offer(1, 0), 1);
        forks.pass(1);
        Exam.same("setting again", forks.leg(0, 4), 0);
    }

    private static void offerAnswers() {
        CallForks forks = Exam.talking("party 0 0 0;party 1 0 0;");
        Exam.same("pending", forks.offer(0, 5), 1);
        Exam.same("refused", forks.offer(0, 5), 0);
        Exam.same("glare", forks.offer(1, 5), -1);
        Exam.same("pending of the callee", forks.offer(1, 5), 1);
        Exam.same("refused of the callee", forks.offer(1, 5), 0);
        Exam.same("glare again", forks.offer(0, 5), -1);
        Exam.totals(forks, 0, 0, 2, 0);
    }

    private static void valueOutOfRange() {
        CallForks forks = Exam.talking("party 0 0 0;party 1 0 0;");
        int[] wrong = {-1, 1000, Integer.MIN_VALUE, Integer.MAX_VALUE};
        for (int value : wrong) {
            Exam.argument("value " + value, () -> forks.offer(1, value));
        }
        Exam.noOffer(forks, 0);
    }

    private static void noLegForAnOffer() {
        CallForks forks = Exam.loaded("exchange;party 0 0 0;party 1 0 0;party 0 0 0;");
        Exam.state("in no leg", () -> forks.offer(0, 1));
        forks.dial(0, 2);
        Exam.state("the caller of a ringing leg", () -> forks.offer(0, 1));
        Exam.state("the callee of a ringing leg", () -> forks.offer(1, 1));
        forks.pass(1);
        Exam.state("a third one", () -> forks.offer(2, 1));
        forks.transfer(0, 2);
        Exam.state("in a held leg", () -> forks.offer(0, 1));
        Exam.state("in a held leg and the caller of a ringing one", () -> forks.offer(1, 1));
        forks.hangUp(1);
        Exam.same("talking again", forks.offer(1, 1), 1);
        forks.hangUp(1);
        Exam.state("in a leg that has ended", () -> forks.offer(1, 1));
    }

    private static void partyValues() {
        CallForks forks = Exam.loaded("exchange;party 1 2 3;party 4 5 6;");
        int[] most = {99, 99, 999};
        for (int what = 0; what < most.length; what++) {
            forks.setParty(1, what, most[what]);
            Exam.same("the greatest " + what, forks.party(1, what), most[what]);
            forks.setParty(1, what, 0);
            Exam.same("the least " + what, forks.party(1, what), 0);
            Exam.same("of the other " + what, forks.party(0, what), what + 1);
        }
        // A delay of 0 is none, as in a setup text.
        CallForks never = Exam.loaded("exchange;party 0 0 0;party 1 0 0;ring 9;");
        never.setParty(1, 0, 0);
        never.dial(0, 2);
        Exam.same("never answers", never.pass(9), 0);
    }

    private static void previousNumber() {
        CallForks forks = Exam.loaded("exchange;party 1 2 3;");
        Exam.same("answer delay", forks.setParty(0, 0, 99), 1);
        Exam.same("reply delay", forks.setParty(0, 1, 0), 2);
        Exam.same("cap", forks.setParty(0, 2, 999), 3);
        Exam.same("99", forks.setParty(0, 0, 98), 99);
        Exam.same("0", forks.setParty(0, 1, 1), 0);
        Exam.same("999", forks.setParty(0, 2, 999), 999);
        Exam.same("the same number", forks.setParty(0, 2, 1), 999);
    }

    private static void whatOrValueOutOfRange() {
        CallForks forks = Exam.loaded("exchange;party 1 2 3;");
        int[] whats = {-1, 3, Integer.MIN_VALUE, Integer.MAX_VALUE};
        for (int what : whats) {
            Exam.argument("what " + what, () -> forks.setParty(0, what, 0));
        }
        int[] values = {-1, 1000, Integer.MIN_VALUE, Integer.MAX_VALUE};
        for (int value : values) {
            Exam.argument("answer delay " + value, () -> forks.setParty(0, 0, value));
            Exam.argument("reply delay " + value, () -> forks.setParty(0, 1, value));
            Exam.argument("cap " + value, () -> forks.setParty(0, 2, value));
        }
        Exam.argument("answer delay 100", () -> forks.setParty(0, 0, 100));
        Exam.argument("reply delay 100", () -> forks.setParty(0, 1, 100));
        Exam.same("nothing is set", forks.party(0, 0) * 100 + forks.party(0, 1) * 10 + forks.party(0, 2), 123);
        Exam.same("no change", forks.undo(), 0);
    }

    private static void latestChange() {
        CallForks forks = Exam.loaded("exchange;party 0 0 0;");
        for (int cap = 1; cap <= 20; cap++) {
            forks.setParty(0, 2, cap);
        }
        forks.undo();
        forks.undo();
        forks.setParty(0, 2, 50);
        forks.undo();
        Exam.same("the one before the undone ones", forks.party(0, 2), 18);
        for (int cap = 17; cap >= 12; cap--) {
            Exam.same("left", forks.undo(), cap - 12);
            Exam.same("cap", forks.party(0, 2), cap);
        }
        Exam.same("the rest is final", forks.undo(), -1);
    }

    private static void notAffected() {
        CallForks forks = new CallForks();
        forks.pass(1);
        Exam.append(forks, "exchange;party 1 1 1;party 100");
        forks.undo();
        Exam.same("the buffer", forks.load(30), CallForks.OUT_OF_RANGE);
        forks.pass(1);
        forks.undo();
        Exam.same("the error offset", forks.errorOffset(), 27);
        Exam.load(forks, "exchange;party 1 1 1;");
        Exam.same("the load is undone", forks.undo(), 0);
        Exam.same("its text does not come back", forks.append(0, 0, 0, 0, 0), 20);
        Exam.same("nor does the error offset", forks.errorOffset(), -1);
    }

    private static void changesLeft() {
        CallForks forks = new CallForks();
        for (int changes = 1; changes <= 12; changes++) {
            forks.pass(1);
            Exam.same("left of " + changes, forks.undo(), Math.min(changes, 8) - 1);
            forks.pass(1);
        }
    }

    private static void noneToUndo() {
        CallForks forks = new CallForks();
        Exam.same("a new object", forks.undo(), -1);
        Exam.same("again", forks.undo(), -1);
        forks.pass(3);
        Exam.same("a change", forks.undo(), 0);
        Exam.same("none any more", forks.undo(), -1);
        Exam.same("nothing changes", forks.time(), 0);
        for (int change = 0; change < 9; change++) {
            forks.pass(1);
        }
        for (int change = 0; change < 8; change++) {
            forks.undo();
        }
        long before = forks.checksum();
        Exam.same("final ones only", forks.undo(), -1);
        Exam.same("nothing changes again", forks.checksum(), before);
        Exam.same("their time", forks.time(), 1);
        forks.pass(2);
        Exam.same("a new change", forks.undo(), 0);
        Exam.same("time", forks.time(), 1);
    }
}
