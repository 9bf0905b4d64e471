import java.math.BigInteger;
import java.util.ArrayList;
import java.util.List;

/**
 * The sentences of the document's "Changes" and of its promises 1 to 14, which make, load and look, that
 * name a boundary case: a test for each one, under the words of the sentence.
 */
public final class BoundaryPromisesTests {
    /** Numbers that are no index of this many things. */
    private static int[] far(int count) {
        return new int[] {-1, count, Integer.MIN_VALUE, Integer.MAX_VALUE};
    }

    public static void main(String[] args) {
        changes();
        inputBuffer();
        load();
        looks();
        offersAndTotals();
        predictions();
        Exam.sentence("each number n in the following order replaces it by 31 * checksum + n, "
                + "wrapping around on overflow of a long", BoundaryPromisesTests::checksumWraps);
        Exam.sentence("It starts at 0", BoundaryPromisesTests::checksumStarts);
        Exam.finish();
    }

    private static void changes() {
        Exam.sentence("An object is used for at most 512 calls after it has been made", BoundaryPromisesTests::calls512);
        Exam.sentence("each such call that does not throw an exception is a change, also if all data stay as they were",
                BoundaryPromisesTests::dataStay);
        Exam.sentence("The changing methods are load (when it succeeds), pass, dial, transfer, hangUp, offer and setParty",
                BoundaryPromisesTests::noOtherChanges);
        Exam.sentence("The latest 8 changes can be undone, the latest one first", BoundaryPromisesTests::latestEight);
        Exam.sentence("a change is final as soon as 8 later ones, none of them undone, have been made",
                BoundaryPromisesTests::finalChanges);
        Exam.sentence("Before the first successful load there are no parties, and the numbers are as without statements.",
                BoundaryPromisesTests::beforeTheFirstLoad);
        Exam.sentence("IndexOutOfBoundsException is thrown if a parameter named party (or target), call or leg "
                + "is not the index of such a thing.", BoundaryPromisesTests::noSuchIndex);
        Exam.sentence("If several exceptions apply to a call, the one that is listed first with the method is thrown.",
                BoundaryPromisesTests::firstException);
        Exam.sentence("A method that throws an exception changes nothing.", BoundaryPromisesTests::throwingChangesNothing);
    }

    private static void inputBuffer() {
        Exam.sentence("Creates an exchange without parties, with an empty input buffer.", BoundaryPromisesTests::newObject);
        Exam.sentence("the 4 bytes of each argument, the most significant byte first", BoundaryPromisesTests::orderOfBytes);
        Exam.sentence("Returns the new length of the buffer", BoundaryPromisesTests::lengthOfTheBuffer);
        Exam.sentence("-1 if it would exceed 600 bytes, and the buffer is unchanged then", BoundaryPromisesTests::fullBuffer);
    }

    private static void load() {
        Exam.sentence("Reads the first bytes of the input buffer as a setup text", BoundaryPromisesTests::firstBytes);
        Exam.sentence("replaces all data by it: the time is 0, and there are no calls", BoundaryPromisesTests::replaces);
        Exam.sentence("The input buffer is empty afterwards, also if the text has an error.", BoundaryPromisesTests::emptied);
        Exam.sentence("An error leaves all other data unchanged.", BoundaryPromisesTests::errorLeavesData);
        Exam.sentence("An empty text has a SYNTAX_ERROR.", BoundaryPromisesTests::emptyText);
        Exam.sentence("Returns the number of parties; or the error code of the first error.",
                BoundaryPromisesTests::partiesOrError);
        Exam.sentence("if length is negative or greater than the length of the buffer; the buffer is unchanged then",
                BoundaryPromisesTests::wrongLength);
        Exam.sentence("Returns the offset of the error found by the latest call of load that did not throw",
                BoundaryPromisesTests::offsetOfTheLatest);
        Exam.sentence("-1 if it found none or if there was no such call", BoundaryPromisesTests::noOffset);
    }

    private static void looks() {
        Exam.sentence("0 parties, 1 calls, 2 legs, 3 talking legs, 4 ringing legs, 5 w, 6 v, 7 the patience",
                BoundaryPromisesTests::counts);
        Exam.sentence("3 1 if it is engaged, otherwise 0", BoundaryPromisesTests::engagedOrNot);
        Exam.sentence("4 the talking leg in which it is (-1 for none)", BoundaryPromisesTests::noTalkingLeg);
        Exam.sentence("5 the number of ringing legs of which it is the callee", BoundaryPromisesTests::ringingLegs);
        Exam.sentence("3 the leg by which it is referred (-1 for none)", BoundaryPromisesTests::referrer);
        Exam.sentence("4 1 if a leg of it rings, otherwise 0", BoundaryPromisesTests::ringsOrNot);
        Exam.sentence("5 the leg of it that was answered, in whatever state it is now (-1 for none)",
                BoundaryPromisesTests::answeredLeg);
        Exam.sentence("3 its reason (0 if it has not ended)", BoundaryPromisesTests::noReason);
        Exam.sentence("Throws IllegalArgumentException if what is out of range", BoundaryPromisesTests::whatOutOfRange);
    }

    private static void offersAndTotals() {
        Exam.sentence("0 the side of the pending offer, 1 its value, 2 the time since which it is pending",
                BoundaryPromisesTests::pendingOffer);
        Exam.sentence("Throws NoSuchElementException if no offer is pending on it", BoundaryPromisesTests::noOffer);
        Exam.sentence("Returns the time at which the repetition of this side is due; -1 if there is none.",
                BoundaryPromisesTests::noRepetition);
        Exam.sentence("Throws IllegalArgumentException if side is out of range", BoundaryPromisesTests::sideOutOfRange);
        Exam.sentence("Counts what happened since the latest load", BoundaryPromisesTests::sinceTheLoad);
        Exam.sentence("(undone changes do not count)", BoundaryPromisesTests::undoneDoNotCount);
        Exam.sentence("(a call whose caller gave up has not failed)", BoundaryPromisesTests::gaveUp);
    }

    private static void predictions() {
        Exam.sentence("Predicts a call, if nothing but seconds pass", BoundaryPromisesTests::secondsPass);
        Exam.sentence("(the time may exceed 9999 for this)", BoundaryPromisesTests::beyondTheLatestTime);
        Exam.sentence("Returns the number of seconds after which no leg of it rings any more; 0 if none rings now.",
                BoundaryPromisesTests::noneRings);
        Exam.sentence("Returns the leg that was answered, or will be answered before no leg of the call rings any more; "
                + "-1 if there is none.", BoundaryPromisesTests::whoAnswers);
    }

    private static void calls512() {
        CallForks looking = new CallForks();
        for (int call = 1; call < 512; call++) {
            looking.pass(1);
        }
        Exam.same("the 512th call looks", looking.time(), 511);
        CallForks changing = Exam.loaded("exchange;party 1 0 0;");
        for (int call = 4; call <= 511; call++) {
            changing.setParty(0, 2, call);
        }
        Exam.same("the 512th call undoes", changing.undo(), 7);
        CallForks loading = new CallForks();
        for (int load = 0; load < 255; load++) {
            Exam.append(loading, "exchange;ring " + load + ";");
            loading.load(18);
        }
        Exam.same("the 511th call appends", loading.append(0, 0, 0, 0, 0), 20);
        Exam.same("the 512th call loads", loading.load(20), CallForks.SYNTAX_ERROR);
    }

    private static void dataStay() {
        CallForks forks = Exam.talking("party 0 0 5;party 1 0 0;party 0 0 0;");
        Exam.same("a value that was set already", forks.setParty(0, 2, 5), 5);
        Exam.same("is a change", forks.undo(), 3);
        Exam.same("nothing is done", forks.hangUp(2), 0);
        Exam.same("is a change, too", forks.undo(), 3);
        forks.offer(0, 5);
        Exam.same("an offer that is refused", forks.offer(0, 5), 0);
        Exam.same("is a change as well", forks.undo(), 4);
        CallForks loaded = Exam.loaded("exchange;");
        Exam.same("the same text again", Exam.load(loaded, "exchange;"), 0);
        Exam.same("is a change of its own", loaded.undo(), 1);
    }

    private static void noOtherChanges() {
        CallForks forks = Exam.talking("party 0 0 5;party 1 0 0;party 0 0 0;");
        forks.offer(0, 1);
        forks.append(0, 0, 0, 0, 0);
        Exam.same("a load with an error", forks.load(20), CallForks.SYNTAX_ERROR);
        forks.errorOffset();
        forks.time();
        forks.count(0);
        forks.party(0, 0);
        forks.call(0, 0);
        forks.leg(0, 0);
        forks.pending(0, 0);
        forks.repetition(0, 0);
        forks.total(0);
        forks.settlesIn(0);
        forks.answeredBy(0);
        forks.checksum();
        Exam.same("an offer is undone", forks.undo(), 3);
        Exam.noOffer(forks, 0);
        Exam.same("a pass is undone", forks.undo(), 2);
        Exam.leg(forks, 0, 0, 0);
        Exam.same("a dial is undone", forks.undo(), 1);
        Exam.same("no leg", forks.count(2), 0);
        Exam.same("a load is undone", forks.undo(), 0);
        Exam.same("no party", forks.count(0), 0);
        Exam.same("an undo is no change", forks.undo(), -1);
        CallForks more = Exam.talking("party 0 0 5;party 1 0 0;party 0 0 0;");
        more.transfer(0, 2);
        Exam.same("a transfer is undone", more.undo(), 3);
        Exam.leg(more, 0, 1, 0);
        more.hangUp(0);
        Exam.same("a hangUp is undone", more.undo(), 3);
        Exam.leg(more, 0, 1, 0);
        more.setParty(0, 2, 6);
        Exam.same("a setParty is undone", more.undo(), 3);
        Exam.same("cap", more.party(0, 2), 5);
    }

    private static void latestEight() {
        CallForks forks = new CallForks();
        for (int change = 1; change <= 8; change++) {
            forks.pass(change);
        }
        int time = 36;
        for (int change = 8; change >= 1; change--) {
            Exam.same("changes left", forks.undo(), change - 1);
            time -= change;
            Exam.same("the latest one first", forks.time(), time);
        }
        Exam.same("none is left", forks.undo(), -1);
    }

    private static void finalChanges() {
        CallForks forks = new CallForks();
        for (int change = 1; change <= 9; change++) {
            forks.pass(1);
        }
        for (int left = 7; left >= 0; left--) {
            Exam.same("changes left", forks.undo(), left);
        }
        Exam.same("the first one is final", forks.undo(), -1);
        Exam.same("and stays so", forks.time(), 1);
        // With one of the 8 later ones undone, the first one is not final.
        CallForks undone = new CallForks();
        for (int change = 1; change <= 8; change++) {
            undone.pass(1);
        }
        undone.undo();
        undone.pass(10);
        for (int left = 7; left >= 0; left--) {
            Exam.same("changes left with the first", undone.undo(), left);
        }
        Exam.same("all are undone", undone.time(), 0);
        // A final change stays final when later ones are undone, and new ones follow.
        CallForks again = new CallForks();
        for (int change = 1; change <= 10; change++) {
            again.pass(1);
        }
        for (int change = 0; change < 8; change++) {
            again.undo();
        }
        again.pass(5);
        Exam.same("only the new one", again.undo(), 0);
        Exam.same("two are final", again.undo(), -1);
        Exam.same("their time", again.time(), 2);
    }

    private static void beforeTheFirstLoad() {
        CallForks forks = new CallForks();
        for (int round = 0; round < 2; round++) {
            int[] counts = {0, 0, 0, 0, 0, 3, 5, 20};
            for (int what = 0; what < counts.length; what++) {
                Exam.same("count " + what, forks.count(what), counts[what]);
            }
            Exam.index("no party", () -> forks.party(0, 0));
            Exam.index("nobody dials", () -> forks.dial(0, 1));
            Exam.same("a load with an error", Exam.load(forks, "exchange;party 1 1 1;wait 9 9;patience 9;"
                    + "ring 9;party;"), CallForks.SYNTAX_ERROR);
        }
        Exam.same("seconds pass", forks.pass(200), 0);
        Exam.same("without parties", forks.time(), 200);
    }

    private static void noSuchIndex() {
        CallForks forks = Exam.talking("party 0 0 5;party 1 0 0;party 0 0 0;");
        for (int party : far(3)) {
            Exam.index("party " + party, () -> forks.party(party, 0));
            Exam.index("dial " + party, () -> forks.dial(party, 1));
            Exam.index("transfer " + party, () -> forks.transfer(party, 2));
            Exam.index("transfer to " + party, () -> forks.transfer(0, party));
            Exam.index("hangUp " + party, () -> forks.hangUp(party));
            Exam.index("offer " + party, () -> forks.offer(party, 1));
            Exam.index("setParty " + party, () -> forks.setParty(party, 0, 0));
        }
        for (int call : far(1)) {
            Exam.index("call " + call, () -> forks.call(call, 0));
            Exam.index("settlesIn " + call, () -> forks.settlesIn(call));
            Exam.index("answeredBy " + call, () -> forks.answeredBy(call));
        }
        for (int leg : far(1)) {
            Exam.index("leg " + leg, () -> forks.leg(leg, 0));
            Exam.index("pending " + leg, () -> forks.pending(leg, 0));
            Exam.index("repetition " + leg, () -> forks.repetition(leg, 0));
        }
        Exam.same("the last party", forks.party(2, 0), 0);
        Exam.same("the last leg", forks.leg(0, 1), 1);
        forks.undo();
        forks.undo();
        Exam.index("an undone call", () -> forks.call(0, 0));
        Exam.index("an undone leg", () -> forks.leg(0, 0));
        forks.undo();
        Exam.index("an undone party", () -> forks.party(0, 0));
    }

    private static void firstException() {
        CallForks forks = Exam.talking("party 0 0 5;party 1 0 0;party 0 0 0;");
        Exam.index("party before what", () -> forks.party(3, 6));
        Exam.index("call before what", () -> forks.call(1, 6));
        Exam.index("leg before what", () -> forks.leg(1, 6));
        Exam.index("pending: leg before the offer and what", () -> forks.pending(1, 3));
        Exam.element("pending: the offer before what", () -> forks.pending(0, 3));
        Exam.index("repetition: leg before side", () -> forks.repetition(1, 2));
        Exam.index("dial: party before callees", () -> forks.dial(3, 0));
        Exam.argument("dial: callees before an engaged caller", () -> forks.dial(0, 0));
        Exam.argument("dial: an engaged caller in the callees", () -> forks.dial(0, 1));
        Exam.argument("dial: an unknown callee of an engaged caller", () -> forks.dial(0, 8));
        Exam.index("transfer: party before a silent party", () -> forks.transfer(3, 3));
        Exam.index("transfer: target before a silent party", () -> forks.transfer(2, 3));
        Exam.state("transfer: a silent party before its target", () -> forks.transfer(2, 2));
        Exam.index("offer: party before value", () -> forks.offer(3, 1000));
        Exam.argument("offer: value before a silent party", () -> forks.offer(2, 1000));
        Exam.index("setParty: party before what and value", () -> forks.setParty(3, 3, 1000));
        for (int call = 1; call < 20; call++) {
            forks.transfer(0, 2);
            forks.hangUp(2);
        }
        Exam.argument("dial: callees before a 21st call", () -> forks.dial(2, 0));
        Exam.state("transfer: a 21st call before the target", () -> forks.transfer(0, 1));
        CallForks legs = fortyLegs();
        Exam.argument("dial: callees before a 41st leg", () -> legs.dial(9, 512));
        Exam.state("transfer: a 41st leg before the target", () -> legs.transfer(0, 0));
        Exam.index("transfer: target before a 41st leg", () -> legs.transfer(0, 10));
    }

    /** Ten parties, 0 and 1 of which talk on leg 0; there are 40 legs. */
    private static CallForks fortyLegs() {
        CallForks forks = Exam.talking("party 0 0 0;party 1 0 0;" + "party 0 0 0;".repeat(8));
        for (int call = 0; call < 5; call++) {
            forks.dial(2, 1016);
            forks.hangUp(2);
        }
        forks.dial(2, 56);
        forks.hangUp(2);
        forks.dial(2, 8);
        Exam.same("40 legs", forks.count(2), 40);
        return forks;
    }

    private static void throwingChangesNothing() {
        CallForks forks = Exam.talking("party 0 0 5;party 1 0 0;party 0 0 0;party 0 0 0;");
        forks.dial(2, 8);
        forks.offer(0, 7);
        Exam.append(forks, "exchangX;");
        List<Exam.Call> calls = new ArrayList<>();
        calls.add(() -> forks.load(-1));
        calls.add(() -> forks.load(21));
        calls.add(() -> forks.pass(0));
        calls.add(() -> forks.pass(201));
        calls.add(() -> forks.dial(4, 1));
        calls.add(() -> forks.dial(3, 8));
        calls.add(() -> forks.dial(0, 8));
        calls.add(() -> forks.transfer(4, 2));
        calls.add(() -> forks.transfer(0, 4));
        calls.add(() -> forks.transfer(3, 0));
        calls.add(() -> forks.transfer(0, 1));
        calls.add(() -> forks.hangUp(4));
        calls.add(() -> forks.offer(4, 1));
        calls.add(() -> forks.offer(1, 1000));
        calls.add(() -> forks.offer(2, 1));
        calls.add(() -> forks.setParty(4, 2, 1));
        calls.add(() -> forks.setParty(0, 3, 1));
        calls.add(() -> forks.setParty(0, 0, 100));
        long before = forks.checksum();
        for (Exam.Call call : calls) {
            boolean threw = false;
            try {
                call.make();
            } catch (RuntimeException e) {
                threw = true;
            }
            Exam.same("it throws", threw ? 1 : 0, 1);
            Exam.same("checksum", forks.checksum(), before);
            Exam.pending(forks, 0, 0, 7, 1);
        }
        Exam.same("the error offset", forks.errorOffset(), -1);
        Exam.same("the input buffer", forks.append(0, 0, 0, 0, 0), 40);
        Exam.same("its text", forks.load(9), CallForks.SYNTAX_ERROR);
        Exam.same("the changes", forks.undo(), 4);
        Exam.noOffer(forks, 0);
    }

    private static void newObject() {
        CallForks forks = new CallForks();
        Exam.same("parties", forks.count(0), 0);
        Exam.index("party 0", () -> forks.party(0, 0));
        Exam.argument("a byte of the buffer", () -> forks.load(1));
        Exam.same("the text of no bytes", forks.load(0), CallForks.SYNTAX_ERROR);
        Exam.same("the first append", forks.append(0, 0, 0, 0, 0), 20);
        Exam.same("nothing to undo", new CallForks().undo(), -1);
    }

    private static void orderOfBytes() {
        CallForks forks = new CallForks();
        // "exch" "ange" ";par" "ty 1" " 2 3", then ";par" "ty 4" " 5 6" "78; " and 4 bytes that are not read.
        forks.append(0x65786368, 0x616e6765, 0x3b706172, 0x74792031, 0x20322033);
        forks.append(0x3b706172, 0x74792034, 0x20352036, 0x37383b20, 0xffffffff);
        Exam.same("load", forks.load(36), 2);
        int[] due = {1, 2, 3, 4, 5, 678};
        for (int k = 0; k < due.length; k++) {
            Exam.same("party " + k / 3 + " " + k % 3, forks.party(k / 3, k % 3), due[k]);
        }
        for (int at = 0; at < 20; at++) {
            int[] words = {0x20202020, 0x20202020, 0x20202020, 0x20202020, 0x20202020};
            words[at / 4] |= 0x80 << 24 - 8 * (at % 4);
            forks.append(words[0], words[1], words[2], words[3], words[4]);
            Exam.same("byte " + at + " is 160", forks.load(20), CallForks.SYNTAX_ERROR);
            Exam.same("its offset", forks.errorOffset(), at);
        }
    }

    private static void lengthOfTheBuffer() {
        CallForks forks = new CallForks();
        for (int length = 20; length <= 600; length += 20) {
            Exam.same("length", forks.append(0, 0, 0, 0, 0), length);
        }
    }

    private static void fullBuffer() {
        CallForks forks = new CallForks();
        String text = "exchange;" + " ".repeat(570) + "party 1 2 3;" + "wait 4 5;";
        Exam.same("length of the text", text.length(), 600);
        Exam.append(forks, text);
        Exam.same("620 bytes", forks.append(-1, -1, -1, -1, -1), -1);
        Exam.same("620 bytes again", forks.append(0, 0, 0, 0, 0), -1);
        Exam.argument("601 bytes", () -> forks.load(601));
        Exam.same("the 600 bytes", forks.load(600), 1);
        Exam.same("their last ones", forks.count(6), 5);
        Exam.same("there is room again", forks.append(0, 0, 0, 0, 0), 20);
    }

    private static void firstBytes() {
        CallForks forks = new CallForks();
        Exam.append(forks, "exchange;party 1 2 3;party 1 2 4;rubbish");
        Exam.same("the first statement", forks.load(21), 1);
        Exam.append(forks, "exchange;party 1 2 3;party 1 2 4;");
        Exam.same("all bytes, with the spaces behind them", forks.load(40), 2);
        Exam.append(forks, "exchange;party 1 2 3;");
        Exam.same("no byte", forks.load(0), CallForks.SYNTAX_ERROR);
        Exam.append(forks, "exchange;party 1 2 3;");
        Exam.same("the last byte is missing", forks.load(20), CallForks.SYNTAX_ERROR);
    }

    private static void replaces() {
        CallForks forks = Exam.talking("party 0 0 5;party 1 1 9;party 0 0 0;wait 7 8;patience 9;ring 11;");
        forks.offer(0, 9);
        forks.pass(1);
        forks.dial(2, 1);
        Exam.same("load", Exam.load(forks, "exchange;party 4 5 6;party 0 0 0;"), 2);
        Exam.same("time", forks.time(), 0);
        int[] counts = {2, 0, 0, 0, 0, 3, 5, 20};
        for (int what = 0; what < counts.length; what++) {
            Exam.same("count " + what, forks.count(what), counts[what]);
        }
        Exam.totals(forks, 0, 0, 0, 0, 0, 0, 0);
        Exam.index("no call", () -> forks.call(0, 0));
        Exam.index("no leg", () -> forks.leg(0, 0));
        Exam.index("no third party", () -> forks.party(2, 0));
        Exam.same("the new numbers", forks.party(0, 0) * 100 + forks.party(0, 1) * 10 + forks.party(0, 2), 456);
        Exam.same("nobody is engaged", forks.party(0, 3), 0);
        forks.dial(0, 2);
        Exam.same("the ring statement has gone", forks.call(0, 2), 30);
        Exam.same("a new leg has no setting", forks.leg(0, 4) + forks.leg(0, 5), 0);
    }

    private static void emptied() {
        CallForks forks = new CallForks();
        Exam.append(forks, "exchange;party 1 2 3;");
        forks.load(9);
        Exam.argument("after a good text", () -> forks.load(1));
        Exam.same("the next append", forks.append(0, 0, 0, 0, 0), 20);
        Exam.same("an error", forks.load(20), CallForks.SYNTAX_ERROR);
        Exam.argument("after an error", () -> forks.load(1));
        Exam.same("the next append after an error", forks.append(0, 0, 0, 0, 0), 20);
        Exam.same("the empty text", forks.load(0), CallForks.SYNTAX_ERROR);
        Exam.argument("after the empty text", () -> forks.load(1));
    }

    private static void errorLeavesData() {
        CallForks forks = Exam.talking("party 0 0 5;party 1 1 9;party 0 0 0;wait 7 8;patience 9;ring 11;");
        forks.offer(0, 9);
        long before = forks.checksum();
        String[] texts = {"", "x", "exchange;party 9 9 9;wait 1 1;patience 1;ring 1;party 100",
            "exchange;" + "party 1 1 1;".repeat(11), "exchange;wait 1 1;ring (((((1", "exchange;patience 1"};
        for (String text : texts) {
            Exam.same("an error of " + text, Exam.load(forks, text) < 0 ? 1 : 0, 1);
            Exam.same("checksum", forks.checksum(), before);
            Exam.pending(forks, 0, 0, 9, 1);
            Exam.same("w, v and the patience", forks.count(5) * 100 + forks.count(6) * 10 + forks.count(7), 789);
        }
        forks.hangUp(0);
        forks.dial(0, 2);
        Exam.same("the ring statement", forks.call(1, 2), 11);
        Exam.same("errors are no changes", forks.undo(), 5);
    }

    private static void emptyText() {
        CallForks forks = new CallForks();
        Exam.same("of an empty buffer", forks.load(0), CallForks.SYNTAX_ERROR);
        Exam.same("at 0", forks.errorOffset(), 0);
        Exam.append(forks, "exchange;");
        Exam.same("of a buffer with a text", forks.load(0), CallForks.SYNTAX_ERROR);
        Exam.same("at 0 again", forks.errorOffset(), 0);
        Exam.fails("     ", CallForks.SYNTAX_ERROR, 5);
    }

    private static void partiesOrError() {
        Exam.reads("exchange;", 0);
        Exam.reads("exchange;party 0 0 0;", 1);
        Exam.reads("exchange;" + "party 0 0 0;".repeat(10), 10);
        Exam.same("SYNTAX_ERROR", CallForks.SYNTAX_ERROR, -2);
        Exam.same("OUT_OF_RANGE", CallForks.OUT_OF_RANGE, -3);
        Exam.same("TOO_MANY", CallForks.TOO_MANY, -4);
        Exam.same("TOO_DEEP", CallForks.TOO_DEEP, -5);
        Exam.fails("exchange;party;ring (((((1;", -2, 14);
        Exam.fails("exchange;party 100;ring (((((1;", -3, 15);
        Exam.fails("exchange;" + "party 0 0 0;".repeat(11) + "ring 10000;", -4, 129);
        Exam.fails("exchange;ring (((((1;ring 10000;", -5, 18);
    }

    private static void wrongLength() {
        CallForks forks = new CallForks();
        Exam.argument("longer than an empty buffer", () -> forks.load(1));
        Exam.append(forks, "exchange;party 0 0 0;");
        int[] lengths = {-1, Integer.MIN_VALUE, 41, 600, 601, Integer.MAX_VALUE};
        for (int length : lengths) {
            Exam.argument("length " + length, () -> forks.load(length));
        }
        Exam.same("the buffer is unchanged", forks.load(40), 1);
        Exam.append(forks, "exchange;");
        Exam.argument("what stood in the buffer before", () -> forks.load(21));
        Exam.same("its own length", forks.load(20), 0);
    }

    private static void offsetOfTheLatest() {
        CallForks forks = new CallForks();
        Exam.load(forks, "exchange;party 100 0 0;");
        Exam.same("of an error", forks.errorOffset(), 15);
        Exam.argument("a load that throws", () -> forks.load(1));
        Exam.argument("another one", () -> forks.load(-1));
        Exam.same("of the load before", forks.errorOffset(), 15);
        forks.load(0);
        Exam.same("of the first byte", forks.errorOffset(), 0);
        Exam.load(forks, "exchange");
        Exam.same("of the end", forks.errorOffset(), 8);
        forks.pass(1);
        forks.append(0, 0, 0, 0, 0);
        Exam.same("other calls leave it", forks.errorOffset(), 8);
    }

    private static void noOffset() {
        CallForks forks = new CallForks();
        Exam.same("no call of load", forks.errorOffset(), -1);
        Exam.argument("a load that throws", () -> forks.load(1));
        Exam.same("only one that threw", forks.errorOffset(), -1);
        Exam.load(forks, "exchange;");
        Exam.same("no error", forks.errorOffset(), -1);
        Exam.load(forks, "x");
        Exam.load(forks, "exchange;");
        Exam.same("no error after one", forks.errorOffset(), -1);
    }

    private static void counts() {
        CallForks forks = Exam.loaded("exchange;party 0 0 0;party 2 0 0;party 3 0 0;party 0 0 0;party 0 0 0;"
                + "wait 11 12;patience 13;");
        forks.dial(0, 2 + 4);
        forks.dial(3, 16 + 2);
        counts(forks, 5, 2, 4, 0, 4, 11, 12, 13);
        forks.pass(2);
        counts(forks, 5, 2, 4, 1, 1, 11, 12, 13);
        forks.transfer(1, 2);
        counts(forks, 5, 3, 5, 0, 2, 11, 12, 13);
        forks.hangUp(2);
        counts(forks, 5, 3, 5, 1, 1, 11, 12, 13);
        forks.hangUp(0);
        forks.hangUp(3);
        counts(forks, 5, 3, 5, 0, 0, 11, 12, 13);
    }

    private static void counts(CallForks forks, int... due) {
        for (int what = 0; what < due.length; what++) {
            Exam.same("count " + what, forks.count(what), due[what]);
        }
    }

    private static void engagedOrNot() {
        CallForks forks = Exam.talking("party 0 0 0;party 1 0 0;party 0 0 0;");
        Exam.same("engaged", forks.party(0, 3), 1);
        Exam.same("not engaged", forks.party(2, 3), 0);
    }

    private static void noTalkingLeg() {
        CallForks forks = Exam.loaded("exchange;party 0 0 0;party 1 0 0;party 0 0 0;party 1 0 0;");
        Exam.same("no leg at all", forks.party(0, 4), -1);
        forks.dial(0, 2);
        forks.dial(2, 8);
        Exam.same("a caller of a ringing leg", forks.party(0, 4), -1);
        Exam.same("a callee of a ringing leg", forks.party(1, 4), -1);
        forks.pass(1);
        Exam.same("leg 0", forks.party(1, 4), 0);
        Exam.same("leg 1", forks.party(2, 4), 1);
        forks.hangUp(2);
        Exam.same("ended", forks.party(3, 4), -1);
        forks.transfer(0, 2);
        Exam.same("held", forks.party(0, 4), -1);
        Exam.same("held, and the caller of a ringing leg", forks.party(1, 4), -1);
        forks.hangUp(2);
        Exam.same("talking again", forks.party(0, 4), 0);
    }

    private static void ringingLegs() {
        CallForks forks = Exam.silent(10, "");
        Exam.same("none", forks.party(9, 5), 0);
        for (int caller = 0; caller < 9; caller++) {
            forks.dial(caller, 512);
        }
        Exam.same("nine", forks.party(9, 5), 9);
        Exam.same("none of a caller", forks.party(0, 5), 0);
        forks.hangUp(9);
        Exam.same("all have ended", forks.party(9, 5), 0);
    }

    private static void referrer() {
        CallForks forks = Exam.talking("party 0 0 0;party 1 0 0;party 1 0 0;party 0 0 0;");
        Exam.same("none", forks.call(0, 3), -1);
        forks.transfer(0, 2);
        Exam.same("leg 0", forks.call(1, 3), 0);
        forks.pass(1);
        Exam.same("leg 0, which has ended", forks.call(1, 3), 0);
        forks.transfer(2, 3);
        Exam.same("leg 1", forks.call(2, 3), 1);
    }

    private static void ringsOrNot() {
        CallForks forks = Exam.silent(4, "");
        forks.dial(0, 2 + 4);
        Exam.same("two legs ring", forks.call(0, 4), 1);
        forks.hangUp(1);
        Exam.same("one leg rings", forks.call(0, 4), 1);
        forks.hangUp(2);
        Exam.same("none rings", forks.call(0, 4), 0);
        forks.setParty(1, 0, 1);
        forks.dial(0, 2);
        Exam.same("it rings", forks.call(1, 4), 1);
        forks.pass(1);
        Exam.same("it talks", forks.call(1, 4), 0);
        Exam.same("the first one does not ring again", forks.call(0, 4), 0);
    }

    private static void answeredLeg() {
        CallForks forks = Exam.loaded("exchange;party 0 0 0;party 0 0 0;party 1 0 0;party 1 0 0;party 0 0 0;");
        forks.dial(4, 1);
        forks.dial(0, 2 + 4);
        Exam.same("none while it rings", forks.call(1, 5), -1);
        forks.pass(1);
        Exam.same("talking", forks.call(1, 5), 2);
        forks.transfer(0, 3);
        Exam.same("held", forks.call(1, 5), 2);
        Exam.same("none of the new call", forks.call(2, 5), -1);
        forks.pass(1);
        Exam.leg(forks, 2, 3, 7);
        Exam.same("ended", forks.call(1, 5), 2);
        Exam.same("of the new call", forks.call(2, 5), 3);
        forks.hangUp(2);
        Exam.same("hung up", forks.call(2, 5), 3);
        forks.hangUp(4);
        Exam.same("given up", forks.call(0, 5), -1);
    }

    private static void noReason() {
        CallForks forks = Exam.talking("party 0 0 0;party 1 0 0;party 0 0 0;party 0 0 0;");
        Exam.leg(forks, 0, 1, 0);
        forks.transfer(0, 2);
        Exam.leg(forks, 0, 2, 0);
        Exam.leg(forks, 1, 0, 0);
        forks.hangUp(2);
        Exam.leg(forks, 0, 1, 0);
        Exam.leg(forks, 1, 3, 5);
        // A leg that is made again in the place of one that had ended.
        forks.undo();
        forks.undo();
        forks.dial(3, 4);
        Exam.leg(forks, 1, 0, 0);
    }

    private static void whatOutOfRange() {
        CallForks forks = Exam.talking("party 0 0 0;party 1 0 0;");
        forks.offer(0, 1);
        for (int what : far(8)) {
            Exam.argument("count " + what, () -> forks.count(what));
        }
        for (int what : far(6)) {
            Exam.argument("party " + what, () -> forks.party(1, what));
            Exam.argument("call " + what, () -> forks.call(0, what));
            Exam.argument("leg " + what, () -> forks.leg(0, what));
        }
        for (int what : far(3)) {
            Exam.argument("pending " + what, () -> forks.pending(0, what));
        }
        for (int what : far(7)) {
            Exam.argument("total " + what, () -> forks.total(what));
        }
        Exam.same("the last ones", forks.count(7) + forks.party(1, 5) + forks.call(0, 5) + forks.leg(0, 5)
                + forks.pending(0, 2) + forks.total(6), 21);
    }

    private static void pendingOffer() {
        CallForks forks = Exam.talking("party 0 0 0;party 1 0 0;");
        forks.offer(0, 999);
        Exam.pending(forks, 0, 0, 999, 1);
        forks.undo();
        forks.pass(4);
        forks.offer(1, 0);
        Exam.pending(forks, 0, 1, 0, 5);
        forks.pass(3);
        Exam.pending(forks, 0, 1, 0, 5);
    }

    private static void noOffer() {
        CallForks forks = Exam.loaded("exchange;party 0 0 0;party 1 1 9;party 0 0 0;");
        forks.dial(0, 2);
        Exam.noOffer(forks, 0);
        forks.pass(1);
        Exam.noOffer(forks, 0);
        forks.offer(0, 1);
        forks.offer(1, 1);
        Exam.noOffer(forks, 0);
        forks.offer(0, 1);
        forks.pass(1);
        Exam.noOffer(forks, 0);
        forks.offer(0, 1);
        forks.transfer(0, 2);
        Exam.noOffer(forks, 0);
        Exam.noOffer(forks, 1);
        forks.hangUp(2);
        Exam.noOffer(forks, 0);
        Exam.noOffer(forks, 1);
    }

    private static void noRepetition() {
        CallForks forks = Exam.loaded("exchange;party 0 0 0;party 1 0 0;party 0 0 0;wait 1 99;");
        forks.dial(0, 2);
        Exam.repetitions(forks, 0, -1, -1);
        forks.pass(1);
        Exam.repetitions(forks, 0, -1, -1);
        forks.offer(0, 1);
        forks.offer(1, 1);
        Exam.repetitions(forks, 0, 2, 100);
        forks.pass(1);
        Exam.repetitions(forks, 0, -1, 100);
        forks.dial(2, 1);
        Exam.repetitions(forks, 1, -1, -1);
        forks.hangUp(0);
        Exam.repetitions(forks, 0, -1, -1);
    }

    private static void sideOutOfRange() {
        CallForks forks = Exam.talking("party 0 0 0;party 1 0 0;");
        for (int side : far(2)) {
            Exam.argument("side " + side, () -> forks.repetition(0, side));
        }
    }

    private static void sinceTheLoad() {
        CallForks forks = Exam.talking("party 0 0 0;party 1 1 9;party 0 0 0;party 1 0 0;wait 1 1;");
        forks.offer(0, 9);
        forks.pass(1);
        Exam.totals(forks, 1, 0, 0, 0, 1, 0, 0);
        forks.offer(0, 10);
        forks.pass(1);
        Exam.totals(forks, 1, 1, 0, 0, 1, 0, 0);
        forks.offer(0, 1);
        forks.offer(1, 1);
        Exam.totals(forks, 1, 1, 1, 0, 1, 0, 0);
        forks.pass(1);
        Exam.totals(forks, 1, 1, 1, 1, 1, 0, 0);
        forks.dial(2, 1);
        Exam.totals(forks, 1, 1, 1, 1, 1, 1, 0);
        forks.transfer(0, 3);
        forks.pass(1);
        Exam.totals(forks, 1, 1, 1, 1, 2, 1, 1);
        Exam.load(forks, "party");
        Exam.totals(forks, 1, 1, 1, 1, 2, 1, 1);
        Exam.load(forks, "exchange;");
        Exam.totals(forks, 0, 0, 0, 0, 0, 0, 0);
    }

    private static void undoneDoNotCount() {
        CallForks forks = Exam.talking("party 0 0 0;party 1 1 9;party 0 0 0;party 1 0 0;wait 1 1;");
        forks.offer(0, 9);
        forks.pass(1);
        forks.undo();
        Exam.totals(forks, 0, 0, 0, 0, 1, 0, 0);
        forks.offer(1, 9);
        forks.undo();
        Exam.totals(forks, 0, 0, 0, 0, 1, 0, 0);
        forks.dial(2, 1);
        forks.undo();
        Exam.totals(forks, 0, 0, 0, 0, 1, 0, 0);
        forks.transfer(0, 3);
        forks.pass(1);
        Exam.totals(forks, 0, 0, 0, 0, 2, 0, 1);
        forks.undo();
        Exam.totals(forks, 0, 0, 0, 0, 1, 0, 0);
        Exam.load(forks, "exchange;");
        forks.undo();
        Exam.totals(forks, 0, 0, 0, 0, 1, 0, 0);
    }

    private static void gaveUp() {
        CallForks forks = Exam.talking("party 0 0 0;party 1 0 0;party 0 0 0;party 0 0 0;");
        forks.dial(2, 8);
        Exam.same("gives up", forks.hangUp(2), 2);
        Exam.totals(forks, 0, 0, 0, 0, 1, 0, 0);
        forks.transfer(0, 2);
        Exam.same("a referred one gives up", forks.hangUp(1), 2);
        Exam.totals(forks, 0, 0, 0, 0, 1, 0, 0);
        forks.pass(40);
        Exam.totals(forks, 0, 0, 0, 0, 1, 0, 0);
    }

    private static void secondsPass() {
        CallForks forks = Exam.talking("party 0 3 99;party 1 2 99;party 5 0 0;party 0 0 0;party 4 0 0;");
        forks.offer(0, 4);
        forks.dial(3, 4);
        forks.dial(2, 16);
        long before = forks.checksum();
        Exam.same("its callee talks by then", forks.settlesIn(1), 30);
        Exam.same("and does not answer", forks.answeredBy(1), -1);
        Exam.same("the other call", forks.settlesIn(2), 4);
        Exam.same("is answered", forks.answeredBy(2), 2);
        Exam.same("nothing has changed", forks.checksum(), before);
        Exam.pending(forks, 0, 0, 4, 1);
        Exam.same("predictions are no changes", forks.undo(), 5);
        Exam.same("without the other call", forks.settlesIn(1), 5);
        Exam.same("it would be answered", forks.answeredBy(1), 1);
    }

    private static void beyondTheLatestTime() {
        CallForks forks = Exam.loaded("exchange;party 0 0 0;party 0 0 0;party 98 0 0;ring 99;");
        Exam.passTo(forks, 9999);
        forks.dial(0, 2);
        forks.dial(1, 4);
        Exam.same("no answer", forks.settlesIn(0), 99);
        Exam.same("nobody", forks.answeredBy(0), -1);
        Exam.same("an answer", forks.settlesIn(1), 98);
        Exam.same("by its leg", forks.answeredBy(1), 1);
        Exam.same("the time stays", forks.time(), 9999);
        Exam.argument("and does not pass", () -> forks.pass(1));
    }

    private static void noneRings() {
        CallForks forks = Exam.loaded("exchange;party 0 0 0;party 2 0 0;party 99 0 0;ring 1;");
        forks.dial(0, 2);
        Exam.same("the least ring time", forks.settlesIn(0), 1);
        forks.pass(1);
        Exam.same("failed", forks.settlesIn(0), 0);
        forks.setParty(1, 0, 1);
        forks.dial(0, 2);
        forks.pass(1);
        Exam.same("talking", forks.settlesIn(1), 0);
        forks.dial(2, 1);
        Exam.same("failed at once", forks.settlesIn(2), 0);
        forks.transfer(0, 2);
        Exam.same("held", forks.settlesIn(1), 0);
        Exam.same("the new call", forks.settlesIn(3), 1);
        CallForks longest = Exam.loaded("exchange;party 0 0 0;party 99 0 0;party 98 0 0;ring 99;");
        longest.dial(0, 2 + 4);
        longest.pass(1);
        Exam.same("until its answer", longest.settlesIn(0), 97);
        longest.setParty(2, 0, 0);
        Exam.same("until its latest answer", longest.settlesIn(0), 98);
        longest.setParty(1, 0, 0);
        Exam.same("until its ring time", longest.settlesIn(0), 98);
    }

    private static void whoAnswers() {
        CallForks forks = Exam.loaded("exchange;party 0 0 0;party 9 0 0;party 4 0 0;party 6 0 0;party 0 0 0;ring 12;");
        forks.dial(0, 2 + 8);
        Exam.same("the one that answers first", forks.answeredBy(0), 1);
        forks.dial(4, 8);
        Exam.same("none, as its callee talks", forks.answeredBy(1), -1);
        forks.dial(2, 2);
        Exam.same("its only leg", forks.answeredBy(2), 3);
        forks.setParty(1, 0, 12);
        Exam.same("at the ring time", forks.answeredBy(2), 3);
        forks.setParty(1, 0, 13);
        Exam.same("later than the ring time", forks.answeredBy(2), -1);
        forks.pass(6);
        Exam.same("the one that has answered", forks.answeredBy(0), 1);
        forks.hangUp(0);
        Exam.same("the one that had answered", forks.answeredBy(0), 1);
        Exam.same("none of a call that has failed", forks.answeredBy(1), -1);
        forks.hangUp(2);
        Exam.same("none of a call that was given up", forks.answeredBy(2), -1);
    }

    private static void checksumWraps() {
        CallForks forks = Exam.loaded("exchange;" + "party 1 99 999;".repeat(10));
        forks.pass(200);
        for (int caller = 0; caller < 9; caller++) {
            forks.dial(caller, 512);
        }
        forks.pass(1);
        forks.offer(0, 1);
        forks.offer(9, 2);
        List<Integer> numbers = new ArrayList<>();
        numbers.add(forks.time());
        for (int k = 0; k < 60; k++) {
            numbers.add(forks.party(k / 6, k % 6));
        }
        for (int k = 0; k < 54; k++) {
            numbers.add(forks.call(k / 6, k % 6));
        }
        for (int k = 0; k < 72; k++) {
            numbers.add(k % 8 < 6 ? forks.leg(k / 8, k % 8) : forks.repetition(k / 8, k % 8 - 6));
        }
        for (int what = 0; what < 7; what++) {
            numbers.add(forks.total(what));
        }
        BigInteger sum = BigInteger.ZERO;
        for (int number : numbers) {
            sum = sum.multiply(BigInteger.valueOf(31)).add(BigInteger.valueOf(number));
        }
        Exam.same("more than a long holds", sum.bitLength() > 900 ? 1 : 0, 1);
        Exam.same("checksum", forks.checksum(), sum.longValue());
    }

    private static void checksumStarts() {
        CallForks forks = new CallForks();
        Exam.same("all numbers are 0", forks.checksum(), 0);
        forks.pass(2);
        Exam.same("the time and seven totals", forks.checksum(), 2L * 27512614111L);
    }
}
