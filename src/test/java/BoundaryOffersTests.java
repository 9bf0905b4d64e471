/**
 * The sentences of the document's "Terms" that name a boundary case, in "Offers" and "A second": a test
 * for each one, under the words of the sentence.
 */
public final class BoundaryOffersTests {
    /** Nobody replies: parties 0 and 1, which talk, and party 2. */
    private static final String MUTE = "party 0 0 999;party 1 0 999;party 0 0 0;";
    /** Each of both replies after 2 seconds and accepts 50 at most. */
    private static final String KEEN = "party 0 2 50;party 1 2 50;party 0 0 0;";

    public static void main(String[] args) {
        offers();
        glares();
        repetitions();
        replies();
        answers();
        ringTimes();
        Exam.finish();
    }

    private static void offers() {
        Exam.sentence("A talking leg has a setting (0 when it is answered) and a version (0)",
                BoundaryOffersTests::settingWhenAnswered);
        Exam.sentence("both stay as they are when it is held, talks again, or ends", BoundaryOffersTests::settingStays);
        Exam.sentence("At most one offer is pending on it, by one of its two sides (0 the caller, 1 the callee), "
                + "with a value (0 to 999) and the time since which it is pending.", BoundaryOffersTests::oneOffer);
        Exam.sentence("if an offer of its own side is pending, this is refused", BoundaryOffersTests::ownSide);
        Exam.sentence("Otherwise the offer is pending.", BoundaryOffersTests::otherwisePending);
    }

    private static void glares() {
        Exam.sentence("If an offer of the other side is pending, there is glare: no offer is pending any more",
                BoundaryOffersTests::glare);
        Exam.sentence("both are to be repeated, that of the caller's side after w seconds, "
                + "that of the callee's side after v seconds", BoundaryOffersTests::bothRepeated);
        Exam.sentence("(w and v are 1 to 99;", BoundaryOffersTests::shortestAndLongestWait);
        Exam.sentence("each of them replaces a repetition of the same side)", BoundaryOffersTests::repetitionReplaced);
        Exam.sentence("For each side there may be a repetition, with a value and a time at which it is due.",
                BoundaryOffersTests::perhapsARepetition);
    }

    private static void repetitions() {
        Exam.sentence("When a second passes, the time becomes greater by 1", BoundaryOffersTests::timeOfASecond);
        Exam.sentence("then the following is done in this order, with the time as it is then",
                BoundaryOffersTests::orderOfSteps);
        Exam.sentence("For each talking leg in ascending order, and for its sides 0 and 1 in this order",
                BoundaryOffersTests::bothSidesDue);
        Exam.sentence("if a repetition is due at this time, it goes", BoundaryOffersTests::dueAtThisTime);
        Exam.sentence("and if no offer is pending on the leg, its offer is pending", BoundaryOffersTests::repeated);
        Exam.sentence("otherwise it is lost", BoundaryOffersTests::lost);
    }

    private static void replies() {
        Exam.sentence("For each talking leg in ascending order with a pending offer", BoundaryOffersTests::eachTalkingLeg);
        Exam.sentence("if it is pending since exactly d seconds, where d is the reply delay of the other side's party",
                BoundaryOffersTests::exactReplyDelay);
        Exam.sentence("the reply delay of the other side's party and is not 0", BoundaryOffersTests::noReplyDelay);
        Exam.sentence("if its value is at most the cap of this party, it is accepted", BoundaryOffersTests::atMostTheCap);
        Exam.sentence("the setting becomes the value (perhaps the same), and the version becomes greater by 1",
                BoundaryOffersTests::sameSetting);
        Exam.sentence("otherwise it is rolled back", BoundaryOffersTests::aboveTheCap);
        Exam.sentence("If it is still pending, and since the patience (1 to 99 seconds) or longer, it is rolled back, too.",
                BoundaryOffersTests::patience);
        Exam.sentence("If it is still pending, and since the patience", BoundaryOffersTests::replyAtThePatience);
    }

    private static void answers() {
        Exam.sentence("For each leg that rings, in ascending order", BoundaryOffersTests::ascendingLegs);
        Exam.sentence("(a leg that has ended by this step before its turn is left out)", BoundaryOffersTests::leftOut);
        Exam.sentence("if its call began exactly d seconds ago, where d is the answer delay of its callee",
                BoundaryOffersTests::exactAnswerDelay);
        Exam.sentence("where d is the answer delay of its callee and is not 0", BoundaryOffersTests::noAnswerDelay);
        Exam.sentence("and the callee is not engaged, the callee answers it", BoundaryOffersTests::engagedCallee);
    }

    private static void ringTimes() {
        Exam.sentence("For each call with a ringing leg, in ascending order: if it began as many seconds ago as its ring time "
                + "or more, its ringing legs end (3)", BoundaryOffersTests::ringTimeOver);
        Exam.sentence("and the call has failed", BoundaryOffersTests::failedByTime);
        Exam.sentence("For each call with a ringing leg", BoundaryOffersTests::onlyCallsThatRing);
    }

    private static void settingWhenAnswered() {
        CallForks forks = Exam.talking("party 0 0 0;party 1 1 999;");
        setting(forks, 0, 0);
        forks.offer(0, 7);
        forks.pass(1);
        forks.hangUp(0);
        forks.dial(0, 2);
        forks.pass(1);
        Exam.same("setting of the next leg", forks.leg(1, 4), 0);
        Exam.same("version of the next leg", forks.leg(1, 5), 0);
    }

    private static void settingStays() {
        CallForks forks = Exam.talking("party 0 0 0;party 1 1 999;party 1 0 0;");
        forks.offer(0, 7);
        forks.pass(1);
        setting(forks, 7, 1);
        forks.setParty(2, 0, 0);
        forks.transfer(0, 2);
        Exam.leg(forks, 0, 2, 0);
        setting(forks, 7, 1);
        forks.hangUp(1);
        Exam.leg(forks, 0, 1, 0);
        setting(forks, 7, 1);
        forks.setParty(2, 0, 1);
        forks.transfer(0, 2);
        forks.pass(1);
        Exam.leg(forks, 0, 3, 7);
        setting(forks, 7, 1);
        forks.undo();
        forks.hangUp(1);
        forks.hangUp(1);
        Exam.leg(forks, 0, 3, 6);
        setting(forks, 7, 1);
    }

    private static void oneOffer() {
        CallForks forks = Exam.talking(MUTE);
        Exam.noOffer(forks, 0);
        forks.offer(0, 0);
        Exam.pending(forks, 0, 0, 0, 1);
        forks.pass(4);
        Exam.pending(forks, 0, 0, 0, 1);
        forks.offer(0, 3);
        Exam.pending(forks, 0, 0, 0, 1);
        forks.offer(1, 3);
        Exam.noOffer(forks, 0);
        forks.offer(1, 999);
        Exam.pending(forks, 0, 1, 999, 5);
    }

    private static void ownSide() {
        for (int side = 0; side < 2; side++) {
            CallForks forks = Exam.talking(MUTE);
            int party = side;
            Exam.same("the first", forks.offer(party, 8), 1);
            forks.pass(1);
            Exam.same("the second", forks.offer(party, 9), 0);
            Exam.same("the same again", forks.offer(party, 8), 0);
            Exam.pending(forks, 0, side, 8, 1);
            Exam.repetitions(forks, 0, -1, -1);
            Exam.totals(forks, 0, 0, 0, 0);
        }
    }

    private static void otherwisePending() {
        CallForks forks = Exam.talking(MUTE);
        Exam.same("the callee", forks.offer(1, 8), 1);
        Exam.same("glare", forks.offer(0, 8), -1);
        Exam.same("though both are to be repeated", forks.offer(0, 9), 1);
        Exam.pending(forks, 0, 0, 9, 1);
    }

    private static void glare() {
        for (int side = 0; side < 2; side++) {
            CallForks forks = Exam.talking(MUTE);
            forks.offer(side, 8);
            Exam.same("glare", forks.offer(1 - side, 8), -1);
            Exam.noOffer(forks, 0);
            Exam.totals(forks, 0, 0, 1, 0);
            setting(forks, 0, 0);
            forks.pass(1);
            Exam.noOffer(forks, 0);
        }
    }

    private static void bothRepeated() {
        for (int side = 0; side < 2; side++) {
            CallForks forks = Exam.talking(MUTE + "wait 2 4;patience 1;");
            forks.offer(side, 10 + side);
            forks.offer(1 - side, 11 - side);
            Exam.repetitions(forks, 0, 3, 5);
            forks.pass(2);
            Exam.pending(forks, 0, 0, 10, 3);
            forks.pass(2);
            Exam.pending(forks, 0, 1, 11, 5);
        }
    }

    private static void shortestAndLongestWait() {
        CallForks forks = Exam.talking(MUTE + "wait 1 99;patience 1;");
        forks.offer(0, 5);
        forks.offer(1, 6);
        Exam.repetitions(forks, 0, 2, 100);
        forks.pass(1);
        Exam.pending(forks, 0, 0, 5, 2);
        Exam.repetitions(forks, 0, -1, 100);
        forks.pass(97);
        Exam.noOffer(forks, 0);
        forks.pass(1);
        Exam.pending(forks, 0, 1, 6, 100);
        CallForks other = Exam.talking(MUTE + "wait 99 1;patience 1;");
        other.offer(0, 5);
        other.offer(1, 6);
        Exam.repetitions(other, 0, 100, 2);
    }

    private static void repetitionReplaced() {
        CallForks forks = Exam.talking(MUTE + "wait 4 6;patience 1;");
        forks.offer(0, 1);
        forks.offer(1, 2);
        forks.pass(1);
        forks.offer(1, 4);
        forks.offer(0, 3);
        Exam.repetitions(forks, 0, 6, 8);
        forks.pass(3);
        Exam.noOffer(forks, 0);
        Exam.repetitions(forks, 0, 6, 8);
        forks.pass(1);
        Exam.pending(forks, 0, 0, 3, 6);
        forks.pass(1);
        Exam.noOffer(forks, 0);
        forks.pass(1);
        Exam.pending(forks, 0, 1, 4, 8);
        Exam.totals(forks, 0, 1, 2, 0);
    }

    private static void perhapsARepetition() {
        CallForks forks = Exam.talking(MUTE);
        Exam.repetitions(forks, 0, -1, -1);
        forks.offer(0, 1);
        Exam.repetitions(forks, 0, -1, -1);
        forks.offer(1, 2);
        Exam.repetitions(forks, 0, 4, 6);
        forks.pass(3);
        Exam.repetitions(forks, 0, -1, 6);
        forks.pass(2);
        Exam.repetitions(forks, 0, -1, -1);
    }

    private static void timeOfASecond() {
        CallForks forks = Exam.talking("party 0 0 0;party 1 1 9;");
        forks.offer(0, 5);
        Exam.same("the time before", forks.time(), 1);
        forks.pass(1);
        Exam.same("the time then", forks.time(), 2);
        Exam.totals(forks, 1);
        forks.offer(0, 6);
        forks.pass(3);
        Exam.same("three seconds later", forks.time(), 5);
        setting(forks, 6, 2);
    }

    private static void orderOfSteps() {
        // Step 1 before step 2: the reply comes in the second of the repetition, after it.
        CallForks first = Exam.talking("party 0 1 99;party 1 1 99;wait 1 2;");
        first.offer(0, 5);
        first.offer(1, 6);
        first.pass(1);
        Exam.pending(first, 0, 0, 5, 2);
        first.pass(1);
        Exam.totals(first, 1, 0, 1, 1);
        setting(first, 5, 1);
        // Step 3 before step 4: an answer at the ring time counts, one after it does not.
        CallForks forks = Exam.loaded("exchange;party 0 0 0;party 5 0 0;party 6 0 0;ring 5;");
        forks.dial(0, 2);
        Exam.same("an answer at the ring time", forks.pass(5), 1);
        Exam.leg(forks, 0, 1, 0);
        forks.hangUp(0);
        forks.dial(0, 4);
        Exam.same("an answer after it", forks.pass(6), 0);
        Exam.leg(forks, 1, 3, 3);
        Exam.totals(forks, 0, 0, 0, 0, 1, 1, 0);
    }

    private static void bothSidesDue() {
        for (int side = 0; side < 2; side++) {
            CallForks forks = Exam.talking(MUTE + "wait 4 4;");
            forks.offer(side, 10 + side);
            forks.offer(1 - side, 11 - side);
            Exam.repetitions(forks, 0, 5, 5);
            forks.pass(4);
            Exam.pending(forks, 0, 0, 10, 5);
            Exam.repetitions(forks, 0, -1, -1);
            Exam.totals(forks, 0, 0, 1, 1);
        }
    }

    private static void dueAtThisTime() {
        CallForks forks = Exam.talking(MUTE + "wait 3 3;patience 1;");
        forks.offer(0, 1);
        forks.offer(1, 2);
        forks.pass(2);
        Exam.noOffer(forks, 0);
        Exam.repetitions(forks, 0, 4, 4);
        forks.pass(1);
        Exam.pending(forks, 0, 0, 1, 4);
        Exam.repetitions(forks, 0, -1, -1);
        forks.pass(9);
        Exam.noOffer(forks, 0);
        Exam.totals(forks, 0, 1, 1, 1);
    }

    private static void repeated() {
        CallForks forks = Exam.talking(KEEN + "wait 1 9;");
        forks.offer(1, 20);
        forks.offer(0, 30);
        forks.pass(1);
        Exam.pending(forks, 0, 0, 30, 2);
        forks.pass(1);
        Exam.pending(forks, 0, 0, 30, 2);
        forks.pass(1);
        Exam.noOffer(forks, 0);
        setting(forks, 30, 1);
        forks.pass(6);
        Exam.pending(forks, 0, 1, 20, 10);
        forks.pass(2);
        setting(forks, 20, 2);
        Exam.totals(forks, 2, 0, 1, 0);
    }

    private static void lost() {
        for (int side = 0; side < 2; side++) {
            CallForks forks = Exam.talking(MUTE + "wait 2 50;");
            forks.offer(0, 1);
            forks.offer(1, 2);
            forks.offer(side, 3);
            forks.pass(2);
            Exam.pending(forks, 0, side, 3, 1);
            Exam.repetitions(forks, 0, -1, 51);
            Exam.totals(forks, 0, 0, 1, 1);
        }
    }

    private static void eachTalkingLeg() {
        CallForks forks = Exam.loaded("exchange;party 0 2 50;party 1 2 50;party 0 2 50;party 1 2 50;party 0 0 0;wait 3 9;");
        forks.dial(0, 2);
        forks.dial(2, 8);
        forks.pass(1);
        forks.offer(0, 10);
        forks.offer(3, 20);
        forks.pass(2);
        Exam.totals(forks, 2, 0, 0, 0);
        setting(forks, 10, 1);
        Exam.same("setting of leg 1", forks.leg(1, 4), 20);
        forks.offer(0, 30);
        forks.offer(1, 31);
        forks.offer(2, 40);
        forks.offer(3, 41);
        forks.pass(3);
        Exam.pending(forks, 0, 0, 30, 6);
        Exam.pending(forks, 1, 0, 40, 6);
    }

    private static void exactReplyDelay() {
        CallForks forks = Exam.talking("party 0 4 50;party 1 2 40;");
        forks.offer(0, 1);
        forks.pass(1);
        Exam.pending(forks, 0, 0, 1, 1);
        forks.pass(1);
        Exam.noOffer(forks, 0);
        Exam.totals(forks, 1, 0);
        forks.offer(1, 2);
        forks.pass(3);
        Exam.pending(forks, 0, 1, 2, 3);
        forks.pass(1);
        Exam.totals(forks, 2, 0);
        // A delay that has passed already is never met; a longer one is met later.
        forks.offer(0, 3);
        forks.pass(1);
        forks.setParty(1, 1, 1);
        forks.pass(1);
        Exam.pending(forks, 0, 0, 3, 7);
        forks.setParty(1, 1, 5);
        forks.pass(2);
        Exam.pending(forks, 0, 0, 3, 7);
        forks.pass(1);
        Exam.totals(forks, 3, 0);
    }

    private static void noReplyDelay() {
        CallForks forks = Exam.talking("party 0 9 50;party 1 0 40;patience 99;");
        forks.offer(0, 1);
        forks.pass(98);
        Exam.pending(forks, 0, 0, 1, 1);
        Exam.totals(forks, 0, 0);
        // A repetition is pending since 0 seconds at first.
        CallForks repeated = Exam.talking("party 0 0 50;party 1 0 40;wait 1 9;");
        repeated.offer(0, 1);
        repeated.offer(1, 1);
        repeated.pass(1);
        Exam.pending(repeated, 0, 0, 1, 2);
        Exam.totals(repeated, 0, 0, 1, 0);
    }

    private static void atMostTheCap() {
        CallForks forks = Exam.talking("party 0 1 30;party 1 1 40;");
        forks.offer(0, 40);
        forks.pass(1);
        setting(forks, 40, 1);
        forks.offer(1, 30);
        forks.pass(1);
        setting(forks, 30, 2);
        forks.offer(0, 0);
        forks.pass(1);
        setting(forks, 0, 3);
        forks.offer(0, 8);
        forks.setParty(1, 2, 8);
        forks.pass(1);
        setting(forks, 8, 4);
        Exam.noOffer(forks, 0);
        Exam.totals(forks, 4, 0);
    }

    private static void sameSetting() {
        CallForks forks = Exam.talking("party 0 1 30;party 1 1 40;");
        forks.offer(0, 0);
        forks.pass(1);
        setting(forks, 0, 1);
        forks.offer(1, 20);
        forks.pass(1);
        setting(forks, 20, 2);
        forks.offer(0, 20);
        forks.pass(1);
        setting(forks, 20, 3);
        Exam.totals(forks, 3, 0);
    }

    private static void aboveTheCap() {
        CallForks forks = Exam.talking("party 0 1 30;party 1 1 40;");
        forks.offer(0, 41);
        forks.pass(1);
        Exam.noOffer(forks, 0);
        Exam.totals(forks, 0, 1);
        forks.offer(1, 31);
        forks.pass(1);
        Exam.noOffer(forks, 0);
        Exam.totals(forks, 0, 2);
        setting(forks, 0, 0);
    }

    private static void patience() {
        CallForks forks = Exam.talking(MUTE + "patience 5;");
        forks.offer(0, 3);
        forks.pass(4);
        Exam.pending(forks, 0, 0, 3, 1);
        forks.pass(1);
        Exam.noOffer(forks, 0);
        Exam.totals(forks, 0, 1, 0, 0);
        setting(forks, 0, 0);
        CallForks least = Exam.talking(MUTE + "patience 1;");
        least.offer(1, 3);
        Exam.pending(least, 0, 1, 3, 1);
        least.pass(1);
        Exam.noOffer(least, 0);
        Exam.totals(least, 0, 1);
        CallForks most = Exam.talking(MUTE + "patience 99;");
        most.offer(1, 3);
        most.pass(98);
        Exam.pending(most, 0, 1, 3, 1);
        most.pass(1);
        Exam.noOffer(most, 0);
        Exam.totals(most, 0, 1);
    }

    private static void replyAtThePatience() {
        CallForks forks = Exam.talking("party 0 5 50;party 1 5 50;patience 5;");
        forks.offer(0, 3);
        forks.pass(5);
        Exam.totals(forks, 1, 0);
        forks.offer(1, 51);
        forks.pass(5);
        Exam.totals(forks, 1, 1);
        forks.setParty(1, 1, 6);
        forks.offer(0, 4);
        forks.pass(6);
        Exam.totals(forks, 1, 2);
        setting(forks, 3, 1);
    }

    private static void ascendingLegs() {
        CallForks both = Exam.loaded("exchange;party 0 0 0;party 2 0 0;party 2 0 0;party 0 0 0;");
        both.dial(0, 2 + 4);
        Exam.same("two would answer at once", both.pass(2), 1);
        Exam.leg(both, 0, 1, 0);
        Exam.leg(both, 1, 3, 2);
        Exam.totals(both, 0, 0, 0, 0, 1, 0, 0);
        CallForks calls = Exam.loaded("exchange;party 0 0 0;party 0 0 0;party 0 0 0;party 2 0 0;");
        calls.dial(2, 8);
        calls.dial(0, 8);
        calls.dial(1, 8);
        Exam.same("three calls to one", calls.pass(2), 1);
        Exam.leg(calls, 0, 1, 0);
        // When leg 0 is answered, the call of party 2 fails: party 2 is free at the turn of leg 1.
        CallForks freed = Exam.loaded("exchange;party 0 0 0;party 0 0 0;party 2 0 0;party 2 0 0;");
        freed.dial(0, 8);
        freed.dial(1, 4);
        freed.dial(2, 8);
        Exam.same("freed before its turn", freed.pass(2), 2);
        CallForks early = Exam.loaded("exchange;party 0 0 0;party 0 0 0;party 2 0 0;party 2 0 0;");
        early.dial(1, 4);
        early.dial(0, 8);
        early.dial(2, 8);
        Exam.same("freed after its turn", early.pass(2), 1);
        Exam.leg(early, 0, 0, 0);
    }

    private static void leftOut() {
        CallForks forks = Exam.loaded("exchange;party 0 0 0;party 2 0 0;party 2 0 0;party 0 0 0;");
        forks.dial(0, 2 + 4);
        forks.dial(3, 2 + 4);
        forks.pass(2);
        // Leg 0 is answered: leg 1 is left out as it ends (2), leg 2 as it ends (1), but leg 3 has its turn.
        Exam.leg(forks, 0, 1, 0);
        Exam.leg(forks, 1, 3, 2);
        Exam.leg(forks, 2, 3, 1);
        Exam.leg(forks, 3, 1, 0);
        Exam.totals(forks, 0, 0, 0, 0, 2, 0, 0);
    }

    private static void exactAnswerDelay() {
        CallForks forks = Exam.loaded("exchange;party 0 0 0;party 3 0 0;party 0 0 0;");
        forks.pass(5);
        forks.dial(0, 2);
        Exam.same("before", forks.pass(2), 0);
        Exam.same("exactly", forks.pass(1), 1);
        forks.hangUp(0);
        // A delay that has passed already is never met; a longer one is met later.
        forks.dial(0, 2);
        forks.pass(2);
        forks.setParty(1, 0, 1);
        forks.pass(2);
        Exam.leg(forks, 1, 0, 0);
        forks.setParty(1, 0, 6);
        Exam.same("not yet", forks.pass(1), 0);
        Exam.same("later", forks.pass(1), 1);
        Exam.leg(forks, 1, 1, 0);
    }

    private static void noAnswerDelay() {
        CallForks forks = Exam.silent(2, "ring 99;");
        forks.dial(0, 2);
        Exam.same("never", forks.pass(98), 0);
        Exam.leg(forks, 0, 0, 0);
        forks.setParty(1, 0, 99);
        Exam.same("but for its new delay", forks.pass(1), 1);
    }

    private static void engagedCallee() {
        CallForks forks = Exam.loaded("exchange;party 0 0 0;party 3 0 0;party 0 0 0;");
        forks.dial(0, 2);
        forks.dial(1, 4);
        Exam.same("the callee is engaged", forks.pass(3), 0);
        Exam.leg(forks, 0, 0, 0);
        forks.hangUp(1);
        Exam.same("free later than its delay", forks.pass(1), 0);
        Exam.leg(forks, 0, 0, 0);
        CallForks freed = Exam.loaded("exchange;party 0 0 0;party 3 0 0;party 0 0 0;");
        freed.dial(0, 2);
        freed.dial(1, 4);
        freed.pass(2);
        freed.hangUp(1);
        Exam.same("free by its delay", freed.pass(1), 1);
        Exam.leg(freed, 0, 1, 0);
        CallForks talking = Exam.loaded("exchange;party 0 0 0;party 3 0 0;party 1 0 0;");
        talking.dial(0, 2);
        talking.dial(1, 4);
        Exam.same("the callee talks on its own call", talking.pass(3), 1);
        Exam.leg(talking, 0, 0, 0);
        Exam.leg(talking, 1, 1, 0);
    }

    private static void ringTimeOver() {
        CallForks forks = Exam.silent(6, "ring 5+caller;");
        forks.pass(3);
        forks.dial(0, 4 + 8);
        forks.dial(1, 4);
        forks.hangUp(3);
        forks.pass(4);
        Exam.leg(forks, 0, 0, 0);
        forks.pass(1);
        Exam.leg(forks, 0, 3, 3);
        Exam.leg(forks, 1, 3, 5);
        Exam.leg(forks, 2, 0, 0);
        forks.pass(1);
        Exam.leg(forks, 2, 3, 3);
        forks.dial(0, 16 + 32);
        forks.pass(5);
        Exam.leg(forks, 3, 3, 3);
        Exam.leg(forks, 4, 3, 3);
    }

    private static void failedByTime() {
        CallForks forks = Exam.silent(4, "ring 5;");
        forks.dial(0, 4 + 8);
        forks.dial(1, 4);
        forks.pass(4);
        Exam.same("before", forks.total(5), 0);
        forks.pass(1);
        Exam.same("a call with two legs and one with one", forks.total(5), 2);
        Exam.same("no leg was answered", forks.call(0, 5), -1);
        Exam.same("no leg rings", forks.call(0, 4), 0);
        Exam.same("the caller is free", forks.party(0, 3), 0);
    }

    private static void onlyCallsThatRing() {
        CallForks forks = Exam.talking("party 0 0 0;party 1 0 0;party 0 0 0;party 0 0 0;ring 5;");
        forks.dial(2, 8);
        forks.hangUp(2);
        forks.dial(2, 8);
        forks.hangUp(3);
        Exam.same("refused", forks.total(5), 1);
        Exam.same("the talking leg goes on", forks.pass(20), 1);
        Exam.same("none fails any more", forks.total(5), 1);
        Exam.leg(forks, 0, 1, 0);
        Exam.leg(forks, 1, 3, 4);
        Exam.leg(forks, 2, 3, 5);
    }

    private static void setting(CallForks forks, int setting, int version) {
        Exam.same("setting at " + forks.time(), forks.leg(0, 4), setting);
        Exam.same("version at " + forks.time(), forks.leg(0, 5), version);
    }
}
