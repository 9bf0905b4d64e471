/**
 * The sentences of the document's "Setup text" that name a boundary case: a test for each one, under the
 * words of the sentence.
 */
public final class BoundaryTextTests {
    private static final int SYNTAX = CallForks.SYNTAX_ERROR;
    private static final int RANGE = CallForks.OUT_OF_RANGE;
    private static final int MANY = CallForks.TOO_MANY;
    private static final int DEEP = CallForks.TOO_DEEP;
    /** Ten parties; its length is 129. */
    private static final String TEN = "exchange;" + "party 1 1 1;".repeat(10);

    public static void main(String[] args) {
        grammar();
        tokens();
        numbers();
        errors();
        errorKinds();
        Exam.finish();
    }

    private static void grammar() {
        Exam.sentence("The setup text is read from an input buffer of at most 600 bytes.", BoundaryTextTests::longestText);
        Exam.sentence("setup = \"exchange\" \";\" { statement \";\" }", BoundaryTextTests::setup);
        Exam.sentence("statement = \"party\" number number number | \"wait\" number number | \"patience\" number | \"ring\" sum",
                BoundaryTextTests::statement);
        Exam.sentence("sum = term { ( \"+\" | \"-\" ) term }", BoundaryTextTests::sum);
        Exam.sentence("term = factor { ( \"*\" | \"/\" ) factor }", BoundaryTextTests::term);
        Exam.sentence("factor = number | \"legs\" | \"caller\" | \"referred\" | \"time\" | \"(\" sum \")\"",
                BoundaryTextTests::factor);
    }

    private static void tokens() {
        Exam.sentence("A number is a run of decimal digits, of any length (leading zeros do not matter)",
                BoundaryTextTests::number);
        Exam.sentence("a word is a run of the letters a to z", BoundaryTextTests::word);
        Exam.sentence("Each run is as long as possible.", BoundaryTextTests::longestRun);
        Exam.sentence("Spaces (byte 32) may precede any token and may follow the last one", BoundaryTextTests::spaces);
        Exam.sentence("a word and a number side by side need none between them", BoundaryTextTests::sideBySide);
        Exam.sentence("No other byte separates tokens.", BoundaryTextTests::otherBytes);
    }

    private static void numbers() {
        Exam.sentence("The numbers of party are its answer delay, its reply delay and its cap", BoundaryTextTests::ofParty);
        Exam.sentence("those of wait are w and v (3 and 5 without it)", BoundaryTextTests::ofWait);
        Exam.sentence("that of patience is the patience (20 without it)", BoundaryTextTests::ofPatience);
        Exam.sentence("A number as a factor is 0 to 9999.", BoundaryTextTests::ofFactor);
        Exam.sentence("Parentheses nest at most 4 deep.", BoundaryTextTests::parentheses);
        Exam.sentence("The statements wait, patience and ring may each occur once.", BoundaryTextTests::eachOnce);
    }

    private static void errors() {
        Exam.sentence("The first error in the text is the one with the smallest offset.", BoundaryTextTests::smallestOffset);
        Exam.sentence("If several kinds of error have the same offset, the first one in this list counts",
                BoundaryTextTests::sameOffset);
    }

    private static void errorKinds() {
        Exam.sentence("SYNTAX_ERROR: a token or byte that the grammar does not allow here, at its first byte",
                BoundaryTextTests::notAllowedHere);
        Exam.sentence("the end of the text, at its length, if the text ends too early", BoundaryTextTests::endsTooEarly);
        Exam.sentence("a second wait, patience or ring, at its first letter", BoundaryTextTests::secondStatement);
        Exam.sentence("OUT_OF_RANGE: a number outside its range, at its first digit.", BoundaryTextTests::outOfRange);
        Exam.sentence("TOO_MANY: an 11th party, at the first letter of its statement.", BoundaryTextTests::tooMany);
        Exam.sentence("TOO_DEEP: an opening parenthesis inside 4 others, at that parenthesis.", BoundaryTextTests::tooDeep);
    }

    private static void longestText() {
        String most = "exchange;" + "party 1 2 3;".repeat(9) + "ring 1" + "+1".repeat(238) + ";";
        Exam.same("length", most.length(), 600);
        CallForks forks = new CallForks();
        Exam.same("a text of 600 bytes", Exam.load(forks, most), 9);
        forks.dial(0, 2);
        Exam.same("its sum is read to its end", forks.call(0, 2), 99);
        Exam.same("with an error at its end", Exam.load(forks, most.substring(0, 599) + "+"), SYNTAX);
        Exam.same("after the last byte", forks.errorOffset(), 600);
        Exam.same("with an error in its last byte", Exam.load(forks, most.substring(0, 599) + "("), SYNTAX);
        Exam.same("at the last byte", forks.errorOffset(), 599);
        Exam.same("a long sum inside 4 others", Exam.load(forks, "exchange;party1 1 1;party1 1 1;ring 1+1*(1+1*(1+1*(1+1*(1"
                + "+1".repeat(250) + "))))/3;"), 2);
        forks.dial(0, 2);
        Exam.same("its value", forks.call(0, 2), 85);
    }

    private static void setup() {
        Exam.reads("exchange;", 0);
        Exam.reads("exchange;party 1 1 1;", 1);
        Exam.reads("exchange;ring 1;party 1 1 1;wait 1 1;party 1 1 1;patience 1;", 2);
        Exam.fails("exchange", SYNTAX, 8);
        Exam.fails(";", SYNTAX, 0);
        Exam.fails("party 1 1 1;", SYNTAX, 0);
        Exam.fails("exchange party 1 1 1;", SYNTAX, 9);
        Exam.fails("exchange;;", SYNTAX, 9);
        Exam.fails("exchange;exchange;", SYNTAX, 9);
        Exam.fails("exchange;party 1 1 1", SYNTAX, 20);
        Exam.fails("exchange;party 1 1 1;;", SYNTAX, 21);
        Exam.fails("exchange;party 1 1 1 wait 1 1;", SYNTAX, 21);
        Exam.fails("exchange;ring 1 party 1 1 1;", SYNTAX, 16);
    }

    private static void statement() {
        Exam.fails("exchange;party;", SYNTAX, 14);
        Exam.fails("exchange;party 1;", SYNTAX, 16);
        Exam.fails("exchange;party 1 1;", SYNTAX, 18);
        Exam.fails("exchange;party 1 1 1 1;", SYNTAX, 21);
        Exam.fails("exchange;party legs 1 1;", SYNTAX, 15);
        Exam.fails("exchange;party 1 (1) 1;", SYNTAX, 17);
        Exam.fails("exchange;party 1 1 +1;", SYNTAX, 19);
        Exam.fails("exchange;wait;", SYNTAX, 13);
        Exam.fails("exchange;wait 1;", SYNTAX, 15);
        Exam.fails("exchange;wait 1 1 1;", SYNTAX, 18);
        Exam.fails("exchange;wait time 1;", SYNTAX, 14);
        Exam.fails("exchange;wait 1 time;", SYNTAX, 16);
        Exam.fails("exchange;patience;", SYNTAX, 17);
        Exam.fails("exchange;patience 1 1;", SYNTAX, 20);
        Exam.fails("exchange;patience caller;", SYNTAX, 18);
        Exam.fails("exchange;ring;", SYNTAX, 13);
        Exam.fails("exchange;7;", SYNTAX, 9);
        Exam.fails("exchange;legs;", SYNTAX, 9);
        Exam.fails("exchange;(1);", SYNTAX, 9);
    }

    private static void sum() {
        Exam.rings("5", 5);
        Exam.rings("5+4", 9);
        Exam.rings("5-4", 1);
        Exam.rings("5+4-3+2", 8);
        Exam.rings("2+3*4-1", 13);
        Exam.fails("exchange;ring +1;", SYNTAX, 14);
        Exam.fails("exchange;ring -1;", SYNTAX, 14);
        Exam.fails("exchange;ring 1+;", SYNTAX, 16);
        Exam.fails("exchange;ring 1--1;", SYNTAX, 16);
        Exam.fails("exchange;ring 1 1;", SYNTAX, 16);
    }

    private static void term() {
        Exam.rings("7*3", 21);
        Exam.rings("7/3", 2);
        Exam.rings("7*3/2*2", 20);
        Exam.fails("exchange;ring *1;", SYNTAX, 14);
        Exam.fails("exchange;ring 1*;", SYNTAX, 16);
        Exam.fails("exchange;ring 1/", SYNTAX, 16);
        Exam.fails("exchange;ring 1/*1;", SYNTAX, 16);
        Exam.fails("exchange;ring 1+*1;", SYNTAX, 16);
    }

    private static void factor() {
        Exam.rings("17", 17);
        Exam.rings("legs", 2);
        Exam.rings("caller", 3);
        Exam.rings("referred+4", 4);
        Exam.rings("time", 7);
        Exam.rings("(8)", 8);
        Exam.rings("(8+1)*2", 18);
        Exam.rings("2*(8+1)", 18);
        Exam.fails("exchange;ring ();", SYNTAX, 15);
        Exam.fails("exchange;ring (1;", SYNTAX, 16);
        Exam.fails("exchange;ring (1", SYNTAX, 16);
        Exam.fails("exchange;ring 1);", SYNTAX, 15);
        Exam.fails("exchange;ring )1;", SYNTAX, 14);
        Exam.fails("exchange;ring 1(2);", SYNTAX, 15);
        Exam.fails("exchange;ring (1)2;", SYNTAX, 17);
        Exam.fails("exchange;ring (1 2);", SYNTAX, 17);
        Exam.fails("exchange;ring legs caller;", SYNTAX, 19);
        Exam.fails("exchange;ring wait;", SYNTAX, 14);
        Exam.fails("exchange;ring exchange;", SYNTAX, 14);
        Exam.fails("exchange;ring leg;", SYNTAX, 14);
        Exam.fails("exchange;ring timer;", SYNTAX, 14);
    }

    private static void number() {
        CallForks forks = Exam.loaded("exchange;party 0 " + "0".repeat(540) + "12 0034;");
        Exam.same("0", forks.party(0, 0), 0);
        Exam.same("12 behind 540 zeros", forks.party(0, 1), 12);
        Exam.same("34 behind 2 zeros", forks.party(0, 2), 34);
        CallForks digits = Exam.loaded("exchange;party 90 81 723;party 64 59 1;");
        Exam.same("all digits", digits.party(0, 0) + digits.party(0, 1) + digits.party(0, 2), 894);
        Exam.same("all digits again", digits.party(1, 0) + digits.party(1, 1) + digits.party(1, 2), 124);
        Exam.reads("exchange;ring " + "0".repeat(585) + ";", 0);
        Exam.fails("exchange;party " + "9".repeat(500) + " 1 1;", RANGE, 15);
        Exam.fails("exchange;party 4294967297 1 1;", RANGE, 15);
        Exam.fails("exchange;party 18446744073709551617 1 1;", RANGE, 15);
        Exam.fails("exchange;ring 2147483648;", RANGE, 14);
        Exam.fails("exchange;party 0x1 1 1;", SYNTAX, 16);
        Exam.fails("exchange;party /1 1 1;", SYNTAX, 15);
        Exam.fails("exchange;party : 1 1;", SYNTAX, 15);
    }

    private static void word() {
        Exam.fails("Exchange;", SYNTAX, 0);
        Exam.fails("exchangE;", SYNTAX, 0);
        Exam.fails("EXCHANGE;", SYNTAX, 0);
        Exam.fails("exchange`;", SYNTAX, 8);
        Exam.fails("exchange{", SYNTAX, 8);
        Exam.fails("exchange_;", SYNTAX, 8);
        Exam.fails("aaexchange;", SYNTAX, 0);
        Exam.fails("axchange;", SYNTAX, 0);
        Exam.fails("exchangd;", SYNTAX, 0);
        Exam.fails("exchange;barty 1 1 1;", SYNTAX, 9);
        Exam.fails("exchange;ring tine;", SYNTAX, 14);
        Exam.fails("exchangez;", SYNTAX, 0);
        Exam.fails("exchange;ring legsa;", SYNTAX, 14);
        Exam.fails("exchange;ring zlegs;", SYNTAX, 14);
        Exam.fails("exchange;ring legs`;", SYNTAX, 18);
        Exam.fails("exchange;ring legs{;", SYNTAX, 18);
    }

    private static void longestRun() {
        CallForks forks = Exam.loaded("exchange;party 12 3 456;");
        Exam.same("two digits", forks.party(0, 0), 12);
        Exam.same("three digits", forks.party(0, 2), 456);
        Exam.fails("exchange;party 123;", RANGE, 15);
        Exam.fails("exchange;party 11 1;", SYNTAX, 19);
        Exam.fails("exchangeexchange;", SYNTAX, 0);
        Exam.fails("exchange;ringlegs;", SYNTAX, 9);
        Exam.fails("exchange;patiencewait;", SYNTAX, 9);
        Exam.fails("exchange;ring legscaller;", SYNTAX, 14);
    }

    private static void spaces() {
        Exam.reads("   exchange;", 0);
        Exam.reads("exchange   ;", 0);
        Exam.reads("exchange;   ", 0);
        CallForks forks = Exam.loaded("  exchange  ;  party  1  2  3  ;  party  1  0  0  ;  wait  4  5  ;  patience  6  ;  ");
        Exam.same("cap", forks.party(0, 2), 3);
        Exam.same("w", forks.count(5), 4);
        Exam.same("patience", forks.count(7), 6);
        Exam.rings("  (  2  +  3  )  *  legs  -  8  /  4  ", 8);
        Exam.fails("exch ange;", SYNTAX, 0);
        Exam.fails("exchange;par ty 1 1 1;", SYNTAX, 9);
        Exam.fails("exchange;wait 1 2 3;", SYNTAX, 18);
    }

    private static void sideBySide() {
        CallForks forks = Exam.loaded("exchange;party1 2 3;party0 0 0;wait4 5;patience6;ring7*legs+caller*1;");
        Exam.same("answer delay", forks.party(0, 0), 1);
        Exam.same("w", forks.count(5), 4);
        Exam.same("patience", forks.count(7), 6);
        forks.dial(1, 1);
        Exam.same("ring time", forks.call(0, 2), 8);
        Exam.fails("exchange;party1 1 1party1 1 1;", SYNTAX, 19);
        Exam.fails("exchange;ring2legs;", SYNTAX, 14);
        Exam.fails("exchange;ring legs2;", SYNTAX, 18);
        Exam.fails("exchange1;", SYNTAX, 8);
        Exam.fails("1exchange;", SYNTAX, 0);
    }

    private static void otherBytes() {
        char[] others = {0, 1, '\t', '\n', 11, '\f', '\r', 31, '!', ',', '.', '_', 127, 128, 133, 160, 255};
        for (char other : others) {
            Exam.fails(other + "exchange;", SYNTAX, 0);
            Exam.fails("exchange" + other + ";", SYNTAX, 8);
            Exam.fails("exchange;" + other, SYNTAX, 9);
            Exam.fails("exchange;party 1" + other + "1 1;", SYNTAX, 16);
            Exam.fails("exchange;wait 1 1 " + other + ";", SYNTAX, 18);
            Exam.fails("exchange;ring 1" + other + "+1;", SYNTAX, 15);
            Exam.fails("exchange;ring 1 " + other, SYNTAX, 16);
        }
    }

    private static void ofParty() {
        CallForks forks = Exam.loaded("exchange;party 0 0 0;party 99 99 999;party 1 2 3;");
        int[] numbers = {0, 0, 0, 99, 99, 999, 1, 2, 3};
        for (int k = 0; k < numbers.length; k++) {
            Exam.same("party " + k / 3 + " " + k % 3, forks.party(k / 3, k % 3), numbers[k]);
        }
    }

    private static void ofWait() {
        waits("exchange;", 3, 5);
        waits("exchange;wait 1 99;", 1, 99);
        waits("exchange;wait 99 1;", 99, 1);
        waits("exchange;patience 7;ring 8;", 3, 5);
        CallForks again = Exam.loaded("exchange;wait 7 8;");
        Exam.load(again, "exchange;");
        Exam.same("w without it after a load with it", again.count(5), 3);
        Exam.same("v without it after a load with it", again.count(6), 5);
    }

    private static void waits(String text, int w, int v) {
        CallForks forks = Exam.loaded(text);
        Exam.same("w of " + text, forks.count(5), w);
        Exam.same("v of " + text, forks.count(6), v);
    }

    private static void ofPatience() {
        Exam.same("without it", Exam.loaded("exchange;wait 7 8;").count(7), 20);
        Exam.same("the least one", Exam.loaded("exchange;patience 1;").count(7), 1);
        CallForks forks = Exam.loaded("exchange;patience 99;");
        Exam.same("the greatest one", forks.count(7), 99);
        Exam.load(forks, "exchange;");
        Exam.same("without it after a load with it", forks.count(7), 20);
    }

    private static void ofFactor() {
        Exam.rings("0+5", 5);
        Exam.rings("9999/101", 99);
        Exam.rings("9999-9990", 9);
        Exam.rings("9998-9990", 8);
        Exam.fails("exchange;ring 10000;", RANGE, 14);
        Exam.fails("exchange;ring 1+10000;", RANGE, 16);
        Exam.fails("exchange;ring 1*(2-0010000);", RANGE, 19);
    }

    private static void parentheses() {
        Exam.rings("(5)", 5);
        Exam.rings("((((5))))", 5);
        Exam.rings("((((1))))+((((2))))*((((3))))", 7);
        Exam.rings("1+(2*(3+(4*(5+1))))", 55);
        Exam.rings("1+1*(1+1*(1+1*(1+1*(1+2*3))))", 11);
        Exam.rings("190-2*(4+5*(6-7*(8-9*(2-3/2))))", 52);
        Exam.rings("(((1)+(1))+((1)+(1)))", 4);
        Exam.fails("exchange;ring (((((5)))));", DEEP, 18);
        Exam.fails("exchange;ring 1+(2*(3+(4*(5+(1)))));", DEEP, 28);
        Exam.fails("exchange;ring ((((1))))+((((2+(1)))));", DEEP, 30);
    }

    private static void eachOnce() {
        Exam.reads("exchange;wait 1 1;patience 1;ring 1;", 0);
        Exam.reads("exchange;ring 1;patience 1;wait 1 1;", 0);
        Exam.fails("exchange;wait 1 1;wait 1 1;", SYNTAX, 18);
        Exam.fails("exchange;patience 1;patience 1;", SYNTAX, 20);
        Exam.fails("exchange;ring 1;ring 1;", SYNTAX, 16);
        CallForks forks = Exam.loaded("exchange;wait 1 1;patience 1;ring 1;");
        Exam.same("and once in each text", Exam.load(forks, "exchange;wait 1 1;patience 1;ring 1;"), 0);
        Exam.same("an error", Exam.load(forks, "exchange;wait 1 1;patience 1;ring 1;x"), SYNTAX);
        Exam.same("and once after an error", Exam.load(forks, "exchange;wait 1 1;patience 1;ring 1;"), 0);
    }

    private static void smallestOffset() {
        Exam.fails("exchange;party 100 1 1000;wait 0 0;ring (((((;", RANGE, 15);
        Exam.fails("exchange;ring (((((1)))));party 100 1 1;", DEEP, 18);
        Exam.fails("exchange;ring 1+;party 100 1 1;", SYNTAX, 16);
        Exam.fails("exchange;ring 1 10000;", SYNTAX, 16);
        Exam.fails("exchange;ring 10000 1;", RANGE, 14);
        Exam.fails("exchange;party 1 1 1000", RANGE, 19);
        Exam.fails("exchange;party 100 1 x;", RANGE, 15);
        Exam.fails("exchange;party x 100 1;", SYNTAX, 15);
        Exam.fails(TEN + "party 100 1 1;", MANY, 129);
        Exam.fails(TEN + "wait 0 1;party 1 1 1;", RANGE, 134);
        Exam.fails(TEN + "party 1 1 1;party 1 1 1;wait 0 0;", MANY, 129);
        Exam.fails("exchange;ring ((((1+10000+(", RANGE, 20);
        Exam.fails("exchange;ring ((((1+(10000", DEEP, 20);
    }

    private static void sameOffset() {
        // A number out of range, a party too many and a parenthesis too deep, where the grammar allows none.
        Exam.fails("exchange;10000;", SYNTAX, 9);
        Exam.fails("exchange;party 1 1 1 1000;", SYNTAX, 21);
        Exam.fails("exchange;wait 1 1 0;", SYNTAX, 18);
        Exam.fails("exchange;patience 1 100;", SYNTAX, 20);
        Exam.fails("exchange;ring 1 10000;", SYNTAX, 16);
        Exam.fails("exchange;" + "party 1 1 1;".repeat(9) + "party 1 1 1 party 1 1 1;", SYNTAX, 129);
        Exam.fails(TEN + "ring party 1 1 1;", SYNTAX, 134);
        Exam.fails("exchange;ring ((((1(1))));", SYNTAX, 19);
        Exam.fails("exchange;ring ((((legs(1))));", SYNTAX, 22);
    }

    private static void notAllowedHere() {
        Exam.fails("7", SYNTAX, 0);
        Exam.fails("x", SYNTAX, 0);
        Exam.fails("  exchangex;", SYNTAX, 2);
        Exam.fails("exchange;  parties 1 1 1;", SYNTAX, 11);
        Exam.fails("exchange;party 1 1 1;  foo", SYNTAX, 23);
        Exam.fails("exchange;party 1 1 1;  123", SYNTAX, 23);
        Exam.fails("exchange;party 1 1 1;  $", SYNTAX, 23);
        Exam.fails("exchange;party 1   patience 1;", SYNTAX, 19);
        Exam.fails("exchange;ring legs  patience 1;", SYNTAX, 20);
        Exam.fails("exchange;ring 1;" + (char) 255, SYNTAX, 16);
        Exam.fails("exchange;wait -1 1;", SYNTAX, 14);
        Exam.fails("exchange;patience 1.0;", SYNTAX, 19);
    }

    private static void endsTooEarly() {
        String[] texts = {"", " ", "    ", "exchange", "exchange  ", "exchange;party", "exchange;party ", "exchange;party 1",
            "exchange;party 1 1", "exchange;party 1 1 1", "exchange;party 1 1 1  ", "exchange;wait", "exchange;wait 1 ",
            "exchange;wait 1 1", "exchange;patience", "exchange;patience 1", "exchange;ring", "exchange;ring  ",
            "exchange;ring 1", "exchange;ring 1+", "exchange;ring 1 * ", "exchange;ring (", "exchange;ring ((1)",
            "exchange;ring ((1)+2) ", "exchange;ring ((((", "exchange;party 1 1 1;party 2 2 2"};
        for (String text : texts) {
            Exam.fails(text, SYNTAX, text.length());
        }
        // The text ends with the length that is read, not with what stands behind it in the buffer.
        CallForks forks = new CallForks();
        Exam.append(forks, "exchange;party 12 1 1;");
        Exam.same("cut off", forks.load(17), SYNTAX);
        Exam.same("at its length", forks.errorOffset(), 17);
        Exam.append(forks, "exchange;party 12 1 1;");
        Exam.same("cut off in a word", forks.load(5), SYNTAX);
        Exam.same("this word is another one", forks.errorOffset(), 0);
    }

    private static void secondStatement() {
        Exam.fails("exchange;wait 1 1;  wait 100 100;", SYNTAX, 20);
        Exam.fails("exchange;wait 1 1;wait", SYNTAX, 18);
        Exam.fails("exchange;patience 1; patience", SYNTAX, 21);
        Exam.fails("exchange;ring 1;party 1 1 1;ring", SYNTAX, 28);
        Exam.fails("exchange;ring 1;wait 1 1;patience 1;   ring 1;", SYNTAX, 39);
        Exam.fails("exchange;ring 1;wait 1 1;patience 1;patience 1;", SYNTAX, 36);
        Exam.fails("exchange;ring 1;wait 1 1;patience 1;wait 1 1;", SYNTAX, 36);
    }

    private static void outOfRange() {
        Exam.fails("exchange;party 100 1 1;", RANGE, 15);
        Exam.fails("exchange;party 1 100 1;", RANGE, 17);
        Exam.fails("exchange;party 1 1 1000;", RANGE, 19);
        Exam.fails("exchange;party 1 1   0001000;", RANGE, 21);
        Exam.fails("exchange;party100 1 1;", RANGE, 14);
        Exam.fails("exchange;wait 0 1;", RANGE, 14);
        Exam.fails("exchange;wait 100 1;", RANGE, 14);
        Exam.fails("exchange;wait 1 0;", RANGE, 16);
        Exam.fails("exchange;wait 1 000;", RANGE, 16);
        Exam.fails("exchange;wait 1 100;", RANGE, 16);
        Exam.fails("exchange;patience 0;", RANGE, 18);
        Exam.fails("exchange;patience 100;", RANGE, 18);
        Exam.fails("exchange;ring 10000;", RANGE, 14);
        Exam.fails("exchange;ring legs*10000", RANGE, 19);
    }

    private static void tooMany() {
        Exam.reads(TEN, 10);
        Exam.reads(TEN + "wait 1 1;patience 1;ring 1;", 10);
        Exam.fails(TEN + "party 1 1 1;", MANY, 129);
        Exam.fails(TEN + "   party 1 1 1;", MANY, 132);
        Exam.fails(TEN + "party", MANY, 129);
        Exam.fails(TEN + "party;", MANY, 129);
        Exam.fails(TEN + "wait 1 1;party 1 1 1;", MANY, 138);
        Exam.fails(TEN + "parties 1 1 1;", SYNTAX, 129);
        Exam.fails(TEN + "part", SYNTAX, 129);
    }

    private static void tooDeep() {
        Exam.fails("exchange;ring (((((", DEEP, 18);
        Exam.fails("exchange;ring ((((  (1)))));", DEEP, 20);
        Exam.fails("exchange;ring ((((1+((", DEEP, 20);
        Exam.fails("exchange;ring (((((((((((", DEEP, 18);
        Exam.fails("exchange;ring ((((1*2)+3)-(4/((5)))));", DEEP, 30);
        Exam.reads("exchange;ring ((((1*2)+3)-(4/(5))));", 0);
        // Inside 3 others, behind others that are closed.
        Exam.reads("exchange;ring (((1)+(2)+(3)))+(((4)));", 0);
    }
}
