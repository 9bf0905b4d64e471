/** Promises 1 to 6: a new object, the input buffer, setup texts, and what they set. */
public final class SetupTests {
    public static void main(String[] args) {
        promise1NewObject();
        promise2Append();
        promise3LoadLength();
        promise3LoadReplaces();
        promise3LoadAgain();
        promise3Tokens();
        promise3SyntaxErrors();
        promise3OtherErrors();
        promise3RingRule();
        promise4ErrorOffset();
        promise5Time();
        promise6Count();
        Exam.finish();
    }

    private static void promise1NewObject() {
        CallForks forks = new CallForks();
        int[] counts = {0, 0, 0, 0, 0, 3, 5, 20};
        for (int what = 0; what < counts.length; what++) {
            Exam.same("new count " + what, forks.count(what), counts[what]);
        }
        for (int what = 0; what <= 6; what++) {
            Exam.same("new total " + what, forks.total(what), 0);
        }
        Exam.same("new time", forks.time(), 0);
        Exam.same("new errorOffset", forks.errorOffset(), -1);
        Exam.same("new checksum", forks.checksum(), 0);
        Exam.same("new undo", forks.undo(), -1);
        Exam.argument("the buffer of a new object is empty", () -> forks.load(1));
        Exam.index("no party", () -> forks.party(0, 0));
    }

    private static void promise2Append() {
        CallForks forks = new CallForks();
        // "exch" "ange" ";par" "ty 1" " 2 3", then ";" and bytes that are not read.
        Exam.same("append", forks.append(0x65786368, 0x616e6765, 0x3b706172, 0x74792031, 0x20322033), 20);
        Exam.same("append more", forks.append(0x3bffffff, -1, Integer.MIN_VALUE, Integer.MAX_VALUE, 0), 40);
        Exam.same("load what was appended", forks.load(21), 1);
        Exam.same("the bytes come in their order", forks.party(0, 0) * 100 + forks.party(0, 1) * 10 + forks.party(0, 2), 123);
        for (int k = 1; k <= 30; k++) {
            Exam.same("append " + k, forks.append(0, 0, 0, 0, 0), 20 * k);
        }
        Exam.same("append to a full buffer", forks.append(0, 0, 0, 0, 0), -1);
        Exam.same("append to a full buffer again", forks.append(0, 0, 0, 0, 0), -1);
        Exam.argument("the full buffer has 600 bytes", () -> forks.load(601));
        Exam.same("the full buffer can be read", forks.load(600), CallForks.SYNTAX_ERROR);
        Exam.same("a buffer that was read is empty", forks.append(0, 0, 0, 0, 0), 20);
        CallForks text = new CallForks();
        Exam.append(text, "exchange;" + "party 1 2 3;".repeat(9) + "ring 1" + "+1".repeat(238) + ";");
        Exam.same("a text of 600 bytes", text.load(600), 9);
        Exam.same("dial", text.dial(0, 2), 1);
        Exam.same("its long sum", text.call(0, 2), 99);
    }

    private static void promise3LoadLength() {
        CallForks forks = new CallForks();
        Exam.append(forks, "exchange;party 1 1 1;");
        Exam.argument("negative length", () -> forks.load(-1));
        Exam.argument("least length", () -> forks.load(Integer.MIN_VALUE));
        Exam.argument("greater than the buffer", () -> forks.load(41));
        Exam.argument("greatest length", () -> forks.load(Integer.MAX_VALUE));
        Exam.same("the buffer is as it was", forks.append(0, 0, 0, 0, 0), 60);
        Exam.same("the first bytes", forks.load(9), 0);
        Exam.same("a load is one change", forks.undo(), 0);
        Exam.argument("the buffer is empty after a load", () -> forks.load(1));
        Exam.same("empty text", forks.load(0), CallForks.SYNTAX_ERROR);
        Exam.append(forks, "exchangE;");
        Exam.same("text with an error", forks.load(9), CallForks.SYNTAX_ERROR);
        Exam.argument("the buffer is empty after an error", () -> forks.load(1));
        Exam.same("an error is no change", forks.undo(), -1);
    }

    private static void promise3LoadReplaces() {
        CallForks forks = Exam.loaded("exchange;party 1 1 1;party 1 1 1;wait 7 8;patience 9;ring 11;");
        forks.dial(0, 2);
        forks.pass(1);
        forks.offer(0, 5);
        long before = forks.checksum();
        Exam.same("a text with an error", Exam.load(forks, "exchange;party 1 1 1;wait 9 9;patience 4;ring 2;party"), -2);
        Exam.same("an error changes nothing", forks.checksum(), before);
        Exam.same("w after an error", forks.count(5), 7);
        Exam.same("patience after an error", forks.count(7), 9);
        Exam.same("pending after an error", forks.pending(0, 1), 5);
        Exam.same("a good text", Exam.load(forks, "exchange;party 4 5 6;party 0 0 0;party 99 99 999;"), 3);
        int[] counts = {3, 0, 0, 0, 0, 3, 5, 20};
        for (int what = 0; what < counts.length; what++) {
            Exam.same("count " + what + " after a load", forks.count(what), counts[what]);
        }
        Exam.same("time after a load", forks.time(), 0);
        Exam.same("total after a load", forks.total(4), 0);
        Exam.index("no call after a load", () -> forks.call(0, 0));
        Exam.same("cap", forks.party(2, 2), 999);
        forks.dial(0, 2);
        Exam.same("the ring rule has gone", forks.call(0, 2), 30);
        Exam.same("undo the dial", forks.undo(), 5);
        Exam.same("undo the load", forks.undo(), 4);
        Exam.same("the data before the load", forks.checksum(), before);
        Exam.same("w before the load", forks.count(5), 7);
        forks.hangUp(0);
        forks.dial(0, 2);
        Exam.same("the ring rule before the load", forks.call(1, 2), 11);
    }

    private static void promise3LoadAgain() {
        CallForks forks = new CallForks();
        for (int k = 1; k <= 9; k++) {
            String text = "exchange;party 1 1 9;party 1 1 9;wait 2 " + k + ";patience 3" + k + ";ring 1+(2+(3+" + k + "));";
            Exam.same("load " + k, Exam.load(forks, text), 2);
            Exam.same("v " + k, forks.count(6), k);
            Exam.same("patience " + k, forks.count(7), 30 + k);
            forks.dial(0, 2);
            Exam.same("ring time " + k, forks.call(0, 2), 6 + k);
            for (int what = 2; what <= 5; what++) {
                Exam.same("leg 0 " + what + " of load " + k, forks.leg(0, what), 0);
            }
            forks.pass(1);
            forks.offer(0, 9);
            forks.pass(1);
            Exam.same("setting and version " + k, forks.leg(0, 4) * 10 + forks.leg(0, 5), 91);
            forks.hangUp(0);
        }
    }

    private static void promise3Tokens() {
        Exam.reads("exchange;", 0);
        Exam.reads("   exchange   ;   ", 0);
        Exam.reads("exchange;party1 2 3;", 1);
        Exam.reads("exchange;ring2*legs;", 0);
        Exam.reads("exchange;ring((((1))))+((((2))));", 0);
        Exam.reads("exchange;wait000001 0000000000000000000000000000000000099;", 0);
        Exam.reads("exchange;party 0 0 0;patience 1;party 99 99 999;wait 99 1;ring 9999;", 2);
        Exam.fails("exch ange;", -2, 0);
        Exam.fails("exchange;par ty 1 1 1;", -2, 9);
        Exam.fails("exchange;party 11 1;", -2, 19);
        Exam.fails("exchangeparty;", -2, 0);
        Exam.fails("exchange;party 1 1 1party 1 1 1;", -2, 20);
        Exam.fails("exchange;\tparty 1 1 1;", -2, 9);
        Exam.fails("exchange;\n", -2, 9);
        Exam.fails("exchange;" + (char) 200, -2, 9);
        Exam.fails("exchange;" + (char) 0, -2, 9);
        Exam.fails("Exchange;", -2, 0);
        Exam.fails("exchange;party -1 1 1;", -2, 15);
    }

    private static void promise3SyntaxErrors() {
        Exam.fails("", -2, 0);
        Exam.fails("   ", -2, 3);
        Exam.fails(";", -2, 0);
        Exam.fails("7", -2, 0);
        Exam.fails("exchange", -2, 8);
        Exam.fails("exchange  ", -2, 10);
        Exam.fails("exchange party 1 1 1;", -2, 9);
        Exam.fails("exchange;;", -2, 9);
        Exam.fails("exchange;7;", -2, 9);
        Exam.fails("exchange;legs;", -2, 9);
        Exam.fails("exchange;exchange;", -2, 9);
        Exam.fails("exchange;party", -2, 14);
        Exam.fails("exchange;party 1", -2, 16);
        Exam.fails("exchange;party 1 1", -2, 18);
        Exam.fails("exchange;party 1 1 1", -2, 20);
        Exam.fails("exchange;party 1 1 1 1;", -2, 21);
        Exam.fails("exchange;party 1 1 1  ", -2, 22);
        Exam.fails("exchange;party 1 1 legs;", -2, 19);
        Exam.fails("exchange;wait 1;", -2, 15);
        Exam.fails("exchange;patience;", -2, 17);
        Exam.fails("exchange;patience 1 1;", -2, 20);
        Exam.fails("exchange;ring;", -2, 13);
        Exam.fails("exchange;ring ()", -2, 15);
        Exam.fails("exchange;ring 1+;", -2, 16);
        Exam.fails("exchange;ring 1**1;", -2, 16);
        Exam.fails("exchange;ring -1;", -2, 14);
        Exam.fails("exchange;ring 1 1;", -2, 16);
        Exam.fails("exchange;ring 1 legs;", -2, 16);
        Exam.fails("exchange;ring legs caller;", -2, 19);
        Exam.fails("exchange;ring (1;", -2, 16);
        Exam.fails("exchange;ring (1", -2, 16);
        Exam.fails("exchange;ring 1);", -2, 15);
        Exam.fails("exchange;ring 1(", -2, 15);
        Exam.fails("exchange;ring wait;", -2, 14);
        Exam.fails("exchange;ring legsx;", -2, 14);
        Exam.fails("exchange;ring leg;", -2, 14);
        Exam.fails("exchange;ring legsz;", -2, 14);
        Exam.fails("exchange;ring aegs;", -2, 14);
        Exam.fails("axchange;", -2, 0);
        Exam.fails("exchange;{", -2, 9);
        Exam.fails("exchange;ring legs`;", -2, 18);
        Exam.fails("exchange;wait 1 1;wait 100 1;", -2, 18);
        Exam.fails("exchange;patience 1; patience 1;", -2, 21);
        Exam.fails("exchange;ring 1;party 1 1 1;ring 1;", -2, 28);
    }

    private static void promise3OtherErrors() {
        Exam.fails("exchange;party 100 1 1;", -3, 15);
        Exam.fails("exchange;party 1 100 1;", -3, 17);
        Exam.fails("exchange;party 1 1 1000;", -3, 19);
        Exam.fails("exchange;party 1 1 0001000", -3, 19);
        Exam.fails("exchange;party 99999999999999999999999999999999999999 1 1;", -3, 15);
        Exam.fails("exchange;party 4294967297 1 1;", -3, 15);
        Exam.fails("exchange;wait 0 1;", -3, 14);
        Exam.fails("exchange;wait 100 1;", -3, 14);
        Exam.fails("exchange;wait 1 0;", -3, 16);
        Exam.fails("exchange;wait 1 100;", -3, 16);
        Exam.fails("exchange;patience 0;", -3, 18);
        Exam.fails("exchange;patience 100;", -3, 18);
        Exam.fails("exchange;ring 10000;", -3, 14);
        Exam.fails("exchange;ring 1+10000", -3, 16);
        Exam.fails("exchange;ring 1 10000;", -2, 16);
        Exam.fails("exchange;10000;", -2, 9);
        String ten = "exchange;" + "party 1 1 1;".repeat(10);
        Exam.reads(ten, 10);
        Exam.fails(ten + "party 1 1 1;", -4, 129);
        Exam.fails(ten + "  party", -4, 131);
        Exam.fails(ten + "party 1000", -4, 129);
        Exam.fails(ten + "partyx", -2, 129);
        Exam.fails("exchange;" + "party 1 1 1;".repeat(9) + "party 1 1 1 party 1 1 1;", -2, 129);
        Exam.fails("exchange;ring (((((1)))));", -5, 18);
        Exam.fails("exchange;ring ((((", -2, 18);
        Exam.fails("exchange;ring ((((1(", -2, 19);
        Exam.fails("exchange;ring ((((1+(", -5, 20);
        Exam.fails("exchange;ring 1+(2*(3-(4/(5+(", -5, 28);
        Exam.reads("exchange;ring 1+(2*(3-(4/(5+6))))*((((7))));", 0);
        Exam.fails("exchange;ring (((((10000", -5, 18);
        Exam.fails("exchange;party 1 1 1000;ring (((((", -3, 19);
    }

    private static void promise3RingRule() {
        Exam.rings("0", 1);
        Exam.rings("1", 1);
        Exam.rings("99", 99);
        Exam.rings("100", 99);
        Exam.rings("9999", 99);
        Exam.rings("legs", 2);
        Exam.rings("caller", 3);
        Exam.rings("caller-4", 1);
        Exam.rings("referred+50", 50);
        Exam.rings("time", 7);
        Exam.rings("1+2*3", 7);
        Exam.rings("(1+2)*3", 9);
        Exam.rings("20-5-3", 12);
        Exam.rings("20-(5-3)", 18);
        Exam.rings("90/9/2", 5);
        Exam.rings("90/(9/2)", 22);
        Exam.rings("7/2*2", 6);
        Exam.rings("10+(0-7)/2", 7);
        Exam.rings("10-(0-7)/2*(0-1)", 7);
        Exam.rings("5/0+8", 8);
        Exam.rings("50-5/(legs-2)", 50);
        Exam.rings("9999*9999-9999*100", 99);
        Exam.rings("(9999*9999-9999*100)/1000", 1);
        Exam.rings("9999*9999/2000/10", 50);
        Exam.rings("9999*9999/9999-90", 10);
        Exam.rings("9999*9999*9999*9999/9999-80", 20);
        Exam.rings("60+(0-9999)*9999/9999+90", 50);
        Exam.rings("9999*100+9999*100-9999*90-9999*10+20", 99);
        Exam.rings("(9999*100+9999-9999*100)/100", 1);
        Exam.rings("(9999*100+9999-9999*100)/10", 10);
        Exam.rings("9999*9999-9999*100-90", 10);
        Exam.rings("9999*9999+9999-9999*100-90", 10);
        Exam.rings("(0-9999)*9999+9999*100+150", 50);
        Exam.rings("0-9999*100-9999+9999*100+150", 50);
        Exam.rings("1+(2*(3+(4*(5+1-1))))", 47);
        Exam.rings("1+1*(1+1*(1+1*(1+1*(1+1*1))))", 6);
        Exam.rings("2*(3*(4*(5-(2))))", 72);
    }

    private static void promise4ErrorOffset() {
        CallForks forks = new CallForks();
        Exam.same("no load", forks.errorOffset(), -1);
        Exam.argument("too long", () -> forks.load(1));
        Exam.same("a load that threw", forks.errorOffset(), -1);
        Exam.load(forks, "exchange;party 100 0 0;");
        Exam.same("after an error", forks.errorOffset(), 15);
        Exam.argument("too long again", () -> forks.load(1));
        Exam.same("a load that threw after an error", forks.errorOffset(), 15);
        Exam.load(forks, "exchange");
        Exam.same("after a later error", forks.errorOffset(), 8);
        forks.pass(1);
        forks.undo();
        Exam.same("after a change and its undo", forks.errorOffset(), 8);
        Exam.load(forks, "exchange;");
        Exam.same("after a good text", forks.errorOffset(), -1);
        Exam.load(forks, "x");
        forks.undo();
        Exam.same("undo leaves the offset", forks.errorOffset(), 0);
    }

    private static void promise5Time() {
        CallForks forks = new CallForks();
        forks.pass(3);
        Exam.same("time", forks.time(), 3);
        forks.pass(200);
        Exam.same("later", forks.time(), 203);
        forks.undo();
        Exam.same("undone", forks.time(), 3);
        Exam.load(forks, "exchange;");
        Exam.same("loaded", forks.time(), 0);
    }

    private static void promise6Count() {
        CallForks forks = Exam.loaded("exchange;party 0 0 0;party 2 0 0;party 2 0 0;party 0 0 0;party 0 0 0;wait 11 12;patience 13;");
        forks.dial(0, 6);
        forks.dial(3, 16 + 2);
        int[] ringing = {5, 2, 4, 0, 4, 11, 12, 13};
        for (int what = 0; what < ringing.length; what++) {
            Exam.same("count " + what, forks.count(what), ringing[what]);
        }
        forks.pass(2);
        Exam.same("talking", forks.count(3), 1);
        Exam.same("ringing", forks.count(4), 1);
        forks.transfer(1, 4);
        Exam.same("a held leg does not talk", forks.count(3), 0);
        Exam.same("legs with ended ones", forks.count(2), 5);
        Exam.argument("what -1", () -> forks.count(-1));
        Exam.argument("what 8", () -> forks.count(8));
        Exam.argument("greatest what", () -> forks.count(Integer.MAX_VALUE));
        Exam.argument("least what", () -> forks.count(Integer.MIN_VALUE));
    }
}
