/** The example of README.md, call by call. */
public final class ReadmeTests {
    private ReadmeTests() {
    }

    public static void main(String[] arguments) {
        CallForks forks = new CallForks();
        forks.append(0x65786368, 0x616e6765, 0x3b706172, 0x74792030, 0x20322035);
        forks.append(0x30303b70, 0x61727479, 0x20332031, 0x2039393b, 0x20202020);
        Exam.same("load", forks.load(36), 2);
        Exam.same("dial", forks.dial(0, 1 << 1), 1);
        Exam.same("answeredBy", forks.answeredBy(0), 0);
        Exam.same("settlesIn", forks.settlesIn(0), 3);
        Exam.same("pass", forks.pass(3), 1);
        Exam.same("offer", forks.offer(0, 50), 1);
        forks.pass(1);
        Exam.same("the setting", forks.leg(0, 4), 50);
        Exam.same("undo", forks.undo(), 4);
        Exam.same("the side of the pending offer", forks.pending(0, 0), 0);
        Exam.same("its value", forks.pending(0, 1), 50);
        Exam.finish();
    }
}
