final class LeaveTest {
    static void run() {
    }
}
