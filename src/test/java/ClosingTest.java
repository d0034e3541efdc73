final class ClosingTest {
    static void run() {
    }
}
