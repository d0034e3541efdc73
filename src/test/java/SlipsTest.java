final class SlipsTest {
    static void run() {
    }
}
