final class GarnishmentsTest {
    static void run() {
    }
}
