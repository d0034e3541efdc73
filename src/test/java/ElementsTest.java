final class ElementsTest {
    static void run() {
    }
}
