final class TablesTest {
    static void run() {
    }
}
