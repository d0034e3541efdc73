final class ContractsTest {
    static void run() {
    }
}
