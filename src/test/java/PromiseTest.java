public final class PromiseTest {
    public static void main(String[] args) {
        LoopTables x = new LoopTables();
        if (x.count(0) != 0) {
            System.exit(1);
        }
    }
}
