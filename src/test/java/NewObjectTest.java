public final class NewObjectTest {
    public static void main(String[] args) {
        Due due = new Due();
        CaughtPellets x = new CaughtPellets();
        due.is("count(0)", x.count(0), 4000);
        due.end();
    }
}
