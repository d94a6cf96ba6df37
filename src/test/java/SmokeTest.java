final class SmokeTest {
    public static void main(String[] args) {
        Checks.due("count(0)", new LevyPhases().count(0), 0);
        Checks.finish("SmokeTest");
    }
}
