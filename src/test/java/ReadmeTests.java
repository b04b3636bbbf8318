/** The example in README.md, call by call. */
final class ReadmeTests {
    private ReadmeTests() {
    }

    static void run() {
        SortsCase x = new SortsCase();
        Check.due("README: buy(0, 3)", x.buy(0, 3), 3);
        Check.due("README: append('a')", x.append('a'), 1);
        Check.due("README: append('b')", x.append('b'), 2);
        Check.due("README: errorsIfSet()", x.errorsIfSet(), 1);
        Check.due("README: setLine(0)", x.setLine(0), 0);
        Check.due("README: proof(0, 0)", x.proof(0, 0), 1);
        Check.due("README: buy(1, 1)", x.buy(1, 1), 1);
        Check.due("README: correct(0)", x.correct(0), 1);
        Check.due("README: distribute(0)", x.distribute(0), 2);
        Check.due("README: undo()", x.undo(), 3);
        Check.due("README: forme(0, 1)", x.forme(0, 1), 2);
    }
}
