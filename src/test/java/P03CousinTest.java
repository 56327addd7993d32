/** Promise 3: cousin. */
public final class P03CousinTest {
    public static void main(String[] args) {
        Due.about("Promise 3, cousin");
        Due.test("A cousin comes, and stands", P03CousinTest::comesAndStands);
        Due.test("This is a change", P03CousinTest::isAChange);
        Due.test("Returns the number: 0 to 11", P03CousinTest::number);
        Due.test("TOO_MANY if there are 12 cousins", P03CousinTest::tooMany);
        Due.test("no error with more cousins than seats, or on a folded bench", P03CousinTest::noOtherErrors);
        Due.test("a cousin whose coming was undone leaves nothing behind", P03CousinTest::comesAgainAsNew);
        Due.end();
    }

    private static void comesAndStands() {
        FoldedBench x = new FoldedBench();
        for (int i = 0; i < 12; i++) {
            x.cousin();
            Due.is("the seat", x.of(i, 0), FoldedBench.NONE);
            Due.is("friends", x.of(i, 2), 0);
            Due.is("foes", x.of(i, 3), 0);
            Due.is("cousins", x.count(0), i + 1);
        }
        Due.is("who sit", x.count(1), 0);
    }

    private static void isAChange() {
        FoldedBench x = new FoldedBench();
        for (int i = 1; i <= 12; i++) {
            x.cousin();
            Due.is("changes", x.count(12), Math.min(6, i));
        }
        Due.is("undo()", x.undo(), 5);
        Due.is("cousins", x.count(0), 11);
    }

    private static void number() {
        FoldedBench x = new FoldedBench();
        for (int i = 0; i < 12; i++) {
            Due.is("cousin()", x.cousin(), i);
        }
        x.undo();
        Due.is("the 12th again", x.cousin(), 11);
    }

    private static void tooMany() {
        Bench.refuses("a 13th", FoldedBench.TOO_MANY, () -> Bench.full(12), FoldedBench::cousin);
        FoldedBench x = Bench.seated(-1, -1, -1, -1, -1, -1, -1, -1, -1, -1, -1);
        Due.is("cousins", x.count(0), 11);
        Due.is("a 12th", x.cousin(), 11);
        for (int i = 0; i < 3; i++) {
            Due.is("a 13th", x.cousin(), FoldedBench.TOO_MANY);
        }
        Due.is("cousins", x.count(0), 12);
    }

    private static void noOtherErrors() {
        FoldedBench x = Bench.foldedTimes(Bench.ofSeats(6), 5);
        for (int i = 0; i < 12; i++) {
            Due.is("cousin()", x.cousin(), i);
        }
        Due.is("columns", x.count(2), 1);
    }

    private static void comesAgainAsNew() {
        FoldedBench x = Bench.seated(0);
        x.cousin();
        x.relate(0, 1, -1);
        x.sit(1, 3);
        x.undo();
        x.undo();
        x.undo();
        Due.is("foes", x.of(0, 3), 0);
        Due.is("cousin()", x.cousin(), 1);
        Due.is("foes then", x.of(1, 3), 0);
        Due.is("stands", x.of(1, 0), FoldedBench.NONE);
        Due.is("nobody there", x.ofSeat(3, 0), FoldedBench.NONE);
    }
}
