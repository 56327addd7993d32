/** Promise 11: write. How it is written is tested by TermsTextsTest, too. */
public final class P11WriteTest {
    public static void main(String[] args) {
        Due.about("Promise 11, write");
        Due.test("Writes how the bench lies into the pad", P11WriteTest::written);
        Due.test("in place of what was there: nothing, less, more, a full pad", P11WriteTest::inPlace);
        Due.test("This is not a change", P11WriteTest::noChange);
        Due.test("Returns the length of the pad then: 3 at least, 37 at most", P11WriteTest::lengths);
        Due.end();
    }

    private static void written() {
        FoldedBench x = new FoldedBench();
        x.write();
        Due.is("the pad", Bench.pad(x), "0/1/2/3/4/5/6/7");
        x.fold(3);
        Due.is("the pad stays", Bench.pad(x), "0/1/2/3/4/5/6/7");
        x.write();
        Due.is("the pad", Bench.pad(x), "2.3/1.4/0.5/6/7");
        x.unfold();
        x.set(FoldedBench.SEATS, 16);
        Bench.pressed(x, 8, 4, 2, 1);
        x.write();
        Due.is("the pad", Bench.pad(x), "5.10.13.2.1.14.9.6.7.8.15.0.3.12.11.4");
    }

    private static void inPlace() {
        for (int length : new int[] {0, 1, 14, 15, 16, 79, 80}) {
            FoldedBench x = new FoldedBench();
            Bench.put(x, "c".repeat(length));
            Due.is("in place of " + length, x.write(), 15);
            Due.is("the pad", Bench.pad(x), "0/1/2/3/4/5/6/7");
            Due.is("beyond", x.sign(15), FoldedBench.NO_SUCH);
        }
        FoldedBench x = new FoldedBench();
        x.write();
        Due.is("again", x.write(), 15);
        Due.is("more may be put then", x.put('c'), 16);
    }

    private static void noChange() {
        FoldedBench x = Bench.seated(0);
        String before = Bench.seen(x);
        x.write();
        x.wipe();
        Due.is("nothing changes", Bench.seen(x), before);
        x.write();
        Due.is("undo()", x.undo(), 1);
        Due.is("the pad stays", Bench.pad(x), "0/1/2/3/4/5/6/7");
    }

    private static void lengths() {
        for (int seats = 2; seats <= 16; seats++) {
            FoldedBench x = Bench.ofSeats(seats);
            int due = seats + Math.max(0, seats - 10) + seats - 1;
            Due.is("unfolded", x.write(), due);
            Due.is("the length", x.count(11), due);
            x.fold(1);
            Due.is("folded", x.write(), due);
        }
        Due.is("the shortest", Bench.ofSeats(2).write(), 3);
        Due.is("the longest", Bench.ofSeats(16).write(), 37);
    }
}
