/** Terms, "Seats, cousins". */
public final class TermsSeatsTest {
    private static final int NO_SUCH = FoldedBench.NO_SUCH;
    private static final int NONE = FoldedBench.NONE;

    public static void main(String[] args) {
        Due.about("Terms, seats and cousins");
        Due.test("The seats are 0 to SEATS - 1: these, and no others", TermsSeatsTest::seatsThereAre);
        Due.test("The seats are 0 to SEATS - 1: others when SEATS is another", TermsSeatsTest::seatsComeAndGo);
        Due.test("along the bench: its ends are not beside each other", TermsSeatsTest::benchIsNoRing);
        Due.test("There are up to 12 cousins", TermsSeatsTest::upToTwelve);
        Due.test("numbered in the order in which they came", TermsSeatsTest::numberedAsTheyCame);
        Due.test("a cousin stands (at first)", TermsSeatsTest::standsAtFirst);
        Due.test("sits on a seat, where nobody else sits", TermsSeatsTest::nobodyElse);
        Due.test("Two cousins are foes, friends, or neither (at first)", TermsSeatsTest::neitherAtFirst);
        Due.end();
    }

    private static void seatsThereAre() {
        for (int seats = 2; seats <= 16; seats++) {
            FoldedBench x = Bench.ofSeats(seats);
            x.cousin();
            for (int seat = 0; seat < seats; seat++) {
                Due.is("ofSeat(" + seat + ", 1)", x.ofSeat(seat, 1), seat);
                Due.is("sit(0, " + seat + ")", x.sit(0, seat), seat == 0 ? NONE : seat - 1);
            }
            for (int seat : Bench.outside(0, seats - 1)) {
                Due.is("ofSeat(" + seat + ", 1)", x.ofSeat(seat, 1), NO_SUCH);
                Due.is("sit(0, " + seat + ")", x.sit(0, seat), NO_SUCH);
                Due.is("swap(0, " + seat + ")", x.swap(0, seat), NO_SUCH);
                Due.is("swap(" + seat + ", 0)", x.swap(seat, 0), NO_SUCH);
            }
        }
    }

    private static void seatsComeAndGo() {
        FoldedBench x = Bench.ofSeats(3);
        x.cousin();
        Due.is("sit(0, 3)", x.sit(0, 3), NO_SUCH);
        x.set(FoldedBench.SEATS, 4);
        Due.is("sit(0, 3)", x.sit(0, 3), NONE);
        Due.is("sit(0, 4)", x.sit(0, 4), NO_SUCH);
        x.stand(0);
        x.set(FoldedBench.SEATS, 3);
        Due.is("ofSeat(3, 0)", x.ofSeat(3, 0), NO_SUCH);
        x.undo();
        Due.is("ofSeat(3, 0)", x.ofSeat(3, 0), NONE);
        x.undo();
        Due.is("ofSeat(3, 0)", x.ofSeat(3, 0), 0);
        x.undo();
        x.undo();
        Due.is("ofSeat(3, 0)", x.ofSeat(3, 0), NO_SUCH);
    }

    private static void benchIsNoRing() {
        for (int seats = 3; seats <= 16; seats++) {
            FoldedBench x = Bench.settle(Bench.ofSeats(seats), 0, seats - 1);
            Due.is("beside the first", x.of(0, 4), 0);
            Due.is("beside the last", x.of(1, 4), 0);
        }
        FoldedBench x = Bench.full(2);
        Due.is("beside the first of two", x.of(0, 4), 2);
        Due.is("beside the last of two", x.of(1, 4), 1);
    }

    private static void upToTwelve() {
        FoldedBench x = new FoldedBench();
        for (int i = 0; i < 12; i++) {
            Due.is("of(" + i + ", 0)", x.of(i, 0), NO_SUCH);
            Due.is("cousin()", x.cousin(), i);
        }
        Due.is("a 13th", x.cousin(), FoldedBench.TOO_MANY);
        Due.is("of(11, 0)", x.of(11, 0), NONE);
        for (int cousin : Bench.outside(0, 11)) {
            Due.is("of(" + cousin + ", 0)", x.of(cousin, 0), NO_SUCH);
        }
    }

    private static void numberedAsTheyCame() {
        FoldedBench x = new FoldedBench();
        Due.is("the first", x.cousin(), 0);
        x.sit(0, 5);
        Due.is("the second", x.cousin(), 1);
        x.stand(0);
        Due.is("the third, who sits first", x.cousin(), 2);
        x.sit(2, 0);
        x.sit(0, 1);
        Due.is("the seats keep to the numbers", x.of(0, 0), 1);
        Due.is("the seats keep to the numbers", x.of(2, 0), 0);
    }

    private static void standsAtFirst() {
        FoldedBench x = new FoldedBench();
        for (int i = 0; i < 12; i++) {
            x.cousin();
            Due.is("the seat of " + i, x.of(i, 0), NONE);
            Due.is("the mood of " + i, x.of(i, 1), NONE);
            Due.is("stand(" + i + ")", x.stand(i), FoldedBench.NOT_POSSIBLE);
        }
        Due.is("who sit", x.count(1), 0);
    }

    private static void nobodyElse() {
        FoldedBench x = Bench.full(2);
        x.cousin();
        for (int seat = 0; seat < 2; seat++) {
            Due.is("all are taken", x.sit(2, seat), FoldedBench.NOT_POSSIBLE);
        }
        Due.is("who sit", x.count(1), 3);
        x.stand(1);
        Due.is("one is free", x.sit(2, 1), NONE);
        Due.is("it is taken again", x.sit(1, 1), FoldedBench.NOT_POSSIBLE);
        Due.is("who sit", x.count(1), 5);
    }

    private static void neitherAtFirst() {
        FoldedBench x = Bench.full(12);
        for (int i = 0; i < 12; i++) {
            Due.is("friends of " + i, x.of(i, 2), 0);
            Due.is("foes of " + i, x.of(i, 3), 0);
        }
        Due.is("relate(0, 11, 0)", x.relate(0, 11, 0), 1);
        x = Bench.full(12);
        Due.is("relate(11, 10, 1)", x.relate(11, 10, 1), 1);
    }
}
