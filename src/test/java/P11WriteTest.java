/** Promise 11: write. */
public final class P11WriteTest {
    public static void main(String[] args) {
        FoldedBench x = new FoldedBench();
        Due.is("write()", x.write(), 15);
        Due.is("the pad", Bench.pad(x), "0/1/2/3/4/5/6/7");
        Due.is("write() again", x.write(), 15);
        Due.is("the length", x.count(11), 15);
        Due.is("no change", x.count(12), 0);
        x.fold(3);
        Bench.put(x, ";whatever");
        Due.is("in place of more", x.write(), 15);
        Due.is("the pad", Bench.pad(x), "2.3/1.4/0.5/6/7");
        sizes();
        Due.end();
    }

    private static void sizes() {
        FoldedBench x = Bench.ofSeats(2);
        Bench.put(x, "c;c;c;c;c;c");
        Due.is("write()", x.write(), 3);
        Due.is("the pad", Bench.pad(x), "0/1");
        x.fold(1);
        Due.is("write()", x.write(), 3);
        Due.is("the pad", Bench.pad(x), "0.1");
        x = Bench.ofSeats(16);
        Due.is("write()", x.write(), 37);
        Due.is("the pad", Bench.pad(x), "0/1/2/3/4/5/6/7/8/9/10/11/12/13/14/15");
        x.fold(8);
        x.fold(4);
        x.fold(2);
        x.fold(1);
        Due.is("write()", x.write(), 37);
        Due.is("the pad", Bench.pad(x), "5.10.13.2.1.14.9.6.7.8.15.0.3.12.11.4");
    }
}
