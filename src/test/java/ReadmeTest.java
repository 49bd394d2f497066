/** The example in README.md answers as it says there. */
public final class ReadmeTest {
    private ReadmeTest() {
    }

    public static void main(String[] args) {
        SixDew d = new SixDew();
        int has = d.feed(0x6b696e64, 0x20672031, 0x30203230, 0x3b726f77, 0x2061613b);
        Check.due("feed", has, 20);
        Check.due("ground()", d.ground(), 2);
        Check.due("night(0)", d.night(0), 0);
        Check.due("begins(0, 1, 0)", d.begins(0, 1, 0), 1);
        Check.due("begin(0)", d.begin(0), true);
        Check.due("on(10)", d.on(10), 10);
        Check.due("is(0, 0, 1)", d.is(0, 0, 1), 155);
        Check.due("now(4) and STOCK", d.now(4) + d.now(1), 500);
        Check.finish("ReadmeTest");
    }
}
