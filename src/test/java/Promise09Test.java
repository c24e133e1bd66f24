/** Promise 9: layer. */
public final class Promise09Test {
    public static void main(String[] args) {
        Check check = new Check("Promise 9");
        IceLand x = new IceLand();
        x.ice(0, 2);
        x.ice(11, 1);
        x.climate(0, 3, 0);
        x.pass(1);
        x.climate(0, 0, 0);
        x.pass(1);
        x.ice(11, 5);
        check.same("layer(0, 0)", x.layer(0, 0), 2);
        check.same("layer(0, 1)", x.layer(0, 1), 3);
        check.same("layer(0, 2)", x.layer(0, 2), 0);
        check.same("layer(11, 0)", x.layer(11, 0), 1);
        check.same("layer(11, 1)", x.layer(11, 1), 3);
        check.same("layer(11, 2)", x.layer(11, 2), 5);
        check.same("layer(10, 0)", x.layer(10, 0), 0);
        check.same("a year to come", x.layer(0, 60), 0);
        check.same("a year to come of 11", x.layer(11, 60), 0);
        check.noCell("layer(-1, 0)", () -> x.layer(-1, 0));
        check.noCell("layer(12, 0)", () -> x.layer(12, 0));
        check.noCell("layer(12, 61)", () -> x.layer(12, 61));
        check.noCell("layer(MAX, -1)", () -> x.layer(Integer.MAX_VALUE, -1));
        check.outOfRange("layer(0, -1)", () -> x.layer(0, -1));
        check.outOfRange("layer(0, 61)", () -> x.layer(0, 61));
        check.outOfRange("layer(11, 61)", () -> x.layer(11, 61));
        check.outOfRange("layer(11, MIN)", () -> x.layer(11, Integer.MIN_VALUE));
        check.outOfRange("layer(11, MAX)", () -> x.layer(11, Integer.MAX_VALUE));
        check.end();
    }
}
