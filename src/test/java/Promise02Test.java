/** polygon: four of them, none once there are pieces. */
final class Promise02Test {
    private static final Checks CHECKS = new Checks();

    public static void main(String[] args) {
        Trial m = new Trial();
        for (int i = 0; i < 4; i++) {
            CHECKS.due("polygon()", m.polygon(), i);
        }
        CHECKS.due("a fifth polygon()", m.polygon(), -4);
        CHECKS.due("corner(3, 1, 1)", m.corner(3, 1, 1), true);
        CHECKS.due("corner(4, 1, 1)", m.corner(4, 1, 1), false);

        Trial cut = CHECKS.plain(10, 10, 20, 20);
        CHECKS.due("cut(49)", cut.cut(49), -2);
        CHECKS.due("polygon() behind a refused cut", cut.polygon(), 1);
        CHECKS.due("cut(48)", cut.cut(48), 4);
        CHECKS.due("polygon() with pieces", cut.polygon(), -3);
        CHECKS.due("corner(2, 1, 1)", cut.corner(2, 1, 1), false);

        Trial full = CHECKS.plain(10, 10, 20, 20);
        full.polygon();
        full.polygon();
        full.polygon();
        full.cut(48);
        CHECKS.due("polygon() with pieces and no room", full.polygon(), -3);
        CHECKS.finish();
    }
}
