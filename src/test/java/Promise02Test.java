/** polygon: four of them, none once there are pieces. */
final class Promise02Test {
    private static final Checks CHECKS = new Checks();

    public static void main(String[] args) {
        withoutCorners();
        noneWithPieces();
        piecesByAKeptCutAlone();
        noFifth();
        CHECKS.finish();
    }

    private static void withoutCorners() {
        CHECKS.sentence("A POLYGON without corners: its number");
        Trial m = new Trial();
        CHECKS.due("polygon()", m.polygon(), 0);
        CHECKS.due("its first corner", m.corner(0, 5, 5), true);
        CHECKS.due("polygon()", m.polygon(), 1);
        CHECKS.due("its first corner is anywhere", m.corner(1, 9, 7), true);
        CHECKS.due("its second one goes from there", m.corner(1, 9, 5), true);
        CHECKS.due("the other one has one still", m.corner(0, 9, 5), true);
        CHECKS.due("cut(48)", m.cut(48), -3);
    }

    private static void noneWithPieces() {
        CHECKS.sentence("-3 there are PIECES");
        Trial m = CHECKS.plain(10, 10, 20, 20);
        CHECKS.due("before a cut", m.polygon(), 1);
        m.corner(1, 30, 30);
        m.cut(48);
        CHECKS.changesNothing("polygon() with pieces", m,
            t -> CHECKS.due("polygon() with pieces", t.polygon(), -3));
        m.cut(5);
        CHECKS.due("behind another cut", m.polygon(), -3);
    }

    private static void piecesByAKeptCutAlone() {
        CHECKS.sentence("-3 there are PIECES");
        Trial m = CHECKS.plain(0, 0, 48, 48);
        CHECKS.due("cut(49)", m.cut(49), -2);
        CHECKS.due("behind a refused cut", m.polygon(), 1);
        CHECKS.due("cut(1)", m.cut(1), -4);
        CHECKS.due("behind a refused cut", m.polygon(), 2);
    }

    private static void noFifth() {
        CHECKS.sentence("-4");
        Trial m = CHECKS.plain(10, 10, 20, 20);
        for (int i = 1; i < 4; i++) {
            CHECKS.due("polygon()", m.polygon(), i);
        }
        CHECKS.changesNothing("a fifth polygon", m, t -> CHECKS.due("a fifth polygon()", t.polygon(), -4));
        CHECKS.due("the fourth is there", m.corner(3, 1, 1), true);
        CHECKS.due("a fifth is not", m.corner(4, 1, 1), false);
    }
}
