/** Promises 13 to 15: the pit, the lathe, and mending. */
public final class ShopTest {
    private static final int FLAT = Stablingroad.FLAT;
    private static final int DOOR = Stablingroad.DOOR;
    private static final int ENGINE = Stablingroad.ENGINE;
    private static final int TOILET = Stablingroad.TOILET;

    private static final Check check = new Check();

    private ShopTest() {}

    public static void main(String[] args) {
        examine();
        lathe();
        latheBelowNothing();
        mend();
        check.end("ShopTest");
    }

    private static void examine() {
        for (int exam = 0; exam < 3; exam++) {
            Stablingroad x = new Stablingroad();
            x.unit(0, 500);
            x.unit(0, 0);
            x.diagram(0, 0, 300, 0, 1);
            x.day();
            check.same("13: how many", x.examine(0, exam), exam + 1);
            for (int k = 0; k < 3; k++) {
                check.same("13: km", x.clock(0, k, false), k <= exam ? 0 : 300);
                check.same("13: days", x.clock(0, k, true), k <= exam ? 0 : 1);
                check.same("13: not those of others", x.clock(1, k, true), 1);
            }
            check.same("13: the km stay", x.about(0, 1), 800);
            check.same("13: the axles stay", x.axle(0, 0), 899);
        }
    }

    private static void lathe() {
        Stablingroad x = new Stablingroad();
        x.unit(0, 0);
        x.unit(0, 0);
        x.fault(0, FLAT, 0, 3);
        x.fault(0, DOOR, 0, 1);
        x.fault(0, FLAT, 0, 4);
        x.fault(0, FLAT, 3, 6);
        x.fault(0, ENGINE, 0, 100);
        x.fault(1, FLAT, 0, 20);
        check.same("14: the flats of an axle together", x.lathe(0), 893);
        for (int a = 0; a < 4; a++) {
            check.same("14: all axles alike", x.axle(0, a), 893);
            check.same("14: not those of others", x.axle(1, a), 900);
        }
        check.same("14: flats gone, others not", x.about(0, 2), 2);
        check.same("14: the door stays", x.faultAt(0, 0, 0), DOOR);
        check.same("14: the engine stays", x.faultAt(0, 1, 0), ENGINE);
        check.same("14: the other's flat stays", x.about(1, 2), 1);
        check.same("14: no flats, the axle 0 is the least", Depots.atShop(1000).lathe(0), 897);
        Stablingroad deep = Depots.atShop(1000);
        deep.fault(0, FLAT, 0, 2);
        check.same("14: a flat of the least axle", deep.lathe(0), 895);
        Stablingroad least = Depots.atShop(1000);
        least.fault(0, FLAT, 1, 1);
        check.same("14: the axle 0 is the least", least.axle(0, 0), 897);
        check.same("14: it stays the least", least.lathe(0), 897);
        least.day();
        check.same("14: the axle 0 behind 1000 km more", least.axle(0, 0), 894);
        check.same("14: the axle 1 behind 1000 km more", least.axle(0, 1), 895);
        least.fault(0, FLAT, 1, 2);
        check.same("14: the flat makes the least", least.lathe(0), 893);
    }

    private static void latheBelowNothing() {
        Stablingroad x = new Stablingroad();
        x.unit(0, 0);
        for (int day = 0; day < 6; day++) {
            for (int i = 0; i < 8; i++) {
                x.fault(0, FLAT, 1, 20);
            }
            check.same("14: below 0 perhaps", x.lathe(0), 900 - 160 * (day + 1));
            x.day();
        }
        check.same("14: below 0", x.axle(0, 2), -60);
    }

    private static void mend() {
        Stablingroad x = new Stablingroad();
        x.unit(2, 0);
        x.fault(0, TOILET, 0, 0);
        x.fault(0, FLAT, 0, 1);
        x.fault(0, ENGINE, 0, 7);
        x.fault(0, DOOR, 3, 0);
        x.fault(0, ENGINE, 0, 9);
        check.same("15: an engine", x.mend(0, 2), ENGINE);
        check.same("15: one less", x.about(0, 2), 4);
        check.same("15: those behind move on", x.faultAt(0, 2, 0), DOOR);
        check.same("15: those before stay", x.faultAt(0, 1, 0), FLAT);
        check.same("15: a door", x.mend(0, 2), DOOR);
        check.same("15: the other engine", x.faultAt(0, 2, 3), 9);
        check.same("15: a toilet", x.mend(0, 0), TOILET);
        check.same("15: the last", x.mend(0, 1), ENGINE);
        check.same("15: the flat is left", x.about(0, 2), 1);
    }
}
