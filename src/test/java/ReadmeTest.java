/** The calls that README.md shows, with the answers that stand beside them. */
public final class ReadmeTest {
    private static final Due DUE = new Due("ReadmeTest");

    public static void main(String[] args) {
        CrankLayout x = new CrankLayout();
        shaftAndOrders(x);
        chosenFiring(x);
        weights(x);
        text(x);
        DUE.end();
    }

    private static void shaftAndOrders(CrankLayout x) {
        DUE.is("setThrow(1, 6)", x.setThrow(1, 6), 0);
        DUE.is("setThrow(2, 6)", x.setThrow(2, 6), 0);
        DUE.is("balanced()", x.balanced(), 3);
        DUE.is("FORCE2, x, a", x.vector(CrankLayout.FORCE2, false, false), 80);
        DUE.is("FORCE2, x, b", x.vector(CrankLayout.FORCE2, false, true), 0);
        DUE.is("orders()", x.orders(), 2);
        int[] first = {0, 1, 3, 2};
        int[] second = {0, 2, 3, 1};
        for (int place = 0; place < 4; place++) {
            DUE.is("order(0, " + place + ")", x.order(0, place), first[place]);
            DUE.is("order(1, " + place + ")", x.order(1, place), second[place]);
        }
        DUE.is("orderCost(1, 0)", x.orderCost(1, 0), 2);
        DUE.is("bestOrder()", x.bestOrder(), 0);
    }

    private static void chosenFiring(CrankLayout x) {
        DUE.is("choose(0)", x.choose(0), 0);
        DUE.is("cylinder(2, 4)", x.cylinder(2, 4), 18);
        DUE.is("load(1, 0)", x.load(1, 0), 8);
        DUE.is("turn(0, false)", x.turn(0, false), 3);
        DUE.is("longestGap()", x.longestGap(), 12);
        DUE.is("bestOff()", x.bestOff(), 3);
        DUE.is("save(1)", x.save(1), 4);
    }

    private static void weights(CrankLayout x) {
        DUE.is("setMass(0, 25)", x.setMass(0, 25), 10);
        DUE.is("setWeight(0, 6, 5)", x.setWeight(0, 6, 5), 1);
        DUE.is("counterWeight()", x.counterWeight(), 6010);
        DUE.is("counterPair(10, 0)", x.counterPair(10, 0), 0);
        DUE.is("setPlace(0, 2)", x.setPlace(0, 2), 0);
        DUE.is("counterPair(10, 0) then", x.counterPair(10, 0), 6005);
        DUE.is("the choice stays", x.cylinder(2, 4), 18);
        DUE.is("restore(1)", x.restore(1), 4);
        DUE.is("cylinder(0, 1)", x.cylinder(0, 1), 10);
    }

    private static void text(CrankLayout x) {
        int length = 0;
        for (char letter : "2-4-3-1".toCharArray()) {
            length++;
            DUE.is("append(" + letter + ")", x.append(letter), length);
        }
        DUE.is("faultPosition()", x.faultPosition(), CrankLayout.NONE);
        DUE.is("find()", x.find(), 0);
        DUE.is("append('!')", x.append('!'), 8);
        DUE.is("faultPosition() then", x.faultPosition(), 7);
        DUE.is("find() then", x.find(), CrankLayout.NOT_POSSIBLE);
    }
}
