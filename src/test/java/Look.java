import java.util.ArrayList;
import java.util.List;

/**
 * All that can be seen of an object, to tell two of them apart. A whole look uses the object up: what could be undone,
 * the images and the text are brought forth, too. With desks of two small cubes it takes fewer than 350 calls.
 */
final class Look {
    private static final int MOST_UNDONE = 21;

    private Look() {
    }

    static List<Integer> whole(CubeDays x) {
        List<Integer> seen = new ArrayList<>();
        int cubes = x.told(3);
        surface(x, seen);
        state(x, cubes, seen);
        for (int i = 0; i < MOST_UNDONE; i++) {
            int left = x.undo();
            seen.add(left);
            if (left < 0) {
                break;
            }
            state(x, cubes, seen);
        }
        for (int i = 0; i < 2; i++) {
            int back = x.goBack(i);
            seen.add(back);
            if (back == 1) {
                state(x, cubes, seen);
                seed(x, seen);
            }
        }
        seen.add(x.desk());
        surface(x, seen);
        state(x, x.told(3), seen);
        return seen;
    }

    private static void surface(CubeDays x, List<Integer> seen) {
        seen.add(x.fault());
        for (int what = 0; what <= 10; what++) {
            seen.add(x.told(what));
        }
        for (int figure = 0; figure < 10; figure++) {
            seen.add(x.turned(figure));
        }
        // Each price by a weight of its own would be plainer, but would take ten calls.
        seen.add(x.price(1023));
        seen.add(x.price(341));
        seen.add(x.days());
        seen.add(x.paintedOver(CubeDays.NONE));
        seen.add(x.paintedOver(0));
        seen.add(x.lookOn());
        seed(x, seen);
    }

    private static void state(CubeDays x, int cubes, List<Integer> seen) {
        seen.add(x.told(5));
        seen.add(x.told(6));
        for (int c = 0; c < cubes; c++) {
            int sides = x.side(c, CubeDays.NONE);
            seen.add(sides);
            for (int f = 0; f < sides; f++) {
                seen.add(x.side(c, f));
            }
        }
        seen.add(x.judge());
    }

    private static void seed(CubeDays x, List<Integer> seen) {
        int v = x.seed(0);
        seen.add(v);
        x.seed(v);
    }
}
