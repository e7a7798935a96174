import java.lang.management.ManagementFactory;
import java.lang.reflect.InvocationTargetException;
import java.lang.reflect.Method;
import java.lang.reflect.Modifier;
import java.util.ArrayList;
import java.util.Arrays;
import java.util.Comparator;
import java.util.List;
import java.util.NoSuchElementException;
import java.util.Random;

/**
 * Every call with any arguments in any state: nothing is thrown but what the document names, the same
 * calls give the same answers, a second object is not touched, and calls make next to no objects.
 */
public final class WildTest {
    private static final int[] EDGES = {
        0, 1, 2, 3, 4, 5, 6, 7, 20, 99, 100, 101, 159, 160, 161, 359, 360, 361, 719, 720, 721, 4095, 4096, 9999,
        10000, -1, -2, -1000000, Integer.MAX_VALUE, Integer.MIN_VALUE, Integer.MAX_VALUE - 720
    };
    private static final String[] TEXTS = {
        "pd100h0;py30d200h0;py29d300h1;rm2;rm1c5", "p;r", "p;p;p;p;p;p;r;r;r;r", "py0d360h0;py0d360h1;py1h2;r;r;r",
        "y:a-b<2?1", "y:y>180&x<100?a*b-n;y:[x/y]-[[[[[1]]]]]", "y:1", "y:!!(a=b|!(b<x&n>2))?y-180", "py", "y:a=", ""
    };
    private static int wrong = 0;

    public static void main(String[] args) throws IllegalAccessException {
        List<Method> face = face();
        for (int seed = 1; seed <= 300 && wrong < 20; seed++) {
            List<Long> once = run(face, seed, true);
            List<Long> again = run(face, seed, false);
            if (!once.equals(again)) {
                fail("seed " + seed + ": the same calls gave other answers");
            }
        }
        constants();
        room();
        System.out.println(wrong == 0 ? "WildTest: all answers are as due" : "WildTest: " + wrong + " wrong");
        if (wrong != 0) {
            System.exit(1);
        }
    }

    private static void fail(String what) {
        wrong++;
        System.out.println(what);
    }

    private static List<Method> face() {
        List<Method> found = new ArrayList<>();
        for (Method method : AgeRoofs.class.getDeclaredMethods()) {
            if (Modifier.isPublic(method.getModifiers())) {
                found.add(method);
            } else if (!Modifier.isPrivate(method.getModifiers())) {
                fail(method.getName() + " is neither public nor private");
            }
        }
        found.sort(Comparator.comparing(Method::getName));
        if (found.size() != 38) {
            fail("the face has " + found.size() + " methods, not 38");
        }
        return found;
    }

    private static List<Long> run(List<Method> face, int seed, boolean beside) throws IllegalAccessException {
        Random random = new Random(seed);
        AgeRoofs roofs = new AgeRoofs();
        AgeRoofs other = new AgeRoofs();
        List<Long> answers = new ArrayList<>();
        for (int k = 0; k < 512; k++) {
            if (random.nextInt(12) == 0) {
                put(roofs, TEXTS[random.nextInt(TEXTS.length)]);
                int sort = random.nextInt(2);
                answers.add((long) roofs.text(sort));
            }
            Method method = face.get(random.nextInt(face.size()));
            Object[] with = arguments(method, random);
            if (beside) {
                call(method, other, with);
            }
            answers.add(call(method, roofs, with));
        }
        return answers;
    }

    private static void put(AgeRoofs roofs, String text) {
        roofs.end(0);
        for (int at = 0; at < text.length(); at += 20) {
            int[] five = new int[5];
            for (int k = 0; k < 20 && at + k < text.length(); k++) {
                five[k / 4] |= text.charAt(at + k) << 24 - 8 * (k % 4);
            }
            roofs.feed(five[0], five[1], five[2], five[3], five[4]);
        }
    }

    private static Object[] arguments(Method method, Random random) {
        Class<?>[] types = method.getParameterTypes();
        Object[] with = new Object[types.length];
        for (int k = 0; k < with.length; k++) {
            if (types[k] == long.class) {
                with[k] = random.nextLong();
            } else {
                int kind = random.nextInt(8);
                with[k] = kind == 0 ? random.nextInt() : kind < 3 ? EDGES[random.nextInt(EDGES.length)] : kind < 4 ? random.nextInt(721) : random.nextInt(4) - 1;
            }
        }
        return with;
    }

    private static long call(Method method, AgeRoofs roofs, Object[] with) throws IllegalAccessException {
        try {
            Object answer = method.invoke(roofs, with);
            return answer == null ? 0 : answer instanceof Boolean ? ((Boolean) answer ? 1 : 0) : (Integer) answer;
        } catch (InvocationTargetException e) {
            boolean named = method.getName().equals("person") && e.getCause().getClass() == NoSuchElementException.class;
            if (!named) {
                fail(method.getName() + Arrays.toString(with) + " threw " + e.getCause());
            }
            return 1L << 40;
        }
    }

    private static void constants() {
        if (AgeRoofs.NONE != -1 || AgeRoofs.HIDDEN != -1000000 || AgeRoofs.class.getFields().length != 2) {
            fail("the constants are not as due");
        }
    }

    /** One run may make some 7 million fields and elements in all: 512 of the dearest calls stay far below. */
    private static void room() {
        if (!(ManagementFactory.getThreadMXBean() instanceof com.sun.management.ThreadMXBean)) {
            return;
        }
        com.sun.management.ThreadMXBean bean = (com.sun.management.ThreadMXBean) ManagementFactory.getThreadMXBean();
        AgeRoofs roofs = new AgeRoofs();
        put(roofs, "py20h0;py21h1;py22h2;py23h0;py24h1;r;r;r");
        roofs.text(0);
        long self = Thread.currentThread().getId();
        bean.getThreadAllocatedBytes(self);
        long before = bean.getThreadAllocatedBytes(self);
        int sum = 0;
        for (int k = 0; k < 512; k++) {
            sum += roofs.moves(720) + roofs.night(k, 0) + roofs.bars(720) + roofs.fewest(720, k % 2) + roofs.best(1);
            sum += roofs.turn() + roofs.days(1) + roofs.judge(720, 1) + roofs.wants(720, 3) + roofs.guests(0, 720, 1);
            sum += roofs.fault(k % 2) + roofs.text(k % 2) + roofs.image() + roofs.back() + roofs.known(20, 0);
        }
        long made = bean.getThreadAllocatedBytes(self) - before;
        if (made > 100000) {
            fail("7680 calls made " + made + " bytes of objects (" + sum + ")");
        }
    }
}
