import java.lang.management.ManagementFactory;
import java.lang.reflect.Array;
import java.lang.reflect.Field;
import java.lang.reflect.Method;
import java.lang.reflect.Modifier;
import java.util.ArrayList;
import java.util.Collections;
import java.util.IdentityHashMap;
import java.util.List;
import java.util.Random;
import java.util.Set;

/** No call throws, whatever is asked in whatever state; and no call makes an object, so that a run fits its room. */
public final class RoomRuns {
    private static final long[] ODD = {
        Integer.MIN_VALUE, Integer.MIN_VALUE + 1, -1000000001, -257, -2, -1, 0, 1, 2, 3, 4, 8, 9, 10, 16, 23, 24, 25, 32,
        60, 199, 200, 201, 511, 512, 9999, 65536, 1 << 30, Integer.MAX_VALUE - 1, Integer.MAX_VALUE};

    private static Method[] face() {
        List<Method> face = new ArrayList<>();
        for (Method method : StandStill.class.getDeclaredMethods()) {
            if (Modifier.isPublic(method.getModifiers())) {
                face.add(method);
            }
        }
        face.sort((a, b) -> a.getName().compareTo(b.getName()));
        return face.toArray(new Method[0]);
    }

    private static Object[] drawn(Random random, Method method, boolean odd) {
        Object[] v = new Object[method.getParameterCount()];
        for (int a = 0; a < v.length; a++) {
            long value = odd ? ODD[random.nextInt(ODD.length)] : random.nextInt(10);
            v[a] = method.getParameterTypes()[a] == long.class ? (Object) value : (Object) (int) value;
        }
        return v;
    }

    private static void nothingThrows() {
        Method[] face = face();
        for (int run = 0; run < 1000; run++) {
            Random random = new Random(run);
            StandStill x = new StandStill();
            for (int call = 0; call < 512; call++) {
                Method method = face[random.nextInt(face.length)];
                try {
                    method.invoke(x, drawn(random, method, random.nextBoolean()));
                } catch (ReflectiveOperationException e) {
                    Due.holds("run " + run + ", call " + call + ": " + method.getName() + " throws " + e.getCause(),
                        false);
                }
            }
        }
    }

    /** The longest texts that work out most, all who stand shaken often: the dearest state there is. */
    private static StandStill busy() {
        StandStill x = new StandStill();
        Due.text(x, 0, "(p%7+s*m/3<5|p>9&!m)%2+1+p/999+m-m+s-s+p-p");
        Due.text(x, 1, "(d<9)*(p%3+m/2+1)+(d=1|d=2)*!(p<1)*3+d-d+m-m");
        for (int i = 0; i < 9; i++) {
            x.stander(i, 60 + i);
            x.patience(i, 20 + 9 * i);
        }
        for (int sheet = 0; sheet < 4; sheet++) {
            x.sheet(sheet, 32, 24);
            for (int i = 0; i < 24; i++) {
                x.put(sheet, i, 1 + (i + sheet) % 8);
            }
        }
        x.image();
        return x;
    }

    private static long everyCall(StandStill x) {
        long sum = x.stander(0, 61) + x.standerIs(0, 5) + x.as(0, 0) + x.patience(0, 50) + x.swap(0, 1);
        sum += x.again(0, 5) + x.sun(2) + x.at(3) + x.feed(0x312B31L, 3) + x.text(0) + x.untell(0) + x.minutes(1);
        sum += x.fly(0) + x.poke(0) + x.draws(9) + x.seed(1) + x.restore() + x.then(200, 1, 4) + x.standing(200);
        sum += x.lasts(1) + x.lastOne() + x.round(8, 3, 1) + x.change(7, 0) + x.empties(1) + x.whose(511);
        sum += x.slate(0, 0) + x.voice(0, 3, 7) + x.body(0) + x.sheet(0, 8, 24) + x.put(0, 1, 2);
        sum += x.move(1, 0, 2, 1, 20) + x.flies(1) + x.judge(2) + x.image() + x.restore() + x.tell(1) + x.check();
        return sum + x.count(3) + x.told(1);
    }

    private static long bytesMade() {
        return ((com.sun.management.ThreadMXBean) ManagementFactory.getThreadMXBean()).getCurrentThreadAllocatedBytes();
    }

    private static void noCallMakesObjects() {
        long sum = 0;
        for (int warm = 0; warm < 3; warm++) {
            sum += everyCall(busy());
        }
        StandStill x = busy();
        bytesMade();
        long before = bytesMade();
        for (int round = 0; round < 8; round++) {
            sum += everyCall(x);
        }
        long made = bytesMade() - before;
        Due.holds("312 calls make no objects, but made bytes: " + made + " (" + sum + ")", made < 312 * 8);
    }

    /** Objects and arrays, and fields and elements, that hang on a new object. */
    private static int[] sizeOf(Object one, Set<Object> seen) throws IllegalAccessException {
        int[] size = {0, 0};
        if (one == null || !seen.add(one)) {
            return size;
        }
        size[0]++;
        List<Object> parts = new ArrayList<>();
        if (one.getClass().isArray()) {
            size[1] += Array.getLength(one);
            for (int i = 0; !one.getClass().getComponentType().isPrimitive() && i < Array.getLength(one); i++) {
                parts.add(Array.get(one, i));
            }
        }
        for (Class<?> of = one.getClass(); of != null && !of.isArray(); of = of.getSuperclass()) {
            for (Field field : of.getDeclaredFields()) {
                if (!Modifier.isStatic(field.getModifiers())) {
                    size[1]++;
                    field.setAccessible(true);
                    if (!field.getType().isPrimitive()) {
                        parts.add(field.get(one));
                    }
                }
            }
        }
        for (Object part : parts) {
            int[] more = sizeOf(part, seen);
            size[0] += more[0];
            size[1] += more[1];
        }
        return size;
    }

    private static void newObjectIsSmall() throws IllegalAccessException {
        int[] size = sizeOf(new StandStill(), Collections.newSetFromMap(new IdentityHashMap<>()));
        System.out.println("a new object: " + size[0] + " objects and arrays, " + size[1] + " fields and elements");
        Due.holds("a new object is made of at most 100 objects and arrays", size[0] <= 100);
        Due.holds("a new object has at most 2000 fields and elements", size[1] <= 2000);
    }

    public static void main(String[] args) throws IllegalAccessException {
        nothingThrows();
        noCallMakesObjects();
        newObjectIsSmall();
        Due.end("RoomRuns");
    }
}
