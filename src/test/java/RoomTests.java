import java.lang.management.ManagementFactory;
import java.lang.reflect.Array;
import java.lang.reflect.Field;
import java.lang.reflect.Modifier;
import java.util.ArrayDeque;
import java.util.Collections;
import java.util.Deque;
import java.util.IdentityHashMap;
import java.util.Set;

/** What an object holds, and that its calls make nothing: all calls of a run live in one room. */
public final class RoomTests {
    private static final int MOST_OBJECTS = 200, MOST_ELEMENTS = 12000, MOST_BYTES = 4096;

    public static void main(String[] args) throws Exception {
        boolean good = isSmall(new TurnedStones());
        good &= makesNothing();
        if (!good) System.exit(1);
    }

    private static boolean isSmall(Object root) throws Exception {
        Set<Object> seen = Collections.newSetFromMap(new IdentityHashMap<>());
        Deque<Object> open = new ArrayDeque<>();
        open.add(root);
        seen.add(root);
        long elements = 0;
        while (!open.isEmpty()) {
            Object one = open.remove();
            Class<?> kind = one.getClass();
            if (kind.isArray()) {
                int n = Array.getLength(one);
                elements += n;
                for (int i = 0; !kind.getComponentType().isPrimitive() && i < n; i++) visit(Array.get(one, i), seen, open);
                continue;
            }
            for (Field field : kind.getDeclaredFields()) {
                if (Modifier.isStatic(field.getModifiers())) continue;
                elements++;
                field.setAccessible(true);
                if (!field.getType().isPrimitive()) visit(field.get(one), seen, open);
            }
        }
        System.out.println("an object holds " + seen.size() + " objects, " + elements + " fields and elements");
        return seen.size() <= MOST_OBJECTS && elements <= MOST_ELEMENTS;
    }

    private static void visit(Object one, Set<Object> seen, Deque<Object> open) {
        if (one != null && seen.add(one)) open.add(one);
    }

    private static boolean makesNothing() {
        com.sun.management.ThreadMXBean bean = (com.sun.management.ThreadMXBean) ManagementFactory.getThreadMXBean();
        TurnedStones x = new TurnedStones();
        String town = "g32 sabcd sbcda xcdab0h sdabc habcd cbcda1";
        use(x, town);
        long thread = Thread.currentThread().getId();
        long before = bean.getThreadAllocatedBytes(thread);
        for (int i = 0; i < 20; i++) use(x, town);
        long made = bean.getThreadAllocatedBytes(thread) - before;
        System.out.println("twenty rounds of all calls made " + made + " bytes");
        return made <= MOST_BYTES;
    }

    private static void use(TurnedStones x, String town) {
        x.text(0, town.length());
        for (int i = 0; i < town.length(); i++) x.put(0, i, town.charAt(i));
        x.fault(0);
        x.town(0);
        x.row(0, 3);
        x.row(1, 3);
        for (int l = 0; l < 4; l++) {
            x.lay(0, 0, l);
            x.lay(0, 2, 7 - l);
            x.law(l, 0);
            x.stands(l);
            x.mend(l);
            x.contest(l, 12);
        }
        x.copy(0, 0, 1, 0, 3);
        x.mean(1);
        x.mark(2, 1);
        x.stone(0, 0);
        x.laws();
        x.turn(0);
        x.till(1, 0);
        x.keep(0);
        x.on(0);
        x.state();
        for (int set = 0; set < 16; set++) {
            x.years(set);
            x.way(set, 2);
            x.lost(set);
            x.share(set);
            x.lives(set, 5);
        }
        x.together();
        x.reads(1, 0, 3);
        x.engrave(9, 1, 0, 3);
        x.histories(9);
        x.when(9, 0);
        x.turned(9, 9);
        x.odds(9, 5, 0);
        x.lose(0);
        x.count(0);
        x.digest();
        x.tear(3);
    }
}
