import java.lang.reflect.Array;
import java.lang.reflect.Field;
import java.lang.reflect.Modifier;
import java.util.ArrayDeque;
import java.util.Collections;
import java.util.Deque;
import java.util.IdentityHashMap;
import java.util.Set;

/**
 * The room of a run: an object holds few objects, fields and elements, and holds no more and no
 * others after any calls, so that only 'new HummingSet()' counts.
 */
public final class RoomTest {
    private static final int OBJECTS_MOST = 150;
    private static final int FIELDS_MOST = 2000;

    private final Set<Object> objects = Collections.newSetFromMap(new IdentityHashMap<>());
    private int fields;

    private RoomTest(Object from) throws IllegalAccessException {
        Deque<Object> open = new ArrayDeque<>();
        open.add(from);
        while (!open.isEmpty()) {
            Object next = open.remove();
            if (objects.add(next)) {
                look(next, open);
            }
        }
    }

    public static void main(String[] args) throws IllegalAccessException {
        HummingSet x = new HummingSet();
        RoomTest before = new RoomTest(x);
        System.out.println(before.objects.size() + " objects and arrays, " + before.fields + " fields and elements");
        Check.holds("few objects: " + before.objects.size(), before.objects.size() <= OBJECTS_MOST);
        Check.holds("few fields and elements: " + before.fields, before.fields <= FIELDS_MOST);
        useAll(x);
        RoomTest after = new RoomTest(x);
        Check.due("objects then", after.objects.size(), before.objects.size());
        Check.due("fields and elements then", after.fields, before.fields);
        Check.holds("the same objects", after.objects.containsAll(before.objects));
        Check.end();
    }

    private void look(Object at, Deque<Object> open) throws IllegalAccessException {
        if (at.getClass().isArray()) {
            fields += Array.getLength(at);
            for (int i = 0; !at.getClass().getComponentType().isPrimitive() && i < Array.getLength(at); i++) {
                Check.holds("no element is null", Array.get(at, i) != null);
                open.add(Array.get(at, i));
            }
            return;
        }
        for (Field f : at.getClass().getDeclaredFields()) {
            if (!Modifier.isStatic(f.getModifiers())) {
                fields++;
                f.setAccessible(true);
                if (!f.getType().isPrimitive()) {
                    Check.holds(f + " is not null", f.get(at) != null);
                    open.add(f.get(at));
                }
            }
        }
    }

    /** Each call once at least, with most of all laid and ANSWERED, and refused ones. */
    private static void useAll(HummingSet x) {
        Situation.most(x);
        for (int i = 0; i < 3; i++) {
            x.fault();
            x.lay();
            x.keep();
            x.back();
            x.answer(4, i, 30, i);
            x.part(i, i);
            x.hum(255, i, 30);
            x.in(255, i, i, 30);
            x.heard(255, 30, i);
            x.ask(255, i, 0, 30);
            x.risk(i, 0);
            x.volts(i, 999);
            x.safe();
            x.possible(i);
            x.odds(i, 1);
            x.likeliest();
            x.next(30, i);
            x.change(90, i);
            x.oneByOne(i);
            x.louder(255);
            x.howls();
            x.goes(i, 50);
            x.nextToGo(50);
            x.set(9999);
            x.count(i);
            x.forget();
            x.wipe();
            Check.write(x, Situation.MOST);
        }
    }
}
