import java.lang.reflect.Constructor;
import java.lang.reflect.Field;
import java.lang.reflect.Method;
import java.lang.reflect.Modifier;
import java.util.Arrays;
import java.util.List;
import java.util.Set;
import java.util.TreeSet;

/** The public face is that of the document, no less and no more. */
public final class FaceTest {
    private static final String FACE = """
            air/3 as/2 back/0 be/3 birth/1 build/3 cargo/1 cell/1 check/3 city/1 clean/1 copy/5 count/1 dark/2
            depth/1 drop/1 enough/0 feed/3 find/1 gauge/3 give/3 harm/3 has/2 hold/1 is/2 keep/0 known/2 lack/2
            load/3 lock/3 lot/2 may/3 of/2 order/1 person/3 plan/2 planned/2 point/3 read/2 run/1 say/2 set/2
            sew/1 sewn/4 share/2 shed/0 ship/3 shows/3 store/2 table/3 takes/2 tally/0 tell/1 tested/2 text/0
            told/2 trim/1 tune/3 turn/3 weather/2 why/1 window/1 work/5 worst/2""";
    private static final String CONSTANTS = "BAD FULL INDEX KIND NO NONE NOTHING SIZE SPENT";

    public static void main(String[] args) {
        Due d = new Due();
        Class<?> c = AcidCity.class;
        d.eq("final and public", c.getModifiers() & (Modifier.PUBLIC | Modifier.FINAL), Modifier.PUBLIC | Modifier.FINAL);
        Set<String> methods = new TreeSet<>();
        Set<String> hidden = new TreeSet<>();
        for (Method m : c.getDeclaredMethods()) {
            if (Modifier.isPublic(m.getModifiers())) {
                methods.add(m.getName() + "/" + m.getParameterCount());
                d.eq(m + " is of an int", m.getReturnType() == int.class && !Modifier.isStatic(m.getModifiers()) ? 1 : 0, 1);
            } else {
                d.eq(m + " is private", Modifier.isPrivate(m.getModifiers()) ? 1 : 0, 1);
                hidden.add(m.getName());
            }
        }
        d.same("methods", methods, new TreeSet<>(List.of(FACE.split("\\s+"))));
        Set<String> fields = new TreeSet<>();
        for (Field f : c.getDeclaredFields()) {
            if (!Modifier.isPrivate(f.getModifiers())) {
                fields.add(f.getName());
                int wanted = Modifier.PUBLIC | Modifier.STATIC | Modifier.FINAL;
                d.eq(f + " is a constant", f.getModifiers() & wanted, wanted);
            }
        }
        d.same("constants", fields, new TreeSet<>(Arrays.asList(CONSTANTS.split(" "))));
        Constructor<?>[] made = c.getDeclaredConstructors();
        d.eq("constructors", made.length, 1);
        d.eq("of no parameters", made[0].getParameterCount(), 0);
        d.eq("public", Modifier.isPublic(made[0].getModifiers()) ? 1 : 0, 1);
        for (Class<?> in : c.getDeclaredClasses()) {
            d.eq(in + " is static", Modifier.isStatic(in.getModifiers()) && !Modifier.isPublic(in.getModifiers()) ? 1 : 0, 1);
            for (Method m : in.getDeclaredMethods()) {
                hidden.add(m.getName());
            }
        }
        for (String name : FACE.split("\\s+")) {
            String bare = name.substring(0, name.indexOf('/'));
            d.eq("no hidden method is called " + bare, hidden.contains(bare) ? 1 : 0, 0);
        }
        d.eq("BAD", AcidCity.BAD, -1000000001);
        d.eq("NO", AcidCity.NO, -1000000002);
        d.eq("FULL", AcidCity.FULL, -1000000003);
        d.eq("SPENT", AcidCity.SPENT, -1000000004);
        d.eq("NONE", AcidCity.NONE, -1000000005);
        d.eq("NOTHING", AcidCity.NOTHING, -1000000011);
        d.eq("KIND", AcidCity.KIND, -1000000012);
        d.eq("INDEX", AcidCity.INDEX, -1000000013);
        d.eq("SIZE", AcidCity.SIZE, -1000000014);
        d.end();
    }
}
