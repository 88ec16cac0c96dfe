import java.lang.reflect.Constructor;
import java.lang.reflect.Field;
import java.lang.reflect.Method;
import java.lang.reflect.Modifier;
import java.util.Arrays;
import java.util.TreeSet;

/** The public face: every member of it with its arguments and results, and no other; and the bounds on classes. */
public final class FaceTest {
    private static final String METHODS = "set:2 buy:4 move:2 scrap:1 order:4 cancel:1 cut:2 plan:1 pass:1 perform:0 type:c "
            + "clearText:0 undo:0 keep:0 restore:0 sheet:2 at:2 ordered:2 would:3 choice:2 next:1 wouldPlan:2 count:1";

    private FaceTest() {
    }

    public static void main(String[] args) throws Exception {
        Due.due("UNKNOWN", GlassRacks.UNKNOWN, -1);
        Due.due("BAD_VALUE", GlassRacks.BAD_VALUE, -2);
        Due.due("FULL", GlassRacks.FULL, -3);
        Due.due("NOT_POSSIBLE", GlassRacks.NOT_POSSIBLE, -4);
        Due.due("NONE", GlassRacks.NONE, -5);
        Due.due("public and final", GlassRacks.class.getModifiers(), Modifier.PUBLIC | Modifier.FINAL);
        methods();
        constants();
        if (Document.IS_THERE) {
            asInTheDocument();
        }
        Constructor<?>[] constructors = GlassRacks.class.getDeclaredConstructors();
        Due.due("one constructor", constructors.length, 1);
        Due.due("without arguments", constructors[0].getParameterCount(), 0);
        Due.due("which is public", constructors[0].getModifiers(), Modifier.PUBLIC);
        classesInside();
        Due.finish();
    }

    private static void methods() {
        TreeSet<String> want = new TreeSet<>(Arrays.asList(METHODS.split(" ")));
        TreeSet<String> got = new TreeSet<>();
        TreeSet<String> hidden = new TreeSet<>();
        for (Method method : GlassRacks.class.getDeclaredMethods()) {
            if (Modifier.isPrivate(method.getModifiers())) {
                hidden.add(method.getName());
                continue;
            }
            Due.due(method + " is public, no more", method.getModifiers(), Modifier.PUBLIC);
            Due.due(method + " answers an int", method.getReturnType() == int.class ? 1 : 0, 1);
            boolean typed = Arrays.equals(method.getParameterTypes(), new Class<?>[] {char.class});
            for (Class<?> type : method.getParameterTypes()) {
                Due.due(method + " takes ints", type == int.class || typed ? 1 : 0, 1);
            }
            got.add(method.getName() + ":" + (typed ? "c" : String.valueOf(method.getParameterCount())));
        }
        Due.due("methods " + got, got.equals(want) ? 1 : 0, 1);
        for (Class<?> inside : GlassRacks.class.getDeclaredClasses()) {
            for (Method method : inside.getDeclaredMethods()) {
                hidden.add(method.getName());
            }
        }
        for (String name : want) {
            String bare = name.substring(0, name.indexOf(':'));
            Due.due("no other method is named " + bare, hidden.contains(bare) ? 1 : 0, 0);
        }
    }

    /** Each public member stands in the document's block, and no other line begins with "public" there. */
    private static void asInTheDocument() throws Exception {
        String face = Document.face();
        int members = 1;
        for (Method method : GlassRacks.class.getDeclaredMethods()) {
            if (Modifier.isPublic(method.getModifiers())) {
                members++;
                StringBuilder types = new StringBuilder();
                for (Class<?> type : method.getParameterTypes()) {
                    types.append(types.length() == 0 ? "" : ", ").append(type.getName()).append(" \\w+");
                }
                String line = "(?s).*    public int " + method.getName() + "\\(" + types + "\\);\n.*";
                Due.due("the document has " + method, face.matches(line) ? 1 : 0, 1);
            }
        }
        for (Field field : GlassRacks.class.getDeclaredFields()) {
            if (Modifier.isPublic(field.getModifiers())) {
                members++;
                String line = "    public static final int " + field.getName() + " = " + field.getInt(null) + ";\n";
                Due.due("the document has " + field, face.contains(line) ? 1 : 0, 1);
            }
        }
        Due.due("members in the document", face.split("\n    public ").length - 1, members);
    }

    private static void constants() {
        int seen = 0;
        for (Field field : GlassRacks.class.getDeclaredFields()) {
            if (!Modifier.isPrivate(field.getModifiers())) {
                seen++;
                Due.due(field + " is a constant", field.getModifiers(), Modifier.PUBLIC | Modifier.STATIC | Modifier.FINAL);
            }
        }
        Due.due("constants", seen, 5);
    }

    private static void classesInside() {
        Class<?>[] inside = GlassRacks.class.getDeclaredClasses();
        Due.due("at most twelve classes", inside.length <= 12 ? 1 : 0, 1);
        for (Class<?> one : inside) {
            Due.due(one + " is static", Modifier.isStatic(one.getModifiers()) ? 1 : 0, 1);
            Due.due(one + " is not public", Modifier.isPublic(one.getModifiers()) ? 1 : 0, 0);
            int fields = 0;
            for (Field field : one.getDeclaredFields()) {
                if (Modifier.isStatic(field.getModifiers())) {
                    Due.due(field + " is final", Modifier.isFinal(field.getModifiers()) ? 1 : 0, 1);
                } else {
                    fields++;
                }
            }
            Due.due(one + " has at most twenty fields", fields <= 20 ? 1 : 0, 1);
        }
    }
}
