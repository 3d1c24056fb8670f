/** Promise 1: a new object; and the face with its constant. */
public final class NewObjectTest {
    public static void main(String[] args) {
        Due due = new Due("NewObjectTest");
        int[][] turns = {{Integer.MIN_VALUE, 0}, {-1, 0}, {0, 0}, {1, 1}, {2, 2}, {3, 2}, {Integer.MAX_VALUE, 2}};
        for (int[] turn : turns) {
            due.same("told(0) of a new object of " + turn[0], new LineFrames(turn[0]).told(0), turn[1]);
        }
        due.same("NONE", LineFrames.NONE, -1);
        nothingIsThere(due);
        onlyTheFaceIsSeen(due);
        due.end();
    }

    private static void nothingIsThere(Due due) {
        LineFrames x = new LineFrames(1);
        for (int what = 1; what <= 7; what++) {
            due.same("told(" + what + ") of a new object", x.told(what), 0);
        }
        due.state("put", () -> x.put(-1, 0, 0, -1));
        due.state("preset", () -> x.preset(7, 0));
        due.state("table", () -> x.table(9, 0, -1));
        due.state("note", () -> x.note(-1));
        due.state("byteOf", () -> x.byteOf(0, -1));
        due.state("write", () -> x.write(9));
        due.state("at", () -> x.at(-1, 0, 0, false));
        due.state("found", () -> x.found(99));
        due.state("noteAt", () -> x.noteAt(-1, 0));
        due.index("byteAt", () -> x.byteAt(0));
        due.index("pass", () -> x.pass(0, -1));
        due.index("alter", () -> x.alter(0, 256));
    }

    private static void onlyTheFaceIsSeen(Due due) {
        due.same("public methods", LineFrames.class.getMethods().length - Object.class.getMethods().length, 17);
        due.same("public constructors", LineFrames.class.getConstructors().length, 1);
        due.same("all constructors", LineFrames.class.getDeclaredConstructors().length, 1);
        due.same("public fields", LineFrames.class.getFields().length, 1);
        for (java.lang.reflect.Method m : LineFrames.class.getDeclaredMethods()) {
            boolean open = java.lang.reflect.Modifier.isPublic(m.getModifiers());
            boolean closed = java.lang.reflect.Modifier.isPrivate(m.getModifiers());
            if (!open && !closed && !m.isSynthetic()) {
                due.fault("seen in the package: " + m);
            }
        }
        for (java.lang.reflect.Field f : LineFrames.class.getDeclaredFields()) {
            boolean constant = f.getName().equals("NONE");
            if (!constant && !java.lang.reflect.Modifier.isPrivate(f.getModifiers())) {
                due.fault("seen outside: " + f);
            }
        }
    }
}
