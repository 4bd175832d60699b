import java.io.DataInputStream;
import java.io.IOException;
import java.io.InputStream;
import java.lang.reflect.Constructor;
import java.lang.reflect.Executable;
import java.lang.reflect.Field;
import java.lang.reflect.Method;
import java.lang.reflect.Modifier;
import java.nio.file.Files;
import java.nio.file.Path;
import java.util.Set;
import java.util.TreeSet;
import java.util.regex.Matcher;
import java.util.regex.Pattern;

/** The face is the document's, to the letter, and the source keeps to what of LANGUAGE.md can be seen from outside. */
public final class FaceTests {
    private static final Path SOURCE = Path.of("src/main/java/Rangecodermill.java");
    private static final String I = "IllegalArgumentException";
    private static final String X = "IndexOutOfBoundsException";
    private static final String S = "IllegalStateException";
    private static final String[] FACE = {
        "int signs(int) " + I, "int weight(int,int) " + X + " " + I, "int growth(int,int) " + I, "int back(int,int) " + I,
        "int say(int,int,int,int,int,int) " + X + " " + S, "int rub(int) " + I, "int take(int,int,int) " + X + " " + I,
        "int learn()", "int keep(int) " + I + " " + S, "int turn(int,int) " + X + " " + I, "int burn()", "int blank()",
        "int knock()", "String typed()", "int house(int) " + I, "int weightOf(int) " + X, "int steps(int) " + I,
        "int ofStep(int,int,int) " + I, "int next(int,int) " + I, "String bits(int) " + I, "int cost(int) " + I,
        "String bound(int,boolean) " + I, "int least(int,boolean) " + I, "String bitsOf(int) " + X,
        "String read(int,int,int) " + X + " " + I, "String turned(int,int) " + I, "String extreme(int,int,boolean) " + I,
        "int allCosts(int,int) " + I, "String blocks()", "int blockCost()", "int saving()", "boolean isSound()",
        "long digest()",
    };
    private static final String[] NOWHERE = {
        "import ", "package ", "catch", "finally", "synchronized", "assert ", "->", "::", "System.", "instanceof", "static {",
        "try {", "@Override", ".hashCode", ".format(", "valueOf",
    };
    /** Of what LANGUAGE.md's rules 4 and 6 allow, what this class needs. */
    private static final Set<String> LIBRARY = Set.of(
        "java/lang/Object.<init>()V", "java/lang/Math.min(II)I", "java/lang/Math.min(JJ)J", "java/lang/Math.max(II)I",
        "java/lang/StringBuilder.<init>()V", "java/lang/StringBuilder.append(C)Ljava/lang/StringBuilder;",
        "java/lang/StringBuilder.append(I)Ljava/lang/StringBuilder;", "java/lang/StringBuilder.toString()Ljava/lang/String;",
        "java/lang/IllegalArgumentException.<init>(Ljava/lang/String;)V",
        "java/lang/IndexOutOfBoundsException.<init>(Ljava/lang/String;)V",
        "java/lang/IllegalStateException.<init>(Ljava/lang/String;)V");
    private static int wrong = 0;

    public static void main(String[] args) throws IOException {
        members();
        nested();
        source();
        library(Rangecodermill.class);
        for (Class<?> type : Rangecodermill.class.getDeclaredClasses()) {
            library(type);
        }
        room();
        System.out.println(wrong == 0 ? "the face is as it must be" : wrong + " things are wrong");
        if (wrong != 0) {
            System.exit(1);
        }
    }

    private static void holds(boolean isSo, String what) {
        if (!isSo) {
            wrong++;
            System.out.println("wrong: " + what);
        }
    }

    private static String thrown(Executable call) {
        StringBuilder thrown = new StringBuilder();
        for (Class<?> type : call.getExceptionTypes()) {
            thrown.append(' ').append(type.getSimpleName());
        }
        return thrown.toString();
    }

    private static String told(Method m) {
        StringBuilder told = new StringBuilder(m.getReturnType().getSimpleName() + " " + m.getName() + "(");
        for (Class<?> type : m.getParameterTypes()) {
            told.append(told.charAt(told.length() - 1) == '(' ? "" : ",").append(type.getSimpleName());
        }
        return told + ")" + thrown(m);
    }

    private static void members() {
        Set<String> due = new TreeSet<>(Set.of(FACE));
        Set<String> names = new TreeSet<>();
        for (Method m : Rangecodermill.class.getDeclaredMethods()) {
            if (Modifier.isPublic(m.getModifiers())) {
                holds(due.remove(told(m)), "not in the document: " + told(m));
                names.add(m.getName());
            } else {
                holds(Modifier.isPrivate(m.getModifiers()), "neither public nor private: " + m);
            }
        }
        holds(due.isEmpty(), "missing: " + due);
        for (Method m : Rangecodermill.class.getDeclaredMethods()) {
            holds(Modifier.isPublic(m.getModifiers()) || !names.contains(m.getName()), "named as a public one: " + m);
        }
        for (Field f : Rangecodermill.class.getDeclaredFields()) {
            holds(Modifier.isPrivate(f.getModifiers()), "not private: " + f);
            holds(!Modifier.isStatic(f.getModifiers()) || Modifier.isFinal(f.getModifiers()), "static, not final: " + f);
        }
        Constructor<?>[] made = Rangecodermill.class.getDeclaredConstructors();
        holds(made.length == 1 && Modifier.isPublic(made[0].getModifiers()) && made[0].getParameterCount() == 0
            && thrown(made[0]).isEmpty(), "the constructor");
        int of = Rangecodermill.class.getModifiers();
        holds(Modifier.isPublic(of) && Modifier.isFinal(of), "the class is public and final");
    }

    private static void nested() {
        Class<?>[] nested = Rangecodermill.class.getDeclaredClasses();
        holds(nested.length <= 12, "some twelve classes");
        for (Class<?> type : nested) {
            holds(Modifier.isPrivate(type.getModifiers()) && Modifier.isStatic(type.getModifiers()), "not private, static: " + type);
            int fields = 0;
            for (Field f : type.getDeclaredFields()) {
                fields += Modifier.isStatic(f.getModifiers()) ? 0 : 1;
                holds(!Modifier.isStatic(f.getModifiers()) || Modifier.isFinal(f.getModifiers()), "static, not final: " + f);
            }
            holds(fields <= 20, "some twenty fields: " + type);
            for (Method m : type.getDeclaredMethods()) {
                holds(!Modifier.isPublic(m.getModifiers()) && m.getParameterCount() <= 7, "public, or too many parameters: " + m);
            }
        }
    }

    private static void source() throws IOException {
        String code = Files.readString(SOURCE).replaceAll("(?s)/\\*.*?\\*/", "").replaceAll("//[^\n]*", "");
        for (String word : NOWHERE) {
            holds(!code.contains(word), "in the source: " + word);
        }
        Matcher joined = Pattern.compile("\"\\s*\\+|\\+\\s*\"").matcher(code);
        holds(!joined.find(), "texts joined by +");
        Matcher method = Pattern.compile("(?m)^( +)[a-zA-Z][^;=\n]*\\)( throws [A-Za-z, ]+)? \\{\n((?!\\1\\}).*\n)*").matcher(code);
        while (method.find()) {
            holds(method.group().split("\n").length <= 60, "too long: " + method.group().split("\n")[0]);
        }
    }

    /** What the compiled class names of the library: no more than LANGUAGE.md lists. */
    private static void library(Class<?> type) throws IOException {
        try (InputStream file = type.getResourceAsStream(type.getName() + ".class")) {
            if (file == null) {
                holds(false, "no class file: " + type);
                return;
            }
            for (String name : namedOutside(new DataInputStream(file))) {
                holds(LIBRARY.contains(name), "not in the library that is allowed: " + name + " in " + type);
            }
        }
    }

    /** The methods and fields in a class file's table of constants that are none of the class's own. */
    private static Set<String> namedOutside(DataInputStream file) throws IOException {
        file.readInt();
        file.readInt();
        int many = file.readUnsignedShort();
        String[] texts = new String[many];
        int[][] pairs = new int[many][];
        int[] tags = new int[many];
        for (int n = 1; n < many; n++) {
            tags[n] = file.readUnsignedByte();
            switch (tags[n]) {
                case 1: texts[n] = file.readUTF(); break;
                case 3: case 4: file.readInt(); break;
                case 5: case 6: file.readLong(); n++; break;
                case 7: case 8: case 16: case 19: case 20: pairs[n] = new int[] {file.readUnsignedShort(), 0}; break;
                case 15: file.readUnsignedByte(); file.readUnsignedShort(); break;
                default: pairs[n] = new int[] {file.readUnsignedShort(), file.readUnsignedShort()};
            }
        }
        Set<String> named = new TreeSet<>();
        for (int n = 1; n < many; n++) {
            boolean isDynamic = tags[n] == 17 || tags[n] == 18;
            if (isDynamic || tags[n] >= 9 && tags[n] <= 11) {
                String owner = isDynamic ? "invokedynamic" : texts[pairs[pairs[n][0]][0]];
                if (!owner.startsWith("Rangecodermill")) {
                    named.add(owner + "." + texts[pairs[pairs[n][1]][0]] + texts[pairs[pairs[n][1]][1]]);
                }
            }
        }
        return named;
    }

    /** What a run makes stays far from 7.3 million elements, counted as bytes, and 512 calls of it. */
    private static void room() {
        com.sun.management.ThreadMXBean meter =
            (com.sun.management.ThreadMXBean) java.lang.management.ManagementFactory.getThreadMXBean();
        long own = Thread.currentThread().getId();
        Rangecodermill x = new Rangecodermill();
        x.signs(6);
        for (int s = 0; s < 5; s++) {
            x.weight(s, 30);
        }
        x.say(5, 5, 5, 5, 5, 5);
        x.say(5, 0, 1, 5, 2, 3);
        x.say(5, 4, 5, 5, -1, -1);
        x.keep(0);
        long before = meter.getThreadAllocatedBytes(own);
        for (int n = 0; n < 100; n++) {
            x.digest();
            x.bits(0);
            x.bound(0, true);
            x.extreme(2, 2, true);
            x.blocks();
            x.read(0, 0, 16);
        }
        long each = (meter.getThreadAllocatedBytes(own) - before) / 100;
        holds(each < 7_300_000 / 512, "bytes made by six calls: " + each);
    }
}
