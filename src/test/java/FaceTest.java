import java.lang.reflect.Modifier;
import java.util.Arrays;
import java.util.TreeSet;

/** The public face of the class: what the document names, and nothing else. */
public final class FaceTest {
    public static void main(String[] args) throws ReflectiveOperationException {
        TreeSet<String> names = new TreeSet<>();
        for (var method : FindTree.class.getDeclaredMethods()) {
            if (!method.isSynthetic() && !Modifier.isPrivate(method.getModifiers())) {
                names.add(method.getReturnType() + " " + method.getName() + " "
                    + Arrays.toString(method.getParameterTypes()));
            }
        }
        Probe.due("methods", names.toString(), new TreeSet<>(Arrays.asList(
            "int type [int, int, int, int, int]", "int erase []", "int make [boolean, int, int]", "int link [int]",
            "int tie []", "int drop []", "int bits [int]", "int go []", "int node [boolean]", "int real []",
            "int find [int]", "int place []", "char output [int]", "int tell [int, int]", "int count [int]"))
            .toString());
        String[] faults = {"NOENT", "NOTDIR", "CLOSED", "LOOP", "BADNAME", "EXISTS", "FULL", "LONG", "NOTEMPTY",
            "KIND", "SYNTAX"};
        int constants = 0;
        for (var field : FindTree.class.getDeclaredFields()) {
            constants += Modifier.isPrivate(field.getModifiers()) ? 0 : 1;
        }
        Probe.due("how many constants", constants, faults.length);
        for (int i = 0; i < faults.length; i++) {
            Probe.due(faults[i], FindTree.class.getField(faults[i]).getInt(null), -2 - i);
        }
        Probe.due("constructors", FindTree.class.getDeclaredConstructors().length, 1);
        Probe.due("final", Modifier.isFinal(FindTree.class.getModifiers()), true);
        Probe.end();
    }
}
