import java.lang.reflect.Field;
import java.lang.reflect.Method;
import java.lang.reflect.Modifier;
import java.util.ArrayList;
import java.util.List;
import java.util.Set;
import java.util.TreeSet;

/** The public face: what the document names, and nothing else. */
public final class FormTest {
    private static final Check c = new Check("FormTest");
    private static final String[] FACE = {
        "row(int,int)int", "lay(int,int,int)int", "at(int,int)int", "tear(int)int",
        "copy(int,int,int,int,int)int", "mean(int)int", "text(int,int)int", "put(int,int,int)int",
        "fault(int)int", "piece(int)int", "place(int,int)int", "note(int,int)int", "mark(int,int)int",
        "play()int", "slip(int,int)int", "jump(int,int)int", "anew(int)int", "undo(int)int", "here()int",
        "out(int)int", "hear()int", "heard(int)int", "image(int)int", "restore(int)int", "fits()int",
        "odds(int)int", "self(int)int", "who()int", "likely()int", "began()int", "tells(int)int",
        "best()int", "hides(int,int)int", "fewest()int", "modern()int", "together(int)int", "rule()int",
        "signs(int)int", "line()int", "letter()int", "aloud()int", "lots(int,int)int", "asked()int",
        "upper()long", "lower()long", "count(int)int", "finding()int", "findings(int)int", "digest()long"
    };

    public static void main(String[] args) {
        face();
        c.end();
    }

    private static void face() {
        Set<String> want = new TreeSet<>(List.of(FACE)), got = new TreeSet<>();
        List<String> hidden = new ArrayList<>();
        for (Method method : BarBehind.class.getDeclaredMethods()) {
            String name = method.getName();
            if (Modifier.isPublic(method.getModifiers())) {
                List<String> types = new ArrayList<>();
                for (Class<?> type : method.getParameterTypes()) types.add(type.getName());
                got.add(name + "(" + String.join(",", types) + ")" + method.getReturnType().getName());
            } else {
                c.due(name + " is private", Modifier.isPrivate(method.getModifiers()) ? 1 : 0, 1);
                hidden.add(name);
            }
        }
        holds("the public methods are " + got, got.equals(want));
        for (String face : FACE) {
            String name = face.substring(0, face.indexOf('('));
            holds("no private method bears the name " + name, !hidden.contains(name));
        }
        holds("public and final", Modifier.isFinal(BarBehind.class.getModifiers())
                && Modifier.isPublic(BarBehind.class.getModifiers()));
        Set<String> constants = new TreeSet<>();
        for (Field field : BarBehind.class.getDeclaredFields()) {
            if (Modifier.isPublic(field.getModifiers())) constants.add(field.getName());
            else holds(field + " is private", Modifier.isPrivate(field.getModifiers()));
        }
        holds("the constants are " + constants,
                constants.equals(Set.of("BAD", "FULL", "FINDING", "STATE", "SPENT", "NONE")));
        int[] values = {BarBehind.BAD, BarBehind.FULL, BarBehind.FINDING, BarBehind.STATE, BarBehind.SPENT, BarBehind.NONE};
        int[] due = {-1, -2, -3, -4, -6, -9};
        for (int i = 0; i < due.length; i++) c.due("constant " + i, values[i], due[i]);
    }

    private static void holds(String what, boolean so) {
        c.due(what, so ? 1 : 0, 1);
    }
}
