import java.lang.reflect.Constructor;
import java.lang.reflect.Field;
import java.lang.reflect.Method;
import java.lang.reflect.Modifier;
import java.util.Set;
import java.util.TreeSet;

/** The public face of the document, and that nothing else is to be seen. */
final class FaceTest {
    private static final String FACE = """
        public int CinemaProgramme.account(int) throws java.lang.IllegalArgumentException
        public int CinemaProgramme.addFilm(int,int,int,int,int) throws java.lang.IllegalArgumentException,java.lang.IllegalStateException
        public int CinemaProgramme.addHall(int,int,int) throws java.lang.IllegalArgumentException,java.lang.IllegalStateException
        public int CinemaProgramme.addTrailer(int,int,int,int) throws java.lang.IndexOutOfBoundsException,java.lang.IllegalArgumentException,java.lang.IllegalStateException
        public int CinemaProgramme.advance(int) throws java.lang.IllegalArgumentException
        public int CinemaProgramme.append(char) throws java.lang.IllegalArgumentException,java.lang.IllegalStateException
        public int CinemaProgramme.at(int,int,int) throws java.lang.IllegalArgumentException
        public int CinemaProgramme.bestFilm() throws java.util.NoSuchElementException
        public int CinemaProgramme.cancel(int) throws java.lang.IndexOutOfBoundsException,java.lang.IllegalStateException
        public int CinemaProgramme.errorPosition() throws java.util.NoSuchElementException
        public int CinemaProgramme.fail(int,int) throws java.lang.IndexOutOfBoundsException,java.lang.IllegalArgumentException,java.lang.IllegalStateException
        public int CinemaProgramme.film(int,int) throws java.lang.IndexOutOfBoundsException,java.lang.IllegalArgumentException
        public int CinemaProgramme.firstStart(int,int,int,int) throws java.lang.IndexOutOfBoundsException,java.lang.IllegalArgumentException,java.util.NoSuchElementException
        public boolean CinemaProgramme.fits(int,int,int) throws java.lang.IndexOutOfBoundsException,java.lang.IllegalArgumentException
        public int CinemaProgramme.hall(int,int) throws java.lang.IndexOutOfBoundsException,java.lang.IllegalArgumentException
        public int CinemaProgramme.line(int,int) throws java.util.NoSuchElementException,java.lang.IllegalArgumentException
        public int CinemaProgramme.move(int,int,int) throws java.lang.IndexOutOfBoundsException,java.lang.IllegalArgumentException,java.lang.IllegalStateException,java.lang.UnsupportedOperationException
        public int CinemaProgramme.perform() throws java.lang.IllegalArgumentException,java.lang.UnsupportedOperationException
        public int CinemaProgramme.plan(int,int,int,int) throws java.lang.IndexOutOfBoundsException,java.lang.IllegalArgumentException,java.lang.UnsupportedOperationException
        public int CinemaProgramme.reel(int,int,boolean) throws java.lang.IndexOutOfBoundsException,java.lang.IllegalArgumentException
        public int CinemaProgramme.refusal(boolean) throws java.util.NoSuchElementException
        public int CinemaProgramme.reopen(int) throws java.lang.IndexOutOfBoundsException,java.lang.IllegalStateException
        public int CinemaProgramme.restore() throws java.lang.IllegalStateException
        public int CinemaProgramme.save()
        public int CinemaProgramme.sell(int,int) throws java.lang.IndexOutOfBoundsException,java.lang.IllegalArgumentException,java.lang.IllegalStateException,java.lang.UnsupportedOperationException
        public int CinemaProgramme.set(int,int) throws java.lang.IndexOutOfBoundsException,java.lang.IllegalArgumentException
        public int CinemaProgramme.setLimit(int,int) throws java.lang.IndexOutOfBoundsException,java.lang.IllegalArgumentException
        public int CinemaProgramme.setShares(int,int,int,int) throws java.lang.IndexOutOfBoundsException,java.lang.IllegalArgumentException
        public int CinemaProgramme.setting(int) throws java.lang.IndexOutOfBoundsException
        public int CinemaProgramme.share(int,int) throws java.lang.IndexOutOfBoundsException,java.lang.IllegalArgumentException,java.util.NoSuchElementException
        public int CinemaProgramme.show(int,int) throws java.lang.IndexOutOfBoundsException,java.lang.IllegalArgumentException
        public int CinemaProgramme.trailer(int,int) throws java.lang.IndexOutOfBoundsException,java.lang.IllegalArgumentException
        public int CinemaProgramme.undo() throws java.lang.IllegalStateException
        public double CinemaProgramme.use() throws java.lang.ArithmeticException
        public int CinemaProgramme.used(int,int,int) throws java.lang.IndexOutOfBoundsException,java.lang.IllegalArgumentException
        public int CinemaProgramme.why(int,int,int,int,boolean) throws java.lang.IndexOutOfBoundsException,java.lang.IllegalArgumentException
        public int CinemaProgramme.write(int,int) throws java.lang.IndexOutOfBoundsException,java.lang.IllegalArgumentException
        public char CinemaProgramme.written(int) throws java.lang.IndexOutOfBoundsException
        """;

    private FaceTest() {
    }

    public static void main(String[] args) {
        Check check = new Check("FaceTest");
        Set<String> shown = new TreeSet<>();
        Set<String> publicNames = new TreeSet<>();
        for (Method method : CinemaProgramme.class.getDeclaredMethods()) {
            if (Modifier.isPublic(method.getModifiers())) {
                shown.add(method.toGenericString());
                publicNames.add(method.getName());
            }
        }
        for (String line : FACE.split("\n")) {
            check.due("has " + line, 1, () -> Check.flag(shown.contains(line)));
        }
        check.due("public methods", FACE.split("\n").length, () -> shown.size());
        for (Method method : CinemaProgramme.class.getDeclaredMethods()) {
            boolean isFace = Modifier.isPublic(method.getModifiers());
            boolean isHidden = Modifier.isPrivate(method.getModifiers()) && !publicNames.contains(method.getName());
            check.due(method + " is of the face or hidden", 1, () -> Check.flag(isFace || isHidden));
        }
        for (Field field : CinemaProgramme.class.getDeclaredFields()) {
            check.due(field + " is private", 1, () -> Check.flag(Modifier.isPrivate(field.getModifiers())));
        }
        for (Constructor<?> constructor : CinemaProgramme.class.getDeclaredConstructors()) {
            check.same("the constructor", "public CinemaProgramme()", constructor.toGenericString());
        }
        int modifiers = CinemaProgramme.class.getModifiers();
        check.due("the class is public and final", 1,
                () -> Check.flag(Modifier.isPublic(modifiers) && Modifier.isFinal(modifiers)));
        for (Class<?> inside : CinemaProgramme.class.getDeclaredClasses()) {
            boolean isRight = Modifier.isStatic(inside.getModifiers()) && !Modifier.isPublic(inside.getModifiers())
                    && !Modifier.isProtected(inside.getModifiers());
            check.due(inside + " is static and not public", 1, () -> Check.flag(isRight));
            for (Method method : inside.getDeclaredMethods()) {
                boolean isNew = !publicNames.contains(method.getName());
                check.due(method + " bears a name of its own", 1, () -> Check.flag(isNew));
            }
        }
        check.end();
    }
}
