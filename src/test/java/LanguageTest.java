import java.io.IOException;
import java.nio.file.Files;
import java.nio.file.Path;
import java.util.Arrays;
import java.util.List;
import java.util.Set;
import java.util.regex.Matcher;
import java.util.regex.Pattern;
import java.util.stream.Collectors;

/** What LANGUAGE.md says that can be seen in the text of the class; FaceTest asks for what reflection sees. */
final class LanguageTest {
    private static final Set<String> LIBRARY = Set.of("Arrays.fill", "Math.floorMod", "System.arraycopy");
    private static final Set<String> THROWN = Set.of(
        "IllegalArgumentException", "IllegalStateException", "IndexOutOfBoundsException");
    private static final List<String> NOT_USED = List.of(
        "->", "::", "try", "catch", "finally", "synchronized", "assert", "protected", "double", "float", "null", "Object");

    public static void main(String[] args) throws IOException {
        String text = Files.readString(Path.of("src/main/java/TraceTier.java"));
        String bare = bare(text);
        Due.test("Without a package line, in characters 0 to 255", () -> plain(text, bare));
        Due.test("4. The library: only what stands here.", () -> library(bare));
        Due.test("6. Exceptions: throw new E(\"a written text\")", () -> exceptions(bare));
        Due.test("2., 3., 6.: what the class has no use for", () -> notUsed(bare));
        Due.test("11. Methods stay short (some sixty lines)", () -> shortMethods(bare));
        Due.test("12. An object may be made by any method: here by constructors alone", () -> made(bare));
        Due.finish();
    }

    /** Comments are taken out, and the letters of written texts. */
    private static String bare(String text) {
        return text.replaceAll("(?s)/\\*.*?\\*/", "").replaceAll("//[^\n]*", "").replaceAll("\"[^\"\n]*\"", "\"\"");
    }

    private static Set<String> found(String pattern, String text) {
        return Pattern.compile(pattern).matcher(text).results().map(m -> m.group(1)).collect(Collectors.toSet());
    }

    private static void plain(String text, String bare) {
        Due.isTrue("no package", found("(?m)^\\s*(package)\\b", bare).isEmpty());
        Due.isTrue("one public class", found("\\bpublic [a-z ]*class (\\w+)", bare).equals(Set.of("TraceTier")));
        Due.isTrue("characters", text.chars().allMatch(c -> c <= 255));
    }

    private static void library(String bare) {
        Due.same("imports", found("import ([^;]*);", bare).toString(), "[java.util.Arrays]");
        Set<String> used = found("\\b((?:Arrays|Math|System|Integer|Long|String|List)\\.\\w+)", bare);
        Due.isTrue("used: " + used, LIBRARY.containsAll(used));
    }

    private static void exceptions(String bare) {
        Set<String> all = found("\\bthrow\\b([^;]*);", bare);
        Set<String> due = THROWN.stream().map(e -> " new " + e + "(\"\")").collect(Collectors.toSet());
        Due.isTrue("thrown: " + all, all.equals(due));
    }

    private static void notUsed(String bare) {
        for (String word : NOT_USED) {
            String edge = Character.isLetter(word.charAt(0)) ? "\\b" : "";
            Due.isTrue(word + " is not used", found("(" + edge + word + edge + ")", bare).isEmpty());
        }
        Due.isTrue("no texts are joined by +", found("(\" *\\+|\\+ *\")", bare).isEmpty());
    }

    /** A method begins with a line that ends in "{" behind its ")", at the depth of a member. */
    private static void shortMethods(String bare) {
        Matcher method = Pattern.compile("(?ms)^( {4}| {8})(\\w[^;={}]*\\)[^;={}]*)\\{$.*?^\\1\\}").matcher(bare);
        int methods = 0;
        while (method.find()) {
            long lines = method.group().lines().count();
            Due.isTrue(method.group(2) + "has " + lines + " lines", lines <= 60);
            methods++;
        }
        Due.isTrue("methods were seen: " + methods, methods > 50);
    }

    private static void made(String bare) {
        String constructor = bare.substring(bare.indexOf("public TraceTier()"), bare.indexOf("public int add("));
        String fields = Arrays.stream(bare.split("\n")).filter(l -> l.matches(" +(private )?final .*= new .*;"))
            .collect(Collectors.joining("\n"));
        long known = count("\\bnew\\b", constructor) + count("\\bnew\\b", fields) + count("\\bthrow new\\b", bare);
        Due.same("made elsewhere", count("\\bnew\\b", bare) - known, 0);
    }

    private static long count(String pattern, String text) {
        return Pattern.compile(pattern).matcher(text).results().count();
    }
}
