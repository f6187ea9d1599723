import java.util.Map;
import java.util.Set;
import java.util.TreeMap;
import java.util.TreeSet;

/** Which method calls which, by their names. */
final class Calls {
    private final Map<String, Set<String>> calls = new TreeMap<>();

    void add(String caller, String called) {
        calls.computeIfAbsent(caller, name -> new TreeSet<>()).add(called);
    }

    /** The longest chain of calls that begins with a method. */
    String deepest(String method) {
        return deepest(method, "");
    }

    private String deepest(String method, String above) {
        String chain = above + method;
        if ((" > " + above).contains(" > " + method + " > ")) {
            return chain + " > recursion";
        }
        String longest = chain;
        for (String called : calls.getOrDefault(method, Set.of())) {
            String below = deepest(called, chain + " > ");
            longest = depth(below) > depth(longest) ? below : longest;
        }
        return longest;
    }

    static int depth(String chain) {
        return chain.split(" > ").length;
    }
}
