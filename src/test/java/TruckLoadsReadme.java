import java.io.IOException;
import java.lang.reflect.Method;
import java.lang.reflect.Modifier;
import java.nio.file.Files;
import java.nio.file.Path;
import java.util.ArrayList;
import java.util.List;

/** README.md says how to use the class: its run of calls answers what it says, and no call is left out. */
public final class TruckLoadsReadme {
    private static final Check check = new Check();
    private static final List<String> lines = new ArrayList<>();
    private static int next = 0;

    public static void main(String[] args) throws IOException {
        List<String> readme = Files.readAllLines(Path.of("README.md"));
        int from = readme.indexOf("```java") + 1;
        for (int i = from; i > 0 && i < readme.size() && !readme.get(i).equals("```"); i++) {
            lines.add(readme.get(i));
        }
        runOfCalls();
        check.same("lines of the run that were asked", "" + lines.size(), "" + next);
        everyCallIsTold(String.join("\n", readme.subList(from + lines.size(), readme.size())));
        check.end();
    }

    private static void runOfCalls() {
        TruckLoads truck = new TruckLoads(5);
        made("TruckLoads truck = new TruckLoads(5);");
        truck.cell(3, 6, true);
        made("truck.cell(3, 6, true);");
        truck.axles(1, 4, 10000, 100);
        made("truck.axles(1, 4, 10000, 100);");
        int box = truck.pallet(100, false, true, 2, 4);
        said("int box = truck.pallet(100, false, true, 2, 4);", box);
        int ice = truck.pallet(50, true, false, 1, 5);
        said("int ice = truck.pallet(50, true, false, 1, 5);", ice);
        said("truck.bound();", truck.bound());
        said("truck.solve(5);", truck.solve(5));
        said("truck.exact();", truck.exact());
        said("truck.at(box);", truck.at(box));
        said("truck.axle(0, 0);", truck.axle(0, 0));
        said("truck.axle(0, 1);", truck.axle(0, 1));
        said("truck.doors(true);", truck.doors(true));
        said("truck.place(ice, 4);", truck.place(ice, 4));
        said("truck.place(ice, -1);", truck.place(ice, -1));
        said("truck.bar(ice);", truck.bar(ice));
        said("truck.place(ice, 3);", truck.place(ice, 3));
        said("truck.doors(false);", truck.doors(false));
        said("truck.change(ice, 3);", truck.change(ice, 3));
        said("truck.seal(77);", truck.seal(77));
        said("truck.order(2, 0);", truck.order(2, 0));
        said("truck.manifest(160);", truck.manifest(160));
        said("truck.count(4);", truck.count(4));
        said("truck.broken();", truck.broken());
    }

    /** The next line has this call, and its comment begins with the answer. */
    private static void said(String call, Object answer) {
        String[] line = nextLine();
        check.same("README.md's call", call, line[0]);
        check.same("README.md's answer of " + call, line[1].split("[^-0-9a-z]")[0], String.valueOf(answer));
    }

    private static void made(String call) {
        check.same("README.md's call", call, nextLine()[0]);
    }

    private static String[] nextLine() {
        String line = next < lines.size() ? lines.get(next) : "";
        next++;
        int comment = line.indexOf("//");
        return comment < 0 ? new String[] {line.trim(), ""}
                : new String[] {line.substring(0, comment).trim(), line.substring(comment + 2).trim()};
    }

    private static void everyCallIsTold(String table) {
        for (Method method : TruckLoads.class.getDeclaredMethods()) {
            if (Modifier.isPublic(method.getModifiers())) {
                check.same("README.md tells of " + method.getName(), "true", "" + table.contains("\n| `" + method.getName() + "("));
            }
        }
    }
}
