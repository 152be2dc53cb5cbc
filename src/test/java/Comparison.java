import java.util.ArrayList;
import java.util.List;

/** Asks for everything that can be told of a module, and compares the answers with the reference's. */
final class Comparison {
    private Comparison() {
    }

    /** One question to an object; the questions are dealt out to as many objects as keep within their calls. */
    private interface Question {
        void ask(CodeTables x);
    }

    static void of(String name, byte[] module, Reference due) {
        List<Question> questions = new ArrayList<>();
        askCounts(name, due, questions);
        askStructures(name, due, questions);
        askFunctions(name, due, questions);
        for (int i = 0; i < module.length; i++) {
            int place = i;
            questions.add(x -> Check.due(name + ": written(" + place + ")", x.written(place), module[place] & 255));
        }
        CodeTables x = null;
        int calls = 0;
        for (Question question : questions) {
            if (x == null || calls == Reading.CALLS) {
                x = Bytes.typed(module);
                Check.due(name + ": read()", x.read(), 0);
                Check.due(name + ": place()", x.place(), module.length);
                Check.due(name + ": write()", x.write(), module.length);
                calls = Reading.calls(module) + 3;
            }
            question.ask(x);
            calls++;
        }
    }

    private static void askCounts(String name, Reference due, List<Question> questions) {
        int[] counts = {due.number, due.own.size(), due.foreign.size(), due.foreignFunctions.size(),
            due.elements.size(), due.functions.size(), due.instructions};
        for (int i = 0; i < counts.length; i++) {
            int what = i;
            questions.add(x -> Check.due(name + ": told(" + what + ")", x.told(what), counts[what]));
        }
        for (int i = 0; i <= due.elements.size(); i++) {
            int k = i;
            questions.add(x -> Check.due(name + ": element(" + k + ")", x.element(k), at(due.elements, k)));
        }
    }

    private static void askStructures(String name, Reference due, List<Question> questions) {
        List<Reference.Structure> all = new ArrayList<>(due.own);
        all.addAll(due.foreign);
        for (int i = 0; i < all.size(); i++) {
            int k = i;
            Reference.Structure structure = all.get(k);
            int[] facts = {structure.abilities, structure.fields.size(), structure.module, structure.number};
            for (int j = 0; j < facts.length; j++) {
                int what = j;
                questions.add(x -> Check.due(name + ": structure(" + k + ", " + what + ")", x.structure(k, what), facts[what]));
            }
            for (int j = 0; j <= structure.fields.size(); j++) {
                int field = j;
                questions.add(x -> Check.due(name + ": field(" + k + ", " + field + ")", x.field(k, field), at(structure.fields, field)));
            }
        }
        questions.add(x -> Check.due(name + ": structure behind the last", x.structure(all.size(), 0), CodeTables.BAD));
    }

    private static void askFunctions(String name, Reference due, List<Question> questions) {
        List<Reference.Function> all = new ArrayList<>(due.functions);
        all.addAll(due.foreignFunctions);
        for (int i = 0; i < all.size(); i++) {
            int f = i;
            Reference.Function function = all.get(f);
            int further = function.lists.size() > 2 ? function.lists.get(2).size() : 0;
            int[] facts = {function.flags, function.lists.get(0).size(), function.lists.get(1).size(), further,
                function.code.size(), function.module, function.number};
            for (int j = 0; j < facts.length; j++) {
                int what = j;
                questions.add(x -> Check.due(name + ": function(" + f + ", " + what + ")", x.function(f, what), facts[what]));
            }
            for (int j = 0; j < 3; j++) {
                int list = j;
                List<Long> types = list < function.lists.size() ? function.lists.get(list) : new ArrayList<>();
                for (int k = 0; k <= types.size(); k++) {
                    int t = k;
                    questions.add(x -> Check.due(name + ": listed(" + f + ", " + list + ", " + t + ")", x.listed(f, list, t), at(types, t)));
                }
            }
            askCode(name, f, function, questions);
        }
        questions.add(x -> Check.due(name + ": function behind the last", x.function(all.size(), 0), CodeTables.BAD));
    }

    private static void askCode(String name, int f, Reference.Function function, List<Question> questions) {
        for (int j = 0; j <= function.code.size(); j++) {
            int i = j;
            boolean there = i < function.code.size();
            long[] told = there ? function.code.get(i) : new long[] {CodeTables.BAD, 0, 0};
            questions.add(x -> Check.due(name + ": operation(" + f + ", " + i + ")", x.operation(f, i), told[0]));
            questions.add(x -> Check.due(name + ": operand(" + f + ", " + i + ", 0)", x.operand(f, i, 0), told[1]));
            questions.add(x -> Check.due(name + ": operand(" + f + ", " + i + ", 1)", x.operand(f, i, 1), told[2]));
        }
    }

    private static long at(List<Long> list, int i) {
        return i < list.size() ? list.get(i) : 0;
    }
}
