/-! the words of the constructors, in the order of the tables; their decode rows -/
def ci_TT : List Cond := [(Jvm.Cond.initialized "SweptDownhill"), (Jvm.Cond.initialized "SweptDownhill$Town"), (Jvm.Cond.initialized "SweptDownhill$Text"), (Jvm.Cond.initialized "java/lang/Math"), (Jvm.Cond.initialized "SweptDownhill$Law"), (Jvm.Cond.initialized "SweptDownhill$Told"), (Jvm.Cond.initialized "SweptDownhill$Acts"), (Jvm.Cond.initialized "SweptDownhill$Course"), (Jvm.Cond.initialized "SweptDownhill$Heaps"), (Jvm.Cond.initialized "SweptDownhill$Search"), (Jvm.Cond.initialized "SweptDownhill$Sheet"), (Jvm.Cond.initialized "SweptDownhillModel"), (Jvm.Cond.classLink "SweptDownhillLaw" (7 : Nat) "SweptDownhill"), (Jvm.Cond.instantiable "SweptDownhill" (8 : Nat)), (Jvm.Cond.methodLink "SweptDownhillLaw" (9 : Nat) ({ cls := "SweptDownhill", name := "<init>", desc := "()V" } : Jvm.MethodName)), (Jvm.Cond.instanceMethod ({ cls := "SweptDownhill", name := "<init>", desc := "()V" } : Jvm.MethodName)), (Jvm.Cond.code ({ cls := "SweptDownhill", name := "<init>", desc := "()V" } : Jvm.MethodName) prog_1_method_1_code (2 : Nat) (Option.none : Option Jvm.ClassFile.FieldType)), (Jvm.Cond.methodLink "SweptDownhill" (1 : Nat) ({ cls := "java/lang/Object", name := "<init>", desc := "()V" } : Jvm.MethodName)), (Jvm.Cond.instanceMethod ({ cls := "java/lang/Object", name := "<init>", desc := "()V" } : Jvm.MethodName)), (Jvm.Cond.code ({ cls := "java/lang/Object", name := "<init>", desc := "()V" } : Jvm.MethodName) object_method_1_code (1 : Nat) (Option.none : Option Jvm.ClassFile.FieldType)), (Jvm.Cond.classLink "SweptDownhill" (7 : Nat) "SweptDownhill$Town"), (Jvm.Cond.instantiable "SweptDownhill$Town" (12 : Nat)), (Jvm.Cond.instanceMethod ({ cls := "SweptDownhill$Town", name := "<init>", desc := "()V" } : Jvm.MethodName)), (Jvm.Cond.code ({ cls := "SweptDownhill$Town", name := "<init>", desc := "()V" } : Jvm.MethodName) prog_10_method_1_code (1 : Nat) (Option.none : Option Jvm.ClassFile.FieldType)), (Jvm.Cond.methodLink "SweptDownhill$Town" (3 : Nat) ({ cls := "java/lang/Object", name := "<init>", desc := "()V" } : Jvm.MethodName)), (Jvm.Cond.classLink "SweptDownhill$Town" (9 : Nat) "SweptDownhill$Text"), (Jvm.Cond.instantiable "SweptDownhill$Text" (3 : Nat)), (Jvm.Cond.methodLink "SweptDownhill$Town" (11 : Nat) ({ cls := "SweptDownhill$Text", name := "<init>", desc := "(I)V" } : Jvm.MethodName)), (Jvm.Cond.instanceMethod ({ cls := "SweptDownhill$Text", name := "<init>", desc := "(I)V" } : Jvm.MethodName)), (Jvm.Cond.code ({ cls := "SweptDownhill$Text", name := "<init>", desc := "(I)V" } : Jvm.MethodName) prog_8_method_1_code (2 : Nat) (Option.none : Option Jvm.ClassFile.FieldType)), (Jvm.Cond.methodLink "SweptDownhill$Text" (3 : Nat) ({ cls := "java/lang/Object", name := "<init>", desc := "()V" } : Jvm.MethodName)), (Jvm.Cond.methodLink "SweptDownhill$Text" (19 : Nat) ({ cls := "java/lang/Math", name := "min", desc := "(II)I" } : Jvm.MethodName)), (Jvm.Cond.static ({ cls := "java/lang/Math", name := "min", desc := "(II)I" } : Jvm.MethodName)), (Jvm.Cond.code ({ cls := "java/lang/Math", name := "min", desc := "(II)I" } : Jvm.MethodName) prog_14_method_69_code (2 : Nat) (Option.some Jvm.ClassFile.FieldType.int)), (Jvm.Cond.fieldLink "SweptDownhill$Text" (9 : Nat) "SweptDownhill$Text" "bytes" "[I"), (Jvm.Cond.fieldLink "SweptDownhill$Text" (25 : Nat) "SweptDownhill$Text" "most" "I"), (Jvm.Cond.fieldLink "SweptDownhill$Text" (15 : Nat) "SweptDownhill$Text" "size" "I"), (Jvm.Cond.laysFinal "SweptDownhill$Text" "SweptDownhill$Text" "bytes" "[I"), (Jvm.Cond.laysFinal "SweptDownhill$Text" "SweptDownhill$Text" "most" "I"), (Jvm.Cond.lays "SweptDownhill$Text" "SweptDownhill$Text" "size" "I"), (Jvm.Cond.arrayClass Jvm.ClassFile.FieldType.int), (Jvm.Cond.fieldLink "SweptDownhill$Town" (14 : Nat) "SweptDownhill$Town" "doorText" "LSweptDownhill$Text;"), (Jvm.Cond.fieldLink "SweptDownhill$Town" (20 : Nat) "SweptDownhill$Town" "streetText" "LSweptDownhill$Text;"), (Jvm.Cond.fieldLink "SweptDownhill$Town" (23 : Nat) "SweptDownhill$Town" "heights" "[I"), (Jvm.Cond.fieldLink "SweptDownhill$Town" (27 : Nat) "SweptDownhill$Town" "uppers" "[I"), (Jvm.Cond.fieldLink "SweptDownhill$Town" (30 : Nat) "SweptDownhill$Town" "lowers" "[I"), (Jvm.Cond.fieldLink "SweptDownhill$Town" (33 : Nat) "SweptDownhill$Town" "doorsDownhill" "[I"), (Jvm.Cond.fieldLink "SweptDownhill$Town" (36 : Nat) "SweptDownhill$Town" "streetsDownhill" "[I"), (Jvm.Cond.fieldLink "SweptDownhill$Town" (39 : Nat) "SweptDownhill$Town" "firstStreets" "[I"), (Jvm.Cond.fieldLink "SweptDownhill$Town" (42 : Nat) "SweptDownhill$Town" "doors" "I"), (Jvm.Cond.fieldLink "SweptDownhill$Town" (46 : Nat) "SweptDownhill$Town" "streets" "I"), (Jvm.Cond.fieldLink "SweptDownhill$Town" (49 : Nat) "SweptDownhill$Town" "doorFault" "I"), (Jvm.Cond.fieldLink "SweptDownhill$Town" (52 : Nat) "SweptDownhill$Town" "streetFault" "I"), (Jvm.Cond.laysFinal "SweptDownhill$Town" "SweptDownhill$Town" "doorText" "LSweptDownhill$Text;"), (Jvm.Cond.laysFinal "SweptDownhill$Town" "SweptDownhill$Town" "streetText" "LSweptDownhill$Text;"), (Jvm.Cond.laysFinal "SweptDownhill$Town" "SweptDownhill$Town" "heights" "[I"), (Jvm.Cond.laysFinal "SweptDownhill$Town" "SweptDownhill$Town" "uppers" "[I"), (Jvm.Cond.laysFinal "SweptDownhill$Town" "SweptDownhill$Town" "lowers" "[I"), (Jvm.Cond.laysFinal "SweptDownhill$Town" "SweptDownhill$Town" "doorsDownhill" "[I"), (Jvm.Cond.laysFinal "SweptDownhill$Town" "SweptDownhill$Town" "streetsDownhill" "[I"), (Jvm.Cond.laysFinal "SweptDownhill$Town" "SweptDownhill$Town" "firstStreets" "[I"), (Jvm.Cond.lays "SweptDownhill$Town" "SweptDownhill$Town" "doors" "I"), (Jvm.Cond.lays "SweptDownhill$Town" "SweptDownhill$Town" "streets" "I"), (Jvm.Cond.lays "SweptDownhill$Town" "SweptDownhill$Town" "doorFault" "I"), (Jvm.Cond.lays "SweptDownhill$Town" "SweptDownhill$Town" "streetFault" "I"), (Jvm.Cond.classLink "SweptDownhill" (16 : Nat) "SweptDownhill$Law"), (Jvm.Cond.instantiable "SweptDownhill$Law" (4 : Nat)), (Jvm.Cond.methodLink "SweptDownhill" (18 : Nat) ({ cls := "SweptDownhill$Law", name := "<init>", desc := "()V" } : Jvm.MethodName)), (Jvm.Cond.instanceMethod ({ cls := "SweptDownhill$Law", name := "<init>", desc := "()V" } : Jvm.MethodName)), (Jvm.Cond.code ({ cls := "SweptDownhill$Law", name := "<init>", desc := "()V" } : Jvm.MethodName) prog_5_method_1_code (2 : Nat) (Option.none : Option Jvm.ClassFile.FieldType)), (Jvm.Cond.methodLink "SweptDownhill$Law" (3 : Nat) ({ cls := "java/lang/Object", name := "<init>", desc := "()V" } : Jvm.MethodName)), (Jvm.Cond.fieldLink "SweptDownhill$Law" (9 : Nat) "SweptDownhill$Law" "rates" "[I"), (Jvm.Cond.fieldLink "SweptDownhill$Law" (15 : Nat) "SweptDownhill$Law" "holds" "[I"), (Jvm.Cond.fieldLink "SweptDownhill$Law" (18 : Nat) "SweptDownhill$Law" "prides" "[I"), (Jvm.Cond.fieldLink "SweptDownhill$Law" (21 : Nat) "SweptDownhill$Law" "nine" "I"), (Jvm.Cond.laysFinal "SweptDownhill$Law" "SweptDownhill$Law" "rates" "[I"), (Jvm.Cond.laysFinal "SweptDownhill$Law" "SweptDownhill$Law" "holds" "[I"), (Jvm.Cond.laysFinal "SweptDownhill$Law" "SweptDownhill$Law" "prides" "[I"), (Jvm.Cond.lays "SweptDownhill$Law" "SweptDownhill$Law" "nine" "I"), (Jvm.Cond.classLink "SweptDownhill" (23 : Nat) "SweptDownhill$Told"), (Jvm.Cond.instantiable "SweptDownhill$Told" (4 : Nat)), (Jvm.Cond.instanceMethod ({ cls := "SweptDownhill$Told", name := "<init>", desc := "()V" } : Jvm.MethodName)), (Jvm.Cond.code ({ cls := "SweptDownhill$Told", name := "<init>", desc := "()V" } : Jvm.MethodName) prog_9_method_1_code (1 : Nat) (Option.none : Option Jvm.ClassFile.FieldType)), (Jvm.Cond.methodLink "SweptDownhill$Told" (3 : Nat) ({ cls := "java/lang/Object", name := "<init>", desc := "()V" } : Jvm.MethodName)), (Jvm.Cond.classLink "SweptDownhill$Told" (9 : Nat) "SweptDownhill$Acts"), (Jvm.Cond.instantiable "SweptDownhill$Acts" (6 : Nat)), (Jvm.Cond.methodLink "SweptDownhill$Told" (11 : Nat) ({ cls := "SweptDownhill$Acts", name := "<init>", desc := "(I)V" } : Jvm.MethodName)), (Jvm.Cond.instanceMethod ({ cls := "SweptDownhill$Acts", name := "<init>", desc := "(I)V" } : Jvm.MethodName)), (Jvm.Cond.code ({ cls := "SweptDownhill$Acts", name := "<init>", desc := "(I)V" } : Jvm.MethodName) prog_2_method_1_code (2 : Nat) (Option.none : Option Jvm.ClassFile.FieldType)), (Jvm.Cond.methodLink "SweptDownhill$Acts" (3 : Nat) ({ cls := "java/lang/Object", name := "<init>", desc := "()V" } : Jvm.MethodName)), (Jvm.Cond.methodLink "SweptDownhill$Acts" (28 : Nat) ({ cls := "java/lang/Math", name := "min", desc := "(II)I" } : Jvm.MethodName)), (Jvm.Cond.fieldLink "SweptDownhill$Acts" (9 : Nat) "SweptDownhill$Acts" "minutes" "[I"), (Jvm.Cond.fieldLink "SweptDownhill$Acts" (15 : Nat) "SweptDownhill$Acts" "places" "[I"), (Jvm.Cond.fieldLink "SweptDownhill$Acts" (18 : Nat) "SweptDownhill$Acts" "kinds" "[I"), (Jvm.Cond.fieldLink "SweptDownhill$Acts" (21 : Nat) "SweptDownhill$Acts" "amounts" "[I"), (Jvm.Cond.fieldLink "SweptDownhill$Acts" (34 : Nat) "SweptDownhill$Acts" "most" "I"), (Jvm.Cond.fieldLink "SweptDownhill$Acts" (24 : Nat) "SweptDownhill$Acts" "size" "I"), (Jvm.Cond.laysFinal "SweptDownhill$Acts" "SweptDownhill$Acts" "minutes" "[I"), (Jvm.Cond.laysFinal "SweptDownhill$Acts" "SweptDownhill$Acts" "places" "[I"), (Jvm.Cond.laysFinal "SweptDownhill$Acts" "SweptDownhill$Acts" "kinds" "[I"), (Jvm.Cond.laysFinal "SweptDownhill$Acts" "SweptDownhill$Acts" "amounts" "[I"), (Jvm.Cond.laysFinal "SweptDownhill$Acts" "SweptDownhill$Acts" "most" "I"), (Jvm.Cond.lays "SweptDownhill$Acts" "SweptDownhill$Acts" "size" "I"), (Jvm.Cond.fieldLink "SweptDownhill$Told" (14 : Nat) "SweptDownhill$Told" "falls" "LSweptDownhill$Acts;"), (Jvm.Cond.fieldLink "SweptDownhill$Told" (20 : Nat) "SweptDownhill$Told" "sweeps" "LSweptDownhill$Acts;"), (Jvm.Cond.fieldLink "SweptDownhill$Told" (23 : Nat) "SweptDownhill$Told" "carts" "LSweptDownhill$Acts;"), (Jvm.Cond.fieldLink "SweptDownhill$Told" (26 : Nat) "SweptDownhill$Told" "rains" "[I"), (Jvm.Cond.laysFinal "SweptDownhill$Told" "SweptDownhill$Told" "falls" "LSweptDownhill$Acts;"), (Jvm.Cond.laysFinal "SweptDownhill$Told" "SweptDownhill$Told" "sweeps" "LSweptDownhill$Acts;"), (Jvm.Cond.laysFinal "SweptDownhill$Told" "SweptDownhill$Told" "carts" "LSweptDownhill$Acts;"), (Jvm.Cond.laysFinal "SweptDownhill$Told" "SweptDownhill$Told" "rains" "[I"), (Jvm.Cond.classLink "SweptDownhill" (30 : Nat) "SweptDownhill$Course"), (Jvm.Cond.instantiable "SweptDownhill$Course" (11 : Nat)), (Jvm.Cond.methodLink "SweptDownhill" (32 : Nat) ({ cls := "SweptDownhill$Course", name := "<init>", desc := "(LSweptDownhill$Town;LSweptDownhill$Law;LSweptDownhill$Told;)V" } : Jvm.MethodName)), (Jvm.Cond.instanceMethod ({ cls := "SweptDownhill$Course", name := "<init>", desc := "(LSweptDownhill$Town;LSweptDownhill$Law;LSweptDownhill$Told;)V" } : Jvm.MethodName)), (Jvm.Cond.code ({ cls := "SweptDownhill$Course", name := "<init>", desc := "(LSweptDownhill$Town;LSweptDownhill$Law;LSweptDownhill$Told;)V" } : Jvm.MethodName) prog_3_method_1_code (4 : Nat) (Option.none : Option Jvm.ClassFile.FieldType)), (Jvm.Cond.methodLink "SweptDownhill$Course" (3 : Nat) ({ cls := "java/lang/Object", name := "<init>", desc := "()V" } : Jvm.MethodName)), (Jvm.Cond.classLink "SweptDownhill$Course" (9 : Nat) "SweptDownhill$Heaps"), (Jvm.Cond.instantiable "SweptDownhill$Heaps" (2 : Nat)), (Jvm.Cond.instanceMethod ({ cls := "SweptDownhill$Heaps", name := "<init>", desc := "()V" } : Jvm.MethodName)), (Jvm.Cond.code ({ cls := "SweptDownhill$Heaps", name := "<init>", desc := "()V" } : Jvm.MethodName) prog_4_method_1_code (1 : Nat) (Option.none : Option Jvm.ClassFile.FieldType)), (Jvm.Cond.methodLink "SweptDownhill$Heaps" (3 : Nat) ({ cls := "java/lang/Object", name := "<init>", desc := "()V" } : Jvm.MethodName)), (Jvm.Cond.fieldLink "SweptDownhill$Heaps" (9 : Nat) "SweptDownhill$Heaps" "barrows" "[I"), (Jvm.Cond.fieldLink "SweptDownhill$Heaps" (15 : Nat) "SweptDownhill$Heaps" "yards" "[I"), (Jvm.Cond.laysFinal "SweptDownhill$Heaps" "SweptDownhill$Heaps" "barrows" "[I"), (Jvm.Cond.laysFinal "SweptDownhill$Heaps" "SweptDownhill$Heaps" "yards" "[I"), (Jvm.Cond.fieldLink "SweptDownhill$Course" (40 : Nat) "SweptDownhill$Course" "town" "LSweptDownhill$Town;"), (Jvm.Cond.fieldLink "SweptDownhill$Course" (44 : Nat) "SweptDownhill$Course" "law" "LSweptDownhill$Law;"), (Jvm.Cond.fieldLink "SweptDownhill$Course" (48 : Nat) "SweptDownhill$Course" "told" "LSweptDownhill$Told;"), (Jvm.Cond.fieldLink "SweptDownhill$Course" (12 : Nat) "SweptDownhill$Course" "heaps" "LSweptDownhill$Heaps;"), (Jvm.Cond.fieldLink "SweptDownhill$Course" (18 : Nat) "SweptDownhill$Course" "against" "I"), (Jvm.Cond.fieldLink "SweptDownhill$Course" (22 : Nat) "SweptDownhill$Course" "rainInNine" "I"), (Jvm.Cond.fieldLink "SweptDownhill$Course" (25 : Nat) "SweptDownhill$Course" "sweeps" "I"), (Jvm.Cond.fieldLink "SweptDownhill$Course" (28 : Nat) "SweptDownhill$Course" "uncarted" "I"), (Jvm.Cond.fieldLink "SweptDownhill$Course" (31 : Nat) "SweptDownhill$Course" "moreMinute" "I"), (Jvm.Cond.fieldLink "SweptDownhill$Course" (34 : Nat) "SweptDownhill$Course" "moreDoor" "I"), (Jvm.Cond.fieldLink "SweptDownhill$Course" (37 : Nat) "SweptDownhill$Course" "moreKind" "I"), (Jvm.Cond.laysFinal "SweptDownhill$Course" "SweptDownhill$Course" "town" "LSweptDownhill$Town;"), (Jvm.Cond.laysFinal "SweptDownhill$Course" "SweptDownhill$Course" "law" "LSweptDownhill$Law;"), (Jvm.Cond.laysFinal "SweptDownhill$Course" "SweptDownhill$Course" "told" "LSweptDownhill$Told;"), (Jvm.Cond.laysFinal "SweptDownhill$Course" "SweptDownhill$Course" "heaps" "LSweptDownhill$Heaps;"), (Jvm.Cond.lays "SweptDownhill$Course" "SweptDownhill$Course" "against" "I"), (Jvm.Cond.lays "SweptDownhill$Course" "SweptDownhill$Course" "rainInNine" "I"), (Jvm.Cond.lays "SweptDownhill$Course" "SweptDownhill$Course" "sweeps" "I"), (Jvm.Cond.lays "SweptDownhill$Course" "SweptDownhill$Course" "uncarted" "I"), (Jvm.Cond.lays "SweptDownhill$Course" "SweptDownhill$Course" "moreMinute" "I"), (Jvm.Cond.lays "SweptDownhill$Course" "SweptDownhill$Course" "moreDoor" "I"), (Jvm.Cond.lays "SweptDownhill$Course" "SweptDownhill$Course" "moreKind" "I"), (Jvm.Cond.classLink "SweptDownhill" (42 : Nat) "SweptDownhill$Search"), (Jvm.Cond.instantiable "SweptDownhill$Search" (10 : Nat)), (Jvm.Cond.methodLink "SweptDownhill" (44 : Nat) ({ cls := "SweptDownhill$Search", name := "<init>", desc := "(LSweptDownhill$Town;LSweptDownhill$Law;)V" } : Jvm.MethodName)), (Jvm.Cond.instanceMethod ({ cls := "SweptDownhill$Search", name := "<init>", desc := "(LSweptDownhill$Town;LSweptDownhill$Law;)V" } : Jvm.MethodName)), (Jvm.Cond.code ({ cls := "SweptDownhill$Search", name := "<init>", desc := "(LSweptDownhill$Town;LSweptDownhill$Law;)V" } : Jvm.MethodName) prog_6_method_1_code (3 : Nat) (Option.none : Option Jvm.ClassFile.FieldType)), (Jvm.Cond.methodLink "SweptDownhill$Search" (3 : Nat) ({ cls := "java/lang/Object", name := "<init>", desc := "()V" } : Jvm.MethodName)), (Jvm.Cond.fieldLink "SweptDownhill$Search" (38 : Nat) "SweptDownhill$Search" "town" "LSweptDownhill$Town;"), (Jvm.Cond.fieldLink "SweptDownhill$Search" (42 : Nat) "SweptDownhill$Search" "law" "LSweptDownhill$Law;"), (Jvm.Cond.fieldLink "SweptDownhill$Search" (9 : Nat) "SweptDownhill$Search" "barrows" "[I"), (Jvm.Cond.fieldLink "SweptDownhill$Search" (15 : Nat) "SweptDownhill$Search" "worths" "[I"), (Jvm.Cond.fieldLink "SweptDownhill$Search" (18 : Nat) "SweptDownhill$Search" "carted" "[Z"), (Jvm.Cond.fieldLink "SweptDownhill$Search" (22 : Nat) "SweptDownhill$Search" "row" "[I"), (Jvm.Cond.fieldLink "SweptDownhill$Search" (25 : Nat) "SweptDownhill$Search" "bestRow" "[I"), (Jvm.Cond.fieldLink "SweptDownhill$Search" (28 : Nat) "SweptDownhill$Search" "bestSize" "I"), (Jvm.Cond.fieldLink "SweptDownhill$Search" (32 : Nat) "SweptDownhill$Search" "fines" "I"), (Jvm.Cond.fieldLink "SweptDownhill$Search" (35 : Nat) "SweptDownhill$Search" "leastFines" "I"), (Jvm.Cond.laysFinal "SweptDownhill$Search" "SweptDownhill$Search" "town" "LSweptDownhill$Town;"), (Jvm.Cond.laysFinal "SweptDownhill$Search" "SweptDownhill$Search" "law" "LSweptDownhill$Law;"), (Jvm.Cond.laysFinal "SweptDownhill$Search" "SweptDownhill$Search" "barrows" "[I"), (Jvm.Cond.laysFinal "SweptDownhill$Search" "SweptDownhill$Search" "worths" "[I"), (Jvm.Cond.laysFinal "SweptDownhill$Search" "SweptDownhill$Search" "carted" "[Z"), (Jvm.Cond.laysFinal "SweptDownhill$Search" "SweptDownhill$Search" "row" "[I"), (Jvm.Cond.laysFinal "SweptDownhill$Search" "SweptDownhill$Search" "bestRow" "[I"), (Jvm.Cond.lays "SweptDownhill$Search" "SweptDownhill$Search" "bestSize" "I"), (Jvm.Cond.lays "SweptDownhill$Search" "SweptDownhill$Search" "fines" "I"), (Jvm.Cond.lays "SweptDownhill$Search" "SweptDownhill$Search" "leastFines" "I"), (Jvm.Cond.arrayClass Jvm.ClassFile.FieldType.boolean), (Jvm.Cond.classLink "SweptDownhill" (51 : Nat) "SweptDownhill$Sheet"), (Jvm.Cond.instantiable "SweptDownhill$Sheet" (3 : Nat)), (Jvm.Cond.instanceMethod ({ cls := "SweptDownhill$Sheet", name := "<init>", desc := "()V" } : Jvm.MethodName)), (Jvm.Cond.code ({ cls := "SweptDownhill$Sheet", name := "<init>", desc := "()V" } : Jvm.MethodName) prog_7_method_1_code (1 : Nat) (Option.none : Option Jvm.ClassFile.FieldType)), (Jvm.Cond.methodLink "SweptDownhill$Sheet" (3 : Nat) ({ cls := "java/lang/Object", name := "<init>", desc := "()V" } : Jvm.MethodName)), (Jvm.Cond.fieldLink "SweptDownhill$Sheet" (9 : Nat) "SweptDownhill$Sheet" "items" "[I"), (Jvm.Cond.fieldLink "SweptDownhill$Sheet" (15 : Nat) "SweptDownhill$Sheet" "form" "I"), (Jvm.Cond.fieldLink "SweptDownhill$Sheet" (19 : Nat) "SweptDownhill$Sheet" "size" "I"), (Jvm.Cond.laysFinal "SweptDownhill$Sheet" "SweptDownhill$Sheet" "items" "[I"), (Jvm.Cond.lays "SweptDownhill$Sheet" "SweptDownhill$Sheet" "form" "I"), (Jvm.Cond.lays "SweptDownhill$Sheet" "SweptDownhill$Sheet" "size" "I"), (Jvm.Cond.fieldLink "SweptDownhill" (10 : Nat) "SweptDownhill" "town" "LSweptDownhill$Town;"), (Jvm.Cond.fieldLink "SweptDownhill" (19 : Nat) "SweptDownhill" "law" "LSweptDownhill$Law;"), (Jvm.Cond.fieldLink "SweptDownhill" (26 : Nat) "SweptDownhill" "told" "LSweptDownhill$Told;"), (Jvm.Cond.fieldLink "SweptDownhill" (35 : Nat) "SweptDownhill" "course" "LSweptDownhill$Course;"), (Jvm.Cond.fieldLink "SweptDownhill" (39 : Nat) "SweptDownhill" "trial" "LSweptDownhill$Course;"), (Jvm.Cond.fieldLink "SweptDownhill" (47 : Nat) "SweptDownhill" "search" "LSweptDownhill$Search;"), (Jvm.Cond.fieldLink "SweptDownhill" (53 : Nat) "SweptDownhill" "sheets" "[LSweptDownhill$Sheet;"), (Jvm.Cond.fieldLink "SweptDownhill" (58 : Nat) "SweptDownhill" "finding" "I"), (Jvm.Cond.laysFinal "SweptDownhill" "SweptDownhill" "town" "LSweptDownhill$Town;"), (Jvm.Cond.laysFinal "SweptDownhill" "SweptDownhill" "law" "LSweptDownhill$Law;"), (Jvm.Cond.laysFinal "SweptDownhill" "SweptDownhill" "told" "LSweptDownhill$Told;"), (Jvm.Cond.laysFinal "SweptDownhill" "SweptDownhill" "course" "LSweptDownhill$Course;"), (Jvm.Cond.laysFinal "SweptDownhill" "SweptDownhill" "trial" "LSweptDownhill$Course;"), (Jvm.Cond.laysFinal "SweptDownhill" "SweptDownhill" "search" "LSweptDownhill$Search;"), (Jvm.Cond.laysFinal "SweptDownhill" "SweptDownhill" "sheets" "[LSweptDownhill$Sheet;"), (Jvm.Cond.lays "SweptDownhill" "SweptDownhill" "finding" "I"), (Jvm.Cond.methodLink "SweptDownhill$Town" (66 : Nat) ({ cls := "java/lang/Math", name := "min", desc := "(II)I" } : Jvm.MethodName)), (Jvm.Cond.methodLink "SweptDownhill$Search" (75 : Nat) ({ cls := "java/lang/Math", name := "min", desc := "(II)I" } : Jvm.MethodName)), (Jvm.Cond.methodLink "SweptDownhill$Course" (62 : Nat) ({ cls := "java/lang/Math", name := "min", desc := "(II)I" } : Jvm.MethodName)), (Jvm.Cond.methodLink "SweptDownhill$Sheet" (22 : Nat) ({ cls := "java/lang/Math", name := "min", desc := "(II)I" } : Jvm.MethodName)), (Jvm.Cond.methodLink "SweptDownhill" (280 : Nat) ({ cls := "java/lang/Math", name := "min", desc := "(II)I" } : Jvm.MethodName)), (Jvm.Cond.classLink "SweptDownhillLaw" (10 : Nat) "SweptDownhillModel"), (Jvm.Cond.instantiable "SweptDownhillModel" (35 : Nat)), (Jvm.Cond.methodLink "SweptDownhillLaw" (12 : Nat) ({ cls := "SweptDownhillModel", name := "<init>", desc := "()V" } : Jvm.MethodName)), (Jvm.Cond.instanceMethod ({ cls := "SweptDownhillModel", name := "<init>", desc := "()V" } : Jvm.MethodName)), (Jvm.Cond.code ({ cls := "SweptDownhillModel", name := "<init>", desc := "()V" } : Jvm.MethodName) prog_12_method_1_code (2 : Nat) (Option.none : Option Jvm.ClassFile.FieldType)), (Jvm.Cond.methodLink "SweptDownhillModel" (1 : Nat) ({ cls := "java/lang/Object", name := "<init>", desc := "()V" } : Jvm.MethodName)), (Jvm.Cond.fieldLink "SweptDownhillModel" (7 : Nat) "SweptDownhillModel" "typed" "[I"), (Jvm.Cond.fieldLink "SweptDownhillModel" (13 : Nat) "SweptDownhillModel" "texts" "[I"), (Jvm.Cond.fieldLink "SweptDownhillModel" (16 : Nat) "SweptDownhillModel" "heights" "[I"), (Jvm.Cond.fieldLink "SweptDownhillModel" (19 : Nat) "SweptDownhillModel" "upper" "[I"), (Jvm.Cond.fieldLink "SweptDownhillModel" (22 : Nat) "SweptDownhillModel" "lower" "[I"), (Jvm.Cond.fieldLink "SweptDownhillModel" (25 : Nat) "SweptDownhillModel" "rates" "[I"), (Jvm.Cond.fieldLink "SweptDownhillModel" (28 : Nat) "SweptDownhillModel" "holds" "[I"), (Jvm.Cond.fieldLink "SweptDownhillModel" (31 : Nat) "SweptDownhillModel" "prides" "[I"), (Jvm.Cond.fieldLink "SweptDownhillModel" (86 : Nat) "SweptDownhillModel" "nine" "I"), (Jvm.Cond.fieldLink "SweptDownhillModel" (34 : Nat) "SweptDownhillModel" "fallMinute" "[I"), (Jvm.Cond.fieldLink "SweptDownhillModel" (37 : Nat) "SweptDownhillModel" "fallDoor" "[I"), (Jvm.Cond.fieldLink "SweptDownhillModel" (40 : Nat) "SweptDownhillModel" "fallKind" "[I"), (Jvm.Cond.fieldLink "SweptDownhillModel" (43 : Nat) "SweptDownhillModel" "fallMany" "[I"), (Jvm.Cond.fieldLink "SweptDownhillModel" (46 : Nat) "SweptDownhillModel" "sweepMinute" "[I"), (Jvm.Cond.fieldLink "SweptDownhillModel" (49 : Nat) "SweptDownhillModel" "sweepStreet" "[I"), (Jvm.Cond.fieldLink "SweptDownhillModel" (52 : Nat) "SweptDownhillModel" "cartMinute" "[I"), (Jvm.Cond.fieldLink "SweptDownhillModel" (55 : Nat) "SweptDownhillModel" "cartDoor" "[I"), (Jvm.Cond.fieldLink "SweptDownhillModel" (58 : Nat) "SweptDownhillModel" "rains" "[I"), (Jvm.Cond.fieldLink "SweptDownhillModel" (61 : Nat) "SweptDownhillModel" "lie" "[I"), (Jvm.Cond.fieldLink "SweptDownhillModel" (64 : Nat) "SweptDownhillModel" "from" "[I"), (Jvm.Cond.fieldLink "SweptDownhillModel" (67 : Nat) "SweptDownhillModel" "row" "[I"), (Jvm.Cond.fieldLink "SweptDownhillModel" (70 : Nat) "SweptDownhillModel" "isThere" "[Z"), (Jvm.Cond.fieldLink "SweptDownhillModel" (74 : Nat) "SweptDownhillModel" "forms" "[I"), (Jvm.Cond.fieldLink "SweptDownhillModel" (77 : Nat) "SweptDownhillModel" "sizes" "[I"), (Jvm.Cond.fieldLink "SweptDownhillModel" (80 : Nat) "SweptDownhillModel" "items" "[I"), (Jvm.Cond.fieldLink "SweptDownhillModel" (83 : Nat) "SweptDownhillModel" "moved" "[I"), (Jvm.Cond.laysFinal "SweptDownhillModel" "SweptDownhillModel" "typed" "[I"), (Jvm.Cond.laysFinal "SweptDownhillModel" "SweptDownhillModel" "texts" "[I"), (Jvm.Cond.lays "SweptDownhillModel" "SweptDownhillModel" "doors" "I"), (Jvm.Cond.laysFinal "SweptDownhillModel" "SweptDownhillModel" "heights" "[I"), (Jvm.Cond.lays "SweptDownhillModel" "SweptDownhillModel" "streets" "I"), (Jvm.Cond.laysFinal "SweptDownhillModel" "SweptDownhillModel" "upper" "[I"), (Jvm.Cond.laysFinal "SweptDownhillModel" "SweptDownhillModel" "lower" "[I"), (Jvm.Cond.laysFinal "SweptDownhillModel" "SweptDownhillModel" "rates" "[I"), (Jvm.Cond.laysFinal "SweptDownhillModel" "SweptDownhillModel" "holds" "[I"), (Jvm.Cond.laysFinal "SweptDownhillModel" "SweptDownhillModel" "prides" "[I"), (Jvm.Cond.lays "SweptDownhillModel" "SweptDownhillModel" "nine" "I"), (Jvm.Cond.lays "SweptDownhillModel" "SweptDownhillModel" "falls" "I"), (Jvm.Cond.laysFinal "SweptDownhillModel" "SweptDownhillModel" "fallMinute" "[I"), (Jvm.Cond.laysFinal "SweptDownhillModel" "SweptDownhillModel" "fallDoor" "[I"), (Jvm.Cond.laysFinal "SweptDownhillModel" "SweptDownhillModel" "fallKind" "[I"), (Jvm.Cond.laysFinal "SweptDownhillModel" "SweptDownhillModel" "fallMany" "[I"), (Jvm.Cond.lays "SweptDownhillModel" "SweptDownhillModel" "sweeps" "I"), (Jvm.Cond.laysFinal "SweptDownhillModel" "SweptDownhillModel" "sweepMinute" "[I"), (Jvm.Cond.laysFinal "SweptDownhillModel" "SweptDownhillModel" "sweepStreet" "[I"), (Jvm.Cond.lays "SweptDownhillModel" "SweptDownhillModel" "carts" "I"), (Jvm.Cond.laysFinal "SweptDownhillModel" "SweptDownhillModel" "cartMinute" "[I"), (Jvm.Cond.laysFinal "SweptDownhillModel" "SweptDownhillModel" "cartDoor" "[I"), (Jvm.Cond.laysFinal "SweptDownhillModel" "SweptDownhillModel" "rains" "[I"), (Jvm.Cond.laysFinal "SweptDownhillModel" "SweptDownhillModel" "lie" "[I"), (Jvm.Cond.laysFinal "SweptDownhillModel" "SweptDownhillModel" "from" "[I"), (Jvm.Cond.lays "SweptDownhillModel" "SweptDownhillModel" "judgedBy" "I"), (Jvm.Cond.lays "SweptDownhillModel" "SweptDownhillModel" "rowMany" "I"), (Jvm.Cond.laysFinal "SweptDownhillModel" "SweptDownhillModel" "row" "[I"), (Jvm.Cond.lays "SweptDownhillModel" "SweptDownhillModel" "rowHeld" "Z"), (Jvm.Cond.laysFinal "SweptDownhillModel" "SweptDownhillModel" "isThere" "[Z"), (Jvm.Cond.laysFinal "SweptDownhillModel" "SweptDownhillModel" "forms" "[I"), (Jvm.Cond.laysFinal "SweptDownhillModel" "SweptDownhillModel" "sizes" "[I"), (Jvm.Cond.laysFinal "SweptDownhillModel" "SweptDownhillModel" "items" "[I"), (Jvm.Cond.laysFinal "SweptDownhillModel" "SweptDownhillModel" "moved" "[I"), (Jvm.Cond.lays "SweptDownhillModel" "SweptDownhillModel" "finding" "I")]
set_option maxRecDepth 100000 in
theorem ci_TT_tb : ∀ w ∈ ci_TT, w ∈ lw_tbl := pi_sub_in lw_tbl ci_TT (by decide +kernel)
set_option maxRecDepth 100000 in
theorem ci_TT_good : ∀ w ∈ ci_TT, goodWord w = true := by
  have h : ci_TT.all goodWord = true := by decide +kernel
  exact fun w hw => List.all_eq_true.mp h w hw
abbrev cX0_init : ByteArray := prog_2_method_1_code
def yX0_init : MethodName := ⟨RX0, "<init>", "(I)V"⟩
theorem dX0_init_0 : decode cX0_init 0 = .ok (.aload_n 0, 1) := by decide +kernel
theorem dX0_init_1 : decode cX0_init 1 = .ok (.invokespecial 3, 3) := by decide +kernel
theorem dX0_init_4 : decode cX0_init 4 = .ok (.aload_n 0, 1) := by decide +kernel
theorem dX0_init_5 : decode cX0_init 5 = .ok (.bipush 24, 2) := by decide +kernel
theorem dX0_init_7 : decode cX0_init 7 = .ok (.newarray .int, 2) := by decide +kernel
theorem dX0_init_9 : decode cX0_init 9 = .ok (.putfield 9, 3) := by decide +kernel
theorem dX0_init_12 : decode cX0_init 12 = .ok (.aload_n 0, 1) := by decide +kernel
theorem dX0_init_13 : decode cX0_init 13 = .ok (.bipush 24, 2) := by decide +kernel
theorem dX0_init_15 : decode cX0_init 15 = .ok (.newarray .int, 2) := by decide +kernel
theorem dX0_init_17 : decode cX0_init 17 = .ok (.putfield 15, 3) := by decide +kernel
theorem dX0_init_20 : decode cX0_init 20 = .ok (.aload_n 0, 1) := by decide +kernel
theorem dX0_init_21 : decode cX0_init 21 = .ok (.bipush 24, 2) := by decide +kernel
theorem dX0_init_23 : decode cX0_init 23 = .ok (.newarray .int, 2) := by decide +kernel
theorem dX0_init_25 : decode cX0_init 25 = .ok (.putfield 18, 3) := by decide +kernel
theorem dX0_init_28 : decode cX0_init 28 = .ok (.aload_n 0, 1) := by decide +kernel
theorem dX0_init_29 : decode cX0_init 29 = .ok (.bipush 24, 2) := by decide +kernel
theorem dX0_init_31 : decode cX0_init 31 = .ok (.newarray .int, 2) := by decide +kernel
theorem dX0_init_33 : decode cX0_init 33 = .ok (.putfield 21, 3) := by decide +kernel
theorem dX0_init_36 : decode cX0_init 36 = .ok (.aload_n 0, 1) := by decide +kernel
theorem dX0_init_37 : decode cX0_init 37 = .ok (.iconst 0, 1) := by decide +kernel
theorem dX0_init_38 : decode cX0_init 38 = .ok (.putfield 24, 3) := by decide +kernel
theorem dX0_init_41 : decode cX0_init 41 = .ok (.aload_n 0, 1) := by decide +kernel
theorem dX0_init_42 : decode cX0_init 42 = .ok (.iload_n 1, 1) := by decide +kernel
theorem dX0_init_43 : decode cX0_init 43 = .ok (.bipush 24, 2) := by decide +kernel
theorem dX0_init_45 : decode cX0_init 45 = .ok (.invokestatic 28, 3) := by decide +kernel
theorem dX0_init_48 : decode cX0_init 48 = .ok (.putfield 34, 3) := by decide +kernel
theorem dX0_init_51 : decode cX0_init 51 = .ok (.return_, 1) := by decide +kernel
set_option maxRecDepth 100000 in
theorem ci_u0 : ∀ w ∈ u_ws RX0 TX0 6, w ∈ ci_TT := by decide +kernel
abbrev cX1_init : ByteArray := prog_3_method_1_code
def yX1_init : MethodName := ⟨RX1, "<init>", "(LSweptDownhill$Town;LSweptDownhill$Law;LSweptDownhill$Told;)V"⟩
theorem dX1_init_0 : decode cX1_init 0 = .ok (.aload_n 0, 1) := by decide +kernel
theorem dX1_init_1 : decode cX1_init 1 = .ok (.invokespecial 3, 3) := by decide +kernel
theorem dX1_init_4 : decode cX1_init 4 = .ok (.aload_n 0, 1) := by decide +kernel
theorem dX1_init_5 : decode cX1_init 5 = .ok (.new 9, 3) := by decide +kernel
theorem dX1_init_8 : decode cX1_init 8 = .ok (.dup, 1) := by decide +kernel
theorem dX1_init_9 : decode cX1_init 9 = .ok (.invokespecial 11, 3) := by decide +kernel
theorem dX1_init_12 : decode cX1_init 12 = .ok (.putfield 12, 3) := by decide +kernel
theorem dX1_init_15 : decode cX1_init 15 = .ok (.aload_n 0, 1) := by decide +kernel
theorem dX1_init_16 : decode cX1_init 16 = .ok (.iconst (-1), 1) := by decide +kernel
theorem dX1_init_17 : decode cX1_init 17 = .ok (.putfield 18, 3) := by decide +kernel
theorem dX1_init_20 : decode cX1_init 20 = .ok (.aload_n 0, 1) := by decide +kernel
theorem dX1_init_21 : decode cX1_init 21 = .ok (.iconst (-1), 1) := by decide +kernel
theorem dX1_init_22 : decode cX1_init 22 = .ok (.putfield 22, 3) := by decide +kernel
theorem dX1_init_25 : decode cX1_init 25 = .ok (.aload_n 0, 1) := by decide +kernel
theorem dX1_init_26 : decode cX1_init 26 = .ok (.iconst 0, 1) := by decide +kernel
theorem dX1_init_27 : decode cX1_init 27 = .ok (.putfield 25, 3) := by decide +kernel
theorem dX1_init_30 : decode cX1_init 30 = .ok (.aload_n 0, 1) := by decide +kernel
theorem dX1_init_31 : decode cX1_init 31 = .ok (.iconst (-1), 1) := by decide +kernel
theorem dX1_init_32 : decode cX1_init 32 = .ok (.putfield 28, 3) := by decide +kernel
theorem dX1_init_35 : decode cX1_init 35 = .ok (.aload_n 0, 1) := by decide +kernel
theorem dX1_init_36 : decode cX1_init 36 = .ok (.iconst (-1), 1) := by decide +kernel
theorem dX1_init_37 : decode cX1_init 37 = .ok (.putfield 31, 3) := by decide +kernel
theorem dX1_init_40 : decode cX1_init 40 = .ok (.aload_n 0, 1) := by decide +kernel
theorem dX1_init_41 : decode cX1_init 41 = .ok (.iconst (-1), 1) := by decide +kernel
theorem dX1_init_42 : decode cX1_init 42 = .ok (.putfield 34, 3) := by decide +kernel
theorem dX1_init_45 : decode cX1_init 45 = .ok (.aload_n 0, 1) := by decide +kernel
theorem dX1_init_46 : decode cX1_init 46 = .ok (.iconst (-1), 1) := by decide +kernel
theorem dX1_init_47 : decode cX1_init 47 = .ok (.putfield 37, 3) := by decide +kernel
theorem dX1_init_50 : decode cX1_init 50 = .ok (.aload_n 0, 1) := by decide +kernel
theorem dX1_init_51 : decode cX1_init 51 = .ok (.aload_n 1, 1) := by decide +kernel
theorem dX1_init_52 : decode cX1_init 52 = .ok (.putfield 40, 3) := by decide +kernel
theorem dX1_init_55 : decode cX1_init 55 = .ok (.aload_n 0, 1) := by decide +kernel
theorem dX1_init_56 : decode cX1_init 56 = .ok (.aload_n 2, 1) := by decide +kernel
theorem dX1_init_57 : decode cX1_init 57 = .ok (.putfield 44, 3) := by decide +kernel
theorem dX1_init_60 : decode cX1_init 60 = .ok (.aload_n 0, 1) := by decide +kernel
theorem dX1_init_61 : decode cX1_init 61 = .ok (.aload_n 3, 1) := by decide +kernel
theorem dX1_init_62 : decode cX1_init 62 = .ok (.putfield 48, 3) := by decide +kernel
theorem dX1_init_65 : decode cX1_init 65 = .ok (.return_, 1) := by decide +kernel
set_option maxRecDepth 100000 in
theorem ci_u1 : ∀ w ∈ u_ws RX1 TX1 11, w ∈ ci_TT := by decide +kernel
abbrev cX2_init : ByteArray := prog_4_method_1_code
def yX2_init : MethodName := ⟨RX2, "<init>", "()V"⟩
theorem dX2_init_0 : decode cX2_init 0 = .ok (.aload_n 0, 1) := by decide +kernel
theorem dX2_init_1 : decode cX2_init 1 = .ok (.invokespecial 3, 3) := by decide +kernel
theorem dX2_init_4 : decode cX2_init 4 = .ok (.aload_n 0, 1) := by decide +kernel
theorem dX2_init_5 : decode cX2_init 5 = .ok (.bipush 40, 2) := by decide +kernel
theorem dX2_init_7 : decode cX2_init 7 = .ok (.newarray .int, 2) := by decide +kernel
theorem dX2_init_9 : decode cX2_init 9 = .ok (.putfield 9, 3) := by decide +kernel
theorem dX2_init_12 : decode cX2_init 12 = .ok (.aload_n 0, 1) := by decide +kernel
theorem dX2_init_13 : decode cX2_init 13 = .ok (.bipush 40, 2) := by decide +kernel
theorem dX2_init_15 : decode cX2_init 15 = .ok (.newarray .int, 2) := by decide +kernel
theorem dX2_init_17 : decode cX2_init 17 = .ok (.putfield 15, 3) := by decide +kernel
theorem dX2_init_20 : decode cX2_init 20 = .ok (.return_, 1) := by decide +kernel
set_option maxRecDepth 100000 in
theorem ci_u2 : ∀ w ∈ u_ws RX2 TX2 2, w ∈ ci_TT := by decide +kernel
abbrev cX3_init : ByteArray := prog_5_method_1_code
def yX3_init : MethodName := ⟨RX3, "<init>", "()V"⟩
theorem dX3_init_0 : decode cX3_init 0 = .ok (.aload_n 0, 1) := by decide +kernel
theorem dX3_init_1 : decode cX3_init 1 = .ok (.invokespecial 3, 3) := by decide +kernel
theorem dX3_init_4 : decode cX3_init 4 = .ok (.aload_n 0, 1) := by decide +kernel
theorem dX3_init_5 : decode cX3_init 5 = .ok (.iconst 5, 1) := by decide +kernel
theorem dX3_init_6 : decode cX3_init 6 = .ok (.newarray .int, 2) := by decide +kernel
theorem dX3_init_8 : decode cX3_init 8 = .ok (.putfield 9, 3) := by decide +kernel
theorem dX3_init_11 : decode cX3_init 11 = .ok (.aload_n 0, 1) := by decide +kernel
theorem dX3_init_12 : decode cX3_init 12 = .ok (.bipush 8, 2) := by decide +kernel
theorem dX3_init_14 : decode cX3_init 14 = .ok (.newarray .int, 2) := by decide +kernel
theorem dX3_init_16 : decode cX3_init 16 = .ok (.putfield 15, 3) := by decide +kernel
theorem dX3_init_19 : decode cX3_init 19 = .ok (.aload_n 0, 1) := by decide +kernel
theorem dX3_init_20 : decode cX3_init 20 = .ok (.bipush 8, 2) := by decide +kernel
theorem dX3_init_22 : decode cX3_init 22 = .ok (.newarray .int, 2) := by decide +kernel
theorem dX3_init_24 : decode cX3_init 24 = .ok (.putfield 18, 3) := by decide +kernel
theorem dX3_init_27 : decode cX3_init 27 = .ok (.aload_n 0, 1) := by decide +kernel
theorem dX3_init_28 : decode cX3_init 28 = .ok (.bipush 59, 2) := by decide +kernel
theorem dX3_init_30 : decode cX3_init 30 = .ok (.putfield 21, 3) := by decide +kernel
theorem dX3_init_33 : decode cX3_init 33 = .ok (.iconst 0, 1) := by decide +kernel
theorem dX3_init_34 : decode cX3_init 34 = .ok (.istore_n 1, 1) := by decide +kernel
theorem dX3_init_35 : decode cX3_init 35 = .ok (.iload_n 1, 1) := by decide +kernel
theorem dX3_init_36 : decode cX3_init 36 = .ok (.iconst 5, 1) := by decide +kernel
theorem dX3_init_37 : decode cX3_init 37 = .ok (.if_icmp .ge 18, 3) := by decide +kernel
theorem dX3_init_40 : decode cX3_init 40 = .ok (.aload_n 0, 1) := by decide +kernel
theorem dX3_init_41 : decode cX3_init 41 = .ok (.getfield 9, 3) := by decide +kernel
theorem dX3_init_44 : decode cX3_init 44 = .ok (.iload_n 1, 1) := by decide +kernel
theorem dX3_init_45 : decode cX3_init 45 = .ok (.iload_n 1, 1) := by decide +kernel
theorem dX3_init_46 : decode cX3_init 46 = .ok (.iconst 1, 1) := by decide +kernel
theorem dX3_init_47 : decode cX3_init 47 = .ok (.iadd, 1) := by decide +kernel
theorem dX3_init_48 : decode cX3_init 48 = .ok (.iastore, 1) := by decide +kernel
theorem dX3_init_49 : decode cX3_init 49 = .ok (.iinc 1 1, 3) := by decide +kernel
theorem dX3_init_52 : decode cX3_init 52 = .ok (.goto (-17), 3) := by decide +kernel
theorem dX3_init_55 : decode cX3_init 55 = .ok (.iconst 0, 1) := by decide +kernel
theorem dX3_init_56 : decode cX3_init 56 = .ok (.istore_n 1, 1) := by decide +kernel
theorem dX3_init_57 : decode cX3_init 57 = .ok (.iload_n 1, 1) := by decide +kernel
theorem dX3_init_58 : decode cX3_init 58 = .ok (.bipush 8, 2) := by decide +kernel
theorem dX3_init_60 : decode cX3_init 60 = .ok (.if_icmp .ge 24, 3) := by decide +kernel
theorem dX3_init_63 : decode cX3_init 63 = .ok (.aload_n 0, 1) := by decide +kernel
theorem dX3_init_64 : decode cX3_init 64 = .ok (.getfield 15, 3) := by decide +kernel
theorem dX3_init_67 : decode cX3_init 67 = .ok (.iload_n 1, 1) := by decide +kernel
theorem dX3_init_68 : decode cX3_init 68 = .ok (.bipush 99, 2) := by decide +kernel
theorem dX3_init_70 : decode cX3_init 70 = .ok (.iastore, 1) := by decide +kernel
theorem dX3_init_71 : decode cX3_init 71 = .ok (.aload_n 0, 1) := by decide +kernel
theorem dX3_init_72 : decode cX3_init 72 = .ok (.getfield 18, 3) := by decide +kernel
theorem dX3_init_75 : decode cX3_init 75 = .ok (.iload_n 1, 1) := by decide +kernel
theorem dX3_init_76 : decode cX3_init 76 = .ok (.iconst 1, 1) := by decide +kernel
theorem dX3_init_77 : decode cX3_init 77 = .ok (.iastore, 1) := by decide +kernel
theorem dX3_init_78 : decode cX3_init 78 = .ok (.iinc 1 1, 3) := by decide +kernel
theorem dX3_init_81 : decode cX3_init 81 = .ok (.goto (-24), 3) := by decide +kernel
theorem dX3_init_84 : decode cX3_init 84 = .ok (.return_, 1) := by decide +kernel
set_option maxRecDepth 100000 in
theorem ci_u3 : ∀ w ∈ u_ws RX3 TX3 4, w ∈ ci_TT := by decide +kernel
abbrev cX4_init : ByteArray := prog_6_method_1_code
def yX4_init : MethodName := ⟨RX4, "<init>", "(LSweptDownhill$Town;LSweptDownhill$Law;)V"⟩
theorem dX4_init_0 : decode cX4_init 0 = .ok (.aload_n 0, 1) := by decide +kernel
theorem dX4_init_1 : decode cX4_init 1 = .ok (.invokespecial 3, 3) := by decide +kernel
theorem dX4_init_4 : decode cX4_init 4 = .ok (.aload_n 0, 1) := by decide +kernel
theorem dX4_init_5 : decode cX4_init 5 = .ok (.bipush 8, 2) := by decide +kernel
theorem dX4_init_7 : decode cX4_init 7 = .ok (.newarray .int, 2) := by decide +kernel
theorem dX4_init_9 : decode cX4_init 9 = .ok (.putfield 9, 3) := by decide +kernel
theorem dX4_init_12 : decode cX4_init 12 = .ok (.aload_n 0, 1) := by decide +kernel
theorem dX4_init_13 : decode cX4_init 13 = .ok (.bipush 8, 2) := by decide +kernel
theorem dX4_init_15 : decode cX4_init 15 = .ok (.newarray .int, 2) := by decide +kernel
theorem dX4_init_17 : decode cX4_init 17 = .ok (.putfield 15, 3) := by decide +kernel
theorem dX4_init_20 : decode cX4_init 20 = .ok (.aload_n 0, 1) := by decide +kernel
theorem dX4_init_21 : decode cX4_init 21 = .ok (.bipush 8, 2) := by decide +kernel
theorem dX4_init_23 : decode cX4_init 23 = .ok (.newarray .boolean, 2) := by decide +kernel
theorem dX4_init_25 : decode cX4_init 25 = .ok (.putfield 18, 3) := by decide +kernel
theorem dX4_init_28 : decode cX4_init 28 = .ok (.aload_n 0, 1) := by decide +kernel
theorem dX4_init_29 : decode cX4_init 29 = .ok (.iconst 3, 1) := by decide +kernel
theorem dX4_init_30 : decode cX4_init 30 = .ok (.newarray .int, 2) := by decide +kernel
theorem dX4_init_32 : decode cX4_init 32 = .ok (.putfield 22, 3) := by decide +kernel
theorem dX4_init_35 : decode cX4_init 35 = .ok (.aload_n 0, 1) := by decide +kernel
theorem dX4_init_36 : decode cX4_init 36 = .ok (.iconst 3, 1) := by decide +kernel
theorem dX4_init_37 : decode cX4_init 37 = .ok (.newarray .int, 2) := by decide +kernel
theorem dX4_init_39 : decode cX4_init 39 = .ok (.putfield 25, 3) := by decide +kernel
theorem dX4_init_42 : decode cX4_init 42 = .ok (.aload_n 0, 1) := by decide +kernel
theorem dX4_init_43 : decode cX4_init 43 = .ok (.iconst 0, 1) := by decide +kernel
theorem dX4_init_44 : decode cX4_init 44 = .ok (.putfield 28, 3) := by decide +kernel
theorem dX4_init_47 : decode cX4_init 47 = .ok (.aload_n 0, 1) := by decide +kernel
theorem dX4_init_48 : decode cX4_init 48 = .ok (.iconst 0, 1) := by decide +kernel
theorem dX4_init_49 : decode cX4_init 49 = .ok (.putfield 32, 3) := by decide +kernel
theorem dX4_init_52 : decode cX4_init 52 = .ok (.aload_n 0, 1) := by decide +kernel
theorem dX4_init_53 : decode cX4_init 53 = .ok (.iconst 0, 1) := by decide +kernel
theorem dX4_init_54 : decode cX4_init 54 = .ok (.putfield 35, 3) := by decide +kernel
theorem dX4_init_57 : decode cX4_init 57 = .ok (.aload_n 0, 1) := by decide +kernel
theorem dX4_init_58 : decode cX4_init 58 = .ok (.aload_n 1, 1) := by decide +kernel
theorem dX4_init_59 : decode cX4_init 59 = .ok (.putfield 38, 3) := by decide +kernel
theorem dX4_init_62 : decode cX4_init 62 = .ok (.aload_n 0, 1) := by decide +kernel
theorem dX4_init_63 : decode cX4_init 63 = .ok (.aload_n 2, 1) := by decide +kernel
theorem dX4_init_64 : decode cX4_init 64 = .ok (.putfield 42, 3) := by decide +kernel
theorem dX4_init_67 : decode cX4_init 67 = .ok (.return_, 1) := by decide +kernel
set_option maxRecDepth 100000 in
theorem ci_u4 : ∀ w ∈ u_ws RX4 TX4 10, w ∈ ci_TT := by decide +kernel
abbrev cX5_init : ByteArray := prog_7_method_1_code
def yX5_init : MethodName := ⟨RX5, "<init>", "()V"⟩
theorem dX5_init_0 : decode cX5_init 0 = .ok (.aload_n 0, 1) := by decide +kernel
theorem dX5_init_1 : decode cX5_init 1 = .ok (.invokespecial 3, 3) := by decide +kernel
theorem dX5_init_4 : decode cX5_init 4 = .ok (.aload_n 0, 1) := by decide +kernel
theorem dX5_init_5 : decode cX5_init 5 = .ok (.bipush 48, 2) := by decide +kernel
theorem dX5_init_7 : decode cX5_init 7 = .ok (.newarray .int, 2) := by decide +kernel
theorem dX5_init_9 : decode cX5_init 9 = .ok (.putfield 9, 3) := by decide +kernel
theorem dX5_init_12 : decode cX5_init 12 = .ok (.aload_n 0, 1) := by decide +kernel
theorem dX5_init_13 : decode cX5_init 13 = .ok (.iconst 0, 1) := by decide +kernel
theorem dX5_init_14 : decode cX5_init 14 = .ok (.putfield 15, 3) := by decide +kernel
theorem dX5_init_17 : decode cX5_init 17 = .ok (.aload_n 0, 1) := by decide +kernel
theorem dX5_init_18 : decode cX5_init 18 = .ok (.iconst (-1), 1) := by decide +kernel
theorem dX5_init_19 : decode cX5_init 19 = .ok (.putfield 19, 3) := by decide +kernel
theorem dX5_init_22 : decode cX5_init 22 = .ok (.return_, 1) := by decide +kernel
set_option maxRecDepth 100000 in
theorem ci_u5 : ∀ w ∈ u_ws RX5 TX5 3, w ∈ ci_TT := by decide +kernel
abbrev cX6_init : ByteArray := prog_8_method_1_code
def yX6_init : MethodName := ⟨RX6, "<init>", "(I)V"⟩
theorem dX6_init_0 : decode cX6_init 0 = .ok (.aload_n 0, 1) := by decide +kernel
theorem dX6_init_1 : decode cX6_init 1 = .ok (.invokespecial 3, 3) := by decide +kernel
theorem dX6_init_4 : decode cX6_init 4 = .ok (.aload_n 0, 1) := by decide +kernel
theorem dX6_init_5 : decode cX6_init 5 = .ok (.bipush 40, 2) := by decide +kernel
theorem dX6_init_7 : decode cX6_init 7 = .ok (.newarray .int, 2) := by decide +kernel
theorem dX6_init_9 : decode cX6_init 9 = .ok (.putfield 9, 3) := by decide +kernel
theorem dX6_init_12 : decode cX6_init 12 = .ok (.aload_n 0, 1) := by decide +kernel
theorem dX6_init_13 : decode cX6_init 13 = .ok (.iconst 0, 1) := by decide +kernel
theorem dX6_init_14 : decode cX6_init 14 = .ok (.putfield 15, 3) := by decide +kernel
theorem dX6_init_17 : decode cX6_init 17 = .ok (.aload_n 0, 1) := by decide +kernel
theorem dX6_init_18 : decode cX6_init 18 = .ok (.iload_n 1, 1) := by decide +kernel
theorem dX6_init_19 : decode cX6_init 19 = .ok (.bipush 40, 2) := by decide +kernel
theorem dX6_init_21 : decode cX6_init 21 = .ok (.invokestatic 19, 3) := by decide +kernel
theorem dX6_init_24 : decode cX6_init 24 = .ok (.putfield 25, 3) := by decide +kernel
theorem dX6_init_27 : decode cX6_init 27 = .ok (.return_, 1) := by decide +kernel
set_option maxRecDepth 100000 in
theorem ci_u6 : ∀ w ∈ u_ws RX6 TX6 3, w ∈ ci_TT := by decide +kernel
abbrev cX7_init : ByteArray := prog_9_method_1_code
def yX7_init : MethodName := ⟨RX7, "<init>", "()V"⟩
theorem dX7_init_0 : decode cX7_init 0 = .ok (.aload_n 0, 1) := by decide +kernel
theorem dX7_init_1 : decode cX7_init 1 = .ok (.invokespecial 3, 3) := by decide +kernel
theorem dX7_init_4 : decode cX7_init 4 = .ok (.aload_n 0, 1) := by decide +kernel
theorem dX7_init_5 : decode cX7_init 5 = .ok (.new 9, 3) := by decide +kernel
theorem dX7_init_8 : decode cX7_init 8 = .ok (.dup, 1) := by decide +kernel
theorem dX7_init_9 : decode cX7_init 9 = .ok (.bipush 20, 2) := by decide +kernel
theorem dX7_init_11 : decode cX7_init 11 = .ok (.invokespecial 11, 3) := by decide +kernel
theorem dX7_init_14 : decode cX7_init 14 = .ok (.putfield 14, 3) := by decide +kernel
theorem dX7_init_17 : decode cX7_init 17 = .ok (.aload_n 0, 1) := by decide +kernel
theorem dX7_init_18 : decode cX7_init 18 = .ok (.new 9, 3) := by decide +kernel
theorem dX7_init_21 : decode cX7_init 21 = .ok (.dup, 1) := by decide +kernel
theorem dX7_init_22 : decode cX7_init 22 = .ok (.bipush 24, 2) := by decide +kernel
theorem dX7_init_24 : decode cX7_init 24 = .ok (.invokespecial 11, 3) := by decide +kernel
theorem dX7_init_27 : decode cX7_init 27 = .ok (.putfield 20, 3) := by decide +kernel
theorem dX7_init_30 : decode cX7_init 30 = .ok (.aload_n 0, 1) := by decide +kernel
theorem dX7_init_31 : decode cX7_init 31 = .ok (.new 9, 3) := by decide +kernel
theorem dX7_init_34 : decode cX7_init 34 = .ok (.dup, 1) := by decide +kernel
theorem dX7_init_35 : decode cX7_init 35 = .ok (.bipush 8, 2) := by decide +kernel
theorem dX7_init_37 : decode cX7_init 37 = .ok (.invokespecial 11, 3) := by decide +kernel
theorem dX7_init_40 : decode cX7_init 40 = .ok (.putfield 23, 3) := by decide +kernel
theorem dX7_init_43 : decode cX7_init 43 = .ok (.aload_n 0, 1) := by decide +kernel
theorem dX7_init_44 : decode cX7_init 44 = .ok (.bipush 60, 2) := by decide +kernel
theorem dX7_init_46 : decode cX7_init 46 = .ok (.newarray .int, 2) := by decide +kernel
theorem dX7_init_48 : decode cX7_init 48 = .ok (.putfield 26, 3) := by decide +kernel
theorem dX7_init_51 : decode cX7_init 51 = .ok (.return_, 1) := by decide +kernel
set_option maxRecDepth 100000 in
theorem ci_u7 : ∀ w ∈ u_ws RX7 TX7 4, w ∈ ci_TT := by decide +kernel
abbrev cX8_init : ByteArray := prog_10_method_1_code
def yX8_init : MethodName := ⟨RX8, "<init>", "()V"⟩
theorem dX8_init_0 : decode cX8_init 0 = .ok (.aload_n 0, 1) := by decide +kernel
theorem dX8_init_1 : decode cX8_init 1 = .ok (.invokespecial 3, 3) := by decide +kernel
theorem dX8_init_4 : decode cX8_init 4 = .ok (.aload_n 0, 1) := by decide +kernel
theorem dX8_init_5 : decode cX8_init 5 = .ok (.new 9, 3) := by decide +kernel
theorem dX8_init_8 : decode cX8_init 8 = .ok (.dup, 1) := by decide +kernel
theorem dX8_init_9 : decode cX8_init 9 = .ok (.bipush 8, 2) := by decide +kernel
theorem dX8_init_11 : decode cX8_init 11 = .ok (.invokespecial 11, 3) := by decide +kernel
theorem dX8_init_14 : decode cX8_init 14 = .ok (.putfield 14, 3) := by decide +kernel
theorem dX8_init_17 : decode cX8_init 17 = .ok (.aload_n 0, 1) := by decide +kernel
theorem dX8_init_18 : decode cX8_init 18 = .ok (.new 9, 3) := by decide +kernel
theorem dX8_init_21 : decode cX8_init 21 = .ok (.dup, 1) := by decide +kernel
theorem dX8_init_22 : decode cX8_init 22 = .ok (.bipush 40, 2) := by decide +kernel
theorem dX8_init_24 : decode cX8_init 24 = .ok (.invokespecial 11, 3) := by decide +kernel
theorem dX8_init_27 : decode cX8_init 27 = .ok (.putfield 20, 3) := by decide +kernel
theorem dX8_init_30 : decode cX8_init 30 = .ok (.aload_n 0, 1) := by decide +kernel
theorem dX8_init_31 : decode cX8_init 31 = .ok (.bipush 8, 2) := by decide +kernel
theorem dX8_init_33 : decode cX8_init 33 = .ok (.newarray .int, 2) := by decide +kernel
theorem dX8_init_35 : decode cX8_init 35 = .ok (.putfield 23, 3) := by decide +kernel
theorem dX8_init_38 : decode cX8_init 38 = .ok (.aload_n 0, 1) := by decide +kernel
theorem dX8_init_39 : decode cX8_init 39 = .ok (.bipush 12, 2) := by decide +kernel
theorem dX8_init_41 : decode cX8_init 41 = .ok (.newarray .int, 2) := by decide +kernel
theorem dX8_init_43 : decode cX8_init 43 = .ok (.putfield 27, 3) := by decide +kernel
theorem dX8_init_46 : decode cX8_init 46 = .ok (.aload_n 0, 1) := by decide +kernel
theorem dX8_init_47 : decode cX8_init 47 = .ok (.bipush 12, 2) := by decide +kernel
theorem dX8_init_49 : decode cX8_init 49 = .ok (.newarray .int, 2) := by decide +kernel
theorem dX8_init_51 : decode cX8_init 51 = .ok (.putfield 30, 3) := by decide +kernel
theorem dX8_init_54 : decode cX8_init 54 = .ok (.aload_n 0, 1) := by decide +kernel
theorem dX8_init_55 : decode cX8_init 55 = .ok (.bipush 8, 2) := by decide +kernel
theorem dX8_init_57 : decode cX8_init 57 = .ok (.newarray .int, 2) := by decide +kernel
theorem dX8_init_59 : decode cX8_init 59 = .ok (.putfield 33, 3) := by decide +kernel
theorem dX8_init_62 : decode cX8_init 62 = .ok (.aload_n 0, 1) := by decide +kernel
theorem dX8_init_63 : decode cX8_init 63 = .ok (.bipush 12, 2) := by decide +kernel
theorem dX8_init_65 : decode cX8_init 65 = .ok (.newarray .int, 2) := by decide +kernel
theorem dX8_init_67 : decode cX8_init 67 = .ok (.putfield 36, 3) := by decide +kernel
theorem dX8_init_70 : decode cX8_init 70 = .ok (.aload_n 0, 1) := by decide +kernel
theorem dX8_init_71 : decode cX8_init 71 = .ok (.bipush 8, 2) := by decide +kernel
theorem dX8_init_73 : decode cX8_init 73 = .ok (.newarray .int, 2) := by decide +kernel
theorem dX8_init_75 : decode cX8_init 75 = .ok (.putfield 39, 3) := by decide +kernel
theorem dX8_init_78 : decode cX8_init 78 = .ok (.aload_n 0, 1) := by decide +kernel
theorem dX8_init_79 : decode cX8_init 79 = .ok (.iconst 0, 1) := by decide +kernel
theorem dX8_init_80 : decode cX8_init 80 = .ok (.putfield 42, 3) := by decide +kernel
theorem dX8_init_83 : decode cX8_init 83 = .ok (.aload_n 0, 1) := by decide +kernel
theorem dX8_init_84 : decode cX8_init 84 = .ok (.iconst 0, 1) := by decide +kernel
theorem dX8_init_85 : decode cX8_init 85 = .ok (.putfield 46, 3) := by decide +kernel
theorem dX8_init_88 : decode cX8_init 88 = .ok (.aload_n 0, 1) := by decide +kernel
theorem dX8_init_89 : decode cX8_init 89 = .ok (.iconst (-1), 1) := by decide +kernel
theorem dX8_init_90 : decode cX8_init 90 = .ok (.putfield 49, 3) := by decide +kernel
theorem dX8_init_93 : decode cX8_init 93 = .ok (.aload_n 0, 1) := by decide +kernel
theorem dX8_init_94 : decode cX8_init 94 = .ok (.iconst (-1), 1) := by decide +kernel
theorem dX8_init_95 : decode cX8_init 95 = .ok (.putfield 52, 3) := by decide +kernel
theorem dX8_init_98 : decode cX8_init 98 = .ok (.return_, 1) := by decide +kernel
set_option maxRecDepth 100000 in
theorem ci_u8 : ∀ w ∈ u_ws RX8 TX8 12, w ∈ ci_TT := by decide +kernel
abbrev cX9_init : ByteArray := prog_1_method_1_code
def yX9_init : MethodName := ⟨RX9, "<init>", "()V"⟩
theorem dX9_init_0 : decode cX9_init 0 = .ok (.aload_n 0, 1) := by decide +kernel
theorem dX9_init_1 : decode cX9_init 1 = .ok (.invokespecial 1, 3) := by decide +kernel
theorem dX9_init_4 : decode cX9_init 4 = .ok (.aload_n 0, 1) := by decide +kernel
theorem dX9_init_5 : decode cX9_init 5 = .ok (.new 7, 3) := by decide +kernel
theorem dX9_init_8 : decode cX9_init 8 = .ok (.dup, 1) := by decide +kernel
theorem dX9_init_9 : decode cX9_init 9 = .ok (.invokespecial 9, 3) := by decide +kernel
theorem dX9_init_12 : decode cX9_init 12 = .ok (.putfield 10, 3) := by decide +kernel
theorem dX9_init_15 : decode cX9_init 15 = .ok (.aload_n 0, 1) := by decide +kernel
theorem dX9_init_16 : decode cX9_init 16 = .ok (.new 16, 3) := by decide +kernel
theorem dX9_init_19 : decode cX9_init 19 = .ok (.dup, 1) := by decide +kernel
theorem dX9_init_20 : decode cX9_init 20 = .ok (.invokespecial 18, 3) := by decide +kernel
theorem dX9_init_23 : decode cX9_init 23 = .ok (.putfield 19, 3) := by decide +kernel
theorem dX9_init_26 : decode cX9_init 26 = .ok (.aload_n 0, 1) := by decide +kernel
theorem dX9_init_27 : decode cX9_init 27 = .ok (.new 23, 3) := by decide +kernel
theorem dX9_init_30 : decode cX9_init 30 = .ok (.dup, 1) := by decide +kernel
theorem dX9_init_31 : decode cX9_init 31 = .ok (.invokespecial 25, 3) := by decide +kernel
theorem dX9_init_34 : decode cX9_init 34 = .ok (.putfield 26, 3) := by decide +kernel
theorem dX9_init_37 : decode cX9_init 37 = .ok (.aload_n 0, 1) := by decide +kernel
theorem dX9_init_38 : decode cX9_init 38 = .ok (.new 30, 3) := by decide +kernel
theorem dX9_init_41 : decode cX9_init 41 = .ok (.dup, 1) := by decide +kernel
theorem dX9_init_42 : decode cX9_init 42 = .ok (.aload_n 0, 1) := by decide +kernel
theorem dX9_init_43 : decode cX9_init 43 = .ok (.getfield 10, 3) := by decide +kernel
theorem dX9_init_46 : decode cX9_init 46 = .ok (.aload_n 0, 1) := by decide +kernel
theorem dX9_init_47 : decode cX9_init 47 = .ok (.getfield 19, 3) := by decide +kernel
theorem dX9_init_50 : decode cX9_init 50 = .ok (.aload_n 0, 1) := by decide +kernel
theorem dX9_init_51 : decode cX9_init 51 = .ok (.getfield 26, 3) := by decide +kernel
theorem dX9_init_54 : decode cX9_init 54 = .ok (.invokespecial 32, 3) := by decide +kernel
theorem dX9_init_57 : decode cX9_init 57 = .ok (.putfield 35, 3) := by decide +kernel
theorem dX9_init_60 : decode cX9_init 60 = .ok (.aload_n 0, 1) := by decide +kernel
theorem dX9_init_61 : decode cX9_init 61 = .ok (.new 30, 3) := by decide +kernel
theorem dX9_init_64 : decode cX9_init 64 = .ok (.dup, 1) := by decide +kernel
theorem dX9_init_65 : decode cX9_init 65 = .ok (.aload_n 0, 1) := by decide +kernel
theorem dX9_init_66 : decode cX9_init 66 = .ok (.getfield 10, 3) := by decide +kernel
theorem dX9_init_69 : decode cX9_init 69 = .ok (.aload_n 0, 1) := by decide +kernel
theorem dX9_init_70 : decode cX9_init 70 = .ok (.getfield 19, 3) := by decide +kernel
theorem dX9_init_73 : decode cX9_init 73 = .ok (.aload_n 0, 1) := by decide +kernel
theorem dX9_init_74 : decode cX9_init 74 = .ok (.getfield 26, 3) := by decide +kernel
theorem dX9_init_77 : decode cX9_init 77 = .ok (.invokespecial 32, 3) := by decide +kernel
theorem dX9_init_80 : decode cX9_init 80 = .ok (.putfield 39, 3) := by decide +kernel
theorem dX9_init_83 : decode cX9_init 83 = .ok (.aload_n 0, 1) := by decide +kernel
theorem dX9_init_84 : decode cX9_init 84 = .ok (.new 42, 3) := by decide +kernel
theorem dX9_init_87 : decode cX9_init 87 = .ok (.dup, 1) := by decide +kernel
theorem dX9_init_88 : decode cX9_init 88 = .ok (.aload_n 0, 1) := by decide +kernel
theorem dX9_init_89 : decode cX9_init 89 = .ok (.getfield 10, 3) := by decide +kernel
theorem dX9_init_92 : decode cX9_init 92 = .ok (.aload_n 0, 1) := by decide +kernel
theorem dX9_init_93 : decode cX9_init 93 = .ok (.getfield 19, 3) := by decide +kernel
theorem dX9_init_96 : decode cX9_init 96 = .ok (.invokespecial 44, 3) := by decide +kernel
theorem dX9_init_99 : decode cX9_init 99 = .ok (.putfield 47, 3) := by decide +kernel
theorem dX9_init_102 : decode cX9_init 102 = .ok (.aload_n 0, 1) := by decide +kernel
theorem dX9_init_103 : decode cX9_init 103 = .ok (.iconst 4, 1) := by decide +kernel
theorem dX9_init_104 : decode cX9_init 104 = .ok (.anewarray 51, 3) := by decide +kernel
theorem dX9_init_107 : decode cX9_init 107 = .ok (.putfield 53, 3) := by decide +kernel
theorem dX9_init_110 : decode cX9_init 110 = .ok (.iconst 0, 1) := by decide +kernel
theorem dX9_init_111 : decode cX9_init 111 = .ok (.istore_n 1, 1) := by decide +kernel
theorem dX9_init_112 : decode cX9_init 112 = .ok (.iload_n 1, 1) := by decide +kernel
theorem dX9_init_113 : decode cX9_init 113 = .ok (.iconst 4, 1) := by decide +kernel
theorem dX9_init_114 : decode cX9_init 114 = .ok (.if_icmp .ge 22, 3) := by decide +kernel
theorem dX9_init_117 : decode cX9_init 117 = .ok (.aload_n 0, 1) := by decide +kernel
theorem dX9_init_118 : decode cX9_init 118 = .ok (.getfield 53, 3) := by decide +kernel
theorem dX9_init_121 : decode cX9_init 121 = .ok (.iload_n 1, 1) := by decide +kernel
theorem dX9_init_122 : decode cX9_init 122 = .ok (.new 51, 3) := by decide +kernel
theorem dX9_init_125 : decode cX9_init 125 = .ok (.dup, 1) := by decide +kernel
theorem dX9_init_126 : decode cX9_init 126 = .ok (.invokespecial 57, 3) := by decide +kernel
theorem dX9_init_129 : decode cX9_init 129 = .ok (.aastore, 1) := by decide +kernel
theorem dX9_init_130 : decode cX9_init 130 = .ok (.iinc 1 1, 3) := by decide +kernel
theorem dX9_init_133 : decode cX9_init 133 = .ok (.goto (-21), 3) := by decide +kernel
theorem dX9_init_136 : decode cX9_init 136 = .ok (.aload_n 0, 1) := by decide +kernel
theorem dX9_init_137 : decode cX9_init 137 = .ok (.iconst 0, 1) := by decide +kernel
theorem dX9_init_138 : decode cX9_init 138 = .ok (.putfield 58, 3) := by decide +kernel
theorem dX9_init_141 : decode cX9_init 141 = .ok (.return_, 1) := by decide +kernel
set_option maxRecDepth 100000 in
theorem ci_u9 : ∀ w ∈ u_ws RX9 TX9 8, w ∈ ci_TT := by decide +kernel
abbrev cX10_init : ByteArray := prog_12_method_1_code
def yX10_init : MethodName := ⟨RX10, "<init>", "()V"⟩
theorem dX10_init_0 : decode cX10_init 0 = .ok (.aload_n 0, 1) := by decide +kernel
theorem dX10_init_1 : decode cX10_init 1 = .ok (.invokespecial 1, 3) := by decide +kernel
theorem dX10_init_4 : decode cX10_init 4 = .ok (.aload_n 0, 1) := by decide +kernel
theorem dX10_init_5 : decode cX10_init 5 = .ok (.iconst 2, 1) := by decide +kernel
theorem dX10_init_6 : decode cX10_init 6 = .ok (.newarray .int, 2) := by decide +kernel
theorem dX10_init_8 : decode cX10_init 8 = .ok (.putfield 7, 3) := by decide +kernel
theorem dX10_init_11 : decode cX10_init 11 = .ok (.aload_n 0, 1) := by decide +kernel
theorem dX10_init_12 : decode cX10_init 12 = .ok (.bipush 80, 2) := by decide +kernel
theorem dX10_init_14 : decode cX10_init 14 = .ok (.newarray .int, 2) := by decide +kernel
theorem dX10_init_16 : decode cX10_init 16 = .ok (.putfield 13, 3) := by decide +kernel
theorem dX10_init_19 : decode cX10_init 19 = .ok (.aload_n 0, 1) := by decide +kernel
theorem dX10_init_20 : decode cX10_init 20 = .ok (.bipush 8, 2) := by decide +kernel
theorem dX10_init_22 : decode cX10_init 22 = .ok (.newarray .int, 2) := by decide +kernel
theorem dX10_init_24 : decode cX10_init 24 = .ok (.putfield 16, 3) := by decide +kernel
theorem dX10_init_27 : decode cX10_init 27 = .ok (.aload_n 0, 1) := by decide +kernel
theorem dX10_init_28 : decode cX10_init 28 = .ok (.bipush 12, 2) := by decide +kernel
theorem dX10_init_30 : decode cX10_init 30 = .ok (.newarray .int, 2) := by decide +kernel
theorem dX10_init_32 : decode cX10_init 32 = .ok (.putfield 19, 3) := by decide +kernel
theorem dX10_init_35 : decode cX10_init 35 = .ok (.aload_n 0, 1) := by decide +kernel
theorem dX10_init_36 : decode cX10_init 36 = .ok (.bipush 12, 2) := by decide +kernel
theorem dX10_init_38 : decode cX10_init 38 = .ok (.newarray .int, 2) := by decide +kernel
theorem dX10_init_40 : decode cX10_init 40 = .ok (.putfield 22, 3) := by decide +kernel
theorem dX10_init_43 : decode cX10_init 43 = .ok (.aload_n 0, 1) := by decide +kernel
theorem dX10_init_44 : decode cX10_init 44 = .ok (.iconst 5, 1) := by decide +kernel
theorem dX10_init_45 : decode cX10_init 45 = .ok (.newarray .int, 2) := by decide +kernel
theorem dX10_init_47 : decode cX10_init 47 = .ok (.putfield 25, 3) := by decide +kernel
theorem dX10_init_50 : decode cX10_init 50 = .ok (.aload_n 0, 1) := by decide +kernel
theorem dX10_init_51 : decode cX10_init 51 = .ok (.bipush 8, 2) := by decide +kernel
theorem dX10_init_53 : decode cX10_init 53 = .ok (.newarray .int, 2) := by decide +kernel
theorem dX10_init_55 : decode cX10_init 55 = .ok (.putfield 28, 3) := by decide +kernel
theorem dX10_init_58 : decode cX10_init 58 = .ok (.aload_n 0, 1) := by decide +kernel
theorem dX10_init_59 : decode cX10_init 59 = .ok (.bipush 8, 2) := by decide +kernel
theorem dX10_init_61 : decode cX10_init 61 = .ok (.newarray .int, 2) := by decide +kernel
theorem dX10_init_63 : decode cX10_init 63 = .ok (.putfield 31, 3) := by decide +kernel
theorem dX10_init_66 : decode cX10_init 66 = .ok (.aload_n 0, 1) := by decide +kernel
theorem dX10_init_67 : decode cX10_init 67 = .ok (.bipush 21, 2) := by decide +kernel
theorem dX10_init_69 : decode cX10_init 69 = .ok (.newarray .int, 2) := by decide +kernel
theorem dX10_init_71 : decode cX10_init 71 = .ok (.putfield 34, 3) := by decide +kernel
theorem dX10_init_74 : decode cX10_init 74 = .ok (.aload_n 0, 1) := by decide +kernel
theorem dX10_init_75 : decode cX10_init 75 = .ok (.bipush 21, 2) := by decide +kernel
theorem dX10_init_77 : decode cX10_init 77 = .ok (.newarray .int, 2) := by decide +kernel
theorem dX10_init_79 : decode cX10_init 79 = .ok (.putfield 37, 3) := by decide +kernel
theorem dX10_init_82 : decode cX10_init 82 = .ok (.aload_n 0, 1) := by decide +kernel
theorem dX10_init_83 : decode cX10_init 83 = .ok (.bipush 21, 2) := by decide +kernel
theorem dX10_init_85 : decode cX10_init 85 = .ok (.newarray .int, 2) := by decide +kernel
theorem dX10_init_87 : decode cX10_init 87 = .ok (.putfield 40, 3) := by decide +kernel
theorem dX10_init_90 : decode cX10_init 90 = .ok (.aload_n 0, 1) := by decide +kernel
theorem dX10_init_91 : decode cX10_init 91 = .ok (.bipush 21, 2) := by decide +kernel
theorem dX10_init_93 : decode cX10_init 93 = .ok (.newarray .int, 2) := by decide +kernel
theorem dX10_init_95 : decode cX10_init 95 = .ok (.putfield 43, 3) := by decide +kernel
theorem dX10_init_98 : decode cX10_init 98 = .ok (.aload_n 0, 1) := by decide +kernel
theorem dX10_init_99 : decode cX10_init 99 = .ok (.bipush 24, 2) := by decide +kernel
theorem dX10_init_101 : decode cX10_init 101 = .ok (.newarray .int, 2) := by decide +kernel
theorem dX10_init_103 : decode cX10_init 103 = .ok (.putfield 46, 3) := by decide +kernel
theorem dX10_init_106 : decode cX10_init 106 = .ok (.aload_n 0, 1) := by decide +kernel
theorem dX10_init_107 : decode cX10_init 107 = .ok (.bipush 24, 2) := by decide +kernel
theorem dX10_init_109 : decode cX10_init 109 = .ok (.newarray .int, 2) := by decide +kernel
theorem dX10_init_111 : decode cX10_init 111 = .ok (.putfield 49, 3) := by decide +kernel
theorem dX10_init_114 : decode cX10_init 114 = .ok (.aload_n 0, 1) := by decide +kernel
theorem dX10_init_115 : decode cX10_init 115 = .ok (.bipush 8, 2) := by decide +kernel
theorem dX10_init_117 : decode cX10_init 117 = .ok (.newarray .int, 2) := by decide +kernel
theorem dX10_init_119 : decode cX10_init 119 = .ok (.putfield 52, 3) := by decide +kernel
theorem dX10_init_122 : decode cX10_init 122 = .ok (.aload_n 0, 1) := by decide +kernel
theorem dX10_init_123 : decode cX10_init 123 = .ok (.bipush 8, 2) := by decide +kernel
theorem dX10_init_125 : decode cX10_init 125 = .ok (.newarray .int, 2) := by decide +kernel
theorem dX10_init_127 : decode cX10_init 127 = .ok (.putfield 55, 3) := by decide +kernel
theorem dX10_init_130 : decode cX10_init 130 = .ok (.aload_n 0, 1) := by decide +kernel
theorem dX10_init_131 : decode cX10_init 131 = .ok (.bipush 60, 2) := by decide +kernel
theorem dX10_init_133 : decode cX10_init 133 = .ok (.newarray .int, 2) := by decide +kernel
theorem dX10_init_135 : decode cX10_init 135 = .ok (.putfield 58, 3) := by decide +kernel
theorem dX10_init_138 : decode cX10_init 138 = .ok (.aload_n 0, 1) := by decide +kernel
theorem dX10_init_139 : decode cX10_init 139 = .ok (.bipush 40, 2) := by decide +kernel
theorem dX10_init_141 : decode cX10_init 141 = .ok (.newarray .int, 2) := by decide +kernel
theorem dX10_init_143 : decode cX10_init 143 = .ok (.putfield 61, 3) := by decide +kernel
theorem dX10_init_146 : decode cX10_init 146 = .ok (.aload_n 0, 1) := by decide +kernel
theorem dX10_init_147 : decode cX10_init 147 = .ok (.bipush 40, 2) := by decide +kernel
theorem dX10_init_149 : decode cX10_init 149 = .ok (.newarray .int, 2) := by decide +kernel
theorem dX10_init_151 : decode cX10_init 151 = .ok (.putfield 64, 3) := by decide +kernel
theorem dX10_init_154 : decode cX10_init 154 = .ok (.aload_n 0, 1) := by decide +kernel
theorem dX10_init_155 : decode cX10_init 155 = .ok (.iconst 3, 1) := by decide +kernel
theorem dX10_init_156 : decode cX10_init 156 = .ok (.newarray .int, 2) := by decide +kernel
theorem dX10_init_158 : decode cX10_init 158 = .ok (.putfield 67, 3) := by decide +kernel
theorem dX10_init_161 : decode cX10_init 161 = .ok (.aload_n 0, 1) := by decide +kernel
theorem dX10_init_162 : decode cX10_init 162 = .ok (.iconst 4, 1) := by decide +kernel
theorem dX10_init_163 : decode cX10_init 163 = .ok (.newarray .boolean, 2) := by decide +kernel
theorem dX10_init_165 : decode cX10_init 165 = .ok (.putfield 70, 3) := by decide +kernel
theorem dX10_init_168 : decode cX10_init 168 = .ok (.aload_n 0, 1) := by decide +kernel
theorem dX10_init_169 : decode cX10_init 169 = .ok (.iconst 4, 1) := by decide +kernel
theorem dX10_init_170 : decode cX10_init 170 = .ok (.newarray .int, 2) := by decide +kernel
theorem dX10_init_172 : decode cX10_init 172 = .ok (.putfield 74, 3) := by decide +kernel
theorem dX10_init_175 : decode cX10_init 175 = .ok (.aload_n 0, 1) := by decide +kernel
theorem dX10_init_176 : decode cX10_init 176 = .ok (.iconst 4, 1) := by decide +kernel
theorem dX10_init_177 : decode cX10_init 177 = .ok (.newarray .int, 2) := by decide +kernel
theorem dX10_init_179 : decode cX10_init 179 = .ok (.putfield 77, 3) := by decide +kernel
theorem dX10_init_182 : decode cX10_init 182 = .ok (.aload_n 0, 1) := by decide +kernel
theorem dX10_init_183 : decode cX10_init 183 = .ok (.sipush 192, 3) := by decide +kernel
theorem dX10_init_186 : decode cX10_init 186 = .ok (.newarray .int, 2) := by decide +kernel
theorem dX10_init_188 : decode cX10_init 188 = .ok (.putfield 80, 3) := by decide +kernel
theorem dX10_init_191 : decode cX10_init 191 = .ok (.aload_n 0, 1) := by decide +kernel
theorem dX10_init_192 : decode cX10_init 192 = .ok (.bipush 48, 2) := by decide +kernel
theorem dX10_init_194 : decode cX10_init 194 = .ok (.newarray .int, 2) := by decide +kernel
theorem dX10_init_196 : decode cX10_init 196 = .ok (.putfield 83, 3) := by decide +kernel
theorem dX10_init_199 : decode cX10_init 199 = .ok (.iconst 0, 1) := by decide +kernel
theorem dX10_init_200 : decode cX10_init 200 = .ok (.istore_n 1, 1) := by decide +kernel
theorem dX10_init_201 : decode cX10_init 201 = .ok (.iload_n 1, 1) := by decide +kernel
theorem dX10_init_202 : decode cX10_init 202 = .ok (.iconst 5, 1) := by decide +kernel
theorem dX10_init_203 : decode cX10_init 203 = .ok (.if_icmp .ge 18, 3) := by decide +kernel
theorem dX10_init_206 : decode cX10_init 206 = .ok (.aload_n 0, 1) := by decide +kernel
theorem dX10_init_207 : decode cX10_init 207 = .ok (.getfield 25, 3) := by decide +kernel
theorem dX10_init_210 : decode cX10_init 210 = .ok (.iload_n 1, 1) := by decide +kernel
theorem dX10_init_211 : decode cX10_init 211 = .ok (.iload_n 1, 1) := by decide +kernel
theorem dX10_init_212 : decode cX10_init 212 = .ok (.iconst 1, 1) := by decide +kernel
theorem dX10_init_213 : decode cX10_init 213 = .ok (.iadd, 1) := by decide +kernel
theorem dX10_init_214 : decode cX10_init 214 = .ok (.iastore, 1) := by decide +kernel
theorem dX10_init_215 : decode cX10_init 215 = .ok (.iinc 1 1, 3) := by decide +kernel
theorem dX10_init_218 : decode cX10_init 218 = .ok (.goto (-17), 3) := by decide +kernel
theorem dX10_init_221 : decode cX10_init 221 = .ok (.iconst 0, 1) := by decide +kernel
theorem dX10_init_222 : decode cX10_init 222 = .ok (.istore_n 1, 1) := by decide +kernel
theorem dX10_init_223 : decode cX10_init 223 = .ok (.iload_n 1, 1) := by decide +kernel
theorem dX10_init_224 : decode cX10_init 224 = .ok (.bipush 8, 2) := by decide +kernel
theorem dX10_init_226 : decode cX10_init 226 = .ok (.if_icmp .ge 24, 3) := by decide +kernel
theorem dX10_init_229 : decode cX10_init 229 = .ok (.aload_n 0, 1) := by decide +kernel
theorem dX10_init_230 : decode cX10_init 230 = .ok (.getfield 28, 3) := by decide +kernel
theorem dX10_init_233 : decode cX10_init 233 = .ok (.iload_n 1, 1) := by decide +kernel
theorem dX10_init_234 : decode cX10_init 234 = .ok (.bipush 99, 2) := by decide +kernel
theorem dX10_init_236 : decode cX10_init 236 = .ok (.iastore, 1) := by decide +kernel
theorem dX10_init_237 : decode cX10_init 237 = .ok (.aload_n 0, 1) := by decide +kernel
theorem dX10_init_238 : decode cX10_init 238 = .ok (.getfield 31, 3) := by decide +kernel
theorem dX10_init_241 : decode cX10_init 241 = .ok (.iload_n 1, 1) := by decide +kernel
theorem dX10_init_242 : decode cX10_init 242 = .ok (.iconst 1, 1) := by decide +kernel
theorem dX10_init_243 : decode cX10_init 243 = .ok (.iastore, 1) := by decide +kernel
theorem dX10_init_244 : decode cX10_init 244 = .ok (.iinc 1 1, 3) := by decide +kernel
theorem dX10_init_247 : decode cX10_init 247 = .ok (.goto (-24), 3) := by decide +kernel
theorem dX10_init_250 : decode cX10_init 250 = .ok (.aload_n 0, 1) := by decide +kernel
theorem dX10_init_251 : decode cX10_init 251 = .ok (.bipush 59, 2) := by decide +kernel
theorem dX10_init_253 : decode cX10_init 253 = .ok (.putfield 86, 3) := by decide +kernel
theorem dX10_init_256 : decode cX10_init 256 = .ok (.return_, 1) := by decide +kernel
set_option maxRecDepth 100000 in
theorem ci_u10 : ∀ w ∈ u_ws RX10 TX10 35, w ∈ ci_TT := by decide +kernel
theorem dL_law_0 : decode code 0 = .ok (.new 7, 3) := by decide +kernel
theorem dL_law_3 : decode code 3 = .ok (.dup, 1) := by decide +kernel
theorem dL_law_4 : decode code 4 = .ok (.invokespecial 9, 3) := by decide +kernel
theorem dL_law_7 : decode code 7 = .ok (.astore_n 1, 1) := by decide +kernel
theorem dL_law_8 : decode code 8 = .ok (.new 10, 3) := by decide +kernel
theorem dL_law_11 : decode code 11 = .ok (.dup, 1) := by decide +kernel
theorem dL_law_12 : decode code 12 = .ok (.invokespecial 12, 3) := by decide +kernel
theorem dL_law_15 : decode code 15 = .ok (.astore_n 2, 1) := by decide +kernel
theorem dL_law_16 : decode code 16 = .ok (.iconst 0, 1) := by decide +kernel
theorem dL_law_17 : decode code 17 = .ok (.istore_n 3, 1) := by decide +kernel
theorem dL_law_1238 : decode code 1238 = .ok (.ireturn, 1) := by decide +kernel
theorem ci_c0 : Cond.code yX0_init cX0_init 2 none ∈ ci_TT := List.mem_of_getElem? (i := 88) rfl
theorem ci_g0 {c : Cond} : GoodIn (c :: ci_TT) (Cond.code yX0_init cX0_init 2 none :: ci_TT) := fun w hw => (List.mem_cons.mp hw).elim (fun e => ⟨List.mem_cons_of_mem _ (by rw [e]; exact ci_c0), good_of_word (ci_TT_good _ (by rw [e]; exact ci_c0))⟩) (fun h => ⟨List.mem_cons_of_mem _ h, good_of_word (ci_TT_good _ h)⟩)
theorem ci_gl0 : GoodIn lw_tbl (Cond.code yX0_init cX0_init 2 none :: ci_TT) := fun w hw => (List.mem_cons.mp hw).elim (fun e => ⟨ci_TT_tb _ (by rw [e]; exact ci_c0), good_of_word (ci_TT_good _ (by rw [e]; exact ci_c0))⟩) (fun h => ⟨ci_TT_tb _ h, good_of_word (ci_TT_good _ h)⟩)
theorem ci_c1 : Cond.code yX1_init cX1_init 4 none ∈ ci_TT := List.mem_of_getElem? (i := 115) rfl
theorem ci_g1 {c : Cond} : GoodIn (c :: ci_TT) (Cond.code yX1_init cX1_init 4 none :: ci_TT) := fun w hw => (List.mem_cons.mp hw).elim (fun e => ⟨List.mem_cons_of_mem _ (by rw [e]; exact ci_c1), good_of_word (ci_TT_good _ (by rw [e]; exact ci_c1))⟩) (fun h => ⟨List.mem_cons_of_mem _ h, good_of_word (ci_TT_good _ h)⟩)
theorem ci_gl1 : GoodIn lw_tbl (Cond.code yX1_init cX1_init 4 none :: ci_TT) := fun w hw => (List.mem_cons.mp hw).elim (fun e => ⟨ci_TT_tb _ (by rw [e]; exact ci_c1), good_of_word (ci_TT_good _ (by rw [e]; exact ci_c1))⟩) (fun h => ⟨ci_TT_tb _ h, good_of_word (ci_TT_good _ h)⟩)
theorem ci_c2 : Cond.code yX2_init cX2_init 1 none ∈ ci_TT := List.mem_of_getElem? (i := 120) rfl
theorem ci_g2 {c : Cond} : GoodIn (c :: ci_TT) (Cond.code yX2_init cX2_init 1 none :: ci_TT) := fun w hw => (List.mem_cons.mp hw).elim (fun e => ⟨List.mem_cons_of_mem _ (by rw [e]; exact ci_c2), good_of_word (ci_TT_good _ (by rw [e]; exact ci_c2))⟩) (fun h => ⟨List.mem_cons_of_mem _ h, good_of_word (ci_TT_good _ h)⟩)
theorem ci_gl2 : GoodIn lw_tbl (Cond.code yX2_init cX2_init 1 none :: ci_TT) := fun w hw => (List.mem_cons.mp hw).elim (fun e => ⟨ci_TT_tb _ (by rw [e]; exact ci_c2), good_of_word (ci_TT_good _ (by rw [e]; exact ci_c2))⟩) (fun h => ⟨ci_TT_tb _ h, good_of_word (ci_TT_good _ h)⟩)
theorem ci_c3 : Cond.code yX3_init cX3_init 2 none ∈ ci_TT := List.mem_of_getElem? (i := 69) rfl
theorem ci_g3 {c : Cond} : GoodIn (c :: ci_TT) (Cond.code yX3_init cX3_init 2 none :: ci_TT) := fun w hw => (List.mem_cons.mp hw).elim (fun e => ⟨List.mem_cons_of_mem _ (by rw [e]; exact ci_c3), good_of_word (ci_TT_good _ (by rw [e]; exact ci_c3))⟩) (fun h => ⟨List.mem_cons_of_mem _ h, good_of_word (ci_TT_good _ h)⟩)
theorem ci_gl3 : GoodIn lw_tbl (Cond.code yX3_init cX3_init 2 none :: ci_TT) := fun w hw => (List.mem_cons.mp hw).elim (fun e => ⟨ci_TT_tb _ (by rw [e]; exact ci_c3), good_of_word (ci_TT_good _ (by rw [e]; exact ci_c3))⟩) (fun h => ⟨ci_TT_tb _ h, good_of_word (ci_TT_good _ h)⟩)
theorem ci_c4 : Cond.code yX4_init cX4_init 3 none ∈ ci_TT := List.mem_of_getElem? (i := 152) rfl
theorem ci_g4 {c : Cond} : GoodIn (c :: ci_TT) (Cond.code yX4_init cX4_init 3 none :: ci_TT) := fun w hw => (List.mem_cons.mp hw).elim (fun e => ⟨List.mem_cons_of_mem _ (by rw [e]; exact ci_c4), good_of_word (ci_TT_good _ (by rw [e]; exact ci_c4))⟩) (fun h => ⟨List.mem_cons_of_mem _ h, good_of_word (ci_TT_good _ h)⟩)
theorem ci_gl4 : GoodIn lw_tbl (Cond.code yX4_init cX4_init 3 none :: ci_TT) := fun w hw => (List.mem_cons.mp hw).elim (fun e => ⟨ci_TT_tb _ (by rw [e]; exact ci_c4), good_of_word (ci_TT_good _ (by rw [e]; exact ci_c4))⟩) (fun h => ⟨ci_TT_tb _ h, good_of_word (ci_TT_good _ h)⟩)
theorem ci_c5 : Cond.code yX5_init cX5_init 1 none ∈ ci_TT := List.mem_of_getElem? (i := 178) rfl
theorem ci_g5 {c : Cond} : GoodIn (c :: ci_TT) (Cond.code yX5_init cX5_init 1 none :: ci_TT) := fun w hw => (List.mem_cons.mp hw).elim (fun e => ⟨List.mem_cons_of_mem _ (by rw [e]; exact ci_c5), good_of_word (ci_TT_good _ (by rw [e]; exact ci_c5))⟩) (fun h => ⟨List.mem_cons_of_mem _ h, good_of_word (ci_TT_good _ h)⟩)
theorem ci_gl5 : GoodIn lw_tbl (Cond.code yX5_init cX5_init 1 none :: ci_TT) := fun w hw => (List.mem_cons.mp hw).elim (fun e => ⟨ci_TT_tb _ (by rw [e]; exact ci_c5), good_of_word (ci_TT_good _ (by rw [e]; exact ci_c5))⟩) (fun h => ⟨ci_TT_tb _ h, good_of_word (ci_TT_good _ h)⟩)
theorem ci_c6 : Cond.code yX6_init cX6_init 2 none ∈ ci_TT := List.mem_of_getElem? (i := 29) rfl
theorem ci_g6 {c : Cond} : GoodIn (c :: ci_TT) (Cond.code yX6_init cX6_init 2 none :: ci_TT) := fun w hw => (List.mem_cons.mp hw).elim (fun e => ⟨List.mem_cons_of_mem _ (by rw [e]; exact ci_c6), good_of_word (ci_TT_good _ (by rw [e]; exact ci_c6))⟩) (fun h => ⟨List.mem_cons_of_mem _ h, good_of_word (ci_TT_good _ h)⟩)
theorem ci_gl6 : GoodIn lw_tbl (Cond.code yX6_init cX6_init 2 none :: ci_TT) := fun w hw => (List.mem_cons.mp hw).elim (fun e => ⟨ci_TT_tb _ (by rw [e]; exact ci_c6), good_of_word (ci_TT_good _ (by rw [e]; exact ci_c6))⟩) (fun h => ⟨ci_TT_tb _ h, good_of_word (ci_TT_good _ h)⟩)
theorem ci_c7 : Cond.code yX7_init cX7_init 1 none ∈ ci_TT := List.mem_of_getElem? (i := 82) rfl
theorem ci_g7 {c : Cond} : GoodIn (c :: ci_TT) (Cond.code yX7_init cX7_init 1 none :: ci_TT) := fun w hw => (List.mem_cons.mp hw).elim (fun e => ⟨List.mem_cons_of_mem _ (by rw [e]; exact ci_c7), good_of_word (ci_TT_good _ (by rw [e]; exact ci_c7))⟩) (fun h => ⟨List.mem_cons_of_mem _ h, good_of_word (ci_TT_good _ h)⟩)
theorem ci_gl7 : GoodIn lw_tbl (Cond.code yX7_init cX7_init 1 none :: ci_TT) := fun w hw => (List.mem_cons.mp hw).elim (fun e => ⟨ci_TT_tb _ (by rw [e]; exact ci_c7), good_of_word (ci_TT_good _ (by rw [e]; exact ci_c7))⟩) (fun h => ⟨ci_TT_tb _ h, good_of_word (ci_TT_good _ h)⟩)
theorem ci_c8 : Cond.code yX8_init cX8_init 1 none ∈ ci_TT := List.mem_of_getElem? (i := 23) rfl
theorem ci_g8 {c : Cond} : GoodIn (c :: ci_TT) (Cond.code yX8_init cX8_init 1 none :: ci_TT) := fun w hw => (List.mem_cons.mp hw).elim (fun e => ⟨List.mem_cons_of_mem _ (by rw [e]; exact ci_c8), good_of_word (ci_TT_good _ (by rw [e]; exact ci_c8))⟩) (fun h => ⟨List.mem_cons_of_mem _ h, good_of_word (ci_TT_good _ h)⟩)
theorem ci_gl8 : GoodIn lw_tbl (Cond.code yX8_init cX8_init 1 none :: ci_TT) := fun w hw => (List.mem_cons.mp hw).elim (fun e => ⟨ci_TT_tb _ (by rw [e]; exact ci_c8), good_of_word (ci_TT_good _ (by rw [e]; exact ci_c8))⟩) (fun h => ⟨ci_TT_tb _ h, good_of_word (ci_TT_good _ h)⟩)
theorem ci_c9 : Cond.code yX9_init cX9_init 2 none ∈ ci_TT := List.mem_of_getElem? (i := 16) rfl
theorem ci_g9 {c : Cond} : GoodIn (c :: ci_TT) (Cond.code yX9_init cX9_init 2 none :: ci_TT) := fun w hw => (List.mem_cons.mp hw).elim (fun e => ⟨List.mem_cons_of_mem _ (by rw [e]; exact ci_c9), good_of_word (ci_TT_good _ (by rw [e]; exact ci_c9))⟩) (fun h => ⟨List.mem_cons_of_mem _ h, good_of_word (ci_TT_good _ h)⟩)
theorem ci_gl9 : GoodIn lw_tbl (Cond.code yX9_init cX9_init 2 none :: ci_TT) := fun w hw => (List.mem_cons.mp hw).elim (fun e => ⟨ci_TT_tb _ (by rw [e]; exact ci_c9), good_of_word (ci_TT_good _ (by rw [e]; exact ci_c9))⟩) (fun h => ⟨ci_TT_tb _ h, good_of_word (ci_TT_good _ h)⟩)
theorem ci_c10 : Cond.code yX10_init cX10_init 2 none ∈ ci_TT := List.mem_of_getElem? (i := 211) rfl
theorem ci_g10 {c : Cond} : GoodIn (c :: ci_TT) (Cond.code yX10_init cX10_init 2 none :: ci_TT) := fun w hw => (List.mem_cons.mp hw).elim (fun e => ⟨List.mem_cons_of_mem _ (by rw [e]; exact ci_c10), good_of_word (ci_TT_good _ (by rw [e]; exact ci_c10))⟩) (fun h => ⟨List.mem_cons_of_mem _ h, good_of_word (ci_TT_good _ h)⟩)
theorem ci_gl10 : GoodIn lw_tbl (Cond.code yX10_init cX10_init 2 none :: ci_TT) := fun w hw => (List.mem_cons.mp hw).elim (fun e => ⟨ci_TT_tb _ (by rw [e]; exact ci_c10), good_of_word (ci_TT_good _ (by rw [e]; exact ci_c10))⟩) (fun h => ⟨ci_TT_tb _ h, good_of_word (ci_TT_good _ h)⟩)
/-- a new array of a class that is known -/
theorem ci_newa {p : Program} {l : Launch} {e : Env} {R : Room} {s : State} {m : MethodId} {args : Array Value} {below : List Frame} {meth : Method} {c : Code} {H : Heap} {locs : List Loc} {cells slots : Nat} {Q : State → Prop} {cc : ByteArray} {pc : Nat} {ls : Array Slot} {rest : List Value} {D : va_G} {cl : List vw_C} {A : Nat → Prop} {cA : Nat → ClassId} {ws : va_W} {H0 : Heap}
    (hexec : p.tables.exec = Jvm.exec) (hb : c.code = cc) (k : Nat) {atype : ArrayType} (hk : (k = 0 ∧ newarray.typeOf atype = .int) ∨ (k = 1 ∧ newarray.typeOf atype = .boolean)) (harr : (Cond.arrayClass (newarray.typeOf atype)).before args s = true) (hK : va_K D cl (pi_ty cA) s) (hP : va_P D cl ws H) (hD : va_D A ws) (hS : va_S A H0 H locs) (hA : ∀ q, H0.size ≤ q → A q)
    {N : Nat} (hN : N < 2 ^ 20) (hcells : cells + 1 ≤ R.cells) (hslots : slots + N ≤ R.slots) (hdg : decode cc pc = .ok (.newarray atype, 2))
    (kk : ∀ (q : Nat) (H1 : Heap), va_P D cl (ws ++ [(q, .inl (cA k, N, .inl (fun _ => nI 0)))]) H1 → va_D A (ws ++ [(q, .inl (cA k, N, .inl (fun _ => nI 0)))]) → va_S A H0 H1 locs → W p l e R s m args below meth c H1 locs (cells + 1) (slots + N) Q (F0 m (pc + 2) ls (.ref q :: rest))) : W p l e R s m args below meth c H locs cells slots Q (F0 m pc ls (.int (nI N) :: rest)) := by
  rcases hk with ⟨rfl, hty⟩ | ⟨rfl, hty⟩
  · refine va_newa (atype := atype) (ty := .int) (a0 := (N, .inl (fun _ => nI 0))) hexec hb harr hty hK hP hD hS hA (fun cA => rfl) (z_ltz (by omega)) (nI_clamp (by omega)) (by show N * 4 ≤ 536870912; omega) hcells hslots hdg (fun q cB H1 hK1 hP hD hS => ?_)
    have h1 := (hK1.2 3 (cB, .int) rfl).2
    have h2 := (hK.2 0 (cA 0, .int) rfl).2
    have e : cB = cA 0 := Option.some.inj (h1.symm.trans h2)
    subst e
    exact kk q H1 hP hD hS
  · refine va_newa (atype := atype) (ty := .boolean) (a0 := (N, .inl (fun _ => nI 0))) hexec hb harr hty hK hP hD hS hA (fun cA => rfl) (z_ltz (by omega)) (nI_clamp (by omega)) (by show N * 1 ≤ 536870912; omega) hcells hslots hdg (fun q cB H1 hK1 hP hD hS => ?_)
    have h1 := (hK1.2 3 (cB, .boolean) rfl).2
    have h2 := (hK.2 1 (cA 1, .boolean) rfl).2
    have e : cB = cA 1 := Option.some.inj (h1.symm.trans h2)
    subst e
    exact kk q H1 hP hD hS
theorem ci_newq {p : Program} {l : Launch} {e : Env} {R : Room} {s : State} {m : MethodId} {args : Array Value} {below : List Frame} {meth : Method} {c : Code} {H : Heap} {locs : List Loc} {cells slots : Nat} {Q : State → Prop} {cc : ByteArray} {pc : Nat} {ls : Array Slot} {rest : List Value} {D : va_G} {cl : List vw_C} {A : Nat → Prop} {cA : Nat → ClassId} {ws : va_W} {H0 : Heap}
    (hexec : p.tables.exec = Jvm.exec) (hb : c.code = cc) {own : String} {index : Nat} (hown : s.vm.findClass own = some m.cls) (hclink : (Cond.classLink own index "SweptDownhill$Sheet").before args s = true) (hover : va_AO "SweptDownhill$Sheet" s) (hK : va_K D cl (pi_ty cA) s) (hP : va_P D cl ws H) (hD : va_D A ws) (hS : va_S A H0 H locs) (hA : ∀ q, H0.size ≤ q → A q)
    {N : Nat} (hN : N < 2 ^ 20) (hcells : cells + 1 ≤ R.cells) (hslots : slots + N ≤ R.slots) (hdg : decode cc pc = .ok (.anewarray index, 3))
    (kk : ∀ (q : Nat) (H1 : Heap), va_P D cl (ws ++ [(q, .inl (cA 2, N, .inr (.inr (.inr (.inr (fun _ => none))))))]) H1 → va_D A (ws ++ [(q, .inl (cA 2, N, .inr (.inr (.inr (.inr (fun _ => none))))))]) → va_S A H0 H1 locs → W p l e R s m args below meth c H1 locs (cells + 1) (slots + N) Q (F0 m (pc + 3) ls (.ref q :: rest))) : W p l e R s m args below meth c H locs cells slots Q (F0 m pc ls (.int (nI N) :: rest)) := by
  refine va_newq hexec hb hown hclink hover hK hP hD hS hA (z_ltz (by omega)) (nI_clamp (by omega)) (by omega) hcells hslots hdg (fun q cB H1 hK1 hP hD hS => ?_)
  obtain ⟨-, -, -, -, -, h1⟩ := (hK1.2 3 (cB, .object "SweptDownhill$Sheet") rfl).2
  obtain ⟨-, -, -, -, -, h2⟩ := (hK.2 2 (cA 2, .object "SweptDownhill$Sheet") rfl).2
  have e : cB = cA 2 := Option.some.inj (h1.symm.trans h2)
  subst e
  exact kk q H1 hP hD hS
def ci_nest : List Cond := [(Jvm.Cond.methodLinkNest "SweptDownhill" (9 : Nat) ({ cls := "SweptDownhill$Town", name := "<init>", desc := "()V" } : Jvm.MethodName) "SweptDownhill"), (Jvm.Cond.methodLinkNest "SweptDownhill" (25 : Nat) ({ cls := "SweptDownhill$Told", name := "<init>", desc := "()V" } : Jvm.MethodName) "SweptDownhill"), (Jvm.Cond.methodLinkNest "SweptDownhill$Course" (11 : Nat) ({ cls := "SweptDownhill$Heaps", name := "<init>", desc := "()V" } : Jvm.MethodName) "SweptDownhill"), (Jvm.Cond.methodLinkNest "SweptDownhill" (57 : Nat) ({ cls := "SweptDownhill$Sheet", name := "<init>", desc := "()V" } : Jvm.MethodName) "SweptDownhill")]
def ci_NW (U : State) : Prop := ∀ w ∈ ci_nest, va_Nw w U
theorem ci_NW.warm {s U : State} (hW : s.WarmedH U.vm) (h : ci_NW s) : ci_NW U := by
  have key : ∀ w ∈ ci_nest, ∃ (a : String) (i : Nat) (x : MethodName) (z : String), w = .methodLinkNest a i x z := by
    intro w hw
    simp only [ci_nest, List.mem_cons, List.not_mem_nil, or_false] at hw
    rcases hw with rfl | rfl | rfl | rfl <;> exact ⟨_, _, _, _, rfl⟩
  intro w hw
  obtain ⟨a, i, x, z, rfl⟩ := key w hw
  exact va_Nw.warmM hW (h _ hw)
theorem ci_NW.vm {u U : State} (e : u.vm = U.vm) (h : ci_NW u) : ci_NW U := by
  have key : ∀ w ∈ ci_nest, w.onTables = true := by decide +kernel
  intro w hw
  exact va_tabs (key w hw) e (h w hw)
