theorem tw_0 : Cond.initialized "MicroMachineLaw" ∈ tg := tg_of 37 (by decide +kernel) rfl
theorem tw_1 : Cond.initialized "MicroMachine" ∈ tg := tg_of 38 (by decide +kernel) rfl
theorem tw_2 : Cond.initialized "MicroMachine$WordReader" ∈ tg := tg_of 39 (by decide +kernel) rfl
theorem tw_3 : Cond.initialized "MicroMachine$Word" ∈ tg := tg_of 40 (by decide +kernel) rfl
theorem tw_4 : Cond.initialized "MicroMachineModel" ∈ tg := tg_of 41 (by decide +kernel) rfl
theorem tw_5 : Cond.initialized "java/lang/Throwable" ∈ tg := tg_of 42 (by decide +kernel) rfl
theorem tw_6 : Cond.initialized "java/lang/Exception" ∈ tg := tg_of 43 (by decide +kernel) rfl
theorem tw_7 : Cond.initialized "java/lang/RuntimeException" ∈ tg := tg_of 44 (by decide +kernel) rfl
theorem tw_8 : Cond.initialized "java/lang/IllegalArgumentException" ∈ tg := tg_of 45 (by decide +kernel) rfl
theorem tw_9 : Cond.initialized "java/lang/IllegalStateException" ∈ tg := tg_of 46 (by decide +kernel) rfl
theorem tw_10 : Cond.initialized "java/lang/String" ∈ tg := tg_of 47 (by decide +kernel) rfl
theorem tw_11 : Cond.initialized "java/lang/StringLatin1" ∈ tg := tg_of 48 (by decide +kernel) rfl
theorem tw_12 : Cond.initialized "java/lang/Math" ∈ tg := tg_of 49 (by decide +kernel) rfl
theorem tw_13 : Cond.initialized "java/lang/StringUTF16" ∈ tg := tg_of 50 (by decide +kernel) rfl
theorem tw_14 : Cond.initialized "jdk/internal/util/Preconditions" ∈ tg := tg_of 51 (by decide +kernel) rfl
theorem tw_15 : Cond.initialized "java/lang/Character" ∈ tg := tg_of 52 (by decide +kernel) rfl
theorem tw_16 : Cond.initialized "java/util/NoSuchElementException" ∈ tg := tg_of 53 (by decide +kernel) rfl
theorem tw_17 : Cond.initialized "java/lang/IndexOutOfBoundsException" ∈ tg := tg_of 54 (by decide +kernel) rfl
theorem tw_18 : Cond.classLink "MicroMachineLaw" 8 "MicroMachine" ∈ tg := tg_of 55 (by decide +kernel) rfl
theorem tw_19 : Cond.instantiable "MicroMachine" 16 ∈ tg := tg_of 56 (by decide +kernel) rfl
theorem tw_20 : Cond.methodLink "MicroMachineLaw" 55 ({ cls := "MicroMachine", name := "<init>", desc := "()V" } : Jvm.MethodName) ∈ tg := tg_of 57 (by decide +kernel) rfl
theorem tw_21 : Cond.instanceMethod ({ cls := "MicroMachine", name := "<init>", desc := "()V" } : Jvm.MethodName) ∈ tg := tg_of 58 (by decide +kernel) rfl
theorem tw_23 : Cond.methodLink "MicroMachine" 1 ({ cls := "java/lang/Object", name := "<init>", desc := "()V" } : Jvm.MethodName) ∈ tg := tg_of 60 (by decide +kernel) rfl
theorem tw_24 : Cond.instanceMethod ({ cls := "java/lang/Object", name := "<init>", desc := "()V" } : Jvm.MethodName) ∈ tg := tg_of 61 (by decide +kernel) rfl
theorem tw_26 : Cond.classLink "MicroMachine" 7 "MicroMachine$WordReader" ∈ tg := tg_of 63 (by decide +kernel) rfl
theorem tw_27 : Cond.instantiable "MicroMachine$WordReader" 4 ∈ tg := tg_of 64 (by decide +kernel) rfl
theorem tw_29 : Cond.instanceMethod ({ cls := "MicroMachine$WordReader", name := "<init>", desc := "()V" } : Jvm.MethodName) ∈ tg := tg_of 66 (by decide +kernel) rfl
theorem tw_31 : Cond.methodLink "MicroMachine$WordReader" 3 ({ cls := "java/lang/Object", name := "<init>", desc := "()V" } : Jvm.MethodName) ∈ tg := tg_of 68 (by decide +kernel) rfl
theorem tw_32 : Cond.classLink "MicroMachine$WordReader" 15 "MicroMachine$Word" ∈ tg := tg_of 69 (by decide +kernel) rfl
theorem tw_33 : Cond.instantiable "MicroMachine$Word" 10 ∈ tg := tg_of 70 (by decide +kernel) rfl
theorem tw_35 : Cond.instanceMethod ({ cls := "MicroMachine$Word", name := "<init>", desc := "()V" } : Jvm.MethodName) ∈ tg := tg_of 72 (by decide +kernel) rfl
theorem tw_37 : Cond.methodLink "MicroMachine$Word" 3 ({ cls := "java/lang/Object", name := "<init>", desc := "()V" } : Jvm.MethodName) ∈ tg := tg_of 74 (by decide +kernel) rfl
theorem tw_40 : Cond.fieldLink "MicroMachine$Word" 21 "MicroMachine$Word" "targets" "I" ∈ tg := tg_of 77 (by decide +kernel) rfl
theorem tw_43 : Cond.fieldLink "MicroMachine$Word" 9 "MicroMachine$Word" "operation" "I" ∈ tg := tg_of 80 (by decide +kernel) rfl
theorem tw_56 : Cond.fieldLink "MicroMachine$Word" 15 "MicroMachine$Word" "first" "I" ∈ tg := tg_of 93 (by decide +kernel) rfl
theorem tw_59 : Cond.fieldLink "MicroMachine$Word" 18 "MicroMachine$Word" "second" "I" ∈ tg := tg_of 96 (by decide +kernel) rfl
theorem tw_62 : Cond.lays "MicroMachine$Word" "MicroMachine$Word" "parts" "I" ∈ tg := tg_of 99 (by decide +kernel) rfl
theorem tw_63 : Cond.soleField "MicroMachine$Word" "parts" ∈ tg := tg_of 100 (by decide +kernel) rfl
theorem tw_64 : Cond.lays "MicroMachine$Word" "MicroMachine$Word" "targets" "I" ∈ tg := tg_of 101 (by decide +kernel) rfl
theorem tw_65 : Cond.soleField "MicroMachine$Word" "targets" ∈ tg := tg_of 102 (by decide +kernel) rfl
theorem tw_66 : Cond.lays "MicroMachine$Word" "MicroMachine$Word" "operation" "I" ∈ tg := tg_of 103 (by decide +kernel) rfl
theorem tw_67 : Cond.soleField "MicroMachine$Word" "operation" ∈ tg := tg_of 104 (by decide +kernel) rfl
theorem tw_68 : Cond.lays "MicroMachine$Word" "MicroMachine$Word" "source" "I" ∈ tg := tg_of 105 (by decide +kernel) rfl
theorem tw_69 : Cond.soleField "MicroMachine$Word" "source" ∈ tg := tg_of 106 (by decide +kernel) rfl
theorem tw_70 : Cond.lays "MicroMachine$Word" "MicroMachine$Word" "shift" "I" ∈ tg := tg_of 107 (by decide +kernel) rfl
theorem tw_71 : Cond.soleField "MicroMachine$Word" "shift" ∈ tg := tg_of 108 (by decide +kernel) rfl
theorem tw_72 : Cond.lays "MicroMachine$Word" "MicroMachine$Word" "asksWord" "I" ∈ tg := tg_of 109 (by decide +kernel) rfl
theorem tw_73 : Cond.soleField "MicroMachine$Word" "asksWord" ∈ tg := tg_of 110 (by decide +kernel) rfl
theorem tw_74 : Cond.lays "MicroMachine$Word" "MicroMachine$Word" "asksByte" "Z" ∈ tg := tg_of 111 (by decide +kernel) rfl
theorem tw_75 : Cond.soleField "MicroMachine$Word" "asksByte" ∈ tg := tg_of 112 (by decide +kernel) rfl
theorem tw_76 : Cond.lays "MicroMachine$Word" "MicroMachine$Word" "going" "I" ∈ tg := tg_of 113 (by decide +kernel) rfl
theorem tw_77 : Cond.soleField "MicroMachine$Word" "going" ∈ tg := tg_of 114 (by decide +kernel) rfl
theorem tw_78 : Cond.lays "MicroMachine$Word" "MicroMachine$Word" "first" "I" ∈ tg := tg_of 115 (by decide +kernel) rfl
theorem tw_79 : Cond.soleField "MicroMachine$Word" "first" ∈ tg := tg_of 116 (by decide +kernel) rfl
theorem tw_80 : Cond.lays "MicroMachine$Word" "MicroMachine$Word" "second" "I" ∈ tg := tg_of 117 (by decide +kernel) rfl
theorem tw_81 : Cond.soleField "MicroMachine$Word" "second" ∈ tg := tg_of 118 (by decide +kernel) rfl
theorem tw_82 : Cond.superclass "MicroMachine$Word" "java/lang/Object" ∈ tg := tg_of 119 (by decide +kernel) rfl
theorem tw_83 : Cond.arrayClass FieldType.char ∈ tg := tg_of 120 (by decide +kernel) rfl
theorem tw_84 : Cond.fieldLink "MicroMachine$WordReader" 9 "MicroMachine$WordReader" "text" "[C" ∈ tg := tg_of 121 (by decide +kernel) rfl
theorem tw_85 : Cond.fieldLink "MicroMachine$WordReader" 22 "MicroMachine$WordReader" "length" "I" ∈ tg := tg_of 122 (by decide +kernel) rfl
theorem tw_87 : Cond.fieldLink "MicroMachine$WordReader" 26 "MicroMachine$WordReader" "at" "I" ∈ tg := tg_of 124 (by decide +kernel) rfl
theorem tw_89 : Cond.fieldLink "MicroMachine$WordReader" 18 "MicroMachine$WordReader" "draft" "LMicroMachine$Word;" ∈ tg := tg_of 126 (by decide +kernel) rfl
theorem tw_90 : Cond.laysFinal "MicroMachine$WordReader" "MicroMachine$WordReader" "text" "[C" ∈ tg := tg_of 127 (by decide +kernel) rfl
theorem tw_91 : Cond.soleField "MicroMachine$WordReader" "text" ∈ tg := tg_of 128 (by decide +kernel) rfl
theorem tw_92 : Cond.lays "MicroMachine$WordReader" "MicroMachine$WordReader" "length" "I" ∈ tg := tg_of 129 (by decide +kernel) rfl
theorem tw_93 : Cond.soleField "MicroMachine$WordReader" "length" ∈ tg := tg_of 130 (by decide +kernel) rfl
theorem tw_94 : Cond.lays "MicroMachine$WordReader" "MicroMachine$WordReader" "at" "I" ∈ tg := tg_of 131 (by decide +kernel) rfl
theorem tw_95 : Cond.soleField "MicroMachine$WordReader" "at" ∈ tg := tg_of 132 (by decide +kernel) rfl
theorem tw_96 : Cond.lays "MicroMachine$WordReader" "MicroMachine$WordReader" "draft" "LMicroMachine$Word;" ∈ tg := tg_of 133 (by decide +kernel) rfl
theorem tw_97 : Cond.soleField "MicroMachine$WordReader" "draft" ∈ tg := tg_of 134 (by decide +kernel) rfl
theorem tw_98 : Cond.superclass "MicroMachine$WordReader" "java/lang/Object" ∈ tg := tg_of 135 (by decide +kernel) rfl
theorem tw_99 : Cond.classLink "MicroMachine" 20 "MicroMachine$Word" ∈ tg := tg_of 136 (by decide +kernel) rfl
theorem tw_101 : Cond.fieldLink "MicroMachine" 10 "MicroMachine" "reader" "LMicroMachine$WordReader;" ∈ tg := tg_of 138 (by decide +kernel) rfl
theorem tw_102 : Cond.fieldLink "MicroMachine" 16 "MicroMachine" "wrongPlace" "I" ∈ tg := tg_of 139 (by decide +kernel) rfl
theorem tw_103 : Cond.fieldLink "MicroMachine" 22 "MicroMachine" "store" "[LMicroMachine$Word;" ∈ tg := tg_of 140 (by decide +kernel) rfl
theorem tw_104 : Cond.fieldLink "MicroMachine" 64 "MicroMachine" "wordsThere" "I" ∈ tg := tg_of 141 (by decide +kernel) rfl
theorem tw_105 : Cond.fieldLink "MicroMachine" 73 "MicroMachine" "atHand" "I" ∈ tg := tg_of 142 (by decide +kernel) rfl
theorem tw_106 : Cond.fieldLink "MicroMachine" 26 "MicroMachine" "registers" "[I" ∈ tg := tg_of 143 (by decide +kernel) rfl
theorem tw_107 : Cond.fieldLink "MicroMachine" 30 "MicroMachine" "cells" "[I" ∈ tg := tg_of 144 (by decide +kernel) rfl
theorem tw_108 : Cond.fieldLink "MicroMachine" 33 "MicroMachine" "bytes" "[I" ∈ tg := tg_of 145 (by decide +kernel) rfl
theorem tw_109 : Cond.fieldLink "MicroMachine" 76 "MicroMachine" "wordComes" "Z" ∈ tg := tg_of 146 (by decide +kernel) rfl
theorem tw_110 : Cond.fieldLink "MicroMachine" 160 "MicroMachine" "comingWord" "I" ∈ tg := tg_of 147 (by decide +kernel) rfl
theorem tw_111 : Cond.fieldLink "MicroMachine" 80 "MicroMachine" "byteComes" "Z" ∈ tg := tg_of 148 (by decide +kernel) rfl
theorem tw_112 : Cond.fieldLink "MicroMachine" 163 "MicroMachine" "comingByte" "I" ∈ tg := tg_of 149 (by decide +kernel) rfl
theorem tw_113 : Cond.fieldLink "MicroMachine" 108 "MicroMachine" "cyclesDone" "I" ∈ tg := tg_of 150 (by decide +kernel) rfl
theorem tw_114 : Cond.fieldLink "MicroMachine" 111 "MicroMachine" "wordsRead" "I" ∈ tg := tg_of 151 (by decide +kernel) rfl
theorem tw_115 : Cond.fieldLink "MicroMachine" 114 "MicroMachine" "wordsWritten" "I" ∈ tg := tg_of 152 (by decide +kernel) rfl
theorem tw_116 : Cond.fieldLink "MicroMachine" 117 "MicroMachine" "bytesRead" "I" ∈ tg := tg_of 153 (by decide +kernel) rfl
theorem tw_117 : Cond.laysFinal "MicroMachine" "MicroMachine" "reader" "LMicroMachine$WordReader;" ∈ tg := tg_of 154 (by decide +kernel) rfl
theorem tw_118 : Cond.soleField "MicroMachine" "reader" ∈ tg := tg_of 155 (by decide +kernel) rfl
theorem tw_119 : Cond.lays "MicroMachine" "MicroMachine" "wrongPlace" "I" ∈ tg := tg_of 156 (by decide +kernel) rfl
theorem tw_120 : Cond.soleField "MicroMachine" "wrongPlace" ∈ tg := tg_of 157 (by decide +kernel) rfl
theorem tw_121 : Cond.laysFinal "MicroMachine" "MicroMachine" "store" "[LMicroMachine$Word;" ∈ tg := tg_of 158 (by decide +kernel) rfl
theorem tw_122 : Cond.soleField "MicroMachine" "store" ∈ tg := tg_of 159 (by decide +kernel) rfl
theorem tw_123 : Cond.lays "MicroMachine" "MicroMachine" "wordsThere" "I" ∈ tg := tg_of 160 (by decide +kernel) rfl
theorem tw_124 : Cond.soleField "MicroMachine" "wordsThere" ∈ tg := tg_of 161 (by decide +kernel) rfl
theorem tw_125 : Cond.lays "MicroMachine" "MicroMachine" "atHand" "I" ∈ tg := tg_of 162 (by decide +kernel) rfl
theorem tw_126 : Cond.soleField "MicroMachine" "atHand" ∈ tg := tg_of 163 (by decide +kernel) rfl
theorem tw_127 : Cond.laysFinal "MicroMachine" "MicroMachine" "registers" "[I" ∈ tg := tg_of 164 (by decide +kernel) rfl
theorem tw_128 : Cond.soleField "MicroMachine" "registers" ∈ tg := tg_of 165 (by decide +kernel) rfl
theorem tw_129 : Cond.laysFinal "MicroMachine" "MicroMachine" "cells" "[I" ∈ tg := tg_of 166 (by decide +kernel) rfl
theorem tw_130 : Cond.soleField "MicroMachine" "cells" ∈ tg := tg_of 167 (by decide +kernel) rfl
theorem tw_131 : Cond.laysFinal "MicroMachine" "MicroMachine" "bytes" "[I" ∈ tg := tg_of 168 (by decide +kernel) rfl
theorem tw_132 : Cond.soleField "MicroMachine" "bytes" ∈ tg := tg_of 169 (by decide +kernel) rfl
theorem tw_133 : Cond.lays "MicroMachine" "MicroMachine" "wordComes" "Z" ∈ tg := tg_of 170 (by decide +kernel) rfl
theorem tw_134 : Cond.soleField "MicroMachine" "wordComes" ∈ tg := tg_of 171 (by decide +kernel) rfl
theorem tw_135 : Cond.lays "MicroMachine" "MicroMachine" "comingWord" "I" ∈ tg := tg_of 172 (by decide +kernel) rfl
theorem tw_136 : Cond.soleField "MicroMachine" "comingWord" ∈ tg := tg_of 173 (by decide +kernel) rfl
theorem tw_137 : Cond.lays "MicroMachine" "MicroMachine" "byteComes" "Z" ∈ tg := tg_of 174 (by decide +kernel) rfl
theorem tw_138 : Cond.soleField "MicroMachine" "byteComes" ∈ tg := tg_of 175 (by decide +kernel) rfl
theorem tw_139 : Cond.lays "MicroMachine" "MicroMachine" "comingByte" "I" ∈ tg := tg_of 176 (by decide +kernel) rfl
theorem tw_140 : Cond.soleField "MicroMachine" "comingByte" ∈ tg := tg_of 177 (by decide +kernel) rfl
theorem tw_141 : Cond.lays "MicroMachine" "MicroMachine" "cyclesDone" "I" ∈ tg := tg_of 178 (by decide +kernel) rfl
theorem tw_142 : Cond.soleField "MicroMachine" "cyclesDone" ∈ tg := tg_of 179 (by decide +kernel) rfl
theorem tw_143 : Cond.lays "MicroMachine" "MicroMachine" "wordsRead" "I" ∈ tg := tg_of 180 (by decide +kernel) rfl
theorem tw_144 : Cond.soleField "MicroMachine" "wordsRead" ∈ tg := tg_of 181 (by decide +kernel) rfl
theorem tw_145 : Cond.lays "MicroMachine" "MicroMachine" "wordsWritten" "I" ∈ tg := tg_of 182 (by decide +kernel) rfl
theorem tw_146 : Cond.soleField "MicroMachine" "wordsWritten" ∈ tg := tg_of 183 (by decide +kernel) rfl
theorem tw_147 : Cond.lays "MicroMachine" "MicroMachine" "bytesRead" "I" ∈ tg := tg_of 184 (by decide +kernel) rfl
theorem tw_148 : Cond.soleField "MicroMachine" "bytesRead" ∈ tg := tg_of 185 (by decide +kernel) rfl
theorem tw_149 : Cond.superclass "MicroMachine" "java/lang/Object" ∈ tg := tg_of 186 (by decide +kernel) rfl
theorem tw_150 : Cond.arrayClass FieldType.int ∈ tg := tg_of 187 (by decide +kernel) rfl
theorem tw_151 : Cond.methodLink "MicroMachineLaw" 105 ({ cls := "MicroMachine", name := "count", desc := "(I)I" } : Jvm.MethodName) ∈ tg := tg_of 188 (by decide +kernel) rfl
theorem tw_152 : Cond.instanceMethod ({ cls := "MicroMachine", name := "count", desc := "(I)I" } : Jvm.MethodName) ∈ tg := tg_of 189 (by decide +kernel) rfl
theorem tw_153 : Cond.selects "MicroMachine" ({ cls := "MicroMachine", name := "count", desc := "(I)I" } : Jvm.MethodName) ({ cls := "MicroMachine", name := "count", desc := "(I)I" } : Jvm.MethodName) ∈ tg := tg_of 190 (by decide +kernel) rfl
theorem tw_155 : Cond.methodLink "MicroMachineLaw" 61 ({ cls := "MicroMachineLaw", name := "type", desc := "(LMicroMachine;J[J)I" } : Jvm.MethodName) ∈ tg := tg_of 192 (by decide +kernel) rfl
theorem tw_156 : Cond.static ({ cls := "MicroMachineLaw", name := "type", desc := "(LMicroMachine;J[J)I" } : Jvm.MethodName) ∈ tg := tg_of 193 (by decide +kernel) rfl
theorem tw_158 : Cond.classLink "MicroMachineLaw" 13 "java/lang/IllegalArgumentException" ∈ tg := tg_of 195 (by decide +kernel) rfl
theorem tw_159 : Cond.classLink "MicroMachineLaw" 15 "java/lang/IllegalStateException" ∈ tg := tg_of 196 (by decide +kernel) rfl
theorem tw_160 : Cond.methodLink "MicroMachineLaw" 7 ({ cls := "MicroMachine", name := "type", desc := "(J)I" } : Jvm.MethodName) ∈ tg := tg_of 197 (by decide +kernel) rfl
theorem tw_161 : Cond.instanceMethod ({ cls := "MicroMachine", name := "type", desc := "(J)I" } : Jvm.MethodName) ∈ tg := tg_of 198 (by decide +kernel) rfl
theorem tw_162 : Cond.selects "MicroMachine" ({ cls := "MicroMachine", name := "type", desc := "(J)I" } : Jvm.MethodName) ({ cls := "MicroMachine", name := "type", desc := "(J)I" } : Jvm.MethodName) ∈ tg := tg_of 199 (by decide +kernel) rfl
theorem tw_164 : Cond.methodLink "MicroMachine" 36 ({ cls := "MicroMachine", name := "byteOf", desc := "(JI)I" } : Jvm.MethodName) ∈ tg := tg_of 201 (by decide +kernel) rfl
theorem tw_165 : Cond.static ({ cls := "MicroMachine", name := "byteOf", desc := "(JI)I" } : Jvm.MethodName) ∈ tg := tg_of 202 (by decide +kernel) rfl
theorem tw_167 : Cond.classLink "MicroMachine" 40 "java/lang/IllegalArgumentException" ∈ tg := tg_of 204 (by decide +kernel) rfl
theorem tw_168 : Cond.instantiable "java/lang/IllegalArgumentException" 6 ∈ tg := tg_of 205 (by decide +kernel) rfl
theorem tw_176 : Cond.selects "java/lang/IllegalArgumentException" ({ cls := "java/lang/Throwable", name := "fillInStackTrace", desc := "(I)Ljava/lang/Throwable;" } : Jvm.MethodName) ({ cls := "java/lang/Throwable", name := "fillInStackTrace", desc := "(I)Ljava/lang/Throwable;" } : Jvm.MethodName) ∈ tg := tg_of 213 (by decide +kernel) rfl
theorem tw_177 : Cond.selects "java/lang/IllegalArgumentException" ({ cls := "java/lang/Throwable", name := "fillInStackTrace", desc := "()Ljava/lang/Throwable;" } : Jvm.MethodName) ({ cls := "java/lang/Throwable", name := "fillInStackTrace", desc := "()Ljava/lang/Throwable;" } : Jvm.MethodName) ∈ tg := tg_of 214 (by decide +kernel) rfl
theorem tw_178 : Cond.lays "java/lang/IllegalArgumentException" "java/lang/Throwable" "cause" "Ljava/lang/Throwable;" ∈ tg := tg_of 215 (by decide +kernel) rfl
theorem tw_179 : Cond.lays "java/lang/Throwable" "java/lang/Throwable" "cause" "Ljava/lang/Throwable;" ∈ tg := tg_of 216 (by decide +kernel) rfl
theorem tw_180 : Cond.lays "java/lang/IllegalArgumentException" "java/lang/Throwable" "stackTrace" "[Ljava/lang/StackTraceElement;" ∈ tg := tg_of 217 (by decide +kernel) rfl
theorem tw_181 : Cond.lays "java/lang/Throwable" "java/lang/Throwable" "stackTrace" "[Ljava/lang/StackTraceElement;" ∈ tg := tg_of 218 (by decide +kernel) rfl
theorem tw_182 : Cond.lays "java/lang/IllegalArgumentException" "java/lang/Throwable" "suppressedExceptions" "Ljava/util/List;" ∈ tg := tg_of 219 (by decide +kernel) rfl
theorem tw_183 : Cond.lays "java/lang/Throwable" "java/lang/Throwable" "suppressedExceptions" "Ljava/util/List;" ∈ tg := tg_of 220 (by decide +kernel) rfl
theorem tw_184 : Cond.lays "java/lang/IllegalArgumentException" "java/lang/Throwable" "detailMessage" "Ljava/lang/String;" ∈ tg := tg_of 221 (by decide +kernel) rfl
theorem tw_185 : Cond.lays "java/lang/Throwable" "java/lang/Throwable" "detailMessage" "Ljava/lang/String;" ∈ tg := tg_of 222 (by decide +kernel) rfl
theorem tw_186 : Cond.lays "java/lang/IllegalArgumentException" "java/lang/Throwable" "backtrace" "Ljava/lang/Object;" ∈ tg := tg_of 223 (by decide +kernel) rfl
theorem tw_187 : Cond.lays "java/lang/Throwable" "java/lang/Throwable" "backtrace" "Ljava/lang/Object;" ∈ tg := tg_of 224 (by decide +kernel) rfl
theorem tw_188 : Cond.fieldLink "java/lang/Throwable" 198 "java/lang/Throwable" "backtrace" "Ljava/lang/Object;" ∈ tg := tg_of 225 (by decide +kernel) rfl
theorem tw_189 : Cond.superclass "java/lang/Throwable" "java/lang/Object" ∈ tg := tg_of 226 (by decide +kernel) rfl
theorem tw_190 : Cond.instanceMethod ({ cls := "java/lang/Throwable", name := "<init>", desc := "()V" } : Jvm.MethodName) ∈ tg := tg_of 227 (by decide +kernel) rfl
theorem tw_192 : Cond.methodLink "java/lang/Throwable" 1 ({ cls := "java/lang/Object", name := "<init>", desc := "()V" } : Jvm.MethodName) ∈ tg := tg_of 229 (by decide +kernel) rfl
theorem tw_193 : Cond.fieldLink "java/lang/Throwable" 13 "java/lang/Throwable" "UNASSIGNED_STACK" "[Ljava/lang/StackTraceElement;" ∈ tg := tg_of 230 (by decide +kernel) rfl
theorem tw_195 : Cond.fieldLink "java/lang/Throwable" 20 "java/lang/Throwable" "SUPPRESSED_SENTINEL" "Ljava/util/List;" ∈ tg := tg_of 232 (by decide +kernel) rfl
theorem tw_197 : Cond.methodLink "java/lang/Throwable" 27 ({ cls := "java/lang/Throwable", name := "fillInStackTrace", desc := "()Ljava/lang/Throwable;" } : Jvm.MethodName) ∈ tg := tg_of 234 (by decide +kernel) rfl
theorem tw_198 : Cond.instanceMethod ({ cls := "java/lang/Throwable", name := "fillInStackTrace", desc := "()Ljava/lang/Throwable;" } : Jvm.MethodName) ∈ tg := tg_of 235 (by decide +kernel) rfl
theorem tw_199 : Cond.sameMethod "java/lang/Throwable" "java/lang/Throwable" "fillInStackTrace" "()Ljava/lang/Throwable;" ∈ tg := tg_of 236 (by decide +kernel) rfl
theorem tw_200 : Cond.selects "java/lang/IllegalStateException" ({ cls := "java/lang/Throwable", name := "fillInStackTrace", desc := "()Ljava/lang/Throwable;" } : Jvm.MethodName) ({ cls := "java/lang/Throwable", name := "fillInStackTrace", desc := "()Ljava/lang/Throwable;" } : Jvm.MethodName) ∈ tg := tg_of 237 (by decide +kernel) rfl
theorem tw_201 : Cond.selects "java/lang/IndexOutOfBoundsException" ({ cls := "java/lang/Throwable", name := "fillInStackTrace", desc := "()Ljava/lang/Throwable;" } : Jvm.MethodName) ({ cls := "java/lang/Throwable", name := "fillInStackTrace", desc := "()Ljava/lang/Throwable;" } : Jvm.MethodName) ∈ tg := tg_of 238 (by decide +kernel) rfl
theorem tw_202 : Cond.selects "java/util/NoSuchElementException" ({ cls := "java/lang/Throwable", name := "fillInStackTrace", desc := "()Ljava/lang/Throwable;" } : Jvm.MethodName) ({ cls := "java/lang/Throwable", name := "fillInStackTrace", desc := "()Ljava/lang/Throwable;" } : Jvm.MethodName) ∈ tg := tg_of 239 (by decide +kernel) rfl
theorem tw_204 : Cond.methodLink "java/lang/Throwable" 202 ({ cls := "java/lang/Throwable", name := "fillInStackTrace", desc := "(I)Ljava/lang/Throwable;" } : Jvm.MethodName) ∈ tg := tg_of 241 (by decide +kernel) rfl
theorem tw_206 : Cond.instanceMethod ({ cls := "java/lang/Throwable", name := "fillInStackTrace", desc := "(I)Ljava/lang/Throwable;" } : Jvm.MethodName) ∈ tg := tg_of 243 (by decide +kernel) rfl
theorem tw_207 : Cond.instantiable "java/lang/Throwable" 6 ∈ tg := tg_of 244 (by decide +kernel) rfl
theorem tw_208 : Cond.native ({ cls := "java/lang/Throwable", name := "fillInStackTrace", desc := "(I)Ljava/lang/Throwable;" } : Jvm.MethodName) ∈ tg := tg_of 245 (by decide +kernel) rfl
theorem tw_209 : Cond.methodLink "MicroMachine" 42 ({ cls := "java/lang/IllegalArgumentException", name := "<init>", desc := "()V" } : Jvm.MethodName) ∈ tg := tg_of 246 (by decide +kernel) rfl
theorem tw_210 : Cond.instanceMethod ({ cls := "java/lang/IllegalArgumentException", name := "<init>", desc := "()V" } : Jvm.MethodName) ∈ tg := tg_of 247 (by decide +kernel) rfl
theorem tw_212 : Cond.methodLink "java/lang/IllegalArgumentException" 1 ({ cls := "java/lang/RuntimeException", name := "<init>", desc := "()V" } : Jvm.MethodName) ∈ tg := tg_of 249 (by decide +kernel) rfl
theorem tw_213 : Cond.instanceMethod ({ cls := "java/lang/RuntimeException", name := "<init>", desc := "()V" } : Jvm.MethodName) ∈ tg := tg_of 250 (by decide +kernel) rfl
theorem tw_215 : Cond.methodLink "java/lang/RuntimeException" 1 ({ cls := "java/lang/Exception", name := "<init>", desc := "()V" } : Jvm.MethodName) ∈ tg := tg_of 252 (by decide +kernel) rfl
theorem tw_216 : Cond.instanceMethod ({ cls := "java/lang/Exception", name := "<init>", desc := "()V" } : Jvm.MethodName) ∈ tg := tg_of 253 (by decide +kernel) rfl
theorem tw_218 : Cond.methodLink "java/lang/Exception" 1 ({ cls := "java/lang/Throwable", name := "<init>", desc := "()V" } : Jvm.MethodName) ∈ tg := tg_of 255 (by decide +kernel) rfl
theorem tw_219 : Cond.fieldLink "java/lang/Throwable" 198 "java/lang/Throwable" "backtrace" "Ljava/lang/Object;" ∈ tg := tg_of 256 (by decide +kernel) rfl
theorem tw_220 : Cond.fieldLink "java/lang/Throwable" 7 "java/lang/Throwable" "cause" "Ljava/lang/Throwable;" ∈ tg := tg_of 257 (by decide +kernel) rfl
theorem tw_221 : Cond.fieldLink "java/lang/Throwable" 17 "java/lang/Throwable" "stackTrace" "[Ljava/lang/StackTraceElement;" ∈ tg := tg_of 258 (by decide +kernel) rfl
theorem tw_222 : Cond.fieldLink "java/lang/Throwable" 24 "java/lang/Throwable" "suppressedExceptions" "Ljava/util/List;" ∈ tg := tg_of 259 (by decide +kernel) rfl
theorem tw_223 : Cond.soleField "java/lang/Throwable" "backtrace" ∈ tg := tg_of 260 (by decide +kernel) rfl
theorem tw_224 : Cond.soleField "java/lang/Throwable" "detailMessage" ∈ tg := tg_of 261 (by decide +kernel) rfl
theorem tw_225 : Cond.soleField "java/lang/Throwable" "cause" ∈ tg := tg_of 262 (by decide +kernel) rfl
theorem tw_226 : Cond.soleField "java/lang/Throwable" "stackTrace" ∈ tg := tg_of 263 (by decide +kernel) rfl
theorem tw_227 : Cond.lays "java/lang/IllegalArgumentException" "java/lang/Throwable" "depth" "I" ∈ tg := tg_of 264 (by decide +kernel) rfl
theorem tw_228 : Cond.soleField "java/lang/Throwable" "depth" ∈ tg := tg_of 265 (by decide +kernel) rfl
theorem tw_229 : Cond.soleField "java/lang/Throwable" "suppressedExceptions" ∈ tg := tg_of 266 (by decide +kernel) rfl
theorem tw_230 : Cond.superclass "java/lang/IllegalArgumentException" "java/lang/RuntimeException" ∈ tg := tg_of 267 (by decide +kernel) rfl
theorem tw_231 : Cond.classLink "MicroMachine" 46 "java/lang/IllegalStateException" ∈ tg := tg_of 268 (by decide +kernel) rfl
theorem tw_232 : Cond.instantiable "java/lang/IllegalStateException" 6 ∈ tg := tg_of 269 (by decide +kernel) rfl
theorem tw_234 : Cond.selects "java/lang/IllegalStateException" ({ cls := "java/lang/Throwable", name := "fillInStackTrace", desc := "(I)Ljava/lang/Throwable;" } : Jvm.MethodName) ({ cls := "java/lang/Throwable", name := "fillInStackTrace", desc := "(I)Ljava/lang/Throwable;" } : Jvm.MethodName) ∈ tg := tg_of 271 (by decide +kernel) rfl
theorem tw_235 : Cond.lays "java/lang/IllegalStateException" "java/lang/Throwable" "cause" "Ljava/lang/Throwable;" ∈ tg := tg_of 272 (by decide +kernel) rfl
theorem tw_236 : Cond.lays "java/lang/IllegalStateException" "java/lang/Throwable" "stackTrace" "[Ljava/lang/StackTraceElement;" ∈ tg := tg_of 273 (by decide +kernel) rfl
theorem tw_237 : Cond.lays "java/lang/IllegalStateException" "java/lang/Throwable" "suppressedExceptions" "Ljava/util/List;" ∈ tg := tg_of 274 (by decide +kernel) rfl
theorem tw_238 : Cond.lays "java/lang/IllegalStateException" "java/lang/Throwable" "detailMessage" "Ljava/lang/String;" ∈ tg := tg_of 275 (by decide +kernel) rfl
theorem tw_239 : Cond.lays "java/lang/IllegalStateException" "java/lang/Throwable" "backtrace" "Ljava/lang/Object;" ∈ tg := tg_of 276 (by decide +kernel) rfl
theorem tw_240 : Cond.methodLink "MicroMachine" 48 ({ cls := "java/lang/IllegalStateException", name := "<init>", desc := "()V" } : Jvm.MethodName) ∈ tg := tg_of 277 (by decide +kernel) rfl
theorem tw_241 : Cond.instanceMethod ({ cls := "java/lang/IllegalStateException", name := "<init>", desc := "()V" } : Jvm.MethodName) ∈ tg := tg_of 278 (by decide +kernel) rfl
theorem tw_243 : Cond.methodLink "java/lang/IllegalStateException" 1 ({ cls := "java/lang/RuntimeException", name := "<init>", desc := "()V" } : Jvm.MethodName) ∈ tg := tg_of 280 (by decide +kernel) rfl
theorem tw_244 : Cond.lays "java/lang/IllegalStateException" "java/lang/Throwable" "depth" "I" ∈ tg := tg_of 281 (by decide +kernel) rfl
theorem tw_245 : Cond.superclass "java/lang/IllegalStateException" "java/lang/RuntimeException" ∈ tg := tg_of 282 (by decide +kernel) rfl
theorem tw_248 : Cond.instanceMethod ({ cls := "MicroMachine$WordReader", name := "add", desc := "(C)V" } : Jvm.MethodName) ∈ tg := tg_of 285 (by decide +kernel) rfl
theorem tw_250 : Cond.methodLink "MicroMachineLaw" 71 ({ cls := "MicroMachineLaw", name := "word", desc := "(LMicroMachine;I[J)I" } : Jvm.MethodName) ∈ tg := tg_of 287 (by decide +kernel) rfl
theorem tw_251 : Cond.static ({ cls := "MicroMachineLaw", name := "word", desc := "(LMicroMachine;I[J)I" } : Jvm.MethodName) ∈ tg := tg_of 288 (by decide +kernel) rfl
theorem tw_253 : Cond.methodLink "MicroMachineLaw" 17 ({ cls := "MicroMachine", name := "word", desc := "(I)I" } : Jvm.MethodName) ∈ tg := tg_of 290 (by decide +kernel) rfl
theorem tw_254 : Cond.instanceMethod ({ cls := "MicroMachine", name := "word", desc := "(I)I" } : Jvm.MethodName) ∈ tg := tg_of 291 (by decide +kernel) rfl
theorem tw_255 : Cond.selects "MicroMachine" ({ cls := "MicroMachine", name := "word", desc := "(I)I" } : Jvm.MethodName) ({ cls := "MicroMachine", name := "word", desc := "(I)I" } : Jvm.MethodName) ∈ tg := tg_of 292 (by decide +kernel) rfl
theorem tw_257 : Cond.methodLink "MicroMachine" 53 ({ cls := "MicroMachine", name := "refuseOutside", desc := "(II)V" } : Jvm.MethodName) ∈ tg := tg_of 294 (by decide +kernel) rfl
theorem tw_258 : Cond.static ({ cls := "MicroMachine", name := "refuseOutside", desc := "(II)V" } : Jvm.MethodName) ∈ tg := tg_of 295 (by decide +kernel) rfl
theorem tw_260 : Cond.methodLink "MicroMachine" 120 ({ cls := "MicroMachine", name := "isOutside", desc := "(II)Z" } : Jvm.MethodName) ∈ tg := tg_of 297 (by decide +kernel) rfl
theorem tw_261 : Cond.static ({ cls := "MicroMachine", name := "isOutside", desc := "(II)Z" } : Jvm.MethodName) ∈ tg := tg_of 298 (by decide +kernel) rfl
theorem tw_265 : Cond.instanceMethod ({ cls := "MicroMachine$WordReader", name := "read", desc := "()LMicroMachine$Word;" } : Jvm.MethodName) ∈ tg := tg_of 302 (by decide +kernel) rfl
theorem tw_267 : Cond.methodLink "MicroMachine$WordReader" 29 ({ cls := "MicroMachine$WordReader", name := "readIfThere", desc := "(I)Z" } : Jvm.MethodName) ∈ tg := tg_of 304 (by decide +kernel) rfl
theorem tw_269 : Cond.instanceMethod ({ cls := "MicroMachine$WordReader", name := "readIfThere", desc := "(I)Z" } : Jvm.MethodName) ∈ tg := tg_of 306 (by decide +kernel) rfl
theorem tw_271 : Cond.methodLink "MicroMachine$WordReader" 40 ({ cls := "MicroMachine$WordReader", name := "readSetting", desc := "()Z" } : Jvm.MethodName) ∈ tg := tg_of 308 (by decide +kernel) rfl
theorem tw_273 : Cond.instanceMethod ({ cls := "MicroMachine$WordReader", name := "readSetting", desc := "()Z" } : Jvm.MethodName) ∈ tg := tg_of 310 (by decide +kernel) rfl
theorem tw_275 : Cond.methodLink "MicroMachine$WordReader" 54 ({ cls := "MicroMachine$WordReader", name := "isAtTarget", desc := "()Z" } : Jvm.MethodName) ∈ tg := tg_of 312 (by decide +kernel) rfl
theorem tw_277 : Cond.instanceMethod ({ cls := "MicroMachine$WordReader", name := "isAtTarget", desc := "()Z" } : Jvm.MethodName) ∈ tg := tg_of 314 (by decide +kernel) rfl
theorem tw_280 : Cond.methodLink "MicroMachine$WordReader" 62 ({ cls := "java/lang/String", name := "indexOf", desc := "(I)I" } : Jvm.MethodName) ∈ tg := tg_of 317 (by decide +kernel) rfl
theorem tw_281 : Cond.instanceMethod ({ cls := "java/lang/String", name := "indexOf", desc := "(I)I" } : Jvm.MethodName) ∈ tg := tg_of 318 (by decide +kernel) rfl
theorem tw_282 : Cond.selects "java/lang/String" ({ cls := "java/lang/String", name := "indexOf", desc := "(I)I" } : Jvm.MethodName) ({ cls := "java/lang/String", name := "indexOf", desc := "(I)I" } : Jvm.MethodName) ∈ tg := tg_of 319 (by decide +kernel) rfl
theorem tw_284 : Cond.methodLink "java/lang/String" 633 ({ cls := "java/lang/String", name := "indexOf", desc := "(II)I" } : Jvm.MethodName) ∈ tg := tg_of 321 (by decide +kernel) rfl
theorem tw_285 : Cond.instanceMethod ({ cls := "java/lang/String", name := "indexOf", desc := "(II)I" } : Jvm.MethodName) ∈ tg := tg_of 322 (by decide +kernel) rfl
theorem tw_286 : Cond.selects "java/lang/String" ({ cls := "java/lang/String", name := "indexOf", desc := "(II)I" } : Jvm.MethodName) ({ cls := "java/lang/String", name := "indexOf", desc := "(II)I" } : Jvm.MethodName) ∈ tg := tg_of 323 (by decide +kernel) rfl
theorem tw_288 : Cond.methodLink "java/lang/String" 492 ({ cls := "java/lang/String", name := "isLatin1", desc := "()Z" } : Jvm.MethodName) ∈ tg := tg_of 325 (by decide +kernel) rfl
theorem tw_289 : Cond.instanceMethod ({ cls := "java/lang/String", name := "isLatin1", desc := "()Z" } : Jvm.MethodName) ∈ tg := tg_of 326 (by decide +kernel) rfl
theorem tw_290 : Cond.selects "java/lang/String" ({ cls := "java/lang/String", name := "isLatin1", desc := "()Z" } : Jvm.MethodName) ({ cls := "java/lang/String", name := "isLatin1", desc := "()Z" } : Jvm.MethodName) ∈ tg := tg_of 327 (by decide +kernel) rfl
theorem tw_292 : Cond.fieldLink "java/lang/String" 38 "java/lang/String" "COMPACT_STRINGS" "Z" ∈ tg := tg_of 329 (by decide +kernel) rfl
theorem tw_294 : Cond.methodLink "java/lang/String" 505 ({ cls := "java/lang/String", name := "length", desc := "()I" } : Jvm.MethodName) ∈ tg := tg_of 331 (by decide +kernel) rfl
theorem tw_295 : Cond.instanceMethod ({ cls := "java/lang/String", name := "length", desc := "()I" } : Jvm.MethodName) ∈ tg := tg_of 332 (by decide +kernel) rfl
theorem tw_296 : Cond.selects "java/lang/String" ({ cls := "java/lang/String", name := "length", desc := "()I" } : Jvm.MethodName) ({ cls := "java/lang/String", name := "length", desc := "()I" } : Jvm.MethodName) ∈ tg := tg_of 333 (by decide +kernel) rfl
theorem tw_298 : Cond.methodLink "java/lang/String" 335 ({ cls := "java/lang/String", name := "coder", desc := "()B" } : Jvm.MethodName) ∈ tg := tg_of 335 (by decide +kernel) rfl
theorem tw_299 : Cond.instanceMethod ({ cls := "java/lang/String", name := "coder", desc := "()B" } : Jvm.MethodName) ∈ tg := tg_of 336 (by decide +kernel) rfl
theorem tw_300 : Cond.selects "java/lang/String" ({ cls := "java/lang/String", name := "coder", desc := "()B" } : Jvm.MethodName) ({ cls := "java/lang/String", name := "coder", desc := "()B" } : Jvm.MethodName) ∈ tg := tg_of 337 (by decide +kernel) rfl
theorem tw_302 : Cond.methodLink "java/lang/String" 637 ({ cls := "java/lang/StringLatin1", name := "indexOf", desc := "([BIII)I" } : Jvm.MethodName) ∈ tg := tg_of 339 (by decide +kernel) rfl
theorem tw_303 : Cond.static ({ cls := "java/lang/StringLatin1", name := "indexOf", desc := "([BIII)I" } : Jvm.MethodName) ∈ tg := tg_of 340 (by decide +kernel) rfl
theorem tw_305 : Cond.methodLink "java/lang/StringLatin1" 88 ({ cls := "java/lang/StringLatin1", name := "canEncode", desc := "(I)Z" } : Jvm.MethodName) ∈ tg := tg_of 342 (by decide +kernel) rfl
theorem tw_306 : Cond.static ({ cls := "java/lang/StringLatin1", name := "canEncode", desc := "(I)Z" } : Jvm.MethodName) ∈ tg := tg_of 343 (by decide +kernel) rfl
theorem tw_308 : Cond.methodLink "java/lang/StringLatin1" 92 ({ cls := "java/lang/Math", name := "max", desc := "(II)I" } : Jvm.MethodName) ∈ tg := tg_of 345 (by decide +kernel) rfl
theorem tw_309 : Cond.static ({ cls := "java/lang/Math", name := "max", desc := "(II)I" } : Jvm.MethodName) ∈ tg := tg_of 346 (by decide +kernel) rfl
theorem tw_311 : Cond.methodLink "java/lang/StringLatin1" 38 ({ cls := "java/lang/Math", name := "min", desc := "(II)I" } : Jvm.MethodName) ∈ tg := tg_of 348 (by decide +kernel) rfl
theorem tw_312 : Cond.static ({ cls := "java/lang/Math", name := "min", desc := "(II)I" } : Jvm.MethodName) ∈ tg := tg_of 349 (by decide +kernel) rfl
theorem tw_314 : Cond.methodLink "java/lang/StringLatin1" 95 ({ cls := "java/lang/StringLatin1", name := "indexOfChar", desc := "([BIII)I" } : Jvm.MethodName) ∈ tg := tg_of 351 (by decide +kernel) rfl
theorem tw_315 : Cond.static ({ cls := "java/lang/StringLatin1", name := "indexOfChar", desc := "([BIII)I" } : Jvm.MethodName) ∈ tg := tg_of 352 (by decide +kernel) rfl
theorem tw_317 : Cond.methodLink "java/lang/String" 640 ({ cls := "java/lang/StringUTF16", name := "indexOf", desc := "([BIII)I" } : Jvm.MethodName) ∈ tg := tg_of 354 (by decide +kernel) rfl
theorem tw_318 : Cond.static ({ cls := "java/lang/StringUTF16", name := "indexOf", desc := "([BIII)I" } : Jvm.MethodName) ∈ tg := tg_of 355 (by decide +kernel) rfl
theorem tw_320 : Cond.methodLink "java/lang/StringUTF16" 224 ({ cls := "java/lang/Math", name := "max", desc := "(II)I" } : Jvm.MethodName) ∈ tg := tg_of 357 (by decide +kernel) rfl
theorem tw_321 : Cond.methodLink "java/lang/StringUTF16" 183 ({ cls := "java/lang/Math", name := "min", desc := "(II)I" } : Jvm.MethodName) ∈ tg := tg_of 358 (by decide +kernel) rfl
theorem tw_322 : Cond.constant "java/lang/StringUTF16" 227 (65536 : Int32) ∈ tg := tg_of 359 (by decide +kernel) rfl
theorem tw_323 : Cond.methodLink "java/lang/StringUTF16" 228 ({ cls := "java/lang/StringUTF16", name := "indexOfChar", desc := "([BIII)I" } : Jvm.MethodName) ∈ tg := tg_of 360 (by decide +kernel) rfl
theorem tw_324 : Cond.static ({ cls := "java/lang/StringUTF16", name := "indexOfChar", desc := "([BIII)I" } : Jvm.MethodName) ∈ tg := tg_of 361 (by decide +kernel) rfl
theorem tw_326 : Cond.methodLink "java/lang/StringUTF16" 96 ({ cls := "java/lang/StringUTF16", name := "checkBoundsBeginEnd", desc := "(II[B)V" } : Jvm.MethodName) ∈ tg := tg_of 363 (by decide +kernel) rfl
theorem tw_327 : Cond.static ({ cls := "java/lang/StringUTF16", name := "checkBoundsBeginEnd", desc := "(II[B)V" } : Jvm.MethodName) ∈ tg := tg_of 364 (by decide +kernel) rfl
theorem tw_329 : Cond.methodLink "java/lang/StringUTF16" 48 ({ cls := "java/lang/StringUTF16", name := "length", desc := "([B)I" } : Jvm.MethodName) ∈ tg := tg_of 366 (by decide +kernel) rfl
theorem tw_330 : Cond.static ({ cls := "java/lang/StringUTF16", name := "length", desc := "([B)I" } : Jvm.MethodName) ∈ tg := tg_of 367 (by decide +kernel) rfl
theorem tw_332 : Cond.methodLink "java/lang/StringUTF16" 241 ({ cls := "java/lang/String", name := "checkBoundsBeginEnd", desc := "(III)V" } : Jvm.MethodName) ∈ tg := tg_of 369 (by decide +kernel) rfl
theorem tw_333 : Cond.static ({ cls := "java/lang/String", name := "checkBoundsBeginEnd", desc := "(III)V" } : Jvm.MethodName) ∈ tg := tg_of 370 (by decide +kernel) rfl
theorem tw_335 : Cond.fieldLink "java/lang/String" 1053 "jdk/internal/util/Preconditions" "SIOOBE_FORMATTER" "Ljava/util/function/BiFunction;" ∈ tg := tg_of 372 (by decide +kernel) rfl
theorem tw_337 : Cond.methodLink "java/lang/String" 1062 ({ cls := "jdk/internal/util/Preconditions", name := "checkFromToIndex", desc := "(IIILjava/util/function/BiFunction;)I" } : Jvm.MethodName) ∈ tg := tg_of 374 (by decide +kernel) rfl
theorem tw_338 : Cond.static ({ cls := "jdk/internal/util/Preconditions", name := "checkFromToIndex", desc := "(IIILjava/util/function/BiFunction;)I" } : Jvm.MethodName) ∈ tg := tg_of 375 (by decide +kernel) rfl
theorem tw_340 : Cond.methodLink "java/lang/StringUTF16" 244 ({ cls := "java/lang/StringUTF16", name := "indexOfCharUnsafe", desc := "([BIII)I" } : Jvm.MethodName) ∈ tg := tg_of 377 (by decide +kernel) rfl
theorem tw_341 : Cond.static ({ cls := "java/lang/StringUTF16", name := "indexOfCharUnsafe", desc := "([BIII)I" } : Jvm.MethodName) ∈ tg := tg_of 378 (by decide +kernel) rfl
theorem tw_343 : Cond.methodLink "java/lang/StringUTF16" 71 ({ cls := "java/lang/StringUTF16", name := "getChar", desc := "([BI)C" } : Jvm.MethodName) ∈ tg := tg_of 380 (by decide +kernel) rfl
theorem tw_344 : Cond.static ({ cls := "java/lang/StringUTF16", name := "getChar", desc := "([BI)C" } : Jvm.MethodName) ∈ tg := tg_of 381 (by decide +kernel) rfl
theorem tw_346 : Cond.fieldLink "java/lang/StringUTF16" 44 "java/lang/StringUTF16" "$assertionsDisabled" "Z" ∈ tg := tg_of 383 (by decide +kernel) rfl
theorem tw_348 : Cond.fieldLink "java/lang/StringUTF16" 59 "java/lang/StringUTF16" "HI_BYTE_SHIFT" "I" ∈ tg := tg_of 385 (by decide +kernel) rfl
theorem tw_350 : Cond.fieldLink "java/lang/StringUTF16" 63 "java/lang/StringUTF16" "LO_BYTE_SHIFT" "I" ∈ tg := tg_of 387 (by decide +kernel) rfl
theorem tw_352 : Cond.methodLink "java/lang/StringUTF16" 232 ({ cls := "java/lang/StringUTF16", name := "indexOfSupplementary", desc := "([BIII)I" } : Jvm.MethodName) ∈ tg := tg_of 389 (by decide +kernel) rfl
theorem tw_353 : Cond.static ({ cls := "java/lang/StringUTF16", name := "indexOfSupplementary", desc := "([BIII)I" } : Jvm.MethodName) ∈ tg := tg_of 390 (by decide +kernel) rfl
theorem tw_355 : Cond.methodLink "java/lang/StringUTF16" 164 ({ cls := "java/lang/Character", name := "isValidCodePoint", desc := "(I)Z" } : Jvm.MethodName) ∈ tg := tg_of 392 (by decide +kernel) rfl
theorem tw_356 : Cond.static ({ cls := "java/lang/Character", name := "isValidCodePoint", desc := "(I)Z" } : Jvm.MethodName) ∈ tg := tg_of 393 (by decide +kernel) rfl
theorem tw_358 : Cond.methodLink "java/lang/StringUTF16" 157 ({ cls := "java/lang/Character", name := "highSurrogate", desc := "(I)C" } : Jvm.MethodName) ∈ tg := tg_of 395 (by decide +kernel) rfl
theorem tw_359 : Cond.static ({ cls := "java/lang/Character", name := "highSurrogate", desc := "(I)C" } : Jvm.MethodName) ∈ tg := tg_of 396 (by decide +kernel) rfl
theorem tw_361 : Cond.constant "java/lang/Character" 110 (55232 : Int32) ∈ tg := tg_of 398 (by decide +kernel) rfl
theorem tw_362 : Cond.methodLink "java/lang/StringUTF16" 161 ({ cls := "java/lang/Character", name := "lowSurrogate", desc := "(I)C" } : Jvm.MethodName) ∈ tg := tg_of 399 (by decide +kernel) rfl
theorem tw_363 : Cond.static ({ cls := "java/lang/Character", name := "lowSurrogate", desc := "(I)C" } : Jvm.MethodName) ∈ tg := tg_of 400 (by decide +kernel) rfl
theorem tw_365 : Cond.constant "java/lang/Character" 76 (56320 : Int32) ∈ tg := tg_of 402 (by decide +kernel) rfl
theorem tw_368 : Cond.instanceMethod ({ cls := "MicroMachine$Word", name := "sets", desc := "(I)Z" } : Jvm.MethodName) ∈ tg := tg_of 405 (by decide +kernel) rfl
theorem tw_370 : Cond.methodLink "MicroMachine$WordReader" 36 ({ cls := "MicroMachine$WordReader", name := "take", desc := "(C)Z" } : Jvm.MethodName) ∈ tg := tg_of 407 (by decide +kernel) rfl
theorem tw_372 : Cond.instanceMethod ({ cls := "MicroMachine$WordReader", name := "take", desc := "(C)Z" } : Jvm.MethodName) ∈ tg := tg_of 409 (by decide +kernel) rfl
theorem tw_374 : Cond.methodLink "MicroMachine$WordReader" 68 ({ cls := "MicroMachine$WordReader", name := "readValue", desc := "()Z" } : Jvm.MethodName) ∈ tg := tg_of 411 (by decide +kernel) rfl
theorem tw_376 : Cond.instanceMethod ({ cls := "MicroMachine$WordReader", name := "readValue", desc := "()Z" } : Jvm.MethodName) ∈ tg := tg_of 413 (by decide +kernel) rfl
theorem tw_378 : Cond.methodLink "MicroMachine$WordReader" 77 ({ cls := "MicroMachine$WordReader", name := "does", desc := "(I)Z" } : Jvm.MethodName) ∈ tg := tg_of 415 (by decide +kernel) rfl
theorem tw_380 : Cond.instanceMethod ({ cls := "MicroMachine$WordReader", name := "does", desc := "(I)Z" } : Jvm.MethodName) ∈ tg := tg_of 417 (by decide +kernel) rfl
theorem tw_382 : Cond.methodLink "MicroMachine$WordReader" 80 ({ cls := "MicroMachine$WordReader", name := "takeSource", desc := "()Z" } : Jvm.MethodName) ∈ tg := tg_of 419 (by decide +kernel) rfl
theorem tw_384 : Cond.instanceMethod ({ cls := "MicroMachine$WordReader", name := "takeSource", desc := "()Z" } : Jvm.MethodName) ∈ tg := tg_of 421 (by decide +kernel) rfl
theorem tw_386 : Cond.methodLink "MicroMachine$WordReader" 83 ({ cls := "MicroMachine$WordReader", name := "readBehindH", desc := "()Z" } : Jvm.MethodName) ∈ tg := tg_of 423 (by decide +kernel) rfl
theorem tw_388 : Cond.instanceMethod ({ cls := "MicroMachine$WordReader", name := "readBehindH", desc := "()Z" } : Jvm.MethodName) ∈ tg := tg_of 425 (by decide +kernel) rfl
theorem tw_390 : Cond.methodLink "MicroMachine$WordReader" 86 ({ cls := "MicroMachine$WordReader", name := "readBehindSource", desc := "()Z" } : Jvm.MethodName) ∈ tg := tg_of 427 (by decide +kernel) rfl
theorem tw_392 : Cond.instanceMethod ({ cls := "MicroMachine$WordReader", name := "readBehindSource", desc := "()Z" } : Jvm.MethodName) ∈ tg := tg_of 429 (by decide +kernel) rfl
theorem tw_394 : Cond.methodLink "MicroMachine$WordReader" 51 ({ cls := "MicroMachine$WordReader", name := "readGoing", desc := "()Z" } : Jvm.MethodName) ∈ tg := tg_of 431 (by decide +kernel) rfl
theorem tw_396 : Cond.instanceMethod ({ cls := "MicroMachine$WordReader", name := "readGoing", desc := "()Z" } : Jvm.MethodName) ∈ tg := tg_of 433 (by decide +kernel) rfl
theorem tw_399 : Cond.methodLink "MicroMachine$WordReader" 97 ({ cls := "MicroMachine$WordReader", name := "takeNumber", desc := "()I" } : Jvm.MethodName) ∈ tg := tg_of 436 (by decide +kernel) rfl
theorem tw_401 : Cond.instanceMethod ({ cls := "MicroMachine$WordReader", name := "takeNumber", desc := "()I" } : Jvm.MethodName) ∈ tg := tg_of 438 (by decide +kernel) rfl
theorem tw_403 : Cond.methodLink "MicroMachine$WordReader" 107 ({ cls := "MicroMachine$WordReader", name := "takeDigit", desc := "(I)I" } : Jvm.MethodName) ∈ tg := tg_of 440 (by decide +kernel) rfl
theorem tw_405 : Cond.instanceMethod ({ cls := "MicroMachine$WordReader", name := "takeDigit", desc := "(I)I" } : Jvm.MethodName) ∈ tg := tg_of 442 (by decide +kernel) rfl
theorem tw_407 : Cond.arrayClass FieldType.byte ∈ tg := tg_of 444 (by decide +kernel) rfl
theorem tw_408 : Cond.methodLink "MicroMachineLaw" 75 ({ cls := "MicroMachineLaw", name := "erase", desc := "(LMicroMachine;I)I" } : Jvm.MethodName) ∈ tg := tg_of 445 (by decide +kernel) rfl
theorem tw_409 : Cond.static ({ cls := "MicroMachineLaw", name := "erase", desc := "(LMicroMachine;I)I" } : Jvm.MethodName) ∈ tg := tg_of 446 (by decide +kernel) rfl
theorem tw_411 : Cond.classLink "MicroMachineLaw" 25 "java/util/NoSuchElementException" ∈ tg := tg_of 448 (by decide +kernel) rfl
theorem tw_412 : Cond.methodLink "MicroMachineLaw" 21 ({ cls := "MicroMachine", name := "erase", desc := "(I)V" } : Jvm.MethodName) ∈ tg := tg_of 449 (by decide +kernel) rfl
theorem tw_413 : Cond.instanceMethod ({ cls := "MicroMachine", name := "erase", desc := "(I)V" } : Jvm.MethodName) ∈ tg := tg_of 450 (by decide +kernel) rfl
theorem tw_414 : Cond.selects "MicroMachine" ({ cls := "MicroMachine", name := "erase", desc := "(I)V" } : Jvm.MethodName) ({ cls := "MicroMachine", name := "erase", desc := "(I)V" } : Jvm.MethodName) ∈ tg := tg_of 451 (by decide +kernel) rfl
theorem tw_416 : Cond.classLink "MicroMachine" 70 "java/util/NoSuchElementException" ∈ tg := tg_of 453 (by decide +kernel) rfl
theorem tw_417 : Cond.instantiable "java/util/NoSuchElementException" 6 ∈ tg := tg_of 454 (by decide +kernel) rfl
theorem tw_419 : Cond.selects "java/util/NoSuchElementException" ({ cls := "java/lang/Throwable", name := "fillInStackTrace", desc := "(I)Ljava/lang/Throwable;" } : Jvm.MethodName) ({ cls := "java/lang/Throwable", name := "fillInStackTrace", desc := "(I)Ljava/lang/Throwable;" } : Jvm.MethodName) ∈ tg := tg_of 456 (by decide +kernel) rfl
theorem tw_420 : Cond.lays "java/util/NoSuchElementException" "java/lang/Throwable" "cause" "Ljava/lang/Throwable;" ∈ tg := tg_of 457 (by decide +kernel) rfl
theorem tw_421 : Cond.lays "java/util/NoSuchElementException" "java/lang/Throwable" "stackTrace" "[Ljava/lang/StackTraceElement;" ∈ tg := tg_of 458 (by decide +kernel) rfl
theorem tw_422 : Cond.lays "java/util/NoSuchElementException" "java/lang/Throwable" "suppressedExceptions" "Ljava/util/List;" ∈ tg := tg_of 459 (by decide +kernel) rfl
theorem tw_423 : Cond.lays "java/util/NoSuchElementException" "java/lang/Throwable" "detailMessage" "Ljava/lang/String;" ∈ tg := tg_of 460 (by decide +kernel) rfl
theorem tw_424 : Cond.lays "java/util/NoSuchElementException" "java/lang/Throwable" "backtrace" "Ljava/lang/Object;" ∈ tg := tg_of 461 (by decide +kernel) rfl
theorem tw_425 : Cond.methodLink "MicroMachine" 72 ({ cls := "java/util/NoSuchElementException", name := "<init>", desc := "()V" } : Jvm.MethodName) ∈ tg := tg_of 462 (by decide +kernel) rfl
theorem tw_426 : Cond.instanceMethod ({ cls := "java/util/NoSuchElementException", name := "<init>", desc := "()V" } : Jvm.MethodName) ∈ tg := tg_of 463 (by decide +kernel) rfl
theorem tw_428 : Cond.methodLink "java/util/NoSuchElementException" 1 ({ cls := "java/lang/RuntimeException", name := "<init>", desc := "()V" } : Jvm.MethodName) ∈ tg := tg_of 465 (by decide +kernel) rfl
theorem tw_429 : Cond.lays "java/util/NoSuchElementException" "java/lang/Throwable" "depth" "I" ∈ tg := tg_of 466 (by decide +kernel) rfl
theorem tw_430 : Cond.superclass "java/util/NoSuchElementException" "java/lang/RuntimeException" ∈ tg := tg_of 467 (by decide +kernel) rfl
theorem tw_431 : Cond.methodLink "MicroMachineLaw" 79 ({ cls := "MicroMachineLaw", name := "begin", desc := "(LMicroMachine;I)I" } : Jvm.MethodName) ∈ tg := tg_of 468 (by decide +kernel) rfl
theorem tw_432 : Cond.static ({ cls := "MicroMachineLaw", name := "begin", desc := "(LMicroMachine;I)I" } : Jvm.MethodName) ∈ tg := tg_of 469 (by decide +kernel) rfl
theorem tw_434 : Cond.methodLink "MicroMachineLaw" 27 ({ cls := "MicroMachine", name := "begin", desc := "(I)V" } : Jvm.MethodName) ∈ tg := tg_of 471 (by decide +kernel) rfl
theorem tw_435 : Cond.instanceMethod ({ cls := "MicroMachine", name := "begin", desc := "(I)V" } : Jvm.MethodName) ∈ tg := tg_of 472 (by decide +kernel) rfl
theorem tw_436 : Cond.selects "MicroMachine" ({ cls := "MicroMachine", name := "begin", desc := "(I)V" } : Jvm.MethodName) ({ cls := "MicroMachine", name := "begin", desc := "(I)V" } : Jvm.MethodName) ∈ tg := tg_of 473 (by decide +kernel) rfl
theorem tw_438 : Cond.methodLink "MicroMachineLaw" 82 ({ cls := "MicroMachineLaw", name := "run", desc := "(LMicroMachine;I[J)I" } : Jvm.MethodName) ∈ tg := tg_of 475 (by decide +kernel) rfl
theorem tw_439 : Cond.static ({ cls := "MicroMachineLaw", name := "run", desc := "(LMicroMachine;I[J)I" } : Jvm.MethodName) ∈ tg := tg_of 476 (by decide +kernel) rfl
theorem tw_441 : Cond.classLink "MicroMachineLaw" 33 "java/lang/IndexOutOfBoundsException" ∈ tg := tg_of 478 (by decide +kernel) rfl
theorem tw_442 : Cond.methodLink "MicroMachineLaw" 30 ({ cls := "MicroMachine", name := "run", desc := "(I)I" } : Jvm.MethodName) ∈ tg := tg_of 479 (by decide +kernel) rfl
theorem tw_443 : Cond.instanceMethod ({ cls := "MicroMachine", name := "run", desc := "(I)I" } : Jvm.MethodName) ∈ tg := tg_of 480 (by decide +kernel) rfl
theorem tw_444 : Cond.selects "MicroMachine" ({ cls := "MicroMachine", name := "run", desc := "(I)I" } : Jvm.MethodName) ({ cls := "MicroMachine", name := "run", desc := "(I)I" } : Jvm.MethodName) ∈ tg := tg_of 481 (by decide +kernel) rfl
theorem tw_446 : Cond.methodLink "MicroMachine" 83 ({ cls := "MicroMachine", name := "doCycle", desc := "(LMicroMachine$Word;)V" } : Jvm.MethodName) ∈ tg := tg_of 483 (by decide +kernel) rfl
theorem tw_448 : Cond.instanceMethod ({ cls := "MicroMachine", name := "doCycle", desc := "(LMicroMachine$Word;)V" } : Jvm.MethodName) ∈ tg := tg_of 485 (by decide +kernel) rfl
theorem tw_450 : Cond.methodLink "MicroMachine" 124 ({ cls := "MicroMachine", name := "valueOf", desc := "(LMicroMachine$Word;)I" } : Jvm.MethodName) ∈ tg := tg_of 487 (by decide +kernel) rfl
theorem tw_452 : Cond.instanceMethod ({ cls := "MicroMachine", name := "valueOf", desc := "(LMicroMachine$Word;)I" } : Jvm.MethodName) ∈ tg := tg_of 489 (by decide +kernel) rfl
theorem tw_454 : Cond.methodLink "MicroMachine" 153 ({ cls := "MicroMachine", name := "busOf", desc := "(I)I" } : Jvm.MethodName) ∈ tg := tg_of 491 (by decide +kernel) rfl
theorem tw_456 : Cond.instanceMethod ({ cls := "MicroMachine", name := "busOf", desc := "(I)I" } : Jvm.MethodName) ∈ tg := tg_of 493 (by decide +kernel) rfl
theorem tw_458 : Cond.methodLink "MicroMachine" 128 ({ cls := "MicroMachine", name := "shiftedBy", desc := "(II)I" } : Jvm.MethodName) ∈ tg := tg_of 495 (by decide +kernel) rfl
theorem tw_459 : Cond.static ({ cls := "MicroMachine", name := "shiftedBy", desc := "(II)I" } : Jvm.MethodName) ∈ tg := tg_of 496 (by decide +kernel) rfl
theorem tw_462 : Cond.classLink "MicroMachine" 136 "java/lang/IndexOutOfBoundsException" ∈ tg := tg_of 499 (by decide +kernel) rfl
theorem tw_463 : Cond.instantiable "java/lang/IndexOutOfBoundsException" 6 ∈ tg := tg_of 500 (by decide +kernel) rfl
theorem tw_465 : Cond.selects "java/lang/IndexOutOfBoundsException" ({ cls := "java/lang/Throwable", name := "fillInStackTrace", desc := "(I)Ljava/lang/Throwable;" } : Jvm.MethodName) ({ cls := "java/lang/Throwable", name := "fillInStackTrace", desc := "(I)Ljava/lang/Throwable;" } : Jvm.MethodName) ∈ tg := tg_of 502 (by decide +kernel) rfl
theorem tw_466 : Cond.lays "java/lang/IndexOutOfBoundsException" "java/lang/Throwable" "cause" "Ljava/lang/Throwable;" ∈ tg := tg_of 503 (by decide +kernel) rfl
theorem tw_467 : Cond.lays "java/lang/IndexOutOfBoundsException" "java/lang/Throwable" "stackTrace" "[Ljava/lang/StackTraceElement;" ∈ tg := tg_of 504 (by decide +kernel) rfl
theorem tw_468 : Cond.lays "java/lang/IndexOutOfBoundsException" "java/lang/Throwable" "suppressedExceptions" "Ljava/util/List;" ∈ tg := tg_of 505 (by decide +kernel) rfl
theorem tw_469 : Cond.lays "java/lang/IndexOutOfBoundsException" "java/lang/Throwable" "detailMessage" "Ljava/lang/String;" ∈ tg := tg_of 506 (by decide +kernel) rfl
theorem tw_470 : Cond.lays "java/lang/IndexOutOfBoundsException" "java/lang/Throwable" "backtrace" "Ljava/lang/Object;" ∈ tg := tg_of 507 (by decide +kernel) rfl
theorem tw_471 : Cond.methodLink "MicroMachine" 138 ({ cls := "java/lang/IndexOutOfBoundsException", name := "<init>", desc := "()V" } : Jvm.MethodName) ∈ tg := tg_of 508 (by decide +kernel) rfl
theorem tw_472 : Cond.instanceMethod ({ cls := "java/lang/IndexOutOfBoundsException", name := "<init>", desc := "()V" } : Jvm.MethodName) ∈ tg := tg_of 509 (by decide +kernel) rfl
theorem tw_474 : Cond.methodLink "java/lang/IndexOutOfBoundsException" 1 ({ cls := "java/lang/RuntimeException", name := "<init>", desc := "()V" } : Jvm.MethodName) ∈ tg := tg_of 511 (by decide +kernel) rfl
theorem tw_475 : Cond.lays "java/lang/IndexOutOfBoundsException" "java/lang/Throwable" "depth" "I" ∈ tg := tg_of 512 (by decide +kernel) rfl
theorem tw_476 : Cond.superclass "java/lang/IndexOutOfBoundsException" "java/lang/RuntimeException" ∈ tg := tg_of 513 (by decide +kernel) rfl
theorem tw_477 : Cond.methodLink "MicroMachine" 139 ({ cls := "MicroMachine", name := "askForWord", desc := "(II)V" } : Jvm.MethodName) ∈ tg := tg_of 514 (by decide +kernel) rfl
theorem tw_479 : Cond.instanceMethod ({ cls := "MicroMachine", name := "askForWord", desc := "(II)V" } : Jvm.MethodName) ∈ tg := tg_of 516 (by decide +kernel) rfl
theorem tw_481 : Cond.methodLink "MicroMachine" 142 ({ cls := "MicroMachine", name := "askForByte", desc := "(ZI)V" } : Jvm.MethodName) ∈ tg := tg_of 518 (by decide +kernel) rfl
theorem tw_483 : Cond.instanceMethod ({ cls := "MicroMachine", name := "askForByte", desc := "(ZI)V" } : Jvm.MethodName) ∈ tg := tg_of 520 (by decide +kernel) rfl
theorem tw_485 : Cond.methodLink "MicroMachine" 146 ({ cls := "MicroMachine", name := "wordBehind", desc := "(LMicroMachine$Word;I)I" } : Jvm.MethodName) ∈ tg := tg_of 522 (by decide +kernel) rfl
theorem tw_487 : Cond.instanceMethod ({ cls := "MicroMachine", name := "wordBehind", desc := "(LMicroMachine$Word;I)I" } : Jvm.MethodName) ∈ tg := tg_of 524 (by decide +kernel) rfl
theorem tw_489 : Cond.methodLink "MicroMachine" 166 ({ cls := "java/lang/Math", name := "max", desc := "(II)I" } : Jvm.MethodName) ∈ tg := tg_of 526 (by decide +kernel) rfl
theorem tw_490 : Cond.methodLink "MicroMachineLaw" 85 ({ cls := "MicroMachineLaw", name := "set", desc := "(LMicroMachine;II)I" } : Jvm.MethodName) ∈ tg := tg_of 527 (by decide +kernel) rfl
theorem tw_491 : Cond.static ({ cls := "MicroMachineLaw", name := "set", desc := "(LMicroMachine;II)I" } : Jvm.MethodName) ∈ tg := tg_of 528 (by decide +kernel) rfl
theorem tw_493 : Cond.methodLink "MicroMachineLaw" 35 ({ cls := "MicroMachine", name := "set", desc := "(II)V" } : Jvm.MethodName) ∈ tg := tg_of 530 (by decide +kernel) rfl
theorem tw_494 : Cond.instanceMethod ({ cls := "MicroMachine", name := "set", desc := "(II)V" } : Jvm.MethodName) ∈ tg := tg_of 531 (by decide +kernel) rfl
theorem tw_495 : Cond.selects "MicroMachine" ({ cls := "MicroMachine", name := "set", desc := "(II)V" } : Jvm.MethodName) ({ cls := "MicroMachine", name := "set", desc := "(II)V" } : Jvm.MethodName) ∈ tg := tg_of 532 (by decide +kernel) rfl
theorem tw_497 : Cond.methodLink "MicroMachineLaw" 89 ({ cls := "MicroMachineLaw", name := "register", desc := "(LMicroMachine;I[J)I" } : Jvm.MethodName) ∈ tg := tg_of 534 (by decide +kernel) rfl
theorem tw_498 : Cond.static ({ cls := "MicroMachineLaw", name := "register", desc := "(LMicroMachine;I[J)I" } : Jvm.MethodName) ∈ tg := tg_of 535 (by decide +kernel) rfl
theorem tw_500 : Cond.methodLink "MicroMachineLaw" 39 ({ cls := "MicroMachine", name := "register", desc := "(I)I" } : Jvm.MethodName) ∈ tg := tg_of 537 (by decide +kernel) rfl
theorem tw_501 : Cond.instanceMethod ({ cls := "MicroMachine", name := "register", desc := "(I)I" } : Jvm.MethodName) ∈ tg := tg_of 538 (by decide +kernel) rfl
theorem tw_502 : Cond.selects "MicroMachine" ({ cls := "MicroMachine", name := "register", desc := "(I)I" } : Jvm.MethodName) ({ cls := "MicroMachine", name := "register", desc := "(I)I" } : Jvm.MethodName) ∈ tg := tg_of 539 (by decide +kernel) rfl
theorem tw_504 : Cond.methodLink "MicroMachineLaw" 92 ({ cls := "MicroMachineLaw", name := "poke", desc := "(LMicroMachine;II)I" } : Jvm.MethodName) ∈ tg := tg_of 541 (by decide +kernel) rfl
theorem tw_505 : Cond.static ({ cls := "MicroMachineLaw", name := "poke", desc := "(LMicroMachine;II)I" } : Jvm.MethodName) ∈ tg := tg_of 542 (by decide +kernel) rfl
theorem tw_507 : Cond.methodLink "MicroMachineLaw" 42 ({ cls := "MicroMachine", name := "poke", desc := "(II)V" } : Jvm.MethodName) ∈ tg := tg_of 544 (by decide +kernel) rfl
theorem tw_508 : Cond.instanceMethod ({ cls := "MicroMachine", name := "poke", desc := "(II)V" } : Jvm.MethodName) ∈ tg := tg_of 545 (by decide +kernel) rfl
theorem tw_509 : Cond.selects "MicroMachine" ({ cls := "MicroMachine", name := "poke", desc := "(II)V" } : Jvm.MethodName) ({ cls := "MicroMachine", name := "poke", desc := "(II)V" } : Jvm.MethodName) ∈ tg := tg_of 546 (by decide +kernel) rfl
theorem tw_511 : Cond.methodLink "MicroMachineLaw" 95 ({ cls := "MicroMachineLaw", name := "memory", desc := "(LMicroMachine;I[J)I" } : Jvm.MethodName) ∈ tg := tg_of 548 (by decide +kernel) rfl
theorem tw_512 : Cond.static ({ cls := "MicroMachineLaw", name := "memory", desc := "(LMicroMachine;I[J)I" } : Jvm.MethodName) ∈ tg := tg_of 549 (by decide +kernel) rfl
theorem tw_514 : Cond.methodLink "MicroMachineLaw" 45 ({ cls := "MicroMachine", name := "memory", desc := "(I)I" } : Jvm.MethodName) ∈ tg := tg_of 551 (by decide +kernel) rfl
theorem tw_515 : Cond.instanceMethod ({ cls := "MicroMachine", name := "memory", desc := "(I)I" } : Jvm.MethodName) ∈ tg := tg_of 552 (by decide +kernel) rfl
theorem tw_516 : Cond.selects "MicroMachine" ({ cls := "MicroMachine", name := "memory", desc := "(I)I" } : Jvm.MethodName) ({ cls := "MicroMachine", name := "memory", desc := "(I)I" } : Jvm.MethodName) ∈ tg := tg_of 553 (by decide +kernel) rfl
theorem tw_518 : Cond.methodLink "MicroMachineLaw" 98 ({ cls := "MicroMachineLaw", name := "code", desc := "(LMicroMachine;II)I" } : Jvm.MethodName) ∈ tg := tg_of 555 (by decide +kernel) rfl
theorem tw_519 : Cond.static ({ cls := "MicroMachineLaw", name := "code", desc := "(LMicroMachine;II)I" } : Jvm.MethodName) ∈ tg := tg_of 556 (by decide +kernel) rfl
theorem tw_521 : Cond.methodLink "MicroMachineLaw" 48 ({ cls := "MicroMachine", name := "code", desc := "(II)V" } : Jvm.MethodName) ∈ tg := tg_of 558 (by decide +kernel) rfl
theorem tw_522 : Cond.instanceMethod ({ cls := "MicroMachine", name := "code", desc := "(II)V" } : Jvm.MethodName) ∈ tg := tg_of 559 (by decide +kernel) rfl
theorem tw_523 : Cond.selects "MicroMachine" ({ cls := "MicroMachine", name := "code", desc := "(II)V" } : Jvm.MethodName) ({ cls := "MicroMachine", name := "code", desc := "(II)V" } : Jvm.MethodName) ∈ tg := tg_of 560 (by decide +kernel) rfl
theorem tw_525 : Cond.methodLink "MicroMachineLaw" 101 ({ cls := "MicroMachineLaw", name := "told", desc := "(LMicroMachine;II[J)I" } : Jvm.MethodName) ∈ tg := tg_of 562 (by decide +kernel) rfl
theorem tw_526 : Cond.static ({ cls := "MicroMachineLaw", name := "told", desc := "(LMicroMachine;II[J)I" } : Jvm.MethodName) ∈ tg := tg_of 563 (by decide +kernel) rfl
theorem tw_528 : Cond.methodLink "MicroMachineLaw" 51 ({ cls := "MicroMachine", name := "told", desc := "(II)I" } : Jvm.MethodName) ∈ tg := tg_of 565 (by decide +kernel) rfl
theorem tw_529 : Cond.instanceMethod ({ cls := "MicroMachine", name := "told", desc := "(II)I" } : Jvm.MethodName) ∈ tg := tg_of 566 (by decide +kernel) rfl
theorem tw_530 : Cond.selects "MicroMachine" ({ cls := "MicroMachine", name := "told", desc := "(II)I" } : Jvm.MethodName) ({ cls := "MicroMachine", name := "told", desc := "(II)I" } : Jvm.MethodName) ∈ tg := tg_of 567 (by decide +kernel) rfl
theorem tw_532 : Cond.classLink "MicroMachineLaw" 56 "MicroMachineModel" ∈ tg := tg_of 569 (by decide +kernel) rfl
theorem tw_533 : Cond.instantiable "MicroMachineModel" 28 ∈ tg := tg_of 570 (by decide +kernel) rfl
theorem tw_534 : Cond.methodLink "MicroMachineLaw" 58 ({ cls := "MicroMachineModel", name := "<init>", desc := "()V" } : Jvm.MethodName) ∈ tg := tg_of 571 (by decide +kernel) rfl
theorem tw_535 : Cond.instanceMethod ({ cls := "MicroMachineModel", name := "<init>", desc := "()V" } : Jvm.MethodName) ∈ tg := tg_of 572 (by decide +kernel) rfl
theorem tw_537 : Cond.methodLink "MicroMachineModel" 1 ({ cls := "java/lang/Object", name := "<init>", desc := "()V" } : Jvm.MethodName) ∈ tg := tg_of 574 (by decide +kernel) rfl
theorem tw_538 : Cond.fieldLink "MicroMachineModel" 7 "MicroMachineModel" "text" "[I" ∈ tg := tg_of 575 (by decide +kernel) rfl
theorem tw_539 : Cond.fieldLink "MicroMachineModel" 13 "MicroMachineModel" "registers" "[I" ∈ tg := tg_of 576 (by decide +kernel) rfl
theorem tw_540 : Cond.fieldLink "MicroMachineModel" 16 "MicroMachineModel" "memory" "[I" ∈ tg := tg_of 577 (by decide +kernel) rfl
theorem tw_541 : Cond.fieldLink "MicroMachineModel" 19 "MicroMachineModel" "bytes" "[I" ∈ tg := tg_of 578 (by decide +kernel) rfl
theorem tw_542 : Cond.fieldLink "MicroMachineModel" 22 "MicroMachineModel" "into" "[I" ∈ tg := tg_of 579 (by decide +kernel) rfl
theorem tw_543 : Cond.fieldLink "MicroMachineModel" 25 "MicroMachineModel" "sort" "[I" ∈ tg := tg_of 580 (by decide +kernel) rfl
theorem tw_544 : Cond.fieldLink "MicroMachineModel" 28 "MicroMachineModel" "from" "[I" ∈ tg := tg_of 581 (by decide +kernel) rfl
theorem tw_545 : Cond.fieldLink "MicroMachineModel" 31 "MicroMachineModel" "shift" "[I" ∈ tg := tg_of 582 (by decide +kernel) rfl
theorem tw_546 : Cond.fieldLink "MicroMachineModel" 34 "MicroMachineModel" "words" "[I" ∈ tg := tg_of 583 (by decide +kernel) rfl
theorem tw_547 : Cond.fieldLink "MicroMachineModel" 37 "MicroMachineModel" "fetch" "[I" ∈ tg := tg_of 584 (by decide +kernel) rfl
theorem tw_548 : Cond.fieldLink "MicroMachineModel" 40 "MicroMachineModel" "going" "[I" ∈ tg := tg_of 585 (by decide +kernel) rfl
theorem tw_549 : Cond.fieldLink "MicroMachineModel" 43 "MicroMachineModel" "first" "[I" ∈ tg := tg_of 586 (by decide +kernel) rfl
theorem tw_550 : Cond.fieldLink "MicroMachineModel" 46 "MicroMachineModel" "second" "[I" ∈ tg := tg_of 587 (by decide +kernel) rfl
theorem tw_551 : Cond.fieldLink "MicroMachineModel" 49 "MicroMachineModel" "there" "[Z" ∈ tg := tg_of 588 (by decide +kernel) rfl
theorem tw_552 : Cond.fieldLink "MicroMachineModel" 60 "MicroMachineModel" "length" "I" ∈ tg := tg_of 589 (by decide +kernel) rfl
theorem tw_553 : Cond.fieldLink "MicroMachineModel" 53 "MicroMachineModel" "place" "I" ∈ tg := tg_of 590 (by decide +kernel) rfl
theorem tw_554 : Cond.fieldLink "MicroMachineModel" 63 "MicroMachineModel" "i" "I" ∈ tg := tg_of 591 (by decide +kernel) rfl
theorem tw_555 : Cond.fieldLink "MicroMachineModel" 91 "MicroMachineModel" "parts" "I" ∈ tg := tg_of 592 (by decide +kernel) rfl
theorem tw_556 : Cond.fieldLink "MicroMachineModel" 108 "MicroMachineModel" "hand" "I" ∈ tg := tg_of 593 (by decide +kernel) rfl
theorem tw_557 : Cond.fieldLink "MicroMachineModel" 139 "MicroMachineModel" "cycles" "I" ∈ tg := tg_of 594 (by decide +kernel) rfl
theorem tw_558 : Cond.fieldLink "MicroMachineModel" 125 "MicroMachineModel" "reads" "I" ∈ tg := tg_of 595 (by decide +kernel) rfl
theorem tw_559 : Cond.fieldLink "MicroMachineModel" 127 "MicroMachineModel" "writes" "I" ∈ tg := tg_of 596 (by decide +kernel) rfl
theorem tw_560 : Cond.fieldLink "MicroMachineModel" 136 "MicroMachineModel" "fetches" "I" ∈ tg := tg_of 597 (by decide +kernel) rfl
theorem tw_561 : Cond.fieldLink "MicroMachineModel" 57 "MicroMachineModel" "thrown" "I" ∈ tg := tg_of 598 (by decide +kernel) rfl
theorem tw_562 : Cond.fieldLink "MicroMachineModel" 111 "MicroMachineModel" "wordComes" "Z" ∈ tg := tg_of 599 (by decide +kernel) rfl
theorem tw_563 : Cond.fieldLink "MicroMachineModel" 115 "MicroMachineModel" "byteComes" "Z" ∈ tg := tg_of 600 (by decide +kernel) rfl
theorem tw_564 : Cond.fieldLink "MicroMachineModel" 130 "MicroMachineModel" "word" "I" ∈ tg := tg_of 601 (by decide +kernel) rfl
theorem tw_565 : Cond.fieldLink "MicroMachineModel" 133 "MicroMachineModel" "aByte" "I" ∈ tg := tg_of 602 (by decide +kernel) rfl
theorem tw_566 : Cond.laysFinal "MicroMachineModel" "MicroMachineModel" "text" "[I" ∈ tg := tg_of 603 (by decide +kernel) rfl
theorem tw_567 : Cond.soleField "MicroMachineModel" "text" ∈ tg := tg_of 604 (by decide +kernel) rfl
theorem tw_568 : Cond.laysFinal "MicroMachineModel" "MicroMachineModel" "registers" "[I" ∈ tg := tg_of 605 (by decide +kernel) rfl
theorem tw_569 : Cond.soleField "MicroMachineModel" "registers" ∈ tg := tg_of 606 (by decide +kernel) rfl
theorem tw_570 : Cond.laysFinal "MicroMachineModel" "MicroMachineModel" "memory" "[I" ∈ tg := tg_of 607 (by decide +kernel) rfl
theorem tw_571 : Cond.soleField "MicroMachineModel" "memory" ∈ tg := tg_of 608 (by decide +kernel) rfl
theorem tw_572 : Cond.laysFinal "MicroMachineModel" "MicroMachineModel" "bytes" "[I" ∈ tg := tg_of 609 (by decide +kernel) rfl
theorem tw_573 : Cond.soleField "MicroMachineModel" "bytes" ∈ tg := tg_of 610 (by decide +kernel) rfl
theorem tw_574 : Cond.laysFinal "MicroMachineModel" "MicroMachineModel" "into" "[I" ∈ tg := tg_of 611 (by decide +kernel) rfl
theorem tw_575 : Cond.soleField "MicroMachineModel" "into" ∈ tg := tg_of 612 (by decide +kernel) rfl
theorem tw_576 : Cond.laysFinal "MicroMachineModel" "MicroMachineModel" "sort" "[I" ∈ tg := tg_of 613 (by decide +kernel) rfl
theorem tw_577 : Cond.soleField "MicroMachineModel" "sort" ∈ tg := tg_of 614 (by decide +kernel) rfl
theorem tw_578 : Cond.laysFinal "MicroMachineModel" "MicroMachineModel" "from" "[I" ∈ tg := tg_of 615 (by decide +kernel) rfl
theorem tw_579 : Cond.soleField "MicroMachineModel" "from" ∈ tg := tg_of 616 (by decide +kernel) rfl
theorem tw_580 : Cond.laysFinal "MicroMachineModel" "MicroMachineModel" "shift" "[I" ∈ tg := tg_of 617 (by decide +kernel) rfl
theorem tw_581 : Cond.soleField "MicroMachineModel" "shift" ∈ tg := tg_of 618 (by decide +kernel) rfl
theorem tw_582 : Cond.laysFinal "MicroMachineModel" "MicroMachineModel" "words" "[I" ∈ tg := tg_of 619 (by decide +kernel) rfl
theorem tw_583 : Cond.soleField "MicroMachineModel" "words" ∈ tg := tg_of 620 (by decide +kernel) rfl
theorem tw_584 : Cond.laysFinal "MicroMachineModel" "MicroMachineModel" "fetch" "[I" ∈ tg := tg_of 621 (by decide +kernel) rfl
theorem tw_585 : Cond.soleField "MicroMachineModel" "fetch" ∈ tg := tg_of 622 (by decide +kernel) rfl
theorem tw_586 : Cond.laysFinal "MicroMachineModel" "MicroMachineModel" "going" "[I" ∈ tg := tg_of 623 (by decide +kernel) rfl
theorem tw_587 : Cond.soleField "MicroMachineModel" "going" ∈ tg := tg_of 624 (by decide +kernel) rfl
theorem tw_588 : Cond.laysFinal "MicroMachineModel" "MicroMachineModel" "first" "[I" ∈ tg := tg_of 625 (by decide +kernel) rfl
theorem tw_589 : Cond.soleField "MicroMachineModel" "first" ∈ tg := tg_of 626 (by decide +kernel) rfl
theorem tw_590 : Cond.laysFinal "MicroMachineModel" "MicroMachineModel" "second" "[I" ∈ tg := tg_of 627 (by decide +kernel) rfl
theorem tw_591 : Cond.soleField "MicroMachineModel" "second" ∈ tg := tg_of 628 (by decide +kernel) rfl
theorem tw_592 : Cond.laysFinal "MicroMachineModel" "MicroMachineModel" "there" "[Z" ∈ tg := tg_of 629 (by decide +kernel) rfl
theorem tw_593 : Cond.soleField "MicroMachineModel" "there" ∈ tg := tg_of 630 (by decide +kernel) rfl
theorem tw_594 : Cond.lays "MicroMachineModel" "MicroMachineModel" "length" "I" ∈ tg := tg_of 631 (by decide +kernel) rfl
theorem tw_595 : Cond.soleField "MicroMachineModel" "length" ∈ tg := tg_of 632 (by decide +kernel) rfl
theorem tw_596 : Cond.lays "MicroMachineModel" "MicroMachineModel" "place" "I" ∈ tg := tg_of 633 (by decide +kernel) rfl
theorem tw_597 : Cond.soleField "MicroMachineModel" "place" ∈ tg := tg_of 634 (by decide +kernel) rfl
theorem tw_598 : Cond.lays "MicroMachineModel" "MicroMachineModel" "i" "I" ∈ tg := tg_of 635 (by decide +kernel) rfl
theorem tw_599 : Cond.soleField "MicroMachineModel" "i" ∈ tg := tg_of 636 (by decide +kernel) rfl
theorem tw_600 : Cond.lays "MicroMachineModel" "MicroMachineModel" "parts" "I" ∈ tg := tg_of 637 (by decide +kernel) rfl
theorem tw_601 : Cond.soleField "MicroMachineModel" "parts" ∈ tg := tg_of 638 (by decide +kernel) rfl
theorem tw_602 : Cond.lays "MicroMachineModel" "MicroMachineModel" "hand" "I" ∈ tg := tg_of 639 (by decide +kernel) rfl
theorem tw_603 : Cond.soleField "MicroMachineModel" "hand" ∈ tg := tg_of 640 (by decide +kernel) rfl
theorem tw_604 : Cond.lays "MicroMachineModel" "MicroMachineModel" "cycles" "I" ∈ tg := tg_of 641 (by decide +kernel) rfl
theorem tw_605 : Cond.soleField "MicroMachineModel" "cycles" ∈ tg := tg_of 642 (by decide +kernel) rfl
theorem tw_606 : Cond.lays "MicroMachineModel" "MicroMachineModel" "reads" "I" ∈ tg := tg_of 643 (by decide +kernel) rfl
theorem tw_607 : Cond.soleField "MicroMachineModel" "reads" ∈ tg := tg_of 644 (by decide +kernel) rfl
theorem tw_608 : Cond.lays "MicroMachineModel" "MicroMachineModel" "writes" "I" ∈ tg := tg_of 645 (by decide +kernel) rfl
theorem tw_609 : Cond.soleField "MicroMachineModel" "writes" ∈ tg := tg_of 646 (by decide +kernel) rfl
theorem tw_610 : Cond.lays "MicroMachineModel" "MicroMachineModel" "fetches" "I" ∈ tg := tg_of 647 (by decide +kernel) rfl
theorem tw_611 : Cond.soleField "MicroMachineModel" "fetches" ∈ tg := tg_of 648 (by decide +kernel) rfl
theorem tw_612 : Cond.lays "MicroMachineModel" "MicroMachineModel" "thrown" "I" ∈ tg := tg_of 649 (by decide +kernel) rfl
theorem tw_613 : Cond.soleField "MicroMachineModel" "thrown" ∈ tg := tg_of 650 (by decide +kernel) rfl
theorem tw_614 : Cond.lays "MicroMachineModel" "MicroMachineModel" "wordComes" "Z" ∈ tg := tg_of 651 (by decide +kernel) rfl
theorem tw_615 : Cond.soleField "MicroMachineModel" "wordComes" ∈ tg := tg_of 652 (by decide +kernel) rfl
theorem tw_616 : Cond.lays "MicroMachineModel" "MicroMachineModel" "byteComes" "Z" ∈ tg := tg_of 653 (by decide +kernel) rfl
theorem tw_617 : Cond.soleField "MicroMachineModel" "byteComes" ∈ tg := tg_of 654 (by decide +kernel) rfl
theorem tw_618 : Cond.lays "MicroMachineModel" "MicroMachineModel" "word" "I" ∈ tg := tg_of 655 (by decide +kernel) rfl
theorem tw_619 : Cond.soleField "MicroMachineModel" "word" ∈ tg := tg_of 656 (by decide +kernel) rfl
theorem tw_620 : Cond.lays "MicroMachineModel" "MicroMachineModel" "aByte" "I" ∈ tg := tg_of 657 (by decide +kernel) rfl
theorem tw_621 : Cond.soleField "MicroMachineModel" "aByte" ∈ tg := tg_of 658 (by decide +kernel) rfl
theorem tw_622 : Cond.superclass "MicroMachineModel" "java/lang/Object" ∈ tg := tg_of 659 (by decide +kernel) rfl
theorem tw_623 : Cond.arrayClass FieldType.boolean ∈ tg := tg_of 660 (by decide +kernel) rfl
theorem tw_624 : Cond.methodLink "MicroMachineLaw" 67 ({ cls := "MicroMachineModel", name := "thrown", desc := "()I" } : Jvm.MethodName) ∈ tg := tg_of 661 (by decide +kernel) rfl
theorem tw_625 : Cond.instanceMethod ({ cls := "MicroMachineModel", name := "thrown", desc := "()I" } : Jvm.MethodName) ∈ tg := tg_of 662 (by decide +kernel) rfl
theorem tw_626 : Cond.selects "MicroMachineModel" ({ cls := "MicroMachineModel", name := "thrown", desc := "()I" } : Jvm.MethodName) ({ cls := "MicroMachineModel", name := "thrown", desc := "()I" } : Jvm.MethodName) ∈ tg := tg_of 663 (by decide +kernel) rfl
theorem tw_628 : Cond.methodLink "MicroMachineLaw" 66 ({ cls := "MicroMachineModel", name := "type", desc := "(J)I" } : Jvm.MethodName) ∈ tg := tg_of 665 (by decide +kernel) rfl
theorem tw_629 : Cond.instanceMethod ({ cls := "MicroMachineModel", name := "type", desc := "(J)I" } : Jvm.MethodName) ∈ tg := tg_of 666 (by decide +kernel) rfl
theorem tw_630 : Cond.selects "MicroMachineModel" ({ cls := "MicroMachineModel", name := "type", desc := "(J)I" } : Jvm.MethodName) ({ cls := "MicroMachineModel", name := "type", desc := "(J)I" } : Jvm.MethodName) ∈ tg := tg_of 667 (by decide +kernel) rfl
theorem tw_632 : Cond.methodLink "MicroMachineLaw" 74 ({ cls := "MicroMachineModel", name := "word", desc := "(I)I" } : Jvm.MethodName) ∈ tg := tg_of 669 (by decide +kernel) rfl
theorem tw_633 : Cond.instanceMethod ({ cls := "MicroMachineModel", name := "word", desc := "(I)I" } : Jvm.MethodName) ∈ tg := tg_of 670 (by decide +kernel) rfl
theorem tw_634 : Cond.selects "MicroMachineModel" ({ cls := "MicroMachineModel", name := "word", desc := "(I)I" } : Jvm.MethodName) ({ cls := "MicroMachineModel", name := "word", desc := "(I)I" } : Jvm.MethodName) ∈ tg := tg_of 671 (by decide +kernel) rfl
theorem tw_636 : Cond.methodLink "MicroMachineModel" 105 ({ cls := "MicroMachineModel", name := "reads", desc := "()Z" } : Jvm.MethodName) ∈ tg := tg_of 673 (by decide +kernel) rfl
theorem tw_638 : Cond.instanceMethod ({ cls := "MicroMachineModel", name := "reads", desc := "()Z" } : Jvm.MethodName) ∈ tg := tg_of 675 (by decide +kernel) rfl
theorem tw_640 : Cond.methodLink "MicroMachineModel" 66 ({ cls := "MicroMachineModel", name := "look", desc := "()I" } : Jvm.MethodName) ∈ tg := tg_of 677 (by decide +kernel) rfl
theorem tw_642 : Cond.instanceMethod ({ cls := "MicroMachineModel", name := "look", desc := "()I" } : Jvm.MethodName) ∈ tg := tg_of 679 (by decide +kernel) rfl
theorem tw_644 : Cond.methodLink "MicroMachineModel" 70 ({ cls := "MicroMachineModel", name := "settable", desc := "(I)I" } : Jvm.MethodName) ∈ tg := tg_of 681 (by decide +kernel) rfl
theorem tw_646 : Cond.instanceMethod ({ cls := "MicroMachineModel", name := "settable", desc := "(I)I" } : Jvm.MethodName) ∈ tg := tg_of 683 (by decide +kernel) rfl
theorem tw_648 : Cond.methodLink "MicroMachineModel" 97 ({ cls := "MicroMachineModel", name := "setting", desc := "()Z" } : Jvm.MethodName) ∈ tg := tg_of 685 (by decide +kernel) rfl
theorem tw_650 : Cond.instanceMethod ({ cls := "MicroMachineModel", name := "setting", desc := "()Z" } : Jvm.MethodName) ∈ tg := tg_of 687 (by decide +kernel) rfl
theorem tw_652 : Cond.methodLink "MicroMachineModel" 77 ({ cls := "MicroMachineModel", name := "has", desc := "(I)Z" } : Jvm.MethodName) ∈ tg := tg_of 689 (by decide +kernel) rfl
theorem tw_654 : Cond.instanceMethod ({ cls := "MicroMachineModel", name := "has", desc := "(I)Z" } : Jvm.MethodName) ∈ tg := tg_of 691 (by decide +kernel) rfl
theorem tw_656 : Cond.methodLink "MicroMachineModel" 87 ({ cls := "MicroMachineModel", name := "value", desc := "()Z" } : Jvm.MethodName) ∈ tg := tg_of 693 (by decide +kernel) rfl
theorem tw_658 : Cond.instanceMethod ({ cls := "MicroMachineModel", name := "value", desc := "()Z" } : Jvm.MethodName) ∈ tg := tg_of 695 (by decide +kernel) rfl
theorem tw_660 : Cond.methodLink "MicroMachineModel" 81 ({ cls := "MicroMachineModel", name := "plain", desc := "(I)Z" } : Jvm.MethodName) ∈ tg := tg_of 697 (by decide +kernel) rfl
theorem tw_662 : Cond.instanceMethod ({ cls := "MicroMachineModel", name := "plain", desc := "(I)Z" } : Jvm.MethodName) ∈ tg := tg_of 699 (by decide +kernel) rfl
theorem tw_664 : Cond.methodLink "MicroMachineModel" 84 ({ cls := "MicroMachineModel", name := "bus", desc := "(I)Z" } : Jvm.MethodName) ∈ tg := tg_of 701 (by decide +kernel) rfl
theorem tw_666 : Cond.instanceMethod ({ cls := "MicroMachineModel", name := "bus", desc := "(I)Z" } : Jvm.MethodName) ∈ tg := tg_of 703 (by decide +kernel) rfl
theorem tw_668 : Cond.methodLink "MicroMachineModel" 74 ({ cls := "MicroMachineModel", name := "onBus", desc := "(I)I" } : Jvm.MethodName) ∈ tg := tg_of 705 (by decide +kernel) rfl
theorem tw_670 : Cond.instanceMethod ({ cls := "MicroMachineModel", name := "onBus", desc := "(I)I" } : Jvm.MethodName) ∈ tg := tg_of 707 (by decide +kernel) rfl
theorem tw_672 : Cond.methodLink "MicroMachineModel" 100 ({ cls := "MicroMachineModel", name := "asking", desc := "(I)Z" } : Jvm.MethodName) ∈ tg := tg_of 709 (by decide +kernel) rfl
theorem tw_674 : Cond.instanceMethod ({ cls := "MicroMachineModel", name := "asking", desc := "(I)Z" } : Jvm.MethodName) ∈ tg := tg_of 711 (by decide +kernel) rfl
theorem tw_676 : Cond.methodLink "MicroMachineModel" 103 ({ cls := "MicroMachineModel", name := "going", desc := "(I)Z" } : Jvm.MethodName) ∈ tg := tg_of 713 (by decide +kernel) rfl
theorem tw_678 : Cond.instanceMethod ({ cls := "MicroMachineModel", name := "going", desc := "(I)Z" } : Jvm.MethodName) ∈ tg := tg_of 715 (by decide +kernel) rfl
theorem tw_680 : Cond.methodLink "MicroMachineModel" 94 ({ cls := "MicroMachineModel", name := "number", desc := "()I" } : Jvm.MethodName) ∈ tg := tg_of 717 (by decide +kernel) rfl
theorem tw_682 : Cond.instanceMethod ({ cls := "MicroMachineModel", name := "number", desc := "()I" } : Jvm.MethodName) ∈ tg := tg_of 719 (by decide +kernel) rfl
theorem tw_684 : Cond.methodLink "MicroMachineLaw" 78 ({ cls := "MicroMachineModel", name := "erase", desc := "(I)V" } : Jvm.MethodName) ∈ tg := tg_of 721 (by decide +kernel) rfl
theorem tw_685 : Cond.instanceMethod ({ cls := "MicroMachineModel", name := "erase", desc := "(I)V" } : Jvm.MethodName) ∈ tg := tg_of 722 (by decide +kernel) rfl
theorem tw_686 : Cond.selects "MicroMachineModel" ({ cls := "MicroMachineModel", name := "erase", desc := "(I)V" } : Jvm.MethodName) ({ cls := "MicroMachineModel", name := "erase", desc := "(I)V" } : Jvm.MethodName) ∈ tg := tg_of 723 (by decide +kernel) rfl
theorem tw_688 : Cond.methodLink "MicroMachineLaw" 81 ({ cls := "MicroMachineModel", name := "begin", desc := "(I)V" } : Jvm.MethodName) ∈ tg := tg_of 725 (by decide +kernel) rfl
theorem tw_689 : Cond.instanceMethod ({ cls := "MicroMachineModel", name := "begin", desc := "(I)V" } : Jvm.MethodName) ∈ tg := tg_of 726 (by decide +kernel) rfl
theorem tw_690 : Cond.selects "MicroMachineModel" ({ cls := "MicroMachineModel", name := "begin", desc := "(I)V" } : Jvm.MethodName) ({ cls := "MicroMachineModel", name := "begin", desc := "(I)V" } : Jvm.MethodName) ∈ tg := tg_of 727 (by decide +kernel) rfl
theorem tw_692 : Cond.methodLink "MicroMachineLaw" 84 ({ cls := "MicroMachineModel", name := "run", desc := "(I)I" } : Jvm.MethodName) ∈ tg := tg_of 729 (by decide +kernel) rfl
theorem tw_693 : Cond.instanceMethod ({ cls := "MicroMachineModel", name := "run", desc := "(I)I" } : Jvm.MethodName) ∈ tg := tg_of 730 (by decide +kernel) rfl
theorem tw_694 : Cond.selects "MicroMachineModel" ({ cls := "MicroMachineModel", name := "run", desc := "(I)I" } : Jvm.MethodName) ({ cls := "MicroMachineModel", name := "run", desc := "(I)I" } : Jvm.MethodName) ∈ tg := tg_of 731 (by decide +kernel) rfl
theorem tw_696 : Cond.methodLink "MicroMachineModel" 142 ({ cls := "MicroMachineModel", name := "cycle", desc := "(I)V" } : Jvm.MethodName) ∈ tg := tg_of 733 (by decide +kernel) rfl
theorem tw_698 : Cond.instanceMethod ({ cls := "MicroMachineModel", name := "cycle", desc := "(I)V" } : Jvm.MethodName) ∈ tg := tg_of 735 (by decide +kernel) rfl
theorem tw_700 : Cond.methodLink "MicroMachineModel" 118 ({ cls := "MicroMachineModel", name := "result", desc := "(I)I" } : Jvm.MethodName) ∈ tg := tg_of 737 (by decide +kernel) rfl
theorem tw_702 : Cond.instanceMethod ({ cls := "MicroMachineModel", name := "result", desc := "(I)I" } : Jvm.MethodName) ∈ tg := tg_of 739 (by decide +kernel) rfl
theorem tw_704 : Cond.methodLink "MicroMachineModel" 121 ({ cls := "MicroMachineModel", name := "then", desc := "(III)I" } : Jvm.MethodName) ∈ tg := tg_of 741 (by decide +kernel) rfl
theorem tw_706 : Cond.instanceMethod ({ cls := "MicroMachineModel", name := "then", desc := "(III)I" } : Jvm.MethodName) ∈ tg := tg_of 743 (by decide +kernel) rfl
theorem tw_708 : Cond.methodLink "MicroMachineLaw" 88 ({ cls := "MicroMachineModel", name := "set", desc := "(II)V" } : Jvm.MethodName) ∈ tg := tg_of 745 (by decide +kernel) rfl
theorem tw_709 : Cond.instanceMethod ({ cls := "MicroMachineModel", name := "set", desc := "(II)V" } : Jvm.MethodName) ∈ tg := tg_of 746 (by decide +kernel) rfl
theorem tw_710 : Cond.selects "MicroMachineModel" ({ cls := "MicroMachineModel", name := "set", desc := "(II)V" } : Jvm.MethodName) ({ cls := "MicroMachineModel", name := "set", desc := "(II)V" } : Jvm.MethodName) ∈ tg := tg_of 747 (by decide +kernel) rfl
theorem tw_712 : Cond.methodLink "MicroMachineLaw" 91 ({ cls := "MicroMachineModel", name := "register", desc := "(I)I" } : Jvm.MethodName) ∈ tg := tg_of 749 (by decide +kernel) rfl
theorem tw_713 : Cond.instanceMethod ({ cls := "MicroMachineModel", name := "register", desc := "(I)I" } : Jvm.MethodName) ∈ tg := tg_of 750 (by decide +kernel) rfl
theorem tw_714 : Cond.selects "MicroMachineModel" ({ cls := "MicroMachineModel", name := "register", desc := "(I)I" } : Jvm.MethodName) ({ cls := "MicroMachineModel", name := "register", desc := "(I)I" } : Jvm.MethodName) ∈ tg := tg_of 751 (by decide +kernel) rfl
theorem tw_716 : Cond.methodLink "MicroMachineLaw" 94 ({ cls := "MicroMachineModel", name := "poke", desc := "(II)V" } : Jvm.MethodName) ∈ tg := tg_of 753 (by decide +kernel) rfl
theorem tw_717 : Cond.instanceMethod ({ cls := "MicroMachineModel", name := "poke", desc := "(II)V" } : Jvm.MethodName) ∈ tg := tg_of 754 (by decide +kernel) rfl
theorem tw_718 : Cond.selects "MicroMachineModel" ({ cls := "MicroMachineModel", name := "poke", desc := "(II)V" } : Jvm.MethodName) ({ cls := "MicroMachineModel", name := "poke", desc := "(II)V" } : Jvm.MethodName) ∈ tg := tg_of 755 (by decide +kernel) rfl
theorem tw_720 : Cond.methodLink "MicroMachineLaw" 97 ({ cls := "MicroMachineModel", name := "memory", desc := "(I)I" } : Jvm.MethodName) ∈ tg := tg_of 757 (by decide +kernel) rfl
theorem tw_721 : Cond.instanceMethod ({ cls := "MicroMachineModel", name := "memory", desc := "(I)I" } : Jvm.MethodName) ∈ tg := tg_of 758 (by decide +kernel) rfl
theorem tw_722 : Cond.selects "MicroMachineModel" ({ cls := "MicroMachineModel", name := "memory", desc := "(I)I" } : Jvm.MethodName) ({ cls := "MicroMachineModel", name := "memory", desc := "(I)I" } : Jvm.MethodName) ∈ tg := tg_of 759 (by decide +kernel) rfl
theorem tw_724 : Cond.methodLink "MicroMachineLaw" 100 ({ cls := "MicroMachineModel", name := "code", desc := "(II)V" } : Jvm.MethodName) ∈ tg := tg_of 761 (by decide +kernel) rfl
theorem tw_725 : Cond.instanceMethod ({ cls := "MicroMachineModel", name := "code", desc := "(II)V" } : Jvm.MethodName) ∈ tg := tg_of 762 (by decide +kernel) rfl
theorem tw_726 : Cond.selects "MicroMachineModel" ({ cls := "MicroMachineModel", name := "code", desc := "(II)V" } : Jvm.MethodName) ({ cls := "MicroMachineModel", name := "code", desc := "(II)V" } : Jvm.MethodName) ∈ tg := tg_of 763 (by decide +kernel) rfl
theorem tw_728 : Cond.methodLink "MicroMachineLaw" 104 ({ cls := "MicroMachineModel", name := "told", desc := "(II)I" } : Jvm.MethodName) ∈ tg := tg_of 765 (by decide +kernel) rfl
theorem tw_729 : Cond.instanceMethod ({ cls := "MicroMachineModel", name := "told", desc := "(II)I" } : Jvm.MethodName) ∈ tg := tg_of 766 (by decide +kernel) rfl
theorem tw_730 : Cond.selects "MicroMachineModel" ({ cls := "MicroMachineModel", name := "told", desc := "(II)I" } : Jvm.MethodName) ({ cls := "MicroMachineModel", name := "told", desc := "(II)I" } : Jvm.MethodName) ∈ tg := tg_of 767 (by decide +kernel) rfl
theorem tw_732 : Cond.methodLink "MicroMachineLaw" 108 ({ cls := "MicroMachineModel", name := "count", desc := "(I)I" } : Jvm.MethodName) ∈ tg := tg_of 769 (by decide +kernel) rfl
theorem tw_733 : Cond.instanceMethod ({ cls := "MicroMachineModel", name := "count", desc := "(I)I" } : Jvm.MethodName) ∈ tg := tg_of 770 (by decide +kernel) rfl
theorem tw_734 : Cond.selects "MicroMachineModel" ({ cls := "MicroMachineModel", name := "count", desc := "(I)I" } : Jvm.MethodName) ({ cls := "MicroMachineModel", name := "count", desc := "(I)I" } : Jvm.MethodName) ∈ tg := tg_of 771 (by decide +kernel) rfl
theorem tw_736 : Cond.constantLong "MicroMachineLaw" 59 (4294967295 : Int64) ∈ tg := tg_of 773 (by decide +kernel) rfl
theorem tw_737 : Cond.arrayClass FieldType.long ∈ tg := tg_of 774 (by decide +kernel) rfl
theorem tw_738 : Cond.sameMethod "java/lang/Throwable" "java/lang/Throwable" "fillInStackTrace" "(I)Ljava/lang/Throwable;" ∈ tg := tg_of 775 (by decide +kernel) rfl
theorem tw_739 : Cond.fieldLink "java/lang/String" 15 "java/lang/String" "coder" "B" ∈ tg := tg_of 776 (by decide +kernel) rfl
theorem tw_740 : Cond.fieldLink "java/lang/String" 9 "java/lang/String" "value" "[B" ∈ tg := tg_of 777 (by decide +kernel) rfl
theorem ts_0 : Cond.selects "java/lang/Throwable" ⟨"java/lang/Throwable", "fillInStackTrace", "(I)Ljava/lang/Throwable;"⟩ ⟨"java/lang/Throwable", "fillInStackTrace", "(I)Ljava/lang/Throwable;"⟩ ∈ tg := tg_of 0 (by decide +kernel) rfl
theorem ts_1 : Cond.selects "MicroMachine$WordReader" ⟨"MicroMachine$WordReader", "add", "(C)V"⟩ ⟨"MicroMachine$WordReader", "add", "(C)V"⟩ ∈ tg := tg_of 1 (by decide +kernel) rfl
theorem ts_2 : Cond.selects "MicroMachine$WordReader" ⟨"MicroMachine$WordReader", "read", "()LMicroMachine$Word;"⟩ ⟨"MicroMachine$WordReader", "read", "()LMicroMachine$Word;"⟩ ∈ tg := tg_of 2 (by decide +kernel) rfl
theorem ts_3 : Cond.selects "MicroMachine$WordReader" ⟨"MicroMachine$WordReader", "readIfThere", "(I)Z"⟩ ⟨"MicroMachine$WordReader", "readIfThere", "(I)Z"⟩ ∈ tg := tg_of 3 (by decide +kernel) rfl
theorem ts_4 : Cond.selects "MicroMachine$WordReader" ⟨"MicroMachine$WordReader", "readSetting", "()Z"⟩ ⟨"MicroMachine$WordReader", "readSetting", "()Z"⟩ ∈ tg := tg_of 4 (by decide +kernel) rfl
theorem ts_5 : Cond.selects "MicroMachine$WordReader" ⟨"MicroMachine$WordReader", "isAtTarget", "()Z"⟩ ⟨"MicroMachine$WordReader", "isAtTarget", "()Z"⟩ ∈ tg := tg_of 5 (by decide +kernel) rfl
theorem ts_6 : Cond.selects "MicroMachine$Word" ⟨"MicroMachine$Word", "sets", "(I)Z"⟩ ⟨"MicroMachine$Word", "sets", "(I)Z"⟩ ∈ tg := tg_of 6 (by decide +kernel) rfl
theorem ts_7 : Cond.selects "MicroMachine$WordReader" ⟨"MicroMachine$WordReader", "take", "(C)Z"⟩ ⟨"MicroMachine$WordReader", "take", "(C)Z"⟩ ∈ tg := tg_of 7 (by decide +kernel) rfl
theorem ts_8 : Cond.selects "MicroMachine$WordReader" ⟨"MicroMachine$WordReader", "readValue", "()Z"⟩ ⟨"MicroMachine$WordReader", "readValue", "()Z"⟩ ∈ tg := tg_of 8 (by decide +kernel) rfl
theorem ts_9 : Cond.selects "MicroMachine$WordReader" ⟨"MicroMachine$WordReader", "does", "(I)Z"⟩ ⟨"MicroMachine$WordReader", "does", "(I)Z"⟩ ∈ tg := tg_of 9 (by decide +kernel) rfl
theorem ts_10 : Cond.selects "MicroMachine$WordReader" ⟨"MicroMachine$WordReader", "takeSource", "()Z"⟩ ⟨"MicroMachine$WordReader", "takeSource", "()Z"⟩ ∈ tg := tg_of 10 (by decide +kernel) rfl
theorem ts_11 : Cond.selects "MicroMachine$WordReader" ⟨"MicroMachine$WordReader", "readBehindH", "()Z"⟩ ⟨"MicroMachine$WordReader", "readBehindH", "()Z"⟩ ∈ tg := tg_of 11 (by decide +kernel) rfl
theorem ts_12 : Cond.selects "MicroMachine$WordReader" ⟨"MicroMachine$WordReader", "readBehindSource", "()Z"⟩ ⟨"MicroMachine$WordReader", "readBehindSource", "()Z"⟩ ∈ tg := tg_of 12 (by decide +kernel) rfl
theorem ts_13 : Cond.selects "MicroMachine$WordReader" ⟨"MicroMachine$WordReader", "readGoing", "()Z"⟩ ⟨"MicroMachine$WordReader", "readGoing", "()Z"⟩ ∈ tg := tg_of 13 (by decide +kernel) rfl
theorem ts_14 : Cond.selects "MicroMachine$WordReader" ⟨"MicroMachine$WordReader", "takeNumber", "()I"⟩ ⟨"MicroMachine$WordReader", "takeNumber", "()I"⟩ ∈ tg := tg_of 14 (by decide +kernel) rfl
theorem ts_15 : Cond.selects "MicroMachine$WordReader" ⟨"MicroMachine$WordReader", "takeDigit", "(I)I"⟩ ⟨"MicroMachine$WordReader", "takeDigit", "(I)I"⟩ ∈ tg := tg_of 15 (by decide +kernel) rfl
theorem ts_16 : Cond.selects "MicroMachine" ⟨"MicroMachine", "doCycle", "(LMicroMachine$Word;)V"⟩ ⟨"MicroMachine", "doCycle", "(LMicroMachine$Word;)V"⟩ ∈ tg := tg_of 16 (by decide +kernel) rfl
theorem ts_17 : Cond.selects "MicroMachine" ⟨"MicroMachine", "valueOf", "(LMicroMachine$Word;)I"⟩ ⟨"MicroMachine", "valueOf", "(LMicroMachine$Word;)I"⟩ ∈ tg := tg_of 17 (by decide +kernel) rfl
theorem ts_18 : Cond.selects "MicroMachine" ⟨"MicroMachine", "busOf", "(I)I"⟩ ⟨"MicroMachine", "busOf", "(I)I"⟩ ∈ tg := tg_of 18 (by decide +kernel) rfl
theorem ts_19 : Cond.selects "MicroMachine" ⟨"MicroMachine", "askForWord", "(II)V"⟩ ⟨"MicroMachine", "askForWord", "(II)V"⟩ ∈ tg := tg_of 19 (by decide +kernel) rfl
theorem ts_20 : Cond.selects "MicroMachine" ⟨"MicroMachine", "askForByte", "(ZI)V"⟩ ⟨"MicroMachine", "askForByte", "(ZI)V"⟩ ∈ tg := tg_of 20 (by decide +kernel) rfl
theorem ts_21 : Cond.selects "MicroMachine" ⟨"MicroMachine", "wordBehind", "(LMicroMachine$Word;I)I"⟩ ⟨"MicroMachine", "wordBehind", "(LMicroMachine$Word;I)I"⟩ ∈ tg := tg_of 21 (by decide +kernel) rfl
theorem ts_22 : Cond.selects "MicroMachineModel" ⟨"MicroMachineModel", "reads", "()Z"⟩ ⟨"MicroMachineModel", "reads", "()Z"⟩ ∈ tg := tg_of 22 (by decide +kernel) rfl
theorem ts_23 : Cond.selects "MicroMachineModel" ⟨"MicroMachineModel", "look", "()I"⟩ ⟨"MicroMachineModel", "look", "()I"⟩ ∈ tg := tg_of 23 (by decide +kernel) rfl
theorem ts_24 : Cond.selects "MicroMachineModel" ⟨"MicroMachineModel", "settable", "(I)I"⟩ ⟨"MicroMachineModel", "settable", "(I)I"⟩ ∈ tg := tg_of 24 (by decide +kernel) rfl
theorem ts_25 : Cond.selects "MicroMachineModel" ⟨"MicroMachineModel", "setting", "()Z"⟩ ⟨"MicroMachineModel", "setting", "()Z"⟩ ∈ tg := tg_of 25 (by decide +kernel) rfl
theorem ts_26 : Cond.selects "MicroMachineModel" ⟨"MicroMachineModel", "has", "(I)Z"⟩ ⟨"MicroMachineModel", "has", "(I)Z"⟩ ∈ tg := tg_of 26 (by decide +kernel) rfl
theorem ts_27 : Cond.selects "MicroMachineModel" ⟨"MicroMachineModel", "value", "()Z"⟩ ⟨"MicroMachineModel", "value", "()Z"⟩ ∈ tg := tg_of 27 (by decide +kernel) rfl
theorem ts_28 : Cond.selects "MicroMachineModel" ⟨"MicroMachineModel", "plain", "(I)Z"⟩ ⟨"MicroMachineModel", "plain", "(I)Z"⟩ ∈ tg := tg_of 28 (by decide +kernel) rfl
theorem ts_29 : Cond.selects "MicroMachineModel" ⟨"MicroMachineModel", "bus", "(I)Z"⟩ ⟨"MicroMachineModel", "bus", "(I)Z"⟩ ∈ tg := tg_of 29 (by decide +kernel) rfl
theorem ts_30 : Cond.selects "MicroMachineModel" ⟨"MicroMachineModel", "onBus", "(I)I"⟩ ⟨"MicroMachineModel", "onBus", "(I)I"⟩ ∈ tg := tg_of 30 (by decide +kernel) rfl
theorem ts_31 : Cond.selects "MicroMachineModel" ⟨"MicroMachineModel", "asking", "(I)Z"⟩ ⟨"MicroMachineModel", "asking", "(I)Z"⟩ ∈ tg := tg_of 31 (by decide +kernel) rfl
theorem ts_32 : Cond.selects "MicroMachineModel" ⟨"MicroMachineModel", "going", "(I)Z"⟩ ⟨"MicroMachineModel", "going", "(I)Z"⟩ ∈ tg := tg_of 32 (by decide +kernel) rfl
theorem ts_33 : Cond.selects "MicroMachineModel" ⟨"MicroMachineModel", "number", "()I"⟩ ⟨"MicroMachineModel", "number", "()I"⟩ ∈ tg := tg_of 33 (by decide +kernel) rfl
theorem ts_34 : Cond.selects "MicroMachineModel" ⟨"MicroMachineModel", "cycle", "(I)V"⟩ ⟨"MicroMachineModel", "cycle", "(I)V"⟩ ∈ tg := tg_of 34 (by decide +kernel) rfl
theorem ts_35 : Cond.selects "MicroMachineModel" ⟨"MicroMachineModel", "result", "(I)I"⟩ ⟨"MicroMachineModel", "result", "(I)I"⟩ ∈ tg := tg_of 35 (by decide +kernel) rfl
theorem ts_36 : Cond.selects "MicroMachineModel" ⟨"MicroMachineModel", "then", "(III)I"⟩ ⟨"MicroMachineModel", "then", "(III)I"⟩ ∈ tg := tg_of 36 (by decide +kernel) rfl
theorem tn_28 : Cond.methodLinkNest "MicroMachine" 9 ({ cls := "MicroMachine$WordReader", name := "<init>", desc := "()V" } : Jvm.MethodName) "MicroMachine" ∈ lw_tbl := List.mem_of_getElem? (i := 65) (by decide +kernel)
theorem tn_34 : Cond.methodLinkNest "MicroMachine$WordReader" 17 ({ cls := "MicroMachine$Word", name := "<init>", desc := "()V" } : Jvm.MethodName) "MicroMachine" ∈ lw_tbl := List.mem_of_getElem? (i := 71) (by decide +kernel)
theorem tn_38 : Cond.fieldLinkNest "MicroMachine$WordReader" 33 "MicroMachine$Word" "parts" "I" "MicroMachine" ∈ lw_tbl := List.mem_of_getElem? (i := 75) (by decide +kernel)
theorem tn_39 : Cond.fieldLinkNest "MicroMachine" 67 "MicroMachine$Word" "parts" "I" "MicroMachine" ∈ lw_tbl := List.mem_of_getElem? (i := 76) (by decide +kernel)
theorem tn_41 : Cond.fieldLinkNest "MicroMachine$WordReader" 57 "MicroMachine$Word" "targets" "I" "MicroMachine" ∈ lw_tbl := List.mem_of_getElem? (i := 78) (by decide +kernel)
theorem tn_42 : Cond.fieldLinkNest "MicroMachine" 87 "MicroMachine$Word" "targets" "I" "MicroMachine" ∈ lw_tbl := List.mem_of_getElem? (i := 79) (by decide +kernel)
theorem tn_44 : Cond.fieldLinkNest "MicroMachine$WordReader" 89 "MicroMachine$Word" "operation" "I" "MicroMachine" ∈ lw_tbl := List.mem_of_getElem? (i := 81) (by decide +kernel)
theorem tn_45 : Cond.fieldLinkNest "MicroMachine" 157 "MicroMachine$Word" "operation" "I" "MicroMachine" ∈ lw_tbl := List.mem_of_getElem? (i := 82) (by decide +kernel)
theorem tn_46 : Cond.fieldLinkNest "MicroMachine$WordReader" 110 "MicroMachine$Word" "source" "I" "MicroMachine" ∈ lw_tbl := List.mem_of_getElem? (i := 83) (by decide +kernel)
theorem tn_47 : Cond.fieldLinkNest "MicroMachine" 150 "MicroMachine$Word" "source" "I" "MicroMachine" ∈ lw_tbl := List.mem_of_getElem? (i := 84) (by decide +kernel)
theorem tn_48 : Cond.fieldLinkNest "MicroMachine$WordReader" 71 "MicroMachine$Word" "shift" "I" "MicroMachine" ∈ lw_tbl := List.mem_of_getElem? (i := 85) (by decide +kernel)
theorem tn_49 : Cond.fieldLinkNest "MicroMachine" 105 "MicroMachine$Word" "shift" "I" "MicroMachine" ∈ lw_tbl := List.mem_of_getElem? (i := 86) (by decide +kernel)
theorem tn_50 : Cond.fieldLinkNest "MicroMachine$WordReader" 48 "MicroMachine$Word" "asksWord" "I" "MicroMachine" ∈ lw_tbl := List.mem_of_getElem? (i := 87) (by decide +kernel)
theorem tn_51 : Cond.fieldLinkNest "MicroMachine" 90 "MicroMachine$Word" "asksWord" "I" "MicroMachine" ∈ lw_tbl := List.mem_of_getElem? (i := 88) (by decide +kernel)
theorem tn_52 : Cond.fieldLinkNest "MicroMachine$WordReader" 44 "MicroMachine$Word" "asksByte" "Z" "MicroMachine" ∈ lw_tbl := List.mem_of_getElem? (i := 89) (by decide +kernel)
theorem tn_53 : Cond.fieldLinkNest "MicroMachine" 93 "MicroMachine$Word" "asksByte" "Z" "MicroMachine" ∈ lw_tbl := List.mem_of_getElem? (i := 90) (by decide +kernel)
theorem tn_54 : Cond.fieldLinkNest "MicroMachine$WordReader" 94 "MicroMachine$Word" "going" "I" "MicroMachine" ∈ lw_tbl := List.mem_of_getElem? (i := 91) (by decide +kernel)
theorem tn_55 : Cond.fieldLinkNest "MicroMachine" 96 "MicroMachine$Word" "going" "I" "MicroMachine" ∈ lw_tbl := List.mem_of_getElem? (i := 92) (by decide +kernel)
theorem tn_57 : Cond.fieldLinkNest "MicroMachine$WordReader" 101 "MicroMachine$Word" "first" "I" "MicroMachine" ∈ lw_tbl := List.mem_of_getElem? (i := 94) (by decide +kernel)
theorem tn_58 : Cond.fieldLinkNest "MicroMachine" 99 "MicroMachine$Word" "first" "I" "MicroMachine" ∈ lw_tbl := List.mem_of_getElem? (i := 95) (by decide +kernel)
theorem tn_60 : Cond.fieldLinkNest "MicroMachine$WordReader" 104 "MicroMachine$Word" "second" "I" "MicroMachine" ∈ lw_tbl := List.mem_of_getElem? (i := 97) (by decide +kernel)
theorem tn_61 : Cond.fieldLinkNest "MicroMachine" 102 "MicroMachine$Word" "second" "I" "MicroMachine" ∈ lw_tbl := List.mem_of_getElem? (i := 98) (by decide +kernel)
theorem tn_86 : Cond.fieldLinkNest "MicroMachine" 43 "MicroMachine$WordReader" "length" "I" "MicroMachine" ∈ lw_tbl := List.mem_of_getElem? (i := 123) (by decide +kernel)
theorem tn_88 : Cond.fieldLinkNest "MicroMachine" 61 "MicroMachine$WordReader" "at" "I" "MicroMachine" ∈ lw_tbl := List.mem_of_getElem? (i := 125) (by decide +kernel)
theorem tn_246 : Cond.methodLinkNest "MicroMachine" 49 ({ cls := "MicroMachine$WordReader", name := "add", desc := "(C)V" } : Jvm.MethodName) "MicroMachine" ∈ lw_tbl := List.mem_of_getElem? (i := 283) (by decide +kernel)
theorem tn_263 : Cond.methodLinkNest "MicroMachine" 57 ({ cls := "MicroMachine$WordReader", name := "read", desc := "()LMicroMachine$Word;" } : Jvm.MethodName) "MicroMachine" ∈ lw_tbl := List.mem_of_getElem? (i := 300) (by decide +kernel)
theorem tn_366 : Cond.methodLinkNest "MicroMachine$WordReader" 74 ({ cls := "MicroMachine$Word", name := "sets", desc := "(I)Z" } : Jvm.MethodName) "MicroMachine" ∈ lw_tbl := List.mem_of_getElem? (i := 403) (by decide +kernel)
theorem tn_461 : Cond.methodLinkNest "MicroMachine" 132 ({ cls := "MicroMachine$Word", name := "sets", desc := "(I)Z" } : Jvm.MethodName) "MicroMachine" ∈ lw_tbl := List.mem_of_getElem? (i := 498) (by decide +kernel)
