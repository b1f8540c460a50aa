/-! WHAT THE CLAIM GIVES of the start (by program: places of the atoms of given_1 and narrow_1) -/
theorem fl_83 : Jvm.Cond.exactly (Jvm.Term.string "RunSayer$Rule" (28 : Nat)) "java/lang/String" ∈ flatC (Jvm.Cond.and given_1 narrow_1) := List.mem_of_getElem? (i := 83) rfl
theorem fl_84 : Jvm.Cond.eq (Jvm.Term.field (Jvm.Term.string "RunSayer$Rule" (28 : Nat)) "java/lang/String" "coder" "B") (Jvm.Term.int (0 : Int32)) ∈ flatC (Jvm.Cond.and given_1 narrow_1) := List.mem_of_getElem? (i := 84) rfl
theorem fl_85 : Jvm.Cond.arrayOf (Jvm.Term.field (Jvm.Term.string "RunSayer$Rule" (28 : Nat)) "java/lang/String" "value" "[B") Jvm.ClassFile.FieldType.byte ∈ flatC (Jvm.Cond.and given_1 narrow_1) := List.mem_of_getElem? (i := 85) rfl
theorem fl_86 : Jvm.Cond.eq (Jvm.Term.length (Jvm.Term.field (Jvm.Term.string "RunSayer$Rule" (28 : Nat)) "java/lang/String" "value" "[B")) (Jvm.Term.int (5 : Int32)) ∈ flatC (Jvm.Cond.and given_1 narrow_1) := List.mem_of_getElem? (i := 86) rfl
theorem fl_87 : Jvm.Cond.eq (Jvm.Term.elem (Jvm.Term.field (Jvm.Term.string "RunSayer$Rule" (28 : Nat)) "java/lang/String" "value" "[B") (Jvm.Term.int (0 : Int32))) (Jvm.Term.int (116 : Int32)) ∈ flatC (Jvm.Cond.and given_1 narrow_1) := List.mem_of_getElem? (i := 87) rfl
theorem fl_88 : Jvm.Cond.eq (Jvm.Term.elem (Jvm.Term.field (Jvm.Term.string "RunSayer$Rule" (28 : Nat)) "java/lang/String" "value" "[B") (Jvm.Term.int (1 : Int32))) (Jvm.Term.int (97 : Int32)) ∈ flatC (Jvm.Cond.and given_1 narrow_1) := List.mem_of_getElem? (i := 88) rfl
theorem fl_89 : Jvm.Cond.eq (Jvm.Term.elem (Jvm.Term.field (Jvm.Term.string "RunSayer$Rule" (28 : Nat)) "java/lang/String" "value" "[B") (Jvm.Term.int (2 : Int32))) (Jvm.Term.int (107 : Int32)) ∈ flatC (Jvm.Cond.and given_1 narrow_1) := List.mem_of_getElem? (i := 89) rfl
theorem fl_90 : Jvm.Cond.eq (Jvm.Term.elem (Jvm.Term.field (Jvm.Term.string "RunSayer$Rule" (28 : Nat)) "java/lang/String" "value" "[B") (Jvm.Term.int (3 : Int32))) (Jvm.Term.int (101 : Int32)) ∈ flatC (Jvm.Cond.and given_1 narrow_1) := List.mem_of_getElem? (i := 90) rfl
theorem fl_91 : Jvm.Cond.eq (Jvm.Term.elem (Jvm.Term.field (Jvm.Term.string "RunSayer$Rule" (28 : Nat)) "java/lang/String" "value" "[B") (Jvm.Term.int (4 : Int32))) (Jvm.Term.int (32 : Int32)) ∈ flatC (Jvm.Cond.and given_1 narrow_1) := List.mem_of_getElem? (i := 91) rfl
theorem fl_92 : Jvm.Cond.exactly (Jvm.Term.string "RunSayer$Rule" (45 : Nat)) "java/lang/String" ∈ flatC (Jvm.Cond.and given_1 narrow_1) := List.mem_of_getElem? (i := 92) rfl
theorem fl_93 : Jvm.Cond.eq (Jvm.Term.field (Jvm.Term.string "RunSayer$Rule" (45 : Nat)) "java/lang/String" "coder" "B") (Jvm.Term.int (0 : Int32)) ∈ flatC (Jvm.Cond.and given_1 narrow_1) := List.mem_of_getElem? (i := 93) rfl
theorem fl_94 : Jvm.Cond.arrayOf (Jvm.Term.field (Jvm.Term.string "RunSayer$Rule" (45 : Nat)) "java/lang/String" "value" "[B") Jvm.ClassFile.FieldType.byte ∈ flatC (Jvm.Cond.and given_1 narrow_1) := List.mem_of_getElem? (i := 94) rfl
theorem fl_95 : Jvm.Cond.eq (Jvm.Term.length (Jvm.Term.field (Jvm.Term.string "RunSayer$Rule" (45 : Nat)) "java/lang/String" "value" "[B")) (Jvm.Term.int (4 : Int32)) ∈ flatC (Jvm.Cond.and given_1 narrow_1) := List.mem_of_getElem? (i := 95) rfl
theorem fl_96 : Jvm.Cond.eq (Jvm.Term.elem (Jvm.Term.field (Jvm.Term.string "RunSayer$Rule" (45 : Nat)) "java/lang/String" "value" "[B") (Jvm.Term.int (0 : Int32))) (Jvm.Term.int (32 : Int32)) ∈ flatC (Jvm.Cond.and given_1 narrow_1) := List.mem_of_getElem? (i := 96) rfl
theorem fl_97 : Jvm.Cond.eq (Jvm.Term.elem (Jvm.Term.field (Jvm.Term.string "RunSayer$Rule" (45 : Nat)) "java/lang/String" "value" "[B") (Jvm.Term.int (1 : Int32))) (Jvm.Term.int (105 : Int32)) ∈ flatC (Jvm.Cond.and given_1 narrow_1) := List.mem_of_getElem? (i := 97) rfl
theorem fl_98 : Jvm.Cond.eq (Jvm.Term.elem (Jvm.Term.field (Jvm.Term.string "RunSayer$Rule" (45 : Nat)) "java/lang/String" "value" "[B") (Jvm.Term.int (2 : Int32))) (Jvm.Term.int (102 : Int32)) ∈ flatC (Jvm.Cond.and given_1 narrow_1) := List.mem_of_getElem? (i := 98) rfl
theorem fl_99 : Jvm.Cond.eq (Jvm.Term.elem (Jvm.Term.field (Jvm.Term.string "RunSayer$Rule" (45 : Nat)) "java/lang/String" "value" "[B") (Jvm.Term.int (3 : Int32))) (Jvm.Term.int (32 : Int32)) ∈ flatC (Jvm.Cond.and given_1 narrow_1) := List.mem_of_getElem? (i := 99) rfl
theorem fl_101 : Jvm.Cond.exactly (Jvm.Term.string "RunSayer$Exam" (16 : Nat)) "java/lang/String" ∈ flatC (Jvm.Cond.and given_1 narrow_1) := List.mem_of_getElem? (i := 101) rfl
theorem fl_102 : Jvm.Cond.eq (Jvm.Term.field (Jvm.Term.string "RunSayer$Exam" (16 : Nat)) "java/lang/String" "coder" "B") (Jvm.Term.int (0 : Int32)) ∈ flatC (Jvm.Cond.and given_1 narrow_1) := List.mem_of_getElem? (i := 102) rfl
theorem fl_103 : Jvm.Cond.arrayOf (Jvm.Term.field (Jvm.Term.string "RunSayer$Exam" (16 : Nat)) "java/lang/String" "value" "[B") Jvm.ClassFile.FieldType.byte ∈ flatC (Jvm.Cond.and given_1 narrow_1) := List.mem_of_getElem? (i := 103) rfl
theorem fl_104 : Jvm.Cond.eq (Jvm.Term.length (Jvm.Term.field (Jvm.Term.string "RunSayer$Exam" (16 : Nat)) "java/lang/String" "value" "[B")) (Jvm.Term.int (4 : Int32)) ∈ flatC (Jvm.Cond.and given_1 narrow_1) := List.mem_of_getElem? (i := 104) rfl
theorem fl_105 : Jvm.Cond.eq (Jvm.Term.elem (Jvm.Term.field (Jvm.Term.string "RunSayer$Exam" (16 : Nat)) "java/lang/String" "value" "[B") (Jvm.Term.int (0 : Int32))) (Jvm.Term.int (115 : Int32)) ∈ flatC (Jvm.Cond.and given_1 narrow_1) := List.mem_of_getElem? (i := 105) rfl
theorem fl_106 : Jvm.Cond.eq (Jvm.Term.elem (Jvm.Term.field (Jvm.Term.string "RunSayer$Exam" (16 : Nat)) "java/lang/String" "value" "[B") (Jvm.Term.int (1 : Int32))) (Jvm.Term.int (97 : Int32)) ∈ flatC (Jvm.Cond.and given_1 narrow_1) := List.mem_of_getElem? (i := 106) rfl
theorem fl_107 : Jvm.Cond.eq (Jvm.Term.elem (Jvm.Term.field (Jvm.Term.string "RunSayer$Exam" (16 : Nat)) "java/lang/String" "value" "[B") (Jvm.Term.int (2 : Int32))) (Jvm.Term.int (105 : Int32)) ∈ flatC (Jvm.Cond.and given_1 narrow_1) := List.mem_of_getElem? (i := 107) rfl
theorem fl_108 : Jvm.Cond.eq (Jvm.Term.elem (Jvm.Term.field (Jvm.Term.string "RunSayer$Exam" (16 : Nat)) "java/lang/String" "value" "[B") (Jvm.Term.int (3 : Int32))) (Jvm.Term.int (100 : Int32)) ∈ flatC (Jvm.Cond.and given_1 narrow_1) := List.mem_of_getElem? (i := 108) rfl
theorem fl_111 : Jvm.Cond.exactly (Jvm.Term.string "RunSayer$Exam" (17 : Nat)) "java/lang/String" ∈ flatC (Jvm.Cond.and given_1 narrow_1) := List.mem_of_getElem? (i := 111) rfl
theorem fl_112 : Jvm.Cond.eq (Jvm.Term.field (Jvm.Term.string "RunSayer$Exam" (17 : Nat)) "java/lang/String" "coder" "B") (Jvm.Term.int (0 : Int32)) ∈ flatC (Jvm.Cond.and given_1 narrow_1) := List.mem_of_getElem? (i := 112) rfl
theorem fl_113 : Jvm.Cond.arrayOf (Jvm.Term.field (Jvm.Term.string "RunSayer$Exam" (17 : Nat)) "java/lang/String" "value" "[B") Jvm.ClassFile.FieldType.byte ∈ flatC (Jvm.Cond.and given_1 narrow_1) := List.mem_of_getElem? (i := 113) rfl
theorem fl_114 : Jvm.Cond.eq (Jvm.Term.length (Jvm.Term.field (Jvm.Term.string "RunSayer$Exam" (17 : Nat)) "java/lang/String" "value" "[B")) (Jvm.Term.int (5 : Int32)) ∈ flatC (Jvm.Cond.and given_1 narrow_1) := List.mem_of_getElem? (i := 114) rfl
theorem fl_115 : Jvm.Cond.eq (Jvm.Term.elem (Jvm.Term.field (Jvm.Term.string "RunSayer$Exam" (17 : Nat)) "java/lang/String" "value" "[B") (Jvm.Term.int (0 : Int32))) (Jvm.Term.int (119 : Int32)) ∈ flatC (Jvm.Cond.and given_1 narrow_1) := List.mem_of_getElem? (i := 115) rfl
theorem fl_116 : Jvm.Cond.eq (Jvm.Term.elem (Jvm.Term.field (Jvm.Term.string "RunSayer$Exam" (17 : Nat)) "java/lang/String" "value" "[B") (Jvm.Term.int (1 : Int32))) (Jvm.Term.int (114 : Int32)) ∈ flatC (Jvm.Cond.and given_1 narrow_1) := List.mem_of_getElem? (i := 116) rfl
theorem fl_117 : Jvm.Cond.eq (Jvm.Term.elem (Jvm.Term.field (Jvm.Term.string "RunSayer$Exam" (17 : Nat)) "java/lang/String" "value" "[B") (Jvm.Term.int (2 : Int32))) (Jvm.Term.int (111 : Int32)) ∈ flatC (Jvm.Cond.and given_1 narrow_1) := List.mem_of_getElem? (i := 117) rfl
theorem fl_118 : Jvm.Cond.eq (Jvm.Term.elem (Jvm.Term.field (Jvm.Term.string "RunSayer$Exam" (17 : Nat)) "java/lang/String" "value" "[B") (Jvm.Term.int (3 : Int32))) (Jvm.Term.int (110 : Int32)) ∈ flatC (Jvm.Cond.and given_1 narrow_1) := List.mem_of_getElem? (i := 118) rfl
theorem fl_119 : Jvm.Cond.eq (Jvm.Term.elem (Jvm.Term.field (Jvm.Term.string "RunSayer$Exam" (17 : Nat)) "java/lang/String" "value" "[B") (Jvm.Term.int (4 : Int32))) (Jvm.Term.int (103 : Int32)) ∈ flatC (Jvm.Cond.and given_1 narrow_1) := List.mem_of_getElem? (i := 119) rfl
theorem fl_123 : Jvm.Cond.exactly (Jvm.Term.string "RunSayer$Exam" (19 : Nat)) "java/lang/String" ∈ flatC (Jvm.Cond.and given_1 narrow_1) := List.mem_of_getElem? (i := 123) rfl
theorem fl_124 : Jvm.Cond.eq (Jvm.Term.field (Jvm.Term.string "RunSayer$Exam" (19 : Nat)) "java/lang/String" "coder" "B") (Jvm.Term.int (0 : Int32)) ∈ flatC (Jvm.Cond.and given_1 narrow_1) := List.mem_of_getElem? (i := 124) rfl
theorem fl_125 : Jvm.Cond.arrayOf (Jvm.Term.field (Jvm.Term.string "RunSayer$Exam" (19 : Nat)) "java/lang/String" "value" "[B") Jvm.ClassFile.FieldType.byte ∈ flatC (Jvm.Cond.and given_1 narrow_1) := List.mem_of_getElem? (i := 125) rfl
theorem fl_126 : Jvm.Cond.eq (Jvm.Term.length (Jvm.Term.field (Jvm.Term.string "RunSayer$Exam" (19 : Nat)) "java/lang/String" "value" "[B")) (Jvm.Term.int (4 : Int32)) ∈ flatC (Jvm.Cond.and given_1 narrow_1) := List.mem_of_getElem? (i := 126) rfl
theorem fl_127 : Jvm.Cond.eq (Jvm.Term.elem (Jvm.Term.field (Jvm.Term.string "RunSayer$Exam" (19 : Nat)) "java/lang/String" "value" "[B") (Jvm.Term.int (0 : Int32))) (Jvm.Term.int (111 : Int32)) ∈ flatC (Jvm.Cond.and given_1 narrow_1) := List.mem_of_getElem? (i := 127) rfl
theorem fl_128 : Jvm.Cond.eq (Jvm.Term.elem (Jvm.Term.field (Jvm.Term.string "RunSayer$Exam" (19 : Nat)) "java/lang/String" "value" "[B") (Jvm.Term.int (1 : Int32))) (Jvm.Term.int (118 : Int32)) ∈ flatC (Jvm.Cond.and given_1 narrow_1) := List.mem_of_getElem? (i := 128) rfl
theorem fl_129 : Jvm.Cond.eq (Jvm.Term.elem (Jvm.Term.field (Jvm.Term.string "RunSayer$Exam" (19 : Nat)) "java/lang/String" "value" "[B") (Jvm.Term.int (2 : Int32))) (Jvm.Term.int (101 : Int32)) ∈ flatC (Jvm.Cond.and given_1 narrow_1) := List.mem_of_getElem? (i := 129) rfl
theorem fl_130 : Jvm.Cond.eq (Jvm.Term.elem (Jvm.Term.field (Jvm.Term.string "RunSayer$Exam" (19 : Nat)) "java/lang/String" "value" "[B") (Jvm.Term.int (3 : Int32))) (Jvm.Term.int (114 : Int32)) ∈ flatC (Jvm.Cond.and given_1 narrow_1) := List.mem_of_getElem? (i := 130) rfl
theorem fl_135 : Jvm.Cond.exactly (Jvm.Term.string "RunSayer$Exam" (21 : Nat)) "java/lang/String" ∈ flatC (Jvm.Cond.and given_1 narrow_1) := List.mem_of_getElem? (i := 135) rfl
theorem fl_136 : Jvm.Cond.eq (Jvm.Term.field (Jvm.Term.string "RunSayer$Exam" (21 : Nat)) "java/lang/String" "coder" "B") (Jvm.Term.int (0 : Int32)) ∈ flatC (Jvm.Cond.and given_1 narrow_1) := List.mem_of_getElem? (i := 136) rfl
theorem fl_137 : Jvm.Cond.arrayOf (Jvm.Term.field (Jvm.Term.string "RunSayer$Exam" (21 : Nat)) "java/lang/String" "value" "[B") Jvm.ClassFile.FieldType.byte ∈ flatC (Jvm.Cond.and given_1 narrow_1) := List.mem_of_getElem? (i := 137) rfl
theorem fl_138 : Jvm.Cond.eq (Jvm.Term.length (Jvm.Term.field (Jvm.Term.string "RunSayer$Exam" (21 : Nat)) "java/lang/String" "value" "[B")) (Jvm.Term.int (5 : Int32)) ∈ flatC (Jvm.Cond.and given_1 narrow_1) := List.mem_of_getElem? (i := 138) rfl
theorem fl_139 : Jvm.Cond.eq (Jvm.Term.elem (Jvm.Term.field (Jvm.Term.string "RunSayer$Exam" (21 : Nat)) "java/lang/String" "value" "[B") (Jvm.Term.int (0 : Int32))) (Jvm.Term.int (116 : Int32)) ∈ flatC (Jvm.Cond.and given_1 narrow_1) := List.mem_of_getElem? (i := 139) rfl
theorem fl_140 : Jvm.Cond.eq (Jvm.Term.elem (Jvm.Term.field (Jvm.Term.string "RunSayer$Exam" (21 : Nat)) "java/lang/String" "value" "[B") (Jvm.Term.int (1 : Int32))) (Jvm.Term.int (117 : Int32)) ∈ flatC (Jvm.Cond.and given_1 narrow_1) := List.mem_of_getElem? (i := 140) rfl
theorem fl_141 : Jvm.Cond.eq (Jvm.Term.elem (Jvm.Term.field (Jvm.Term.string "RunSayer$Exam" (21 : Nat)) "java/lang/String" "value" "[B") (Jvm.Term.int (2 : Int32))) (Jvm.Term.int (114 : Int32)) ∈ flatC (Jvm.Cond.and given_1 narrow_1) := List.mem_of_getElem? (i := 141) rfl
theorem fl_142 : Jvm.Cond.eq (Jvm.Term.elem (Jvm.Term.field (Jvm.Term.string "RunSayer$Exam" (21 : Nat)) "java/lang/String" "value" "[B") (Jvm.Term.int (3 : Int32))) (Jvm.Term.int (110 : Int32)) ∈ flatC (Jvm.Cond.and given_1 narrow_1) := List.mem_of_getElem? (i := 142) rfl
theorem fl_143 : Jvm.Cond.eq (Jvm.Term.elem (Jvm.Term.field (Jvm.Term.string "RunSayer$Exam" (21 : Nat)) "java/lang/String" "value" "[B") (Jvm.Term.int (4 : Int32))) (Jvm.Term.int (115 : Int32)) ∈ flatC (Jvm.Cond.and given_1 narrow_1) := List.mem_of_getElem? (i := 143) rfl
theorem fl_149 : Jvm.Cond.exactly (Jvm.Term.string "RunSayer$Exam" (23 : Nat)) "java/lang/String" ∈ flatC (Jvm.Cond.and given_1 narrow_1) := List.mem_of_getElem? (i := 149) rfl
theorem fl_150 : Jvm.Cond.eq (Jvm.Term.field (Jvm.Term.string "RunSayer$Exam" (23 : Nat)) "java/lang/String" "coder" "B") (Jvm.Term.int (0 : Int32)) ∈ flatC (Jvm.Cond.and given_1 narrow_1) := List.mem_of_getElem? (i := 150) rfl
theorem fl_151 : Jvm.Cond.arrayOf (Jvm.Term.field (Jvm.Term.string "RunSayer$Exam" (23 : Nat)) "java/lang/String" "value" "[B") Jvm.ClassFile.FieldType.byte ∈ flatC (Jvm.Cond.and given_1 narrow_1) := List.mem_of_getElem? (i := 151) rfl
theorem fl_152 : Jvm.Cond.eq (Jvm.Term.length (Jvm.Term.field (Jvm.Term.string "RunSayer$Exam" (23 : Nat)) "java/lang/String" "value" "[B")) (Jvm.Term.int (4 : Int32)) ∈ flatC (Jvm.Cond.and given_1 narrow_1) := List.mem_of_getElem? (i := 152) rfl
theorem fl_153 : Jvm.Cond.eq (Jvm.Term.elem (Jvm.Term.field (Jvm.Term.string "RunSayer$Exam" (23 : Nat)) "java/lang/String" "value" "[B") (Jvm.Term.int (0 : Int32))) (Jvm.Term.int (102 : Int32)) ∈ flatC (Jvm.Cond.and given_1 narrow_1) := List.mem_of_getElem? (i := 153) rfl
theorem fl_154 : Jvm.Cond.eq (Jvm.Term.elem (Jvm.Term.field (Jvm.Term.string "RunSayer$Exam" (23 : Nat)) "java/lang/String" "value" "[B") (Jvm.Term.int (1 : Int32))) (Jvm.Term.int (101 : Int32)) ∈ flatC (Jvm.Cond.and given_1 narrow_1) := List.mem_of_getElem? (i := 154) rfl
theorem fl_155 : Jvm.Cond.eq (Jvm.Term.elem (Jvm.Term.field (Jvm.Term.string "RunSayer$Exam" (23 : Nat)) "java/lang/String" "value" "[B") (Jvm.Term.int (2 : Int32))) (Jvm.Term.int (101 : Int32)) ∈ flatC (Jvm.Cond.and given_1 narrow_1) := List.mem_of_getElem? (i := 155) rfl
theorem fl_156 : Jvm.Cond.eq (Jvm.Term.elem (Jvm.Term.field (Jvm.Term.string "RunSayer$Exam" (23 : Nat)) "java/lang/String" "value" "[B") (Jvm.Term.int (3 : Int32))) (Jvm.Term.int (116 : Int32)) ∈ flatC (Jvm.Cond.and given_1 narrow_1) := List.mem_of_getElem? (i := 156) rfl
theorem fl_163 : Jvm.Cond.exactly (Jvm.Term.string "RunSayer$Exam" (25 : Nat)) "java/lang/String" ∈ flatC (Jvm.Cond.and given_1 narrow_1) := List.mem_of_getElem? (i := 163) rfl
theorem fl_164 : Jvm.Cond.eq (Jvm.Term.field (Jvm.Term.string "RunSayer$Exam" (25 : Nat)) "java/lang/String" "coder" "B") (Jvm.Term.int (0 : Int32)) ∈ flatC (Jvm.Cond.and given_1 narrow_1) := List.mem_of_getElem? (i := 164) rfl
theorem fl_165 : Jvm.Cond.arrayOf (Jvm.Term.field (Jvm.Term.string "RunSayer$Exam" (25 : Nat)) "java/lang/String" "value" "[B") Jvm.ClassFile.FieldType.byte ∈ flatC (Jvm.Cond.and given_1 narrow_1) := List.mem_of_getElem? (i := 165) rfl
theorem fl_166 : Jvm.Cond.eq (Jvm.Term.length (Jvm.Term.field (Jvm.Term.string "RunSayer$Exam" (25 : Nat)) "java/lang/String" "value" "[B")) (Jvm.Term.int (3 : Int32)) ∈ flatC (Jvm.Cond.and given_1 narrow_1) := List.mem_of_getElem? (i := 166) rfl
theorem fl_167 : Jvm.Cond.eq (Jvm.Term.elem (Jvm.Term.field (Jvm.Term.string "RunSayer$Exam" (25 : Nat)) "java/lang/String" "value" "[B") (Jvm.Term.int (0 : Int32))) (Jvm.Term.int (100 : Int32)) ∈ flatC (Jvm.Cond.and given_1 narrow_1) := List.mem_of_getElem? (i := 167) rfl
theorem fl_168 : Jvm.Cond.eq (Jvm.Term.elem (Jvm.Term.field (Jvm.Term.string "RunSayer$Exam" (25 : Nat)) "java/lang/String" "value" "[B") (Jvm.Term.int (1 : Int32))) (Jvm.Term.int (97 : Int32)) ∈ flatC (Jvm.Cond.and given_1 narrow_1) := List.mem_of_getElem? (i := 168) rfl
theorem fl_169 : Jvm.Cond.eq (Jvm.Term.elem (Jvm.Term.field (Jvm.Term.string "RunSayer$Exam" (25 : Nat)) "java/lang/String" "value" "[B") (Jvm.Term.int (2 : Int32))) (Jvm.Term.int (121 : Int32)) ∈ flatC (Jvm.Cond.and given_1 narrow_1) := List.mem_of_getElem? (i := 169) rfl
theorem fl_177 : Jvm.Cond.exactly (Jvm.Term.string "RunSayer$Rule" (62 : Nat)) "java/lang/String" ∈ flatC (Jvm.Cond.and given_1 narrow_1) := List.mem_of_getElem? (i := 177) rfl
theorem fl_178 : Jvm.Cond.eq (Jvm.Term.field (Jvm.Term.string "RunSayer$Rule" (62 : Nat)) "java/lang/String" "coder" "B") (Jvm.Term.int (0 : Int32)) ∈ flatC (Jvm.Cond.and given_1 narrow_1) := List.mem_of_getElem? (i := 178) rfl
theorem fl_179 : Jvm.Cond.arrayOf (Jvm.Term.field (Jvm.Term.string "RunSayer$Rule" (62 : Nat)) "java/lang/String" "value" "[B") Jvm.ClassFile.FieldType.byte ∈ flatC (Jvm.Cond.and given_1 narrow_1) := List.mem_of_getElem? (i := 179) rfl
theorem fl_180 : Jvm.Cond.eq (Jvm.Term.length (Jvm.Term.field (Jvm.Term.string "RunSayer$Rule" (62 : Nat)) "java/lang/String" "value" "[B")) (Jvm.Term.int (1 : Int32)) ∈ flatC (Jvm.Cond.and given_1 narrow_1) := List.mem_of_getElem? (i := 180) rfl
theorem fl_181 : Jvm.Cond.eq (Jvm.Term.elem (Jvm.Term.field (Jvm.Term.string "RunSayer$Rule" (62 : Nat)) "java/lang/String" "value" "[B") (Jvm.Term.int (0 : Int32))) (Jvm.Term.int (61 : Int32)) ∈ flatC (Jvm.Cond.and given_1 narrow_1) := List.mem_of_getElem? (i := 181) rfl
theorem fl_190 : Jvm.Cond.exactly (Jvm.Term.string "RunSayer$Rule" (64 : Nat)) "java/lang/String" ∈ flatC (Jvm.Cond.and given_1 narrow_1) := List.mem_of_getElem? (i := 190) rfl
theorem fl_191 : Jvm.Cond.eq (Jvm.Term.field (Jvm.Term.string "RunSayer$Rule" (64 : Nat)) "java/lang/String" "coder" "B") (Jvm.Term.int (0 : Int32)) ∈ flatC (Jvm.Cond.and given_1 narrow_1) := List.mem_of_getElem? (i := 191) rfl
theorem fl_192 : Jvm.Cond.arrayOf (Jvm.Term.field (Jvm.Term.string "RunSayer$Rule" (64 : Nat)) "java/lang/String" "value" "[B") Jvm.ClassFile.FieldType.byte ∈ flatC (Jvm.Cond.and given_1 narrow_1) := List.mem_of_getElem? (i := 192) rfl
theorem fl_193 : Jvm.Cond.eq (Jvm.Term.length (Jvm.Term.field (Jvm.Term.string "RunSayer$Rule" (64 : Nat)) "java/lang/String" "value" "[B")) (Jvm.Term.int (1 : Int32)) ∈ flatC (Jvm.Cond.and given_1 narrow_1) := List.mem_of_getElem? (i := 193) rfl
theorem fl_194 : Jvm.Cond.eq (Jvm.Term.elem (Jvm.Term.field (Jvm.Term.string "RunSayer$Rule" (64 : Nat)) "java/lang/String" "value" "[B") (Jvm.Term.int (0 : Int32))) (Jvm.Term.int (60 : Int32)) ∈ flatC (Jvm.Cond.and given_1 narrow_1) := List.mem_of_getElem? (i := 194) rfl
theorem fl_204 : Jvm.Cond.exactly (Jvm.Term.string "RunSayer$Rule" (66 : Nat)) "java/lang/String" ∈ flatC (Jvm.Cond.and given_1 narrow_1) := List.mem_of_getElem? (i := 204) rfl
theorem fl_205 : Jvm.Cond.eq (Jvm.Term.field (Jvm.Term.string "RunSayer$Rule" (66 : Nat)) "java/lang/String" "coder" "B") (Jvm.Term.int (0 : Int32)) ∈ flatC (Jvm.Cond.and given_1 narrow_1) := List.mem_of_getElem? (i := 205) rfl
theorem fl_206 : Jvm.Cond.arrayOf (Jvm.Term.field (Jvm.Term.string "RunSayer$Rule" (66 : Nat)) "java/lang/String" "value" "[B") Jvm.ClassFile.FieldType.byte ∈ flatC (Jvm.Cond.and given_1 narrow_1) := List.mem_of_getElem? (i := 206) rfl
theorem fl_207 : Jvm.Cond.eq (Jvm.Term.length (Jvm.Term.field (Jvm.Term.string "RunSayer$Rule" (66 : Nat)) "java/lang/String" "value" "[B")) (Jvm.Term.int (1 : Int32)) ∈ flatC (Jvm.Cond.and given_1 narrow_1) := List.mem_of_getElem? (i := 207) rfl
theorem fl_208 : Jvm.Cond.eq (Jvm.Term.elem (Jvm.Term.field (Jvm.Term.string "RunSayer$Rule" (66 : Nat)) "java/lang/String" "value" "[B") (Jvm.Term.int (0 : Int32))) (Jvm.Term.int (62 : Int32)) ∈ flatC (Jvm.Cond.and given_1 narrow_1) := List.mem_of_getElem? (i := 208) rfl
theorem fl_219 : Jvm.Cond.exactly (Jvm.Term.string "RunSayer$Rule" (51 : Nat)) "java/lang/String" ∈ flatC (Jvm.Cond.and given_1 narrow_1) := List.mem_of_getElem? (i := 219) rfl
theorem fl_220 : Jvm.Cond.eq (Jvm.Term.field (Jvm.Term.string "RunSayer$Rule" (51 : Nat)) "java/lang/String" "coder" "B") (Jvm.Term.int (0 : Int32)) ∈ flatC (Jvm.Cond.and given_1 narrow_1) := List.mem_of_getElem? (i := 220) rfl
theorem fl_221 : Jvm.Cond.arrayOf (Jvm.Term.field (Jvm.Term.string "RunSayer$Rule" (51 : Nat)) "java/lang/String" "value" "[B") Jvm.ClassFile.FieldType.byte ∈ flatC (Jvm.Cond.and given_1 narrow_1) := List.mem_of_getElem? (i := 221) rfl
theorem fl_222 : Jvm.Cond.eq (Jvm.Term.length (Jvm.Term.field (Jvm.Term.string "RunSayer$Rule" (51 : Nat)) "java/lang/String" "value" "[B")) (Jvm.Term.int (1 : Int32)) ∈ flatC (Jvm.Cond.and given_1 narrow_1) := List.mem_of_getElem? (i := 222) rfl
theorem fl_223 : Jvm.Cond.eq (Jvm.Term.elem (Jvm.Term.field (Jvm.Term.string "RunSayer$Rule" (51 : Nat)) "java/lang/String" "value" "[B") (Jvm.Term.int (0 : Int32))) (Jvm.Term.int (38 : Int32)) ∈ flatC (Jvm.Cond.and given_1 narrow_1) := List.mem_of_getElem? (i := 223) rfl
theorem fl_5 : Jvm.Cond.arrayOf (Jvm.Term.static "RunSayer$City" "BROADER" "[I") Jvm.ClassFile.FieldType.int ∈ flatC (Jvm.Cond.and given_1 narrow_1) := List.mem_of_getElem? (i := 5) rfl
theorem fl_6 : Jvm.Cond.eq (Jvm.Term.length (Jvm.Term.static "RunSayer$City" "BROADER" "[I")) (Jvm.Term.int (6 : Int32)) ∈ flatC (Jvm.Cond.and given_1 narrow_1) := List.mem_of_getElem? (i := 6) rfl
theorem fl_7 : Jvm.Cond.eq (Jvm.Term.elem (Jvm.Term.static "RunSayer$City" "BROADER" "[I") (Jvm.Term.int (0 : Int32))) (Jvm.Term.int (-1 : Int32)) ∈ flatC (Jvm.Cond.and given_1 narrow_1) := List.mem_of_getElem? (i := 7) rfl
theorem fl_8 : Jvm.Cond.eq (Jvm.Term.elem (Jvm.Term.static "RunSayer$City" "BROADER" "[I") (Jvm.Term.int (1 : Int32))) (Jvm.Term.int (0 : Int32)) ∈ flatC (Jvm.Cond.and given_1 narrow_1) := List.mem_of_getElem? (i := 8) rfl
theorem fl_9 : Jvm.Cond.eq (Jvm.Term.elem (Jvm.Term.static "RunSayer$City" "BROADER" "[I") (Jvm.Term.int (2 : Int32))) (Jvm.Term.int (0 : Int32)) ∈ flatC (Jvm.Cond.and given_1 narrow_1) := List.mem_of_getElem? (i := 9) rfl
theorem fl_10 : Jvm.Cond.eq (Jvm.Term.elem (Jvm.Term.static "RunSayer$City" "BROADER" "[I") (Jvm.Term.int (3 : Int32))) (Jvm.Term.int (1 : Int32)) ∈ flatC (Jvm.Cond.and given_1 narrow_1) := List.mem_of_getElem? (i := 10) rfl
theorem fl_11 : Jvm.Cond.eq (Jvm.Term.elem (Jvm.Term.static "RunSayer$City" "BROADER" "[I") (Jvm.Term.int (4 : Int32))) (Jvm.Term.int (2 : Int32)) ∈ flatC (Jvm.Cond.and given_1 narrow_1) := List.mem_of_getElem? (i := 11) rfl
theorem fl_12 : Jvm.Cond.eq (Jvm.Term.elem (Jvm.Term.static "RunSayer$City" "BROADER" "[I") (Jvm.Term.int (5 : Int32))) (Jvm.Term.int (4 : Int32)) ∈ flatC (Jvm.Cond.and given_1 narrow_1) := List.mem_of_getElem? (i := 12) rfl
theorem fl_13 : Jvm.Cond.eq (Jvm.Term.static "java/lang/String" "COMPACT_STRINGS" "Z") (Jvm.Term.int (1 : Int32)) ∈ flatC (Jvm.Cond.and given_1 narrow_1) := List.mem_of_getElem? (i := 13) rfl
theorem fl_14 : Jvm.Cond.isRef (Jvm.Term.static "jdk/internal/util/Preconditions" "SIOOBE_FORMATTER" "Ljava/util/function/BiFunction;") ∈ flatC (Jvm.Cond.and given_1 narrow_1) := List.mem_of_getElem? (i := 14) rfl
theorem str_of {args : Array Value} {s : State} {tm : Term} {n : Nat} {f : Nat → Int32} {A : Nat → Prop} (hN : n < 2 ^ 31) (hex : (Cond.exactly tm "java/lang/String").before args s = true) (hco : (Cond.eq (.field tm "java/lang/String" "coder" "B") (.int 0)).before args s = true) (har : (Cond.arrayOf (.field tm "java/lang/String" "value" "[B") .byte).before args s = true) (hle : (Cond.eq (.length (.field tm "java/lang/String" "value" "[B")) (.int (Int32.ofNat n))).before args s = true)
    (hel : ∀ j : Nat, j < n → (Cond.eq (.elem (.field tm "java/lang/String" "value" "[B") (.int (Int32.ofNat j))) (.int (f j))).before args s = true) (hA : ∀ a : Nat, a < s.heap.size → ¬ A a) :
    ∃ q t : Nat, tm.eval args s none [] s = some (.ref q) ∧ va_O "java/lang/String" q A s s.heap ∧ va_OF "java/lang/String" "coder" "B" (.int 0) q A s s.heap ∧ va_OF "java/lang/String" "value" "[B" (.ref t) q A s s.heap ∧ va_T .byte t n (fun j => .int (f j)) A s s.heap := by
  obtain ⟨a, c, cA, kA, q1, q2, q3, q4, q5, q6, -⟩ := Cond.exactly_spec (args := args) (first := s) (o := none) (s := s) (idx := []) (t := tm) (cls := "java/lang/String") hex
  obtain ⟨t, ht, hT⟩ := va_Tof (f := fun j => .int (f j)) (A := A) hN har (va_eqt hle) (fun j hj => va_eqt (hel j hj)) hA
  exact ⟨a, t, q1, ⟨cA, q3, q5, by rw [q6]; exact q2, hA a (Array.getElem?_eq_some_iff.mp q3).1⟩, vk_OFof q1 (va_eqt hco) hA, vk_OFof q1 ht hA, hT⟩
def st_tm (k : Nat) : Term := match k with
  | 0 => (Jvm.Term.string "RunSayer$Rule" (28 : Nat))
  | 1 => (Jvm.Term.string "RunSayer$Rule" (45 : Nat))
  | 2 => (Jvm.Term.string "RunSayer$Exam" (16 : Nat))
  | 3 => (Jvm.Term.string "RunSayer$Exam" (17 : Nat))
  | 4 => (Jvm.Term.string "RunSayer$Exam" (19 : Nat))
  | 5 => (Jvm.Term.string "RunSayer$Exam" (21 : Nat))
  | 6 => (Jvm.Term.string "RunSayer$Exam" (23 : Nat))
  | 7 => (Jvm.Term.string "RunSayer$Exam" (25 : Nat))
  | 8 => (Jvm.Term.string "RunSayer$Rule" (62 : Nat))
  | 9 => (Jvm.Term.string "RunSayer$Rule" (64 : Nat))
  | 10 => (Jvm.Term.string "RunSayer$Rule" (66 : Nat))
  | _ => (Jvm.Term.string "RunSayer$Rule" (51 : Nat))
theorem str_all {args : Array Value} {s : State} {A : Nat → Prop} (h : (Jvm.Cond.and given_1 narrow_1).before args s = true) (hA : ∀ a : Nat, a < s.heap.size → ¬ A a) : ∀ k : Nat, k < 12 →
    ∃ q t : Nat, (st_tm k).eval args s none [] s = some (.ref q) ∧ va_O "java/lang/String" q A s s.heap ∧ va_OF "java/lang/String" "coder" "B" (.int 0) q A s s.heap ∧ va_OF "java/lang/String" "value" "[B" (.ref t) q A s s.heap ∧ va_T .byte t (st_len k) (fun j => .int (st_byt k j)) A s s.heap := by
  have hs := flat_of_before _ h
  intro k hk
  match k, hk with
  | 0, _ => exact str_of (tm := st_tm 0) (n := st_len 0) (f := st_byt 0) (by decide) (hs _ fl_83) (hs _ fl_84) (hs _ fl_85) (hs _ fl_86) (fun j hj => by
    match j, hj with
    | 0, _ => exact hs _ fl_87
    | 1, _ => exact hs _ fl_88
    | 2, _ => exact hs _ fl_89
    | 3, _ => exact hs _ fl_90
    | 4, _ => exact hs _ fl_91
    | j + 5, hj => exact absurd hj (by show ¬ j + 5 < 5; omega)) hA
  | 1, _ => exact str_of (tm := st_tm 1) (n := st_len 1) (f := st_byt 1) (by decide) (hs _ fl_92) (hs _ fl_93) (hs _ fl_94) (hs _ fl_95) (fun j hj => by
    match j, hj with
    | 0, _ => exact hs _ fl_96
    | 1, _ => exact hs _ fl_97
    | 2, _ => exact hs _ fl_98
    | 3, _ => exact hs _ fl_99
    | j + 4, hj => exact absurd hj (by show ¬ j + 4 < 4; omega)) hA
  | 2, _ => exact str_of (tm := st_tm 2) (n := st_len 2) (f := st_byt 2) (by decide) (hs _ fl_101) (hs _ fl_102) (hs _ fl_103) (hs _ fl_104) (fun j hj => by
    match j, hj with
    | 0, _ => exact hs _ fl_105
    | 1, _ => exact hs _ fl_106
    | 2, _ => exact hs _ fl_107
    | 3, _ => exact hs _ fl_108
    | j + 4, hj => exact absurd hj (by show ¬ j + 4 < 4; omega)) hA
  | 3, _ => exact str_of (tm := st_tm 3) (n := st_len 3) (f := st_byt 3) (by decide) (hs _ fl_111) (hs _ fl_112) (hs _ fl_113) (hs _ fl_114) (fun j hj => by
    match j, hj with
    | 0, _ => exact hs _ fl_115
    | 1, _ => exact hs _ fl_116
    | 2, _ => exact hs _ fl_117
    | 3, _ => exact hs _ fl_118
    | 4, _ => exact hs _ fl_119
    | j + 5, hj => exact absurd hj (by show ¬ j + 5 < 5; omega)) hA
  | 4, _ => exact str_of (tm := st_tm 4) (n := st_len 4) (f := st_byt 4) (by decide) (hs _ fl_123) (hs _ fl_124) (hs _ fl_125) (hs _ fl_126) (fun j hj => by
    match j, hj with
    | 0, _ => exact hs _ fl_127
    | 1, _ => exact hs _ fl_128
    | 2, _ => exact hs _ fl_129
    | 3, _ => exact hs _ fl_130
    | j + 4, hj => exact absurd hj (by show ¬ j + 4 < 4; omega)) hA
  | 5, _ => exact str_of (tm := st_tm 5) (n := st_len 5) (f := st_byt 5) (by decide) (hs _ fl_135) (hs _ fl_136) (hs _ fl_137) (hs _ fl_138) (fun j hj => by
    match j, hj with
    | 0, _ => exact hs _ fl_139
    | 1, _ => exact hs _ fl_140
    | 2, _ => exact hs _ fl_141
    | 3, _ => exact hs _ fl_142
    | 4, _ => exact hs _ fl_143
    | j + 5, hj => exact absurd hj (by show ¬ j + 5 < 5; omega)) hA
  | 6, _ => exact str_of (tm := st_tm 6) (n := st_len 6) (f := st_byt 6) (by decide) (hs _ fl_149) (hs _ fl_150) (hs _ fl_151) (hs _ fl_152) (fun j hj => by
    match j, hj with
    | 0, _ => exact hs _ fl_153
    | 1, _ => exact hs _ fl_154
    | 2, _ => exact hs _ fl_155
    | 3, _ => exact hs _ fl_156
    | j + 4, hj => exact absurd hj (by show ¬ j + 4 < 4; omega)) hA
  | 7, _ => exact str_of (tm := st_tm 7) (n := st_len 7) (f := st_byt 7) (by decide) (hs _ fl_163) (hs _ fl_164) (hs _ fl_165) (hs _ fl_166) (fun j hj => by
    match j, hj with
    | 0, _ => exact hs _ fl_167
    | 1, _ => exact hs _ fl_168
    | 2, _ => exact hs _ fl_169
    | j + 3, hj => exact absurd hj (by show ¬ j + 3 < 3; omega)) hA
  | 8, _ => exact str_of (tm := st_tm 8) (n := st_len 8) (f := st_byt 8) (by decide) (hs _ fl_177) (hs _ fl_178) (hs _ fl_179) (hs _ fl_180) (fun j hj => by
    match j, hj with
    | 0, _ => exact hs _ fl_181
    | j + 1, hj => exact absurd hj (by show ¬ j + 1 < 1; omega)) hA
  | 9, _ => exact str_of (tm := st_tm 9) (n := st_len 9) (f := st_byt 9) (by decide) (hs _ fl_190) (hs _ fl_191) (hs _ fl_192) (hs _ fl_193) (fun j hj => by
    match j, hj with
    | 0, _ => exact hs _ fl_194
    | j + 1, hj => exact absurd hj (by show ¬ j + 1 < 1; omega)) hA
  | 10, _ => exact str_of (tm := st_tm 10) (n := st_len 10) (f := st_byt 10) (by decide) (hs _ fl_204) (hs _ fl_205) (hs _ fl_206) (hs _ fl_207) (fun j hj => by
    match j, hj with
    | 0, _ => exact hs _ fl_208
    | j + 1, hj => exact absurd hj (by show ¬ j + 1 < 1; omega)) hA
  | 11, _ => exact str_of (tm := st_tm 11) (n := st_len 11) (f := st_byt 11) (by decide) (hs _ fl_219) (hs _ fl_220) (hs _ fl_221) (hs _ fl_222) (fun j hj => by
    match j, hj with
    | 0, _ => exact hs _ fl_223
    | j + 1, hj => exact absurd hj (by show ¬ j + 1 < 1; omega)) hA
  | k + 12, hk => exact absurd hk (by omega)
theorem bro_all {args : Array Value} {s : State} {A : Nat → Prop} (h : (Jvm.Cond.and given_1 narrow_1).before args s = true) (hA : ∀ a : Nat, a < s.heap.size → ¬ A a) : ∃ t : Nat, (Term.static "RunSayer$City" "BROADER" "[I").eval args s none [] s = some (.ref t) ∧ va_T .int t 6 (fun j => .int (am_bro j)) A s s.heap := by
  have hs := flat_of_before _ h
  refine va_Tof (N := 6) (f := fun j => .int (am_bro j)) (by decide) (hs _ fl_5) (va_eqt (hs _ fl_6)) (fun j hj => va_eqt ?_) hA
  match j, hj with
  | 0, _ => exact hs _ fl_7
  | 1, _ => exact hs _ fl_8
  | 2, _ => exact hs _ fl_9
  | 3, _ => exact hs _ fl_10
  | 4, _ => exact hs _ fl_11
  | 5, _ => exact hs _ fl_12
  | j + 6, hj => exact absurd hj (by omega)
theorem com_all {args : Array Value} {s : State} (h : (Jvm.Cond.and given_1 narrow_1).before args s = true) : (Term.static "java/lang/String" "COMPACT_STRINGS" "Z").eval args s none [] s = some (.int 1) := va_eqt (flat_of_before _ h _ fl_13)
theorem sio_all {args : Array Value} {s : State} (h : (Jvm.Cond.and given_1 narrow_1).before args s = true) : ∃ fv : Value, (Term.static "jdk/internal/util/Preconditions" "SIOOBE_FORMATTER" "Ljava/util/function/BiFunction;").eval args s none [] s = some fv ∧ (fv = .null ∨ ∃ t, fv = .ref t) := by
  obtain ⟨v, hv, hr⟩ := Cond.isRef_spec (flat_of_before _ h _ fl_14)
  refine ⟨v, hv, ?_⟩
  cases v <;> first | exact Or.inl rfl | exact Or.inr ⟨_, rfl⟩ | (exfalso; revert hr; simp [Value.isRef]) 
theorem tb_bro : Jvm.Cond.laysStatic "RunSayer$City" "BROADER" "[I" ∈ lw_tbl := List.mem_append_right _ (show _ ∈ tables_1 from List.mem_append_right _ (List.mem_append_right _ (List.mem_append_left _ (List.mem_of_getElem? (i := 124) rfl))))
theorem tb_com : Jvm.Cond.laysStatic "java/lang/String" "COMPACT_STRINGS" "Z" ∈ lw_tbl := List.mem_append_right _ (show _ ∈ tables_1 from List.mem_append_right _ (List.mem_append_right _ (List.mem_append_right _ (List.mem_append_right _ (List.mem_append_left _ (List.mem_of_getElem? (i := 155) rfl))))))
theorem tb_sio : Jvm.Cond.laysStatic "jdk/internal/util/Preconditions" "SIOOBE_FORMATTER" "Ljava/util/function/BiFunction;" ∈ lw_tbl := List.mem_append_right _ (show _ ∈ tables_1 from List.mem_append_right _ (List.mem_append_right _ (List.mem_append_right _ (List.mem_append_right _ (List.mem_append_left _ (List.mem_of_getElem? (i := 171) rfl))))))
theorem ti_city : Jvm.Cond.initialized "RunSayer$City" ∈ lw_tbl := List.mem_append_right _ (show _ ∈ tables_1 from List.mem_append_left _ (List.mem_of_getElem? (i := 2) rfl))
theorem ti_str : Jvm.Cond.initialized "java/lang/String" ∈ lw_tbl := List.mem_append_right _ (show _ ∈ tables_1 from List.mem_append_left _ (List.mem_of_getElem? (i := 16) rfl))
theorem ti_prec : Jvm.Cond.initialized "jdk/internal/util/Preconditions" ∈ lw_tbl := List.mem_append_right _ (show _ ∈ tables_1 from List.mem_append_left _ (List.mem_of_getElem? (i := 18) rfl))
theorem ts_0 : Jvm.Cond.stringRef "RunSayer$Rule" (28 : Nat) "take " ∈ lw_tbl := List.mem_append_right _ (show _ ∈ tables_1 from List.mem_append_right _ (List.mem_append_right _ (List.mem_append_right _ (List.mem_append_right _ (List.mem_append_left _ (List.mem_of_getElem? (i := 141) rfl))))))
theorem ts_1 : Jvm.Cond.stringRef "RunSayer$Rule" (45 : Nat) " if " ∈ lw_tbl := List.mem_append_right _ (show _ ∈ tables_1 from List.mem_append_right _ (List.mem_append_right _ (List.mem_append_right _ (List.mem_append_right _ (List.mem_append_left _ (List.mem_of_getElem? (i := 199) rfl))))))
theorem ts_2 : Jvm.Cond.stringRef "RunSayer$Exam" (16 : Nat) "said" ∈ lw_tbl := List.mem_append_right _ (show _ ∈ tables_1 from List.mem_append_right _ (List.mem_append_right _ (List.mem_append_right _ (List.mem_append_right _ (List.mem_append_left _ (List.mem_of_getElem? (i := 207) rfl))))))
theorem ts_3 : Jvm.Cond.stringRef "RunSayer$Exam" (17 : Nat) "wrong" ∈ lw_tbl := List.mem_append_right _ (show _ ∈ tables_1 from List.mem_append_right _ (List.mem_append_right _ (List.mem_append_right _ (List.mem_append_right _ (List.mem_append_left _ (List.mem_of_getElem? (i := 208) rfl))))))
theorem ts_4 : Jvm.Cond.stringRef "RunSayer$Exam" (19 : Nat) "over" ∈ lw_tbl := List.mem_append_right _ (show _ ∈ tables_1 from List.mem_append_right _ (List.mem_append_right _ (List.mem_append_right _ (List.mem_append_right _ (List.mem_append_left _ (List.mem_of_getElem? (i := 209) rfl))))))
theorem ts_5 : Jvm.Cond.stringRef "RunSayer$Exam" (21 : Nat) "turns" ∈ lw_tbl := List.mem_append_right _ (show _ ∈ tables_1 from List.mem_append_right _ (List.mem_append_right _ (List.mem_append_right _ (List.mem_append_right _ (List.mem_append_left _ (List.mem_of_getElem? (i := 210) rfl))))))
theorem ts_6 : Jvm.Cond.stringRef "RunSayer$Exam" (23 : Nat) "feet" ∈ lw_tbl := List.mem_append_right _ (show _ ∈ tables_1 from List.mem_append_right _ (List.mem_append_right _ (List.mem_append_right _ (List.mem_append_right _ (List.mem_append_left _ (List.mem_of_getElem? (i := 211) rfl))))))
theorem ts_7 : Jvm.Cond.stringRef "RunSayer$Exam" (25 : Nat) "day" ∈ lw_tbl := List.mem_append_right _ (show _ ∈ tables_1 from List.mem_append_right _ (List.mem_append_right _ (List.mem_append_right _ (List.mem_append_right _ (List.mem_append_left _ (List.mem_of_getElem? (i := 212) rfl))))))
theorem ts_8 : Jvm.Cond.stringRef "RunSayer$Rule" (62 : Nat) "=" ∈ lw_tbl := List.mem_append_right _ (show _ ∈ tables_1 from List.mem_append_right _ (List.mem_append_right _ (List.mem_append_right _ (List.mem_append_right _ (List.mem_append_left _ (List.mem_of_getElem? (i := 217) rfl))))))
theorem ts_9 : Jvm.Cond.stringRef "RunSayer$Rule" (64 : Nat) "<" ∈ lw_tbl := List.mem_append_right _ (show _ ∈ tables_1 from List.mem_append_right _ (List.mem_append_right _ (List.mem_append_right _ (List.mem_append_right _ (List.mem_append_left _ (List.mem_of_getElem? (i := 218) rfl))))))
theorem ts_10 : Jvm.Cond.stringRef "RunSayer$Rule" (66 : Nat) ">" ∈ lw_tbl := List.mem_append_right _ (show _ ∈ tables_1 from List.mem_append_right _ (List.mem_append_right _ (List.mem_append_right _ (List.mem_append_right _ (List.mem_append_left _ (List.mem_of_getElem? (i := 219) rfl))))))
theorem ts_11 : Jvm.Cond.stringRef "RunSayer$Rule" (51 : Nat) "&" ∈ lw_tbl := List.mem_append_right _ (show _ ∈ tables_1 from List.mem_append_right _ (List.mem_append_right _ (List.mem_append_right _ (List.mem_append_right _ (List.mem_append_left _ (List.mem_of_getElem? (i := 220) rfl))))))
