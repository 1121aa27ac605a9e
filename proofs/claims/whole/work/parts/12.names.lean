/-! NAMES: classes, their fields in the order of the slots, methods, words: written by wip/gen/names.py -/
def R_Lim : String := "PointBench$Limbs"
def R_Par : String := "PointBench$Parts"
def R_Mod : String := "PointBench$Modulus"
def R_Pnt : String := "PointBench$Point"
def R_Sum : String := "PointBench$RunningSum"
def R_Ben : String := "PointBench"
def R_Rng : String := "PointBenchModel$Ring"
def R_Rpt : String := "PointBenchModel$Point"
def R_Mdl : String := "PointBenchModel"
def R_Law : String := "PointBenchLaw"
def T_Mod : u_T := fun k => match k with
  | 0 => ("PointBench$Modulus", "parts", "[J", true)
  | 1 => ("PointBench$Modulus", "partsLessTwo", "[J", true)
  | 2 => ("PointBench$Modulus", "rest", "[J", true)
  | 3 => ("PointBench$Modulus", "wrap", "[J", true)
  | 4 => ("PointBench$Modulus", "isWrapLong", "Z", true)
  | 5 => ("PointBench$Modulus", "wide", "[J", true)
  | 6 => ("PointBench$Modulus", "trial", "[J", true)
  | 7 => ("PointBench$Modulus", "gap", "[J", true)
  | _ => ("PointBench$Modulus", "factor", "[J", true)
def t_Mod : Nat → FieldType := fun k => match k with
  | 0 => .array .long
  | 1 => .array .long
  | 2 => .array .long
  | 3 => .array .long
  | 4 => .boolean
  | 5 => .array .long
  | 6 => .array .long
  | 7 => .array .long
  | _ => .array .long
theorem n_Mod : ∀ a, a < 9 → ∀ b, b < 9 → a ≠ b → (T_Mod a).2.1 ≠ (T_Mod b).2.1 := by decide +kernel
theorem t_Mod_ok : ∀ k, k < 9 → parseFieldDescriptor (T_Mod k).2.2.1 = some (t_Mod k) := by decide +kernel
def T_Pnt : u_T := fun k => match k with
  | 0 => ("PointBench$Point", "x", "[J", true)
  | 1 => ("PointBench$Point", "y", "[J", true)
  | _ => ("PointBench$Point", "isNone", "Z", false)
def t_Pnt : Nat → FieldType := fun k => match k with
  | 0 => .array .long
  | 1 => .array .long
  | _ => .boolean
theorem n_Pnt : ∀ a, a < 3 → ∀ b, b < 3 → a ≠ b → (T_Pnt a).2.1 ≠ (T_Pnt b).2.1 := by decide +kernel
theorem t_Pnt_ok : ∀ k, k < 3 → parseFieldDescriptor (T_Pnt k).2.2.1 = some (t_Pnt k) := by decide +kernel
def T_Sum : u_T := fun k => match k with
  | 0 => ("PointBench$RunningSum", "field", "LPointBench$Modulus;", true)
  | 1 => ("PointBench$RunningSum", "isNone", "Z", false)
  | 2 => ("PointBench$RunningSum", "x", "[J", true)
  | 3 => ("PointBench$RunningSum", "y", "[J", true)
  | 4 => ("PointBench$RunningSum", "z", "[J", true)
  | 5 => ("PointBench$RunningSum", "across", "[J", true)
  | 6 => ("PointBench$RunningSum", "rise", "[J", true)
  | 7 => ("PointBench$RunningSum", "square", "[J", true)
  | 8 => ("PointBench$RunningSum", "cube", "[J", true)
  | _ => ("PointBench$RunningSum", "middle", "[J", true)
def t_Sum : Nat → FieldType := fun k => match k with
  | 0 => .object "PointBench$Modulus"
  | 1 => .boolean
  | 2 => .array .long
  | 3 => .array .long
  | 4 => .array .long
  | 5 => .array .long
  | 6 => .array .long
  | 7 => .array .long
  | 8 => .array .long
  | _ => .array .long
theorem n_Sum : ∀ a, a < 10 → ∀ b, b < 10 → a ≠ b → (T_Sum a).2.1 ≠ (T_Sum b).2.1 := by decide +kernel
theorem t_Sum_ok : ∀ k, k < 10 → parseFieldDescriptor (T_Sum k).2.2.1 = some (t_Sum k) := by decide +kernel
def T_Ben : u_T := fun k => match k with
  | 0 => ("PointBench", "numbers", "[[J", true)
  | 1 => ("PointBench", "points", "[LPointBench$Point;", true)
  | 2 => ("PointBench", "field", "LPointBench$Modulus;", true)
  | 3 => ("PointBench", "order", "LPointBench$Modulus;", true)
  | 4 => ("PointBench", "generator", "LPointBench$Point;", true)
  | 5 => ("PointBench", "sum", "LPointBench$RunningSum;", true)
  | 6 => ("PointBench", "found", "LPointBench$Point;", true)
  | 7 => ("PointBench", "left", "[J", true)
  | 8 => ("PointBench", "right", "[J", true)
  | 9 => ("PointBench", "third", "[J", true)
  | 10 => ("PointBench", "ofGenerator", "[J", true)
  | _ => ("PointBench", "ofKey", "[J", true)
def t_Ben : Nat → FieldType := fun k => match k with
  | 0 => .array (.array .long)
  | 1 => .array (.object "PointBench$Point")
  | 2 => .object "PointBench$Modulus"
  | 3 => .object "PointBench$Modulus"
  | 4 => .object "PointBench$Point"
  | 5 => .object "PointBench$RunningSum"
  | 6 => .object "PointBench$Point"
  | 7 => .array .long
  | 8 => .array .long
  | 9 => .array .long
  | 10 => .array .long
  | _ => .array .long
theorem n_Ben : ∀ a, a < 12 → ∀ b, b < 12 → a ≠ b → (T_Ben a).2.1 ≠ (T_Ben b).2.1 := by decide +kernel
theorem t_Ben_ok : ∀ k, k < 12 → parseFieldDescriptor (T_Ben k).2.2.1 = some (t_Ben k) := by decide +kernel
def T_Rng : u_T := fun k => match k with
  | 0 => ("PointBenchModel$Ring", "modulus", "[I", true)
  | 1 => ("PointBenchModel$Ring", "minus", "I", true)
  | 2 => ("PointBenchModel$Ring", "one", "[I", true)
  | 3 => ("PointBenchModel$Ring", "twice", "[I", true)
  | 4 => ("PointBenchModel$Ring", "plain", "[I", true)
  | 5 => ("PointBenchModel$Ring", "row", "[I", true)
  | 6 => ("PointBenchModel$Ring", "base", "[I", true)
  | _ => ("PointBenchModel$Ring", "other", "[I", true)
def t_Rng : Nat → FieldType := fun k => match k with
  | 0 => .array .int
  | 1 => .int
  | 2 => .array .int
  | 3 => .array .int
  | 4 => .array .int
  | 5 => .array .int
  | 6 => .array .int
  | _ => .array .int
theorem n_Rng : ∀ a, a < 8 → ∀ b, b < 8 → a ≠ b → (T_Rng a).2.1 ≠ (T_Rng b).2.1 := by decide +kernel
theorem t_Rng_ok : ∀ k, k < 8 → parseFieldDescriptor (T_Rng k).2.2.1 = some (t_Rng k) := by decide +kernel
def T_Rpt : u_T := fun k => match k with
  | 0 => ("PointBenchModel$Point", "x", "[I", true)
  | 1 => ("PointBenchModel$Point", "y", "[I", true)
  | _ => ("PointBenchModel$Point", "z", "[I", true)
def t_Rpt : Nat → FieldType := fun k => match k with
  | 0 => .array .int
  | 1 => .array .int
  | _ => .array .int
theorem n_Rpt : ∀ a, a < 3 → ∀ b, b < 3 → a ≠ b → (T_Rpt a).2.1 ≠ (T_Rpt b).2.1 := by decide +kernel
theorem t_Rpt_ok : ∀ k, k < 3 → parseFieldDescriptor (T_Rpt k).2.2.1 = some (t_Rpt k) := by decide +kernel
def T_Mdl : u_T := fun k => match k with
  | 0 => ("PointBenchModel", "field", "LPointBenchModel$Ring;", true)
  | 1 => ("PointBenchModel", "order", "LPointBenchModel$Ring;", true)
  | 2 => ("PointBenchModel", "seven", "[I", true)
  | 3 => ("PointBenchModel", "generator", "LPointBenchModel$Point;", true)
  | 4 => ("PointBenchModel", "key", "LPointBenchModel$Point;", true)
  | 5 => ("PointBenchModel", "sum", "LPointBenchModel$Point;", true)
  | 6 => ("PointBenchModel", "work", "LPointBenchModel$Point;", true)
  | 7 => ("PointBenchModel", "a", "[I", true)
  | 8 => ("PointBenchModel", "b", "[I", true)
  | 9 => ("PointBenchModel", "c", "[I", true)
  | 10 => ("PointBenchModel", "d", "[I", true)
  | 11 => ("PointBenchModel", "e", "[I", true)
  | 12 => ("PointBenchModel", "f", "[I", true)
  | 13 => ("PointBenchModel", "px", "[I", true)
  | 14 => ("PointBenchModel", "py", "[I", true)
  | 15 => ("PointBenchModel", "numbers", "[[I", true)
  | 16 => ("PointBenchModel", "points", "[LPointBenchModel$Point;", true)
  | 17 => ("PointBenchModel", "other", "LPointBenchModel$Point;", true)
  | 18 => ("PointBenchModel", "qx", "[I", true)
  | 19 => ("PointBenchModel", "qy", "[I", true)
  | 20 => ("PointBenchModel", "u1", "[I", true)
  | 21 => ("PointBenchModel", "u2", "[I", true)
  | _ => ("PointBenchModel", "code", "I", false)
def t_Mdl : Nat → FieldType := fun k => match k with
  | 0 => .object "PointBenchModel$Ring"
  | 1 => .object "PointBenchModel$Ring"
  | 2 => .array .int
  | 3 => .object "PointBenchModel$Point"
  | 4 => .object "PointBenchModel$Point"
  | 5 => .object "PointBenchModel$Point"
  | 6 => .object "PointBenchModel$Point"
  | 7 => .array .int
  | 8 => .array .int
  | 9 => .array .int
  | 10 => .array .int
  | 11 => .array .int
  | 12 => .array .int
  | 13 => .array .int
  | 14 => .array .int
  | 15 => .array (.array .int)
  | 16 => .array (.object "PointBenchModel$Point")
  | 17 => .object "PointBenchModel$Point"
  | 18 => .array .int
  | 19 => .array .int
  | 20 => .array .int
  | 21 => .array .int
  | _ => .int
theorem n_Mdl : ∀ a, a < 23 → ∀ b, b < 23 → a ≠ b → (T_Mdl a).2.1 ≠ (T_Mdl b).2.1 := by decide +kernel
theorem t_Mdl_ok : ∀ k, k < 23 → parseFieldDescriptor (T_Mdl k).2.2.1 = some (t_Mdl k) := by decide +kernel
/-- the classes whose objects the memory holds, by their places -/
abbrev gm_cl : List vw_C := [(R_Mod, T_Mod, 9), (R_Pnt, T_Pnt, 3), (R_Sum, T_Sum, 10), (R_Ben, T_Ben, 12), (R_Rng, T_Rng, 8), (R_Rpt, T_Rpt, 3), (R_Mdl, T_Mdl, 23)]
/-- all good words of the tables: every method of mine stands on these -/
def WB : List Cond := lw_tbl.filter goodWord
theorem wb_i {w : Cond} {d : Nat} {v : List Cond} (h : (lw_tbl.drop d).take 20 = v) (i : Nat) (hi : v[i]? = some w) (hg : goodWord w = true) : w ∈ WB := by
  refine List.mem_filter.mpr ⟨?_, hg⟩
  have h1 := List.mem_of_getElem? hi
  rw [← h] at h1
  exact List.mem_of_mem_drop (List.mem_of_mem_take h1)
theorem wb_in {w : Cond} (h : w ∈ WB) : w ∈ lw_tbl := (List.mem_filter.mp h).1
theorem wb_good {big ws : List Cond} (hb : ∀ w ∈ WB, w ∈ big) (h : ∀ w ∈ ws, w ∈ WB) : GoodIn big ws := fun w hw => ⟨hb w (h w hw), good_of_word (List.mem_filter.mp (h w hw)).2⟩
abbrev b_Ben_init : ByteArray := prog_1_method_1_code
def y_Ben_init : MethodName := ⟨R_Ben, "<init>", "()V"⟩
def w_Ben_init : List Cond := .code y_Ben_init b_Ben_init 2 none :: WB
abbrev b_Mod_init : ByteArray := prog_3_method_1_code
def y_Mod_init : MethodName := ⟨R_Mod, "<init>", "([J[J[J[JZ)V"⟩
def w_Mod_init : List Cond := .code y_Mod_init b_Mod_init 6 none :: WB
abbrev b_Pnt_init : ByteArray := prog_5_method_1_code
def y_Pnt_init : MethodName := ⟨R_Pnt, "<init>", "()V"⟩
def w_Pnt_init : List Cond := .code y_Pnt_init b_Pnt_init 1 none :: WB
abbrev b_Sum_init : ByteArray := prog_6_method_1_code
def y_Sum_init : MethodName := ⟨R_Sum, "<init>", "(LPointBench$Modulus;)V"⟩
def w_Sum_init : List Cond := .code y_Sum_init b_Sum_init 2 none :: WB
abbrev b_Lim_unpack : ByteArray := prog_2_method_9_code
def y_Lim_unpack : MethodName := ⟨R_Lim, "unpack", "([J[J)V"⟩
def w_Lim_unpack : List Cond := .code y_Lim_unpack b_Lim_unpack 7 none :: WB
abbrev b_Law_set : ByteArray := method_3_code
def y_Law_set : MethodName := ⟨R_Law, "set", "(LPointBench;IIJ)I"⟩
abbrev b_Ben_set : ByteArray := prog_1_method_2_code
def y_Ben_set : MethodName := ⟨R_Ben, "set", "(IIJ)V"⟩
def w_Ben_set : List Cond := .code y_Ben_set b_Ben_set 5 none :: WB
abbrev b_Ben_needNumber : ByteArray := prog_1_method_16_code
def y_Ben_needNumber : MethodName := ⟨R_Ben, "needNumber", "(I)V"⟩
def w_Ben_needNumber : List Cond := .code y_Ben_needNumber b_Ben_needNumber 1 none :: WB
abbrev b_Ben_needPart : ByteArray := prog_1_method_17_code
def y_Ben_needPart : MethodName := ⟨R_Ben, "needPart", "(I)V"⟩
def w_Ben_needPart : List Cond := .code y_Ben_needPart b_Ben_needPart 1 none :: WB
abbrev b_Law_get : ByteArray := method_4_code
def y_Law_get : MethodName := ⟨R_Law, "get", "(LPointBench;II[J)I"⟩
abbrev b_Ben_get : ByteArray := prog_1_method_3_code
def y_Ben_get : MethodName := ⟨R_Ben, "get", "(II)J"⟩
def w_Ben_get : List Cond := .code y_Ben_get b_Ben_get 3 (some .long) :: WB
abbrev b_Law_compare : ByteArray := method_5_code
def y_Law_compare : MethodName := ⟨R_Law, "compare", "(LPointBench;II[J)I"⟩
abbrev b_Ben_compare : ByteArray := prog_1_method_4_code
def y_Ben_compare : MethodName := ⟨R_Ben, "compare", "(II)I"⟩
def w_Ben_compare : List Cond := .code y_Ben_compare b_Ben_compare 3 (some .int) :: WB
abbrev b_Par_order : ByteArray := prog_4_method_2_code
def y_Par_order : MethodName := ⟨R_Par, "order", "([J[J)I"⟩
def w_Par_order : List Cond := .code y_Par_order b_Par_order 3 (some .int) :: WB
abbrev b_Law_work : ByteArray := method_6_code
def y_Law_work : MethodName := ⟨R_Law, "work", "(LPointBench;IIII[J)I"⟩
abbrev b_Ben_work : ByteArray := prog_1_method_5_code
def y_Ben_work : MethodName := ⟨R_Ben, "work", "(IIII)Z"⟩
def w_Ben_work : List Cond := .code y_Ben_work b_Ben_work 7 (some .boolean) :: WB
abbrev b_Ben_needWork : ByteArray := prog_1_method_19_code
def y_Ben_needWork : MethodName := ⟨R_Ben, "needWork", "(I)V"⟩
def w_Ben_needWork : List Cond := .code y_Ben_needWork b_Ben_needWork 1 none :: WB
abbrev b_Mod_isAbove : ByteArray := prog_3_method_2_code
def y_Mod_isAbove : MethodName := ⟨R_Mod, "isAbove", "([J)Z"⟩
def w_Mod_isAbove : List Cond := .code y_Mod_isAbove b_Mod_isAbove 2 (some .boolean) :: WB
abbrev b_Par_areZero : ByteArray := prog_4_method_3_code
def y_Par_areZero : MethodName := ⟨R_Par, "areZero", "([J)Z"⟩
def w_Par_areZero : List Cond := .code y_Par_areZero b_Par_areZero 1 (some .boolean) :: WB
abbrev b_Ben_workOnLeft : ByteArray := prog_1_method_20_code
def y_Ben_workOnLeft : MethodName := ⟨R_Ben, "workOnLeft", "(ILPointBench$Modulus;)V"⟩
def w_Ben_workOnLeft : List Cond := .code y_Ben_workOnLeft b_Ben_workOnLeft 3 none :: WB
abbrev b_Lim_plus : ByteArray := prog_2_method_3_code
def y_Lim_plus : MethodName := ⟨R_Lim, "plus", "([J[J[J)V"⟩
def w_Lim_plus : List Cond := .code y_Lim_plus b_Lim_plus 4 none :: WB
abbrev b_Lim_minus : ByteArray := prog_2_method_4_code
def y_Lim_minus : MethodName := ⟨R_Lim, "minus", "([J[J[J)V"⟩
def w_Lim_minus : List Cond := .code y_Lim_minus b_Lim_minus 4 none :: WB
abbrev b_Mod_multiply : ByteArray := prog_3_method_3_code
def y_Mod_multiply : MethodName := ⟨R_Mod, "multiply", "([J[J[J)V"⟩
def w_Mod_multiply : List Cond := .code y_Mod_multiply b_Mod_multiply 4 none :: WB
abbrev b_Lim_product : ByteArray := prog_2_method_11_code
def y_Lim_product : MethodName := ⟨R_Lim, "product", "([J[J[J)V"⟩
def w_Lim_product : List Cond := .code y_Lim_product b_Lim_product 43 none :: WB
abbrev b_Lim_carry : ByteArray := prog_2_method_8_code
def y_Lim_carry : MethodName := ⟨R_Lim, "carry", "([JII)V"⟩
def w_Lim_carry : List Cond := .code y_Lim_carry b_Lim_carry 6 none :: WB
abbrev b_Mod_fold : ByteArray := prog_3_method_4_code
def y_Mod_fold : MethodName := ⟨R_Mod, "fold", "(I)V"⟩
def w_Mod_fold : List Cond := .code y_Mod_fold b_Mod_fold 6 none :: WB
abbrev b_Lim_copy : ByteArray := prog_2_method_2_code
def y_Lim_copy : MethodName := ⟨R_Lim, "copy", "([J[J)V"⟩
def w_Lim_copy : List Cond := .code y_Lim_copy b_Lim_copy 2 none :: WB
abbrev b_Mod_invert : ByteArray := prog_3_method_6_code
def y_Mod_invert : MethodName := ⟨R_Mod, "invert", "([J[J)V"⟩
def w_Mod_invert : List Cond := .code y_Mod_invert b_Mod_invert 3 none :: WB
abbrev b_Mod_power : ByteArray := prog_3_method_5_code
def y_Mod_power : MethodName := ⟨R_Mod, "power", "([J[J[J)V"⟩
def w_Mod_power : List Cond := .code y_Mod_power b_Mod_power 5 none :: WB
abbrev b_Par_haveBit : ByteArray := prog_4_method_4_code
def y_Par_haveBit : MethodName := ⟨R_Par, "haveBit", "([JI)Z"⟩
def w_Par_haveBit : List Cond := .code y_Par_haveBit b_Par_haveBit 2 (some .boolean) :: WB
abbrev b_Mod_settle : ByteArray := prog_3_method_9_code
def y_Mod_settle : MethodName := ⟨R_Mod, "settle", "([J)V"⟩
def w_Mod_settle : List Cond := .code y_Mod_settle b_Mod_settle 3 none :: WB
abbrev b_Mod_dropTop : ByteArray := prog_3_method_10_code
def y_Mod_dropTop : MethodName := ⟨R_Mod, "dropTop", "([J)V"⟩
def w_Mod_dropTop : List Cond := .code y_Mod_dropTop b_Mod_dropTop 5 none :: WB
abbrev b_Lim_pack : ByteArray := prog_2_method_10_code
def y_Lim_pack : MethodName := ⟨R_Lim, "pack", "([J[J)V"⟩
def w_Lim_pack : List Cond := .code y_Lim_pack b_Lim_pack 5 none :: WB
abbrev b_Law_base : ByteArray := method_7_code
def y_Law_base : MethodName := ⟨R_Law, "base", "(LPointBench;I)I"⟩
abbrev b_Ben_base : ByteArray := prog_1_method_6_code
def y_Ben_base : MethodName := ⟨R_Ben, "base", "(I)V"⟩
def w_Ben_base : List Cond := .code y_Ben_base b_Ben_base 2 none :: WB
abbrev b_Ben_needPoint : ByteArray := prog_1_method_18_code
def y_Ben_needPoint : MethodName := ⟨R_Ben, "needPoint", "(I)V"⟩
def w_Ben_needPoint : List Cond := .code y_Ben_needPoint b_Ben_needPoint 1 none :: WB
abbrev b_Pnt_copyFrom : ByteArray := prog_5_method_2_code
def y_Pnt_copyFrom : MethodName := ⟨R_Pnt, "copyFrom", "(LPointBench$Point;)V"⟩
def w_Pnt_copyFrom : List Cond := .code y_Pnt_copyFrom b_Pnt_copyFrom 2 none :: WB
abbrev b_Law_none : ByteArray := method_8_code
def y_Law_none : MethodName := ⟨R_Law, "none", "(LPointBench;I)I"⟩
abbrev b_Ben_none : ByteArray := prog_1_method_7_code
def y_Ben_none : MethodName := ⟨R_Ben, "none", "(I)V"⟩
def w_Ben_none : List Cond := .code y_Ben_none b_Ben_none 2 none :: WB
abbrev b_Law_lay : ByteArray := method_9_code
def y_Law_lay : MethodName := ⟨R_Law, "lay", "(LPointBench;III[J)I"⟩
abbrev b_Ben_lay : ByteArray := prog_1_method_8_code
def y_Ben_lay : MethodName := ⟨R_Ben, "lay", "(III)Z"⟩
def w_Ben_lay : List Cond := .code y_Ben_lay b_Ben_lay 4 (some .boolean) :: WB
abbrev b_Ben_squareOfY : ByteArray := prog_1_method_22_code
def y_Ben_squareOfY : MethodName := ⟨R_Ben, "squareOfY", "([J[J)V"⟩
def w_Ben_squareOfY : List Cond := .code y_Ben_squareOfY b_Ben_squareOfY 3 none :: WB
abbrev b_Ben_isRoot : ByteArray := prog_1_method_23_code
def y_Ben_isRoot : MethodName := ⟨R_Ben, "isRoot", "([J[J)Z"⟩
def w_Ben_isRoot : List Cond := .code y_Ben_isRoot b_Ben_isRoot 3 (some .boolean) :: WB
abbrev b_Mod_areCongruent : ByteArray := prog_3_method_7_code
def y_Mod_areCongruent : MethodName := ⟨R_Mod, "areCongruent", "([J[J)Z"⟩
def w_Mod_areCongruent : List Cond := .code y_Mod_areCongruent b_Mod_areCongruent 3 (some .boolean) :: WB
abbrev b_Lim_areZero : ByteArray := prog_2_method_7_code
def y_Lim_areZero : MethodName := ⟨R_Lim, "areZero", "([J)Z"⟩
def w_Lim_areZero : List Cond := .code y_Lim_areZero b_Lim_areZero 2 (some .boolean) :: WB
abbrev b_Law_lift : ByteArray := method_10_code
def y_Law_lift : MethodName := ⟨R_Law, "lift", "(LPointBench;IIZ[J)I"⟩
abbrev b_Ben_lift : ByteArray := prog_1_method_9_code
def y_Ben_lift : MethodName := ⟨R_Ben, "lift", "(IIZ)Z"⟩
def w_Ben_lift : List Cond := .code y_Ben_lift b_Ben_lift 4 (some .boolean) :: WB
abbrev b_Ben_makeParity : ByteArray := prog_1_method_24_code
def y_Ben_makeParity : MethodName := ⟨R_Ben, "makeParity", "([JZ)V"⟩
def w_Ben_makeParity : List Cond := .code y_Ben_makeParity b_Ben_makeParity 4 none :: WB
abbrev b_Law_show : ByteArray := method_11_code
def y_Law_show : MethodName := ⟨R_Law, "show", "(LPointBench;III[J)I"⟩
abbrev b_Ben_show : ByteArray := prog_1_method_10_code
def y_Ben_show : MethodName := ⟨R_Ben, "show", "(III)Z"⟩
def w_Ben_show : List Cond := .code y_Ben_show b_Ben_show 4 (some .boolean) :: WB
abbrev b_Law_add : ByteArray := method_12_code
def y_Law_add : MethodName := ⟨R_Law, "add", "(LPointBench;III)I"⟩
abbrev b_Ben_add : ByteArray := prog_1_method_11_code
def y_Ben_add : MethodName := ⟨R_Ben, "add", "(III)V"⟩
def w_Ben_add : List Cond := .code y_Ben_add b_Ben_add 4 none :: WB
abbrev b_Sum_clear : ByteArray := prog_6_method_2_code
def y_Sum_clear : MethodName := ⟨R_Sum, "clear", "()V"⟩
def w_Sum_clear : List Cond := .code y_Sum_clear b_Sum_clear 1 none :: WB
abbrev b_Sum_join : ByteArray := prog_6_method_4_code
def y_Sum_join : MethodName := ⟨R_Sum, "join", "(LPointBench$Point;)V"⟩
def w_Sum_join : List Cond := .code y_Sum_join b_Sum_join 2 none :: WB
abbrev b_Sum_begin : ByteArray := prog_6_method_5_code
def y_Sum_begin : MethodName := ⟨R_Sum, "begin", "(LPointBench$Point;)V"⟩
def w_Sum_begin : List Cond := .code y_Sum_begin b_Sum_begin 2 none :: WB
abbrev b_Mod_isMultiple : ByteArray := prog_3_method_8_code
def y_Mod_isMultiple : MethodName := ⟨R_Mod, "isMultiple", "([J)Z"⟩
def w_Mod_isMultiple : List Cond := .code y_Mod_isMultiple b_Mod_isMultiple 2 (some .boolean) :: WB
abbrev b_Sum_joinAcross : ByteArray := prog_6_method_6_code
def y_Sum_joinAcross : MethodName := ⟨R_Sum, "joinAcross", "()V"⟩
def w_Sum_joinAcross : List Cond := .code y_Sum_joinAcross b_Sum_joinAcross 1 none :: WB
abbrev b_Sum_twice : ByteArray := prog_6_method_7_code
def y_Sum_twice : MethodName := ⟨R_Sum, "twice", "()V"⟩
def w_Sum_twice : List Cond := .code y_Sum_twice b_Sum_twice 1 none :: WB
abbrev b_Lim_scale : ByteArray := prog_2_method_5_code
def y_Lim_scale : MethodName := ⟨R_Lim, "scale", "([J[JJ)V"⟩
def w_Lim_scale : List Cond := .code y_Lim_scale b_Lim_scale 5 none :: WB
abbrev b_Sum_writeTo : ByteArray := prog_6_method_8_code
def y_Sum_writeTo : MethodName := ⟨R_Sum, "writeTo", "(LPointBench$Point;)V"⟩
def w_Sum_writeTo : List Cond := .code y_Sum_writeTo b_Sum_writeTo 2 none :: WB
abbrev b_Law_times : ByteArray := method_13_code
def y_Law_times : MethodName := ⟨R_Law, "times", "(LPointBench;III)I"⟩
abbrev b_Ben_times : ByteArray := prog_1_method_12_code
def y_Ben_times : MethodName := ⟨R_Ben, "times", "(III)V"⟩
def w_Ben_times : List Cond := .code y_Ben_times b_Ben_times 4 none :: WB
abbrev b_Sum_gather : ByteArray := prog_6_method_3_code
def y_Sum_gather : MethodName := ⟨R_Sum, "gather", "([JLPointBench$Point;[JLPointBench$Point;)V"⟩
def w_Sum_gather : List Cond := .code y_Sum_gather b_Sum_gather 6 none :: WB
abbrev b_Law_same : ByteArray := method_14_code
def y_Law_same : MethodName := ⟨R_Law, "same", "(LPointBench;II[J)I"⟩
abbrev b_Ben_same : ByteArray := prog_1_method_13_code
def y_Ben_same : MethodName := ⟨R_Ben, "same", "(II)Z"⟩
def w_Ben_same : List Cond := .code y_Ben_same b_Ben_same 3 (some .boolean) :: WB
abbrev b_Pnt_matches : ByteArray := prog_5_method_3_code
def y_Pnt_matches : MethodName := ⟨R_Pnt, "matches", "(LPointBench$Point;)Z"⟩
def w_Pnt_matches : List Cond := .code y_Pnt_matches b_Pnt_matches 2 (some .boolean) :: WB
abbrev b_Lim_areEqual : ByteArray := prog_2_method_6_code
def y_Lim_areEqual : MethodName := ⟨R_Lim, "areEqual", "([J[J)Z"⟩
def w_Lim_areEqual : List Cond := .code y_Lim_areEqual b_Lim_areEqual 3 (some .boolean) :: WB
abbrev b_Law_sign : ByteArray := method_15_code
def y_Law_sign : MethodName := ⟨R_Law, "sign", "(LPointBench;IIIII[J)I"⟩
abbrev b_Ben_sign : ByteArray := prog_1_method_14_code
def y_Ben_sign : MethodName := ⟨R_Ben, "sign", "(IIIII)Z"⟩
def w_Ben_sign : List Cond := .code y_Ben_sign b_Ben_sign 6 (some .boolean) :: WB
abbrev b_Ben_isFromOneBelowN : ByteArray := prog_1_method_21_code
def y_Ben_isFromOneBelowN : MethodName := ⟨R_Ben, "isFromOneBelowN", "([J)Z"⟩
def w_Ben_isFromOneBelowN : List Cond := .code y_Ben_isFromOneBelowN b_Ben_isFromOneBelowN 2 (some .boolean) :: WB
abbrev b_Law_verify : ByteArray := method_16_code
def y_Law_verify : MethodName := ⟨R_Law, "verify", "(LPointBench;IIII[J)I"⟩
abbrev b_Ben_verify : ByteArray := prog_1_method_15_code
def y_Ben_verify : MethodName := ⟨R_Ben, "verify", "(IIII)Z"⟩
def w_Ben_verify : List Cond := .code y_Ben_verify b_Ben_verify 5 (some .boolean) :: WB
abbrev b_Ben_productModuloN : ByteArray := prog_1_method_25_code
def y_Ben_productModuloN : MethodName := ⟨R_Ben, "productModuloN", "([J[J[J)V"⟩
def w_Ben_productModuloN : List Cond := .code y_Ben_productModuloN b_Ben_productModuloN 4 none :: WB
abbrev b_Mdl_init : ByteArray := prog_8_method_5_code
def y_Mdl_init : MethodName := ⟨R_Mdl, "<init>", "()V"⟩
def w_Mdl_init : List Cond := .code y_Mdl_init b_Mdl_init 5 none :: WB
abbrev b_Rpt_init : ByteArray := prog_9_method_1_code
def y_Rpt_init : MethodName := ⟨R_Rpt, "<init>", "()V"⟩
def w_Rpt_init : List Cond := .code y_Rpt_init b_Rpt_init 1 none :: WB
abbrev b_Rng_init : ByteArray := prog_10_method_1_code
def y_Rng_init : MethodName := ⟨R_Rng, "<init>", "([I)V"⟩
def w_Rng_init : List Cond := .code y_Rng_init b_Rng_init 4 none :: WB
abbrev b_Rng_add : ByteArray := prog_10_method_8_code
def y_Rng_add : MethodName := ⟨R_Rng, "add", "([I[I[I)V"⟩
def w_Rng_add : List Cond := .code y_Rng_add b_Rng_add 4 none :: WB
abbrev b_Rng_plus : ByteArray := prog_10_method_6_code
def y_Rng_plus : MethodName := ⟨R_Rng, "plus", "([I[I[I)J"⟩
def w_Rng_plus : List Cond := .code y_Rng_plus b_Rng_plus 6 (some .long) :: WB
abbrev b_Rng_compare : ByteArray := prog_10_method_5_code
def y_Rng_compare : MethodName := ⟨R_Rng, "compare", "([I[I)I"⟩
def w_Rng_compare : List Cond := .code y_Rng_compare b_Rng_compare 3 (some .int) :: WB
abbrev b_Rng_less : ByteArray := prog_10_method_7_code
def y_Rng_less : MethodName := ⟨R_Rng, "less", "([I[I[I)J"⟩
def w_Rng_less : List Cond := .code y_Rng_less b_Rng_less 8 (some .long) :: WB
abbrev b_Rng_copy : ByteArray := prog_10_method_2_code
def y_Rng_copy : MethodName := ⟨R_Rng, "copy", "([I[I)V"⟩
def w_Rng_copy : List Cond := .code y_Rng_copy b_Rng_copy 3 none :: WB
abbrev b_Rng_enter : ByteArray := prog_10_method_12_code
def y_Rng_enter : MethodName := ⟨R_Rng, "enter", "([I[I)V"⟩
def w_Rng_enter : List Cond := .code y_Rng_enter b_Rng_enter 3 none :: WB
abbrev b_Rng_multiply : ByteArray := prog_10_method_11_code
def y_Rng_multiply : MethodName := ⟨R_Rng, "multiply", "([I[I[I)V"⟩
def w_Rng_multiply : List Cond := .code y_Rng_multiply b_Rng_multiply 6 none :: WB
abbrev b_Rng_put : ByteArray := prog_10_method_10_code
def y_Rng_put : MethodName := ⟨R_Rng, "put", "(I[I)V"⟩
def w_Rng_put : List Cond := .code y_Rng_put b_Rng_put 6 none :: WB
abbrev b_Mdl_thrown : ByteArray := prog_8_method_6_code
def y_Mdl_thrown : MethodName := ⟨R_Mdl, "thrown", "()I"⟩
def w_Mdl_thrown : List Cond := .code y_Mdl_thrown b_Mdl_thrown 1 (some .int) :: WB
abbrev b_Mdl_set : ByteArray := prog_8_method_9_code
def y_Mdl_set : MethodName := ⟨R_Mdl, "set", "(IIJ)V"⟩
def w_Mdl_set : List Cond := .code y_Mdl_set b_Mdl_set 5 none :: WB
abbrev b_Mdl_in : ByteArray := prog_8_method_8_code
def y_Mdl_in : MethodName := ⟨R_Mdl, "in", "(II)Z"⟩
def w_Mdl_in : List Cond := .code y_Mdl_in b_Mdl_in 2 (some .boolean) :: WB
abbrev b_Mdl_good : ByteArray := prog_8_method_7_code
def y_Mdl_good : MethodName := ⟨R_Mdl, "good", "(Z)Z"⟩
def w_Mdl_good : List Cond := .code y_Mdl_good b_Mdl_good 2 (some .boolean) :: WB
abbrev b_Mdl_get : ByteArray := prog_8_method_10_code
def y_Mdl_get : MethodName := ⟨R_Mdl, "get", "(II)J"⟩
def w_Mdl_get : List Cond := .code y_Mdl_get b_Mdl_get 3 (some .long) :: WB
abbrev b_Mdl_compare : ByteArray := prog_8_method_11_code
def y_Mdl_compare : MethodName := ⟨R_Mdl, "compare", "(II)I"⟩
def w_Mdl_compare : List Cond := .code y_Mdl_compare b_Mdl_compare 3 (some .int) :: WB
abbrev b_Mdl_work : ByteArray := prog_8_method_12_code
def y_Mdl_work : MethodName := ⟨R_Mdl, "work", "(IIII)Z"⟩
def w_Mdl_work : List Cond := .code y_Mdl_work b_Mdl_work 7 (some .boolean) :: WB
abbrev b_Rng_isZero : ByteArray := prog_10_method_3_code
def y_Rng_isZero : MethodName := ⟨R_Rng, "isZero", "([I)Z"⟩
def w_Rng_isZero : List Cond := .code y_Rng_isZero b_Rng_isZero 3 (some .boolean) :: WB
abbrev b_Rng_subtract : ByteArray := prog_10_method_9_code
def y_Rng_subtract : MethodName := ⟨R_Rng, "subtract", "([I[I[I)V"⟩
def w_Rng_subtract : List Cond := .code y_Rng_subtract b_Rng_subtract 4 none :: WB
abbrev b_Rng_power : ByteArray := prog_10_method_14_code
def y_Rng_power : MethodName := ⟨R_Rng, "power", "([III[I)V"⟩
def w_Rng_power : List Cond := .code y_Rng_power b_Rng_power 7 none :: WB
abbrev b_Rng_leave : ByteArray := prog_10_method_13_code
def y_Rng_leave : MethodName := ⟨R_Rng, "leave", "([I[I)V"⟩
def w_Rng_leave : List Cond := .code y_Rng_leave b_Rng_leave 3 none :: WB
abbrev b_Mdl_base : ByteArray := prog_8_method_13_code
def y_Mdl_base : MethodName := ⟨R_Mdl, "base", "(I)V"⟩
def w_Mdl_base : List Cond := .code y_Mdl_base b_Mdl_base 2 none :: WB
abbrev b_Rpt_take : ByteArray := prog_9_method_2_code
def y_Rpt_take : MethodName := ⟨R_Rpt, "take", "(LPointBenchModel$Point;)V"⟩
def w_Rpt_take : List Cond := .code y_Rpt_take b_Rpt_take 2 none :: WB
abbrev b_Mdl_none : ByteArray := prog_8_method_14_code
def y_Mdl_none : MethodName := ⟨R_Mdl, "none", "(I)V"⟩
def w_Mdl_none : List Cond := .code y_Mdl_none b_Mdl_none 3 none :: WB
abbrev b_Mdl_lay : ByteArray := prog_8_method_16_code
def y_Mdl_lay : MethodName := ⟨R_Mdl, "lay", "(III)Z"⟩
def w_Mdl_lay : List Cond := .code y_Mdl_lay b_Mdl_lay 4 (some .boolean) :: WB
abbrev b_Mdl_square : ByteArray := prog_8_method_15_code
def y_Mdl_square : MethodName := ⟨R_Mdl, "square", "([I)Z"⟩
def w_Mdl_square : List Cond := .code y_Mdl_square b_Mdl_square 2 (some .boolean) :: WB
abbrev b_Rng_same : ByteArray := prog_10_method_4_code
def y_Rng_same : MethodName := ⟨R_Rng, "same", "([I[I)Z"⟩
def w_Rng_same : List Cond := .code y_Rng_same b_Rng_same 2 (some .boolean) :: WB
abbrev b_Mdl_lift : ByteArray := prog_8_method_17_code
def y_Mdl_lift : MethodName := ⟨R_Mdl, "lift", "(IIZ)Z"⟩
def w_Mdl_lift : List Cond := .code y_Mdl_lift b_Mdl_lift 5 (some .boolean) :: WB
abbrev b_Mdl_show : ByteArray := prog_8_method_18_code
def y_Mdl_show : MethodName := ⟨R_Mdl, "show", "(III)Z"⟩
def w_Mdl_show : List Cond := .code y_Mdl_show b_Mdl_show 4 (some .boolean) :: WB
abbrev b_Mdl_flat : ByteArray := prog_8_method_4_code
def y_Mdl_flat : MethodName := ⟨R_Mdl, "flat", "(LPointBenchModel$Point;[I[I)V"⟩
def w_Mdl_flat : List Cond := .code y_Mdl_flat b_Mdl_flat 4 none :: WB
abbrev b_Mdl_add : ByteArray := prog_8_method_19_code
def y_Mdl_add : MethodName := ⟨R_Mdl, "add", "(III)V"⟩
def w_Mdl_add : List Cond := .code y_Mdl_add b_Mdl_add 4 none :: WB
abbrev b_Mdl_plus : ByteArray := prog_8_method_2_code
def y_Mdl_plus : MethodName := ⟨R_Mdl, "plus", "(LPointBenchModel$Point;LPointBenchModel$Point;)V"⟩
def w_Mdl_plus : List Cond := .code y_Mdl_plus b_Mdl_plus 4 none :: WB
abbrev b_Mdl_doubled : ByteArray := prog_8_method_1_code
def y_Mdl_doubled : MethodName := ⟨R_Mdl, "doubled", "(LPointBenchModel$Point;)V"⟩
def w_Mdl_doubled : List Cond := .code y_Mdl_doubled b_Mdl_doubled 2 none :: WB
abbrev b_Mdl_times : ByteArray := prog_8_method_20_code
def y_Mdl_times : MethodName := ⟨R_Mdl, "times", "(III)V"⟩
def w_Mdl_times : List Cond := .code y_Mdl_times b_Mdl_times 4 none :: WB
abbrev b_Mdl_times_p : ByteArray := prog_8_method_3_code
def y_Mdl_times_p : MethodName := ⟨R_Mdl, "times", "([ILPointBenchModel$Point;LPointBenchModel$Point;)V"⟩
def w_Mdl_times_p : List Cond := .code y_Mdl_times_p b_Mdl_times_p 5 none :: WB
abbrev b_Mdl_same : ByteArray := prog_8_method_21_code
def y_Mdl_same : MethodName := ⟨R_Mdl, "same", "(II)Z"⟩
def w_Mdl_same : List Cond := .code y_Mdl_same b_Mdl_same 4 (some .boolean) :: WB
abbrev b_Mdl_sign : ByteArray := prog_8_method_24_code
def y_Mdl_sign : MethodName := ⟨R_Mdl, "sign", "(IIIII)Z"⟩
def w_Mdl_sign : List Cond := .code y_Mdl_sign b_Mdl_sign 6 (some .boolean) :: WB
abbrev b_Mdl_isPart : ByteArray := prog_8_method_22_code
def y_Mdl_isPart : MethodName := ⟨R_Mdl, "isPart", "([I)Z"⟩
def w_Mdl_isPart : List Cond := .code y_Mdl_isPart b_Mdl_isPart 2 (some .boolean) :: WB
abbrev b_Mdl_reduce : ByteArray := prog_8_method_23_code
def y_Mdl_reduce : MethodName := ⟨R_Mdl, "reduce", "([I)V"⟩
def w_Mdl_reduce : List Cond := .code y_Mdl_reduce b_Mdl_reduce 2 none :: WB
abbrev b_Mdl_verify : ByteArray := prog_8_method_25_code
def y_Mdl_verify : MethodName := ⟨R_Mdl, "verify", "(IIII)Z"⟩
def w_Mdl_verify : List Cond := .code y_Mdl_verify b_Mdl_verify 5 (some .boolean) :: WB
abbrev b_Law_law : ByteArray := code
def y_Law_law : MethodName := ⟨R_Law, "law", "([I)Z"⟩
def vk_0 : List Cond := [.selects "java/lang/Throwable" ⟨"java/lang/Throwable", "fillInStackTrace", "(I)Ljava/lang/Throwable;"⟩ ⟨"java/lang/Throwable", "fillInStackTrace", "(I)Ljava/lang/Throwable;"⟩, .selects "PointBench" y_Ben_workOnLeft y_Ben_workOnLeft, .selects "PointBench$Modulus" y_Mod_fold y_Mod_fold, .selects "PointBench$Modulus" y_Mod_dropTop y_Mod_dropTop, .selects "PointBench" y_Ben_squareOfY y_Ben_squareOfY, .selects "PointBench" y_Ben_isRoot y_Ben_isRoot, .selects "PointBench" y_Ben_makeParity y_Ben_makeParity, .selects "PointBench$RunningSum" y_Sum_begin y_Sum_begin, .selects "PointBench$RunningSum" y_Sum_joinAcross y_Sum_joinAcross, .selects "PointBench$RunningSum" y_Sum_twice y_Sum_twice, .selects "PointBench" y_Ben_isFromOneBelowN y_Ben_isFromOneBelowN, .selects "PointBench" y_Ben_productModuloN y_Ben_productModuloN, .selects "PointBenchModel$Ring" y_Rng_put y_Rng_put, .selects "PointBenchModel" y_Mdl_good y_Mdl_good, .selects "PointBenchModel" y_Mdl_square y_Mdl_square, .selects "PointBenchModel" y_Mdl_flat y_Mdl_flat, .selects "PointBenchModel" y_Mdl_plus y_Mdl_plus, .selects "PointBenchModel" y_Mdl_doubled y_Mdl_doubled, .selects "PointBenchModel" y_Mdl_times_p y_Mdl_times_p, .selects "PointBenchModel" y_Mdl_isPart y_Mdl_isPart]
set_option maxRecDepth 100000 in
theorem ve_0 : (lw_tbl.drop 0).take 20 = vk_0 := rfl
def vk_1 : List Cond := [.selects "PointBenchModel" y_Mdl_reduce y_Mdl_reduce, .initialized "PointBenchLaw", .initialized "PointBench", .initialized "PointBench$Modulus", .initialized "PointBench$Point", .initialized "PointBench$RunningSum", .initialized "PointBench$Limbs", .initialized "PointBenchModel", .initialized "PointBenchModel$Point", .initialized "PointBenchModel$Ring", .initialized "java/lang/Throwable", .initialized "java/lang/Exception", .initialized "java/lang/RuntimeException", .initialized "java/lang/IllegalArgumentException", .initialized "PointBench$Parts", .initialized "java/lang/System", .classLink "PointBenchLaw" (8 : Nat) "PointBench", .instantiable "PointBench" (12 : Nat), .methodLink "PointBenchLaw" (63 : Nat) y_Ben_init, .instanceMethod y_Ben_init]
set_option maxRecDepth 100000 in
theorem ve_1 : (lw_tbl.drop 20).take 20 = vk_1 := rfl
def vk_2 : List Cond := [.code y_Ben_init prog_1_method_1_code (2 : Nat) (Option.none : Option Jvm.ClassFile.FieldType), .methodLink "PointBench" (3 : Nat) objectInit, .instanceMethod objectInit, .code objectInit object_method_1_code (1 : Nat) (Option.none : Option Jvm.ClassFile.FieldType), .classLink "PointBench" (9 : Nat) "[[J", .arrayOver (Jvm.ClassFile.FieldType.array Jvm.ClassFile.FieldType.long), .classLink "PointBench" (14 : Nat) "PointBench$Point", .arrayOver (Jvm.ClassFile.FieldType.object "PointBench$Point"), .classLink "PointBench" (20 : Nat) "PointBench$Modulus", .instantiable "PointBench$Modulus" (9 : Nat), .fieldLink "PointBench" (22 : Nat) "PointBench" "P" "[J", .laysStatic "PointBench" "P" "[J", .fieldLink "PointBench" (26 : Nat) "PointBench" "P_LESS_TWO" "[J", .laysStatic "PointBench" "P_LESS_TWO" "[J", .fieldLink "PointBench" (29 : Nat) "PointBench" "P_REST" "[J", .laysStatic "PointBench" "P_REST" "[J", .fieldLink "PointBench" (32 : Nat) "PointBench" "P_WRAP" "[J", .laysStatic "PointBench" "P_WRAP" "[J", .methodLink "PointBench" (35 : Nat) y_Mod_init, .instanceMethod y_Mod_init]
set_option maxRecDepth 100000 in
theorem ve_2 : (lw_tbl.drop 40).take 20 = vk_2 := rfl
def vk_3 : List Cond := [.code y_Mod_init prog_3_method_1_code (6 : Nat) (Option.none : Option Jvm.ClassFile.FieldType), .methodLink "PointBench$Modulus" (3 : Nat) objectInit, .fieldLink "PointBench$Modulus" (24 : Nat) "PointBench$Modulus" "parts" "[J", .fieldLink "PointBench$Modulus" (27 : Nat) "PointBench$Modulus" "partsLessTwo" "[J", .fieldLink "PointBench$Modulus" (30 : Nat) "PointBench$Modulus" "rest" "[J", .fieldLink "PointBench$Modulus" (33 : Nat) "PointBench$Modulus" "wrap" "[J", .fieldLink "PointBench$Modulus" (36 : Nat) "PointBench$Modulus" "isWrapLong" "Z", .fieldLink "PointBench$Modulus" (9 : Nat) "PointBench$Modulus" "wide" "[J", .fieldLink "PointBench$Modulus" (15 : Nat) "PointBench$Modulus" "trial" "[J", .fieldLink "PointBench$Modulus" (18 : Nat) "PointBench$Modulus" "gap" "[J", .fieldLink "PointBench$Modulus" (21 : Nat) "PointBench$Modulus" "factor" "[J", .laysFinal "PointBench$Modulus" "PointBench$Modulus" "parts" "[J", .soleField "PointBench$Modulus" "parts", .laysFinal "PointBench$Modulus" "PointBench$Modulus" "partsLessTwo" "[J", .soleField "PointBench$Modulus" "partsLessTwo", .laysFinal "PointBench$Modulus" "PointBench$Modulus" "rest" "[J", .soleField "PointBench$Modulus" "rest", .laysFinal "PointBench$Modulus" "PointBench$Modulus" "wrap" "[J", .soleField "PointBench$Modulus" "wrap", .laysFinal "PointBench$Modulus" "PointBench$Modulus" "isWrapLong" "Z"]
set_option maxRecDepth 100000 in
theorem ve_3 : (lw_tbl.drop 60).take 20 = vk_3 := rfl
def vk_4 : List Cond := [.soleField "PointBench$Modulus" "isWrapLong", .laysFinal "PointBench$Modulus" "PointBench$Modulus" "wide" "[J", .soleField "PointBench$Modulus" "wide", .laysFinal "PointBench$Modulus" "PointBench$Modulus" "trial" "[J", .soleField "PointBench$Modulus" "trial", .laysFinal "PointBench$Modulus" "PointBench$Modulus" "gap" "[J", .soleField "PointBench$Modulus" "gap", .laysFinal "PointBench$Modulus" "PointBench$Modulus" "factor" "[J", .soleField "PointBench$Modulus" "factor", .superclass "PointBench$Modulus" "java/lang/Object", .arrayClass Jvm.ClassFile.FieldType.long, .fieldLink "PointBench" (42 : Nat) "PointBench" "N" "[J", .laysStatic "PointBench" "N" "[J", .fieldLink "PointBench" (45 : Nat) "PointBench" "N_LESS_TWO" "[J", .laysStatic "PointBench" "N_LESS_TWO" "[J", .fieldLink "PointBench" (48 : Nat) "PointBench" "N_REST" "[J", .laysStatic "PointBench" "N_REST" "[J", .fieldLink "PointBench" (51 : Nat) "PointBench" "N_WRAP" "[J", .laysStatic "PointBench" "N_WRAP" "[J", .instantiable "PointBench$Point" (3 : Nat)]
set_option maxRecDepth 100000 in
theorem ve_4 : (lw_tbl.drop 80).take 20 = vk_4 := rfl
def vk_5 : List Cond := [.methodLinkNest "PointBench" (57 : Nat) y_Pnt_init "PointBench", .instanceMethod y_Pnt_init, .code y_Pnt_init prog_5_method_1_code (1 : Nat) (Option.none : Option Jvm.ClassFile.FieldType), .methodLink "PointBench$Point" (3 : Nat) objectInit, .fieldLink "PointBench$Point" (9 : Nat) "PointBench$Point" "x" "[J", .fieldLink "PointBench" (89 : Nat) "PointBench$Point" "x" "[J", .fieldLink "PointBench$RunningSum" (72 : Nat) "PointBench$Point" "x" "[J", .fieldLink "PointBench$Point" (15 : Nat) "PointBench$Point" "y" "[J", .fieldLink "PointBench" (101 : Nat) "PointBench$Point" "y" "[J", .fieldLink "PointBench$RunningSum" (78 : Nat) "PointBench$Point" "y" "[J", .fieldLink "PointBench$Point" (18 : Nat) "PointBench$Point" "isNone" "Z", .fieldLink "PointBench" (107 : Nat) "PointBench$Point" "isNone" "Z", .fieldLink "PointBench$RunningSum" (60 : Nat) "PointBench$Point" "isNone" "Z", .laysFinal "PointBench$Point" "PointBench$Point" "x" "[J", .soleField "PointBench$Point" "x", .laysFinal "PointBench$Point" "PointBench$Point" "y" "[J", .soleField "PointBench$Point" "y", .lays "PointBench$Point" "PointBench$Point" "isNone" "Z", .soleField "PointBench$Point" "isNone", .superclass "PointBench$Point" "java/lang/Object"]
set_option maxRecDepth 100000 in
theorem ve_5 : (lw_tbl.drop 100).take 20 = vk_5 := rfl
def vk_6 : List Cond := [.classLink "PointBench" (62 : Nat) "PointBench$RunningSum", .instantiable "PointBench$RunningSum" (10 : Nat), .methodLink "PointBench" (64 : Nat) y_Sum_init, .instanceMethod y_Sum_init, .code y_Sum_init prog_6_method_1_code (2 : Nat) (Option.none : Option Jvm.ClassFile.FieldType), .methodLink "PointBench$RunningSum" (3 : Nat) objectInit, .fieldLink "PointBench$RunningSum" (40 : Nat) "PointBench$RunningSum" "field" "LPointBench$Modulus;", .fieldLink "PointBench$RunningSum" (9 : Nat) "PointBench$RunningSum" "isNone" "Z", .fieldLink "PointBench$RunningSum" (15 : Nat) "PointBench$RunningSum" "x" "[J", .fieldLink "PointBench$RunningSum" (19 : Nat) "PointBench$RunningSum" "y" "[J", .fieldLink "PointBench$RunningSum" (22 : Nat) "PointBench$RunningSum" "z" "[J", .fieldLink "PointBench$RunningSum" (25 : Nat) "PointBench$RunningSum" "across" "[J", .fieldLink "PointBench$RunningSum" (28 : Nat) "PointBench$RunningSum" "rise" "[J", .fieldLink "PointBench$RunningSum" (31 : Nat) "PointBench$RunningSum" "square" "[J", .fieldLink "PointBench$RunningSum" (34 : Nat) "PointBench$RunningSum" "cube" "[J", .fieldLink "PointBench$RunningSum" (37 : Nat) "PointBench$RunningSum" "middle" "[J", .laysFinal "PointBench$RunningSum" "PointBench$RunningSum" "field" "LPointBench$Modulus;", .soleField "PointBench$RunningSum" "field", .lays "PointBench$RunningSum" "PointBench$RunningSum" "isNone" "Z", .soleField "PointBench$RunningSum" "isNone"]
set_option maxRecDepth 100000 in
theorem ve_6 : (lw_tbl.drop 120).take 20 = vk_6 := rfl
def vk_7 : List Cond := [.laysFinal "PointBench$RunningSum" "PointBench$RunningSum" "x" "[J", .soleField "PointBench$RunningSum" "x", .laysFinal "PointBench$RunningSum" "PointBench$RunningSum" "y" "[J", .soleField "PointBench$RunningSum" "y", .laysFinal "PointBench$RunningSum" "PointBench$RunningSum" "z" "[J", .soleField "PointBench$RunningSum" "z", .laysFinal "PointBench$RunningSum" "PointBench$RunningSum" "across" "[J", .soleField "PointBench$RunningSum" "across", .laysFinal "PointBench$RunningSum" "PointBench$RunningSum" "rise" "[J", .soleField "PointBench$RunningSum" "rise", .laysFinal "PointBench$RunningSum" "PointBench$RunningSum" "square" "[J", .soleField "PointBench$RunningSum" "square", .laysFinal "PointBench$RunningSum" "PointBench$RunningSum" "cube" "[J", .soleField "PointBench$RunningSum" "cube", .laysFinal "PointBench$RunningSum" "PointBench$RunningSum" "middle" "[J", .soleField "PointBench$RunningSum" "middle", .superclass "PointBench$RunningSum" "java/lang/Object", .fieldLink "PointBench" (92 : Nat) "PointBench" "G_X" "[J", .laysStatic "PointBench" "G_X" "[J", .methodLink "PointBench" (95 : Nat) y_Lim_unpack]
set_option maxRecDepth 100000 in
theorem ve_7 : (lw_tbl.drop 140).take 20 = vk_7 := rfl
def vk_8 : List Cond := [.static y_Lim_unpack, .code y_Lim_unpack prog_2_method_9_code (7 : Nat) (Option.none : Option Jvm.ClassFile.FieldType), .constantLong "PointBench$Limbs" (15 : Nat) (67108863 : Int64), .fieldLink "PointBench" (104 : Nat) "PointBench" "G_Y" "[J", .laysStatic "PointBench" "G_Y" "[J", .fieldLink "PointBench" (11 : Nat) "PointBench" "numbers" "[[J", .fieldLink "PointBench" (16 : Nat) "PointBench" "points" "[LPointBench$Point;", .fieldLink "PointBench" (38 : Nat) "PointBench" "field" "LPointBench$Modulus;", .fieldLink "PointBench" (54 : Nat) "PointBench" "order" "LPointBench$Modulus;", .fieldLink "PointBench" (58 : Nat) "PointBench" "generator" "LPointBench$Point;", .fieldLink "PointBench" (67 : Nat) "PointBench" "sum" "LPointBench$RunningSum;", .fieldLink "PointBench" (71 : Nat) "PointBench" "found" "LPointBench$Point;", .fieldLink "PointBench" (74 : Nat) "PointBench" "left" "[J", .fieldLink "PointBench" (77 : Nat) "PointBench" "right" "[J", .fieldLink "PointBench" (80 : Nat) "PointBench" "third" "[J", .fieldLink "PointBench" (83 : Nat) "PointBench" "ofGenerator" "[J", .fieldLink "PointBench" (86 : Nat) "PointBench" "ofKey" "[J", .laysFinal "PointBench" "PointBench" "numbers" "[[J", .soleField "PointBench" "numbers", .laysFinal "PointBench" "PointBench" "points" "[LPointBench$Point;"]
set_option maxRecDepth 100000 in
theorem ve_8 : (lw_tbl.drop 160).take 20 = vk_8 := rfl
def vk_9 : List Cond := [.soleField "PointBench" "points", .laysFinal "PointBench" "PointBench" "field" "LPointBench$Modulus;", .soleField "PointBench" "field", .laysFinal "PointBench" "PointBench" "order" "LPointBench$Modulus;", .soleField "PointBench" "order", .laysFinal "PointBench" "PointBench" "generator" "LPointBench$Point;", .soleField "PointBench" "generator", .laysFinal "PointBench" "PointBench" "sum" "LPointBench$RunningSum;", .soleField "PointBench" "sum", .laysFinal "PointBench" "PointBench" "found" "LPointBench$Point;", .soleField "PointBench" "found", .laysFinal "PointBench" "PointBench" "left" "[J", .soleField "PointBench" "left", .laysFinal "PointBench" "PointBench" "right" "[J", .soleField "PointBench" "right", .laysFinal "PointBench" "PointBench" "third" "[J", .soleField "PointBench" "third", .laysFinal "PointBench" "PointBench" "ofGenerator" "[J", .soleField "PointBench" "ofGenerator", .laysFinal "PointBench" "PointBench" "ofKey" "[J"]
set_option maxRecDepth 100000 in
theorem ve_9 : (lw_tbl.drop 180).take 20 = vk_9 := rfl
def vk_10 : List Cond := [.soleField "PointBench" "ofKey", .superclass "PointBench" "java/lang/Object", .methodLink "PointBenchLaw" (69 : Nat) y_Law_set, .static y_Law_set, .codeWith y_Law_set method_3_code (6 : Nat) (Option.some Jvm.ClassFile.FieldType.int) [((0 : Nat), (7 : Nat), (10 : Nat), (13 : Nat))], .classLink "PointBenchLaw" (13 : Nat) "java/lang/IllegalArgumentException", .methodLink "PointBenchLaw" (7 : Nat) y_Ben_set, .instanceMethod y_Ben_set, .selects "PointBench" y_Ben_set y_Ben_set, .code y_Ben_set prog_1_method_2_code (5 : Nat) (Option.none : Option Jvm.ClassFile.FieldType), .methodLink "PointBench" (111 : Nat) y_Ben_needNumber, .static y_Ben_needNumber, .code y_Ben_needNumber prog_1_method_16_code (1 : Nat) (Option.none : Option Jvm.ClassFile.FieldType), .classLink "PointBench" (210 : Nat) "java/lang/IllegalArgumentException", .instantiable "java/lang/IllegalArgumentException" (6 : Nat), .castable "java/lang/IllegalArgumentException" "java/lang/IllegalArgumentException", .declares ({ cls := "java/lang/RuntimeException", name := "<init>", desc := "()V" } : Jvm.MethodName), .declares ({ cls := "java/lang/RuntimeException", name := "<init>", desc := "(Ljava/lang/String;)V" } : Jvm.MethodName), .declares ({ cls := "java/lang/Exception", name := "<init>", desc := "()V" } : Jvm.MethodName), .declares ({ cls := "java/lang/Exception", name := "<init>", desc := "(Ljava/lang/String;)V" } : Jvm.MethodName)]
set_option maxRecDepth 100000 in
theorem ve_10 : (lw_tbl.drop 200).take 20 = vk_10 := rfl
def vk_11 : List Cond := [.declares ({ cls := "java/lang/Throwable", name := "<init>", desc := "()V" } : Jvm.MethodName), .declares ({ cls := "java/lang/Throwable", name := "<init>", desc := "(Ljava/lang/String;)V" } : Jvm.MethodName), .selects "java/lang/IllegalArgumentException" ({ cls := "java/lang/Throwable", name := "fillInStackTrace", desc := "(I)Ljava/lang/Throwable;" } : Jvm.MethodName) ({ cls := "java/lang/Throwable", name := "fillInStackTrace", desc := "(I)Ljava/lang/Throwable;" } : Jvm.MethodName), .selects "java/lang/IllegalArgumentException" ({ cls := "java/lang/Throwable", name := "fillInStackTrace", desc := "()Ljava/lang/Throwable;" } : Jvm.MethodName) ({ cls := "java/lang/Throwable", name := "fillInStackTrace", desc := "()Ljava/lang/Throwable;" } : Jvm.MethodName), .lays "java/lang/IllegalArgumentException" "java/lang/Throwable" "cause" "Ljava/lang/Throwable;", .lays "java/lang/Throwable" "java/lang/Throwable" "cause" "Ljava/lang/Throwable;", .lays "java/lang/IllegalArgumentException" "java/lang/Throwable" "stackTrace" "[Ljava/lang/StackTraceElement;", .lays "java/lang/Throwable" "java/lang/Throwable" "stackTrace" "[Ljava/lang/StackTraceElement;", .lays "java/lang/IllegalArgumentException" "java/lang/Throwable" "suppressedExceptions" "Ljava/util/List;", .lays "java/lang/Throwable" "java/lang/Throwable" "suppressedExceptions" "Ljava/util/List;", .lays "java/lang/IllegalArgumentException" "java/lang/Throwable" "detailMessage" "Ljava/lang/String;", .lays "java/lang/Throwable" "java/lang/Throwable" "detailMessage" "Ljava/lang/String;", .lays "java/lang/IllegalArgumentException" "java/lang/Throwable" "backtrace" "Ljava/lang/Object;", .lays "java/lang/Throwable" "java/lang/Throwable" "backtrace" "Ljava/lang/Object;", .fieldLink "java/lang/Throwable" (198 : Nat) "java/lang/Throwable" "backtrace" "Ljava/lang/Object;", .superclass "java/lang/Throwable" "java/lang/Object", .instanceMethod ({ cls := "java/lang/Throwable", name := "<init>", desc := "()V" } : Jvm.MethodName), .code ({ cls := "java/lang/Throwable", name := "<init>", desc := "()V" } : Jvm.MethodName) prog_16_method_1_code (1 : Nat) (Option.none : Option Jvm.ClassFile.FieldType), .methodLink "java/lang/Throwable" (1 : Nat) objectInit, .fieldLink "java/lang/Throwable" (13 : Nat) "java/lang/Throwable" "UNASSIGNED_STACK" "[Ljava/lang/StackTraceElement;"]
set_option maxRecDepth 100000 in
theorem ve_11 : (lw_tbl.drop 220).take 20 = vk_11 := rfl
def vk_12 : List Cond := [.laysStatic "java/lang/Throwable" "UNASSIGNED_STACK" "[Ljava/lang/StackTraceElement;", .fieldLink "java/lang/Throwable" (20 : Nat) "java/lang/Throwable" "SUPPRESSED_SENTINEL" "Ljava/util/List;", .laysStatic "java/lang/Throwable" "SUPPRESSED_SENTINEL" "Ljava/util/List;", .methodLink "java/lang/Throwable" (27 : Nat) ({ cls := "java/lang/Throwable", name := "fillInStackTrace", desc := "()Ljava/lang/Throwable;" } : Jvm.MethodName), .instanceMethod ({ cls := "java/lang/Throwable", name := "fillInStackTrace", desc := "()Ljava/lang/Throwable;" } : Jvm.MethodName), .sameMethod "java/lang/Throwable" "java/lang/Throwable" "fillInStackTrace" "()Ljava/lang/Throwable;", .codeSync ({ cls := "java/lang/Throwable", name := "fillInStackTrace", desc := "()Ljava/lang/Throwable;" } : Jvm.MethodName) prog_16_method_18_code (1 : Nat) (Option.some (Jvm.ClassFile.FieldType.object "java/lang/Throwable")), .methodLink "java/lang/Throwable" (202 : Nat) ({ cls := "java/lang/Throwable", name := "fillInStackTrace", desc := "(I)Ljava/lang/Throwable;" } : Jvm.MethodName), .privateMethod ({ cls := "java/lang/Throwable", name := "fillInStackTrace", desc := "(I)Ljava/lang/Throwable;" } : Jvm.MethodName), .instanceMethod ({ cls := "java/lang/Throwable", name := "fillInStackTrace", desc := "(I)Ljava/lang/Throwable;" } : Jvm.MethodName), .instantiable "java/lang/Throwable" (6 : Nat), .native ({ cls := "java/lang/Throwable", name := "fillInStackTrace", desc := "(I)Ljava/lang/Throwable;" } : Jvm.MethodName), .stringRef "PointBench" (212 : Nat) "no such NUMBER", .methodLink "PointBench" (214 : Nat) ({ cls := "java/lang/IllegalArgumentException", name := "<init>", desc := "(Ljava/lang/String;)V" } : Jvm.MethodName), .instanceMethod ({ cls := "java/lang/IllegalArgumentException", name := "<init>", desc := "(Ljava/lang/String;)V" } : Jvm.MethodName), .code ({ cls := "java/lang/IllegalArgumentException", name := "<init>", desc := "(Ljava/lang/String;)V" } : Jvm.MethodName) prog_12_method_2_code (2 : Nat) (Option.none : Option Jvm.ClassFile.FieldType), .methodLink "java/lang/IllegalArgumentException" (7 : Nat) ({ cls := "java/lang/RuntimeException", name := "<init>", desc := "(Ljava/lang/String;)V" } : Jvm.MethodName), .instanceMethod ({ cls := "java/lang/RuntimeException", name := "<init>", desc := "(Ljava/lang/String;)V" } : Jvm.MethodName), .code ({ cls := "java/lang/RuntimeException", name := "<init>", desc := "(Ljava/lang/String;)V" } : Jvm.MethodName) prog_13_method_2_code (2 : Nat) (Option.none : Option Jvm.ClassFile.FieldType), .methodLink "java/lang/RuntimeException" (7 : Nat) ({ cls := "java/lang/Exception", name := "<init>", desc := "(Ljava/lang/String;)V" } : Jvm.MethodName)]
set_option maxRecDepth 100000 in
theorem ve_12 : (lw_tbl.drop 240).take 20 = vk_12 := rfl
def vk_13 : List Cond := [.instanceMethod ({ cls := "java/lang/Exception", name := "<init>", desc := "(Ljava/lang/String;)V" } : Jvm.MethodName), .code ({ cls := "java/lang/Exception", name := "<init>", desc := "(Ljava/lang/String;)V" } : Jvm.MethodName) prog_11_method_2_code (2 : Nat) (Option.none : Option Jvm.ClassFile.FieldType), .methodLink "java/lang/Exception" (7 : Nat) ({ cls := "java/lang/Throwable", name := "<init>", desc := "(Ljava/lang/String;)V" } : Jvm.MethodName), .instanceMethod ({ cls := "java/lang/Throwable", name := "<init>", desc := "(Ljava/lang/String;)V" } : Jvm.MethodName), .code ({ cls := "java/lang/Throwable", name := "<init>", desc := "(Ljava/lang/String;)V" } : Jvm.MethodName) prog_16_method_2_code (2 : Nat) (Option.none : Option Jvm.ClassFile.FieldType), .fieldLink "java/lang/Throwable" (198 : Nat) "java/lang/Throwable" "backtrace" "Ljava/lang/Object;", .fieldLink "java/lang/Throwable" (31 : Nat) "java/lang/Throwable" "detailMessage" "Ljava/lang/String;", .fieldLink "java/lang/Throwable" (7 : Nat) "java/lang/Throwable" "cause" "Ljava/lang/Throwable;", .fieldLink "java/lang/Throwable" (17 : Nat) "java/lang/Throwable" "stackTrace" "[Ljava/lang/StackTraceElement;", .fieldLink "java/lang/Throwable" (24 : Nat) "java/lang/Throwable" "suppressedExceptions" "Ljava/util/List;", .soleField "java/lang/Throwable" "backtrace", .soleField "java/lang/Throwable" "detailMessage", .soleField "java/lang/Throwable" "cause", .soleField "java/lang/Throwable" "stackTrace", .lays "java/lang/IllegalArgumentException" "java/lang/Throwable" "depth" "I", .soleField "java/lang/Throwable" "depth", .soleField "java/lang/Throwable" "suppressedExceptions", .superclass "java/lang/IllegalArgumentException" "java/lang/RuntimeException", .arrayClass Jvm.ClassFile.FieldType.byte, .methodLink "PointBench" (115 : Nat) y_Ben_needPart]
set_option maxRecDepth 100000 in
theorem ve_13 : (lw_tbl.drop 260).take 20 = vk_13 := rfl
def vk_14 : List Cond := [.static y_Ben_needPart, .code y_Ben_needPart prog_1_method_17_code (1 : Nat) (Option.none : Option Jvm.ClassFile.FieldType), .stringRef "PointBench" (217 : Nat) "no such PART", .methodLink "PointBenchLaw" (79 : Nat) y_Law_get, .static y_Law_get, .codeWith y_Law_get method_4_code (5 : Nat) (Option.some Jvm.ClassFile.FieldType.int) [((0 : Nat), (9 : Nat), (12 : Nat), (13 : Nat))], .methodLink "PointBenchLaw" (15 : Nat) y_Ben_get, .instanceMethod y_Ben_get, .selects "PointBench" y_Ben_get y_Ben_get, .code y_Ben_get prog_1_method_3_code (3 : Nat) (Option.some Jvm.ClassFile.FieldType.long), .methodLink "PointBenchLaw" (83 : Nat) y_Law_compare, .static y_Law_compare, .codeWith y_Law_compare method_5_code (5 : Nat) (Option.some Jvm.ClassFile.FieldType.int) [((0 : Nat), (10 : Nat), (13 : Nat), (13 : Nat))], .methodLink "PointBenchLaw" (19 : Nat) y_Ben_compare, .instanceMethod y_Ben_compare, .selects "PointBench" y_Ben_compare y_Ben_compare, .code y_Ben_compare prog_1_method_4_code (3 : Nat) (Option.some Jvm.ClassFile.FieldType.int), .methodLink "PointBench" (118 : Nat) y_Par_order, .static y_Par_order, .code y_Par_order prog_4_method_2_code (3 : Nat) (Option.some Jvm.ClassFile.FieldType.int)]
set_option maxRecDepth 100000 in
theorem ve_14 : (lw_tbl.drop 280).take 20 = vk_14 := rfl
def vk_15 : List Cond := [.constantLong "PointBench$Parts" (9 : Nat) (-9223372036854775808 : Int64), .methodLink "PointBenchLaw" (86 : Nat) y_Law_work, .static y_Law_work, .codeWith y_Law_work method_6_code (7 : Nat) (Option.some Jvm.ClassFile.FieldType.int) [((0 : Nat), (21 : Nat), (24 : Nat), (13 : Nat))], .methodLink "PointBenchLaw" (23 : Nat) y_Ben_work, .instanceMethod y_Ben_work, .selects "PointBench" y_Ben_work y_Ben_work, .code y_Ben_work prog_1_method_5_code (7 : Nat) (Option.some Jvm.ClassFile.FieldType.boolean), .methodLink "PointBench" (123 : Nat) y_Ben_needWork, .static y_Ben_needWork, .code y_Ben_needWork prog_1_method_19_code (1 : Nat) (Option.none : Option Jvm.ClassFile.FieldType), .stringRef "PointBench" (221 : Nat) "no such work", .methodLink "PointBench" (126 : Nat) y_Mod_isAbove, .instanceMethod y_Mod_isAbove, .selects "PointBench$Modulus" y_Mod_isAbove y_Mod_isAbove, .code y_Mod_isAbove prog_3_method_2_code (2 : Nat) (Option.some Jvm.ClassFile.FieldType.boolean), .methodLink "PointBench$Modulus" (40 : Nat) y_Par_order, .methodLink "PointBench" (130 : Nat) y_Par_areZero, .static y_Par_areZero, .code y_Par_areZero prog_4_method_3_code (1 : Nat) (Option.some Jvm.ClassFile.FieldType.boolean)]
set_option maxRecDepth 100000 in
theorem ve_15 : (lw_tbl.drop 300).take 20 = vk_15 := rfl
def vk_16 : List Cond := [.fieldLinkNest "PointBench$Parts" (11 : Nat) "PointBench" "ZERO" "[J" "PointBench", .laysStatic "PointBench" "ZERO" "[J", .methodLink "PointBench$Parts" (15 : Nat) y_Par_order, .methodLink "PointBench" (133 : Nat) y_Ben_workOnLeft, .privateMethod y_Ben_workOnLeft, .instanceMethod y_Ben_workOnLeft, .code y_Ben_workOnLeft prog_1_method_20_code (3 : Nat) (Option.none : Option Jvm.ClassFile.FieldType), .methodLink "PointBench" (198 : Nat) y_Lim_plus, .static y_Lim_plus, .code y_Lim_plus prog_2_method_3_code (4 : Nat) (Option.none : Option Jvm.ClassFile.FieldType), .methodLink "PointBench" (223 : Nat) y_Lim_minus, .static y_Lim_minus, .code y_Lim_minus prog_2_method_4_code (4 : Nat) (Option.none : Option Jvm.ClassFile.FieldType), .methodLink "PointBench" (195 : Nat) y_Mod_multiply, .instanceMethod y_Mod_multiply, .selects "PointBench$Modulus" y_Mod_multiply y_Mod_multiply, .code y_Mod_multiply prog_3_method_3_code (4 : Nat) (Option.none : Option Jvm.ClassFile.FieldType), .methodLink "PointBench$Modulus" (46 : Nat) y_Lim_product, .static y_Lim_product, .code y_Lim_product prog_2_method_11_code (43 : Nat) (Option.none : Option Jvm.ClassFile.FieldType)]
set_option maxRecDepth 100000 in
theorem ve_16 : (lw_tbl.drop 320).take 20 = vk_16 := rfl
def vk_17 : List Cond := [.methodLink "PointBench$Modulus" (52 : Nat) y_Lim_carry, .static y_Lim_carry, .code y_Lim_carry prog_2_method_8_code (6 : Nat) (Option.none : Option Jvm.ClassFile.FieldType), .methodLink "PointBench$Modulus" (56 : Nat) y_Mod_fold, .privateMethod y_Mod_fold, .instanceMethod y_Mod_fold, .code y_Mod_fold prog_3_method_4_code (6 : Nat) (Option.none : Option Jvm.ClassFile.FieldType), .methodLink "PointBench$Modulus" (60 : Nat) y_Lim_copy, .static y_Lim_copy, .code y_Lim_copy prog_2_method_2_code (2 : Nat) (Option.none : Option Jvm.ClassFile.FieldType), .methodLink "PointBench$Limbs" (9 : Nat) ({ cls := "java/lang/System", name := "arraycopy", desc := "(Ljava/lang/Object;ILjava/lang/Object;II)V" } : Jvm.MethodName), .static ({ cls := "java/lang/System", name := "arraycopy", desc := "(Ljava/lang/Object;ILjava/lang/Object;II)V" } : Jvm.MethodName), .native ({ cls := "java/lang/System", name := "arraycopy", desc := "(Ljava/lang/Object;ILjava/lang/Object;II)V" } : Jvm.MethodName), .methodLink "PointBench" (201 : Nat) y_Mod_invert, .instanceMethod y_Mod_invert, .selects "PointBench$Modulus" y_Mod_invert y_Mod_invert, .code y_Mod_invert prog_3_method_6_code (3 : Nat) (Option.none : Option Jvm.ClassFile.FieldType), .methodLink "PointBench$Modulus" (77 : Nat) y_Mod_power, .instanceMethod y_Mod_power, .selects "PointBench$Modulus" y_Mod_power y_Mod_power]
set_option maxRecDepth 100000 in
theorem ve_17 : (lw_tbl.drop 340).take 20 = vk_17 := rfl
def vk_18 : List Cond := [.code y_Mod_power prog_3_method_5_code (5 : Nat) (Option.none : Option Jvm.ClassFile.FieldType), .fieldLinkNest "PointBench$Modulus" (64 : Nat) "PointBench" "ZERO" "[J" "PointBench", .methodLink "PointBench$Modulus" (67 : Nat) y_Lim_unpack, .methodLink "PointBench$Modulus" (70 : Nat) y_Mod_multiply, .methodLink "PointBench$Modulus" (73 : Nat) y_Par_haveBit, .static y_Par_haveBit, .code y_Par_haveBit prog_4_method_4_code (2 : Nat) (Option.some Jvm.ClassFile.FieldType.boolean), .methodLink "PointBench" (137 : Nat) y_Mod_settle, .instanceMethod y_Mod_settle, .selects "PointBench$Modulus" y_Mod_settle y_Mod_settle, .code y_Mod_settle prog_3_method_9_code (3 : Nat) (Option.none : Option Jvm.ClassFile.FieldType), .methodLink "PointBench$Modulus" (91 : Nat) y_Mod_dropTop, .privateMethod y_Mod_dropTop, .instanceMethod y_Mod_dropTop, .code y_Mod_dropTop prog_3_method_10_code (5 : Nat) (Option.none : Option Jvm.ClassFile.FieldType), .constantLong "PointBench$Modulus" (94 : Nat) (4194304 : Int64), .methodLink "PointBench" (141 : Nat) y_Lim_pack, .static y_Lim_pack, .code y_Lim_pack prog_2_method_10_code (5 : Nat) (Option.none : Option Jvm.ClassFile.FieldType), .methodLink "PointBenchLaw" (90 : Nat) y_Law_base]
set_option maxRecDepth 100000 in
theorem ve_18 : (lw_tbl.drop 360).take 20 = vk_18 := rfl
def vk_19 : List Cond := [.static y_Law_base, .codeWith y_Law_base method_7_code (3 : Nat) (Option.some Jvm.ClassFile.FieldType.int) [((0 : Nat), (5 : Nat), (8 : Nat), (13 : Nat))], .methodLink "PointBenchLaw" (27 : Nat) y_Ben_base, .instanceMethod y_Ben_base, .selects "PointBench" y_Ben_base y_Ben_base, .code y_Ben_base prog_1_method_6_code (2 : Nat) (Option.none : Option Jvm.ClassFile.FieldType), .methodLink "PointBench" (144 : Nat) y_Ben_needPoint, .static y_Ben_needPoint, .code y_Ben_needPoint prog_1_method_18_code (1 : Nat) (Option.none : Option Jvm.ClassFile.FieldType), .stringRef "PointBench" (219 : Nat) "no such POINT", .methodLink "PointBench" (147 : Nat) y_Pnt_copyFrom, .instanceMethod y_Pnt_copyFrom, .selects "PointBench$Point" y_Pnt_copyFrom y_Pnt_copyFrom, .code y_Pnt_copyFrom prog_5_method_2_code (2 : Nat) (Option.none : Option Jvm.ClassFile.FieldType), .methodLink "PointBench$Point" (22 : Nat) y_Lim_copy, .methodLink "PointBenchLaw" (94 : Nat) y_Law_none, .static y_Law_none, .codeWith y_Law_none method_8_code (3 : Nat) (Option.some Jvm.ClassFile.FieldType.int) [((0 : Nat), (5 : Nat), (8 : Nat), (13 : Nat))], .methodLink "PointBenchLaw" (31 : Nat) y_Ben_none, .instanceMethod y_Ben_none]
set_option maxRecDepth 100000 in
theorem ve_19 : (lw_tbl.drop 380).take 20 = vk_19 := rfl
def vk_20 : List Cond := [.selects "PointBench" y_Ben_none y_Ben_none, .code y_Ben_none prog_1_method_7_code (2 : Nat) (Option.none : Option Jvm.ClassFile.FieldType), .methodLink "PointBenchLaw" (97 : Nat) y_Law_lay, .static y_Law_lay, .codeWith y_Law_lay method_9_code (6 : Nat) (Option.some Jvm.ClassFile.FieldType.int) [((0 : Nat), (19 : Nat), (22 : Nat), (13 : Nat))], .methodLink "PointBenchLaw" (34 : Nat) y_Ben_lay, .instanceMethod y_Ben_lay, .selects "PointBench" y_Ben_lay y_Ben_lay, .code y_Ben_lay prog_1_method_8_code (4 : Nat) (Option.some Jvm.ClassFile.FieldType.boolean), .methodLink "PointBench" (151 : Nat) y_Ben_squareOfY, .privateMethod y_Ben_squareOfY, .instanceMethod y_Ben_squareOfY, .code y_Ben_squareOfY prog_1_method_22_code (3 : Nat) (Option.none : Option Jvm.ClassFile.FieldType), .constantLong "PointBench" (226 : Nat) (7 : Int64), .methodLink "PointBench" (154 : Nat) y_Ben_isRoot, .privateMethod y_Ben_isRoot, .instanceMethod y_Ben_isRoot, .code y_Ben_isRoot prog_1_method_23_code (3 : Nat) (Option.some Jvm.ClassFile.FieldType.boolean), .methodLink "PointBench" (207 : Nat) y_Mod_areCongruent, .instanceMethod y_Mod_areCongruent]
set_option maxRecDepth 100000 in
theorem ve_20 : (lw_tbl.drop 400).take 20 = vk_20 := rfl
def vk_21 : List Cond := [.selects "PointBench$Modulus" y_Mod_areCongruent y_Mod_areCongruent, .code y_Mod_areCongruent prog_3_method_7_code (3 : Nat) (Option.some Jvm.ClassFile.FieldType.boolean), .methodLink "PointBench$Modulus" (80 : Nat) y_Lim_minus, .methodLink "PointBench$Modulus" (83 : Nat) y_Mod_settle, .methodLink "PointBench$Modulus" (87 : Nat) y_Lim_areZero, .static y_Lim_areZero, .code y_Lim_areZero prog_2_method_7_code (2 : Nat) (Option.some Jvm.ClassFile.FieldType.boolean), .methodLink "PointBenchLaw" (101 : Nat) y_Law_lift, .static y_Law_lift, .codeWith y_Law_lift method_10_code (6 : Nat) (Option.some Jvm.ClassFile.FieldType.int) [((0 : Nat), (19 : Nat), (22 : Nat), (13 : Nat))], .methodLink "PointBenchLaw" (38 : Nat) y_Ben_lift, .instanceMethod y_Ben_lift, .selects "PointBench" y_Ben_lift y_Ben_lift, .code y_Ben_lift prog_1_method_9_code (4 : Nat) (Option.some Jvm.ClassFile.FieldType.boolean), .fieldLink "PointBench" (158 : Nat) "PointBench" "ROOT_POWER" "[J", .laysStatic "PointBench" "ROOT_POWER" "[J", .methodLink "PointBench" (161 : Nat) y_Mod_power, .methodLink "PointBench" (165 : Nat) y_Ben_makeParity, .privateMethod y_Ben_makeParity, .instanceMethod y_Ben_makeParity]
set_option maxRecDepth 100000 in
theorem ve_21 : (lw_tbl.drop 420).take 20 = vk_21 := rfl
def vk_22 : List Cond := [.code y_Ben_makeParity prog_1_method_24_code (4 : Nat) (Option.none : Option Jvm.ClassFile.FieldType), .fieldLink "PointBench" (178 : Nat) "PointBench" "ZERO" "[J", .methodLink "PointBenchLaw" (105 : Nat) y_Law_show, .static y_Law_show, .codeWith y_Law_show method_11_code (6 : Nat) (Option.some Jvm.ClassFile.FieldType.int) [((0 : Nat), (19 : Nat), (22 : Nat), (13 : Nat))], .methodLink "PointBenchLaw" (42 : Nat) y_Ben_show, .instanceMethod y_Ben_show, .selects "PointBench" y_Ben_show y_Ben_show, .code y_Ben_show prog_1_method_10_code (4 : Nat) (Option.some Jvm.ClassFile.FieldType.boolean), .methodLink "PointBenchLaw" (108 : Nat) y_Law_add, .static y_Law_add, .codeWith y_Law_add method_12_code (5 : Nat) (Option.some Jvm.ClassFile.FieldType.int) [((0 : Nat), (7 : Nat), (10 : Nat), (13 : Nat))], .methodLink "PointBenchLaw" (45 : Nat) y_Ben_add, .instanceMethod y_Ben_add, .selects "PointBench" y_Ben_add y_Ben_add, .code y_Ben_add prog_1_method_11_code (4 : Nat) (Option.none : Option Jvm.ClassFile.FieldType), .methodLink "PointBench" (169 : Nat) y_Sum_clear, .instanceMethod y_Sum_clear, .selects "PointBench$RunningSum" y_Sum_clear y_Sum_clear, .code y_Sum_clear prog_6_method_2_code (1 : Nat) (Option.none : Option Jvm.ClassFile.FieldType)]
set_option maxRecDepth 100000 in
theorem ve_22 : (lw_tbl.drop 440).take 20 = vk_22 := rfl
def vk_23 : List Cond := [.methodLink "PointBench" (172 : Nat) y_Sum_join, .instanceMethod y_Sum_join, .selects "PointBench$RunningSum" y_Sum_join y_Sum_join, .code y_Sum_join prog_6_method_4_code (2 : Nat) (Option.none : Option Jvm.ClassFile.FieldType), .methodLink "PointBench$RunningSum" (63 : Nat) y_Sum_begin, .privateMethod y_Sum_begin, .instanceMethod y_Sum_begin, .code y_Sum_begin prog_6_method_5_code (2 : Nat) (Option.none : Option Jvm.ClassFile.FieldType), .methodLink "PointBench$RunningSum" (86 : Nat) y_Lim_copy, .fieldLinkNest "PointBench$RunningSum" (90 : Nat) "PointBench" "ZERO" "[J" "PointBench", .methodLink "PointBench$RunningSum" (93 : Nat) y_Lim_unpack, .methodLink "PointBench$RunningSum" (66 : Nat) y_Mod_multiply, .methodLink "PointBench$RunningSum" (73 : Nat) y_Lim_minus, .methodLink "PointBench$RunningSum" (79 : Nat) y_Mod_isMultiple, .instanceMethod y_Mod_isMultiple, .selects "PointBench$Modulus" y_Mod_isMultiple y_Mod_isMultiple, .code y_Mod_isMultiple prog_3_method_8_code (2 : Nat) (Option.some Jvm.ClassFile.FieldType.boolean), .methodLink "PointBench$RunningSum" (83 : Nat) y_Sum_joinAcross, .privateMethod y_Sum_joinAcross, .instanceMethod y_Sum_joinAcross]
set_option maxRecDepth 100000 in
theorem ve_23 : (lw_tbl.drop 460).take 20 = vk_23 := rfl
def vk_24 : List Cond := [.code y_Sum_joinAcross prog_6_method_6_code (1 : Nat) (Option.none : Option Jvm.ClassFile.FieldType), .methodLink "PointBench$RunningSum" (47 : Nat) y_Sum_twice, .privateMethod y_Sum_twice, .instanceMethod y_Sum_twice, .code y_Sum_twice prog_6_method_7_code (1 : Nat) (Option.none : Option Jvm.ClassFile.FieldType), .constantLong "PointBench$RunningSum" (96 : Nat) (2 : Int64), .methodLink "PointBench$RunningSum" (98 : Nat) y_Lim_scale, .static y_Lim_scale, .code y_Lim_scale prog_2_method_5_code (5 : Nat) (Option.none : Option Jvm.ClassFile.FieldType), .constantLong "PointBench$RunningSum" (102 : Nat) (3 : Int64), .constantLong "PointBench$RunningSum" (104 : Nat) (4 : Int64), .constantLong "PointBench$RunningSum" (106 : Nat) (8 : Int64), .methodLink "PointBench" (175 : Nat) y_Sum_writeTo, .instanceMethod y_Sum_writeTo, .selects "PointBench$RunningSum" y_Sum_writeTo y_Sum_writeTo, .code y_Sum_writeTo prog_6_method_8_code (2 : Nat) (Option.none : Option Jvm.ClassFile.FieldType), .methodLink "PointBench$RunningSum" (108 : Nat) y_Mod_invert, .methodLink "PointBench$RunningSum" (111 : Nat) y_Mod_settle, .methodLink "PointBenchLaw" (112 : Nat) y_Law_times, .static y_Law_times]
set_option maxRecDepth 100000 in
theorem ve_24 : (lw_tbl.drop 480).take 20 = vk_24 := rfl
def vk_25 : List Cond := [.codeWith y_Law_times method_13_code (5 : Nat) (Option.some Jvm.ClassFile.FieldType.int) [((0 : Nat), (7 : Nat), (10 : Nat), (13 : Nat))], .methodLink "PointBenchLaw" (49 : Nat) y_Ben_times, .instanceMethod y_Ben_times, .selects "PointBench" y_Ben_times y_Ben_times, .code y_Ben_times prog_1_method_12_code (4 : Nat) (Option.none : Option Jvm.ClassFile.FieldType), .methodLink "PointBench" (181 : Nat) y_Sum_gather, .instanceMethod y_Sum_gather, .selects "PointBench$RunningSum" y_Sum_gather y_Sum_gather, .code y_Sum_gather prog_6_method_3_code (6 : Nat) (Option.none : Option Jvm.ClassFile.FieldType), .methodLink "PointBench$RunningSum" (44 : Nat) y_Sum_clear, .methodLink "PointBench$RunningSum" (50 : Nat) y_Par_haveBit, .methodLink "PointBench$RunningSum" (56 : Nat) y_Sum_join, .methodLink "PointBenchLaw" (115 : Nat) y_Law_same, .static y_Law_same, .codeWith y_Law_same method_14_code (5 : Nat) (Option.some Jvm.ClassFile.FieldType.int) [((0 : Nat), (17 : Nat), (20 : Nat), (13 : Nat))], .methodLink "PointBenchLaw" (52 : Nat) y_Ben_same, .instanceMethod y_Ben_same, .selects "PointBench" y_Ben_same y_Ben_same, .code y_Ben_same prog_1_method_13_code (3 : Nat) (Option.some Jvm.ClassFile.FieldType.boolean), .methodLink "PointBench" (185 : Nat) y_Pnt_matches]
set_option maxRecDepth 100000 in
theorem ve_25 : (lw_tbl.drop 500).take 20 = vk_25 := rfl
def vk_26 : List Cond := [.instanceMethod y_Pnt_matches, .selects "PointBench$Point" y_Pnt_matches y_Pnt_matches, .code y_Pnt_matches prog_5_method_3_code (2 : Nat) (Option.some Jvm.ClassFile.FieldType.boolean), .methodLink "PointBench$Point" (28 : Nat) y_Lim_areEqual, .static y_Lim_areEqual, .code y_Lim_areEqual prog_2_method_6_code (3 : Nat) (Option.some Jvm.ClassFile.FieldType.boolean), .methodLink "PointBenchLaw" (118 : Nat) y_Law_sign, .static y_Law_sign, .codeWith y_Law_sign method_15_code (8 : Nat) (Option.some Jvm.ClassFile.FieldType.int) [((0 : Nat), (23 : Nat), (26 : Nat), (13 : Nat))], .methodLink "PointBenchLaw" (56 : Nat) y_Ben_sign, .instanceMethod y_Ben_sign, .selects "PointBench" y_Ben_sign y_Ben_sign, .code y_Ben_sign prog_1_method_14_code (6 : Nat) (Option.some Jvm.ClassFile.FieldType.boolean), .methodLink "PointBench" (189 : Nat) y_Ben_isFromOneBelowN, .privateMethod y_Ben_isFromOneBelowN, .instanceMethod y_Ben_isFromOneBelowN, .code y_Ben_isFromOneBelowN prog_1_method_21_code (2 : Nat) (Option.some Jvm.ClassFile.FieldType.boolean), .methodLink "PointBench" (192 : Nat) y_Lim_copy, .methodLink "PointBenchLaw" (122 : Nat) y_Law_verify, .static y_Law_verify]
set_option maxRecDepth 100000 in
theorem ve_26 : (lw_tbl.drop 520).take 20 = vk_26 := rfl
def vk_27 : List Cond := [.codeWith y_Law_verify method_16_code (7 : Nat) (Option.some Jvm.ClassFile.FieldType.int) [((0 : Nat), (21 : Nat), (24 : Nat), (13 : Nat))], .methodLink "PointBenchLaw" (60 : Nat) y_Ben_verify, .instanceMethod y_Ben_verify, .selects "PointBench" y_Ben_verify y_Ben_verify, .code y_Ben_verify prog_1_method_15_code (5 : Nat) (Option.some Jvm.ClassFile.FieldType.boolean), .methodLink "PointBench" (204 : Nat) y_Ben_productModuloN, .privateMethod y_Ben_productModuloN, .instanceMethod y_Ben_productModuloN, .code y_Ben_productModuloN prog_1_method_25_code (4 : Nat) (Option.none : Option Jvm.ClassFile.FieldType), .classLink "PointBenchLaw" (64 : Nat) "PointBenchModel", .instantiable "PointBenchModel" (23 : Nat), .methodLink "PointBenchLaw" (66 : Nat) y_Mdl_init, .instanceMethod y_Mdl_init, .code y_Mdl_init prog_8_method_5_code (5 : Nat) (Option.none : Option Jvm.ClassFile.FieldType), .methodLink "PointBenchModel" (69 : Nat) objectInit, .classLink "PointBenchModel" (2 : Nat) "PointBenchModel$Point", .instantiable "PointBenchModel$Point" (3 : Nat), .methodLinkNest "PointBenchModel" (78 : Nat) y_Rpt_init "PointBenchModel", .instanceMethod y_Rpt_init, .code y_Rpt_init prog_9_method_1_code (1 : Nat) (Option.none : Option Jvm.ClassFile.FieldType)]
set_option maxRecDepth 100000 in
theorem ve_27 : (lw_tbl.drop 540).take 20 = vk_27 := rfl
def vk_28 : List Cond := [.methodLink "PointBenchModel$Point" (1 : Nat) objectInit, .fieldLink "PointBenchModel$Point" (7 : Nat) "PointBenchModel$Point" "x" "[I", .fieldLinkNest "PointBenchModel" (29 : Nat) "PointBenchModel$Point" "x" "[I" "PointBenchModel", .fieldLinkNest "PointBenchModel" (19 : Nat) "PointBenchModel$Point" "y" "[I" "PointBenchModel", .fieldLink "PointBenchModel$Point" (13 : Nat) "PointBenchModel$Point" "y" "[I", .fieldLinkNest "PointBenchModel" (1 : Nat) "PointBenchModel$Point" "z" "[I" "PointBenchModel", .fieldLink "PointBenchModel$Point" (16 : Nat) "PointBenchModel$Point" "z" "[I", .laysFinal "PointBenchModel$Point" "PointBenchModel$Point" "x" "[I", .soleField "PointBenchModel$Point" "x", .laysFinal "PointBenchModel$Point" "PointBenchModel$Point" "y" "[I", .soleField "PointBenchModel$Point" "y", .laysFinal "PointBenchModel$Point" "PointBenchModel$Point" "z" "[I", .soleField "PointBenchModel$Point" "z", .superclass "PointBenchModel$Point" "java/lang/Object", .arrayClass Jvm.ClassFile.FieldType.int, .classLink "PointBenchModel" (101 : Nat) "[[I", .arrayOver (Jvm.ClassFile.FieldType.array Jvm.ClassFile.FieldType.int), .arrayOver (Jvm.ClassFile.FieldType.object "PointBenchModel$Point"), .constant "PointBenchModel" (125 : Nat) (-801750719 : Int32), .constant "PointBenchModel" (126 : Nat) (-1076732276 : Int32)]
set_option maxRecDepth 100000 in
theorem ve_28 : (lw_tbl.drop 560).take 20 = vk_28 := rfl
def vk_29 : List Cond := [.constant "PointBenchModel" (127 : Nat) (-1354194885 : Int32), .constant "PointBenchModel" (128 : Nat) (-1162945306 : Int32), .classLink "PointBenchModel" (8 : Nat) "PointBenchModel$Ring", .instantiable "PointBenchModel$Ring" (8 : Nat), .methodLink "PointBenchModel" (129 : Nat) y_Rng_init, .instanceMethod y_Rng_init, .code y_Rng_init prog_10_method_1_code (4 : Nat) (Option.none : Option Jvm.ClassFile.FieldType), .methodLink "PointBenchModel$Ring" (3 : Nat) objectInit, .methodLink "PointBenchModel$Ring" (37 : Nat) y_Rng_add, .instanceMethod y_Rng_add, .selects "PointBenchModel$Ring" y_Rng_add y_Rng_add, .code y_Rng_add prog_10_method_8_code (4 : Nat) (Option.none : Option Jvm.ClassFile.FieldType), .methodLink "PointBenchModel$Ring" (51 : Nat) y_Rng_plus, .static y_Rng_plus, .code y_Rng_plus prog_10_method_6_code (6 : Nat) (Option.some Jvm.ClassFile.FieldType.long), .constantLong "PointBenchModel$Ring" (49 : Nat) (4294967295 : Int64), .methodLink "PointBenchModel$Ring" (45 : Nat) y_Rng_compare, .static y_Rng_compare, .code y_Rng_compare prog_10_method_5_code (3 : Nat) (Option.some Jvm.ClassFile.FieldType.int), .methodLink "PointBenchModel$Ring" (55 : Nat) y_Rng_less]
set_option maxRecDepth 100000 in
theorem ve_29 : (lw_tbl.drop 580).take 20 = vk_29 := rfl
def vk_30 : List Cond := [.static y_Rng_less, .code y_Rng_less prog_10_method_7_code (8 : Nat) (Option.some Jvm.ClassFile.FieldType.long), .methodLink "PointBenchModel$Ring" (41 : Nat) y_Rng_copy, .static y_Rng_copy, .code y_Rng_copy prog_10_method_2_code (3 : Nat) (Option.none : Option Jvm.ClassFile.FieldType), .fieldLink "PointBenchModel$Ring" (9 : Nat) "PointBenchModel$Ring" "modulus" "[I", .fieldLinkNest "PointBenchModel" (178 : Nat) "PointBenchModel$Ring" "modulus" "[I" "PointBenchModel", .fieldLink "PointBenchModel$Ring" (33 : Nat) "PointBenchModel$Ring" "minus" "I", .fieldLink "PointBenchModel$Ring" (15 : Nat) "PointBenchModel$Ring" "one" "[I", .fieldLinkNest "PointBenchModel" (154 : Nat) "PointBenchModel$Ring" "one" "[I" "PointBenchModel", .fieldLink "PointBenchModel$Ring" (18 : Nat) "PointBenchModel$Ring" "twice" "[I", .fieldLink "PointBenchModel$Ring" (21 : Nat) "PointBenchModel$Ring" "plain" "[I", .fieldLink "PointBenchModel$Ring" (24 : Nat) "PointBenchModel$Ring" "row" "[I", .fieldLink "PointBenchModel$Ring" (27 : Nat) "PointBenchModel$Ring" "base" "[I", .fieldLink "PointBenchModel$Ring" (30 : Nat) "PointBenchModel$Ring" "other" "[I", .laysFinal "PointBenchModel$Ring" "PointBenchModel$Ring" "modulus" "[I", .soleField "PointBenchModel$Ring" "modulus", .laysFinal "PointBenchModel$Ring" "PointBenchModel$Ring" "minus" "I", .soleField "PointBenchModel$Ring" "minus", .laysFinal "PointBenchModel$Ring" "PointBenchModel$Ring" "one" "[I"]
set_option maxRecDepth 100000 in
theorem ve_30 : (lw_tbl.drop 600).take 20 = vk_30 := rfl
def vk_31 : List Cond := [.soleField "PointBenchModel$Ring" "one", .laysFinal "PointBenchModel$Ring" "PointBenchModel$Ring" "twice" "[I", .soleField "PointBenchModel$Ring" "twice", .laysFinal "PointBenchModel$Ring" "PointBenchModel$Ring" "plain" "[I", .soleField "PointBenchModel$Ring" "plain", .laysFinal "PointBenchModel$Ring" "PointBenchModel$Ring" "row" "[I", .soleField "PointBenchModel$Ring" "row", .laysFinal "PointBenchModel$Ring" "PointBenchModel$Ring" "base" "[I", .soleField "PointBenchModel$Ring" "base", .laysFinal "PointBenchModel$Ring" "PointBenchModel$Ring" "other" "[I", .soleField "PointBenchModel$Ring" "other", .superclass "PointBenchModel$Ring" "java/lang/Object", .methodLink "PointBenchModel" (135 : Nat) y_Rng_enter, .instanceMethod y_Rng_enter, .selects "PointBenchModel$Ring" y_Rng_enter y_Rng_enter, .code y_Rng_enter prog_10_method_12_code (3 : Nat) (Option.none : Option Jvm.ClassFile.FieldType), .methodLink "PointBenchModel$Ring" (62 : Nat) y_Rng_multiply, .instanceMethod y_Rng_multiply, .selects "PointBenchModel$Ring" y_Rng_multiply y_Rng_multiply, .code y_Rng_multiply prog_10_method_11_code (6 : Nat) (Option.none : Option Jvm.ClassFile.FieldType)]
set_option maxRecDepth 100000 in
theorem ve_31 : (lw_tbl.drop 620).take 20 = vk_31 := rfl
def vk_32 : List Cond := [.methodLink "PointBenchModel$Ring" (58 : Nat) y_Rng_put, .privateMethod y_Rng_put, .instanceMethod y_Rng_put, .code y_Rng_put prog_10_method_10_code (6 : Nat) (Option.none : Option Jvm.ClassFile.FieldType), .constant "PointBenchModel" (138 : Nat) (385357720 : Int32), .constant "PointBenchModel" (139 : Nat) (1509065051 : Int32), .constant "PointBenchModel" (140 : Nat) (768485593 : Int32), .constant "PointBenchModel" (141 : Nat) (43777243 : Int32), .constant "PointBenchModel" (142 : Nat) (-830010617 : Int32), .constant "PointBenchModel" (143 : Nat) (1436574357 : Int32), .constant "PointBenchModel" (144 : Nat) (-102974548 : Int32), .constant "PointBenchModel" (145 : Nat) (2042521214 : Int32), .constant "PointBenchModel" (146 : Nat) (-82783048 : Int32), .constant "PointBenchModel" (147 : Nat) (-1673015153 : Int32), .constant "PointBenchModel" (148 : Nat) (-1501211623 : Int32), .constant "PointBenchModel" (149 : Nat) (-48778168 : Int32), .constant "PointBenchModel" (150 : Nat) (235997352 : Int32), .constant "PointBenchModel" (151 : Nat) (1571093500 : Int32), .constant "PointBenchModel" (152 : Nat) (648266853 : Int32), .constant "PointBenchModel" (153 : Nat) (1211816567 : Int32)]
set_option maxRecDepth 100000 in
theorem ve_32 : (lw_tbl.drop 640).take 20 = vk_32 := rfl
def vk_33 : List Cond := [.methodLink "PointBenchModel" (157 : Nat) y_Rng_copy, .fieldLink "PointBenchModel" (13 : Nat) "PointBenchModel" "field" "LPointBenchModel$Ring;", .fieldLink "PointBenchModel" (132 : Nat) "PointBenchModel" "order" "LPointBenchModel$Ring;", .fieldLink "PointBenchModel" (75 : Nat) "PointBenchModel" "seven" "[I", .fieldLink "PointBenchModel" (79 : Nat) "PointBenchModel" "generator" "LPointBenchModel$Point;", .fieldLink "PointBenchModel" (83 : Nat) "PointBenchModel" "key" "LPointBenchModel$Point;", .fieldLink "PointBenchModel" (86 : Nat) "PointBenchModel" "sum" "LPointBenchModel$Point;", .fieldLink "PointBenchModel" (89 : Nat) "PointBenchModel" "work" "LPointBenchModel$Point;", .fieldLink "PointBenchModel" (22 : Nat) "PointBenchModel" "a" "[I", .fieldLink "PointBenchModel" (32 : Nat) "PointBenchModel" "b" "[I", .fieldLink "PointBenchModel" (38 : Nat) "PointBenchModel" "c" "[I", .fieldLink "PointBenchModel" (41 : Nat) "PointBenchModel" "d" "[I", .fieldLink "PointBenchModel" (44 : Nat) "PointBenchModel" "e" "[I", .fieldLink "PointBenchModel" (92 : Nat) "PointBenchModel" "f" "[I", .fieldLink "PointBenchModel" (95 : Nat) "PointBenchModel" "px" "[I", .fieldLink "PointBenchModel" (98 : Nat) "PointBenchModel" "py" "[I", .fieldLink "PointBenchModel" (103 : Nat) "PointBenchModel" "numbers" "[[I", .fieldLink "PointBenchModel" (106 : Nat) "PointBenchModel" "points" "[LPointBenchModel$Point;", .fieldLink "PointBenchModel" (110 : Nat) "PointBenchModel" "other" "LPointBenchModel$Point;", .fieldLink "PointBenchModel" (113 : Nat) "PointBenchModel" "qx" "[I"]
set_option maxRecDepth 100000 in
theorem ve_33 : (lw_tbl.drop 660).take 20 = vk_33 := rfl
def vk_34 : List Cond := [.fieldLink "PointBenchModel" (116 : Nat) "PointBenchModel" "qy" "[I", .fieldLink "PointBenchModel" (119 : Nat) "PointBenchModel" "u1" "[I", .fieldLink "PointBenchModel" (122 : Nat) "PointBenchModel" "u2" "[I", .fieldLink "PointBenchModel" (160 : Nat) "PointBenchModel" "code" "I", .laysFinal "PointBenchModel" "PointBenchModel" "field" "LPointBenchModel$Ring;", .soleField "PointBenchModel" "field", .laysFinal "PointBenchModel" "PointBenchModel" "order" "LPointBenchModel$Ring;", .soleField "PointBenchModel" "order", .laysFinal "PointBenchModel" "PointBenchModel" "seven" "[I", .soleField "PointBenchModel" "seven", .laysFinal "PointBenchModel" "PointBenchModel" "generator" "LPointBenchModel$Point;", .soleField "PointBenchModel" "generator", .laysFinal "PointBenchModel" "PointBenchModel" "key" "LPointBenchModel$Point;", .soleField "PointBenchModel" "key", .laysFinal "PointBenchModel" "PointBenchModel" "sum" "LPointBenchModel$Point;", .soleField "PointBenchModel" "sum", .laysFinal "PointBenchModel" "PointBenchModel" "work" "LPointBenchModel$Point;", .soleField "PointBenchModel" "work", .laysFinal "PointBenchModel" "PointBenchModel" "a" "[I", .soleField "PointBenchModel" "a"]
set_option maxRecDepth 100000 in
theorem ve_34 : (lw_tbl.drop 680).take 20 = vk_34 := rfl
def vk_35 : List Cond := [.laysFinal "PointBenchModel" "PointBenchModel" "b" "[I", .soleField "PointBenchModel" "b", .laysFinal "PointBenchModel" "PointBenchModel" "c" "[I", .soleField "PointBenchModel" "c", .laysFinal "PointBenchModel" "PointBenchModel" "d" "[I", .soleField "PointBenchModel" "d", .laysFinal "PointBenchModel" "PointBenchModel" "e" "[I", .soleField "PointBenchModel" "e", .laysFinal "PointBenchModel" "PointBenchModel" "f" "[I", .soleField "PointBenchModel" "f", .laysFinal "PointBenchModel" "PointBenchModel" "px" "[I", .soleField "PointBenchModel" "px", .laysFinal "PointBenchModel" "PointBenchModel" "py" "[I", .soleField "PointBenchModel" "py", .laysFinal "PointBenchModel" "PointBenchModel" "numbers" "[[I", .soleField "PointBenchModel" "numbers", .laysFinal "PointBenchModel" "PointBenchModel" "points" "[LPointBenchModel$Point;", .soleField "PointBenchModel" "points", .laysFinal "PointBenchModel" "PointBenchModel" "other" "LPointBenchModel$Point;", .soleField "PointBenchModel" "other"]
set_option maxRecDepth 100000 in
theorem ve_35 : (lw_tbl.drop 700).take 20 = vk_35 := rfl
def vk_36 : List Cond := [.laysFinal "PointBenchModel" "PointBenchModel" "qx" "[I", .soleField "PointBenchModel" "qx", .laysFinal "PointBenchModel" "PointBenchModel" "qy" "[I", .soleField "PointBenchModel" "qy", .laysFinal "PointBenchModel" "PointBenchModel" "u1" "[I", .soleField "PointBenchModel" "u1", .laysFinal "PointBenchModel" "PointBenchModel" "u2" "[I", .soleField "PointBenchModel" "u2", .lays "PointBenchModel" "PointBenchModel" "code" "I", .soleField "PointBenchModel" "code", .superclass "PointBenchModel" "java/lang/Object", .methodLink "PointBenchLaw" (75 : Nat) y_Mdl_thrown, .instanceMethod y_Mdl_thrown, .selects "PointBenchModel" y_Mdl_thrown y_Mdl_thrown, .code y_Mdl_thrown prog_8_method_6_code (1 : Nat) (Option.some Jvm.ClassFile.FieldType.int), .methodLink "PointBenchLaw" (74 : Nat) y_Mdl_set, .instanceMethod y_Mdl_set, .selects "PointBenchModel" y_Mdl_set y_Mdl_set, .code y_Mdl_set prog_8_method_9_code (5 : Nat) (Option.none : Option Jvm.ClassFile.FieldType), .methodLink "PointBenchModel" (164 : Nat) y_Mdl_in]
set_option maxRecDepth 100000 in
theorem ve_36 : (lw_tbl.drop 720).take 20 = vk_36 := rfl
def vk_37 : List Cond := [.static y_Mdl_in, .code y_Mdl_in prog_8_method_8_code (2 : Nat) (Option.some Jvm.ClassFile.FieldType.boolean), .methodLink "PointBenchModel" (168 : Nat) y_Mdl_good, .privateMethod y_Mdl_good, .instanceMethod y_Mdl_good, .code y_Mdl_good prog_8_method_7_code (2 : Nat) (Option.some Jvm.ClassFile.FieldType.boolean), .methodLink "PointBenchLaw" (82 : Nat) y_Mdl_get, .instanceMethod y_Mdl_get, .selects "PointBenchModel" y_Mdl_get y_Mdl_get, .code y_Mdl_get prog_8_method_10_code (3 : Nat) (Option.some Jvm.ClassFile.FieldType.long), .constantLong "PointBenchModel" (172 : Nat) (4294967295 : Int64), .methodLink "PointBenchLaw" (85 : Nat) y_Mdl_compare, .instanceMethod y_Mdl_compare, .selects "PointBenchModel" y_Mdl_compare y_Mdl_compare, .code y_Mdl_compare prog_8_method_11_code (3 : Nat) (Option.some Jvm.ClassFile.FieldType.int), .methodLink "PointBenchModel" (174 : Nat) y_Rng_compare, .methodLink "PointBenchLaw" (89 : Nat) y_Mdl_work, .instanceMethod y_Mdl_work, .selects "PointBenchModel" y_Mdl_work y_Mdl_work, .code y_Mdl_work prog_8_method_12_code (7 : Nat) (Option.some Jvm.ClassFile.FieldType.boolean)]
set_option maxRecDepth 100000 in
theorem ve_37 : (lw_tbl.drop 740).take 20 = vk_37 := rfl
def vk_38 : List Cond := [.methodLink "PointBenchModel" (7 : Nat) y_Rng_isZero, .static y_Rng_isZero, .code y_Rng_isZero prog_10_method_3_code (3 : Nat) (Option.some Jvm.ClassFile.FieldType.boolean), .methodLink "PointBenchModel" (35 : Nat) y_Rng_add, .methodLink "PointBenchModel" (47 : Nat) y_Rng_subtract, .instanceMethod y_Rng_subtract, .selects "PointBenchModel$Ring" y_Rng_subtract y_Rng_subtract, .code y_Rng_subtract prog_10_method_9_code (4 : Nat) (Option.none : Option Jvm.ClassFile.FieldType), .methodLink "PointBenchModel" (25 : Nat) y_Rng_multiply, .methodLink "PointBenchModel" (61 : Nat) y_Rng_power, .instanceMethod y_Rng_power, .selects "PointBenchModel$Ring" y_Rng_power y_Rng_power, .code y_Rng_power prog_10_method_14_code (7 : Nat) (Option.none : Option Jvm.ClassFile.FieldType), .methodLink "PointBenchModel" (65 : Nat) y_Rng_leave, .instanceMethod y_Rng_leave, .selects "PointBenchModel$Ring" y_Rng_leave y_Rng_leave, .code y_Rng_leave prog_10_method_13_code (3 : Nat) (Option.none : Option Jvm.ClassFile.FieldType), .methodLink "PointBenchLaw" (93 : Nat) y_Mdl_base, .instanceMethod y_Mdl_base, .selects "PointBenchModel" y_Mdl_base y_Mdl_base]
set_option maxRecDepth 100000 in
theorem ve_38 : (lw_tbl.drop 760).take 20 = vk_38 := rfl
def vk_39 : List Cond := [.code y_Mdl_base prog_8_method_13_code (2 : Nat) (Option.none : Option Jvm.ClassFile.FieldType), .methodLink "PointBenchModel" (50 : Nat) y_Rpt_take, .instanceMethod y_Rpt_take, .selects "PointBenchModel$Point" y_Rpt_take y_Rpt_take, .code y_Rpt_take prog_9_method_2_code (2 : Nat) (Option.none : Option Jvm.ClassFile.FieldType), .methodLink "PointBenchModel$Point" (19 : Nat) y_Rng_copy, .methodLink "PointBenchLaw" (96 : Nat) y_Mdl_none, .instanceMethod y_Mdl_none, .selects "PointBenchModel" y_Mdl_none y_Mdl_none, .code y_Mdl_none prog_8_method_14_code (3 : Nat) (Option.none : Option Jvm.ClassFile.FieldType), .methodLink "PointBenchLaw" (100 : Nat) y_Mdl_lay, .instanceMethod y_Mdl_lay, .selects "PointBenchModel" y_Mdl_lay y_Mdl_lay, .code y_Mdl_lay prog_8_method_16_code (4 : Nat) (Option.some Jvm.ClassFile.FieldType.boolean), .methodLink "PointBenchModel" (181 : Nat) y_Mdl_square, .privateMethod y_Mdl_square, .instanceMethod y_Mdl_square, .code y_Mdl_square prog_8_method_15_code (2 : Nat) (Option.some Jvm.ClassFile.FieldType.boolean), .methodLink "PointBenchModel" (184 : Nat) y_Rng_same, .static y_Rng_same]
set_option maxRecDepth 100000 in
theorem ve_39 : (lw_tbl.drop 780).take 20 = vk_39 := rfl
def vk_40 : List Cond := [.code y_Rng_same prog_10_method_4_code (2 : Nat) (Option.some Jvm.ClassFile.FieldType.boolean), .methodLink "PointBenchLaw" (104 : Nat) y_Mdl_lift, .instanceMethod y_Mdl_lift, .selects "PointBenchModel" y_Mdl_lift y_Mdl_lift, .code y_Mdl_lift prog_8_method_17_code (5 : Nat) (Option.some Jvm.ClassFile.FieldType.boolean), .methodLink "PointBenchLaw" (107 : Nat) y_Mdl_show, .instanceMethod y_Mdl_show, .selects "PointBenchModel" y_Mdl_show y_Mdl_show, .code y_Mdl_show prog_8_method_18_code (4 : Nat) (Option.some Jvm.ClassFile.FieldType.boolean), .methodLink "PointBenchModel" (188 : Nat) y_Mdl_flat, .privateMethod y_Mdl_flat, .instanceMethod y_Mdl_flat, .code y_Mdl_flat prog_8_method_4_code (4 : Nat) (Option.none : Option Jvm.ClassFile.FieldType), .methodLink "PointBenchLaw" (111 : Nat) y_Mdl_add, .instanceMethod y_Mdl_add, .selects "PointBenchModel" y_Mdl_add y_Mdl_add, .code y_Mdl_add prog_8_method_19_code (4 : Nat) (Option.none : Option Jvm.ClassFile.FieldType), .methodLink "PointBenchModel" (57 : Nat) y_Mdl_plus, .privateMethod y_Mdl_plus, .instanceMethod y_Mdl_plus]
set_option maxRecDepth 100000 in
theorem ve_40 : (lw_tbl.drop 800).take 20 = vk_40 := rfl
def vk_41 : List Cond := [.code y_Mdl_plus prog_8_method_2_code (4 : Nat) (Option.none : Option Jvm.ClassFile.FieldType), .methodLink "PointBenchModel" (54 : Nat) y_Mdl_doubled, .privateMethod y_Mdl_doubled, .instanceMethod y_Mdl_doubled, .code y_Mdl_doubled prog_8_method_1_code (2 : Nat) (Option.none : Option Jvm.ClassFile.FieldType), .methodLink "PointBenchLaw" (114 : Nat) y_Mdl_times, .instanceMethod y_Mdl_times, .selects "PointBenchModel" y_Mdl_times y_Mdl_times, .code y_Mdl_times prog_8_method_20_code (4 : Nat) (Option.none : Option Jvm.ClassFile.FieldType), .methodLink "PointBenchModel" (192 : Nat) y_Mdl_times_p, .privateMethod y_Mdl_times_p, .instanceMethod y_Mdl_times_p, .code y_Mdl_times_p prog_8_method_3_code (5 : Nat) (Option.none : Option Jvm.ClassFile.FieldType), .methodLink "PointBenchLaw" (117 : Nat) y_Mdl_same, .instanceMethod y_Mdl_same, .selects "PointBenchModel" y_Mdl_same y_Mdl_same, .code y_Mdl_same prog_8_method_21_code (4 : Nat) (Option.some Jvm.ClassFile.FieldType.boolean), .methodLink "PointBenchLaw" (121 : Nat) y_Mdl_sign, .instanceMethod y_Mdl_sign, .selects "PointBenchModel" y_Mdl_sign y_Mdl_sign]
set_option maxRecDepth 100000 in
theorem ve_41 : (lw_tbl.drop 820).take 20 = vk_41 := rfl
def vk_42 : List Cond := [.code y_Mdl_sign prog_8_method_24_code (6 : Nat) (Option.some Jvm.ClassFile.FieldType.boolean), .methodLink "PointBenchModel" (200 : Nat) y_Mdl_isPart, .privateMethod y_Mdl_isPart, .instanceMethod y_Mdl_isPart, .code y_Mdl_isPart prog_8_method_22_code (2 : Nat) (Option.some Jvm.ClassFile.FieldType.boolean), .methodLink "PointBenchModel" (203 : Nat) y_Mdl_reduce, .privateMethod y_Mdl_reduce, .instanceMethod y_Mdl_reduce, .code y_Mdl_reduce prog_8_method_23_code (2 : Nat) (Option.none : Option Jvm.ClassFile.FieldType), .methodLink "PointBenchModel" (196 : Nat) y_Rng_less, .methodLink "PointBenchLaw" (124 : Nat) y_Mdl_verify, .instanceMethod y_Mdl_verify, .selects "PointBenchModel" y_Mdl_verify y_Mdl_verify, .code y_Mdl_verify prog_8_method_25_code (5 : Nat) (Option.some Jvm.ClassFile.FieldType.boolean), .constantLong "PointBenchLaw" (67 : Nat) (4294967295 : Int64), .sameMethod "java/lang/Throwable" "java/lang/Throwable" "fillInStackTrace" "(I)Ljava/lang/Throwable;"]
set_option maxRecDepth 100000 in
theorem ve_42 : (lw_tbl.drop 840).take 20 = vk_42 := rfl
theorem u_Mod : ∀ w ∈ u_ws R_Mod T_Mod 9, w ∈ WB := by
  intro w hw
  obtain ⟨k, hk, rfl⟩ := List.mem_map.mp hw
  have hk := List.mem_range.mp hk
  rcases (show k = 0 ∨ k = 1 ∨ k = 2 ∨ k = 3 ∨ k = 4 ∨ k = 5 ∨ k = 6 ∨ k = 7 ∨ k = 8 by omega) with rfl | rfl | rfl | rfl | rfl | rfl | rfl | rfl | rfl
  · exact wb_i ve_3 11 rfl rfl
  · exact wb_i ve_3 13 rfl rfl
  · exact wb_i ve_3 15 rfl rfl
  · exact wb_i ve_3 17 rfl rfl
  · exact wb_i ve_3 19 rfl rfl
  · exact wb_i ve_4 1 rfl rfl
  · exact wb_i ve_4 3 rfl rfl
  · exact wb_i ve_4 5 rfl rfl
  · exact wb_i ve_4 7 rfl rfl
theorem u_Pnt : ∀ w ∈ u_ws R_Pnt T_Pnt 3, w ∈ WB := by
  intro w hw
  obtain ⟨k, hk, rfl⟩ := List.mem_map.mp hw
  have hk := List.mem_range.mp hk
  rcases (show k = 0 ∨ k = 1 ∨ k = 2 by omega) with rfl | rfl | rfl
  · exact wb_i ve_5 13 rfl rfl
  · exact wb_i ve_5 15 rfl rfl
  · exact wb_i ve_5 17 rfl rfl
theorem u_Sum : ∀ w ∈ u_ws R_Sum T_Sum 10, w ∈ WB := by
  intro w hw
  obtain ⟨k, hk, rfl⟩ := List.mem_map.mp hw
  have hk := List.mem_range.mp hk
  rcases (show k = 0 ∨ k = 1 ∨ k = 2 ∨ k = 3 ∨ k = 4 ∨ k = 5 ∨ k = 6 ∨ k = 7 ∨ k = 8 ∨ k = 9 by omega) with rfl | rfl | rfl | rfl | rfl | rfl | rfl | rfl | rfl | rfl
  · exact wb_i ve_6 16 rfl rfl
  · exact wb_i ve_6 18 rfl rfl
  · exact wb_i ve_7 0 rfl rfl
  · exact wb_i ve_7 2 rfl rfl
  · exact wb_i ve_7 4 rfl rfl
  · exact wb_i ve_7 6 rfl rfl
  · exact wb_i ve_7 8 rfl rfl
  · exact wb_i ve_7 10 rfl rfl
  · exact wb_i ve_7 12 rfl rfl
  · exact wb_i ve_7 14 rfl rfl
theorem u_Ben : ∀ w ∈ u_ws R_Ben T_Ben 12, w ∈ WB := by
  intro w hw
  obtain ⟨k, hk, rfl⟩ := List.mem_map.mp hw
  have hk := List.mem_range.mp hk
  rcases (show k = 0 ∨ k = 1 ∨ k = 2 ∨ k = 3 ∨ k = 4 ∨ k = 5 ∨ k = 6 ∨ k = 7 ∨ k = 8 ∨ k = 9 ∨ k = 10 ∨ k = 11 by omega) with rfl | rfl | rfl | rfl | rfl | rfl | rfl | rfl | rfl | rfl | rfl | rfl
  · exact wb_i ve_8 17 rfl rfl
  · exact wb_i ve_8 19 rfl rfl
  · exact wb_i ve_9 1 rfl rfl
  · exact wb_i ve_9 3 rfl rfl
  · exact wb_i ve_9 5 rfl rfl
  · exact wb_i ve_9 7 rfl rfl
  · exact wb_i ve_9 9 rfl rfl
  · exact wb_i ve_9 11 rfl rfl
  · exact wb_i ve_9 13 rfl rfl
  · exact wb_i ve_9 15 rfl rfl
  · exact wb_i ve_9 17 rfl rfl
  · exact wb_i ve_9 19 rfl rfl
theorem u_Rng : ∀ w ∈ u_ws R_Rng T_Rng 8, w ∈ WB := by
  intro w hw
  obtain ⟨k, hk, rfl⟩ := List.mem_map.mp hw
  have hk := List.mem_range.mp hk
  rcases (show k = 0 ∨ k = 1 ∨ k = 2 ∨ k = 3 ∨ k = 4 ∨ k = 5 ∨ k = 6 ∨ k = 7 by omega) with rfl | rfl | rfl | rfl | rfl | rfl | rfl | rfl
  · exact wb_i ve_30 15 rfl rfl
  · exact wb_i ve_30 17 rfl rfl
  · exact wb_i ve_30 19 rfl rfl
  · exact wb_i ve_31 1 rfl rfl
  · exact wb_i ve_31 3 rfl rfl
  · exact wb_i ve_31 5 rfl rfl
  · exact wb_i ve_31 7 rfl rfl
  · exact wb_i ve_31 9 rfl rfl
theorem u_Rpt : ∀ w ∈ u_ws R_Rpt T_Rpt 3, w ∈ WB := by
  intro w hw
  obtain ⟨k, hk, rfl⟩ := List.mem_map.mp hw
  have hk := List.mem_range.mp hk
  rcases (show k = 0 ∨ k = 1 ∨ k = 2 by omega) with rfl | rfl | rfl
  · exact wb_i ve_28 7 rfl rfl
  · exact wb_i ve_28 9 rfl rfl
  · exact wb_i ve_28 11 rfl rfl
theorem u_Mdl : ∀ w ∈ u_ws R_Mdl T_Mdl 23, w ∈ WB := by
  intro w hw
  obtain ⟨k, hk, rfl⟩ := List.mem_map.mp hw
  have hk := List.mem_range.mp hk
  rcases (show k = 0 ∨ k = 1 ∨ k = 2 ∨ k = 3 ∨ k = 4 ∨ k = 5 ∨ k = 6 ∨ k = 7 ∨ k = 8 ∨ k = 9 ∨ k = 10 ∨ k = 11 ∨ k = 12 ∨ k = 13 ∨ k = 14 ∨ k = 15 ∨ k = 16 ∨ k = 17 ∨ k = 18 ∨ k = 19 ∨ k = 20 ∨ k = 21 ∨ k = 22 by omega) with rfl | rfl | rfl | rfl | rfl | rfl | rfl | rfl | rfl | rfl | rfl | rfl | rfl | rfl | rfl | rfl | rfl | rfl | rfl | rfl | rfl | rfl | rfl
  · exact wb_i ve_34 4 rfl rfl
  · exact wb_i ve_34 6 rfl rfl
  · exact wb_i ve_34 8 rfl rfl
  · exact wb_i ve_34 10 rfl rfl
  · exact wb_i ve_34 12 rfl rfl
  · exact wb_i ve_34 14 rfl rfl
  · exact wb_i ve_34 16 rfl rfl
  · exact wb_i ve_34 18 rfl rfl
  · exact wb_i ve_35 0 rfl rfl
  · exact wb_i ve_35 2 rfl rfl
  · exact wb_i ve_35 4 rfl rfl
  · exact wb_i ve_35 6 rfl rfl
  · exact wb_i ve_35 8 rfl rfl
  · exact wb_i ve_35 10 rfl rfl
  · exact wb_i ve_35 12 rfl rfl
  · exact wb_i ve_35 14 rfl rfl
  · exact wb_i ve_35 16 rfl rfl
  · exact wb_i ve_35 18 rfl rfl
  · exact wb_i ve_36 0 rfl rfl
  · exact wb_i ve_36 2 rfl rfl
  · exact wb_i ve_36 4 rfl rfl
  · exact wb_i ve_36 6 rfl rfl
  · exact wb_i ve_36 8 rfl rfl
theorem winit_Law : Cond.initialized R_Law ∈ WB := wb_i ve_1 1 rfl rfl
theorem winit_Ben : Cond.initialized R_Ben ∈ WB := wb_i ve_1 2 rfl rfl
theorem winit_Mod : Cond.initialized R_Mod ∈ WB := wb_i ve_1 3 rfl rfl
theorem winit_Pnt : Cond.initialized R_Pnt ∈ WB := wb_i ve_1 4 rfl rfl
theorem winit_Sum : Cond.initialized R_Sum ∈ WB := wb_i ve_1 5 rfl rfl
theorem winit_Lim : Cond.initialized R_Lim ∈ WB := wb_i ve_1 6 rfl rfl
theorem winit_Mdl : Cond.initialized R_Mdl ∈ WB := wb_i ve_1 7 rfl rfl
theorem winit_Rpt : Cond.initialized R_Rpt ∈ WB := wb_i ve_1 8 rfl rfl
theorem winit_Rng : Cond.initialized R_Rng ∈ WB := wb_i ve_1 9 rfl rfl
theorem winit_Par : Cond.initialized R_Par ∈ WB := wb_i ve_1 14 rfl rfl
theorem winit_System : Cond.initialized "java/lang/System" ∈ WB := wb_i ve_1 15 rfl rfl
theorem wcl_Law_8 : Cond.classLink R_Law 8 R_Ben ∈ WB := wb_i ve_1 16 rfl rfl
theorem winst_Ben : Cond.instantiable R_Ben 12 ∈ WB := wb_i ve_1 17 rfl rfl
theorem wl_Law_63 : Cond.methodLink R_Law 63 y_Ben_init ∈ WB := wb_i ve_1 18 rfl rfl
theorem wi_Ben_init : Cond.instanceMethod y_Ben_init ∈ WB := wb_i ve_1 19 rfl rfl
theorem wc_Ben_init : Cond.code y_Ben_init b_Ben_init 2 none ∈ WB := wb_i ve_2 0 rfl rfl
theorem wl_Ben_3 : Cond.methodLink R_Ben 3 objectInit ∈ WB := wb_i ve_2 1 rfl rfl
theorem wi_object : Cond.instanceMethod objectInit ∈ WB := wb_i ve_2 2 rfl rfl
theorem wc_object : Cond.code objectInit ⟨#[0xb1]⟩ 1 none ∈ WB := wb_i ve_2 3 rfl rfl
theorem wcl_Ben_9 : Cond.classLink R_Ben 9 "[[J" ∈ WB := wb_i ve_2 4 rfl rfl
theorem wcl_Ben_14 : Cond.classLink R_Ben 14 R_Pnt ∈ WB := wb_i ve_2 6 rfl rfl
theorem wcl_Ben_20 : Cond.classLink R_Ben 20 R_Mod ∈ WB := wb_i ve_2 8 rfl rfl
theorem winst_Mod : Cond.instantiable R_Mod 9 ∈ WB := wb_i ve_2 9 rfl rfl
theorem wf_Ben_22 : Cond.fieldLink R_Ben 22 "PointBench" "P" "[J" ∈ WB := wb_i ve_2 10 rfl rfl
theorem wf_Ben_26 : Cond.fieldLink R_Ben 26 "PointBench" "P_LESS_TWO" "[J" ∈ WB := wb_i ve_2 12 rfl rfl
theorem wf_Ben_29 : Cond.fieldLink R_Ben 29 "PointBench" "P_REST" "[J" ∈ WB := wb_i ve_2 14 rfl rfl
theorem wf_Ben_32 : Cond.fieldLink R_Ben 32 "PointBench" "P_WRAP" "[J" ∈ WB := wb_i ve_2 16 rfl rfl
theorem wl_Ben_35 : Cond.methodLink R_Ben 35 y_Mod_init ∈ WB := wb_i ve_2 18 rfl rfl
theorem wi_Mod_init : Cond.instanceMethod y_Mod_init ∈ WB := wb_i ve_2 19 rfl rfl
theorem wc_Mod_init : Cond.code y_Mod_init b_Mod_init 6 none ∈ WB := wb_i ve_3 0 rfl rfl
theorem wl_Mod_3 : Cond.methodLink R_Mod 3 objectInit ∈ WB := wb_i ve_3 1 rfl rfl
theorem wf_Mod_24 : Cond.fieldLink R_Mod 24 "PointBench$Modulus" "parts" "[J" ∈ WB := wb_i ve_3 2 rfl rfl
theorem wf_Mod_27 : Cond.fieldLink R_Mod 27 "PointBench$Modulus" "partsLessTwo" "[J" ∈ WB := wb_i ve_3 3 rfl rfl
theorem wf_Mod_30 : Cond.fieldLink R_Mod 30 "PointBench$Modulus" "rest" "[J" ∈ WB := wb_i ve_3 4 rfl rfl
theorem wf_Mod_33 : Cond.fieldLink R_Mod 33 "PointBench$Modulus" "wrap" "[J" ∈ WB := wb_i ve_3 5 rfl rfl
theorem wf_Mod_36 : Cond.fieldLink R_Mod 36 "PointBench$Modulus" "isWrapLong" "Z" ∈ WB := wb_i ve_3 6 rfl rfl
theorem wf_Mod_9 : Cond.fieldLink R_Mod 9 "PointBench$Modulus" "wide" "[J" ∈ WB := wb_i ve_3 7 rfl rfl
theorem wf_Mod_15 : Cond.fieldLink R_Mod 15 "PointBench$Modulus" "trial" "[J" ∈ WB := wb_i ve_3 8 rfl rfl
theorem wf_Mod_18 : Cond.fieldLink R_Mod 18 "PointBench$Modulus" "gap" "[J" ∈ WB := wb_i ve_3 9 rfl rfl
theorem wf_Mod_21 : Cond.fieldLink R_Mod 21 "PointBench$Modulus" "factor" "[J" ∈ WB := wb_i ve_3 10 rfl rfl
theorem wac_90 : Cond.arrayClass Jvm.ClassFile.FieldType.long ∈ WB := wb_i ve_4 10 rfl rfl
theorem wf_Ben_42 : Cond.fieldLink R_Ben 42 "PointBench" "N" "[J" ∈ WB := wb_i ve_4 11 rfl rfl
theorem wf_Ben_45 : Cond.fieldLink R_Ben 45 "PointBench" "N_LESS_TWO" "[J" ∈ WB := wb_i ve_4 13 rfl rfl
theorem wf_Ben_48 : Cond.fieldLink R_Ben 48 "PointBench" "N_REST" "[J" ∈ WB := wb_i ve_4 15 rfl rfl
theorem wf_Ben_51 : Cond.fieldLink R_Ben 51 "PointBench" "N_WRAP" "[J" ∈ WB := wb_i ve_4 17 rfl rfl
theorem winst_Pnt : Cond.instantiable R_Pnt 3 ∈ WB := wb_i ve_4 19 rfl rfl
theorem wi_Pnt_init : Cond.instanceMethod y_Pnt_init ∈ WB := wb_i ve_5 1 rfl rfl
theorem wc_Pnt_init : Cond.code y_Pnt_init b_Pnt_init 1 none ∈ WB := wb_i ve_5 2 rfl rfl
theorem wl_Pnt_3 : Cond.methodLink R_Pnt 3 objectInit ∈ WB := wb_i ve_5 3 rfl rfl
theorem wf_Pnt_9 : Cond.fieldLink R_Pnt 9 "PointBench$Point" "x" "[J" ∈ WB := wb_i ve_5 4 rfl rfl
theorem wf_Ben_89 : Cond.fieldLink R_Ben 89 "PointBench$Point" "x" "[J" ∈ WB := wb_i ve_5 5 rfl rfl
theorem wf_Sum_72 : Cond.fieldLink R_Sum 72 "PointBench$Point" "x" "[J" ∈ WB := wb_i ve_5 6 rfl rfl
theorem wf_Pnt_15 : Cond.fieldLink R_Pnt 15 "PointBench$Point" "y" "[J" ∈ WB := wb_i ve_5 7 rfl rfl
theorem wf_Ben_101 : Cond.fieldLink R_Ben 101 "PointBench$Point" "y" "[J" ∈ WB := wb_i ve_5 8 rfl rfl
theorem wf_Sum_78 : Cond.fieldLink R_Sum 78 "PointBench$Point" "y" "[J" ∈ WB := wb_i ve_5 9 rfl rfl
theorem wf_Pnt_18 : Cond.fieldLink R_Pnt 18 "PointBench$Point" "isNone" "Z" ∈ WB := wb_i ve_5 10 rfl rfl
theorem wf_Ben_107 : Cond.fieldLink R_Ben 107 "PointBench$Point" "isNone" "Z" ∈ WB := wb_i ve_5 11 rfl rfl
theorem wf_Sum_60 : Cond.fieldLink R_Sum 60 "PointBench$Point" "isNone" "Z" ∈ WB := wb_i ve_5 12 rfl rfl
theorem wcl_Ben_62 : Cond.classLink R_Ben 62 R_Sum ∈ WB := wb_i ve_6 0 rfl rfl
theorem winst_Sum : Cond.instantiable R_Sum 10 ∈ WB := wb_i ve_6 1 rfl rfl
theorem wl_Ben_64 : Cond.methodLink R_Ben 64 y_Sum_init ∈ WB := wb_i ve_6 2 rfl rfl
theorem wi_Sum_init : Cond.instanceMethod y_Sum_init ∈ WB := wb_i ve_6 3 rfl rfl
theorem wc_Sum_init : Cond.code y_Sum_init b_Sum_init 2 none ∈ WB := wb_i ve_6 4 rfl rfl
theorem wl_Sum_3 : Cond.methodLink R_Sum 3 objectInit ∈ WB := wb_i ve_6 5 rfl rfl
theorem wf_Sum_40 : Cond.fieldLink R_Sum 40 "PointBench$RunningSum" "field" "LPointBench$Modulus;" ∈ WB := wb_i ve_6 6 rfl rfl
theorem wf_Sum_9 : Cond.fieldLink R_Sum 9 "PointBench$RunningSum" "isNone" "Z" ∈ WB := wb_i ve_6 7 rfl rfl
theorem wf_Sum_15 : Cond.fieldLink R_Sum 15 "PointBench$RunningSum" "x" "[J" ∈ WB := wb_i ve_6 8 rfl rfl
theorem wf_Sum_19 : Cond.fieldLink R_Sum 19 "PointBench$RunningSum" "y" "[J" ∈ WB := wb_i ve_6 9 rfl rfl
theorem wf_Sum_22 : Cond.fieldLink R_Sum 22 "PointBench$RunningSum" "z" "[J" ∈ WB := wb_i ve_6 10 rfl rfl
theorem wf_Sum_25 : Cond.fieldLink R_Sum 25 "PointBench$RunningSum" "across" "[J" ∈ WB := wb_i ve_6 11 rfl rfl
theorem wf_Sum_28 : Cond.fieldLink R_Sum 28 "PointBench$RunningSum" "rise" "[J" ∈ WB := wb_i ve_6 12 rfl rfl
theorem wf_Sum_31 : Cond.fieldLink R_Sum 31 "PointBench$RunningSum" "square" "[J" ∈ WB := wb_i ve_6 13 rfl rfl
theorem wf_Sum_34 : Cond.fieldLink R_Sum 34 "PointBench$RunningSum" "cube" "[J" ∈ WB := wb_i ve_6 14 rfl rfl
theorem wf_Sum_37 : Cond.fieldLink R_Sum 37 "PointBench$RunningSum" "middle" "[J" ∈ WB := wb_i ve_6 15 rfl rfl
theorem wf_Ben_92 : Cond.fieldLink R_Ben 92 "PointBench" "G_X" "[J" ∈ WB := wb_i ve_7 17 rfl rfl
theorem wl_Ben_95 : Cond.methodLink R_Ben 95 y_Lim_unpack ∈ WB := wb_i ve_7 19 rfl rfl
theorem ws_Lim_unpack : Cond.static y_Lim_unpack ∈ WB := wb_i ve_8 0 rfl rfl
theorem wc_Lim_unpack : Cond.code y_Lim_unpack b_Lim_unpack 7 none ∈ WB := wb_i ve_8 1 rfl rfl
theorem wk_Lim_15 : Cond.constantLong R_Lim 15 (67108863) ∈ WB := wb_i ve_8 2 rfl rfl
theorem wf_Ben_104 : Cond.fieldLink R_Ben 104 "PointBench" "G_Y" "[J" ∈ WB := wb_i ve_8 3 rfl rfl
theorem wf_Ben_11 : Cond.fieldLink R_Ben 11 "PointBench" "numbers" "[[J" ∈ WB := wb_i ve_8 5 rfl rfl
theorem wf_Ben_16 : Cond.fieldLink R_Ben 16 "PointBench" "points" "[LPointBench$Point;" ∈ WB := wb_i ve_8 6 rfl rfl
theorem wf_Ben_38 : Cond.fieldLink R_Ben 38 "PointBench" "field" "LPointBench$Modulus;" ∈ WB := wb_i ve_8 7 rfl rfl
theorem wf_Ben_54 : Cond.fieldLink R_Ben 54 "PointBench" "order" "LPointBench$Modulus;" ∈ WB := wb_i ve_8 8 rfl rfl
theorem wf_Ben_58 : Cond.fieldLink R_Ben 58 "PointBench" "generator" "LPointBench$Point;" ∈ WB := wb_i ve_8 9 rfl rfl
theorem wf_Ben_67 : Cond.fieldLink R_Ben 67 "PointBench" "sum" "LPointBench$RunningSum;" ∈ WB := wb_i ve_8 10 rfl rfl
theorem wf_Ben_71 : Cond.fieldLink R_Ben 71 "PointBench" "found" "LPointBench$Point;" ∈ WB := wb_i ve_8 11 rfl rfl
theorem wf_Ben_74 : Cond.fieldLink R_Ben 74 "PointBench" "left" "[J" ∈ WB := wb_i ve_8 12 rfl rfl
theorem wf_Ben_77 : Cond.fieldLink R_Ben 77 "PointBench" "right" "[J" ∈ WB := wb_i ve_8 13 rfl rfl
theorem wf_Ben_80 : Cond.fieldLink R_Ben 80 "PointBench" "third" "[J" ∈ WB := wb_i ve_8 14 rfl rfl
theorem wf_Ben_83 : Cond.fieldLink R_Ben 83 "PointBench" "ofGenerator" "[J" ∈ WB := wb_i ve_8 15 rfl rfl
theorem wf_Ben_86 : Cond.fieldLink R_Ben 86 "PointBench" "ofKey" "[J" ∈ WB := wb_i ve_8 16 rfl rfl
theorem wl_Law_69 : Cond.methodLink R_Law 69 y_Law_set ∈ WB := wb_i ve_10 2 rfl rfl
theorem ws_Law_set : Cond.static y_Law_set ∈ WB := wb_i ve_10 3 rfl rfl
theorem wcl_Law_13 : Cond.classLink R_Law 13 "java/lang/IllegalArgumentException" ∈ WB := wb_i ve_10 5 rfl rfl
theorem wl_Law_7 : Cond.methodLink R_Law 7 y_Ben_set ∈ WB := wb_i ve_10 6 rfl rfl
theorem wi_Ben_set : Cond.instanceMethod y_Ben_set ∈ WB := wb_i ve_10 7 rfl rfl
theorem wsel_Ben_set : Cond.selects R_Ben y_Ben_set y_Ben_set ∈ WB := wb_i ve_10 8 rfl rfl
theorem wc_Ben_set : Cond.code y_Ben_set b_Ben_set 5 none ∈ WB := wb_i ve_10 9 rfl rfl
theorem wl_Ben_111 : Cond.methodLink R_Ben 111 y_Ben_needNumber ∈ WB := wb_i ve_10 10 rfl rfl
theorem ws_Ben_needNumber : Cond.static y_Ben_needNumber ∈ WB := wb_i ve_10 11 rfl rfl
theorem wc_Ben_needNumber : Cond.code y_Ben_needNumber b_Ben_needNumber 1 none ∈ WB := wb_i ve_10 12 rfl rfl
theorem wcl_Ben_210 : Cond.classLink R_Ben 210 "java/lang/IllegalArgumentException" ∈ WB := wb_i ve_10 13 rfl rfl
theorem wl_Ben_214 : Cond.methodLink R_Ben 214 ⟨"java/lang/IllegalArgumentException", "<init>", "(Ljava/lang/String;)V"⟩ ∈ WB := wb_i ve_12 13 rfl rfl
theorem wac_278 : Cond.arrayClass Jvm.ClassFile.FieldType.byte ∈ WB := wb_i ve_13 18 rfl rfl
theorem wl_Ben_115 : Cond.methodLink R_Ben 115 y_Ben_needPart ∈ WB := wb_i ve_13 19 rfl rfl
theorem ws_Ben_needPart : Cond.static y_Ben_needPart ∈ WB := wb_i ve_14 0 rfl rfl
theorem wc_Ben_needPart : Cond.code y_Ben_needPart b_Ben_needPart 1 none ∈ WB := wb_i ve_14 1 rfl rfl
theorem wl_Law_79 : Cond.methodLink R_Law 79 y_Law_get ∈ WB := wb_i ve_14 3 rfl rfl
theorem ws_Law_get : Cond.static y_Law_get ∈ WB := wb_i ve_14 4 rfl rfl
theorem wl_Law_15 : Cond.methodLink R_Law 15 y_Ben_get ∈ WB := wb_i ve_14 6 rfl rfl
theorem wi_Ben_get : Cond.instanceMethod y_Ben_get ∈ WB := wb_i ve_14 7 rfl rfl
theorem wsel_Ben_get : Cond.selects R_Ben y_Ben_get y_Ben_get ∈ WB := wb_i ve_14 8 rfl rfl
theorem wc_Ben_get : Cond.code y_Ben_get b_Ben_get 3 (some .long) ∈ WB := wb_i ve_14 9 rfl rfl
theorem wl_Law_83 : Cond.methodLink R_Law 83 y_Law_compare ∈ WB := wb_i ve_14 10 rfl rfl
theorem ws_Law_compare : Cond.static y_Law_compare ∈ WB := wb_i ve_14 11 rfl rfl
theorem wl_Law_19 : Cond.methodLink R_Law 19 y_Ben_compare ∈ WB := wb_i ve_14 13 rfl rfl
theorem wi_Ben_compare : Cond.instanceMethod y_Ben_compare ∈ WB := wb_i ve_14 14 rfl rfl
theorem wsel_Ben_compare : Cond.selects R_Ben y_Ben_compare y_Ben_compare ∈ WB := wb_i ve_14 15 rfl rfl
theorem wc_Ben_compare : Cond.code y_Ben_compare b_Ben_compare 3 (some .int) ∈ WB := wb_i ve_14 16 rfl rfl
theorem wl_Ben_118 : Cond.methodLink R_Ben 118 y_Par_order ∈ WB := wb_i ve_14 17 rfl rfl
theorem ws_Par_order : Cond.static y_Par_order ∈ WB := wb_i ve_14 18 rfl rfl
theorem wc_Par_order : Cond.code y_Par_order b_Par_order 3 (some .int) ∈ WB := wb_i ve_14 19 rfl rfl
theorem wk_Par_9 : Cond.constantLong R_Par 9 (-9223372036854775808) ∈ WB := wb_i ve_15 0 rfl rfl
theorem wl_Law_86 : Cond.methodLink R_Law 86 y_Law_work ∈ WB := wb_i ve_15 1 rfl rfl
theorem ws_Law_work : Cond.static y_Law_work ∈ WB := wb_i ve_15 2 rfl rfl
theorem wl_Law_23 : Cond.methodLink R_Law 23 y_Ben_work ∈ WB := wb_i ve_15 4 rfl rfl
theorem wi_Ben_work : Cond.instanceMethod y_Ben_work ∈ WB := wb_i ve_15 5 rfl rfl
theorem wsel_Ben_work : Cond.selects R_Ben y_Ben_work y_Ben_work ∈ WB := wb_i ve_15 6 rfl rfl
theorem wc_Ben_work : Cond.code y_Ben_work b_Ben_work 7 (some .boolean) ∈ WB := wb_i ve_15 7 rfl rfl
theorem wl_Ben_123 : Cond.methodLink R_Ben 123 y_Ben_needWork ∈ WB := wb_i ve_15 8 rfl rfl
theorem ws_Ben_needWork : Cond.static y_Ben_needWork ∈ WB := wb_i ve_15 9 rfl rfl
theorem wc_Ben_needWork : Cond.code y_Ben_needWork b_Ben_needWork 1 none ∈ WB := wb_i ve_15 10 rfl rfl
theorem wl_Ben_126 : Cond.methodLink R_Ben 126 y_Mod_isAbove ∈ WB := wb_i ve_15 12 rfl rfl
theorem wi_Mod_isAbove : Cond.instanceMethod y_Mod_isAbove ∈ WB := wb_i ve_15 13 rfl rfl
theorem wsel_Mod_isAbove : Cond.selects R_Mod y_Mod_isAbove y_Mod_isAbove ∈ WB := wb_i ve_15 14 rfl rfl
theorem wc_Mod_isAbove : Cond.code y_Mod_isAbove b_Mod_isAbove 2 (some .boolean) ∈ WB := wb_i ve_15 15 rfl rfl
theorem wl_Mod_40 : Cond.methodLink R_Mod 40 y_Par_order ∈ WB := wb_i ve_15 16 rfl rfl
theorem wl_Ben_130 : Cond.methodLink R_Ben 130 y_Par_areZero ∈ WB := wb_i ve_15 17 rfl rfl
theorem ws_Par_areZero : Cond.static y_Par_areZero ∈ WB := wb_i ve_15 18 rfl rfl
theorem wc_Par_areZero : Cond.code y_Par_areZero b_Par_areZero 1 (some .boolean) ∈ WB := wb_i ve_15 19 rfl rfl
theorem wl_Par_15 : Cond.methodLink R_Par 15 y_Par_order ∈ WB := wb_i ve_16 2 rfl rfl
theorem wl_Ben_133 : Cond.methodLink R_Ben 133 y_Ben_workOnLeft ∈ WB := wb_i ve_16 3 rfl rfl
theorem wi_Ben_workOnLeft : Cond.instanceMethod y_Ben_workOnLeft ∈ WB := wb_i ve_16 5 rfl rfl
theorem wc_Ben_workOnLeft : Cond.code y_Ben_workOnLeft b_Ben_workOnLeft 3 none ∈ WB := wb_i ve_16 6 rfl rfl
theorem wl_Ben_198 : Cond.methodLink R_Ben 198 y_Lim_plus ∈ WB := wb_i ve_16 7 rfl rfl
theorem ws_Lim_plus : Cond.static y_Lim_plus ∈ WB := wb_i ve_16 8 rfl rfl
theorem wc_Lim_plus : Cond.code y_Lim_plus b_Lim_plus 4 none ∈ WB := wb_i ve_16 9 rfl rfl
theorem wl_Ben_223 : Cond.methodLink R_Ben 223 y_Lim_minus ∈ WB := wb_i ve_16 10 rfl rfl
theorem ws_Lim_minus : Cond.static y_Lim_minus ∈ WB := wb_i ve_16 11 rfl rfl
theorem wc_Lim_minus : Cond.code y_Lim_minus b_Lim_minus 4 none ∈ WB := wb_i ve_16 12 rfl rfl
theorem wl_Ben_195 : Cond.methodLink R_Ben 195 y_Mod_multiply ∈ WB := wb_i ve_16 13 rfl rfl
theorem wi_Mod_multiply : Cond.instanceMethod y_Mod_multiply ∈ WB := wb_i ve_16 14 rfl rfl
theorem wsel_Mod_multiply : Cond.selects R_Mod y_Mod_multiply y_Mod_multiply ∈ WB := wb_i ve_16 15 rfl rfl
theorem wc_Mod_multiply : Cond.code y_Mod_multiply b_Mod_multiply 4 none ∈ WB := wb_i ve_16 16 rfl rfl
theorem wl_Mod_46 : Cond.methodLink R_Mod 46 y_Lim_product ∈ WB := wb_i ve_16 17 rfl rfl
theorem ws_Lim_product : Cond.static y_Lim_product ∈ WB := wb_i ve_16 18 rfl rfl
theorem wc_Lim_product : Cond.code y_Lim_product b_Lim_product 43 none ∈ WB := wb_i ve_16 19 rfl rfl
theorem wl_Mod_52 : Cond.methodLink R_Mod 52 y_Lim_carry ∈ WB := wb_i ve_17 0 rfl rfl
theorem ws_Lim_carry : Cond.static y_Lim_carry ∈ WB := wb_i ve_17 1 rfl rfl
theorem wc_Lim_carry : Cond.code y_Lim_carry b_Lim_carry 6 none ∈ WB := wb_i ve_17 2 rfl rfl
theorem wl_Mod_56 : Cond.methodLink R_Mod 56 y_Mod_fold ∈ WB := wb_i ve_17 3 rfl rfl
theorem wi_Mod_fold : Cond.instanceMethod y_Mod_fold ∈ WB := wb_i ve_17 5 rfl rfl
theorem wc_Mod_fold : Cond.code y_Mod_fold b_Mod_fold 6 none ∈ WB := wb_i ve_17 6 rfl rfl
theorem wl_Mod_60 : Cond.methodLink R_Mod 60 y_Lim_copy ∈ WB := wb_i ve_17 7 rfl rfl
theorem ws_Lim_copy : Cond.static y_Lim_copy ∈ WB := wb_i ve_17 8 rfl rfl
theorem wc_Lim_copy : Cond.code y_Lim_copy b_Lim_copy 2 none ∈ WB := wb_i ve_17 9 rfl rfl
theorem wl_Lim_9 : Cond.methodLink R_Lim 9 arraycopyName ∈ WB := wb_i ve_17 10 rfl rfl
theorem ws_arraycopy : Cond.static arraycopyName ∈ WB := wb_i ve_17 11 rfl rfl
theorem wn_arraycopy : Cond.native arraycopyName ∈ WB := wb_i ve_17 12 rfl rfl
theorem wl_Ben_201 : Cond.methodLink R_Ben 201 y_Mod_invert ∈ WB := wb_i ve_17 13 rfl rfl
theorem wi_Mod_invert : Cond.instanceMethod y_Mod_invert ∈ WB := wb_i ve_17 14 rfl rfl
theorem wsel_Mod_invert : Cond.selects R_Mod y_Mod_invert y_Mod_invert ∈ WB := wb_i ve_17 15 rfl rfl
theorem wc_Mod_invert : Cond.code y_Mod_invert b_Mod_invert 3 none ∈ WB := wb_i ve_17 16 rfl rfl
theorem wl_Mod_77 : Cond.methodLink R_Mod 77 y_Mod_power ∈ WB := wb_i ve_17 17 rfl rfl
theorem wi_Mod_power : Cond.instanceMethod y_Mod_power ∈ WB := wb_i ve_17 18 rfl rfl
theorem wsel_Mod_power : Cond.selects R_Mod y_Mod_power y_Mod_power ∈ WB := wb_i ve_17 19 rfl rfl
theorem wc_Mod_power : Cond.code y_Mod_power b_Mod_power 5 none ∈ WB := wb_i ve_18 0 rfl rfl
theorem wl_Mod_67 : Cond.methodLink R_Mod 67 y_Lim_unpack ∈ WB := wb_i ve_18 2 rfl rfl
theorem wl_Mod_70 : Cond.methodLink R_Mod 70 y_Mod_multiply ∈ WB := wb_i ve_18 3 rfl rfl
theorem wl_Mod_73 : Cond.methodLink R_Mod 73 y_Par_haveBit ∈ WB := wb_i ve_18 4 rfl rfl
theorem ws_Par_haveBit : Cond.static y_Par_haveBit ∈ WB := wb_i ve_18 5 rfl rfl
theorem wc_Par_haveBit : Cond.code y_Par_haveBit b_Par_haveBit 2 (some .boolean) ∈ WB := wb_i ve_18 6 rfl rfl
theorem wl_Ben_137 : Cond.methodLink R_Ben 137 y_Mod_settle ∈ WB := wb_i ve_18 7 rfl rfl
theorem wi_Mod_settle : Cond.instanceMethod y_Mod_settle ∈ WB := wb_i ve_18 8 rfl rfl
theorem wsel_Mod_settle : Cond.selects R_Mod y_Mod_settle y_Mod_settle ∈ WB := wb_i ve_18 9 rfl rfl
theorem wc_Mod_settle : Cond.code y_Mod_settle b_Mod_settle 3 none ∈ WB := wb_i ve_18 10 rfl rfl
theorem wl_Mod_91 : Cond.methodLink R_Mod 91 y_Mod_dropTop ∈ WB := wb_i ve_18 11 rfl rfl
theorem wi_Mod_dropTop : Cond.instanceMethod y_Mod_dropTop ∈ WB := wb_i ve_18 13 rfl rfl
theorem wc_Mod_dropTop : Cond.code y_Mod_dropTop b_Mod_dropTop 5 none ∈ WB := wb_i ve_18 14 rfl rfl
theorem wk_Mod_94 : Cond.constantLong R_Mod 94 (4194304) ∈ WB := wb_i ve_18 15 rfl rfl
theorem wl_Ben_141 : Cond.methodLink R_Ben 141 y_Lim_pack ∈ WB := wb_i ve_18 16 rfl rfl
theorem ws_Lim_pack : Cond.static y_Lim_pack ∈ WB := wb_i ve_18 17 rfl rfl
theorem wc_Lim_pack : Cond.code y_Lim_pack b_Lim_pack 5 none ∈ WB := wb_i ve_18 18 rfl rfl
theorem wl_Law_90 : Cond.methodLink R_Law 90 y_Law_base ∈ WB := wb_i ve_18 19 rfl rfl
theorem ws_Law_base : Cond.static y_Law_base ∈ WB := wb_i ve_19 0 rfl rfl
theorem wl_Law_27 : Cond.methodLink R_Law 27 y_Ben_base ∈ WB := wb_i ve_19 2 rfl rfl
theorem wi_Ben_base : Cond.instanceMethod y_Ben_base ∈ WB := wb_i ve_19 3 rfl rfl
theorem wsel_Ben_base : Cond.selects R_Ben y_Ben_base y_Ben_base ∈ WB := wb_i ve_19 4 rfl rfl
theorem wc_Ben_base : Cond.code y_Ben_base b_Ben_base 2 none ∈ WB := wb_i ve_19 5 rfl rfl
theorem wl_Ben_144 : Cond.methodLink R_Ben 144 y_Ben_needPoint ∈ WB := wb_i ve_19 6 rfl rfl
theorem ws_Ben_needPoint : Cond.static y_Ben_needPoint ∈ WB := wb_i ve_19 7 rfl rfl
theorem wc_Ben_needPoint : Cond.code y_Ben_needPoint b_Ben_needPoint 1 none ∈ WB := wb_i ve_19 8 rfl rfl
theorem wl_Ben_147 : Cond.methodLink R_Ben 147 y_Pnt_copyFrom ∈ WB := wb_i ve_19 10 rfl rfl
theorem wi_Pnt_copyFrom : Cond.instanceMethod y_Pnt_copyFrom ∈ WB := wb_i ve_19 11 rfl rfl
theorem wsel_Pnt_copyFrom : Cond.selects R_Pnt y_Pnt_copyFrom y_Pnt_copyFrom ∈ WB := wb_i ve_19 12 rfl rfl
theorem wc_Pnt_copyFrom : Cond.code y_Pnt_copyFrom b_Pnt_copyFrom 2 none ∈ WB := wb_i ve_19 13 rfl rfl
theorem wl_Pnt_22 : Cond.methodLink R_Pnt 22 y_Lim_copy ∈ WB := wb_i ve_19 14 rfl rfl
theorem wl_Law_94 : Cond.methodLink R_Law 94 y_Law_none ∈ WB := wb_i ve_19 15 rfl rfl
theorem ws_Law_none : Cond.static y_Law_none ∈ WB := wb_i ve_19 16 rfl rfl
theorem wl_Law_31 : Cond.methodLink R_Law 31 y_Ben_none ∈ WB := wb_i ve_19 18 rfl rfl
theorem wi_Ben_none : Cond.instanceMethod y_Ben_none ∈ WB := wb_i ve_19 19 rfl rfl
theorem wsel_Ben_none : Cond.selects R_Ben y_Ben_none y_Ben_none ∈ WB := wb_i ve_20 0 rfl rfl
theorem wc_Ben_none : Cond.code y_Ben_none b_Ben_none 2 none ∈ WB := wb_i ve_20 1 rfl rfl
theorem wl_Law_97 : Cond.methodLink R_Law 97 y_Law_lay ∈ WB := wb_i ve_20 2 rfl rfl
theorem ws_Law_lay : Cond.static y_Law_lay ∈ WB := wb_i ve_20 3 rfl rfl
theorem wl_Law_34 : Cond.methodLink R_Law 34 y_Ben_lay ∈ WB := wb_i ve_20 5 rfl rfl
theorem wi_Ben_lay : Cond.instanceMethod y_Ben_lay ∈ WB := wb_i ve_20 6 rfl rfl
theorem wsel_Ben_lay : Cond.selects R_Ben y_Ben_lay y_Ben_lay ∈ WB := wb_i ve_20 7 rfl rfl
theorem wc_Ben_lay : Cond.code y_Ben_lay b_Ben_lay 4 (some .boolean) ∈ WB := wb_i ve_20 8 rfl rfl
theorem wl_Ben_151 : Cond.methodLink R_Ben 151 y_Ben_squareOfY ∈ WB := wb_i ve_20 9 rfl rfl
theorem wi_Ben_squareOfY : Cond.instanceMethod y_Ben_squareOfY ∈ WB := wb_i ve_20 11 rfl rfl
theorem wc_Ben_squareOfY : Cond.code y_Ben_squareOfY b_Ben_squareOfY 3 none ∈ WB := wb_i ve_20 12 rfl rfl
theorem wk_Ben_226 : Cond.constantLong R_Ben 226 (7) ∈ WB := wb_i ve_20 13 rfl rfl
theorem wl_Ben_154 : Cond.methodLink R_Ben 154 y_Ben_isRoot ∈ WB := wb_i ve_20 14 rfl rfl
theorem wi_Ben_isRoot : Cond.instanceMethod y_Ben_isRoot ∈ WB := wb_i ve_20 16 rfl rfl
theorem wc_Ben_isRoot : Cond.code y_Ben_isRoot b_Ben_isRoot 3 (some .boolean) ∈ WB := wb_i ve_20 17 rfl rfl
theorem wl_Ben_207 : Cond.methodLink R_Ben 207 y_Mod_areCongruent ∈ WB := wb_i ve_20 18 rfl rfl
theorem wi_Mod_areCongruent : Cond.instanceMethod y_Mod_areCongruent ∈ WB := wb_i ve_20 19 rfl rfl
theorem wsel_Mod_areCongruent : Cond.selects R_Mod y_Mod_areCongruent y_Mod_areCongruent ∈ WB := wb_i ve_21 0 rfl rfl
theorem wc_Mod_areCongruent : Cond.code y_Mod_areCongruent b_Mod_areCongruent 3 (some .boolean) ∈ WB := wb_i ve_21 1 rfl rfl
theorem wl_Mod_80 : Cond.methodLink R_Mod 80 y_Lim_minus ∈ WB := wb_i ve_21 2 rfl rfl
theorem wl_Mod_83 : Cond.methodLink R_Mod 83 y_Mod_settle ∈ WB := wb_i ve_21 3 rfl rfl
theorem wl_Mod_87 : Cond.methodLink R_Mod 87 y_Lim_areZero ∈ WB := wb_i ve_21 4 rfl rfl
theorem ws_Lim_areZero : Cond.static y_Lim_areZero ∈ WB := wb_i ve_21 5 rfl rfl
theorem wc_Lim_areZero : Cond.code y_Lim_areZero b_Lim_areZero 2 (some .boolean) ∈ WB := wb_i ve_21 6 rfl rfl
theorem wl_Law_101 : Cond.methodLink R_Law 101 y_Law_lift ∈ WB := wb_i ve_21 7 rfl rfl
theorem ws_Law_lift : Cond.static y_Law_lift ∈ WB := wb_i ve_21 8 rfl rfl
theorem wl_Law_38 : Cond.methodLink R_Law 38 y_Ben_lift ∈ WB := wb_i ve_21 10 rfl rfl
theorem wi_Ben_lift : Cond.instanceMethod y_Ben_lift ∈ WB := wb_i ve_21 11 rfl rfl
theorem wsel_Ben_lift : Cond.selects R_Ben y_Ben_lift y_Ben_lift ∈ WB := wb_i ve_21 12 rfl rfl
theorem wc_Ben_lift : Cond.code y_Ben_lift b_Ben_lift 4 (some .boolean) ∈ WB := wb_i ve_21 13 rfl rfl
theorem wf_Ben_158 : Cond.fieldLink R_Ben 158 "PointBench" "ROOT_POWER" "[J" ∈ WB := wb_i ve_21 14 rfl rfl
theorem wl_Ben_161 : Cond.methodLink R_Ben 161 y_Mod_power ∈ WB := wb_i ve_21 16 rfl rfl
theorem wl_Ben_165 : Cond.methodLink R_Ben 165 y_Ben_makeParity ∈ WB := wb_i ve_21 17 rfl rfl
theorem wi_Ben_makeParity : Cond.instanceMethod y_Ben_makeParity ∈ WB := wb_i ve_21 19 rfl rfl
theorem wc_Ben_makeParity : Cond.code y_Ben_makeParity b_Ben_makeParity 4 none ∈ WB := wb_i ve_22 0 rfl rfl
theorem wf_Ben_178 : Cond.fieldLink R_Ben 178 "PointBench" "ZERO" "[J" ∈ WB := wb_i ve_22 1 rfl rfl
theorem wl_Law_105 : Cond.methodLink R_Law 105 y_Law_show ∈ WB := wb_i ve_22 2 rfl rfl
theorem ws_Law_show : Cond.static y_Law_show ∈ WB := wb_i ve_22 3 rfl rfl
theorem wl_Law_42 : Cond.methodLink R_Law 42 y_Ben_show ∈ WB := wb_i ve_22 5 rfl rfl
theorem wi_Ben_show : Cond.instanceMethod y_Ben_show ∈ WB := wb_i ve_22 6 rfl rfl
theorem wsel_Ben_show : Cond.selects R_Ben y_Ben_show y_Ben_show ∈ WB := wb_i ve_22 7 rfl rfl
theorem wc_Ben_show : Cond.code y_Ben_show b_Ben_show 4 (some .boolean) ∈ WB := wb_i ve_22 8 rfl rfl
theorem wl_Law_108 : Cond.methodLink R_Law 108 y_Law_add ∈ WB := wb_i ve_22 9 rfl rfl
theorem ws_Law_add : Cond.static y_Law_add ∈ WB := wb_i ve_22 10 rfl rfl
theorem wl_Law_45 : Cond.methodLink R_Law 45 y_Ben_add ∈ WB := wb_i ve_22 12 rfl rfl
theorem wi_Ben_add : Cond.instanceMethod y_Ben_add ∈ WB := wb_i ve_22 13 rfl rfl
theorem wsel_Ben_add : Cond.selects R_Ben y_Ben_add y_Ben_add ∈ WB := wb_i ve_22 14 rfl rfl
theorem wc_Ben_add : Cond.code y_Ben_add b_Ben_add 4 none ∈ WB := wb_i ve_22 15 rfl rfl
theorem wl_Ben_169 : Cond.methodLink R_Ben 169 y_Sum_clear ∈ WB := wb_i ve_22 16 rfl rfl
theorem wi_Sum_clear : Cond.instanceMethod y_Sum_clear ∈ WB := wb_i ve_22 17 rfl rfl
theorem wsel_Sum_clear : Cond.selects R_Sum y_Sum_clear y_Sum_clear ∈ WB := wb_i ve_22 18 rfl rfl
theorem wc_Sum_clear : Cond.code y_Sum_clear b_Sum_clear 1 none ∈ WB := wb_i ve_22 19 rfl rfl
theorem wl_Ben_172 : Cond.methodLink R_Ben 172 y_Sum_join ∈ WB := wb_i ve_23 0 rfl rfl
theorem wi_Sum_join : Cond.instanceMethod y_Sum_join ∈ WB := wb_i ve_23 1 rfl rfl
theorem wsel_Sum_join : Cond.selects R_Sum y_Sum_join y_Sum_join ∈ WB := wb_i ve_23 2 rfl rfl
theorem wc_Sum_join : Cond.code y_Sum_join b_Sum_join 2 none ∈ WB := wb_i ve_23 3 rfl rfl
theorem wl_Sum_63 : Cond.methodLink R_Sum 63 y_Sum_begin ∈ WB := wb_i ve_23 4 rfl rfl
theorem wi_Sum_begin : Cond.instanceMethod y_Sum_begin ∈ WB := wb_i ve_23 6 rfl rfl
theorem wc_Sum_begin : Cond.code y_Sum_begin b_Sum_begin 2 none ∈ WB := wb_i ve_23 7 rfl rfl
theorem wl_Sum_86 : Cond.methodLink R_Sum 86 y_Lim_copy ∈ WB := wb_i ve_23 8 rfl rfl
theorem wl_Sum_93 : Cond.methodLink R_Sum 93 y_Lim_unpack ∈ WB := wb_i ve_23 10 rfl rfl
theorem wl_Sum_66 : Cond.methodLink R_Sum 66 y_Mod_multiply ∈ WB := wb_i ve_23 11 rfl rfl
theorem wl_Sum_73 : Cond.methodLink R_Sum 73 y_Lim_minus ∈ WB := wb_i ve_23 12 rfl rfl
theorem wl_Sum_79 : Cond.methodLink R_Sum 79 y_Mod_isMultiple ∈ WB := wb_i ve_23 13 rfl rfl
theorem wi_Mod_isMultiple : Cond.instanceMethod y_Mod_isMultiple ∈ WB := wb_i ve_23 14 rfl rfl
theorem wsel_Mod_isMultiple : Cond.selects R_Mod y_Mod_isMultiple y_Mod_isMultiple ∈ WB := wb_i ve_23 15 rfl rfl
theorem wc_Mod_isMultiple : Cond.code y_Mod_isMultiple b_Mod_isMultiple 2 (some .boolean) ∈ WB := wb_i ve_23 16 rfl rfl
theorem wl_Sum_83 : Cond.methodLink R_Sum 83 y_Sum_joinAcross ∈ WB := wb_i ve_23 17 rfl rfl
theorem wi_Sum_joinAcross : Cond.instanceMethod y_Sum_joinAcross ∈ WB := wb_i ve_23 19 rfl rfl
theorem wc_Sum_joinAcross : Cond.code y_Sum_joinAcross b_Sum_joinAcross 1 none ∈ WB := wb_i ve_24 0 rfl rfl
theorem wl_Sum_47 : Cond.methodLink R_Sum 47 y_Sum_twice ∈ WB := wb_i ve_24 1 rfl rfl
theorem wi_Sum_twice : Cond.instanceMethod y_Sum_twice ∈ WB := wb_i ve_24 3 rfl rfl
theorem wc_Sum_twice : Cond.code y_Sum_twice b_Sum_twice 1 none ∈ WB := wb_i ve_24 4 rfl rfl
theorem wk_Sum_96 : Cond.constantLong R_Sum 96 (2) ∈ WB := wb_i ve_24 5 rfl rfl
theorem wl_Sum_98 : Cond.methodLink R_Sum 98 y_Lim_scale ∈ WB := wb_i ve_24 6 rfl rfl
theorem ws_Lim_scale : Cond.static y_Lim_scale ∈ WB := wb_i ve_24 7 rfl rfl
theorem wc_Lim_scale : Cond.code y_Lim_scale b_Lim_scale 5 none ∈ WB := wb_i ve_24 8 rfl rfl
theorem wk_Sum_102 : Cond.constantLong R_Sum 102 (3) ∈ WB := wb_i ve_24 9 rfl rfl
theorem wk_Sum_104 : Cond.constantLong R_Sum 104 (4) ∈ WB := wb_i ve_24 10 rfl rfl
theorem wk_Sum_106 : Cond.constantLong R_Sum 106 (8) ∈ WB := wb_i ve_24 11 rfl rfl
theorem wl_Ben_175 : Cond.methodLink R_Ben 175 y_Sum_writeTo ∈ WB := wb_i ve_24 12 rfl rfl
theorem wi_Sum_writeTo : Cond.instanceMethod y_Sum_writeTo ∈ WB := wb_i ve_24 13 rfl rfl
theorem wsel_Sum_writeTo : Cond.selects R_Sum y_Sum_writeTo y_Sum_writeTo ∈ WB := wb_i ve_24 14 rfl rfl
theorem wc_Sum_writeTo : Cond.code y_Sum_writeTo b_Sum_writeTo 2 none ∈ WB := wb_i ve_24 15 rfl rfl
theorem wl_Sum_108 : Cond.methodLink R_Sum 108 y_Mod_invert ∈ WB := wb_i ve_24 16 rfl rfl
theorem wl_Sum_111 : Cond.methodLink R_Sum 111 y_Mod_settle ∈ WB := wb_i ve_24 17 rfl rfl
theorem wl_Law_112 : Cond.methodLink R_Law 112 y_Law_times ∈ WB := wb_i ve_24 18 rfl rfl
theorem ws_Law_times : Cond.static y_Law_times ∈ WB := wb_i ve_24 19 rfl rfl
theorem wl_Law_49 : Cond.methodLink R_Law 49 y_Ben_times ∈ WB := wb_i ve_25 1 rfl rfl
theorem wi_Ben_times : Cond.instanceMethod y_Ben_times ∈ WB := wb_i ve_25 2 rfl rfl
theorem wsel_Ben_times : Cond.selects R_Ben y_Ben_times y_Ben_times ∈ WB := wb_i ve_25 3 rfl rfl
theorem wc_Ben_times : Cond.code y_Ben_times b_Ben_times 4 none ∈ WB := wb_i ve_25 4 rfl rfl
theorem wl_Ben_181 : Cond.methodLink R_Ben 181 y_Sum_gather ∈ WB := wb_i ve_25 5 rfl rfl
theorem wi_Sum_gather : Cond.instanceMethod y_Sum_gather ∈ WB := wb_i ve_25 6 rfl rfl
theorem wsel_Sum_gather : Cond.selects R_Sum y_Sum_gather y_Sum_gather ∈ WB := wb_i ve_25 7 rfl rfl
theorem wc_Sum_gather : Cond.code y_Sum_gather b_Sum_gather 6 none ∈ WB := wb_i ve_25 8 rfl rfl
theorem wl_Sum_44 : Cond.methodLink R_Sum 44 y_Sum_clear ∈ WB := wb_i ve_25 9 rfl rfl
theorem wl_Sum_50 : Cond.methodLink R_Sum 50 y_Par_haveBit ∈ WB := wb_i ve_25 10 rfl rfl
theorem wl_Sum_56 : Cond.methodLink R_Sum 56 y_Sum_join ∈ WB := wb_i ve_25 11 rfl rfl
theorem wl_Law_115 : Cond.methodLink R_Law 115 y_Law_same ∈ WB := wb_i ve_25 12 rfl rfl
theorem ws_Law_same : Cond.static y_Law_same ∈ WB := wb_i ve_25 13 rfl rfl
theorem wl_Law_52 : Cond.methodLink R_Law 52 y_Ben_same ∈ WB := wb_i ve_25 15 rfl rfl
theorem wi_Ben_same : Cond.instanceMethod y_Ben_same ∈ WB := wb_i ve_25 16 rfl rfl
theorem wsel_Ben_same : Cond.selects R_Ben y_Ben_same y_Ben_same ∈ WB := wb_i ve_25 17 rfl rfl
theorem wc_Ben_same : Cond.code y_Ben_same b_Ben_same 3 (some .boolean) ∈ WB := wb_i ve_25 18 rfl rfl
theorem wl_Ben_185 : Cond.methodLink R_Ben 185 y_Pnt_matches ∈ WB := wb_i ve_25 19 rfl rfl
theorem wi_Pnt_matches : Cond.instanceMethod y_Pnt_matches ∈ WB := wb_i ve_26 0 rfl rfl
theorem wsel_Pnt_matches : Cond.selects R_Pnt y_Pnt_matches y_Pnt_matches ∈ WB := wb_i ve_26 1 rfl rfl
theorem wc_Pnt_matches : Cond.code y_Pnt_matches b_Pnt_matches 2 (some .boolean) ∈ WB := wb_i ve_26 2 rfl rfl
theorem wl_Pnt_28 : Cond.methodLink R_Pnt 28 y_Lim_areEqual ∈ WB := wb_i ve_26 3 rfl rfl
theorem ws_Lim_areEqual : Cond.static y_Lim_areEqual ∈ WB := wb_i ve_26 4 rfl rfl
theorem wc_Lim_areEqual : Cond.code y_Lim_areEqual b_Lim_areEqual 3 (some .boolean) ∈ WB := wb_i ve_26 5 rfl rfl
theorem wl_Law_118 : Cond.methodLink R_Law 118 y_Law_sign ∈ WB := wb_i ve_26 6 rfl rfl
theorem ws_Law_sign : Cond.static y_Law_sign ∈ WB := wb_i ve_26 7 rfl rfl
theorem wl_Law_56 : Cond.methodLink R_Law 56 y_Ben_sign ∈ WB := wb_i ve_26 9 rfl rfl
theorem wi_Ben_sign : Cond.instanceMethod y_Ben_sign ∈ WB := wb_i ve_26 10 rfl rfl
theorem wsel_Ben_sign : Cond.selects R_Ben y_Ben_sign y_Ben_sign ∈ WB := wb_i ve_26 11 rfl rfl
theorem wc_Ben_sign : Cond.code y_Ben_sign b_Ben_sign 6 (some .boolean) ∈ WB := wb_i ve_26 12 rfl rfl
theorem wl_Ben_189 : Cond.methodLink R_Ben 189 y_Ben_isFromOneBelowN ∈ WB := wb_i ve_26 13 rfl rfl
theorem wi_Ben_isFromOneBelowN : Cond.instanceMethod y_Ben_isFromOneBelowN ∈ WB := wb_i ve_26 15 rfl rfl
theorem wc_Ben_isFromOneBelowN : Cond.code y_Ben_isFromOneBelowN b_Ben_isFromOneBelowN 2 (some .boolean) ∈ WB := wb_i ve_26 16 rfl rfl
theorem wl_Ben_192 : Cond.methodLink R_Ben 192 y_Lim_copy ∈ WB := wb_i ve_26 17 rfl rfl
theorem wl_Law_122 : Cond.methodLink R_Law 122 y_Law_verify ∈ WB := wb_i ve_26 18 rfl rfl
theorem ws_Law_verify : Cond.static y_Law_verify ∈ WB := wb_i ve_26 19 rfl rfl
theorem wl_Law_60 : Cond.methodLink R_Law 60 y_Ben_verify ∈ WB := wb_i ve_27 1 rfl rfl
theorem wi_Ben_verify : Cond.instanceMethod y_Ben_verify ∈ WB := wb_i ve_27 2 rfl rfl
theorem wsel_Ben_verify : Cond.selects R_Ben y_Ben_verify y_Ben_verify ∈ WB := wb_i ve_27 3 rfl rfl
theorem wc_Ben_verify : Cond.code y_Ben_verify b_Ben_verify 5 (some .boolean) ∈ WB := wb_i ve_27 4 rfl rfl
theorem wl_Ben_204 : Cond.methodLink R_Ben 204 y_Ben_productModuloN ∈ WB := wb_i ve_27 5 rfl rfl
theorem wi_Ben_productModuloN : Cond.instanceMethod y_Ben_productModuloN ∈ WB := wb_i ve_27 7 rfl rfl
theorem wc_Ben_productModuloN : Cond.code y_Ben_productModuloN b_Ben_productModuloN 4 none ∈ WB := wb_i ve_27 8 rfl rfl
theorem wcl_Law_64 : Cond.classLink R_Law 64 R_Mdl ∈ WB := wb_i ve_27 9 rfl rfl
theorem winst_Mdl : Cond.instantiable R_Mdl 23 ∈ WB := wb_i ve_27 10 rfl rfl
theorem wl_Law_66 : Cond.methodLink R_Law 66 y_Mdl_init ∈ WB := wb_i ve_27 11 rfl rfl
theorem wi_Mdl_init : Cond.instanceMethod y_Mdl_init ∈ WB := wb_i ve_27 12 rfl rfl
theorem wc_Mdl_init : Cond.code y_Mdl_init b_Mdl_init 5 none ∈ WB := wb_i ve_27 13 rfl rfl
theorem wl_Mdl_69 : Cond.methodLink R_Mdl 69 objectInit ∈ WB := wb_i ve_27 14 rfl rfl
theorem wcl_Mdl_2 : Cond.classLink R_Mdl 2 R_Rpt ∈ WB := wb_i ve_27 15 rfl rfl
theorem winst_Rpt : Cond.instantiable R_Rpt 3 ∈ WB := wb_i ve_27 16 rfl rfl
theorem wi_Rpt_init : Cond.instanceMethod y_Rpt_init ∈ WB := wb_i ve_27 18 rfl rfl
theorem wc_Rpt_init : Cond.code y_Rpt_init b_Rpt_init 1 none ∈ WB := wb_i ve_27 19 rfl rfl
theorem wl_Rpt_1 : Cond.methodLink R_Rpt 1 objectInit ∈ WB := wb_i ve_28 0 rfl rfl
theorem wf_Rpt_7 : Cond.fieldLink R_Rpt 7 "PointBenchModel$Point" "x" "[I" ∈ WB := wb_i ve_28 1 rfl rfl
theorem wf_Rpt_13 : Cond.fieldLink R_Rpt 13 "PointBenchModel$Point" "y" "[I" ∈ WB := wb_i ve_28 4 rfl rfl
theorem wf_Rpt_16 : Cond.fieldLink R_Rpt 16 "PointBenchModel$Point" "z" "[I" ∈ WB := wb_i ve_28 6 rfl rfl
theorem wac_574 : Cond.arrayClass Jvm.ClassFile.FieldType.int ∈ WB := wb_i ve_28 14 rfl rfl
theorem wcl_Mdl_101 : Cond.classLink R_Mdl 101 "[[I" ∈ WB := wb_i ve_28 15 rfl rfl
theorem wk_Mdl_125 : Cond.constant R_Mdl 125 (-801750719) ∈ WB := wb_i ve_28 18 rfl rfl
theorem wk_Mdl_126 : Cond.constant R_Mdl 126 (-1076732276) ∈ WB := wb_i ve_28 19 rfl rfl
theorem wk_Mdl_127 : Cond.constant R_Mdl 127 (-1354194885) ∈ WB := wb_i ve_29 0 rfl rfl
theorem wk_Mdl_128 : Cond.constant R_Mdl 128 (-1162945306) ∈ WB := wb_i ve_29 1 rfl rfl
theorem wcl_Mdl_8 : Cond.classLink R_Mdl 8 R_Rng ∈ WB := wb_i ve_29 2 rfl rfl
theorem winst_Rng : Cond.instantiable R_Rng 8 ∈ WB := wb_i ve_29 3 rfl rfl
theorem wl_Mdl_129 : Cond.methodLink R_Mdl 129 y_Rng_init ∈ WB := wb_i ve_29 4 rfl rfl
theorem wi_Rng_init : Cond.instanceMethod y_Rng_init ∈ WB := wb_i ve_29 5 rfl rfl
theorem wc_Rng_init : Cond.code y_Rng_init b_Rng_init 4 none ∈ WB := wb_i ve_29 6 rfl rfl
theorem wl_Rng_3 : Cond.methodLink R_Rng 3 objectInit ∈ WB := wb_i ve_29 7 rfl rfl
theorem wl_Rng_37 : Cond.methodLink R_Rng 37 y_Rng_add ∈ WB := wb_i ve_29 8 rfl rfl
theorem wi_Rng_add : Cond.instanceMethod y_Rng_add ∈ WB := wb_i ve_29 9 rfl rfl
theorem wsel_Rng_add : Cond.selects R_Rng y_Rng_add y_Rng_add ∈ WB := wb_i ve_29 10 rfl rfl
theorem wc_Rng_add : Cond.code y_Rng_add b_Rng_add 4 none ∈ WB := wb_i ve_29 11 rfl rfl
theorem wl_Rng_51 : Cond.methodLink R_Rng 51 y_Rng_plus ∈ WB := wb_i ve_29 12 rfl rfl
theorem ws_Rng_plus : Cond.static y_Rng_plus ∈ WB := wb_i ve_29 13 rfl rfl
theorem wc_Rng_plus : Cond.code y_Rng_plus b_Rng_plus 6 (some .long) ∈ WB := wb_i ve_29 14 rfl rfl
theorem wk_Rng_49 : Cond.constantLong R_Rng 49 (4294967295) ∈ WB := wb_i ve_29 15 rfl rfl
theorem wl_Rng_45 : Cond.methodLink R_Rng 45 y_Rng_compare ∈ WB := wb_i ve_29 16 rfl rfl
theorem ws_Rng_compare : Cond.static y_Rng_compare ∈ WB := wb_i ve_29 17 rfl rfl
theorem wc_Rng_compare : Cond.code y_Rng_compare b_Rng_compare 3 (some .int) ∈ WB := wb_i ve_29 18 rfl rfl
theorem wl_Rng_55 : Cond.methodLink R_Rng 55 y_Rng_less ∈ WB := wb_i ve_29 19 rfl rfl
theorem ws_Rng_less : Cond.static y_Rng_less ∈ WB := wb_i ve_30 0 rfl rfl
theorem wc_Rng_less : Cond.code y_Rng_less b_Rng_less 8 (some .long) ∈ WB := wb_i ve_30 1 rfl rfl
theorem wl_Rng_41 : Cond.methodLink R_Rng 41 y_Rng_copy ∈ WB := wb_i ve_30 2 rfl rfl
theorem ws_Rng_copy : Cond.static y_Rng_copy ∈ WB := wb_i ve_30 3 rfl rfl
theorem wc_Rng_copy : Cond.code y_Rng_copy b_Rng_copy 3 none ∈ WB := wb_i ve_30 4 rfl rfl
theorem wf_Rng_9 : Cond.fieldLink R_Rng 9 "PointBenchModel$Ring" "modulus" "[I" ∈ WB := wb_i ve_30 5 rfl rfl
theorem wf_Rng_33 : Cond.fieldLink R_Rng 33 "PointBenchModel$Ring" "minus" "I" ∈ WB := wb_i ve_30 7 rfl rfl
theorem wf_Rng_15 : Cond.fieldLink R_Rng 15 "PointBenchModel$Ring" "one" "[I" ∈ WB := wb_i ve_30 8 rfl rfl
theorem wf_Rng_18 : Cond.fieldLink R_Rng 18 "PointBenchModel$Ring" "twice" "[I" ∈ WB := wb_i ve_30 10 rfl rfl
theorem wf_Rng_21 : Cond.fieldLink R_Rng 21 "PointBenchModel$Ring" "plain" "[I" ∈ WB := wb_i ve_30 11 rfl rfl
theorem wf_Rng_24 : Cond.fieldLink R_Rng 24 "PointBenchModel$Ring" "row" "[I" ∈ WB := wb_i ve_30 12 rfl rfl
theorem wf_Rng_27 : Cond.fieldLink R_Rng 27 "PointBenchModel$Ring" "base" "[I" ∈ WB := wb_i ve_30 13 rfl rfl
theorem wf_Rng_30 : Cond.fieldLink R_Rng 30 "PointBenchModel$Ring" "other" "[I" ∈ WB := wb_i ve_30 14 rfl rfl
theorem wl_Mdl_135 : Cond.methodLink R_Mdl 135 y_Rng_enter ∈ WB := wb_i ve_31 12 rfl rfl
theorem wi_Rng_enter : Cond.instanceMethod y_Rng_enter ∈ WB := wb_i ve_31 13 rfl rfl
theorem wsel_Rng_enter : Cond.selects R_Rng y_Rng_enter y_Rng_enter ∈ WB := wb_i ve_31 14 rfl rfl
theorem wc_Rng_enter : Cond.code y_Rng_enter b_Rng_enter 3 none ∈ WB := wb_i ve_31 15 rfl rfl
theorem wl_Rng_62 : Cond.methodLink R_Rng 62 y_Rng_multiply ∈ WB := wb_i ve_31 16 rfl rfl
theorem wi_Rng_multiply : Cond.instanceMethod y_Rng_multiply ∈ WB := wb_i ve_31 17 rfl rfl
theorem wsel_Rng_multiply : Cond.selects R_Rng y_Rng_multiply y_Rng_multiply ∈ WB := wb_i ve_31 18 rfl rfl
theorem wc_Rng_multiply : Cond.code y_Rng_multiply b_Rng_multiply 6 none ∈ WB := wb_i ve_31 19 rfl rfl
theorem wl_Rng_58 : Cond.methodLink R_Rng 58 y_Rng_put ∈ WB := wb_i ve_32 0 rfl rfl
theorem wi_Rng_put : Cond.instanceMethod y_Rng_put ∈ WB := wb_i ve_32 2 rfl rfl
theorem wc_Rng_put : Cond.code y_Rng_put b_Rng_put 6 none ∈ WB := wb_i ve_32 3 rfl rfl
theorem wk_Mdl_138 : Cond.constant R_Mdl 138 (385357720) ∈ WB := wb_i ve_32 4 rfl rfl
theorem wk_Mdl_139 : Cond.constant R_Mdl 139 (1509065051) ∈ WB := wb_i ve_32 5 rfl rfl
theorem wk_Mdl_140 : Cond.constant R_Mdl 140 (768485593) ∈ WB := wb_i ve_32 6 rfl rfl
theorem wk_Mdl_141 : Cond.constant R_Mdl 141 (43777243) ∈ WB := wb_i ve_32 7 rfl rfl
theorem wk_Mdl_142 : Cond.constant R_Mdl 142 (-830010617) ∈ WB := wb_i ve_32 8 rfl rfl
theorem wk_Mdl_143 : Cond.constant R_Mdl 143 (1436574357) ∈ WB := wb_i ve_32 9 rfl rfl
theorem wk_Mdl_144 : Cond.constant R_Mdl 144 (-102974548) ∈ WB := wb_i ve_32 10 rfl rfl
theorem wk_Mdl_145 : Cond.constant R_Mdl 145 (2042521214) ∈ WB := wb_i ve_32 11 rfl rfl
theorem wk_Mdl_146 : Cond.constant R_Mdl 146 (-82783048) ∈ WB := wb_i ve_32 12 rfl rfl
theorem wk_Mdl_147 : Cond.constant R_Mdl 147 (-1673015153) ∈ WB := wb_i ve_32 13 rfl rfl
theorem wk_Mdl_148 : Cond.constant R_Mdl 148 (-1501211623) ∈ WB := wb_i ve_32 14 rfl rfl
theorem wk_Mdl_149 : Cond.constant R_Mdl 149 (-48778168) ∈ WB := wb_i ve_32 15 rfl rfl
theorem wk_Mdl_150 : Cond.constant R_Mdl 150 (235997352) ∈ WB := wb_i ve_32 16 rfl rfl
theorem wk_Mdl_151 : Cond.constant R_Mdl 151 (1571093500) ∈ WB := wb_i ve_32 17 rfl rfl
theorem wk_Mdl_152 : Cond.constant R_Mdl 152 (648266853) ∈ WB := wb_i ve_32 18 rfl rfl
theorem wk_Mdl_153 : Cond.constant R_Mdl 153 (1211816567) ∈ WB := wb_i ve_32 19 rfl rfl
theorem wl_Mdl_157 : Cond.methodLink R_Mdl 157 y_Rng_copy ∈ WB := wb_i ve_33 0 rfl rfl
theorem wf_Mdl_13 : Cond.fieldLink R_Mdl 13 "PointBenchModel" "field" "LPointBenchModel$Ring;" ∈ WB := wb_i ve_33 1 rfl rfl
theorem wf_Mdl_132 : Cond.fieldLink R_Mdl 132 "PointBenchModel" "order" "LPointBenchModel$Ring;" ∈ WB := wb_i ve_33 2 rfl rfl
theorem wf_Mdl_75 : Cond.fieldLink R_Mdl 75 "PointBenchModel" "seven" "[I" ∈ WB := wb_i ve_33 3 rfl rfl
theorem wf_Mdl_79 : Cond.fieldLink R_Mdl 79 "PointBenchModel" "generator" "LPointBenchModel$Point;" ∈ WB := wb_i ve_33 4 rfl rfl
theorem wf_Mdl_83 : Cond.fieldLink R_Mdl 83 "PointBenchModel" "key" "LPointBenchModel$Point;" ∈ WB := wb_i ve_33 5 rfl rfl
theorem wf_Mdl_86 : Cond.fieldLink R_Mdl 86 "PointBenchModel" "sum" "LPointBenchModel$Point;" ∈ WB := wb_i ve_33 6 rfl rfl
theorem wf_Mdl_89 : Cond.fieldLink R_Mdl 89 "PointBenchModel" "work" "LPointBenchModel$Point;" ∈ WB := wb_i ve_33 7 rfl rfl
theorem wf_Mdl_22 : Cond.fieldLink R_Mdl 22 "PointBenchModel" "a" "[I" ∈ WB := wb_i ve_33 8 rfl rfl
theorem wf_Mdl_32 : Cond.fieldLink R_Mdl 32 "PointBenchModel" "b" "[I" ∈ WB := wb_i ve_33 9 rfl rfl
theorem wf_Mdl_38 : Cond.fieldLink R_Mdl 38 "PointBenchModel" "c" "[I" ∈ WB := wb_i ve_33 10 rfl rfl
theorem wf_Mdl_41 : Cond.fieldLink R_Mdl 41 "PointBenchModel" "d" "[I" ∈ WB := wb_i ve_33 11 rfl rfl
theorem wf_Mdl_44 : Cond.fieldLink R_Mdl 44 "PointBenchModel" "e" "[I" ∈ WB := wb_i ve_33 12 rfl rfl
theorem wf_Mdl_92 : Cond.fieldLink R_Mdl 92 "PointBenchModel" "f" "[I" ∈ WB := wb_i ve_33 13 rfl rfl
theorem wf_Mdl_95 : Cond.fieldLink R_Mdl 95 "PointBenchModel" "px" "[I" ∈ WB := wb_i ve_33 14 rfl rfl
theorem wf_Mdl_98 : Cond.fieldLink R_Mdl 98 "PointBenchModel" "py" "[I" ∈ WB := wb_i ve_33 15 rfl rfl
theorem wf_Mdl_103 : Cond.fieldLink R_Mdl 103 "PointBenchModel" "numbers" "[[I" ∈ WB := wb_i ve_33 16 rfl rfl
theorem wf_Mdl_106 : Cond.fieldLink R_Mdl 106 "PointBenchModel" "points" "[LPointBenchModel$Point;" ∈ WB := wb_i ve_33 17 rfl rfl
theorem wf_Mdl_110 : Cond.fieldLink R_Mdl 110 "PointBenchModel" "other" "LPointBenchModel$Point;" ∈ WB := wb_i ve_33 18 rfl rfl
theorem wf_Mdl_113 : Cond.fieldLink R_Mdl 113 "PointBenchModel" "qx" "[I" ∈ WB := wb_i ve_33 19 rfl rfl
theorem wf_Mdl_116 : Cond.fieldLink R_Mdl 116 "PointBenchModel" "qy" "[I" ∈ WB := wb_i ve_34 0 rfl rfl
theorem wf_Mdl_119 : Cond.fieldLink R_Mdl 119 "PointBenchModel" "u1" "[I" ∈ WB := wb_i ve_34 1 rfl rfl
theorem wf_Mdl_122 : Cond.fieldLink R_Mdl 122 "PointBenchModel" "u2" "[I" ∈ WB := wb_i ve_34 2 rfl rfl
theorem wf_Mdl_160 : Cond.fieldLink R_Mdl 160 "PointBenchModel" "code" "I" ∈ WB := wb_i ve_34 3 rfl rfl
theorem wl_Law_75 : Cond.methodLink R_Law 75 y_Mdl_thrown ∈ WB := wb_i ve_36 11 rfl rfl
theorem wi_Mdl_thrown : Cond.instanceMethod y_Mdl_thrown ∈ WB := wb_i ve_36 12 rfl rfl
theorem wsel_Mdl_thrown : Cond.selects R_Mdl y_Mdl_thrown y_Mdl_thrown ∈ WB := wb_i ve_36 13 rfl rfl
theorem wc_Mdl_thrown : Cond.code y_Mdl_thrown b_Mdl_thrown 1 (some .int) ∈ WB := wb_i ve_36 14 rfl rfl
theorem wl_Law_74 : Cond.methodLink R_Law 74 y_Mdl_set ∈ WB := wb_i ve_36 15 rfl rfl
theorem wi_Mdl_set : Cond.instanceMethod y_Mdl_set ∈ WB := wb_i ve_36 16 rfl rfl
theorem wsel_Mdl_set : Cond.selects R_Mdl y_Mdl_set y_Mdl_set ∈ WB := wb_i ve_36 17 rfl rfl
theorem wc_Mdl_set : Cond.code y_Mdl_set b_Mdl_set 5 none ∈ WB := wb_i ve_36 18 rfl rfl
theorem wl_Mdl_164 : Cond.methodLink R_Mdl 164 y_Mdl_in ∈ WB := wb_i ve_36 19 rfl rfl
theorem ws_Mdl_in : Cond.static y_Mdl_in ∈ WB := wb_i ve_37 0 rfl rfl
theorem wc_Mdl_in : Cond.code y_Mdl_in b_Mdl_in 2 (some .boolean) ∈ WB := wb_i ve_37 1 rfl rfl
theorem wl_Mdl_168 : Cond.methodLink R_Mdl 168 y_Mdl_good ∈ WB := wb_i ve_37 2 rfl rfl
theorem wi_Mdl_good : Cond.instanceMethod y_Mdl_good ∈ WB := wb_i ve_37 4 rfl rfl
theorem wc_Mdl_good : Cond.code y_Mdl_good b_Mdl_good 2 (some .boolean) ∈ WB := wb_i ve_37 5 rfl rfl
theorem wl_Law_82 : Cond.methodLink R_Law 82 y_Mdl_get ∈ WB := wb_i ve_37 6 rfl rfl
theorem wi_Mdl_get : Cond.instanceMethod y_Mdl_get ∈ WB := wb_i ve_37 7 rfl rfl
theorem wsel_Mdl_get : Cond.selects R_Mdl y_Mdl_get y_Mdl_get ∈ WB := wb_i ve_37 8 rfl rfl
theorem wc_Mdl_get : Cond.code y_Mdl_get b_Mdl_get 3 (some .long) ∈ WB := wb_i ve_37 9 rfl rfl
theorem wk_Mdl_172 : Cond.constantLong R_Mdl 172 (4294967295) ∈ WB := wb_i ve_37 10 rfl rfl
theorem wl_Law_85 : Cond.methodLink R_Law 85 y_Mdl_compare ∈ WB := wb_i ve_37 11 rfl rfl
theorem wi_Mdl_compare : Cond.instanceMethod y_Mdl_compare ∈ WB := wb_i ve_37 12 rfl rfl
theorem wsel_Mdl_compare : Cond.selects R_Mdl y_Mdl_compare y_Mdl_compare ∈ WB := wb_i ve_37 13 rfl rfl
theorem wc_Mdl_compare : Cond.code y_Mdl_compare b_Mdl_compare 3 (some .int) ∈ WB := wb_i ve_37 14 rfl rfl
theorem wl_Mdl_174 : Cond.methodLink R_Mdl 174 y_Rng_compare ∈ WB := wb_i ve_37 15 rfl rfl
theorem wl_Law_89 : Cond.methodLink R_Law 89 y_Mdl_work ∈ WB := wb_i ve_37 16 rfl rfl
theorem wi_Mdl_work : Cond.instanceMethod y_Mdl_work ∈ WB := wb_i ve_37 17 rfl rfl
theorem wsel_Mdl_work : Cond.selects R_Mdl y_Mdl_work y_Mdl_work ∈ WB := wb_i ve_37 18 rfl rfl
theorem wc_Mdl_work : Cond.code y_Mdl_work b_Mdl_work 7 (some .boolean) ∈ WB := wb_i ve_37 19 rfl rfl
theorem wl_Mdl_7 : Cond.methodLink R_Mdl 7 y_Rng_isZero ∈ WB := wb_i ve_38 0 rfl rfl
theorem ws_Rng_isZero : Cond.static y_Rng_isZero ∈ WB := wb_i ve_38 1 rfl rfl
theorem wc_Rng_isZero : Cond.code y_Rng_isZero b_Rng_isZero 3 (some .boolean) ∈ WB := wb_i ve_38 2 rfl rfl
theorem wl_Mdl_35 : Cond.methodLink R_Mdl 35 y_Rng_add ∈ WB := wb_i ve_38 3 rfl rfl
theorem wl_Mdl_47 : Cond.methodLink R_Mdl 47 y_Rng_subtract ∈ WB := wb_i ve_38 4 rfl rfl
theorem wi_Rng_subtract : Cond.instanceMethod y_Rng_subtract ∈ WB := wb_i ve_38 5 rfl rfl
theorem wsel_Rng_subtract : Cond.selects R_Rng y_Rng_subtract y_Rng_subtract ∈ WB := wb_i ve_38 6 rfl rfl
theorem wc_Rng_subtract : Cond.code y_Rng_subtract b_Rng_subtract 4 none ∈ WB := wb_i ve_38 7 rfl rfl
theorem wl_Mdl_25 : Cond.methodLink R_Mdl 25 y_Rng_multiply ∈ WB := wb_i ve_38 8 rfl rfl
theorem wl_Mdl_61 : Cond.methodLink R_Mdl 61 y_Rng_power ∈ WB := wb_i ve_38 9 rfl rfl
theorem wi_Rng_power : Cond.instanceMethod y_Rng_power ∈ WB := wb_i ve_38 10 rfl rfl
theorem wsel_Rng_power : Cond.selects R_Rng y_Rng_power y_Rng_power ∈ WB := wb_i ve_38 11 rfl rfl
theorem wc_Rng_power : Cond.code y_Rng_power b_Rng_power 7 none ∈ WB := wb_i ve_38 12 rfl rfl
theorem wl_Mdl_65 : Cond.methodLink R_Mdl 65 y_Rng_leave ∈ WB := wb_i ve_38 13 rfl rfl
theorem wi_Rng_leave : Cond.instanceMethod y_Rng_leave ∈ WB := wb_i ve_38 14 rfl rfl
theorem wsel_Rng_leave : Cond.selects R_Rng y_Rng_leave y_Rng_leave ∈ WB := wb_i ve_38 15 rfl rfl
theorem wc_Rng_leave : Cond.code y_Rng_leave b_Rng_leave 3 none ∈ WB := wb_i ve_38 16 rfl rfl
theorem wl_Law_93 : Cond.methodLink R_Law 93 y_Mdl_base ∈ WB := wb_i ve_38 17 rfl rfl
theorem wi_Mdl_base : Cond.instanceMethod y_Mdl_base ∈ WB := wb_i ve_38 18 rfl rfl
theorem wsel_Mdl_base : Cond.selects R_Mdl y_Mdl_base y_Mdl_base ∈ WB := wb_i ve_38 19 rfl rfl
theorem wc_Mdl_base : Cond.code y_Mdl_base b_Mdl_base 2 none ∈ WB := wb_i ve_39 0 rfl rfl
theorem wl_Mdl_50 : Cond.methodLink R_Mdl 50 y_Rpt_take ∈ WB := wb_i ve_39 1 rfl rfl
theorem wi_Rpt_take : Cond.instanceMethod y_Rpt_take ∈ WB := wb_i ve_39 2 rfl rfl
theorem wsel_Rpt_take : Cond.selects R_Rpt y_Rpt_take y_Rpt_take ∈ WB := wb_i ve_39 3 rfl rfl
theorem wc_Rpt_take : Cond.code y_Rpt_take b_Rpt_take 2 none ∈ WB := wb_i ve_39 4 rfl rfl
theorem wl_Rpt_19 : Cond.methodLink R_Rpt 19 y_Rng_copy ∈ WB := wb_i ve_39 5 rfl rfl
theorem wl_Law_96 : Cond.methodLink R_Law 96 y_Mdl_none ∈ WB := wb_i ve_39 6 rfl rfl
theorem wi_Mdl_none : Cond.instanceMethod y_Mdl_none ∈ WB := wb_i ve_39 7 rfl rfl
theorem wsel_Mdl_none : Cond.selects R_Mdl y_Mdl_none y_Mdl_none ∈ WB := wb_i ve_39 8 rfl rfl
theorem wc_Mdl_none : Cond.code y_Mdl_none b_Mdl_none 3 none ∈ WB := wb_i ve_39 9 rfl rfl
theorem wl_Law_100 : Cond.methodLink R_Law 100 y_Mdl_lay ∈ WB := wb_i ve_39 10 rfl rfl
theorem wi_Mdl_lay : Cond.instanceMethod y_Mdl_lay ∈ WB := wb_i ve_39 11 rfl rfl
theorem wsel_Mdl_lay : Cond.selects R_Mdl y_Mdl_lay y_Mdl_lay ∈ WB := wb_i ve_39 12 rfl rfl
theorem wc_Mdl_lay : Cond.code y_Mdl_lay b_Mdl_lay 4 (some .boolean) ∈ WB := wb_i ve_39 13 rfl rfl
theorem wl_Mdl_181 : Cond.methodLink R_Mdl 181 y_Mdl_square ∈ WB := wb_i ve_39 14 rfl rfl
theorem wi_Mdl_square : Cond.instanceMethod y_Mdl_square ∈ WB := wb_i ve_39 16 rfl rfl
theorem wc_Mdl_square : Cond.code y_Mdl_square b_Mdl_square 2 (some .boolean) ∈ WB := wb_i ve_39 17 rfl rfl
theorem wl_Mdl_184 : Cond.methodLink R_Mdl 184 y_Rng_same ∈ WB := wb_i ve_39 18 rfl rfl
theorem ws_Rng_same : Cond.static y_Rng_same ∈ WB := wb_i ve_39 19 rfl rfl
theorem wc_Rng_same : Cond.code y_Rng_same b_Rng_same 2 (some .boolean) ∈ WB := wb_i ve_40 0 rfl rfl
theorem wl_Law_104 : Cond.methodLink R_Law 104 y_Mdl_lift ∈ WB := wb_i ve_40 1 rfl rfl
theorem wi_Mdl_lift : Cond.instanceMethod y_Mdl_lift ∈ WB := wb_i ve_40 2 rfl rfl
theorem wsel_Mdl_lift : Cond.selects R_Mdl y_Mdl_lift y_Mdl_lift ∈ WB := wb_i ve_40 3 rfl rfl
theorem wc_Mdl_lift : Cond.code y_Mdl_lift b_Mdl_lift 5 (some .boolean) ∈ WB := wb_i ve_40 4 rfl rfl
theorem wl_Law_107 : Cond.methodLink R_Law 107 y_Mdl_show ∈ WB := wb_i ve_40 5 rfl rfl
theorem wi_Mdl_show : Cond.instanceMethod y_Mdl_show ∈ WB := wb_i ve_40 6 rfl rfl
theorem wsel_Mdl_show : Cond.selects R_Mdl y_Mdl_show y_Mdl_show ∈ WB := wb_i ve_40 7 rfl rfl
theorem wc_Mdl_show : Cond.code y_Mdl_show b_Mdl_show 4 (some .boolean) ∈ WB := wb_i ve_40 8 rfl rfl
theorem wl_Mdl_188 : Cond.methodLink R_Mdl 188 y_Mdl_flat ∈ WB := wb_i ve_40 9 rfl rfl
theorem wi_Mdl_flat : Cond.instanceMethod y_Mdl_flat ∈ WB := wb_i ve_40 11 rfl rfl
theorem wc_Mdl_flat : Cond.code y_Mdl_flat b_Mdl_flat 4 none ∈ WB := wb_i ve_40 12 rfl rfl
theorem wl_Law_111 : Cond.methodLink R_Law 111 y_Mdl_add ∈ WB := wb_i ve_40 13 rfl rfl
theorem wi_Mdl_add : Cond.instanceMethod y_Mdl_add ∈ WB := wb_i ve_40 14 rfl rfl
theorem wsel_Mdl_add : Cond.selects R_Mdl y_Mdl_add y_Mdl_add ∈ WB := wb_i ve_40 15 rfl rfl
theorem wc_Mdl_add : Cond.code y_Mdl_add b_Mdl_add 4 none ∈ WB := wb_i ve_40 16 rfl rfl
theorem wl_Mdl_57 : Cond.methodLink R_Mdl 57 y_Mdl_plus ∈ WB := wb_i ve_40 17 rfl rfl
theorem wi_Mdl_plus : Cond.instanceMethod y_Mdl_plus ∈ WB := wb_i ve_40 19 rfl rfl
theorem wc_Mdl_plus : Cond.code y_Mdl_plus b_Mdl_plus 4 none ∈ WB := wb_i ve_41 0 rfl rfl
theorem wl_Mdl_54 : Cond.methodLink R_Mdl 54 y_Mdl_doubled ∈ WB := wb_i ve_41 1 rfl rfl
theorem wi_Mdl_doubled : Cond.instanceMethod y_Mdl_doubled ∈ WB := wb_i ve_41 3 rfl rfl
theorem wc_Mdl_doubled : Cond.code y_Mdl_doubled b_Mdl_doubled 2 none ∈ WB := wb_i ve_41 4 rfl rfl
theorem wl_Law_114 : Cond.methodLink R_Law 114 y_Mdl_times ∈ WB := wb_i ve_41 5 rfl rfl
theorem wi_Mdl_times : Cond.instanceMethod y_Mdl_times ∈ WB := wb_i ve_41 6 rfl rfl
theorem wsel_Mdl_times : Cond.selects R_Mdl y_Mdl_times y_Mdl_times ∈ WB := wb_i ve_41 7 rfl rfl
theorem wc_Mdl_times : Cond.code y_Mdl_times b_Mdl_times 4 none ∈ WB := wb_i ve_41 8 rfl rfl
theorem wl_Mdl_192 : Cond.methodLink R_Mdl 192 y_Mdl_times_p ∈ WB := wb_i ve_41 9 rfl rfl
theorem wi_Mdl_times_p : Cond.instanceMethod y_Mdl_times_p ∈ WB := wb_i ve_41 11 rfl rfl
theorem wc_Mdl_times_p : Cond.code y_Mdl_times_p b_Mdl_times_p 5 none ∈ WB := wb_i ve_41 12 rfl rfl
theorem wl_Law_117 : Cond.methodLink R_Law 117 y_Mdl_same ∈ WB := wb_i ve_41 13 rfl rfl
theorem wi_Mdl_same : Cond.instanceMethod y_Mdl_same ∈ WB := wb_i ve_41 14 rfl rfl
theorem wsel_Mdl_same : Cond.selects R_Mdl y_Mdl_same y_Mdl_same ∈ WB := wb_i ve_41 15 rfl rfl
theorem wc_Mdl_same : Cond.code y_Mdl_same b_Mdl_same 4 (some .boolean) ∈ WB := wb_i ve_41 16 rfl rfl
theorem wl_Law_121 : Cond.methodLink R_Law 121 y_Mdl_sign ∈ WB := wb_i ve_41 17 rfl rfl
theorem wi_Mdl_sign : Cond.instanceMethod y_Mdl_sign ∈ WB := wb_i ve_41 18 rfl rfl
theorem wsel_Mdl_sign : Cond.selects R_Mdl y_Mdl_sign y_Mdl_sign ∈ WB := wb_i ve_41 19 rfl rfl
theorem wc_Mdl_sign : Cond.code y_Mdl_sign b_Mdl_sign 6 (some .boolean) ∈ WB := wb_i ve_42 0 rfl rfl
theorem wl_Mdl_200 : Cond.methodLink R_Mdl 200 y_Mdl_isPart ∈ WB := wb_i ve_42 1 rfl rfl
theorem wi_Mdl_isPart : Cond.instanceMethod y_Mdl_isPart ∈ WB := wb_i ve_42 3 rfl rfl
theorem wc_Mdl_isPart : Cond.code y_Mdl_isPart b_Mdl_isPart 2 (some .boolean) ∈ WB := wb_i ve_42 4 rfl rfl
theorem wl_Mdl_203 : Cond.methodLink R_Mdl 203 y_Mdl_reduce ∈ WB := wb_i ve_42 5 rfl rfl
theorem wi_Mdl_reduce : Cond.instanceMethod y_Mdl_reduce ∈ WB := wb_i ve_42 7 rfl rfl
theorem wc_Mdl_reduce : Cond.code y_Mdl_reduce b_Mdl_reduce 2 none ∈ WB := wb_i ve_42 8 rfl rfl
theorem wl_Mdl_196 : Cond.methodLink R_Mdl 196 y_Rng_less ∈ WB := wb_i ve_42 9 rfl rfl
theorem wl_Law_124 : Cond.methodLink R_Law 124 y_Mdl_verify ∈ WB := wb_i ve_42 10 rfl rfl
theorem wi_Mdl_verify : Cond.instanceMethod y_Mdl_verify ∈ WB := wb_i ve_42 11 rfl rfl
theorem wsel_Mdl_verify : Cond.selects R_Mdl y_Mdl_verify y_Mdl_verify ∈ WB := wb_i ve_42 12 rfl rfl
theorem wc_Mdl_verify : Cond.code y_Mdl_verify b_Mdl_verify 5 (some .boolean) ∈ WB := wb_i ve_42 13 rfl rfl
theorem wk_Law_67 : Cond.constantLong R_Law 67 (4294967295) ∈ WB := wb_i ve_42 14 rfl rfl
theorem wsel_Ben_workOnLeft : Cond.selects R_Ben y_Ben_workOnLeft y_Ben_workOnLeft ∈ WB := wb_i ve_0 1 rfl rfl
theorem wsel_Mod_fold : Cond.selects R_Mod y_Mod_fold y_Mod_fold ∈ WB := wb_i ve_0 2 rfl rfl
theorem wsel_Mod_dropTop : Cond.selects R_Mod y_Mod_dropTop y_Mod_dropTop ∈ WB := wb_i ve_0 3 rfl rfl
theorem wsel_Ben_squareOfY : Cond.selects R_Ben y_Ben_squareOfY y_Ben_squareOfY ∈ WB := wb_i ve_0 4 rfl rfl
theorem wsel_Ben_isRoot : Cond.selects R_Ben y_Ben_isRoot y_Ben_isRoot ∈ WB := wb_i ve_0 5 rfl rfl
theorem wsel_Ben_makeParity : Cond.selects R_Ben y_Ben_makeParity y_Ben_makeParity ∈ WB := wb_i ve_0 6 rfl rfl
theorem wsel_Sum_begin : Cond.selects R_Sum y_Sum_begin y_Sum_begin ∈ WB := wb_i ve_0 7 rfl rfl
theorem wsel_Sum_joinAcross : Cond.selects R_Sum y_Sum_joinAcross y_Sum_joinAcross ∈ WB := wb_i ve_0 8 rfl rfl
theorem wsel_Sum_twice : Cond.selects R_Sum y_Sum_twice y_Sum_twice ∈ WB := wb_i ve_0 9 rfl rfl
theorem wsel_Ben_isFromOneBelowN : Cond.selects R_Ben y_Ben_isFromOneBelowN y_Ben_isFromOneBelowN ∈ WB := wb_i ve_0 10 rfl rfl
theorem wsel_Ben_productModuloN : Cond.selects R_Ben y_Ben_productModuloN y_Ben_productModuloN ∈ WB := wb_i ve_0 11 rfl rfl
theorem wsel_Rng_put : Cond.selects R_Rng y_Rng_put y_Rng_put ∈ WB := wb_i ve_0 12 rfl rfl
theorem wsel_Mdl_good : Cond.selects R_Mdl y_Mdl_good y_Mdl_good ∈ WB := wb_i ve_0 13 rfl rfl
theorem wsel_Mdl_square : Cond.selects R_Mdl y_Mdl_square y_Mdl_square ∈ WB := wb_i ve_0 14 rfl rfl
theorem wsel_Mdl_flat : Cond.selects R_Mdl y_Mdl_flat y_Mdl_flat ∈ WB := wb_i ve_0 15 rfl rfl
theorem wsel_Mdl_plus : Cond.selects R_Mdl y_Mdl_plus y_Mdl_plus ∈ WB := wb_i ve_0 16 rfl rfl
theorem wsel_Mdl_doubled : Cond.selects R_Mdl y_Mdl_doubled y_Mdl_doubled ∈ WB := wb_i ve_0 17 rfl rfl
theorem wsel_Mdl_times_p : Cond.selects R_Mdl y_Mdl_times_p y_Mdl_times_p ∈ WB := wb_i ve_0 18 rfl rfl
theorem wsel_Mdl_isPart : Cond.selects R_Mdl y_Mdl_isPart y_Mdl_isPart ∈ WB := wb_i ve_0 19 rfl rfl
theorem wsel_Mdl_reduce : Cond.selects R_Mdl y_Mdl_reduce y_Mdl_reduce ∈ WB := wb_i ve_1 0 rfl rfl
/-- the words on private members of a nest -/
def NW : List Cond := [.methodLinkNest "PointBench" (57 : Nat) y_Pnt_init "PointBench", .fieldLinkNest "PointBench$Parts" (11 : Nat) "PointBench" "ZERO" "[J" "PointBench", .fieldLinkNest "PointBench$Modulus" (64 : Nat) "PointBench" "ZERO" "[J" "PointBench", .fieldLinkNest "PointBench$RunningSum" (90 : Nat) "PointBench" "ZERO" "[J" "PointBench", .methodLinkNest "PointBenchModel" (78 : Nat) y_Rpt_init "PointBenchModel", .fieldLinkNest "PointBenchModel" (29 : Nat) "PointBenchModel$Point" "x" "[I" "PointBenchModel", .fieldLinkNest "PointBenchModel" (19 : Nat) "PointBenchModel$Point" "y" "[I" "PointBenchModel", .fieldLinkNest "PointBenchModel" (1 : Nat) "PointBenchModel$Point" "z" "[I" "PointBenchModel", .fieldLinkNest "PointBenchModel" (178 : Nat) "PointBenchModel$Ring" "modulus" "[I" "PointBenchModel", .fieldLinkNest "PointBenchModel" (154 : Nat) "PointBenchModel$Ring" "one" "[I" "PointBenchModel", .castable "java/lang/IllegalArgumentException" "java/lang/IllegalArgumentException", .declares ⟨"java/lang/RuntimeException", "<init>", "(Ljava/lang/String;)V"⟩, .declares ⟨"java/lang/Exception", "<init>", "(Ljava/lang/String;)V"⟩, .declares ⟨"java/lang/Throwable", "<init>", "(Ljava/lang/String;)V"⟩]
theorem nw_warm {s U : State} (hW : s.WarmedH U.vm) (h : ∀ w ∈ NW, va_Nw w s) : ∀ w ∈ NW, va_Nw w U := by
  intro w hw
  have h1 := h w hw
  simp only [NW, List.mem_cons, List.not_mem_nil, or_false] at hw
  rcases hw with rfl | rfl | rfl | rfl | rfl | rfl | rfl | rfl | rfl | rfl | rfl | rfl | rfl | rfl
  · exact va_Nw.warmM hW h1
  · exact va_Nw.warmF hW h1
  · exact va_Nw.warmF hW h1
  · exact va_Nw.warmF hW h1
  · exact va_Nw.warmM hW h1
  · exact va_Nw.warmF hW h1
  · exact va_Nw.warmF hW h1
  · exact va_Nw.warmF hW h1
  · exact va_Nw.warmF hW h1
  · exact va_Nw.warmF hW h1
  · exact va_Nw.warmC hW h1
  · exact va_Nw.warmD hW h1
  · exact va_Nw.warmD hW h1
  · exact va_Nw.warmD hW h1
theorem nw_same {u U : State} (hv : u.vm = U.vm) (h : ∀ w ∈ NW, va_Nw w u) : ∀ w ∈ NW, va_Nw w U := by
  intro w hw
  have h1 := h w hw
  simp only [NW, List.mem_cons, List.not_mem_nil, or_false] at hw
  rcases hw with rfl | rfl | rfl | rfl | rfl | rfl | rfl | rfl | rfl | rfl | rfl | rfl | rfl | rfl <;> exact va_Nw.same rfl hv h1
theorem wln_Ben_57 : Cond.methodLinkNest "PointBench" (57 : Nat) y_Pnt_init "PointBench" ∈ NW := List.mem_of_getElem? (i := 0) rfl
theorem wfn_Par_11 : Cond.fieldLinkNest "PointBench$Parts" (11 : Nat) "PointBench" "ZERO" "[J" "PointBench" ∈ NW := List.mem_of_getElem? (i := 1) rfl
theorem wfn_Mod_64 : Cond.fieldLinkNest "PointBench$Modulus" (64 : Nat) "PointBench" "ZERO" "[J" "PointBench" ∈ NW := List.mem_of_getElem? (i := 2) rfl
theorem wfn_Sum_90 : Cond.fieldLinkNest "PointBench$RunningSum" (90 : Nat) "PointBench" "ZERO" "[J" "PointBench" ∈ NW := List.mem_of_getElem? (i := 3) rfl
theorem wln_Mdl_78 : Cond.methodLinkNest "PointBenchModel" (78 : Nat) y_Rpt_init "PointBenchModel" ∈ NW := List.mem_of_getElem? (i := 4) rfl
theorem wfn_Mdl_29 : Cond.fieldLinkNest "PointBenchModel" (29 : Nat) "PointBenchModel$Point" "x" "[I" "PointBenchModel" ∈ NW := List.mem_of_getElem? (i := 5) rfl
theorem wfn_Mdl_19 : Cond.fieldLinkNest "PointBenchModel" (19 : Nat) "PointBenchModel$Point" "y" "[I" "PointBenchModel" ∈ NW := List.mem_of_getElem? (i := 6) rfl
theorem wfn_Mdl_1 : Cond.fieldLinkNest "PointBenchModel" (1 : Nat) "PointBenchModel$Point" "z" "[I" "PointBenchModel" ∈ NW := List.mem_of_getElem? (i := 7) rfl
theorem wfn_Mdl_178 : Cond.fieldLinkNest "PointBenchModel" (178 : Nat) "PointBenchModel$Ring" "modulus" "[I" "PointBenchModel" ∈ NW := List.mem_of_getElem? (i := 8) rfl
theorem wfn_Mdl_154 : Cond.fieldLinkNest "PointBenchModel" (154 : Nat) "PointBenchModel$Ring" "one" "[I" "PointBenchModel" ∈ NW := List.mem_of_getElem? (i := 9) rfl
theorem wcast_xE : Cond.castable "java/lang/IllegalArgumentException" "java/lang/IllegalArgumentException" ∈ NW := List.mem_of_getElem? (i := 10) rfl
