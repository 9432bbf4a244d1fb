section
-- ===== PART A: goes FIRST, ahead of the names: the tables' words, and 'selects' of the private methods out of them =====
/-- a private method of a class that the tables say can be made, by its rows of tables_1 -/
def lw_okq (q : MethodName × Nat) : Prop := (q.1.cls ≠ "java/lang/invoke/MethodHandle" ∧ q.1.cls ≠ "java/lang/invoke/VarHandle") ∧ Cond.instantiable q.1.cls q.2 ∈ tables_1 ∧ Cond.privateMethod q.1 ∈ tables_1 ∧ Cond.instanceMethod q.1 ∈ tables_1
theorem lw_p0 : lw_okq (⟨"HarvestSteps", "canBeDay", "(I)Z"⟩, 16) := ⟨⟨by decide +kernel, by decide +kernel⟩, List.mem_of_getElem? (i := 20) (by decide +kernel), List.mem_of_getElem? (i := 124) (by decide +kernel), List.mem_of_getElem? (i := 125) (by decide +kernel)⟩
theorem lw_p1 : lw_okq (⟨"HarvestSteps", "act", "(IIZ)V"⟩, 16) := ⟨⟨by decide +kernel, by decide +kernel⟩, List.mem_of_getElem? (i := 20) (by decide +kernel), List.mem_of_getElem? (i := 128) (by decide +kernel), List.mem_of_getElem? (i := 129) (by decide +kernel)⟩
theorem lw_p2 : lw_okq (⟨"HarvestSteps", "isRecord", "(I)Z"⟩, 16) := ⟨⟨by decide +kernel, by decide +kernel⟩, List.mem_of_getElem? (i := 20) (by decide +kernel), List.mem_of_getElem? (i := 136) (by decide +kernel), List.mem_of_getElem? (i := 137) (by decide +kernel)⟩
theorem lw_p3 : lw_okq (⟨"HarvestSteps", "isHeld", "(I)Z"⟩, 16) := ⟨⟨by decide +kernel, by decide +kernel⟩, List.mem_of_getElem? (i := 20) (by decide +kernel), List.mem_of_getElem? (i := 162) (by decide +kernel), List.mem_of_getElem? (i := 163) (by decide +kernel)⟩
theorem lw_p4 : lw_okq (⟨"HarvestSteps", "sortSpan", "(III)I"⟩, 16) := ⟨⟨by decide +kernel, by decide +kernel⟩, List.mem_of_getElem? (i := 20) (by decide +kernel), List.mem_of_getElem? (i := 166) (by decide +kernel), List.mem_of_getElem? (i := 167) (by decide +kernel)⟩
theorem lw_p5 : lw_okq (⟨"HarvestSteps", "insertByDay", "(II)V"⟩, 16) := ⟨⟨by decide +kernel, by decide +kernel⟩, List.mem_of_getElem? (i := 20) (by decide +kernel), List.mem_of_getElem? (i := 170) (by decide +kernel), List.mem_of_getElem? (i := 171) (by decide +kernel)⟩
theorem lw_p6 : lw_okq (⟨"HarvestSteps", "makePage", "(LHarvestSteps$Listing;II)LHarvestSteps$Page;"⟩, 16) := ⟨⟨by decide +kernel, by decide +kernel⟩, List.mem_of_getElem? (i := 20) (by decide +kernel), List.mem_of_getElem? (i := 211) (by decide +kernel), List.mem_of_getElem? (i := 212) (by decide +kernel)⟩
theorem lw_p7 : lw_okq (⟨"java/util/ArrayList", "add", "(Ljava/lang/Object;[Ljava/lang/Object;I)V"⟩, 3) := ⟨⟨by decide +kernel, by decide +kernel⟩, List.mem_of_getElem? (i := 28) (by decide +kernel), List.mem_of_getElem? (i := 280) (by decide +kernel), List.mem_of_getElem? (i := 281) (by decide +kernel)⟩
theorem lw_p8 : lw_okq (⟨"java/util/ArrayList", "grow", "()[Ljava/lang/Object;"⟩, 3) := ⟨⟨by decide +kernel, by decide +kernel⟩, List.mem_of_getElem? (i := 28) (by decide +kernel), List.mem_of_getElem? (i := 284) (by decide +kernel), List.mem_of_getElem? (i := 285) (by decide +kernel)⟩
theorem lw_p9 : lw_okq (⟨"java/util/ArrayList", "grow", "(I)[Ljava/lang/Object;"⟩, 3) := ⟨⟨by decide +kernel, by decide +kernel⟩, List.mem_of_getElem? (i := 28) (by decide +kernel), List.mem_of_getElem? (i := 288) (by decide +kernel), List.mem_of_getElem? (i := 289) (by decide +kernel)⟩
theorem lw_p10 : lw_okq (⟨"HarvestSteps", "answer", "(ILHarvestSteps$Page;)I"⟩, 16) := ⟨⟨by decide +kernel, by decide +kernel⟩, List.mem_of_getElem? (i := 20) (by decide +kernel), List.mem_of_getElem? (i := 322) (by decide +kernel), List.mem_of_getElem? (i := 323) (by decide +kernel)⟩
theorem lw_p11 : lw_okq (⟨"HarvestSteps", "isToken", "(I)Z"⟩, 16) := ⟨⟨by decide +kernel, by decide +kernel⟩, List.mem_of_getElem? (i := 20) (by decide +kernel), List.mem_of_getElem? (i := 330) (by decide +kernel), List.mem_of_getElem? (i := 331) (by decide +kernel)⟩
theorem lw_p12 : lw_okq (⟨"java/lang/Throwable", "fillInStackTrace", "(I)Ljava/lang/Throwable;"⟩, 6) := ⟨⟨by decide +kernel, by decide +kernel⟩, List.mem_of_getElem? (i := 415) (by decide +kernel), List.mem_of_getElem? (i := 413) (by decide +kernel), List.mem_of_getElem? (i := 414) (by decide +kernel)⟩
theorem lw_p13 : lw_okq (⟨"HarvestStepsModel", "isDay", "(I)Z"⟩, 34) := ⟨⟨by decide +kernel, by decide +kernel⟩, List.mem_of_getElem? (i := 448) (by decide +kernel), List.mem_of_getElem? (i := 569) (by decide +kernel), List.mem_of_getElem? (i := 570) (by decide +kernel)⟩
theorem lw_p14 : lw_okq (⟨"HarvestStepsModel", "act", "(IIZ)V"⟩, 34) := ⟨⟨by decide +kernel, by decide +kernel⟩, List.mem_of_getElem? (i := 448) (by decide +kernel), List.mem_of_getElem? (i := 573) (by decide +kernel), List.mem_of_getElem? (i := 574) (by decide +kernel)⟩
theorem lw_p15 : lw_okq (⟨"HarvestStepsModel", "isRecord", "(I)Z"⟩, 34) := ⟨⟨by decide +kernel, by decide +kernel⟩, List.mem_of_getElem? (i := 448) (by decide +kernel), List.mem_of_getElem? (i := 581) (by decide +kernel), List.mem_of_getElem? (i := 582) (by decide +kernel)⟩
def lw_privs_1 : List (MethodName × Nat) := [(⟨"HarvestSteps", "canBeDay", "(I)Z"⟩, 16), (⟨"HarvestSteps", "act", "(IIZ)V"⟩, 16), (⟨"HarvestSteps", "isRecord", "(I)Z"⟩, 16), (⟨"HarvestSteps", "isHeld", "(I)Z"⟩, 16), (⟨"HarvestSteps", "sortSpan", "(III)I"⟩, 16), (⟨"HarvestSteps", "insertByDay", "(II)V"⟩, 16), (⟨"HarvestSteps", "makePage", "(LHarvestSteps$Listing;II)LHarvestSteps$Page;"⟩, 16), (⟨"java/util/ArrayList", "add", "(Ljava/lang/Object;[Ljava/lang/Object;I)V"⟩, 3), (⟨"java/util/ArrayList", "grow", "()[Ljava/lang/Object;"⟩, 3), (⟨"java/util/ArrayList", "grow", "(I)[Ljava/lang/Object;"⟩, 3), (⟨"HarvestSteps", "answer", "(ILHarvestSteps$Page;)I"⟩, 16), (⟨"HarvestSteps", "isToken", "(I)Z"⟩, 16), (⟨"java/lang/Throwable", "fillInStackTrace", "(I)Ljava/lang/Throwable;"⟩, 6), (⟨"HarvestStepsModel", "isDay", "(I)Z"⟩, 34), (⟨"HarvestStepsModel", "act", "(IIZ)V"⟩, 34), (⟨"HarvestStepsModel", "isRecord", "(I)Z"⟩, 34)]
theorem lw_r1 : ∀ q ∈ lw_privs_1, lw_okq q := List.forall_mem_cons.mpr ⟨lw_p0, List.forall_mem_cons.mpr ⟨lw_p1, List.forall_mem_cons.mpr ⟨lw_p2, List.forall_mem_cons.mpr ⟨lw_p3, List.forall_mem_cons.mpr ⟨lw_p4, List.forall_mem_cons.mpr ⟨lw_p5, List.forall_mem_cons.mpr ⟨lw_p6, List.forall_mem_cons.mpr ⟨lw_p7, List.forall_mem_cons.mpr ⟨lw_p8, List.forall_mem_cons.mpr ⟨lw_p9, List.forall_mem_cons.mpr ⟨lw_p10, List.forall_mem_cons.mpr ⟨lw_p11, List.forall_mem_cons.mpr ⟨lw_p12, List.forall_mem_cons.mpr ⟨lw_p13, List.forall_mem_cons.mpr ⟨lw_p14, List.forall_mem_cons.mpr ⟨lw_p15, fun _ h => absurd h List.not_mem_nil⟩⟩⟩⟩⟩⟩⟩⟩⟩⟩⟩⟩⟩⟩⟩⟩
theorem lw_p16 : lw_okq (⟨"HarvestStepsModel", "isHeld", "(I)Z"⟩, 34) := ⟨⟨by decide +kernel, by decide +kernel⟩, List.mem_of_getElem? (i := 448) (by decide +kernel), List.mem_of_getElem? (i := 598) (by decide +kernel), List.mem_of_getElem? (i := 599) (by decide +kernel)⟩
theorem lw_p17 : lw_okq (⟨"HarvestStepsModel", "gather", "(III)I"⟩, 34) := ⟨⟨by decide +kernel, by decide +kernel⟩, List.mem_of_getElem? (i := 448) (by decide +kernel), List.mem_of_getElem? (i := 602) (by decide +kernel), List.mem_of_getElem? (i := 603) (by decide +kernel)⟩
theorem lw_p18 : lw_okq (⟨"HarvestStepsModel", "makePage", "(III)I"⟩, 34) := ⟨⟨by decide +kernel, by decide +kernel⟩, List.mem_of_getElem? (i := 448) (by decide +kernel), List.mem_of_getElem? (i := 606) (by decide +kernel), List.mem_of_getElem? (i := 607) (by decide +kernel)⟩
theorem lw_p19 : lw_okq (⟨"HarvestStepsModel", "answer", "(II)I"⟩, 34) := ⟨⟨by decide +kernel, by decide +kernel⟩, List.mem_of_getElem? (i := 448) (by decide +kernel), List.mem_of_getElem? (i := 610) (by decide +kernel), List.mem_of_getElem? (i := 611) (by decide +kernel)⟩
def lw_privs_2 : List (MethodName × Nat) := [(⟨"HarvestStepsModel", "isHeld", "(I)Z"⟩, 34), (⟨"HarvestStepsModel", "gather", "(III)I"⟩, 34), (⟨"HarvestStepsModel", "makePage", "(III)I"⟩, 34), (⟨"HarvestStepsModel", "answer", "(II)I"⟩, 34)]
theorem lw_r2 : ∀ q ∈ lw_privs_2, lw_okq q := List.forall_mem_cons.mpr ⟨lw_p16, List.forall_mem_cons.mpr ⟨lw_p17, List.forall_mem_cons.mpr ⟨lw_p18, List.forall_mem_cons.mpr ⟨lw_p19, fun _ h => absurd h List.not_mem_nil⟩⟩⟩⟩
def lw_privs : List (MethodName × Nat) := lw_privs_1 ++ (lw_privs_2)
def lw_tbl : List Cond := k2_sels lw_privs ++ tables_1
theorem lw_privs_ok : ∀ q ∈ lw_privs, lw_okq q := by
  show ∀ q ∈ lw_privs_1 ++ (lw_privs_2), lw_okq q
  exact List.forall_mem_append.mpr ⟨lw_r1, lw_r2⟩
/-- the tables' words that a call carries on -/
def hw_tbl : List Cond := lw_tbl.filter goodWord
theorem hw_in {w : Cond} (i : Nat) (h : lw_tbl[i]? = some w) (hg : goodWord w = true) : w ∈ hw_tbl := List.mem_filter.mpr ⟨List.mem_of_getElem? h, hg⟩
theorem hw_in0 {w : Cond} (i : Nat) (h : (k2_sels lw_privs)[i]? = some w) (hg : goodWord w = true) : w ∈ hw_tbl := List.mem_filter.mpr ⟨List.mem_append_left _ (List.mem_of_getElem? h), hg⟩
theorem hw_in1 {w : Cond} (i : Nat) (h : tables_1_1[i]? = some w) (hg : goodWord w = true) : w ∈ hw_tbl := List.mem_filter.mpr ⟨List.mem_append_right _ (List.mem_append_left _ (List.mem_of_getElem? h)), hg⟩
theorem hw_in2 {w : Cond} (i : Nat) (h : tables_1_2[i]? = some w) (hg : goodWord w = true) : w ∈ hw_tbl := List.mem_filter.mpr ⟨List.mem_append_right _ (List.mem_append_right _ (List.mem_append_left _ (List.mem_of_getElem? h))), hg⟩
theorem hw_in3 {w : Cond} (i : Nat) (h : tables_1_3[i]? = some w) (hg : goodWord w = true) : w ∈ hw_tbl := List.mem_filter.mpr ⟨List.mem_append_right _ (List.mem_append_right _ (List.mem_append_right _ (List.mem_of_getElem? h))), hg⟩
theorem hw_ok {w : Cond} (h : w ∈ hw_tbl) : (w.onTables && w.keeps) = true ∨ ∃ ty, w = .arrayClass ty := good_of_word (List.mem_filter.mp h).2
theorem hw_good {a : Cond} {y : MethodName} {cc : ByteArray} {n : Nat} {r : Option FieldType} (h : Cond.code y cc n r ∈ hw_tbl) : GoodIn (a :: hw_tbl) (Cond.code y cc n r :: hw_tbl) := by
  intro w hw
  have h1 : w ∈ hw_tbl := by
    rcases List.mem_cons.mp hw with e | e
    · rw [e]; exact h
    · exact e
  exact ⟨List.mem_cons_of_mem _ h1, hw_ok h1⟩
theorem hw_goodV {a : Cond} {own C : String} {idx : Nat} {y : MethodName} {cc : ByteArray} {n : Nat} {r : Option FieldType} (h1 : Cond.methodLink own idx y ∈ hw_tbl) (h2 : Cond.instanceMethod y ∈ hw_tbl) (h3 : Cond.selects C y y ∈ hw_tbl) (h4 : Cond.initialized C ∈ hw_tbl) (h5 : Cond.code y cc n r ∈ hw_tbl) : GoodIn (a :: hw_tbl) (wsV own idx C y (Cond.code y cc n r :: hw_tbl)) := by
  intro w hw
  have key : w ∈ hw_tbl := by
    unfold wsV at hw
    rcases List.mem_append.mp hw with e | e
    · rcases List.mem_cons.mp e with e | e
      · rw [e]; exact h1
      rcases List.mem_cons.mp e with e | e
      · rw [e]; exact h2
      rcases List.mem_cons.mp e with e | e
      · rw [e]; exact h3
      rcases List.mem_cons.mp e with e | e
      · rw [e]; exact h4
      · exact absurd e List.not_mem_nil
    · rcases List.mem_cons.mp e with e | e
      · rw [e]; exact h5
      · exact e
  exact ⟨List.mem_cons_of_mem _ key, hw_ok key⟩
theorem hw_goodS {a : Cond} {own : String} {idx : Nat} {y : MethodName} {cc : ByteArray} {n : Nat} {r : Option FieldType} (h1 : Cond.methodLink own idx y ∈ hw_tbl) (h2 : Cond.static y ∈ hw_tbl) (h4 : Cond.initialized y.cls ∈ hw_tbl) (h5 : Cond.code y cc n r ∈ hw_tbl) : GoodIn (a :: hw_tbl) (va_wsS own idx y (Cond.code y cc n r :: hw_tbl)) := by
  intro w hw
  have key : w ∈ hw_tbl := by
    unfold va_wsS at hw
    rcases List.mem_append.mp hw with e | e
    · rcases List.mem_cons.mp e with e | e
      · rw [e]; exact h1
      rcases List.mem_cons.mp e with e | e
      · rw [e]; exact h2
      rcases List.mem_cons.mp e with e | e
      · rw [e]; exact h4
      · exact absurd e List.not_mem_nil
    · rcases List.mem_cons.mp e with e | e
      · rw [e]; exact h5
      · exact e
  exact ⟨List.mem_cons_of_mem _ key, hw_ok key⟩
end
section
def hR_0 : String := "HarvestSteps"
def hF_0 : u_T := fun k => match k with
  | 0 => ("HarvestSteps", "pageSize", "I", true)
  | 1 => ("HarvestSteps", "grain", "I", true)
  | 2 => ("HarvestSteps", "life", "I", true)
  | 3 => ("HarvestSteps", "held", "[Z", true)
  | 4 => ("HarvestSteps", "setOf", "[I", true)
  | 5 => ("HarvestSteps", "dayOf", "[I", true)
  | 6 => ("HarvestSteps", "deletedNow", "[Z", true)
  | 7 => ("HarvestSteps", "latestAct", "[I", true)
  | 8 => ("HarvestSteps", "recordCount", "I", false)
  | 9 => ("HarvestSteps", "actCount", "I", false)
  | 10 => ("HarvestSteps", "order", "[I", true)
  | 11 => ("HarvestSteps", "listCount", "I", false)
  | 12 => ("HarvestSteps", "tokens", "Ljava/util/ArrayList;", true)
  | 13 => ("HarvestSteps", "latestPage", "[LHarvestSteps$Page;", true)
  | 14 => ("HarvestSteps", "answered", "[I", true)
  | _ => ("HarvestSteps", "passedOver", "I", false)
def hy_0 : Nat → FieldType := fun k => match k with
  | 0 => .int
  | 1 => .int
  | 2 => .int
  | 3 => .array .boolean
  | 4 => .array .int
  | 5 => .array .int
  | 6 => .array .boolean
  | 7 => .array .int
  | 8 => .int
  | 9 => .int
  | 10 => .array .int
  | 11 => .int
  | 12 => .object "java/util/ArrayList"
  | 13 => .array (.object "HarvestSteps$Page")
  | 14 => .array .int
  | _ => .int
theorem hn_0 : ∀ a, a < 16 → ∀ b, b < 16 → a ≠ b → (hF_0 a).2.1 ≠ (hF_0 b).2.1 := by decide +kernel
theorem ho_0 : ∀ k, k < 16 → parseFieldDescriptor (hF_0 k).2.2.1 = some (hy_0 k) := by decide +kernel
theorem hi_0 : ∀ w ∈ u_ws hR_0 hF_0 16, w ∈ hw_tbl := by decide +kernel
def hR_1 : String := "HarvestSteps$Listing"
def hF_1 : u_T := fun k => match k with
  | 0 => ("HarvestSteps$Listing", "harvester", "I", true)
  | 1 => ("HarvestSteps$Listing", "form", "I", true)
  | 2 => ("HarvestSteps$Listing", "actsBefore", "I", true)
  | _ => ("HarvestSteps$Listing", "numbers", "[I", true)
def hy_1 : Nat → FieldType := fun k => match k with
  | 0 => .int
  | 1 => .int
  | 2 => .int
  | _ => .array .int
theorem hn_1 : ∀ a, a < 4 → ∀ b, b < 4 → a ≠ b → (hF_1 a).2.1 ≠ (hF_1 b).2.1 := by decide +kernel
theorem ho_1 : ∀ k, k < 4 → parseFieldDescriptor (hF_1 k).2.2.1 = some (hy_1 k) := by decide +kernel
theorem hi_1 : ∀ w ∈ u_ws hR_1 hF_1 4, w ∈ hw_tbl := by decide +kernel
def hR_2 : String := "HarvestSteps$Page"
def hF_2 : u_T := fun k => match k with
  | 0 => ("HarvestSteps$Page", "form", "I", true)
  | 1 => ("HarvestSteps$Page", "numbers", "[I", true)
  | 2 => ("HarvestSteps$Page", "days", "[I", true)
  | 3 => ("HarvestSteps$Page", "deleted", "[Z", true)
  | 4 => ("HarvestSteps$Page", "count", "I", false)
  | _ => ("HarvestSteps$Page", "nextToken", "I", false)
def hy_2 : Nat → FieldType := fun k => match k with
  | 0 => .int
  | 1 => .array .int
  | 2 => .array .int
  | 3 => .array .boolean
  | 4 => .int
  | _ => .int
theorem hn_2 : ∀ a, a < 6 → ∀ b, b < 6 → a ≠ b → (hF_2 a).2.1 ≠ (hF_2 b).2.1 := by decide +kernel
theorem ho_2 : ∀ k, k < 6 → parseFieldDescriptor (hF_2 k).2.2.1 = some (hy_2 k) := by decide +kernel
theorem hi_2 : ∀ w ∈ u_ws hR_2 hF_2 6, w ∈ hw_tbl := by decide +kernel
def hR_3 : String := "HarvestSteps$Token"
def hF_3 : u_T := fun k => match k with
  | 0 => ("HarvestSteps$Token", "listing", "LHarvestSteps$Listing;", true)
  | 1 => ("HarvestSteps$Token", "begin", "I", true)
  | 2 => ("HarvestSteps$Token", "made", "I", true)
  | _ => ("HarvestSteps$Token", "page", "LHarvestSteps$Page;", false)
def hy_3 : Nat → FieldType := fun k => match k with
  | 0 => .object "HarvestSteps$Listing"
  | 1 => .int
  | 2 => .int
  | _ => .object "HarvestSteps$Page"
theorem hn_3 : ∀ a, a < 4 → ∀ b, b < 4 → a ≠ b → (hF_3 a).2.1 ≠ (hF_3 b).2.1 := by decide +kernel
theorem ho_3 : ∀ k, k < 4 → parseFieldDescriptor (hF_3 k).2.2.1 = some (hy_3 k) := by decide +kernel
theorem hi_3 : ∀ w ∈ u_ws hR_3 hF_3 4, w ∈ hw_tbl := by decide +kernel
def hR_4 : String := "java/util/ArrayList"
def hF_4 : u_T := fun k => match k with
  | 0 => ("java/util/ArrayList", "elementData", "[Ljava/lang/Object;", false)
  | 1 => ("java/util/ArrayList", "size", "I", false)
  | _ => ("java/util/AbstractList", "modCount", "I", false)
def hy_4 : Nat → FieldType := fun k => match k with
  | 0 => .array (.object "java/lang/Object")
  | 1 => .int
  | _ => .int
theorem hn_4 : ∀ a, a < 3 → ∀ b, b < 3 → a ≠ b → (hF_4 a).2.1 ≠ (hF_4 b).2.1 := by decide +kernel
theorem ho_4 : ∀ k, k < 3 → parseFieldDescriptor (hF_4 k).2.2.1 = some (hy_4 k) := by decide +kernel
theorem hi_4 : ∀ w ∈ u_ws hR_4 hF_4 3, w ∈ hw_tbl := by decide +kernel
def hR_5 : String := "HarvestStepsModel"
def hF_5 : u_T := fun k => match k with
  | 0 => ("HarvestStepsModel", "thrown", "I", false)
  | 1 => ("HarvestStepsModel", "size", "I", true)
  | 2 => ("HarvestStepsModel", "grain", "I", true)
  | 3 => ("HarvestStepsModel", "life", "I", true)
  | 4 => ("HarvestStepsModel", "acts", "I", false)
  | 5 => ("HarvestStepsModel", "records", "I", false)
  | 6 => ("HarvestStepsModel", "set", "[I", true)
  | 7 => ("HarvestStepsModel", "day", "[I", true)
  | 8 => ("HarvestStepsModel", "gone", "[Z", true)
  | 9 => ("HarvestStepsModel", "latest", "[I", true)
  | 10 => ("HarvestStepsModel", "held", "[Z", true)
  | 11 => ("HarvestStepsModel", "lists", "I", false)
  | 12 => ("HarvestStepsModel", "many", "[I", true)
  | 13 => ("HarvestStepsModel", "since", "[I", true)
  | 14 => ("HarvestStepsModel", "format", "[I", true)
  | 15 => ("HarvestStepsModel", "ofList", "[I", true)
  | 16 => ("HarvestStepsModel", "listed", "[I", true)
  | 17 => ("HarvestStepsModel", "pages", "I", false)
  | 18 => ("HarvestStepsModel", "pageList", "[I", true)
  | 19 => ("HarvestStepsModel", "pageFrom", "[I", true)
  | 20 => ("HarvestStepsModel", "pageRows", "[I", true)
  | 21 => ("HarvestStepsModel", "pageAt", "[I", true)
  | 22 => ("HarvestStepsModel", "pageToken", "[I", true)
  | 23 => ("HarvestStepsModel", "rows", "I", false)
  | 24 => ("HarvestStepsModel", "rowRecord", "[I", true)
  | 25 => ("HarvestStepsModel", "rowDay", "[I", true)
  | 26 => ("HarvestStepsModel", "rowGone", "[Z", true)
  | 27 => ("HarvestStepsModel", "tokens", "I", false)
  | 28 => ("HarvestStepsModel", "tokenPage", "[I", true)
  | 29 => ("HarvestStepsModel", "made", "[I", true)
  | 30 => ("HarvestStepsModel", "leads", "[I", true)
  | 31 => ("HarvestStepsModel", "answered", "[I", true)
  | 32 => ("HarvestStepsModel", "counts", "[I", true)
  | _ => ("HarvestStepsModel", "passed", "I", false)
def hy_5 : Nat → FieldType := fun k => match k with
  | 0 => .int
  | 1 => .int
  | 2 => .int
  | 3 => .int
  | 4 => .int
  | 5 => .int
  | 6 => .array .int
  | 7 => .array .int
  | 8 => .array .boolean
  | 9 => .array .int
  | 10 => .array .boolean
  | 11 => .int
  | 12 => .array .int
  | 13 => .array .int
  | 14 => .array .int
  | 15 => .array .int
  | 16 => .array .int
  | 17 => .int
  | 18 => .array .int
  | 19 => .array .int
  | 20 => .array .int
  | 21 => .array .int
  | 22 => .array .int
  | 23 => .int
  | 24 => .array .int
  | 25 => .array .int
  | 26 => .array .boolean
  | 27 => .int
  | 28 => .array .int
  | 29 => .array .int
  | 30 => .array .int
  | 31 => .array .int
  | 32 => .array .int
  | _ => .int
theorem hn_5 : ∀ a, a < 34 → ∀ b, b < 34 → a ≠ b → (hF_5 a).2.1 ≠ (hF_5 b).2.1 := by decide +kernel
theorem ho_5 : ∀ k, k < 34 → parseFieldDescriptor (hF_5 k).2.2.1 = some (hy_5 k) := by decide +kernel
theorem hi_5 : ∀ w ∈ u_ws hR_5 hF_5 34, w ∈ hw_tbl := by decide +kernel
abbrev hCl : List vw_C := [(hR_0, hF_0, 16), (hR_1, hF_1, 4), (hR_2, hF_2, 6), (hR_3, hF_3, 4), (hR_4, hF_4, 3), (hR_5, hF_5, 34)]
abbrev b_X_init : ByteArray := prog_1_method_1_code
def y_X_init : MethodName := ⟨"HarvestSteps", "<init>", "(III)V"⟩
def w_X_init : List Cond := Cond.code y_X_init b_X_init 4 none :: hw_tbl
abbrev b_A_init : ByteArray := prog_18_method_2_code
def y_A_init : MethodName := ⟨"java/util/ArrayList", "<init>", "()V"⟩
def w_A_init : List Cond := Cond.code y_A_init b_A_init 1 none :: hw_tbl
abbrev b_AL_init : ByteArray := prog_17_method_1_code
def y_AL_init : MethodName := ⟨"java/util/AbstractList", "<init>", "()V"⟩
def w_AL_init : List Cond := Cond.code y_AL_init b_AL_init 1 none :: hw_tbl
abbrev b_AC_init : ByteArray := prog_16_method_1_code
def y_AC_init : MethodName := ⟨"java/util/AbstractCollection", "<init>", "()V"⟩
def w_AC_init : List Cond := Cond.code y_AC_init b_AC_init 1 none :: hw_tbl
abbrev b_X_nearest : ByteArray := prog_1_method_14_code
def y_X_nearest : MethodName := ⟨"HarvestSteps", "nearest", "(III)I"⟩
def w_X_nearest : List Cond := Cond.code y_X_nearest b_X_nearest 3 (some .int) :: hw_tbl
abbrev b_Ma_min : ByteArray := prog_11_method_69_code
def y_Ma_min : MethodName := ⟨"java/lang/Math", "min", "(II)I"⟩
def w_Ma_min : List Cond := Cond.code y_Ma_min b_Ma_min 2 (some .int) :: hw_tbl
abbrev b_Ma_max : ByteArray := prog_11_method_65_code
def y_Ma_max : MethodName := ⟨"java/lang/Math", "max", "(II)I"⟩
def w_Ma_max : List Cond := Cond.code y_Ma_max b_Ma_max 2 (some .int) :: hw_tbl
abbrev b_X_record : ByteArray := prog_1_method_2_code
def y_X_record : MethodName := ⟨"HarvestSteps", "record", "(II)I"⟩
def w_X_record : List Cond := Cond.code y_X_record b_X_record 4 (some .int) :: hw_tbl
abbrev b_X_isSet : ByteArray := prog_1_method_15_code
def y_X_isSet : MethodName := ⟨"HarvestSteps", "isSet", "(I)Z"⟩
def w_X_isSet : List Cond := Cond.code y_X_isSet b_X_isSet 1 (some .boolean) :: hw_tbl
abbrev b_X_canBeDay : ByteArray := prog_1_method_22_code
def y_X_canBeDay : MethodName := ⟨"HarvestSteps", "canBeDay", "(I)Z"⟩
def w_X_canBeDay : List Cond := Cond.code y_X_canBeDay b_X_canBeDay 2 (some .boolean) :: hw_tbl
abbrev b_X_act : ByteArray := prog_1_method_23_code
def y_X_act : MethodName := ⟨"HarvestSteps", "act", "(IIZ)V"⟩
def w_X_act : List Cond := Cond.code y_X_act b_X_act 4 none :: hw_tbl
abbrev b_X_change : ByteArray := prog_1_method_3_code
def y_X_change : MethodName := ⟨"HarvestSteps", "change", "(II)I"⟩
def w_X_change : List Cond := Cond.code y_X_change b_X_change 3 (some .int) :: hw_tbl
abbrev b_X_isRecord : ByteArray := prog_1_method_20_code
def y_X_isRecord : MethodName := ⟨"HarvestSteps", "isRecord", "(I)Z"⟩
def w_X_isRecord : List Cond := Cond.code y_X_isRecord b_X_isRecord 2 (some .boolean) :: hw_tbl
abbrev b_X_delete : ByteArray := prog_1_method_4_code
def y_X_delete : MethodName := ⟨"HarvestSteps", "delete", "(II)I"⟩
def w_X_delete : List Cond := Cond.code y_X_delete b_X_delete 3 (some .int) :: hw_tbl
abbrev b_X_form : ByteArray := prog_1_method_5_code
def y_X_form : MethodName := ⟨"HarvestSteps", "form", "(IZ)I"⟩
def w_X_form : List Cond := Cond.code y_X_form b_X_form 3 (some .int) :: hw_tbl
abbrev b_X_isForm : ByteArray := prog_1_method_16_code
def y_X_isForm : MethodName := ⟨"HarvestSteps", "isForm", "(I)Z"⟩
def w_X_isForm : List Cond := Cond.code y_X_isForm b_X_isForm 1 (some .boolean) :: hw_tbl
abbrev b_X_list : ByteArray := prog_1_method_6_code
def y_X_list : MethodName := ⟨"HarvestSteps", "list", "(IIIIII)I"⟩
def w_X_list : List Cond := Cond.code y_X_list b_X_list 9 (some .int) :: hw_tbl
abbrev b_X_isHarvester : ByteArray := prog_1_method_17_code
def y_X_isHarvester : MethodName := ⟨"HarvestSteps", "isHarvester", "(I)Z"⟩
def w_X_isHarvester : List Cond := Cond.code y_X_isHarvester b_X_isHarvester 1 (some .boolean) :: hw_tbl
abbrev b_X_isTime : ByteArray := prog_1_method_18_code
def y_X_isTime : MethodName := ⟨"HarvestSteps", "isTime", "(I)Z"⟩
def w_X_isTime : List Cond := Cond.code y_X_isTime b_X_isTime 1 (some .boolean) :: hw_tbl
abbrev b_X_isHeld : ByteArray := prog_1_method_19_code
def y_X_isHeld : MethodName := ⟨"HarvestSteps", "isHeld", "(I)Z"⟩
def w_X_isHeld : List Cond := Cond.code y_X_isHeld b_X_isHeld 2 (some .boolean) :: hw_tbl
abbrev b_X_sortSpan : ByteArray := prog_1_method_24_code
def y_X_sortSpan : MethodName := ⟨"HarvestSteps", "sortSpan", "(III)I"⟩
def w_X_sortSpan : List Cond := Cond.code y_X_sortSpan b_X_sortSpan 7 (some .int) :: hw_tbl
abbrev b_X_insertByDay : ByteArray := prog_1_method_25_code
def y_X_insertByDay : MethodName := ⟨"HarvestSteps", "insertByDay", "(II)V"⟩
def w_X_insertByDay : List Cond := Cond.code y_X_insertByDay b_X_insertByDay 4 none :: hw_tbl
abbrev b_Ar_copyOf : ByteArray := prog_19_method_123_code
def y_Ar_copyOf : MethodName := ⟨"java/util/Arrays", "copyOf", "([II)[I"⟩
def w_Ar_copyOf : List Cond := Cond.code y_Ar_copyOf b_Ar_copyOf 3 (some (.array .int)) :: hw_tbl
abbrev b_L_init : ByteArray := prog_2_method_1_code
def y_L_init : MethodName := ⟨"HarvestSteps$Listing", "<init>", "(III[I)V"⟩
def w_L_init : List Cond := Cond.code y_L_init b_L_init 5 none :: hw_tbl
abbrev b_X_makePage : ByteArray := prog_1_method_26_code
def y_X_makePage : MethodName := ⟨"HarvestSteps", "makePage", "(LHarvestSteps$Listing;II)LHarvestSteps$Page;"⟩
def w_X_makePage : List Cond := Cond.code y_X_makePage b_X_makePage 8 (some (.object "HarvestSteps$Page")) :: hw_tbl
abbrev b_P_init : ByteArray := prog_3_method_1_code
def y_P_init : MethodName := ⟨"HarvestSteps$Page", "<init>", "(II)V"⟩
def w_P_init : List Cond := Cond.code y_P_init b_P_init 3 none :: hw_tbl
abbrev b_P_keep : ByteArray := prog_3_method_2_code
def y_P_keep : MethodName := ⟨"HarvestSteps$Page", "keep", "(IIZ)V"⟩
def w_P_keep : List Cond := Cond.code y_P_keep b_P_keep 4 none :: hw_tbl
abbrev b_A_size : ByteArray := prog_18_method_8_code
def y_A_size : MethodName := ⟨"java/util/ArrayList", "size", "()I"⟩
def w_A_size : List Cond := Cond.code y_A_size b_A_size 1 (some .int) :: hw_tbl
abbrev b_T_init : ByteArray := prog_4_method_1_code
def y_T_init : MethodName := ⟨"HarvestSteps$Token", "<init>", "(LHarvestSteps$Listing;II)V"⟩
def w_T_init : List Cond := Cond.code y_T_init b_T_init 4 none :: hw_tbl
abbrev b_A_add : ByteArray := prog_18_method_25_code
def y_A_add : MethodName := ⟨"java/util/ArrayList", "add", "(Ljava/lang/Object;)Z"⟩
def w_A_add : List Cond := Cond.code y_A_add b_A_add 2 (some .boolean) :: hw_tbl
abbrev b_A_add3 : ByteArray := prog_18_method_24_code
def y_A_add3 : MethodName := ⟨"java/util/ArrayList", "add", "(Ljava/lang/Object;[Ljava/lang/Object;I)V"⟩
def w_A_add3 : List Cond := Cond.code y_A_add3 b_A_add3 4 none :: hw_tbl
abbrev b_A_grow : ByteArray := prog_18_method_7_code
def y_A_grow : MethodName := ⟨"java/util/ArrayList", "grow", "()[Ljava/lang/Object;"⟩
def w_A_grow : List Cond := Cond.code y_A_grow b_A_grow 1 (some (.array (.object "java/lang/Object"))) :: hw_tbl
abbrev b_A_grow1 : ByteArray := prog_18_method_6_code
def y_A_grow1 : MethodName := ⟨"java/util/ArrayList", "grow", "(I)[Ljava/lang/Object;"⟩
def w_A_grow1 : List Cond := Cond.code y_A_grow1 b_A_grow1 4 (some (.array (.object "java/lang/Object"))) :: hw_tbl
abbrev b_AS_newLength : ByteArray := prog_26_method_27_code
def y_AS_newLength : MethodName := ⟨"jdk/internal/util/ArraysSupport", "newLength", "(III)I"⟩
def w_AS_newLength : List Cond := Cond.code y_AS_newLength b_AS_newLength 4 (some .int) :: hw_tbl
abbrev b_AS_hugeLength : ByteArray := prog_26_method_28_code
def y_AS_hugeLength : MethodName := ⟨"jdk/internal/util/ArraysSupport", "hugeLength", "(II)I"⟩
def w_AS_hugeLength : List Cond := Cond.code y_AS_hugeLength b_AS_hugeLength 3 (some .int) :: hw_tbl
abbrev b_Ar_copyOfO : ByteArray := prog_19_method_119_code
def y_Ar_copyOfO : MethodName := ⟨"java/util/Arrays", "copyOf", "([Ljava/lang/Object;I)[Ljava/lang/Object;"⟩
def w_Ar_copyOfO : List Cond := Cond.code y_Ar_copyOfO b_Ar_copyOfO 2 (some (.array (.object "java/lang/Object"))) :: hw_tbl
abbrev b_Ar_copyOfC : ByteArray := prog_19_method_120_code
def y_Ar_copyOfC : MethodName := ⟨"java/util/Arrays", "copyOf", "([Ljava/lang/Object;ILjava/lang/Class;)[Ljava/lang/Object;"⟩
def w_Ar_copyOfC : List Cond := Cond.code y_Ar_copyOfC b_Ar_copyOfC 4 (some (.array (.object "java/lang/Object"))) :: hw_tbl
abbrev b_X_answer : ByteArray := prog_1_method_27_code
def y_X_answer : MethodName := ⟨"HarvestSteps", "answer", "(ILHarvestSteps$Page;)I"⟩
def w_X_answer : List Cond := Cond.code y_X_answer b_X_answer 3 (some .int) :: hw_tbl
abbrev b_X_resume : ByteArray := prog_1_method_7_code
def y_X_resume : MethodName := ⟨"HarvestSteps", "resume", "(III)I"⟩
def w_X_resume : List Cond := Cond.code y_X_resume b_X_resume 5 (some .int) :: hw_tbl
abbrev b_X_isToken : ByteArray := prog_1_method_21_code
def y_X_isToken : MethodName := ⟨"HarvestSteps", "isToken", "(I)Z"⟩
def w_X_isToken : List Cond := Cond.code y_X_isToken b_X_isToken 2 (some .boolean) :: hw_tbl
abbrev b_A_get : ByteArray := prog_18_method_20_code
def y_A_get : MethodName := ⟨"java/util/ArrayList", "get", "(I)Ljava/lang/Object;"⟩
def w_A_get : List Cond := Cond.code y_A_get b_A_get 2 (some (.object "java/lang/Object")) :: hw_tbl
abbrev b_Ob_checkIndex : ByteArray := prog_23_method_17_code
def y_Ob_checkIndex : MethodName := ⟨"java/util/Objects", "checkIndex", "(II)I"⟩
def w_Ob_checkIndex : List Cond := Cond.code y_Ob_checkIndex b_Ob_checkIndex 2 (some .int) :: hw_tbl
abbrev b_Pr_checkIndex : ByteArray := prog_27_method_11_code
def y_Pr_checkIndex : MethodName := ⟨"jdk/internal/util/Preconditions", "checkIndex", "(IILjava/util/function/BiFunction;)I"⟩
def w_Pr_checkIndex : List Cond := Cond.code y_Pr_checkIndex b_Pr_checkIndex 3 (some .int) :: hw_tbl
abbrev b_A_elementData : ByteArray := prog_18_method_18_code
def y_A_elementData : MethodName := ⟨"java/util/ArrayList", "elementData", "(I)Ljava/lang/Object;"⟩
def w_A_elementData : List Cond := Cond.code y_A_elementData b_A_elementData 2 (some (.object "java/lang/Object")) :: hw_tbl
abbrev b_X_token : ByteArray := prog_1_method_8_code
def y_X_token : MethodName := ⟨"HarvestSteps", "token", "(I)I"⟩
def w_X_token : List Cond := Cond.code y_X_token b_X_token 3 (some .int) :: hw_tbl
abbrev b_X_get : ByteArray := prog_1_method_10_code
def y_X_get : MethodName := ⟨"HarvestSteps", "get", "(II)I"⟩
def w_X_get : List Cond := Cond.code y_X_get b_X_get 3 (some .int) :: hw_tbl
abbrev b_X_counted : ByteArray := prog_1_method_11_code
def y_X_counted : MethodName := ⟨"HarvestSteps", "counted", "(I)I"⟩
def w_X_counted : List Cond := Cond.code y_X_counted b_X_counted 2 (some .int) :: hw_tbl
abbrev b_X_passed : ByteArray := prog_1_method_12_code
def y_X_passed : MethodName := ⟨"HarvestSteps", "passed", "()I"⟩
def w_X_passed : List Cond := Cond.code y_X_passed b_X_passed 1 (some .int) :: hw_tbl
abbrev b_X_about : ByteArray := prog_1_method_13_code
def y_X_about : MethodName := ⟨"HarvestSteps", "about", "(II)I"⟩
def w_X_about : List Cond := Cond.code y_X_about b_X_about 4 (some .int) :: hw_tbl
abbrev b_W_cell : ByteArray := method_2_code
def y_W_cell : MethodName := ⟨"HarvestStepsLaw", "cell", "([II)I"⟩
def w_W_cell : List Cond := Cond.code y_W_cell b_W_cell 2 (some .int) :: hw_tbl
abbrev b_W_row : ByteArray := method_3_code
def y_W_row : MethodName := ⟨"HarvestStepsLaw", "row", "(LHarvestSteps;III[J)I"⟩
abbrev b_X_row : ByteArray := prog_1_method_9_code
def y_X_row : MethodName := ⟨"HarvestSteps", "row", "(III)I"⟩
def w_X_row : List Cond := Cond.code y_X_row b_X_row 5 (some .int) :: hw_tbl
abbrev b_M_init : ByteArray := prog_6_method_1_code
def y_M_init : MethodName := ⟨"HarvestStepsModel", "<init>", "(III)V"⟩
def w_M_init : List Cond := Cond.code y_M_init b_M_init 5 none :: hw_tbl
abbrev b_M_thrown : ByteArray := prog_6_method_2_code
def y_M_thrown : MethodName := ⟨"HarvestStepsModel", "thrown", "()I"⟩
def w_M_thrown : List Cond := Cond.code y_M_thrown b_M_thrown 1 (some .int) :: hw_tbl
abbrev b_M_record : ByteArray := prog_6_method_7_code
def y_M_record : MethodName := ⟨"HarvestStepsModel", "record", "(II)I"⟩
def w_M_record : List Cond := Cond.code y_M_record b_M_record 3 (some .int) :: hw_tbl
abbrev b_M_in : ByteArray := prog_6_method_3_code
def y_M_in : MethodName := ⟨"HarvestStepsModel", "in", "(III)Z"⟩
def w_M_in : List Cond := Cond.code y_M_in b_M_in 3 (some .boolean) :: hw_tbl
abbrev b_M_isDay : ByteArray := prog_6_method_4_code
def y_M_isDay : MethodName := ⟨"HarvestStepsModel", "isDay", "(I)Z"⟩
def w_M_isDay : List Cond := Cond.code y_M_isDay b_M_isDay 2 (some .boolean) :: hw_tbl
abbrev b_M_act : ByteArray := prog_6_method_6_code
def y_M_act : MethodName := ⟨"HarvestStepsModel", "act", "(IIZ)V"⟩
def w_M_act : List Cond := Cond.code y_M_act b_M_act 4 none :: hw_tbl
abbrev b_M_change : ByteArray := prog_6_method_8_code
def y_M_change : MethodName := ⟨"HarvestStepsModel", "change", "(II)I"⟩
def w_M_change : List Cond := Cond.code y_M_change b_M_change 3 (some .int) :: hw_tbl
abbrev b_M_isRecord : ByteArray := prog_6_method_5_code
def y_M_isRecord : MethodName := ⟨"HarvestStepsModel", "isRecord", "(I)Z"⟩
def w_M_isRecord : List Cond := Cond.code y_M_isRecord b_M_isRecord 2 (some .boolean) :: hw_tbl
abbrev b_M_delete : ByteArray := prog_6_method_9_code
def y_M_delete : MethodName := ⟨"HarvestStepsModel", "delete", "(II)I"⟩
def w_M_delete : List Cond := Cond.code y_M_delete b_M_delete 3 (some .int) :: hw_tbl
abbrev b_M_form : ByteArray := prog_6_method_10_code
def y_M_form : MethodName := ⟨"HarvestStepsModel", "form", "(IZ)I"⟩
def w_M_form : List Cond := Cond.code y_M_form b_M_form 3 (some .int) :: hw_tbl
abbrev b_M_list : ByteArray := prog_6_method_15_code
def y_M_list : MethodName := ⟨"HarvestStepsModel", "list", "(IIIIII)I"⟩
def w_M_list : List Cond := Cond.code y_M_list b_M_list 9 (some .int) :: hw_tbl
abbrev b_M_isHeld : ByteArray := prog_6_method_11_code
def y_M_isHeld : MethodName := ⟨"HarvestStepsModel", "isHeld", "(I)Z"⟩
def w_M_isHeld : List Cond := Cond.code y_M_isHeld b_M_isHeld 2 (some .boolean) :: hw_tbl
abbrev b_M_gather : ByteArray := prog_6_method_12_code
def y_M_gather : MethodName := ⟨"HarvestStepsModel", "gather", "(III)I"⟩
def w_M_gather : List Cond := Cond.code y_M_gather b_M_gather 8 (some .int) :: hw_tbl
abbrev b_M_makePage : ByteArray := prog_6_method_13_code
def y_M_makePage : MethodName := ⟨"HarvestStepsModel", "makePage", "(III)I"⟩
def w_M_makePage : List Cond := Cond.code y_M_makePage b_M_makePage 8 (some .int) :: hw_tbl
abbrev b_M_answer : ByteArray := prog_6_method_14_code
def y_M_answer : MethodName := ⟨"HarvestStepsModel", "answer", "(II)I"⟩
def w_M_answer : List Cond := Cond.code y_M_answer b_M_answer 3 (some .int) :: hw_tbl
abbrev b_M_resume : ByteArray := prog_6_method_16_code
def y_M_resume : MethodName := ⟨"HarvestStepsModel", "resume", "(III)I"⟩
def w_M_resume : List Cond := Cond.code y_M_resume b_M_resume 5 (some .int) :: hw_tbl
abbrev b_M_token : ByteArray := prog_6_method_17_code
def y_M_token : MethodName := ⟨"HarvestStepsModel", "token", "(I)I"⟩
def w_M_token : List Cond := Cond.code y_M_token b_M_token 2 (some .int) :: hw_tbl
abbrev b_M_row : ByteArray := prog_6_method_18_code
def y_M_row : MethodName := ⟨"HarvestStepsModel", "row", "(III)I"⟩
def w_M_row : List Cond := Cond.code y_M_row b_M_row 7 (some .int) :: hw_tbl
abbrev b_M_get : ByteArray := prog_6_method_19_code
def y_M_get : MethodName := ⟨"HarvestStepsModel", "get", "(II)I"⟩
def w_M_get : List Cond := Cond.code y_M_get b_M_get 3 (some .int) :: hw_tbl
abbrev b_M_counted : ByteArray := prog_6_method_20_code
def y_M_counted : MethodName := ⟨"HarvestStepsModel", "counted", "(I)I"⟩
def w_M_counted : List Cond := Cond.code y_M_counted b_M_counted 2 (some .int) :: hw_tbl
abbrev b_M_passed : ByteArray := prog_6_method_21_code
def y_M_passed : MethodName := ⟨"HarvestStepsModel", "passed", "()I"⟩
def w_M_passed : List Cond := Cond.code y_M_passed b_M_passed 1 (some .int) :: hw_tbl
abbrev b_M_about : ByteArray := prog_6_method_22_code
def y_M_about : MethodName := ⟨"HarvestStepsModel", "about", "(II)I"⟩
def w_M_about : List Cond := Cond.code y_M_about b_M_about 5 (some .int) :: hw_tbl
end
section
theorem kw_0 : Cond.selects "HarvestSteps" ⟨"HarvestSteps", "canBeDay", "(I)Z"⟩ ⟨"HarvestSteps", "canBeDay", "(I)Z"⟩ ∈ hw_tbl := hw_in0 0 rfl rfl
theorem kw_1 : Cond.selects "HarvestSteps" ⟨"HarvestSteps", "act", "(IIZ)V"⟩ ⟨"HarvestSteps", "act", "(IIZ)V"⟩ ∈ hw_tbl := hw_in0 1 rfl rfl
theorem kw_2 : Cond.selects "HarvestSteps" ⟨"HarvestSteps", "isRecord", "(I)Z"⟩ ⟨"HarvestSteps", "isRecord", "(I)Z"⟩ ∈ hw_tbl := hw_in0 2 rfl rfl
theorem kw_3 : Cond.selects "HarvestSteps" ⟨"HarvestSteps", "isHeld", "(I)Z"⟩ ⟨"HarvestSteps", "isHeld", "(I)Z"⟩ ∈ hw_tbl := hw_in0 3 rfl rfl
theorem kw_4 : Cond.selects "HarvestSteps" ⟨"HarvestSteps", "sortSpan", "(III)I"⟩ ⟨"HarvestSteps", "sortSpan", "(III)I"⟩ ∈ hw_tbl := hw_in0 4 rfl rfl
theorem kw_5 : Cond.selects "HarvestSteps" ⟨"HarvestSteps", "insertByDay", "(II)V"⟩ ⟨"HarvestSteps", "insertByDay", "(II)V"⟩ ∈ hw_tbl := hw_in0 5 rfl rfl
theorem kw_6 : Cond.selects "HarvestSteps" ⟨"HarvestSteps", "makePage", "(LHarvestSteps$Listing;II)LHarvestSteps$Page;"⟩ ⟨"HarvestSteps", "makePage", "(LHarvestSteps$Listing;II)LHarvestSteps$Page;"⟩ ∈ hw_tbl := hw_in0 6 rfl rfl
theorem kw_7 : Cond.selects "java/util/ArrayList" ⟨"java/util/ArrayList", "add", "(Ljava/lang/Object;[Ljava/lang/Object;I)V"⟩ ⟨"java/util/ArrayList", "add", "(Ljava/lang/Object;[Ljava/lang/Object;I)V"⟩ ∈ hw_tbl := hw_in0 7 rfl rfl
theorem kw_8 : Cond.selects "java/util/ArrayList" ⟨"java/util/ArrayList", "grow", "()[Ljava/lang/Object;"⟩ ⟨"java/util/ArrayList", "grow", "()[Ljava/lang/Object;"⟩ ∈ hw_tbl := hw_in0 8 rfl rfl
theorem kw_9 : Cond.selects "java/util/ArrayList" ⟨"java/util/ArrayList", "grow", "(I)[Ljava/lang/Object;"⟩ ⟨"java/util/ArrayList", "grow", "(I)[Ljava/lang/Object;"⟩ ∈ hw_tbl := hw_in0 9 rfl rfl
theorem kw_10 : Cond.selects "HarvestSteps" ⟨"HarvestSteps", "answer", "(ILHarvestSteps$Page;)I"⟩ ⟨"HarvestSteps", "answer", "(ILHarvestSteps$Page;)I"⟩ ∈ hw_tbl := hw_in0 10 rfl rfl
theorem kw_11 : Cond.selects "HarvestSteps" ⟨"HarvestSteps", "isToken", "(I)Z"⟩ ⟨"HarvestSteps", "isToken", "(I)Z"⟩ ∈ hw_tbl := hw_in0 11 rfl rfl
theorem kw_12 : Cond.selects "java/lang/Throwable" ⟨"java/lang/Throwable", "fillInStackTrace", "(I)Ljava/lang/Throwable;"⟩ ⟨"java/lang/Throwable", "fillInStackTrace", "(I)Ljava/lang/Throwable;"⟩ ∈ hw_tbl := hw_in0 12 rfl rfl
theorem kw_13 : Cond.selects "HarvestStepsModel" ⟨"HarvestStepsModel", "isDay", "(I)Z"⟩ ⟨"HarvestStepsModel", "isDay", "(I)Z"⟩ ∈ hw_tbl := hw_in0 13 rfl rfl
theorem kw_14 : Cond.selects "HarvestStepsModel" ⟨"HarvestStepsModel", "act", "(IIZ)V"⟩ ⟨"HarvestStepsModel", "act", "(IIZ)V"⟩ ∈ hw_tbl := hw_in0 14 rfl rfl
theorem kw_15 : Cond.selects "HarvestStepsModel" ⟨"HarvestStepsModel", "isRecord", "(I)Z"⟩ ⟨"HarvestStepsModel", "isRecord", "(I)Z"⟩ ∈ hw_tbl := hw_in0 15 rfl rfl
theorem kw_16 : Cond.selects "HarvestStepsModel" ⟨"HarvestStepsModel", "isHeld", "(I)Z"⟩ ⟨"HarvestStepsModel", "isHeld", "(I)Z"⟩ ∈ hw_tbl := hw_in0 16 rfl rfl
theorem kw_17 : Cond.selects "HarvestStepsModel" ⟨"HarvestStepsModel", "gather", "(III)I"⟩ ⟨"HarvestStepsModel", "gather", "(III)I"⟩ ∈ hw_tbl := hw_in0 17 rfl rfl
theorem kw_18 : Cond.selects "HarvestStepsModel" ⟨"HarvestStepsModel", "makePage", "(III)I"⟩ ⟨"HarvestStepsModel", "makePage", "(III)I"⟩ ∈ hw_tbl := hw_in0 18 rfl rfl
theorem kw_19 : Cond.selects "HarvestStepsModel" ⟨"HarvestStepsModel", "answer", "(II)I"⟩ ⟨"HarvestStepsModel", "answer", "(II)I"⟩ ∈ hw_tbl := hw_in0 19 rfl rfl
theorem kw_20 : Cond.initialized "HarvestStepsLaw" ∈ hw_tbl := hw_in1 0 rfl rfl
theorem kw_21 : Cond.initialized "HarvestSteps" ∈ hw_tbl := hw_in1 1 rfl rfl
theorem kw_22 : Cond.initialized "java/util/AbstractCollection" ∈ hw_tbl := hw_in1 2 rfl rfl
theorem kw_23 : Cond.initialized "java/util/AbstractList" ∈ hw_tbl := hw_in1 3 rfl rfl
theorem kw_24 : Cond.initialized "java/util/ArrayList" ∈ hw_tbl := hw_in1 4 rfl rfl
theorem kw_25 : Cond.initialized "java/lang/Math" ∈ hw_tbl := hw_in1 5 rfl rfl
theorem kw_26 : Cond.initialized "HarvestStepsModel" ∈ hw_tbl := hw_in1 6 rfl rfl
theorem kw_27 : Cond.initialized "HarvestSteps$Listing" ∈ hw_tbl := hw_in1 7 rfl rfl
theorem kw_28 : Cond.initialized "java/util/Arrays" ∈ hw_tbl := hw_in1 8 rfl rfl
theorem kw_29 : Cond.initialized "java/lang/System" ∈ hw_tbl := hw_in1 9 rfl rfl
theorem kw_30 : Cond.initialized "HarvestSteps$Page" ∈ hw_tbl := hw_in1 10 rfl rfl
theorem kw_31 : Cond.initialized "HarvestSteps$Token" ∈ hw_tbl := hw_in1 11 rfl rfl
theorem kw_32 : Cond.initialized "jdk/internal/util/ArraysSupport" ∈ hw_tbl := hw_in1 12 rfl rfl
theorem kw_33 : Cond.initialized "java/util/Objects" ∈ hw_tbl := hw_in1 13 rfl rfl
theorem kw_34 : Cond.initialized "jdk/internal/util/Preconditions" ∈ hw_tbl := hw_in1 14 rfl rfl
theorem kw_35 : Cond.initialized "java/lang/Throwable" ∈ hw_tbl := hw_in1 15 rfl rfl
theorem kw_36 : Cond.initialized "java/lang/Exception" ∈ hw_tbl := hw_in1 16 rfl rfl
theorem kw_37 : Cond.initialized "java/lang/RuntimeException" ∈ hw_tbl := hw_in1 17 rfl rfl
theorem kw_38 : Cond.initialized "java/util/NoSuchElementException" ∈ hw_tbl := hw_in1 18 rfl rfl
theorem kw_39 : Cond.classLink "HarvestStepsLaw" 8 "HarvestSteps" ∈ hw_tbl := hw_in1 19 rfl rfl
theorem kw_40 : Cond.instantiable "HarvestSteps" 16 ∈ hw_tbl := hw_in1 20 rfl rfl
theorem kw_41 : Cond.methodLink "HarvestStepsLaw" 21 ⟨"HarvestSteps", "<init>", "(III)V"⟩ ∈ hw_tbl := hw_in1 21 rfl rfl
theorem kw_42 : Cond.instanceMethod ⟨"HarvestSteps", "<init>", "(III)V"⟩ ∈ hw_tbl := hw_in1 22 rfl rfl
theorem kw_43 : Cond.code ⟨"HarvestSteps", "<init>", "(III)V"⟩ prog_1_method_1_code 4 none ∈ hw_tbl := hw_in1 23 rfl rfl
theorem kw_44 : Cond.methodLink "HarvestSteps" 1 ⟨"java/lang/Object", "<init>", "()V"⟩ ∈ hw_tbl := hw_in1 24 rfl rfl
theorem kw_45 : Cond.instanceMethod ⟨"java/lang/Object", "<init>", "()V"⟩ ∈ hw_tbl := hw_in1 25 rfl rfl
theorem kw_46 : Cond.code ⟨"java/lang/Object", "<init>", "()V"⟩ object_method_1_code 1 none ∈ hw_tbl := hw_in1 26 rfl rfl
theorem kw_47 : Cond.classLink "HarvestSteps" 39 "java/util/ArrayList" ∈ hw_tbl := hw_in1 27 rfl rfl
theorem kw_48 : Cond.instantiable "java/util/ArrayList" 3 ∈ hw_tbl := hw_in1 28 rfl rfl
theorem kw_49 : Cond.methodLink "HarvestSteps" 41 ⟨"java/util/ArrayList", "<init>", "()V"⟩ ∈ hw_tbl := hw_in1 29 rfl rfl
theorem kw_50 : Cond.instanceMethod ⟨"java/util/ArrayList", "<init>", "()V"⟩ ∈ hw_tbl := hw_in1 30 rfl rfl
theorem kw_51 : Cond.code ⟨"java/util/ArrayList", "<init>", "()V"⟩ prog_18_method_2_code 1 none ∈ hw_tbl := hw_in1 31 rfl rfl
theorem kw_52 : Cond.methodLink "java/util/ArrayList" 1 ⟨"java/util/AbstractList", "<init>", "()V"⟩ ∈ hw_tbl := hw_in1 32 rfl rfl
theorem kw_53 : Cond.instanceMethod ⟨"java/util/AbstractList", "<init>", "()V"⟩ ∈ hw_tbl := hw_in1 33 rfl rfl
theorem kw_54 : Cond.code ⟨"java/util/AbstractList", "<init>", "()V"⟩ prog_17_method_1_code 1 none ∈ hw_tbl := hw_in1 34 rfl rfl
theorem kw_55 : Cond.methodLink "java/util/AbstractList" 1 ⟨"java/util/AbstractCollection", "<init>", "()V"⟩ ∈ hw_tbl := hw_in1 35 rfl rfl
theorem kw_56 : Cond.instanceMethod ⟨"java/util/AbstractCollection", "<init>", "()V"⟩ ∈ hw_tbl := hw_in1 36 rfl rfl
theorem kw_57 : Cond.code ⟨"java/util/AbstractCollection", "<init>", "()V"⟩ prog_16_method_1_code 1 none ∈ hw_tbl := hw_in1 37 rfl rfl
theorem kw_58 : Cond.methodLink "java/util/AbstractCollection" 1 ⟨"java/lang/Object", "<init>", "()V"⟩ ∈ hw_tbl := hw_in1 38 rfl rfl
theorem kw_59 : Cond.fieldLink "java/util/ArrayList" 39 "java/util/ArrayList" "DEFAULTCAPACITY_EMPTY_ELEMENTDATA" "[Ljava/lang/Object;" ∈ hw_tbl := hw_in1 39 rfl rfl
theorem kw_61 : Cond.fieldLink "java/util/ArrayList" 9 "java/util/ArrayList" "elementData" "[Ljava/lang/Object;" ∈ hw_tbl := hw_in1 41 rfl rfl
theorem kw_62 : Cond.fieldLink "java/util/ArrayList" 48 "java/util/ArrayList" "size" "I" ∈ hw_tbl := hw_in1 42 rfl rfl
theorem kw_63 : Cond.fieldLink "java/util/AbstractList" 7 "java/util/AbstractList" "modCount" "I" ∈ hw_tbl := hw_in1 43 rfl rfl
theorem kw_64 : Cond.fieldLink "java/util/ArrayList" 63 "java/util/ArrayList" "modCount" "I" ∈ hw_tbl := hw_in1 44 rfl rfl
theorem kw_65 : Cond.sameField "java/util/ArrayList" "java/util/AbstractList" "modCount" "I" ∈ hw_tbl := hw_in1 45 rfl rfl
theorem kw_66 : Cond.lays "java/util/ArrayList" "java/util/ArrayList" "elementData" "[Ljava/lang/Object;" ∈ hw_tbl := hw_in1 46 rfl rfl
theorem kw_68 : Cond.lays "java/util/ArrayList" "java/util/ArrayList" "size" "I" ∈ hw_tbl := hw_in1 48 rfl rfl
theorem kw_70 : Cond.lays "java/util/ArrayList" "java/util/AbstractList" "modCount" "I" ∈ hw_tbl := hw_in1 50 rfl rfl
theorem kw_73 : Cond.arrayClass .boolean ∈ hw_tbl := hw_in1 53 rfl rfl
theorem kw_74 : Cond.arrayClass .int ∈ hw_tbl := hw_in1 54 rfl rfl
theorem kw_75 : Cond.classLink "HarvestSteps" 46 "HarvestSteps$Page" ∈ hw_tbl := hw_in1 55 rfl rfl
theorem kw_77 : Cond.methodLink "HarvestSteps" 58 ⟨"HarvestSteps", "nearest", "(III)I"⟩ ∈ hw_tbl := hw_in1 57 rfl rfl
theorem kw_78 : Cond.static ⟨"HarvestSteps", "nearest", "(III)I"⟩ ∈ hw_tbl := hw_in1 58 rfl rfl
theorem kw_79 : Cond.code ⟨"HarvestSteps", "nearest", "(III)I"⟩ prog_1_method_14_code 3 (some .int) ∈ hw_tbl := hw_in1 59 rfl rfl
theorem kw_80 : Cond.methodLink "HarvestSteps" 178 ⟨"java/lang/Math", "min", "(II)I"⟩ ∈ hw_tbl := hw_in1 60 rfl rfl
theorem kw_81 : Cond.static ⟨"java/lang/Math", "min", "(II)I"⟩ ∈ hw_tbl := hw_in1 61 rfl rfl
theorem kw_82 : Cond.code ⟨"java/lang/Math", "min", "(II)I"⟩ prog_11_method_69_code 2 (some .int) ∈ hw_tbl := hw_in1 62 rfl rfl
theorem kw_83 : Cond.methodLink "HarvestSteps" 184 ⟨"java/lang/Math", "max", "(II)I"⟩ ∈ hw_tbl := hw_in1 63 rfl rfl
theorem kw_84 : Cond.static ⟨"java/lang/Math", "max", "(II)I"⟩ ∈ hw_tbl := hw_in1 64 rfl rfl
theorem kw_85 : Cond.code ⟨"java/lang/Math", "max", "(II)I"⟩ prog_11_method_65_code 2 (some .int) ∈ hw_tbl := hw_in1 65 rfl rfl
theorem kw_86 : Cond.constant "HarvestSteps" 68 1000000 ∈ hw_tbl := hw_in1 66 rfl rfl
theorem kw_87 : Cond.fieldLink "HarvestSteps" 62 "HarvestSteps" "pageSize" "I" ∈ hw_tbl := hw_in1 67 rfl rfl
theorem kw_88 : Cond.fieldLink "HarvestSteps" 65 "HarvestSteps" "grain" "I" ∈ hw_tbl := hw_in1 68 rfl rfl
theorem kw_89 : Cond.fieldLink "HarvestSteps" 69 "HarvestSteps" "life" "I" ∈ hw_tbl := hw_in1 69 rfl rfl
theorem kw_90 : Cond.fieldLink "HarvestSteps" 9 "HarvestSteps" "held" "[Z" ∈ hw_tbl := hw_in1 70 rfl rfl
theorem kw_91 : Cond.fieldLink "HarvestSteps" 13 "HarvestSteps" "setOf" "[I" ∈ hw_tbl := hw_in1 71 rfl rfl
theorem kw_92 : Cond.fieldLink "HarvestSteps" 17 "HarvestSteps" "dayOf" "[I" ∈ hw_tbl := hw_in1 72 rfl rfl
theorem kw_93 : Cond.fieldLink "HarvestSteps" 20 "HarvestSteps" "deletedNow" "[Z" ∈ hw_tbl := hw_in1 73 rfl rfl
theorem kw_94 : Cond.fieldLink "HarvestSteps" 23 "HarvestSteps" "latestAct" "[I" ∈ hw_tbl := hw_in1 74 rfl rfl
theorem kw_95 : Cond.fieldLink "HarvestSteps" 26 "HarvestSteps" "recordCount" "I" ∈ hw_tbl := hw_in1 75 rfl rfl
theorem kw_96 : Cond.fieldLink "HarvestSteps" 30 "HarvestSteps" "actCount" "I" ∈ hw_tbl := hw_in1 76 rfl rfl
theorem kw_97 : Cond.fieldLink "HarvestSteps" 33 "HarvestSteps" "order" "[I" ∈ hw_tbl := hw_in1 77 rfl rfl
theorem kw_98 : Cond.fieldLink "HarvestSteps" 36 "HarvestSteps" "listCount" "I" ∈ hw_tbl := hw_in1 78 rfl rfl
theorem kw_99 : Cond.fieldLink "HarvestSteps" 42 "HarvestSteps" "tokens" "Ljava/util/ArrayList;" ∈ hw_tbl := hw_in1 79 rfl rfl
theorem kw_100 : Cond.fieldLink "HarvestSteps" 48 "HarvestSteps" "latestPage" "[LHarvestSteps$Page;" ∈ hw_tbl := hw_in1 80 rfl rfl
theorem kw_101 : Cond.fieldLink "HarvestSteps" 52 "HarvestSteps" "answered" "[I" ∈ hw_tbl := hw_in1 81 rfl rfl
theorem kw_102 : Cond.fieldLink "HarvestSteps" 55 "HarvestSteps" "passedOver" "I" ∈ hw_tbl := hw_in1 82 rfl rfl
theorem kw_103 : Cond.laysFinal "HarvestSteps" "HarvestSteps" "pageSize" "I" ∈ hw_tbl := hw_in1 83 rfl rfl
theorem kw_105 : Cond.laysFinal "HarvestSteps" "HarvestSteps" "grain" "I" ∈ hw_tbl := hw_in1 85 rfl rfl
theorem kw_107 : Cond.laysFinal "HarvestSteps" "HarvestSteps" "life" "I" ∈ hw_tbl := hw_in1 87 rfl rfl
theorem kw_109 : Cond.laysFinal "HarvestSteps" "HarvestSteps" "held" "[Z" ∈ hw_tbl := hw_in1 89 rfl rfl
theorem kw_111 : Cond.laysFinal "HarvestSteps" "HarvestSteps" "setOf" "[I" ∈ hw_tbl := hw_in1 91 rfl rfl
theorem kw_113 : Cond.laysFinal "HarvestSteps" "HarvestSteps" "dayOf" "[I" ∈ hw_tbl := hw_in1 93 rfl rfl
theorem kw_115 : Cond.laysFinal "HarvestSteps" "HarvestSteps" "deletedNow" "[Z" ∈ hw_tbl := hw_in1 95 rfl rfl
theorem kw_117 : Cond.laysFinal "HarvestSteps" "HarvestSteps" "latestAct" "[I" ∈ hw_tbl := hw_in1 97 rfl rfl
theorem kw_119 : Cond.lays "HarvestSteps" "HarvestSteps" "recordCount" "I" ∈ hw_tbl := hw_in1 99 rfl rfl
theorem kw_121 : Cond.lays "HarvestSteps" "HarvestSteps" "actCount" "I" ∈ hw_tbl := hw_in1 101 rfl rfl
theorem kw_123 : Cond.laysFinal "HarvestSteps" "HarvestSteps" "order" "[I" ∈ hw_tbl := hw_in1 103 rfl rfl
theorem kw_125 : Cond.lays "HarvestSteps" "HarvestSteps" "listCount" "I" ∈ hw_tbl := hw_in1 105 rfl rfl
theorem kw_127 : Cond.laysFinal "HarvestSteps" "HarvestSteps" "tokens" "Ljava/util/ArrayList;" ∈ hw_tbl := hw_in1 107 rfl rfl
theorem kw_129 : Cond.laysFinal "HarvestSteps" "HarvestSteps" "latestPage" "[LHarvestSteps$Page;" ∈ hw_tbl := hw_in1 109 rfl rfl
theorem kw_131 : Cond.laysFinal "HarvestSteps" "HarvestSteps" "answered" "[I" ∈ hw_tbl := hw_in1 111 rfl rfl
theorem kw_133 : Cond.lays "HarvestSteps" "HarvestSteps" "passedOver" "I" ∈ hw_tbl := hw_in1 113 rfl rfl
theorem kw_136 : Cond.methodLink "HarvestStepsLaw" 27 ⟨"HarvestSteps", "record", "(II)I"⟩ ∈ hw_tbl := hw_in1 116 rfl rfl
theorem kw_137 : Cond.instanceMethod ⟨"HarvestSteps", "record", "(II)I"⟩ ∈ hw_tbl := hw_in1 117 rfl rfl
theorem kw_138 : Cond.selects "HarvestSteps" ⟨"HarvestSteps", "record", "(II)I"⟩ ⟨"HarvestSteps", "record", "(II)I"⟩ ∈ hw_tbl := hw_in1 118 rfl rfl
theorem kw_139 : Cond.code ⟨"HarvestSteps", "record", "(II)I"⟩ prog_1_method_2_code 4 (some .int) ∈ hw_tbl := hw_in1 119 rfl rfl
theorem kw_140 : Cond.methodLink "HarvestSteps" 72 ⟨"HarvestSteps", "isSet", "(I)Z"⟩ ∈ hw_tbl := hw_in1 120 rfl rfl
theorem kw_141 : Cond.static ⟨"HarvestSteps", "isSet", "(I)Z"⟩ ∈ hw_tbl := hw_in1 121 rfl rfl
theorem kw_142 : Cond.code ⟨"HarvestSteps", "isSet", "(I)Z"⟩ prog_1_method_15_code 1 (some .boolean) ∈ hw_tbl := hw_in1 122 rfl rfl
theorem kw_143 : Cond.methodLink "HarvestSteps" 76 ⟨"HarvestSteps", "canBeDay", "(I)Z"⟩ ∈ hw_tbl := hw_in1 123 rfl rfl
theorem kw_145 : Cond.instanceMethod ⟨"HarvestSteps", "canBeDay", "(I)Z"⟩ ∈ hw_tbl := hw_in1 125 rfl rfl
theorem kw_146 : Cond.code ⟨"HarvestSteps", "canBeDay", "(I)Z"⟩ prog_1_method_22_code 2 (some .boolean) ∈ hw_tbl := hw_in1 126 rfl rfl
theorem kw_147 : Cond.methodLink "HarvestSteps" 79 ⟨"HarvestSteps", "act", "(IIZ)V"⟩ ∈ hw_tbl := hw_in1 127 rfl rfl
theorem kw_149 : Cond.instanceMethod ⟨"HarvestSteps", "act", "(IIZ)V"⟩ ∈ hw_tbl := hw_in1 129 rfl rfl
theorem kw_150 : Cond.code ⟨"HarvestSteps", "act", "(IIZ)V"⟩ prog_1_method_23_code 4 none ∈ hw_tbl := hw_in1 130 rfl rfl
theorem kw_151 : Cond.methodLink "HarvestStepsLaw" 32 ⟨"HarvestSteps", "change", "(II)I"⟩ ∈ hw_tbl := hw_in1 131 rfl rfl
theorem kw_152 : Cond.instanceMethod ⟨"HarvestSteps", "change", "(II)I"⟩ ∈ hw_tbl := hw_in1 132 rfl rfl
theorem kw_153 : Cond.selects "HarvestSteps" ⟨"HarvestSteps", "change", "(II)I"⟩ ⟨"HarvestSteps", "change", "(II)I"⟩ ∈ hw_tbl := hw_in1 133 rfl rfl
theorem kw_154 : Cond.code ⟨"HarvestSteps", "change", "(II)I"⟩ prog_1_method_3_code 3 (some .int) ∈ hw_tbl := hw_in1 134 rfl rfl
theorem kw_155 : Cond.methodLink "HarvestSteps" 83 ⟨"HarvestSteps", "isRecord", "(I)Z"⟩ ∈ hw_tbl := hw_in1 135 rfl rfl
theorem kw_157 : Cond.instanceMethod ⟨"HarvestSteps", "isRecord", "(I)Z"⟩ ∈ hw_tbl := hw_in1 137 rfl rfl
theorem kw_158 : Cond.code ⟨"HarvestSteps", "isRecord", "(I)Z"⟩ prog_1_method_20_code 2 (some .boolean) ∈ hw_tbl := hw_in1 138 rfl rfl
theorem kw_159 : Cond.methodLink "HarvestStepsLaw" 36 ⟨"HarvestSteps", "delete", "(II)I"⟩ ∈ hw_tbl := hw_in1 139 rfl rfl
theorem kw_160 : Cond.instanceMethod ⟨"HarvestSteps", "delete", "(II)I"⟩ ∈ hw_tbl := hw_in1 140 rfl rfl
theorem kw_161 : Cond.selects "HarvestSteps" ⟨"HarvestSteps", "delete", "(II)I"⟩ ⟨"HarvestSteps", "delete", "(II)I"⟩ ∈ hw_tbl := hw_in1 141 rfl rfl
theorem kw_162 : Cond.code ⟨"HarvestSteps", "delete", "(II)I"⟩ prog_1_method_4_code 3 (some .int) ∈ hw_tbl := hw_in1 142 rfl rfl
theorem kw_163 : Cond.methodLink "HarvestStepsLaw" 40 ⟨"HarvestSteps", "form", "(IZ)I"⟩ ∈ hw_tbl := hw_in1 143 rfl rfl
theorem kw_164 : Cond.instanceMethod ⟨"HarvestSteps", "form", "(IZ)I"⟩ ∈ hw_tbl := hw_in1 144 rfl rfl
theorem kw_165 : Cond.selects "HarvestSteps" ⟨"HarvestSteps", "form", "(IZ)I"⟩ ⟨"HarvestSteps", "form", "(IZ)I"⟩ ∈ hw_tbl := hw_in1 145 rfl rfl
theorem kw_166 : Cond.code ⟨"HarvestSteps", "form", "(IZ)I"⟩ prog_1_method_5_code 3 (some .int) ∈ hw_tbl := hw_in1 146 rfl rfl
theorem kw_167 : Cond.methodLink "HarvestSteps" 86 ⟨"HarvestSteps", "isForm", "(I)Z"⟩ ∈ hw_tbl := hw_in1 147 rfl rfl
theorem kw_168 : Cond.static ⟨"HarvestSteps", "isForm", "(I)Z"⟩ ∈ hw_tbl := hw_in1 148 rfl rfl
theorem kw_169 : Cond.code ⟨"HarvestSteps", "isForm", "(I)Z"⟩ prog_1_method_16_code 1 (some .boolean) ∈ hw_tbl := hw_in1 149 rfl rfl
theorem kw_170 : Cond.methodLink "HarvestStepsLaw" 45 ⟨"HarvestSteps", "list", "(IIIIII)I"⟩ ∈ hw_tbl := hw_in1 150 rfl rfl
theorem kw_171 : Cond.instanceMethod ⟨"HarvestSteps", "list", "(IIIIII)I"⟩ ∈ hw_tbl := hw_in1 151 rfl rfl
theorem kw_172 : Cond.selects "HarvestSteps" ⟨"HarvestSteps", "list", "(IIIIII)I"⟩ ⟨"HarvestSteps", "list", "(IIIIII)I"⟩ ∈ hw_tbl := hw_in1 152 rfl rfl
theorem kw_173 : Cond.code ⟨"HarvestSteps", "list", "(IIIIII)I"⟩ prog_1_method_6_code 9 (some .int) ∈ hw_tbl := hw_in1 153 rfl rfl
theorem kw_174 : Cond.methodLink "HarvestSteps" 89 ⟨"HarvestSteps", "isHarvester", "(I)Z"⟩ ∈ hw_tbl := hw_in1 154 rfl rfl
theorem kw_175 : Cond.static ⟨"HarvestSteps", "isHarvester", "(I)Z"⟩ ∈ hw_tbl := hw_in1 155 rfl rfl
theorem kw_176 : Cond.code ⟨"HarvestSteps", "isHarvester", "(I)Z"⟩ prog_1_method_17_code 1 (some .boolean) ∈ hw_tbl := hw_in1 156 rfl rfl
theorem kw_177 : Cond.methodLink "HarvestSteps" 92 ⟨"HarvestSteps", "isTime", "(I)Z"⟩ ∈ hw_tbl := hw_in1 157 rfl rfl
theorem kw_178 : Cond.static ⟨"HarvestSteps", "isTime", "(I)Z"⟩ ∈ hw_tbl := hw_in1 158 rfl rfl
theorem kw_179 : Cond.code ⟨"HarvestSteps", "isTime", "(I)Z"⟩ prog_1_method_18_code 1 (some .boolean) ∈ hw_tbl := hw_in1 159 rfl rfl
theorem kw_180 : Cond.constant "HarvestSteps" 187 1000000000 ∈ hw_tbl := hw_in1 160 rfl rfl
theorem kw_181 : Cond.methodLink "HarvestSteps" 95 ⟨"HarvestSteps", "isHeld", "(I)Z"⟩ ∈ hw_tbl := hw_in1 161 rfl rfl
theorem kw_183 : Cond.instanceMethod ⟨"HarvestSteps", "isHeld", "(I)Z"⟩ ∈ hw_tbl := hw_in1 163 rfl rfl
theorem kw_184 : Cond.code ⟨"HarvestSteps", "isHeld", "(I)Z"⟩ prog_1_method_19_code 2 (some .boolean) ∈ hw_tbl := hw_in1 164 rfl rfl
theorem kw_185 : Cond.methodLink "HarvestSteps" 98 ⟨"HarvestSteps", "sortSpan", "(III)I"⟩ ∈ hw_tbl := hw_in1 165 rfl rfl
theorem kw_187 : Cond.instanceMethod ⟨"HarvestSteps", "sortSpan", "(III)I"⟩ ∈ hw_tbl := hw_in1 167 rfl rfl
theorem kw_188 : Cond.code ⟨"HarvestSteps", "sortSpan", "(III)I"⟩ prog_1_method_24_code 7 (some .int) ∈ hw_tbl := hw_in1 168 rfl rfl
theorem kw_189 : Cond.methodLink "HarvestSteps" 192 ⟨"HarvestSteps", "insertByDay", "(II)V"⟩ ∈ hw_tbl := hw_in1 169 rfl rfl
theorem kw_191 : Cond.instanceMethod ⟨"HarvestSteps", "insertByDay", "(II)V"⟩ ∈ hw_tbl := hw_in1 171 rfl rfl
theorem kw_192 : Cond.code ⟨"HarvestSteps", "insertByDay", "(II)V"⟩ prog_1_method_25_code 4 none ∈ hw_tbl := hw_in1 172 rfl rfl
theorem kw_193 : Cond.classLink "HarvestSteps" 101 "HarvestSteps$Listing" ∈ hw_tbl := hw_in1 173 rfl rfl
theorem kw_194 : Cond.instantiable "HarvestSteps$Listing" 4 ∈ hw_tbl := hw_in1 174 rfl rfl
theorem kw_195 : Cond.methodLink "HarvestSteps" 103 ⟨"java/util/Arrays", "copyOf", "([II)[I"⟩ ∈ hw_tbl := hw_in1 175 rfl rfl
theorem kw_196 : Cond.static ⟨"java/util/Arrays", "copyOf", "([II)[I"⟩ ∈ hw_tbl := hw_in1 176 rfl rfl
theorem kw_197 : Cond.code ⟨"java/util/Arrays", "copyOf", "([II)[I"⟩ prog_19_method_123_code 3 (some (.array .int)) ∈ hw_tbl := hw_in1 177 rfl rfl
theorem kw_198 : Cond.methodLink "java/util/Arrays" 316 ⟨"[I", "clone", "()Ljava/lang/Object;"⟩ ∈ hw_tbl := hw_in1 178 rfl rfl
theorem kw_201 : Cond.instanceMethod ⟨"java/lang/Object", "clone", "()Ljava/lang/Object;"⟩ ∈ hw_tbl := hw_in1 181 rfl rfl
theorem kw_202 : Cond.selects "[I" ⟨"[I", "clone", "()Ljava/lang/Object;"⟩ ⟨"java/lang/Object", "clone", "()Ljava/lang/Object;"⟩ ∈ hw_tbl := hw_in1 182 rfl rfl
theorem kw_204 : Cond.classLink "java/util/Arrays" 317 "[I" ∈ hw_tbl := hw_in1 184 rfl rfl
theorem kw_205 : Cond.methodLink "java/util/Arrays" 304 ⟨"java/lang/Math", "min", "(II)I"⟩ ∈ hw_tbl := hw_in1 185 rfl rfl
theorem kw_206 : Cond.methodLink "java/util/Arrays" 150 ⟨"java/lang/System", "arraycopy", "(Ljava/lang/Object;ILjava/lang/Object;II)V"⟩ ∈ hw_tbl := hw_in1 186 rfl rfl
theorem kw_207 : Cond.static ⟨"java/lang/System", "arraycopy", "(Ljava/lang/Object;ILjava/lang/Object;II)V"⟩ ∈ hw_tbl := hw_in1 187 rfl rfl
theorem kw_209 : Cond.methodLink "HarvestSteps" 109 ⟨"HarvestSteps$Listing", "<init>", "(III[I)V"⟩ ∈ hw_tbl := hw_in1 189 rfl rfl
theorem kw_210 : Cond.instanceMethod ⟨"HarvestSteps$Listing", "<init>", "(III[I)V"⟩ ∈ hw_tbl := hw_in1 190 rfl rfl
theorem kw_211 : Cond.code ⟨"HarvestSteps$Listing", "<init>", "(III[I)V"⟩ prog_2_method_1_code 5 none ∈ hw_tbl := hw_in1 191 rfl rfl
theorem kw_212 : Cond.methodLink "HarvestSteps$Listing" 1 ⟨"java/lang/Object", "<init>", "()V"⟩ ∈ hw_tbl := hw_in1 192 rfl rfl
theorem kw_213 : Cond.fieldLink "HarvestSteps$Listing" 7 "HarvestSteps$Listing" "harvester" "I" ∈ hw_tbl := hw_in1 193 rfl rfl
theorem kw_214 : Cond.fieldLink "HarvestSteps" 133 "HarvestSteps$Listing" "harvester" "I" ∈ hw_tbl := hw_in1 194 rfl rfl
theorem kw_215 : Cond.fieldLink "HarvestSteps$Listing" 13 "HarvestSteps$Listing" "form" "I" ∈ hw_tbl := hw_in1 195 rfl rfl
theorem kw_216 : Cond.fieldLink "HarvestSteps" 196 "HarvestSteps$Listing" "form" "I" ∈ hw_tbl := hw_in1 196 rfl rfl
theorem kw_217 : Cond.fieldLink "HarvestSteps$Listing" 16 "HarvestSteps$Listing" "actsBefore" "I" ∈ hw_tbl := hw_in1 197 rfl rfl
theorem kw_218 : Cond.fieldLink "HarvestSteps" 199 "HarvestSteps$Listing" "actsBefore" "I" ∈ hw_tbl := hw_in1 198 rfl rfl
theorem kw_219 : Cond.fieldLink "HarvestSteps$Listing" 19 "HarvestSteps$Listing" "numbers" "[I" ∈ hw_tbl := hw_in1 199 rfl rfl
theorem kw_220 : Cond.fieldLink "HarvestSteps" 177 "HarvestSteps$Listing" "numbers" "[I" ∈ hw_tbl := hw_in1 200 rfl rfl
theorem kw_221 : Cond.laysFinal "HarvestSteps$Listing" "HarvestSteps$Listing" "harvester" "I" ∈ hw_tbl := hw_in1 201 rfl rfl
theorem kw_223 : Cond.laysFinal "HarvestSteps$Listing" "HarvestSteps$Listing" "form" "I" ∈ hw_tbl := hw_in1 203 rfl rfl
theorem kw_225 : Cond.laysFinal "HarvestSteps$Listing" "HarvestSteps$Listing" "actsBefore" "I" ∈ hw_tbl := hw_in1 205 rfl rfl
theorem kw_227 : Cond.laysFinal "HarvestSteps$Listing" "HarvestSteps$Listing" "numbers" "[I" ∈ hw_tbl := hw_in1 207 rfl rfl
theorem kw_230 : Cond.methodLink "HarvestSteps" 112 ⟨"HarvestSteps", "makePage", "(LHarvestSteps$Listing;II)LHarvestSteps$Page;"⟩ ∈ hw_tbl := hw_in1 210 rfl rfl
theorem kw_232 : Cond.instanceMethod ⟨"HarvestSteps", "makePage", "(LHarvestSteps$Listing;II)LHarvestSteps$Page;"⟩ ∈ hw_tbl := hw_in1 212 rfl rfl
theorem kw_233 : Cond.code ⟨"HarvestSteps", "makePage", "(LHarvestSteps$Listing;II)LHarvestSteps$Page;"⟩ prog_1_method_26_code 8 (some (.object "HarvestSteps$Page")) ∈ hw_tbl := hw_in1 213 rfl rfl
theorem kw_234 : Cond.instantiable "HarvestSteps$Page" 6 ∈ hw_tbl := hw_in1 214 rfl rfl
theorem kw_235 : Cond.methodLink "HarvestSteps" 197 ⟨"HarvestSteps$Page", "<init>", "(II)V"⟩ ∈ hw_tbl := hw_in1 215 rfl rfl
theorem kw_236 : Cond.instanceMethod ⟨"HarvestSteps$Page", "<init>", "(II)V"⟩ ∈ hw_tbl := hw_in1 216 rfl rfl
theorem kw_237 : Cond.code ⟨"HarvestSteps$Page", "<init>", "(II)V"⟩ prog_3_method_1_code 3 none ∈ hw_tbl := hw_in1 217 rfl rfl
theorem kw_238 : Cond.methodLink "HarvestSteps$Page" 3 ⟨"java/lang/Object", "<init>", "()V"⟩ ∈ hw_tbl := hw_in1 218 rfl rfl
theorem kw_239 : Cond.fieldLink "HarvestSteps$Page" 18 "HarvestSteps$Page" "form" "I" ∈ hw_tbl := hw_in1 219 rfl rfl
theorem kw_240 : Cond.fieldLink "HarvestSteps" 172 "HarvestSteps$Page" "form" "I" ∈ hw_tbl := hw_in1 220 rfl rfl
theorem kw_241 : Cond.fieldLink "HarvestSteps$Page" 21 "HarvestSteps$Page" "numbers" "[I" ∈ hw_tbl := hw_in1 221 rfl rfl
theorem kw_242 : Cond.fieldLink "HarvestSteps" 163 "HarvestSteps$Page" "numbers" "[I" ∈ hw_tbl := hw_in1 222 rfl rfl
theorem kw_243 : Cond.fieldLink "HarvestSteps$Page" 25 "HarvestSteps$Page" "days" "[I" ∈ hw_tbl := hw_in1 223 rfl rfl
theorem kw_244 : Cond.fieldLink "HarvestSteps" 166 "HarvestSteps$Page" "days" "[I" ∈ hw_tbl := hw_in1 224 rfl rfl
theorem kw_245 : Cond.fieldLink "HarvestSteps$Page" 28 "HarvestSteps$Page" "deleted" "[Z" ∈ hw_tbl := hw_in1 225 rfl rfl
theorem kw_246 : Cond.fieldLink "HarvestSteps" 169 "HarvestSteps$Page" "deleted" "[Z" ∈ hw_tbl := hw_in1 226 rfl rfl
theorem kw_247 : Cond.fieldLink "HarvestSteps$Page" 9 "HarvestSteps$Page" "count" "I" ∈ hw_tbl := hw_in1 227 rfl rfl
theorem kw_248 : Cond.fieldLink "HarvestSteps" 158 "HarvestSteps$Page" "count" "I" ∈ hw_tbl := hw_in1 228 rfl rfl
theorem kw_249 : Cond.fieldLink "HarvestSteps$Page" 15 "HarvestSteps$Page" "nextToken" "I" ∈ hw_tbl := hw_in1 229 rfl rfl
theorem kw_250 : Cond.fieldLink "HarvestSteps" 146 "HarvestSteps$Page" "nextToken" "I" ∈ hw_tbl := hw_in1 230 rfl rfl
theorem kw_251 : Cond.laysFinal "HarvestSteps$Page" "HarvestSteps$Page" "form" "I" ∈ hw_tbl := hw_in1 231 rfl rfl
theorem kw_253 : Cond.laysFinal "HarvestSteps$Page" "HarvestSteps$Page" "numbers" "[I" ∈ hw_tbl := hw_in1 233 rfl rfl
theorem kw_255 : Cond.laysFinal "HarvestSteps$Page" "HarvestSteps$Page" "days" "[I" ∈ hw_tbl := hw_in1 235 rfl rfl
theorem kw_257 : Cond.laysFinal "HarvestSteps$Page" "HarvestSteps$Page" "deleted" "[Z" ∈ hw_tbl := hw_in1 237 rfl rfl
theorem kw_259 : Cond.lays "HarvestSteps$Page" "HarvestSteps$Page" "count" "I" ∈ hw_tbl := hw_in1 239 rfl rfl
theorem kw_261 : Cond.lays "HarvestSteps$Page" "HarvestSteps$Page" "nextToken" "I" ∈ hw_tbl := hw_in2 1 rfl rfl
theorem kw_264 : Cond.methodLink "HarvestSteps" 202 ⟨"HarvestSteps$Page", "keep", "(IIZ)V"⟩ ∈ hw_tbl := hw_in2 4 rfl rfl
theorem kw_265 : Cond.instanceMethod ⟨"HarvestSteps$Page", "keep", "(IIZ)V"⟩ ∈ hw_tbl := hw_in2 5 rfl rfl
theorem kw_266 : Cond.selects "HarvestSteps$Page" ⟨"HarvestSteps$Page", "keep", "(IIZ)V"⟩ ⟨"HarvestSteps$Page", "keep", "(IIZ)V"⟩ ∈ hw_tbl := hw_in2 6 rfl rfl
theorem kw_267 : Cond.code ⟨"HarvestSteps$Page", "keep", "(IIZ)V"⟩ prog_3_method_2_code 4 none ∈ hw_tbl := hw_in2 7 rfl rfl
theorem kw_268 : Cond.methodLink "HarvestSteps" 188 ⟨"java/util/ArrayList", "size", "()I"⟩ ∈ hw_tbl := hw_in2 8 rfl rfl
theorem kw_269 : Cond.instanceMethod ⟨"java/util/ArrayList", "size", "()I"⟩ ∈ hw_tbl := hw_in2 9 rfl rfl
theorem kw_270 : Cond.selects "java/util/ArrayList" ⟨"java/util/ArrayList", "size", "()I"⟩ ⟨"java/util/ArrayList", "size", "()I"⟩ ∈ hw_tbl := hw_in2 10 rfl rfl
theorem kw_271 : Cond.code ⟨"java/util/ArrayList", "size", "()I"⟩ prog_18_method_8_code 1 (some .int) ∈ hw_tbl := hw_in2 11 rfl rfl
theorem kw_272 : Cond.classLink "HarvestSteps" 127 "HarvestSteps$Token" ∈ hw_tbl := hw_in2 12 rfl rfl
theorem kw_273 : Cond.instantiable "HarvestSteps$Token" 4 ∈ hw_tbl := hw_in2 13 rfl rfl
theorem kw_274 : Cond.methodLink "HarvestSteps" 205 ⟨"HarvestSteps$Token", "<init>", "(LHarvestSteps$Listing;II)V"⟩ ∈ hw_tbl := hw_in2 14 rfl rfl
theorem kw_275 : Cond.instanceMethod ⟨"HarvestSteps$Token", "<init>", "(LHarvestSteps$Listing;II)V"⟩ ∈ hw_tbl := hw_in2 15 rfl rfl
theorem kw_276 : Cond.code ⟨"HarvestSteps$Token", "<init>", "(LHarvestSteps$Listing;II)V"⟩ prog_4_method_1_code 4 none ∈ hw_tbl := hw_in2 16 rfl rfl
theorem kw_277 : Cond.methodLink "HarvestSteps$Token" 1 ⟨"java/lang/Object", "<init>", "()V"⟩ ∈ hw_tbl := hw_in2 17 rfl rfl
theorem kw_278 : Cond.fieldLink "HarvestSteps$Token" 13 "HarvestSteps$Token" "listing" "LHarvestSteps$Listing;" ∈ hw_tbl := hw_in2 18 rfl rfl
theorem kw_279 : Cond.fieldLink "HarvestSteps" 129 "HarvestSteps$Token" "listing" "LHarvestSteps$Listing;" ∈ hw_tbl := hw_in2 19 rfl rfl
theorem kw_280 : Cond.fieldLink "HarvestSteps$Token" 17 "HarvestSteps$Token" "begin" "I" ∈ hw_tbl := hw_in2 20 rfl rfl
theorem kw_281 : Cond.fieldLink "HarvestSteps" 143 "HarvestSteps$Token" "begin" "I" ∈ hw_tbl := hw_in2 21 rfl rfl
theorem kw_282 : Cond.fieldLink "HarvestSteps$Token" 21 "HarvestSteps$Token" "made" "I" ∈ hw_tbl := hw_in2 22 rfl rfl
theorem kw_283 : Cond.fieldLink "HarvestSteps" 136 "HarvestSteps$Token" "made" "I" ∈ hw_tbl := hw_in2 23 rfl rfl
theorem kw_284 : Cond.fieldLink "HarvestSteps$Token" 7 "HarvestSteps$Token" "page" "LHarvestSteps$Page;" ∈ hw_tbl := hw_in2 24 rfl rfl
theorem kw_285 : Cond.fieldLink "HarvestSteps" 139 "HarvestSteps$Token" "page" "LHarvestSteps$Page;" ∈ hw_tbl := hw_in2 25 rfl rfl
theorem kw_286 : Cond.laysFinal "HarvestSteps$Token" "HarvestSteps$Token" "listing" "LHarvestSteps$Listing;" ∈ hw_tbl := hw_in2 26 rfl rfl
theorem kw_288 : Cond.laysFinal "HarvestSteps$Token" "HarvestSteps$Token" "begin" "I" ∈ hw_tbl := hw_in2 28 rfl rfl
theorem kw_290 : Cond.laysFinal "HarvestSteps$Token" "HarvestSteps$Token" "made" "I" ∈ hw_tbl := hw_in2 30 rfl rfl
theorem kw_292 : Cond.lays "HarvestSteps$Token" "HarvestSteps$Token" "page" "LHarvestSteps$Page;" ∈ hw_tbl := hw_in2 32 rfl rfl
theorem kw_295 : Cond.methodLink "HarvestSteps" 208 ⟨"java/util/ArrayList", "add", "(Ljava/lang/Object;)Z"⟩ ∈ hw_tbl := hw_in2 35 rfl rfl
theorem kw_296 : Cond.instanceMethod ⟨"java/util/ArrayList", "add", "(Ljava/lang/Object;)Z"⟩ ∈ hw_tbl := hw_in2 36 rfl rfl
theorem kw_297 : Cond.selects "java/util/ArrayList" ⟨"java/util/ArrayList", "add", "(Ljava/lang/Object;)Z"⟩ ⟨"java/util/ArrayList", "add", "(Ljava/lang/Object;)Z"⟩ ∈ hw_tbl := hw_in2 37 rfl rfl
theorem kw_298 : Cond.code ⟨"java/util/ArrayList", "add", "(Ljava/lang/Object;)Z"⟩ prog_18_method_25_code 2 (some .boolean) ∈ hw_tbl := hw_in2 38 rfl rfl
theorem kw_299 : Cond.methodLink "java/util/ArrayList" 131 ⟨"java/util/ArrayList", "add", "(Ljava/lang/Object;[Ljava/lang/Object;I)V"⟩ ∈ hw_tbl := hw_in2 39 rfl rfl
theorem kw_301 : Cond.instanceMethod ⟨"java/util/ArrayList", "add", "(Ljava/lang/Object;[Ljava/lang/Object;I)V"⟩ ∈ hw_tbl := hw_in2 41 rfl rfl
theorem kw_302 : Cond.code ⟨"java/util/ArrayList", "add", "(Ljava/lang/Object;[Ljava/lang/Object;I)V"⟩ prog_18_method_24_code 4 none ∈ hw_tbl := hw_in2 42 rfl rfl
theorem kw_303 : Cond.methodLink "java/util/ArrayList" 129 ⟨"java/util/ArrayList", "grow", "()[Ljava/lang/Object;"⟩ ∈ hw_tbl := hw_in2 43 rfl rfl
theorem kw_305 : Cond.instanceMethod ⟨"java/util/ArrayList", "grow", "()[Ljava/lang/Object;"⟩ ∈ hw_tbl := hw_in2 45 rfl rfl
theorem kw_306 : Cond.code ⟨"java/util/ArrayList", "grow", "()[Ljava/lang/Object;"⟩ prog_18_method_7_code 1 (some (.array (.object "java/lang/Object"))) ∈ hw_tbl := hw_in2 46 rfl rfl
theorem kw_307 : Cond.methodLink "java/util/ArrayList" 69 ⟨"java/util/ArrayList", "grow", "(I)[Ljava/lang/Object;"⟩ ∈ hw_tbl := hw_in2 47 rfl rfl
theorem kw_309 : Cond.instanceMethod ⟨"java/util/ArrayList", "grow", "(I)[Ljava/lang/Object;"⟩ ∈ hw_tbl := hw_in2 49 rfl rfl
theorem kw_310 : Cond.code ⟨"java/util/ArrayList", "grow", "(I)[Ljava/lang/Object;"⟩ prog_18_method_6_code 4 (some (.array (.object "java/lang/Object"))) ∈ hw_tbl := hw_in2 50 rfl rfl
theorem kw_311 : Cond.methodLink "java/util/ArrayList" 73 ⟨"jdk/internal/util/ArraysSupport", "newLength", "(III)I"⟩ ∈ hw_tbl := hw_in2 51 rfl rfl
theorem kw_312 : Cond.static ⟨"jdk/internal/util/ArraysSupport", "newLength", "(III)I"⟩ ∈ hw_tbl := hw_in2 52 rfl rfl
theorem kw_313 : Cond.code ⟨"jdk/internal/util/ArraysSupport", "newLength", "(III)I"⟩ prog_26_method_27_code 4 (some .int) ∈ hw_tbl := hw_in2 53 rfl rfl
theorem kw_314 : Cond.methodLink "jdk/internal/util/ArraysSupport" 194 ⟨"java/lang/Math", "max", "(II)I"⟩ ∈ hw_tbl := hw_in2 54 rfl rfl
theorem kw_315 : Cond.constant "jdk/internal/util/ArraysSupport" 200 2147483639 ∈ hw_tbl := hw_in2 55 rfl rfl
theorem kw_316 : Cond.methodLink "jdk/internal/util/ArraysSupport" 201 ⟨"jdk/internal/util/ArraysSupport", "hugeLength", "(II)I"⟩ ∈ hw_tbl := hw_in2 56 rfl rfl
theorem kw_317 : Cond.static ⟨"jdk/internal/util/ArraysSupport", "hugeLength", "(II)I"⟩ ∈ hw_tbl := hw_in2 57 rfl rfl
theorem kw_318 : Cond.code ⟨"jdk/internal/util/ArraysSupport", "hugeLength", "(II)I"⟩ prog_26_method_28_code 3 (some .int) ∈ hw_tbl := hw_in2 58 rfl rfl
theorem kw_319 : Cond.methodLink "java/util/ArrayList" 66 ⟨"java/util/Arrays", "copyOf", "([Ljava/lang/Object;I)[Ljava/lang/Object;"⟩ ∈ hw_tbl := hw_in2 59 rfl rfl
theorem kw_320 : Cond.static ⟨"java/util/Arrays", "copyOf", "([Ljava/lang/Object;I)[Ljava/lang/Object;"⟩ ∈ hw_tbl := hw_in2 60 rfl rfl
theorem kw_321 : Cond.code ⟨"java/util/Arrays", "copyOf", "([Ljava/lang/Object;I)[Ljava/lang/Object;"⟩ prog_19_method_119_code 2 (some (.array (.object "java/lang/Object"))) ∈ hw_tbl := hw_in2 61 rfl rfl
theorem kw_322 : Cond.methodLink "java/util/Arrays" 86 ⟨"java/lang/Object", "getClass", "()Ljava/lang/Class;"⟩ ∈ hw_tbl := hw_in2 62 rfl rfl
theorem kw_323 : Cond.instanceMethod ⟨"java/lang/Object", "getClass", "()Ljava/lang/Class;"⟩ ∈ hw_tbl := hw_in2 63 rfl rfl
theorem kw_325 : Cond.selects "HarvestSteps" ⟨"java/lang/Object", "getClass", "()Ljava/lang/Class;"⟩ ⟨"java/lang/Object", "getClass", "()Ljava/lang/Class;"⟩ ∈ hw_tbl := hw_in2 65 rfl rfl
theorem kw_326 : Cond.selects "HarvestSteps$Listing" ⟨"java/lang/Object", "getClass", "()Ljava/lang/Class;"⟩ ⟨"java/lang/Object", "getClass", "()Ljava/lang/Class;"⟩ ∈ hw_tbl := hw_in2 66 rfl rfl
theorem kw_327 : Cond.selects "HarvestSteps$Page" ⟨"java/lang/Object", "getClass", "()Ljava/lang/Class;"⟩ ⟨"java/lang/Object", "getClass", "()Ljava/lang/Class;"⟩ ∈ hw_tbl := hw_in2 67 rfl rfl
theorem kw_328 : Cond.selects "HarvestSteps$Token" ⟨"java/lang/Object", "getClass", "()Ljava/lang/Class;"⟩ ⟨"java/lang/Object", "getClass", "()Ljava/lang/Class;"⟩ ∈ hw_tbl := hw_in2 68 rfl rfl
theorem kw_329 : Cond.selects "HarvestStepsModel" ⟨"java/lang/Object", "getClass", "()Ljava/lang/Class;"⟩ ⟨"java/lang/Object", "getClass", "()Ljava/lang/Class;"⟩ ∈ hw_tbl := hw_in2 69 rfl rfl
theorem kw_330 : Cond.selects "java/util/ArrayList" ⟨"java/lang/Object", "getClass", "()Ljava/lang/Class;"⟩ ⟨"java/lang/Object", "getClass", "()Ljava/lang/Class;"⟩ ∈ hw_tbl := hw_in2 70 rfl rfl
theorem kw_331 : Cond.selects "java/util/NoSuchElementException" ⟨"java/lang/Object", "getClass", "()Ljava/lang/Class;"⟩ ⟨"java/lang/Object", "getClass", "()Ljava/lang/Class;"⟩ ∈ hw_tbl := hw_in2 71 rfl rfl
theorem kw_333 : Cond.methodLink "java/util/Arrays" 300 ⟨"java/util/Arrays", "copyOf", "([Ljava/lang/Object;ILjava/lang/Class;)[Ljava/lang/Object;"⟩ ∈ hw_tbl := hw_in2 73 rfl rfl
theorem kw_334 : Cond.static ⟨"java/util/Arrays", "copyOf", "([Ljava/lang/Object;ILjava/lang/Class;)[Ljava/lang/Object;"⟩ ∈ hw_tbl := hw_in2 74 rfl rfl
theorem kw_335 : Cond.code ⟨"java/util/Arrays", "copyOf", "([Ljava/lang/Object;ILjava/lang/Class;)[Ljava/lang/Object;"⟩ prog_19_method_120_code 4 (some (.array (.object "java/lang/Object"))) ∈ hw_tbl := hw_in2 75 rfl rfl
theorem kw_336 : Cond.classLink "java/util/Arrays" 110 "[Ljava/lang/Object;" ∈ hw_tbl := hw_in2 76 rfl rfl
theorem kw_338 : Cond.classLink "java/util/Arrays" 2 "java/lang/Object" ∈ hw_tbl := hw_in2 78 rfl rfl
theorem kw_339 : Cond.methodLink "java/util/ArrayList" 79 ⟨"java/lang/Math", "max", "(II)I"⟩ ∈ hw_tbl := hw_in2 79 rfl rfl
theorem kw_340 : Cond.classLink "java/util/ArrayList" 7 "java/lang/Object" ∈ hw_tbl := hw_in2 80 rfl rfl
theorem kw_341 : Cond.methodLink "HarvestSteps" 116 ⟨"HarvestSteps", "answer", "(ILHarvestSteps$Page;)I"⟩ ∈ hw_tbl := hw_in2 81 rfl rfl
theorem kw_343 : Cond.instanceMethod ⟨"HarvestSteps", "answer", "(ILHarvestSteps$Page;)I"⟩ ∈ hw_tbl := hw_in2 83 rfl rfl
theorem kw_344 : Cond.code ⟨"HarvestSteps", "answer", "(ILHarvestSteps$Page;)I"⟩ prog_1_method_27_code 3 (some .int) ∈ hw_tbl := hw_in2 84 rfl rfl
theorem kw_345 : Cond.methodLink "HarvestStepsLaw" 50 ⟨"HarvestSteps", "resume", "(III)I"⟩ ∈ hw_tbl := hw_in2 85 rfl rfl
theorem kw_346 : Cond.instanceMethod ⟨"HarvestSteps", "resume", "(III)I"⟩ ∈ hw_tbl := hw_in2 86 rfl rfl
theorem kw_347 : Cond.selects "HarvestSteps" ⟨"HarvestSteps", "resume", "(III)I"⟩ ⟨"HarvestSteps", "resume", "(III)I"⟩ ∈ hw_tbl := hw_in2 87 rfl rfl
theorem kw_348 : Cond.code ⟨"HarvestSteps", "resume", "(III)I"⟩ prog_1_method_7_code 5 (some .int) ∈ hw_tbl := hw_in2 88 rfl rfl
theorem kw_349 : Cond.methodLink "HarvestSteps" 120 ⟨"HarvestSteps", "isToken", "(I)Z"⟩ ∈ hw_tbl := hw_in2 89 rfl rfl
theorem kw_351 : Cond.instanceMethod ⟨"HarvestSteps", "isToken", "(I)Z"⟩ ∈ hw_tbl := hw_in2 91 rfl rfl
theorem kw_352 : Cond.code ⟨"HarvestSteps", "isToken", "(I)Z"⟩ prog_1_method_21_code 2 (some .boolean) ∈ hw_tbl := hw_in2 92 rfl rfl
theorem kw_353 : Cond.methodLink "HarvestSteps" 123 ⟨"java/util/ArrayList", "get", "(I)Ljava/lang/Object;"⟩ ∈ hw_tbl := hw_in2 93 rfl rfl
theorem kw_354 : Cond.instanceMethod ⟨"java/util/ArrayList", "get", "(I)Ljava/lang/Object;"⟩ ∈ hw_tbl := hw_in2 94 rfl rfl
theorem kw_355 : Cond.selects "java/util/ArrayList" ⟨"java/util/ArrayList", "get", "(I)Ljava/lang/Object;"⟩ ⟨"java/util/ArrayList", "get", "(I)Ljava/lang/Object;"⟩ ∈ hw_tbl := hw_in2 95 rfl rfl
theorem kw_356 : Cond.code ⟨"java/util/ArrayList", "get", "(I)Ljava/lang/Object;"⟩ prog_18_method_20_code 2 (some (.object "java/lang/Object")) ∈ hw_tbl := hw_in2 96 rfl rfl
theorem kw_357 : Cond.methodLink "java/util/ArrayList" 118 ⟨"java/util/Objects", "checkIndex", "(II)I"⟩ ∈ hw_tbl := hw_in2 97 rfl rfl
theorem kw_358 : Cond.static ⟨"java/util/Objects", "checkIndex", "(II)I"⟩ ∈ hw_tbl := hw_in2 98 rfl rfl
theorem kw_359 : Cond.code ⟨"java/util/Objects", "checkIndex", "(II)I"⟩ prog_23_method_17_code 2 (some .int) ∈ hw_tbl := hw_in2 99 rfl rfl
theorem kw_360 : Cond.methodLink "java/util/Objects" 105 ⟨"jdk/internal/util/Preconditions", "checkIndex", "(IILjava/util/function/BiFunction;)I"⟩ ∈ hw_tbl := hw_in2 100 rfl rfl
theorem kw_361 : Cond.static ⟨"jdk/internal/util/Preconditions", "checkIndex", "(IILjava/util/function/BiFunction;)I"⟩ ∈ hw_tbl := hw_in2 101 rfl rfl
theorem kw_362 : Cond.code ⟨"jdk/internal/util/Preconditions", "checkIndex", "(IILjava/util/function/BiFunction;)I"⟩ prog_27_method_11_code 3 (some .int) ∈ hw_tbl := hw_in2 102 rfl rfl
theorem kw_363 : Cond.methodLink "java/util/ArrayList" 123 ⟨"java/util/ArrayList", "elementData", "(I)Ljava/lang/Object;"⟩ ∈ hw_tbl := hw_in2 103 rfl rfl
theorem kw_364 : Cond.instanceMethod ⟨"java/util/ArrayList", "elementData", "(I)Ljava/lang/Object;"⟩ ∈ hw_tbl := hw_in2 104 rfl rfl
theorem kw_365 : Cond.selects "java/util/ArrayList" ⟨"java/util/ArrayList", "elementData", "(I)Ljava/lang/Object;"⟩ ⟨"java/util/ArrayList", "elementData", "(I)Ljava/lang/Object;"⟩ ∈ hw_tbl := hw_in2 105 rfl rfl
theorem kw_366 : Cond.code ⟨"java/util/ArrayList", "elementData", "(I)Ljava/lang/Object;"⟩ prog_18_method_18_code 2 (some (.object "java/lang/Object")) ∈ hw_tbl := hw_in2 106 rfl rfl
theorem kw_367 : Cond.methodLink "HarvestStepsLaw" 54 ⟨"HarvestSteps", "token", "(I)I"⟩ ∈ hw_tbl := hw_in2 107 rfl rfl
theorem kw_368 : Cond.instanceMethod ⟨"HarvestSteps", "token", "(I)I"⟩ ∈ hw_tbl := hw_in2 108 rfl rfl
theorem kw_369 : Cond.selects "HarvestSteps" ⟨"HarvestSteps", "token", "(I)I"⟩ ⟨"HarvestSteps", "token", "(I)I"⟩ ∈ hw_tbl := hw_in2 109 rfl rfl
theorem kw_370 : Cond.code ⟨"HarvestSteps", "token", "(I)I"⟩ prog_1_method_8_code 3 (some .int) ∈ hw_tbl := hw_in2 110 rfl rfl
theorem kw_371 : Cond.methodLink "HarvestStepsLaw" 67 ⟨"HarvestSteps", "get", "(II)I"⟩ ∈ hw_tbl := hw_in2 111 rfl rfl
theorem kw_372 : Cond.instanceMethod ⟨"HarvestSteps", "get", "(II)I"⟩ ∈ hw_tbl := hw_in2 112 rfl rfl
theorem kw_373 : Cond.selects "HarvestSteps" ⟨"HarvestSteps", "get", "(II)I"⟩ ⟨"HarvestSteps", "get", "(II)I"⟩ ∈ hw_tbl := hw_in2 113 rfl rfl
theorem kw_374 : Cond.code ⟨"HarvestSteps", "get", "(II)I"⟩ prog_1_method_10_code 3 (some .int) ∈ hw_tbl := hw_in2 114 rfl rfl
theorem kw_375 : Cond.methodLink "HarvestStepsLaw" 71 ⟨"HarvestSteps", "counted", "(I)I"⟩ ∈ hw_tbl := hw_in2 115 rfl rfl
theorem kw_376 : Cond.instanceMethod ⟨"HarvestSteps", "counted", "(I)I"⟩ ∈ hw_tbl := hw_in2 116 rfl rfl
theorem kw_377 : Cond.selects "HarvestSteps" ⟨"HarvestSteps", "counted", "(I)I"⟩ ⟨"HarvestSteps", "counted", "(I)I"⟩ ∈ hw_tbl := hw_in2 117 rfl rfl
theorem kw_378 : Cond.code ⟨"HarvestSteps", "counted", "(I)I"⟩ prog_1_method_11_code 2 (some .int) ∈ hw_tbl := hw_in2 118 rfl rfl
theorem kw_379 : Cond.methodLink "HarvestStepsLaw" 75 ⟨"HarvestSteps", "passed", "()I"⟩ ∈ hw_tbl := hw_in2 119 rfl rfl
theorem kw_380 : Cond.instanceMethod ⟨"HarvestSteps", "passed", "()I"⟩ ∈ hw_tbl := hw_in2 120 rfl rfl
theorem kw_381 : Cond.selects "HarvestSteps" ⟨"HarvestSteps", "passed", "()I"⟩ ⟨"HarvestSteps", "passed", "()I"⟩ ∈ hw_tbl := hw_in2 121 rfl rfl
theorem kw_382 : Cond.code ⟨"HarvestSteps", "passed", "()I"⟩ prog_1_method_12_code 1 (some .int) ∈ hw_tbl := hw_in2 122 rfl rfl
theorem kw_383 : Cond.methodLink "HarvestStepsLaw" 79 ⟨"HarvestSteps", "about", "(II)I"⟩ ∈ hw_tbl := hw_in2 123 rfl rfl
theorem kw_384 : Cond.instanceMethod ⟨"HarvestSteps", "about", "(II)I"⟩ ∈ hw_tbl := hw_in2 124 rfl rfl
theorem kw_385 : Cond.selects "HarvestSteps" ⟨"HarvestSteps", "about", "(II)I"⟩ ⟨"HarvestSteps", "about", "(II)I"⟩ ∈ hw_tbl := hw_in2 125 rfl rfl
theorem kw_386 : Cond.code ⟨"HarvestSteps", "about", "(II)I"⟩ prog_1_method_13_code 4 (some .int) ∈ hw_tbl := hw_in2 126 rfl rfl
theorem kw_387 : Cond.methodLink "HarvestStepsLaw" 15 ⟨"HarvestStepsLaw", "cell", "([II)I"⟩ ∈ hw_tbl := hw_in2 127 rfl rfl
theorem kw_388 : Cond.static ⟨"HarvestStepsLaw", "cell", "([II)I"⟩ ∈ hw_tbl := hw_in2 128 rfl rfl
theorem kw_389 : Cond.code ⟨"HarvestStepsLaw", "cell", "([II)I"⟩ method_2_code 2 (some .int) ∈ hw_tbl := hw_in2 129 rfl rfl
theorem kw_390 : Cond.methodLink "HarvestStepsLaw" 59 ⟨"HarvestStepsLaw", "row", "(LHarvestSteps;III[J)I"⟩ ∈ hw_tbl := hw_in2 130 rfl rfl
theorem kw_391 : Cond.static ⟨"HarvestStepsLaw", "row", "(LHarvestSteps;III[J)I"⟩ ∈ hw_tbl := hw_in2 131 rfl rfl
theorem kw_393 : Cond.classLink "HarvestStepsLaw" 13 "java/util/NoSuchElementException" ∈ hw_tbl := hw_in2 133 rfl rfl
theorem kw_394 : Cond.methodLink "HarvestStepsLaw" 7 ⟨"HarvestSteps", "row", "(III)I"⟩ ∈ hw_tbl := hw_in2 134 rfl rfl
theorem kw_395 : Cond.instanceMethod ⟨"HarvestSteps", "row", "(III)I"⟩ ∈ hw_tbl := hw_in2 135 rfl rfl
theorem kw_396 : Cond.selects "HarvestSteps" ⟨"HarvestSteps", "row", "(III)I"⟩ ⟨"HarvestSteps", "row", "(III)I"⟩ ∈ hw_tbl := hw_in2 136 rfl rfl
theorem kw_397 : Cond.code ⟨"HarvestSteps", "row", "(III)I"⟩ prog_1_method_9_code 5 (some .int) ∈ hw_tbl := hw_in2 137 rfl rfl
theorem kw_398 : Cond.classLink "HarvestSteps" 149 "java/util/NoSuchElementException" ∈ hw_tbl := hw_in2 138 rfl rfl
theorem kw_399 : Cond.instantiable "java/util/NoSuchElementException" 6 ∈ hw_tbl := hw_in2 139 rfl rfl
theorem kw_407 : Cond.selects "java/util/NoSuchElementException" ⟨"java/lang/Throwable", "fillInStackTrace", "(I)Ljava/lang/Throwable;"⟩ ⟨"java/lang/Throwable", "fillInStackTrace", "(I)Ljava/lang/Throwable;"⟩ ∈ hw_tbl := hw_in2 147 rfl rfl
theorem kw_408 : Cond.selects "java/util/NoSuchElementException" ⟨"java/lang/Throwable", "fillInStackTrace", "()Ljava/lang/Throwable;"⟩ ⟨"java/lang/Throwable", "fillInStackTrace", "()Ljava/lang/Throwable;"⟩ ∈ hw_tbl := hw_in2 148 rfl rfl
theorem kw_409 : Cond.lays "java/util/NoSuchElementException" "java/lang/Throwable" "cause" "Ljava/lang/Throwable;" ∈ hw_tbl := hw_in2 149 rfl rfl
theorem kw_410 : Cond.lays "java/lang/Throwable" "java/lang/Throwable" "cause" "Ljava/lang/Throwable;" ∈ hw_tbl := hw_in2 150 rfl rfl
theorem kw_411 : Cond.lays "java/util/NoSuchElementException" "java/lang/Throwable" "stackTrace" "[Ljava/lang/StackTraceElement;" ∈ hw_tbl := hw_in2 151 rfl rfl
theorem kw_412 : Cond.lays "java/lang/Throwable" "java/lang/Throwable" "stackTrace" "[Ljava/lang/StackTraceElement;" ∈ hw_tbl := hw_in2 152 rfl rfl
theorem kw_413 : Cond.lays "java/util/NoSuchElementException" "java/lang/Throwable" "suppressedExceptions" "Ljava/util/List;" ∈ hw_tbl := hw_in2 153 rfl rfl
theorem kw_414 : Cond.lays "java/lang/Throwable" "java/lang/Throwable" "suppressedExceptions" "Ljava/util/List;" ∈ hw_tbl := hw_in2 154 rfl rfl
theorem kw_415 : Cond.lays "java/util/NoSuchElementException" "java/lang/Throwable" "detailMessage" "Ljava/lang/String;" ∈ hw_tbl := hw_in2 155 rfl rfl
theorem kw_416 : Cond.lays "java/lang/Throwable" "java/lang/Throwable" "detailMessage" "Ljava/lang/String;" ∈ hw_tbl := hw_in2 156 rfl rfl
theorem kw_417 : Cond.lays "java/util/NoSuchElementException" "java/lang/Throwable" "backtrace" "Ljava/lang/Object;" ∈ hw_tbl := hw_in2 157 rfl rfl
theorem kw_418 : Cond.lays "java/lang/Throwable" "java/lang/Throwable" "backtrace" "Ljava/lang/Object;" ∈ hw_tbl := hw_in2 158 rfl rfl
theorem kw_419 : Cond.fieldLink "java/lang/Throwable" 198 "java/lang/Throwable" "backtrace" "Ljava/lang/Object;" ∈ hw_tbl := hw_in2 159 rfl rfl
theorem kw_421 : Cond.instanceMethod ⟨"java/lang/Throwable", "<init>", "()V"⟩ ∈ hw_tbl := hw_in2 161 rfl rfl
theorem kw_422 : Cond.code ⟨"java/lang/Throwable", "<init>", "()V"⟩ prog_15_method_1_code 1 none ∈ hw_tbl := hw_in2 162 rfl rfl
theorem kw_423 : Cond.methodLink "java/lang/Throwable" 1 ⟨"java/lang/Object", "<init>", "()V"⟩ ∈ hw_tbl := hw_in2 163 rfl rfl
theorem kw_424 : Cond.fieldLink "java/lang/Throwable" 13 "java/lang/Throwable" "UNASSIGNED_STACK" "[Ljava/lang/StackTraceElement;" ∈ hw_tbl := hw_in2 164 rfl rfl
theorem kw_426 : Cond.fieldLink "java/lang/Throwable" 20 "java/lang/Throwable" "SUPPRESSED_SENTINEL" "Ljava/util/List;" ∈ hw_tbl := hw_in2 166 rfl rfl
theorem kw_428 : Cond.methodLink "java/lang/Throwable" 27 ⟨"java/lang/Throwable", "fillInStackTrace", "()Ljava/lang/Throwable;"⟩ ∈ hw_tbl := hw_in2 168 rfl rfl
theorem kw_429 : Cond.instanceMethod ⟨"java/lang/Throwable", "fillInStackTrace", "()Ljava/lang/Throwable;"⟩ ∈ hw_tbl := hw_in2 169 rfl rfl
theorem kw_432 : Cond.methodLink "java/lang/Throwable" 202 ⟨"java/lang/Throwable", "fillInStackTrace", "(I)Ljava/lang/Throwable;"⟩ ∈ hw_tbl := hw_in2 172 rfl rfl
theorem kw_434 : Cond.instanceMethod ⟨"java/lang/Throwable", "fillInStackTrace", "(I)Ljava/lang/Throwable;"⟩ ∈ hw_tbl := hw_in2 174 rfl rfl
theorem kw_435 : Cond.instantiable "java/lang/Throwable" 6 ∈ hw_tbl := hw_in2 175 rfl rfl
theorem kw_438 : Cond.methodLink "HarvestSteps" 153 ⟨"java/util/NoSuchElementException", "<init>", "(Ljava/lang/String;)V"⟩ ∈ hw_tbl := hw_in2 178 rfl rfl
theorem kw_439 : Cond.instanceMethod ⟨"java/util/NoSuchElementException", "<init>", "(Ljava/lang/String;)V"⟩ ∈ hw_tbl := hw_in2 179 rfl rfl
theorem kw_440 : Cond.code ⟨"java/util/NoSuchElementException", "<init>", "(Ljava/lang/String;)V"⟩ prog_22_method_4_code 2 none ∈ hw_tbl := hw_in2 180 rfl rfl
theorem kw_441 : Cond.methodLink "java/util/NoSuchElementException" 13 ⟨"java/lang/RuntimeException", "<init>", "(Ljava/lang/String;)V"⟩ ∈ hw_tbl := hw_in2 181 rfl rfl
theorem kw_442 : Cond.instanceMethod ⟨"java/lang/RuntimeException", "<init>", "(Ljava/lang/String;)V"⟩ ∈ hw_tbl := hw_in2 182 rfl rfl
theorem kw_443 : Cond.code ⟨"java/lang/RuntimeException", "<init>", "(Ljava/lang/String;)V"⟩ prog_12_method_2_code 2 none ∈ hw_tbl := hw_in2 183 rfl rfl
theorem kw_444 : Cond.methodLink "java/lang/RuntimeException" 7 ⟨"java/lang/Exception", "<init>", "(Ljava/lang/String;)V"⟩ ∈ hw_tbl := hw_in2 184 rfl rfl
theorem kw_445 : Cond.instanceMethod ⟨"java/lang/Exception", "<init>", "(Ljava/lang/String;)V"⟩ ∈ hw_tbl := hw_in2 185 rfl rfl
theorem kw_446 : Cond.code ⟨"java/lang/Exception", "<init>", "(Ljava/lang/String;)V"⟩ prog_9_method_2_code 2 none ∈ hw_tbl := hw_in2 186 rfl rfl
theorem kw_447 : Cond.methodLink "java/lang/Exception" 7 ⟨"java/lang/Throwable", "<init>", "(Ljava/lang/String;)V"⟩ ∈ hw_tbl := hw_in2 187 rfl rfl
theorem kw_448 : Cond.instanceMethod ⟨"java/lang/Throwable", "<init>", "(Ljava/lang/String;)V"⟩ ∈ hw_tbl := hw_in2 188 rfl rfl
theorem kw_449 : Cond.code ⟨"java/lang/Throwable", "<init>", "(Ljava/lang/String;)V"⟩ prog_15_method_2_code 2 none ∈ hw_tbl := hw_in2 189 rfl rfl
theorem kw_450 : Cond.fieldLink "java/lang/Throwable" 198 "java/lang/Throwable" "backtrace" "Ljava/lang/Object;" ∈ hw_tbl := hw_in2 190 rfl rfl
theorem kw_451 : Cond.fieldLink "java/lang/Throwable" 31 "java/lang/Throwable" "detailMessage" "Ljava/lang/String;" ∈ hw_tbl := hw_in2 191 rfl rfl
theorem kw_452 : Cond.fieldLink "java/lang/Throwable" 7 "java/lang/Throwable" "cause" "Ljava/lang/Throwable;" ∈ hw_tbl := hw_in2 192 rfl rfl
theorem kw_453 : Cond.fieldLink "java/lang/Throwable" 17 "java/lang/Throwable" "stackTrace" "[Ljava/lang/StackTraceElement;" ∈ hw_tbl := hw_in2 193 rfl rfl
theorem kw_454 : Cond.fieldLink "java/lang/Throwable" 24 "java/lang/Throwable" "suppressedExceptions" "Ljava/util/List;" ∈ hw_tbl := hw_in2 194 rfl rfl
theorem kw_459 : Cond.lays "java/util/NoSuchElementException" "java/lang/Throwable" "depth" "I" ∈ hw_tbl := hw_in2 199 rfl rfl
theorem kw_463 : Cond.arrayClass .byte ∈ hw_tbl := hw_in2 203 rfl rfl
theorem kw_467 : Cond.classLink "HarvestStepsLaw" 24 "HarvestStepsModel" ∈ hw_tbl := hw_in2 207 rfl rfl
theorem kw_468 : Cond.instantiable "HarvestStepsModel" 34 ∈ hw_tbl := hw_in2 208 rfl rfl
theorem kw_469 : Cond.methodLink "HarvestStepsLaw" 26 ⟨"HarvestStepsModel", "<init>", "(III)V"⟩ ∈ hw_tbl := hw_in2 209 rfl rfl
theorem kw_470 : Cond.instanceMethod ⟨"HarvestStepsModel", "<init>", "(III)V"⟩ ∈ hw_tbl := hw_in2 210 rfl rfl
theorem kw_471 : Cond.code ⟨"HarvestStepsModel", "<init>", "(III)V"⟩ prog_6_method_1_code 5 none ∈ hw_tbl := hw_in2 211 rfl rfl
theorem kw_472 : Cond.methodLink "HarvestStepsModel" 1 ⟨"java/lang/Object", "<init>", "()V"⟩ ∈ hw_tbl := hw_in2 212 rfl rfl
theorem kw_473 : Cond.constant "HarvestStepsModel" 87 1000000 ∈ hw_tbl := hw_in2 213 rfl rfl
theorem kw_474 : Cond.fieldLink "HarvestStepsModel" 91 "HarvestStepsModel" "thrown" "I" ∈ hw_tbl := hw_in2 214 rfl rfl
theorem kw_475 : Cond.fieldLink "HarvestStepsModel" 80 "HarvestStepsModel" "size" "I" ∈ hw_tbl := hw_in2 215 rfl rfl
theorem kw_476 : Cond.fieldLink "HarvestStepsModel" 84 "HarvestStepsModel" "grain" "I" ∈ hw_tbl := hw_in2 216 rfl rfl
theorem kw_477 : Cond.fieldLink "HarvestStepsModel" 88 "HarvestStepsModel" "life" "I" ∈ hw_tbl := hw_in2 217 rfl rfl
theorem kw_478 : Cond.fieldLink "HarvestStepsModel" 101 "HarvestStepsModel" "acts" "I" ∈ hw_tbl := hw_in2 218 rfl rfl
theorem kw_479 : Cond.fieldLink "HarvestStepsModel" 98 "HarvestStepsModel" "records" "I" ∈ hw_tbl := hw_in2 219 rfl rfl
theorem kw_480 : Cond.fieldLink "HarvestStepsModel" 7 "HarvestStepsModel" "set" "[I" ∈ hw_tbl := hw_in2 220 rfl rfl
theorem kw_481 : Cond.fieldLink "HarvestStepsModel" 13 "HarvestStepsModel" "day" "[I" ∈ hw_tbl := hw_in2 221 rfl rfl
theorem kw_482 : Cond.fieldLink "HarvestStepsModel" 16 "HarvestStepsModel" "gone" "[Z" ∈ hw_tbl := hw_in2 222 rfl rfl
theorem kw_483 : Cond.fieldLink "HarvestStepsModel" 20 "HarvestStepsModel" "latest" "[I" ∈ hw_tbl := hw_in2 223 rfl rfl
theorem kw_484 : Cond.fieldLink "HarvestStepsModel" 23 "HarvestStepsModel" "held" "[Z" ∈ hw_tbl := hw_in2 224 rfl rfl
theorem kw_485 : Cond.fieldLink "HarvestStepsModel" 115 "HarvestStepsModel" "lists" "I" ∈ hw_tbl := hw_in2 225 rfl rfl
theorem kw_486 : Cond.fieldLink "HarvestStepsModel" 26 "HarvestStepsModel" "many" "[I" ∈ hw_tbl := hw_in2 226 rfl rfl
theorem kw_487 : Cond.fieldLink "HarvestStepsModel" 29 "HarvestStepsModel" "since" "[I" ∈ hw_tbl := hw_in2 227 rfl rfl
theorem kw_488 : Cond.fieldLink "HarvestStepsModel" 32 "HarvestStepsModel" "format" "[I" ∈ hw_tbl := hw_in2 228 rfl rfl
theorem kw_489 : Cond.fieldLink "HarvestStepsModel" 35 "HarvestStepsModel" "ofList" "[I" ∈ hw_tbl := hw_in2 229 rfl rfl
theorem kw_490 : Cond.fieldLink "HarvestStepsModel" 38 "HarvestStepsModel" "listed" "[I" ∈ hw_tbl := hw_in2 230 rfl rfl
theorem kw_491 : Cond.fieldLink "HarvestStepsModel" 118 "HarvestStepsModel" "pages" "I" ∈ hw_tbl := hw_in2 231 rfl rfl
theorem kw_492 : Cond.fieldLink "HarvestStepsModel" 41 "HarvestStepsModel" "pageList" "[I" ∈ hw_tbl := hw_in2 232 rfl rfl
theorem kw_493 : Cond.fieldLink "HarvestStepsModel" 44 "HarvestStepsModel" "pageFrom" "[I" ∈ hw_tbl := hw_in2 233 rfl rfl
theorem kw_494 : Cond.fieldLink "HarvestStepsModel" 47 "HarvestStepsModel" "pageRows" "[I" ∈ hw_tbl := hw_in2 234 rfl rfl
theorem kw_495 : Cond.fieldLink "HarvestStepsModel" 50 "HarvestStepsModel" "pageAt" "[I" ∈ hw_tbl := hw_in2 235 rfl rfl
theorem kw_496 : Cond.fieldLink "HarvestStepsModel" 53 "HarvestStepsModel" "pageToken" "[I" ∈ hw_tbl := hw_in2 236 rfl rfl
theorem kw_497 : Cond.fieldLink "HarvestStepsModel" 121 "HarvestStepsModel" "rows" "I" ∈ hw_tbl := hw_in2 237 rfl rfl
theorem kw_498 : Cond.fieldLink "HarvestStepsModel" 56 "HarvestStepsModel" "rowRecord" "[I" ∈ hw_tbl := hw_in2 238 rfl rfl
theorem kw_499 : Cond.fieldLink "HarvestStepsModel" 59 "HarvestStepsModel" "rowDay" "[I" ∈ hw_tbl := hw_in2 239 rfl rfl
theorem kw_500 : Cond.fieldLink "HarvestStepsModel" 62 "HarvestStepsModel" "rowGone" "[Z" ∈ hw_tbl := hw_in3 0 rfl rfl
theorem kw_501 : Cond.fieldLink "HarvestStepsModel" 127 "HarvestStepsModel" "tokens" "I" ∈ hw_tbl := hw_in3 1 rfl rfl
theorem kw_502 : Cond.fieldLink "HarvestStepsModel" 65 "HarvestStepsModel" "tokenPage" "[I" ∈ hw_tbl := hw_in3 2 rfl rfl
theorem kw_503 : Cond.fieldLink "HarvestStepsModel" 68 "HarvestStepsModel" "made" "[I" ∈ hw_tbl := hw_in3 3 rfl rfl
theorem kw_504 : Cond.fieldLink "HarvestStepsModel" 71 "HarvestStepsModel" "leads" "[I" ∈ hw_tbl := hw_in3 4 rfl rfl
theorem kw_505 : Cond.fieldLink "HarvestStepsModel" 74 "HarvestStepsModel" "answered" "[I" ∈ hw_tbl := hw_in3 5 rfl rfl
theorem kw_506 : Cond.fieldLink "HarvestStepsModel" 77 "HarvestStepsModel" "counts" "[I" ∈ hw_tbl := hw_in3 6 rfl rfl
theorem kw_507 : Cond.fieldLink "HarvestStepsModel" 124 "HarvestStepsModel" "passed" "I" ∈ hw_tbl := hw_in3 7 rfl rfl
theorem kw_508 : Cond.lays "HarvestStepsModel" "HarvestStepsModel" "thrown" "I" ∈ hw_tbl := hw_in3 8 rfl rfl
theorem kw_510 : Cond.laysFinal "HarvestStepsModel" "HarvestStepsModel" "size" "I" ∈ hw_tbl := hw_in3 10 rfl rfl
theorem kw_512 : Cond.laysFinal "HarvestStepsModel" "HarvestStepsModel" "grain" "I" ∈ hw_tbl := hw_in3 12 rfl rfl
theorem kw_514 : Cond.laysFinal "HarvestStepsModel" "HarvestStepsModel" "life" "I" ∈ hw_tbl := hw_in3 14 rfl rfl
theorem kw_516 : Cond.lays "HarvestStepsModel" "HarvestStepsModel" "acts" "I" ∈ hw_tbl := hw_in3 16 rfl rfl
theorem kw_518 : Cond.lays "HarvestStepsModel" "HarvestStepsModel" "records" "I" ∈ hw_tbl := hw_in3 18 rfl rfl
theorem kw_520 : Cond.laysFinal "HarvestStepsModel" "HarvestStepsModel" "set" "[I" ∈ hw_tbl := hw_in3 20 rfl rfl
theorem kw_522 : Cond.laysFinal "HarvestStepsModel" "HarvestStepsModel" "day" "[I" ∈ hw_tbl := hw_in3 22 rfl rfl
theorem kw_524 : Cond.laysFinal "HarvestStepsModel" "HarvestStepsModel" "gone" "[Z" ∈ hw_tbl := hw_in3 24 rfl rfl
theorem kw_526 : Cond.laysFinal "HarvestStepsModel" "HarvestStepsModel" "latest" "[I" ∈ hw_tbl := hw_in3 26 rfl rfl
theorem kw_528 : Cond.laysFinal "HarvestStepsModel" "HarvestStepsModel" "held" "[Z" ∈ hw_tbl := hw_in3 28 rfl rfl
theorem kw_530 : Cond.lays "HarvestStepsModel" "HarvestStepsModel" "lists" "I" ∈ hw_tbl := hw_in3 30 rfl rfl
theorem kw_532 : Cond.laysFinal "HarvestStepsModel" "HarvestStepsModel" "many" "[I" ∈ hw_tbl := hw_in3 32 rfl rfl
theorem kw_534 : Cond.laysFinal "HarvestStepsModel" "HarvestStepsModel" "since" "[I" ∈ hw_tbl := hw_in3 34 rfl rfl
theorem kw_536 : Cond.laysFinal "HarvestStepsModel" "HarvestStepsModel" "format" "[I" ∈ hw_tbl := hw_in3 36 rfl rfl
theorem kw_538 : Cond.laysFinal "HarvestStepsModel" "HarvestStepsModel" "ofList" "[I" ∈ hw_tbl := hw_in3 38 rfl rfl
theorem kw_540 : Cond.laysFinal "HarvestStepsModel" "HarvestStepsModel" "listed" "[I" ∈ hw_tbl := hw_in3 40 rfl rfl
theorem kw_542 : Cond.lays "HarvestStepsModel" "HarvestStepsModel" "pages" "I" ∈ hw_tbl := hw_in3 42 rfl rfl
theorem kw_544 : Cond.laysFinal "HarvestStepsModel" "HarvestStepsModel" "pageList" "[I" ∈ hw_tbl := hw_in3 44 rfl rfl
theorem kw_546 : Cond.laysFinal "HarvestStepsModel" "HarvestStepsModel" "pageFrom" "[I" ∈ hw_tbl := hw_in3 46 rfl rfl
theorem kw_548 : Cond.laysFinal "HarvestStepsModel" "HarvestStepsModel" "pageRows" "[I" ∈ hw_tbl := hw_in3 48 rfl rfl
theorem kw_550 : Cond.laysFinal "HarvestStepsModel" "HarvestStepsModel" "pageAt" "[I" ∈ hw_tbl := hw_in3 50 rfl rfl
theorem kw_552 : Cond.laysFinal "HarvestStepsModel" "HarvestStepsModel" "pageToken" "[I" ∈ hw_tbl := hw_in3 52 rfl rfl
theorem kw_554 : Cond.lays "HarvestStepsModel" "HarvestStepsModel" "rows" "I" ∈ hw_tbl := hw_in3 54 rfl rfl
theorem kw_556 : Cond.laysFinal "HarvestStepsModel" "HarvestStepsModel" "rowRecord" "[I" ∈ hw_tbl := hw_in3 56 rfl rfl
theorem kw_558 : Cond.laysFinal "HarvestStepsModel" "HarvestStepsModel" "rowDay" "[I" ∈ hw_tbl := hw_in3 58 rfl rfl
theorem kw_560 : Cond.laysFinal "HarvestStepsModel" "HarvestStepsModel" "rowGone" "[Z" ∈ hw_tbl := hw_in3 60 rfl rfl
theorem kw_562 : Cond.lays "HarvestStepsModel" "HarvestStepsModel" "tokens" "I" ∈ hw_tbl := hw_in3 62 rfl rfl
theorem kw_564 : Cond.laysFinal "HarvestStepsModel" "HarvestStepsModel" "tokenPage" "[I" ∈ hw_tbl := hw_in3 64 rfl rfl
theorem kw_566 : Cond.laysFinal "HarvestStepsModel" "HarvestStepsModel" "made" "[I" ∈ hw_tbl := hw_in3 66 rfl rfl
theorem kw_568 : Cond.laysFinal "HarvestStepsModel" "HarvestStepsModel" "leads" "[I" ∈ hw_tbl := hw_in3 68 rfl rfl
theorem kw_570 : Cond.laysFinal "HarvestStepsModel" "HarvestStepsModel" "answered" "[I" ∈ hw_tbl := hw_in3 70 rfl rfl
theorem kw_572 : Cond.laysFinal "HarvestStepsModel" "HarvestStepsModel" "counts" "[I" ∈ hw_tbl := hw_in3 72 rfl rfl
theorem kw_574 : Cond.lays "HarvestStepsModel" "HarvestStepsModel" "passed" "I" ∈ hw_tbl := hw_in3 74 rfl rfl
theorem kw_577 : Cond.methodLink "HarvestStepsLaw" 63 ⟨"HarvestStepsModel", "thrown", "()I"⟩ ∈ hw_tbl := hw_in3 77 rfl rfl
theorem kw_578 : Cond.instanceMethod ⟨"HarvestStepsModel", "thrown", "()I"⟩ ∈ hw_tbl := hw_in3 78 rfl rfl
theorem kw_579 : Cond.selects "HarvestStepsModel" ⟨"HarvestStepsModel", "thrown", "()I"⟩ ⟨"HarvestStepsModel", "thrown", "()I"⟩ ∈ hw_tbl := hw_in3 79 rfl rfl
theorem kw_580 : Cond.code ⟨"HarvestStepsModel", "thrown", "()I"⟩ prog_6_method_2_code 1 (some .int) ∈ hw_tbl := hw_in3 80 rfl rfl
theorem kw_581 : Cond.methodLink "HarvestStepsLaw" 31 ⟨"HarvestStepsModel", "record", "(II)I"⟩ ∈ hw_tbl := hw_in3 81 rfl rfl
theorem kw_582 : Cond.instanceMethod ⟨"HarvestStepsModel", "record", "(II)I"⟩ ∈ hw_tbl := hw_in3 82 rfl rfl
theorem kw_583 : Cond.selects "HarvestStepsModel" ⟨"HarvestStepsModel", "record", "(II)I"⟩ ⟨"HarvestStepsModel", "record", "(II)I"⟩ ∈ hw_tbl := hw_in3 83 rfl rfl
theorem kw_584 : Cond.code ⟨"HarvestStepsModel", "record", "(II)I"⟩ prog_6_method_7_code 3 (some .int) ∈ hw_tbl := hw_in3 84 rfl rfl
theorem kw_585 : Cond.methodLink "HarvestStepsModel" 94 ⟨"HarvestStepsModel", "in", "(III)Z"⟩ ∈ hw_tbl := hw_in3 85 rfl rfl
theorem kw_586 : Cond.static ⟨"HarvestStepsModel", "in", "(III)Z"⟩ ∈ hw_tbl := hw_in3 86 rfl rfl
theorem kw_587 : Cond.code ⟨"HarvestStepsModel", "in", "(III)Z"⟩ prog_6_method_3_code 3 (some .boolean) ∈ hw_tbl := hw_in3 87 rfl rfl
theorem kw_588 : Cond.methodLink "HarvestStepsModel" 104 ⟨"HarvestStepsModel", "isDay", "(I)Z"⟩ ∈ hw_tbl := hw_in3 88 rfl rfl
theorem kw_590 : Cond.instanceMethod ⟨"HarvestStepsModel", "isDay", "(I)Z"⟩ ∈ hw_tbl := hw_in3 90 rfl rfl
theorem kw_591 : Cond.code ⟨"HarvestStepsModel", "isDay", "(I)Z"⟩ prog_6_method_4_code 2 (some .boolean) ∈ hw_tbl := hw_in3 91 rfl rfl
theorem kw_592 : Cond.methodLink "HarvestStepsModel" 108 ⟨"HarvestStepsModel", "act", "(IIZ)V"⟩ ∈ hw_tbl := hw_in3 92 rfl rfl
theorem kw_594 : Cond.instanceMethod ⟨"HarvestStepsModel", "act", "(IIZ)V"⟩ ∈ hw_tbl := hw_in3 94 rfl rfl
theorem kw_595 : Cond.code ⟨"HarvestStepsModel", "act", "(IIZ)V"⟩ prog_6_method_6_code 4 none ∈ hw_tbl := hw_in3 95 rfl rfl
theorem kw_596 : Cond.methodLink "HarvestStepsLaw" 35 ⟨"HarvestStepsModel", "change", "(II)I"⟩ ∈ hw_tbl := hw_in3 96 rfl rfl
theorem kw_597 : Cond.instanceMethod ⟨"HarvestStepsModel", "change", "(II)I"⟩ ∈ hw_tbl := hw_in3 97 rfl rfl
theorem kw_598 : Cond.selects "HarvestStepsModel" ⟨"HarvestStepsModel", "change", "(II)I"⟩ ⟨"HarvestStepsModel", "change", "(II)I"⟩ ∈ hw_tbl := hw_in3 98 rfl rfl
theorem kw_599 : Cond.code ⟨"HarvestStepsModel", "change", "(II)I"⟩ prog_6_method_8_code 3 (some .int) ∈ hw_tbl := hw_in3 99 rfl rfl
theorem kw_600 : Cond.methodLink "HarvestStepsModel" 112 ⟨"HarvestStepsModel", "isRecord", "(I)Z"⟩ ∈ hw_tbl := hw_in3 100 rfl rfl
theorem kw_602 : Cond.instanceMethod ⟨"HarvestStepsModel", "isRecord", "(I)Z"⟩ ∈ hw_tbl := hw_in3 102 rfl rfl
theorem kw_603 : Cond.code ⟨"HarvestStepsModel", "isRecord", "(I)Z"⟩ prog_6_method_5_code 2 (some .boolean) ∈ hw_tbl := hw_in3 103 rfl rfl
theorem kw_604 : Cond.methodLink "HarvestStepsLaw" 39 ⟨"HarvestStepsModel", "delete", "(II)I"⟩ ∈ hw_tbl := hw_in3 104 rfl rfl
theorem kw_605 : Cond.instanceMethod ⟨"HarvestStepsModel", "delete", "(II)I"⟩ ∈ hw_tbl := hw_in3 105 rfl rfl
theorem kw_606 : Cond.selects "HarvestStepsModel" ⟨"HarvestStepsModel", "delete", "(II)I"⟩ ⟨"HarvestStepsModel", "delete", "(II)I"⟩ ∈ hw_tbl := hw_in3 106 rfl rfl
theorem kw_607 : Cond.code ⟨"HarvestStepsModel", "delete", "(II)I"⟩ prog_6_method_9_code 3 (some .int) ∈ hw_tbl := hw_in3 107 rfl rfl
theorem kw_608 : Cond.methodLink "HarvestStepsLaw" 44 ⟨"HarvestStepsModel", "form", "(IZ)I"⟩ ∈ hw_tbl := hw_in3 108 rfl rfl
theorem kw_609 : Cond.instanceMethod ⟨"HarvestStepsModel", "form", "(IZ)I"⟩ ∈ hw_tbl := hw_in3 109 rfl rfl
theorem kw_610 : Cond.selects "HarvestStepsModel" ⟨"HarvestStepsModel", "form", "(IZ)I"⟩ ⟨"HarvestStepsModel", "form", "(IZ)I"⟩ ∈ hw_tbl := hw_in3 110 rfl rfl
theorem kw_611 : Cond.code ⟨"HarvestStepsModel", "form", "(IZ)I"⟩ prog_6_method_10_code 3 (some .int) ∈ hw_tbl := hw_in3 111 rfl rfl
theorem kw_612 : Cond.methodLink "HarvestStepsLaw" 49 ⟨"HarvestStepsModel", "list", "(IIIIII)I"⟩ ∈ hw_tbl := hw_in3 112 rfl rfl
theorem kw_613 : Cond.instanceMethod ⟨"HarvestStepsModel", "list", "(IIIIII)I"⟩ ∈ hw_tbl := hw_in3 113 rfl rfl
theorem kw_614 : Cond.selects "HarvestStepsModel" ⟨"HarvestStepsModel", "list", "(IIIIII)I"⟩ ⟨"HarvestStepsModel", "list", "(IIIIII)I"⟩ ∈ hw_tbl := hw_in3 114 rfl rfl
theorem kw_615 : Cond.code ⟨"HarvestStepsModel", "list", "(IIIIII)I"⟩ prog_6_method_15_code 9 (some .int) ∈ hw_tbl := hw_in3 115 rfl rfl
theorem kw_616 : Cond.constant "HarvestStepsModel" 130 1000000000 ∈ hw_tbl := hw_in3 116 rfl rfl
theorem kw_617 : Cond.methodLink "HarvestStepsModel" 131 ⟨"HarvestStepsModel", "isHeld", "(I)Z"⟩ ∈ hw_tbl := hw_in3 117 rfl rfl
theorem kw_619 : Cond.instanceMethod ⟨"HarvestStepsModel", "isHeld", "(I)Z"⟩ ∈ hw_tbl := hw_in3 119 rfl rfl
theorem kw_620 : Cond.code ⟨"HarvestStepsModel", "isHeld", "(I)Z"⟩ prog_6_method_11_code 2 (some .boolean) ∈ hw_tbl := hw_in3 120 rfl rfl
theorem kw_621 : Cond.methodLink "HarvestStepsModel" 134 ⟨"HarvestStepsModel", "gather", "(III)I"⟩ ∈ hw_tbl := hw_in3 121 rfl rfl
theorem kw_623 : Cond.instanceMethod ⟨"HarvestStepsModel", "gather", "(III)I"⟩ ∈ hw_tbl := hw_in3 123 rfl rfl
theorem kw_624 : Cond.code ⟨"HarvestStepsModel", "gather", "(III)I"⟩ prog_6_method_12_code 8 (some .int) ∈ hw_tbl := hw_in3 124 rfl rfl
theorem kw_625 : Cond.methodLink "HarvestStepsModel" 138 ⟨"HarvestStepsModel", "makePage", "(III)I"⟩ ∈ hw_tbl := hw_in3 125 rfl rfl
theorem kw_627 : Cond.instanceMethod ⟨"HarvestStepsModel", "makePage", "(III)I"⟩ ∈ hw_tbl := hw_in3 127 rfl rfl
theorem kw_628 : Cond.code ⟨"HarvestStepsModel", "makePage", "(III)I"⟩ prog_6_method_13_code 8 (some .int) ∈ hw_tbl := hw_in3 128 rfl rfl
theorem kw_629 : Cond.methodLink "HarvestStepsModel" 141 ⟨"HarvestStepsModel", "answer", "(II)I"⟩ ∈ hw_tbl := hw_in3 129 rfl rfl
theorem kw_631 : Cond.instanceMethod ⟨"HarvestStepsModel", "answer", "(II)I"⟩ ∈ hw_tbl := hw_in3 131 rfl rfl
theorem kw_632 : Cond.code ⟨"HarvestStepsModel", "answer", "(II)I"⟩ prog_6_method_14_code 3 (some .int) ∈ hw_tbl := hw_in3 132 rfl rfl
theorem kw_633 : Cond.methodLink "HarvestStepsLaw" 53 ⟨"HarvestStepsModel", "resume", "(III)I"⟩ ∈ hw_tbl := hw_in3 133 rfl rfl
theorem kw_634 : Cond.instanceMethod ⟨"HarvestStepsModel", "resume", "(III)I"⟩ ∈ hw_tbl := hw_in3 134 rfl rfl
theorem kw_635 : Cond.selects "HarvestStepsModel" ⟨"HarvestStepsModel", "resume", "(III)I"⟩ ⟨"HarvestStepsModel", "resume", "(III)I"⟩ ∈ hw_tbl := hw_in3 135 rfl rfl
theorem kw_636 : Cond.code ⟨"HarvestStepsModel", "resume", "(III)I"⟩ prog_6_method_16_code 5 (some .int) ∈ hw_tbl := hw_in3 136 rfl rfl
theorem kw_637 : Cond.methodLink "HarvestStepsLaw" 58 ⟨"HarvestStepsModel", "token", "(I)I"⟩ ∈ hw_tbl := hw_in3 137 rfl rfl
theorem kw_638 : Cond.instanceMethod ⟨"HarvestStepsModel", "token", "(I)I"⟩ ∈ hw_tbl := hw_in3 138 rfl rfl
theorem kw_639 : Cond.selects "HarvestStepsModel" ⟨"HarvestStepsModel", "token", "(I)I"⟩ ⟨"HarvestStepsModel", "token", "(I)I"⟩ ∈ hw_tbl := hw_in3 139 rfl rfl
theorem kw_640 : Cond.code ⟨"HarvestStepsModel", "token", "(I)I"⟩ prog_6_method_17_code 2 (some .int) ∈ hw_tbl := hw_in3 140 rfl rfl
theorem kw_641 : Cond.methodLink "HarvestStepsLaw" 62 ⟨"HarvestStepsModel", "row", "(III)I"⟩ ∈ hw_tbl := hw_in3 141 rfl rfl
theorem kw_642 : Cond.instanceMethod ⟨"HarvestStepsModel", "row", "(III)I"⟩ ∈ hw_tbl := hw_in3 142 rfl rfl
theorem kw_643 : Cond.selects "HarvestStepsModel" ⟨"HarvestStepsModel", "row", "(III)I"⟩ ⟨"HarvestStepsModel", "row", "(III)I"⟩ ∈ hw_tbl := hw_in3 143 rfl rfl
theorem kw_644 : Cond.code ⟨"HarvestStepsModel", "row", "(III)I"⟩ prog_6_method_18_code 7 (some .int) ∈ hw_tbl := hw_in3 144 rfl rfl
theorem kw_645 : Cond.methodLink "HarvestStepsLaw" 70 ⟨"HarvestStepsModel", "get", "(II)I"⟩ ∈ hw_tbl := hw_in3 145 rfl rfl
theorem kw_646 : Cond.instanceMethod ⟨"HarvestStepsModel", "get", "(II)I"⟩ ∈ hw_tbl := hw_in3 146 rfl rfl
theorem kw_647 : Cond.selects "HarvestStepsModel" ⟨"HarvestStepsModel", "get", "(II)I"⟩ ⟨"HarvestStepsModel", "get", "(II)I"⟩ ∈ hw_tbl := hw_in3 147 rfl rfl
theorem kw_648 : Cond.code ⟨"HarvestStepsModel", "get", "(II)I"⟩ prog_6_method_19_code 3 (some .int) ∈ hw_tbl := hw_in3 148 rfl rfl
theorem kw_649 : Cond.methodLink "HarvestStepsLaw" 74 ⟨"HarvestStepsModel", "counted", "(I)I"⟩ ∈ hw_tbl := hw_in3 149 rfl rfl
theorem kw_650 : Cond.instanceMethod ⟨"HarvestStepsModel", "counted", "(I)I"⟩ ∈ hw_tbl := hw_in3 150 rfl rfl
theorem kw_651 : Cond.selects "HarvestStepsModel" ⟨"HarvestStepsModel", "counted", "(I)I"⟩ ⟨"HarvestStepsModel", "counted", "(I)I"⟩ ∈ hw_tbl := hw_in3 151 rfl rfl
theorem kw_652 : Cond.code ⟨"HarvestStepsModel", "counted", "(I)I"⟩ prog_6_method_20_code 2 (some .int) ∈ hw_tbl := hw_in3 152 rfl rfl
theorem kw_653 : Cond.methodLink "HarvestStepsLaw" 78 ⟨"HarvestStepsModel", "passed", "()I"⟩ ∈ hw_tbl := hw_in3 153 rfl rfl
theorem kw_654 : Cond.instanceMethod ⟨"HarvestStepsModel", "passed", "()I"⟩ ∈ hw_tbl := hw_in3 154 rfl rfl
theorem kw_655 : Cond.selects "HarvestStepsModel" ⟨"HarvestStepsModel", "passed", "()I"⟩ ⟨"HarvestStepsModel", "passed", "()I"⟩ ∈ hw_tbl := hw_in3 155 rfl rfl
theorem kw_656 : Cond.code ⟨"HarvestStepsModel", "passed", "()I"⟩ prog_6_method_21_code 1 (some .int) ∈ hw_tbl := hw_in3 156 rfl rfl
theorem kw_657 : Cond.methodLink "HarvestStepsLaw" 82 ⟨"HarvestStepsModel", "about", "(II)I"⟩ ∈ hw_tbl := hw_in3 157 rfl rfl
theorem kw_658 : Cond.instanceMethod ⟨"HarvestStepsModel", "about", "(II)I"⟩ ∈ hw_tbl := hw_in3 158 rfl rfl
theorem kw_659 : Cond.selects "HarvestStepsModel" ⟨"HarvestStepsModel", "about", "(II)I"⟩ ⟨"HarvestStepsModel", "about", "(II)I"⟩ ∈ hw_tbl := hw_in3 159 rfl rfl
theorem kw_660 : Cond.code ⟨"HarvestStepsModel", "about", "(II)I"⟩ prog_6_method_22_code 5 (some .int) ∈ hw_tbl := hw_in3 160 rfl rfl
theorem kw_661 : Cond.arrayClass .long ∈ hw_tbl := hw_in3 161 rfl rfl
theorem kw_665 : Cond.selects "[Ljava/lang/Object;" ⟨"java/lang/Object", "getClass", "()Ljava/lang/Class;"⟩ ⟨"java/lang/Object", "getClass", "()Ljava/lang/Class;"⟩ ∈ hw_tbl := hw_in3 165 rfl rfl
end
section
theorem d_X_init_0 : decode b_X_init 0 = .ok (.aload_n 0, 1) := by decide +kernel
theorem d_X_init_1 : decode b_X_init 1 = .ok (.invokespecial 1, 3) := by decide +kernel
theorem d_X_init_4 : decode b_X_init 4 = .ok (.aload_n 0, 1) := by decide +kernel
theorem d_X_init_5 : decode b_X_init 5 = .ok (.bipush 6, 2) := by decide +kernel
theorem d_X_init_7 : decode b_X_init 7 = .ok (.newarray .boolean, 2) := by decide +kernel
theorem d_X_init_9 : decode b_X_init 9 = .ok (.putfield 9, 3) := by decide +kernel
theorem d_X_init_12 : decode b_X_init 12 = .ok (.aload_n 0, 1) := by decide +kernel
theorem d_X_init_13 : decode b_X_init 13 = .ok (.sipush 150, 3) := by decide +kernel
theorem d_X_init_16 : decode b_X_init 16 = .ok (.newarray .int, 2) := by decide +kernel
theorem d_X_init_18 : decode b_X_init 18 = .ok (.putfield 13, 3) := by decide +kernel
theorem d_X_init_21 : decode b_X_init 21 = .ok (.aload_n 0, 1) := by decide +kernel
theorem d_X_init_22 : decode b_X_init 22 = .ok (.sipush 150, 3) := by decide +kernel
theorem d_X_init_25 : decode b_X_init 25 = .ok (.newarray .int, 2) := by decide +kernel
theorem d_X_init_27 : decode b_X_init 27 = .ok (.putfield 17, 3) := by decide +kernel
theorem d_X_init_30 : decode b_X_init 30 = .ok (.aload_n 0, 1) := by decide +kernel
theorem d_X_init_31 : decode b_X_init 31 = .ok (.sipush 150, 3) := by decide +kernel
theorem d_X_init_34 : decode b_X_init 34 = .ok (.newarray .boolean, 2) := by decide +kernel
theorem d_X_init_36 : decode b_X_init 36 = .ok (.putfield 20, 3) := by decide +kernel
theorem d_X_init_39 : decode b_X_init 39 = .ok (.aload_n 0, 1) := by decide +kernel
theorem d_X_init_40 : decode b_X_init 40 = .ok (.sipush 150, 3) := by decide +kernel
theorem d_X_init_43 : decode b_X_init 43 = .ok (.newarray .int, 2) := by decide +kernel
theorem d_X_init_45 : decode b_X_init 45 = .ok (.putfield 23, 3) := by decide +kernel
theorem d_X_init_48 : decode b_X_init 48 = .ok (.aload_n 0, 1) := by decide +kernel
theorem d_X_init_49 : decode b_X_init 49 = .ok (.iconst 0, 1) := by decide +kernel
theorem d_X_init_50 : decode b_X_init 50 = .ok (.putfield 26, 3) := by decide +kernel
theorem d_X_init_53 : decode b_X_init 53 = .ok (.aload_n 0, 1) := by decide +kernel
theorem d_X_init_54 : decode b_X_init 54 = .ok (.iconst 0, 1) := by decide +kernel
theorem d_X_init_55 : decode b_X_init 55 = .ok (.putfield 30, 3) := by decide +kernel
theorem d_X_init_58 : decode b_X_init 58 = .ok (.aload_n 0, 1) := by decide +kernel
theorem d_X_init_59 : decode b_X_init 59 = .ok (.sipush 150, 3) := by decide +kernel
theorem d_X_init_62 : decode b_X_init 62 = .ok (.newarray .int, 2) := by decide +kernel
theorem d_X_init_64 : decode b_X_init 64 = .ok (.putfield 33, 3) := by decide +kernel
theorem d_X_init_67 : decode b_X_init 67 = .ok (.aload_n 0, 1) := by decide +kernel
theorem d_X_init_68 : decode b_X_init 68 = .ok (.iconst 0, 1) := by decide +kernel
theorem d_X_init_69 : decode b_X_init 69 = .ok (.putfield 36, 3) := by decide +kernel
theorem d_X_init_72 : decode b_X_init 72 = .ok (.aload_n 0, 1) := by decide +kernel
theorem d_X_init_73 : decode b_X_init 73 = .ok (.new 39, 3) := by decide +kernel
theorem d_X_init_76 : decode b_X_init 76 = .ok (.dup, 1) := by decide +kernel
theorem d_X_init_77 : decode b_X_init 77 = .ok (.invokespecial 41, 3) := by decide +kernel
theorem d_X_init_80 : decode b_X_init 80 = .ok (.putfield 42, 3) := by decide +kernel
theorem d_X_init_83 : decode b_X_init 83 = .ok (.aload_n 0, 1) := by decide +kernel
theorem d_X_init_84 : decode b_X_init 84 = .ok (.bipush 10, 2) := by decide +kernel
theorem d_X_init_86 : decode b_X_init 86 = .ok (.anewarray 46, 3) := by decide +kernel
theorem d_X_init_89 : decode b_X_init 89 = .ok (.putfield 48, 3) := by decide +kernel
theorem d_X_init_92 : decode b_X_init 92 = .ok (.aload_n 0, 1) := by decide +kernel
theorem d_X_init_93 : decode b_X_init 93 = .ok (.bipush 10, 2) := by decide +kernel
theorem d_X_init_95 : decode b_X_init 95 = .ok (.newarray .int, 2) := by decide +kernel
theorem d_X_init_97 : decode b_X_init 97 = .ok (.putfield 52, 3) := by decide +kernel
theorem d_X_init_100 : decode b_X_init 100 = .ok (.aload_n 0, 1) := by decide +kernel
theorem d_X_init_101 : decode b_X_init 101 = .ok (.iconst 0, 1) := by decide +kernel
theorem d_X_init_102 : decode b_X_init 102 = .ok (.putfield 55, 3) := by decide +kernel
theorem d_X_init_105 : decode b_X_init 105 = .ok (.aload_n 0, 1) := by decide +kernel
theorem d_X_init_106 : decode b_X_init 106 = .ok (.iload_n 1, 1) := by decide +kernel
theorem d_X_init_107 : decode b_X_init 107 = .ok (.iconst 1, 1) := by decide +kernel
theorem d_X_init_108 : decode b_X_init 108 = .ok (.bipush 50, 2) := by decide +kernel
theorem d_X_init_110 : decode b_X_init 110 = .ok (.invokestatic 58, 3) := by decide +kernel
theorem d_X_init_113 : decode b_X_init 113 = .ok (.putfield 62, 3) := by decide +kernel
theorem d_X_init_116 : decode b_X_init 116 = .ok (.aload_n 0, 1) := by decide +kernel
theorem d_X_init_117 : decode b_X_init 117 = .ok (.iload_n 2, 1) := by decide +kernel
theorem d_X_init_118 : decode b_X_init 118 = .ok (.iconst 1, 1) := by decide +kernel
theorem d_X_init_119 : decode b_X_init 119 = .ok (.bipush 100, 2) := by decide +kernel
theorem d_X_init_121 : decode b_X_init 121 = .ok (.invokestatic 58, 3) := by decide +kernel
theorem d_X_init_124 : decode b_X_init 124 = .ok (.putfield 65, 3) := by decide +kernel
theorem d_X_init_127 : decode b_X_init 127 = .ok (.aload_n 0, 1) := by decide +kernel
theorem d_X_init_128 : decode b_X_init 128 = .ok (.iload_n 3, 1) := by decide +kernel
theorem d_X_init_129 : decode b_X_init 129 = .ok (.iconst 0, 1) := by decide +kernel
theorem d_X_init_130 : decode b_X_init 130 = .ok (.ldc 68, 2) := by decide +kernel
theorem d_X_init_132 : decode b_X_init 132 = .ok (.invokestatic 58, 3) := by decide +kernel
theorem d_X_init_135 : decode b_X_init 135 = .ok (.putfield 69, 3) := by decide +kernel
theorem d_X_init_138 : decode b_X_init 138 = .ok (.return_, 1) := by decide +kernel
theorem d_X_nearest_0 : decode b_X_nearest 0 = .ok (.iload_n 1, 1) := by decide +kernel
theorem d_X_nearest_1 : decode b_X_nearest 1 = .ok (.iload_n 2, 1) := by decide +kernel
theorem d_X_nearest_2 : decode b_X_nearest 2 = .ok (.iload_n 0, 1) := by decide +kernel
theorem d_X_nearest_3 : decode b_X_nearest 3 = .ok (.invokestatic 178, 3) := by decide +kernel
theorem d_X_nearest_6 : decode b_X_nearest 6 = .ok (.invokestatic 184, 3) := by decide +kernel
theorem d_X_nearest_9 : decode b_X_nearest 9 = .ok (.ireturn, 1) := by decide +kernel
theorem d_X_record_0 : decode b_X_record 0 = .ok (.iload_n 1, 1) := by decide +kernel
theorem d_X_record_1 : decode b_X_record 1 = .ok (.invokestatic 72, 3) := by decide +kernel
theorem d_X_record_4 : decode b_X_record 4 = .ok (.ifCond .eq 11, 3) := by decide +kernel
theorem d_X_record_7 : decode b_X_record 7 = .ok (.aload_n 0, 1) := by decide +kernel
theorem d_X_record_8 : decode b_X_record 8 = .ok (.iload_n 2, 1) := by decide +kernel
theorem d_X_record_9 : decode b_X_record 9 = .ok (.invokevirtual 76, 3) := by decide +kernel
theorem d_X_record_12 : decode b_X_record 12 = .ok (.ifCond .ne 6, 3) := by decide +kernel
theorem d_X_record_15 : decode b_X_record 15 = .ok (.bipush (-2), 2) := by decide +kernel
theorem d_X_record_17 : decode b_X_record 17 = .ok (.ireturn, 1) := by decide +kernel
theorem d_X_record_18 : decode b_X_record 18 = .ok (.aload_n 0, 1) := by decide +kernel
theorem d_X_record_19 : decode b_X_record 19 = .ok (.getfield 26, 3) := by decide +kernel
theorem d_X_record_22 : decode b_X_record 22 = .ok (.sipush 150, 3) := by decide +kernel
theorem d_X_record_25 : decode b_X_record 25 = .ok (.if_icmp .lt 6, 3) := by decide +kernel
theorem d_X_record_28 : decode b_X_record 28 = .ok (.bipush (-4), 2) := by decide +kernel
theorem d_X_record_30 : decode b_X_record 30 = .ok (.ireturn, 1) := by decide +kernel
theorem d_X_record_31 : decode b_X_record 31 = .ok (.aload_n 0, 1) := by decide +kernel
theorem d_X_record_32 : decode b_X_record 32 = .ok (.getfield 26, 3) := by decide +kernel
theorem d_X_record_35 : decode b_X_record 35 = .ok (.istore_n 3, 1) := by decide +kernel
theorem d_X_record_36 : decode b_X_record 36 = .ok (.aload_n 0, 1) := by decide +kernel
theorem d_X_record_37 : decode b_X_record 37 = .ok (.dup, 1) := by decide +kernel
theorem d_X_record_38 : decode b_X_record 38 = .ok (.getfield 26, 3) := by decide +kernel
theorem d_X_record_41 : decode b_X_record 41 = .ok (.iconst 1, 1) := by decide +kernel
theorem d_X_record_42 : decode b_X_record 42 = .ok (.iadd, 1) := by decide +kernel
theorem d_X_record_43 : decode b_X_record 43 = .ok (.putfield 26, 3) := by decide +kernel
theorem d_X_record_46 : decode b_X_record 46 = .ok (.aload_n 0, 1) := by decide +kernel
theorem d_X_record_47 : decode b_X_record 47 = .ok (.getfield 13, 3) := by decide +kernel
theorem d_X_record_50 : decode b_X_record 50 = .ok (.iload_n 3, 1) := by decide +kernel
theorem d_X_record_51 : decode b_X_record 51 = .ok (.iload_n 1, 1) := by decide +kernel
theorem d_X_record_52 : decode b_X_record 52 = .ok (.iastore, 1) := by decide +kernel
theorem d_X_record_53 : decode b_X_record 53 = .ok (.aload_n 0, 1) := by decide +kernel
theorem d_X_record_54 : decode b_X_record 54 = .ok (.iload_n 3, 1) := by decide +kernel
theorem d_X_record_55 : decode b_X_record 55 = .ok (.iload_n 2, 1) := by decide +kernel
theorem d_X_record_56 : decode b_X_record 56 = .ok (.iconst 0, 1) := by decide +kernel
theorem d_X_record_57 : decode b_X_record 57 = .ok (.invokevirtual 79, 3) := by decide +kernel
theorem d_X_record_60 : decode b_X_record 60 = .ok (.iload_n 3, 1) := by decide +kernel
theorem d_X_record_61 : decode b_X_record 61 = .ok (.ireturn, 1) := by decide +kernel
theorem d_X_isSet_0 : decode b_X_isSet 0 = .ok (.iload_n 0, 1) := by decide +kernel
theorem d_X_isSet_1 : decode b_X_isSet 1 = .ok (.ifCond .lt 13, 3) := by decide +kernel
theorem d_X_isSet_4 : decode b_X_isSet 4 = .ok (.iload_n 0, 1) := by decide +kernel
theorem d_X_isSet_5 : decode b_X_isSet 5 = .ok (.bipush 10, 2) := by decide +kernel
theorem d_X_isSet_7 : decode b_X_isSet 7 = .ok (.if_icmp .ge 7, 3) := by decide +kernel
theorem d_X_isSet_10 : decode b_X_isSet 10 = .ok (.iconst 1, 1) := by decide +kernel
theorem d_X_isSet_11 : decode b_X_isSet 11 = .ok (.goto 4, 3) := by decide +kernel
theorem d_X_isSet_14 : decode b_X_isSet 14 = .ok (.iconst 0, 1) := by decide +kernel
theorem d_X_isSet_15 : decode b_X_isSet 15 = .ok (.ireturn, 1) := by decide +kernel
theorem d_X_canBeDay_0 : decode b_X_canBeDay 0 = .ok (.iload_n 1, 1) := by decide +kernel
theorem d_X_canBeDay_1 : decode b_X_canBeDay 1 = .ok (.ifCond .lt 29, 3) := by decide +kernel
theorem d_X_canBeDay_4 : decode b_X_canBeDay 4 = .ok (.iload_n 1, 1) := by decide +kernel
theorem d_X_canBeDay_5 : decode b_X_canBeDay 5 = .ok (.ldc 68, 2) := by decide +kernel
theorem d_X_canBeDay_7 : decode b_X_canBeDay 7 = .ok (.if_icmp .gt 23, 3) := by decide +kernel
theorem d_X_canBeDay_10 : decode b_X_canBeDay 10 = .ok (.aload_n 0, 1) := by decide +kernel
theorem d_X_canBeDay_11 : decode b_X_canBeDay 11 = .ok (.getfield 65, 3) := by decide +kernel
theorem d_X_canBeDay_14 : decode b_X_canBeDay 14 = .ok (.ifCond .le 16, 3) := by decide +kernel
theorem d_X_canBeDay_17 : decode b_X_canBeDay 17 = .ok (.iload_n 1, 1) := by decide +kernel
theorem d_X_canBeDay_18 : decode b_X_canBeDay 18 = .ok (.aload_n 0, 1) := by decide +kernel
theorem d_X_canBeDay_19 : decode b_X_canBeDay 19 = .ok (.getfield 65, 3) := by decide +kernel
theorem d_X_canBeDay_22 : decode b_X_canBeDay 22 = .ok (.irem, 1) := by decide +kernel
theorem d_X_canBeDay_23 : decode b_X_canBeDay 23 = .ok (.ifCond .ne 7, 3) := by decide +kernel
theorem d_X_canBeDay_26 : decode b_X_canBeDay 26 = .ok (.iconst 1, 1) := by decide +kernel
theorem d_X_canBeDay_27 : decode b_X_canBeDay 27 = .ok (.goto 4, 3) := by decide +kernel
theorem d_X_canBeDay_30 : decode b_X_canBeDay 30 = .ok (.iconst 0, 1) := by decide +kernel
theorem d_X_canBeDay_31 : decode b_X_canBeDay 31 = .ok (.ireturn, 1) := by decide +kernel
theorem d_X_act_0 : decode b_X_act 0 = .ok (.aload_n 0, 1) := by decide +kernel
theorem d_X_act_1 : decode b_X_act 1 = .ok (.dup, 1) := by decide +kernel
theorem d_X_act_2 : decode b_X_act 2 = .ok (.getfield 30, 3) := by decide +kernel
theorem d_X_act_5 : decode b_X_act 5 = .ok (.iconst 1, 1) := by decide +kernel
theorem d_X_act_6 : decode b_X_act 6 = .ok (.iadd, 1) := by decide +kernel
theorem d_X_act_7 : decode b_X_act 7 = .ok (.putfield 30, 3) := by decide +kernel
theorem d_X_act_10 : decode b_X_act 10 = .ok (.aload_n 0, 1) := by decide +kernel
theorem d_X_act_11 : decode b_X_act 11 = .ok (.getfield 23, 3) := by decide +kernel
theorem d_X_act_14 : decode b_X_act 14 = .ok (.iload_n 1, 1) := by decide +kernel
theorem d_X_act_15 : decode b_X_act 15 = .ok (.aload_n 0, 1) := by decide +kernel
theorem d_X_act_16 : decode b_X_act 16 = .ok (.getfield 30, 3) := by decide +kernel
theorem d_X_act_19 : decode b_X_act 19 = .ok (.iastore, 1) := by decide +kernel
theorem d_X_act_20 : decode b_X_act 20 = .ok (.aload_n 0, 1) := by decide +kernel
theorem d_X_act_21 : decode b_X_act 21 = .ok (.getfield 17, 3) := by decide +kernel
theorem d_X_act_24 : decode b_X_act 24 = .ok (.iload_n 1, 1) := by decide +kernel
theorem d_X_act_25 : decode b_X_act 25 = .ok (.iload_n 2, 1) := by decide +kernel
theorem d_X_act_26 : decode b_X_act 26 = .ok (.iastore, 1) := by decide +kernel
theorem d_X_act_27 : decode b_X_act 27 = .ok (.aload_n 0, 1) := by decide +kernel
theorem d_X_act_28 : decode b_X_act 28 = .ok (.getfield 20, 3) := by decide +kernel
theorem d_X_act_31 : decode b_X_act 31 = .ok (.iload_n 1, 1) := by decide +kernel
theorem d_X_act_32 : decode b_X_act 32 = .ok (.iload_n 3, 1) := by decide +kernel
theorem d_X_act_33 : decode b_X_act 33 = .ok (.bastore, 1) := by decide +kernel
theorem d_X_act_34 : decode b_X_act 34 = .ok (.return_, 1) := by decide +kernel
theorem d_X_change_0 : decode b_X_change 0 = .ok (.aload_n 0, 1) := by decide +kernel
theorem d_X_change_1 : decode b_X_change 1 = .ok (.iload_n 1, 1) := by decide +kernel
theorem d_X_change_2 : decode b_X_change 2 = .ok (.invokevirtual 83, 3) := by decide +kernel
theorem d_X_change_5 : decode b_X_change 5 = .ok (.ifCond .ne 5, 3) := by decide +kernel
theorem d_X_change_8 : decode b_X_change 8 = .ok (.iconst (-1), 1) := by decide +kernel
theorem d_X_change_9 : decode b_X_change 9 = .ok (.ireturn, 1) := by decide +kernel
theorem d_X_change_10 : decode b_X_change 10 = .ok (.aload_n 0, 1) := by decide +kernel
theorem d_X_change_11 : decode b_X_change 11 = .ok (.iload_n 2, 1) := by decide +kernel
theorem d_X_change_12 : decode b_X_change 12 = .ok (.invokevirtual 76, 3) := by decide +kernel
theorem d_X_change_15 : decode b_X_change 15 = .ok (.ifCond .ne 6, 3) := by decide +kernel
theorem d_X_change_18 : decode b_X_change 18 = .ok (.bipush (-2), 2) := by decide +kernel
theorem d_X_change_20 : decode b_X_change 20 = .ok (.ireturn, 1) := by decide +kernel
theorem d_X_change_21 : decode b_X_change 21 = .ok (.iload_n 2, 1) := by decide +kernel
theorem d_X_change_22 : decode b_X_change 22 = .ok (.aload_n 0, 1) := by decide +kernel
theorem d_X_change_23 : decode b_X_change 23 = .ok (.getfield 17, 3) := by decide +kernel
theorem d_X_change_26 : decode b_X_change 26 = .ok (.iload_n 1, 1) := by decide +kernel
theorem d_X_change_27 : decode b_X_change 27 = .ok (.iaload, 1) := by decide +kernel
theorem d_X_change_28 : decode b_X_change 28 = .ok (.if_icmp .ge 6, 3) := by decide +kernel
theorem d_X_change_31 : decode b_X_change 31 = .ok (.bipush (-3), 2) := by decide +kernel
theorem d_X_change_33 : decode b_X_change 33 = .ok (.ireturn, 1) := by decide +kernel
theorem d_X_change_34 : decode b_X_change 34 = .ok (.aload_n 0, 1) := by decide +kernel
theorem d_X_change_35 : decode b_X_change 35 = .ok (.iload_n 1, 1) := by decide +kernel
theorem d_X_change_36 : decode b_X_change 36 = .ok (.iload_n 2, 1) := by decide +kernel
theorem d_X_change_37 : decode b_X_change 37 = .ok (.iconst 0, 1) := by decide +kernel
theorem d_X_change_38 : decode b_X_change 38 = .ok (.invokevirtual 79, 3) := by decide +kernel
theorem d_X_change_41 : decode b_X_change 41 = .ok (.iconst 1, 1) := by decide +kernel
theorem d_X_change_42 : decode b_X_change 42 = .ok (.ireturn, 1) := by decide +kernel
theorem d_X_isRecord_0 : decode b_X_isRecord 0 = .ok (.iload_n 1, 1) := by decide +kernel
theorem d_X_isRecord_1 : decode b_X_isRecord 1 = .ok (.ifCond .lt 15, 3) := by decide +kernel
theorem d_X_isRecord_4 : decode b_X_isRecord 4 = .ok (.iload_n 1, 1) := by decide +kernel
theorem d_X_isRecord_5 : decode b_X_isRecord 5 = .ok (.aload_n 0, 1) := by decide +kernel
theorem d_X_isRecord_6 : decode b_X_isRecord 6 = .ok (.getfield 26, 3) := by decide +kernel
theorem d_X_isRecord_9 : decode b_X_isRecord 9 = .ok (.if_icmp .ge 7, 3) := by decide +kernel
theorem d_X_isRecord_12 : decode b_X_isRecord 12 = .ok (.iconst 1, 1) := by decide +kernel
theorem d_X_isRecord_13 : decode b_X_isRecord 13 = .ok (.goto 4, 3) := by decide +kernel
theorem d_X_isRecord_16 : decode b_X_isRecord 16 = .ok (.iconst 0, 1) := by decide +kernel
theorem d_X_isRecord_17 : decode b_X_isRecord 17 = .ok (.ireturn, 1) := by decide +kernel
theorem d_X_delete_0 : decode b_X_delete 0 = .ok (.aload_n 0, 1) := by decide +kernel
theorem d_X_delete_1 : decode b_X_delete 1 = .ok (.iload_n 1, 1) := by decide +kernel
theorem d_X_delete_2 : decode b_X_delete 2 = .ok (.invokevirtual 83, 3) := by decide +kernel
theorem d_X_delete_5 : decode b_X_delete 5 = .ok (.ifCond .ne 5, 3) := by decide +kernel
theorem d_X_delete_8 : decode b_X_delete 8 = .ok (.iconst (-1), 1) := by decide +kernel
theorem d_X_delete_9 : decode b_X_delete 9 = .ok (.ireturn, 1) := by decide +kernel
theorem d_X_delete_10 : decode b_X_delete 10 = .ok (.aload_n 0, 1) := by decide +kernel
theorem d_X_delete_11 : decode b_X_delete 11 = .ok (.iload_n 2, 1) := by decide +kernel
theorem d_X_delete_12 : decode b_X_delete 12 = .ok (.invokevirtual 76, 3) := by decide +kernel
theorem d_X_delete_15 : decode b_X_delete 15 = .ok (.ifCond .ne 6, 3) := by decide +kernel
theorem d_X_delete_18 : decode b_X_delete 18 = .ok (.bipush (-2), 2) := by decide +kernel
theorem d_X_delete_20 : decode b_X_delete 20 = .ok (.ireturn, 1) := by decide +kernel
theorem d_X_delete_21 : decode b_X_delete 21 = .ok (.aload_n 0, 1) := by decide +kernel
theorem d_X_delete_22 : decode b_X_delete 22 = .ok (.getfield 20, 3) := by decide +kernel
theorem d_X_delete_25 : decode b_X_delete 25 = .ok (.iload_n 1, 1) := by decide +kernel
theorem d_X_delete_26 : decode b_X_delete 26 = .ok (.baload, 1) := by decide +kernel
theorem d_X_delete_27 : decode b_X_delete 27 = .ok (.ifCond .ne 13, 3) := by decide +kernel
theorem d_X_delete_30 : decode b_X_delete 30 = .ok (.iload_n 2, 1) := by decide +kernel
theorem d_X_delete_31 : decode b_X_delete 31 = .ok (.aload_n 0, 1) := by decide +kernel
theorem d_X_delete_32 : decode b_X_delete 32 = .ok (.getfield 17, 3) := by decide +kernel
theorem d_X_delete_35 : decode b_X_delete 35 = .ok (.iload_n 1, 1) := by decide +kernel
theorem d_X_delete_36 : decode b_X_delete 36 = .ok (.iaload, 1) := by decide +kernel
theorem d_X_delete_37 : decode b_X_delete 37 = .ok (.if_icmp .ge 6, 3) := by decide +kernel
theorem d_X_delete_40 : decode b_X_delete 40 = .ok (.bipush (-3), 2) := by decide +kernel
theorem d_X_delete_42 : decode b_X_delete 42 = .ok (.ireturn, 1) := by decide +kernel
theorem d_X_delete_43 : decode b_X_delete 43 = .ok (.aload_n 0, 1) := by decide +kernel
theorem d_X_delete_44 : decode b_X_delete 44 = .ok (.iload_n 1, 1) := by decide +kernel
theorem d_X_delete_45 : decode b_X_delete 45 = .ok (.iload_n 2, 1) := by decide +kernel
theorem d_X_delete_46 : decode b_X_delete 46 = .ok (.iconst 1, 1) := by decide +kernel
theorem d_X_delete_47 : decode b_X_delete 47 = .ok (.invokevirtual 79, 3) := by decide +kernel
theorem d_X_delete_50 : decode b_X_delete 50 = .ok (.iconst 1, 1) := by decide +kernel
theorem d_X_delete_51 : decode b_X_delete 51 = .ok (.ireturn, 1) := by decide +kernel
theorem d_X_form_0 : decode b_X_form 0 = .ok (.iload_n 1, 1) := by decide +kernel
theorem d_X_form_1 : decode b_X_form 1 = .ok (.invokestatic 86, 3) := by decide +kernel
theorem d_X_form_4 : decode b_X_form 4 = .ok (.ifCond .ne 6, 3) := by decide +kernel
theorem d_X_form_7 : decode b_X_form 7 = .ok (.bipush (-2), 2) := by decide +kernel
theorem d_X_form_9 : decode b_X_form 9 = .ok (.ireturn, 1) := by decide +kernel
theorem d_X_form_10 : decode b_X_form 10 = .ok (.aload_n 0, 1) := by decide +kernel
theorem d_X_form_11 : decode b_X_form 11 = .ok (.getfield 9, 3) := by decide +kernel
theorem d_X_form_14 : decode b_X_form 14 = .ok (.iload_n 1, 1) := by decide +kernel
theorem d_X_form_15 : decode b_X_form 15 = .ok (.iload_n 2, 1) := by decide +kernel
theorem d_X_form_16 : decode b_X_form 16 = .ok (.bastore, 1) := by decide +kernel
theorem d_X_form_17 : decode b_X_form 17 = .ok (.iconst 1, 1) := by decide +kernel
theorem d_X_form_18 : decode b_X_form 18 = .ok (.ireturn, 1) := by decide +kernel
theorem d_X_isForm_0 : decode b_X_isForm 0 = .ok (.iload_n 0, 1) := by decide +kernel
theorem d_X_isForm_1 : decode b_X_isForm 1 = .ok (.ifCond .lt 13, 3) := by decide +kernel
theorem d_X_isForm_4 : decode b_X_isForm 4 = .ok (.iload_n 0, 1) := by decide +kernel
theorem d_X_isForm_5 : decode b_X_isForm 5 = .ok (.bipush 6, 2) := by decide +kernel
theorem d_X_isForm_7 : decode b_X_isForm 7 = .ok (.if_icmp .ge 7, 3) := by decide +kernel
theorem d_X_isForm_10 : decode b_X_isForm 10 = .ok (.iconst 1, 1) := by decide +kernel
theorem d_X_isForm_11 : decode b_X_isForm 11 = .ok (.goto 4, 3) := by decide +kernel
theorem d_X_isForm_14 : decode b_X_isForm 14 = .ok (.iconst 0, 1) := by decide +kernel
theorem d_X_isForm_15 : decode b_X_isForm 15 = .ok (.ireturn, 1) := by decide +kernel
theorem d_X_list_0 : decode b_X_list 0 = .ok (.iload_n 1, 1) := by decide +kernel
theorem d_X_list_1 : decode b_X_list 1 = .ok (.invokestatic 89, 3) := by decide +kernel
theorem d_X_list_4 : decode b_X_list 4 = .ok (.ifCond .ne 5, 3) := by decide +kernel
theorem d_X_list_7 : decode b_X_list 7 = .ok (.iconst (-1), 1) := by decide +kernel
theorem d_X_list_8 : decode b_X_list 8 = .ok (.ireturn, 1) := by decide +kernel
theorem d_X_list_9 : decode b_X_list 9 = .ok (.iload 6, 2) := by decide +kernel
theorem d_X_list_11 : decode b_X_list 11 = .ok (.invokestatic 92, 3) := by decide +kernel
theorem d_X_list_14 : decode b_X_list 14 = .ok (.ifCond .ne 6, 3) := by decide +kernel
theorem d_X_list_17 : decode b_X_list 17 = .ok (.bipush (-2), 2) := by decide +kernel
theorem d_X_list_19 : decode b_X_list 19 = .ok (.ireturn, 1) := by decide +kernel
theorem d_X_list_20 : decode b_X_list 20 = .ok (.aload_n 0, 1) := by decide +kernel
theorem d_X_list_21 : decode b_X_list 21 = .ok (.iload_n 3, 1) := by decide +kernel
theorem d_X_list_22 : decode b_X_list 22 = .ok (.invokevirtual 76, 3) := by decide +kernel
theorem d_X_list_25 : decode b_X_list 25 = .ok (.ifCond .eq 18, 3) := by decide +kernel
theorem d_X_list_28 : decode b_X_list 28 = .ok (.aload_n 0, 1) := by decide +kernel
theorem d_X_list_29 : decode b_X_list 29 = .ok (.iload 4, 2) := by decide +kernel
theorem d_X_list_31 : decode b_X_list 31 = .ok (.invokevirtual 76, 3) := by decide +kernel
theorem d_X_list_34 : decode b_X_list 34 = .ok (.ifCond .eq 9, 3) := by decide +kernel
theorem d_X_list_37 : decode b_X_list 37 = .ok (.iload_n 3, 1) := by decide +kernel
theorem d_X_list_38 : decode b_X_list 38 = .ok (.iload 4, 2) := by decide +kernel
theorem d_X_list_40 : decode b_X_list 40 = .ok (.if_icmp .le 6, 3) := by decide +kernel
theorem d_X_list_43 : decode b_X_list 43 = .ok (.bipush (-11), 2) := by decide +kernel
theorem d_X_list_45 : decode b_X_list 45 = .ok (.ireturn, 1) := by decide +kernel
theorem d_X_list_46 : decode b_X_list 46 = .ok (.aload_n 0, 1) := by decide +kernel
theorem d_X_list_47 : decode b_X_list 47 = .ok (.iload_n 2, 1) := by decide +kernel
theorem d_X_list_48 : decode b_X_list 48 = .ok (.invokevirtual 95, 3) := by decide +kernel
theorem d_X_list_51 : decode b_X_list 51 = .ok (.ifCond .ne 6, 3) := by decide +kernel
theorem d_X_list_54 : decode b_X_list 54 = .ok (.bipush (-12), 2) := by decide +kernel
theorem d_X_list_56 : decode b_X_list 56 = .ok (.ireturn, 1) := by decide +kernel
theorem d_X_list_57 : decode b_X_list 57 = .ok (.iload 5, 2) := by decide +kernel
theorem d_X_list_59 : decode b_X_list 59 = .ok (.iconst (-1), 1) := by decide +kernel
theorem d_X_list_60 : decode b_X_list 60 = .ok (.if_icmp .eq 14, 3) := by decide +kernel
theorem d_X_list_63 : decode b_X_list 63 = .ok (.iload 5, 2) := by decide +kernel
theorem d_X_list_65 : decode b_X_list 65 = .ok (.invokestatic 72, 3) := by decide +kernel
theorem d_X_list_68 : decode b_X_list 68 = .ok (.ifCond .ne 6, 3) := by decide +kernel
theorem d_X_list_71 : decode b_X_list 71 = .ok (.bipush (-13), 2) := by decide +kernel
theorem d_X_list_73 : decode b_X_list 73 = .ok (.ireturn, 1) := by decide +kernel
theorem d_X_list_74 : decode b_X_list 74 = .ok (.aload_n 0, 1) := by decide +kernel
theorem d_X_list_75 : decode b_X_list 75 = .ok (.iload_n 3, 1) := by decide +kernel
theorem d_X_list_76 : decode b_X_list 76 = .ok (.iload 4, 2) := by decide +kernel
theorem d_X_list_78 : decode b_X_list 78 = .ok (.iload 5, 2) := by decide +kernel
theorem d_X_list_80 : decode b_X_list 80 = .ok (.invokevirtual 98, 3) := by decide +kernel
theorem d_X_list_83 : decode b_X_list 83 = .ok (.istore 7, 2) := by decide +kernel
theorem d_X_list_85 : decode b_X_list 85 = .ok (.iload 7, 2) := by decide +kernel
theorem d_X_list_87 : decode b_X_list 87 = .ok (.iconst 1, 1) := by decide +kernel
theorem d_X_list_88 : decode b_X_list 88 = .ok (.if_icmp .ge 6, 3) := by decide +kernel
theorem d_X_list_91 : decode b_X_list 91 = .ok (.bipush (-14), 2) := by decide +kernel
theorem d_X_list_93 : decode b_X_list 93 = .ok (.ireturn, 1) := by decide +kernel
theorem d_X_list_94 : decode b_X_list 94 = .ok (.aload_n 0, 1) := by decide +kernel
theorem d_X_list_95 : decode b_X_list 95 = .ok (.getfield 36, 3) := by decide +kernel
theorem d_X_list_98 : decode b_X_list 98 = .ok (.bipush 30, 2) := by decide +kernel
theorem d_X_list_100 : decode b_X_list 100 = .ok (.if_icmp .lt 6, 3) := by decide +kernel
theorem d_X_list_103 : decode b_X_list 103 = .ok (.bipush (-4), 2) := by decide +kernel
theorem d_X_list_105 : decode b_X_list 105 = .ok (.ireturn, 1) := by decide +kernel
theorem d_X_list_106 : decode b_X_list 106 = .ok (.aload_n 0, 1) := by decide +kernel
theorem d_X_list_107 : decode b_X_list 107 = .ok (.dup, 1) := by decide +kernel
theorem d_X_list_108 : decode b_X_list 108 = .ok (.getfield 36, 3) := by decide +kernel
theorem d_X_list_111 : decode b_X_list 111 = .ok (.iconst 1, 1) := by decide +kernel
theorem d_X_list_112 : decode b_X_list 112 = .ok (.iadd, 1) := by decide +kernel
theorem d_X_list_113 : decode b_X_list 113 = .ok (.putfield 36, 3) := by decide +kernel
theorem d_X_list_116 : decode b_X_list 116 = .ok (.new 101, 3) := by decide +kernel
theorem d_X_list_119 : decode b_X_list 119 = .ok (.dup, 1) := by decide +kernel
theorem d_X_list_120 : decode b_X_list 120 = .ok (.iload_n 1, 1) := by decide +kernel
theorem d_X_list_121 : decode b_X_list 121 = .ok (.iload_n 2, 1) := by decide +kernel
theorem d_X_list_122 : decode b_X_list 122 = .ok (.aload_n 0, 1) := by decide +kernel
theorem d_X_list_123 : decode b_X_list 123 = .ok (.getfield 30, 3) := by decide +kernel
theorem d_X_list_126 : decode b_X_list 126 = .ok (.aload_n 0, 1) := by decide +kernel
theorem d_X_list_127 : decode b_X_list 127 = .ok (.getfield 33, 3) := by decide +kernel
theorem d_X_list_130 : decode b_X_list 130 = .ok (.iload 7, 2) := by decide +kernel
theorem d_X_list_132 : decode b_X_list 132 = .ok (.invokestatic 103, 3) := by decide +kernel
theorem d_X_list_135 : decode b_X_list 135 = .ok (.invokespecial 109, 3) := by decide +kernel
theorem d_X_list_138 : decode b_X_list 138 = .ok (.astore 8, 2) := by decide +kernel
theorem d_X_list_140 : decode b_X_list 140 = .ok (.aload_n 0, 1) := by decide +kernel
theorem d_X_list_141 : decode b_X_list 141 = .ok (.iload_n 1, 1) := by decide +kernel
theorem d_X_list_142 : decode b_X_list 142 = .ok (.aload_n 0, 1) := by decide +kernel
theorem d_X_list_143 : decode b_X_list 143 = .ok (.aload 8, 2) := by decide +kernel
theorem d_X_list_145 : decode b_X_list 145 = .ok (.iconst 0, 1) := by decide +kernel
theorem d_X_list_146 : decode b_X_list 146 = .ok (.iload 6, 2) := by decide +kernel
theorem d_X_list_148 : decode b_X_list 148 = .ok (.invokevirtual 112, 3) := by decide +kernel
theorem d_X_list_151 : decode b_X_list 151 = .ok (.invokevirtual 116, 3) := by decide +kernel
theorem d_X_list_154 : decode b_X_list 154 = .ok (.ireturn, 1) := by decide +kernel
theorem d_X_isHarvester_0 : decode b_X_isHarvester 0 = .ok (.iload_n 0, 1) := by decide +kernel
theorem d_X_isHarvester_1 : decode b_X_isHarvester 1 = .ok (.ifCond .lt 13, 3) := by decide +kernel
theorem d_X_isHarvester_4 : decode b_X_isHarvester 4 = .ok (.iload_n 0, 1) := by decide +kernel
theorem d_X_isHarvester_5 : decode b_X_isHarvester 5 = .ok (.bipush 10, 2) := by decide +kernel
theorem d_X_isHarvester_7 : decode b_X_isHarvester 7 = .ok (.if_icmp .ge 7, 3) := by decide +kernel
theorem d_X_isHarvester_10 : decode b_X_isHarvester 10 = .ok (.iconst 1, 1) := by decide +kernel
theorem d_X_isHarvester_11 : decode b_X_isHarvester 11 = .ok (.goto 4, 3) := by decide +kernel
theorem d_X_isHarvester_14 : decode b_X_isHarvester 14 = .ok (.iconst 0, 1) := by decide +kernel
theorem d_X_isHarvester_15 : decode b_X_isHarvester 15 = .ok (.ireturn, 1) := by decide +kernel
theorem d_X_isTime_0 : decode b_X_isTime 0 = .ok (.iload_n 0, 1) := by decide +kernel
theorem d_X_isTime_1 : decode b_X_isTime 1 = .ok (.ifCond .lt 13, 3) := by decide +kernel
theorem d_X_isTime_4 : decode b_X_isTime 4 = .ok (.iload_n 0, 1) := by decide +kernel
theorem d_X_isTime_5 : decode b_X_isTime 5 = .ok (.ldc 187, 2) := by decide +kernel
theorem d_X_isTime_7 : decode b_X_isTime 7 = .ok (.if_icmp .gt 7, 3) := by decide +kernel
theorem d_X_isTime_10 : decode b_X_isTime 10 = .ok (.iconst 1, 1) := by decide +kernel
theorem d_X_isTime_11 : decode b_X_isTime 11 = .ok (.goto 4, 3) := by decide +kernel
theorem d_X_isTime_14 : decode b_X_isTime 14 = .ok (.iconst 0, 1) := by decide +kernel
theorem d_X_isTime_15 : decode b_X_isTime 15 = .ok (.ireturn, 1) := by decide +kernel
theorem d_X_isHeld_0 : decode b_X_isHeld 0 = .ok (.iload_n 1, 1) := by decide +kernel
theorem d_X_isHeld_1 : decode b_X_isHeld 1 = .ok (.invokestatic 86, 3) := by decide +kernel
theorem d_X_isHeld_4 : decode b_X_isHeld 4 = .ok (.ifCond .eq 16, 3) := by decide +kernel
theorem d_X_isHeld_7 : decode b_X_isHeld 7 = .ok (.aload_n 0, 1) := by decide +kernel
theorem d_X_isHeld_8 : decode b_X_isHeld 8 = .ok (.getfield 9, 3) := by decide +kernel
theorem d_X_isHeld_11 : decode b_X_isHeld 11 = .ok (.iload_n 1, 1) := by decide +kernel
theorem d_X_isHeld_12 : decode b_X_isHeld 12 = .ok (.baload, 1) := by decide +kernel
theorem d_X_isHeld_13 : decode b_X_isHeld 13 = .ok (.ifCond .eq 7, 3) := by decide +kernel
theorem d_X_isHeld_16 : decode b_X_isHeld 16 = .ok (.iconst 1, 1) := by decide +kernel
theorem d_X_isHeld_17 : decode b_X_isHeld 17 = .ok (.goto 4, 3) := by decide +kernel
theorem d_X_isHeld_20 : decode b_X_isHeld 20 = .ok (.iconst 0, 1) := by decide +kernel
theorem d_X_isHeld_21 : decode b_X_isHeld 21 = .ok (.ireturn, 1) := by decide +kernel
theorem d_X_sortSpan_0 : decode b_X_sortSpan 0 = .ok (.iconst 0, 1) := by decide +kernel
theorem d_X_sortSpan_1 : decode b_X_sortSpan 1 = .ok (.istore 4, 2) := by decide +kernel
theorem d_X_sortSpan_3 : decode b_X_sortSpan 3 = .ok (.iconst 0, 1) := by decide +kernel
theorem d_X_sortSpan_4 : decode b_X_sortSpan 4 = .ok (.istore 5, 2) := by decide +kernel
theorem d_X_sortSpan_6 : decode b_X_sortSpan 6 = .ok (.iload 5, 2) := by decide +kernel
theorem d_X_sortSpan_8 : decode b_X_sortSpan 8 = .ok (.aload_n 0, 1) := by decide +kernel
theorem d_X_sortSpan_9 : decode b_X_sortSpan 9 = .ok (.getfield 26, 3) := by decide +kernel
theorem d_X_sortSpan_12 : decode b_X_sortSpan 12 = .ok (.if_icmp .ge 70, 3) := by decide +kernel
theorem d_X_sortSpan_15 : decode b_X_sortSpan 15 = .ok (.aload_n 0, 1) := by decide +kernel
theorem d_X_sortSpan_16 : decode b_X_sortSpan 16 = .ok (.getfield 17, 3) := by decide +kernel
theorem d_X_sortSpan_19 : decode b_X_sortSpan 19 = .ok (.iload 5, 2) := by decide +kernel
theorem d_X_sortSpan_21 : decode b_X_sortSpan 21 = .ok (.iaload, 1) := by decide +kernel
theorem d_X_sortSpan_22 : decode b_X_sortSpan 22 = .ok (.iload_n 1, 1) := by decide +kernel
theorem d_X_sortSpan_23 : decode b_X_sortSpan 23 = .ok (.if_icmp .lt 18, 3) := by decide +kernel
theorem d_X_sortSpan_26 : decode b_X_sortSpan 26 = .ok (.aload_n 0, 1) := by decide +kernel
theorem d_X_sortSpan_27 : decode b_X_sortSpan 27 = .ok (.getfield 17, 3) := by decide +kernel
theorem d_X_sortSpan_30 : decode b_X_sortSpan 30 = .ok (.iload 5, 2) := by decide +kernel
theorem d_X_sortSpan_32 : decode b_X_sortSpan 32 = .ok (.iaload, 1) := by decide +kernel
theorem d_X_sortSpan_33 : decode b_X_sortSpan 33 = .ok (.iload_n 2, 1) := by decide +kernel
theorem d_X_sortSpan_34 : decode b_X_sortSpan 34 = .ok (.if_icmp .gt 7, 3) := by decide +kernel
theorem d_X_sortSpan_37 : decode b_X_sortSpan 37 = .ok (.iconst 1, 1) := by decide +kernel
theorem d_X_sortSpan_38 : decode b_X_sortSpan 38 = .ok (.goto 4, 3) := by decide +kernel
theorem d_X_sortSpan_41 : decode b_X_sortSpan 41 = .ok (.iconst 0, 1) := by decide +kernel
theorem d_X_sortSpan_42 : decode b_X_sortSpan 42 = .ok (.istore 6, 2) := by decide +kernel
theorem d_X_sortSpan_44 : decode b_X_sortSpan 44 = .ok (.iload 6, 2) := by decide +kernel
theorem d_X_sortSpan_46 : decode b_X_sortSpan 46 = .ok (.ifCond .eq 30, 3) := by decide +kernel
theorem d_X_sortSpan_49 : decode b_X_sortSpan 49 = .ok (.iload_n 3, 1) := by decide +kernel
theorem d_X_sortSpan_50 : decode b_X_sortSpan 50 = .ok (.iconst (-1), 1) := by decide +kernel
theorem d_X_sortSpan_51 : decode b_X_sortSpan 51 = .ok (.if_icmp .eq 14, 3) := by decide +kernel
theorem d_X_sortSpan_54 : decode b_X_sortSpan 54 = .ok (.aload_n 0, 1) := by decide +kernel
theorem d_X_sortSpan_55 : decode b_X_sortSpan 55 = .ok (.getfield 13, 3) := by decide +kernel
theorem d_X_sortSpan_58 : decode b_X_sortSpan 58 = .ok (.iload 5, 2) := by decide +kernel
theorem d_X_sortSpan_60 : decode b_X_sortSpan 60 = .ok (.iaload, 1) := by decide +kernel
theorem d_X_sortSpan_61 : decode b_X_sortSpan 61 = .ok (.iload_n 3, 1) := by decide +kernel
theorem d_X_sortSpan_62 : decode b_X_sortSpan 62 = .ok (.if_icmp .ne 14, 3) := by decide +kernel
theorem d_X_sortSpan_65 : decode b_X_sortSpan 65 = .ok (.aload_n 0, 1) := by decide +kernel
theorem d_X_sortSpan_66 : decode b_X_sortSpan 66 = .ok (.iload 5, 2) := by decide +kernel
theorem d_X_sortSpan_68 : decode b_X_sortSpan 68 = .ok (.iload 4, 2) := by decide +kernel
theorem d_X_sortSpan_70 : decode b_X_sortSpan 70 = .ok (.invokevirtual 192, 3) := by decide +kernel
theorem d_X_sortSpan_73 : decode b_X_sortSpan 73 = .ok (.iinc 4 1, 3) := by decide +kernel
theorem d_X_sortSpan_76 : decode b_X_sortSpan 76 = .ok (.iinc 5 1, 3) := by decide +kernel
theorem d_X_sortSpan_79 : decode b_X_sortSpan 79 = .ok (.goto (-73), 3) := by decide +kernel
theorem d_X_sortSpan_82 : decode b_X_sortSpan 82 = .ok (.iload 4, 2) := by decide +kernel
theorem d_X_sortSpan_84 : decode b_X_sortSpan 84 = .ok (.ireturn, 1) := by decide +kernel
theorem d_X_insertByDay_0 : decode b_X_insertByDay 0 = .ok (.iload_n 2, 1) := by decide +kernel
theorem d_X_insertByDay_1 : decode b_X_insertByDay 1 = .ok (.istore_n 3, 1) := by decide +kernel
theorem d_X_insertByDay_2 : decode b_X_insertByDay 2 = .ok (.iload_n 3, 1) := by decide +kernel
theorem d_X_insertByDay_3 : decode b_X_insertByDay 3 = .ok (.ifCond .le 45, 3) := by decide +kernel
theorem d_X_insertByDay_6 : decode b_X_insertByDay 6 = .ok (.aload_n 0, 1) := by decide +kernel
theorem d_X_insertByDay_7 : decode b_X_insertByDay 7 = .ok (.getfield 17, 3) := by decide +kernel
theorem d_X_insertByDay_10 : decode b_X_insertByDay 10 = .ok (.aload_n 0, 1) := by decide +kernel
theorem d_X_insertByDay_11 : decode b_X_insertByDay 11 = .ok (.getfield 33, 3) := by decide +kernel
theorem d_X_insertByDay_14 : decode b_X_insertByDay 14 = .ok (.iload_n 3, 1) := by decide +kernel
theorem d_X_insertByDay_15 : decode b_X_insertByDay 15 = .ok (.iconst 1, 1) := by decide +kernel
theorem d_X_insertByDay_16 : decode b_X_insertByDay 16 = .ok (.isub, 1) := by decide +kernel
theorem d_X_insertByDay_17 : decode b_X_insertByDay 17 = .ok (.iaload, 1) := by decide +kernel
theorem d_X_insertByDay_18 : decode b_X_insertByDay 18 = .ok (.iaload, 1) := by decide +kernel
theorem d_X_insertByDay_19 : decode b_X_insertByDay 19 = .ok (.aload_n 0, 1) := by decide +kernel
theorem d_X_insertByDay_20 : decode b_X_insertByDay 20 = .ok (.getfield 17, 3) := by decide +kernel
theorem d_X_insertByDay_23 : decode b_X_insertByDay 23 = .ok (.iload_n 1, 1) := by decide +kernel
theorem d_X_insertByDay_24 : decode b_X_insertByDay 24 = .ok (.iaload, 1) := by decide +kernel
theorem d_X_insertByDay_25 : decode b_X_insertByDay 25 = .ok (.if_icmp .le 23, 3) := by decide +kernel
theorem d_X_insertByDay_28 : decode b_X_insertByDay 28 = .ok (.aload_n 0, 1) := by decide +kernel
theorem d_X_insertByDay_29 : decode b_X_insertByDay 29 = .ok (.getfield 33, 3) := by decide +kernel
theorem d_X_insertByDay_32 : decode b_X_insertByDay 32 = .ok (.iload_n 3, 1) := by decide +kernel
theorem d_X_insertByDay_33 : decode b_X_insertByDay 33 = .ok (.aload_n 0, 1) := by decide +kernel
theorem d_X_insertByDay_34 : decode b_X_insertByDay 34 = .ok (.getfield 33, 3) := by decide +kernel
theorem d_X_insertByDay_37 : decode b_X_insertByDay 37 = .ok (.iload_n 3, 1) := by decide +kernel
theorem d_X_insertByDay_38 : decode b_X_insertByDay 38 = .ok (.iconst 1, 1) := by decide +kernel
theorem d_X_insertByDay_39 : decode b_X_insertByDay 39 = .ok (.isub, 1) := by decide +kernel
theorem d_X_insertByDay_40 : decode b_X_insertByDay 40 = .ok (.iaload, 1) := by decide +kernel
theorem d_X_insertByDay_41 : decode b_X_insertByDay 41 = .ok (.iastore, 1) := by decide +kernel
theorem d_X_insertByDay_42 : decode b_X_insertByDay 42 = .ok (.iinc 3 (-1), 3) := by decide +kernel
theorem d_X_insertByDay_45 : decode b_X_insertByDay 45 = .ok (.goto (-43), 3) := by decide +kernel
theorem d_X_insertByDay_48 : decode b_X_insertByDay 48 = .ok (.aload_n 0, 1) := by decide +kernel
theorem d_X_insertByDay_49 : decode b_X_insertByDay 49 = .ok (.getfield 33, 3) := by decide +kernel
theorem d_X_insertByDay_52 : decode b_X_insertByDay 52 = .ok (.iload_n 3, 1) := by decide +kernel
theorem d_X_insertByDay_53 : decode b_X_insertByDay 53 = .ok (.iload_n 1, 1) := by decide +kernel
theorem d_X_insertByDay_54 : decode b_X_insertByDay 54 = .ok (.iastore, 1) := by decide +kernel
theorem d_X_insertByDay_55 : decode b_X_insertByDay 55 = .ok (.return_, 1) := by decide +kernel
theorem d_L_init_0 : decode b_L_init 0 = .ok (.aload_n 0, 1) := by decide +kernel
theorem d_L_init_1 : decode b_L_init 1 = .ok (.invokespecial 1, 3) := by decide +kernel
theorem d_L_init_4 : decode b_L_init 4 = .ok (.aload_n 0, 1) := by decide +kernel
theorem d_L_init_5 : decode b_L_init 5 = .ok (.iload_n 1, 1) := by decide +kernel
theorem d_L_init_6 : decode b_L_init 6 = .ok (.putfield 7, 3) := by decide +kernel
theorem d_L_init_9 : decode b_L_init 9 = .ok (.aload_n 0, 1) := by decide +kernel
theorem d_L_init_10 : decode b_L_init 10 = .ok (.iload_n 2, 1) := by decide +kernel
theorem d_L_init_11 : decode b_L_init 11 = .ok (.putfield 13, 3) := by decide +kernel
theorem d_L_init_14 : decode b_L_init 14 = .ok (.aload_n 0, 1) := by decide +kernel
theorem d_L_init_15 : decode b_L_init 15 = .ok (.iload_n 3, 1) := by decide +kernel
theorem d_L_init_16 : decode b_L_init 16 = .ok (.putfield 16, 3) := by decide +kernel
theorem d_L_init_19 : decode b_L_init 19 = .ok (.aload_n 0, 1) := by decide +kernel
theorem d_L_init_20 : decode b_L_init 20 = .ok (.aload 4, 2) := by decide +kernel
theorem d_L_init_22 : decode b_L_init 22 = .ok (.putfield 19, 3) := by decide +kernel
theorem d_L_init_25 : decode b_L_init 25 = .ok (.return_, 1) := by decide +kernel
theorem d_X_makePage_0 : decode b_X_makePage 0 = .ok (.iload_n 2, 1) := by decide +kernel
theorem d_X_makePage_1 : decode b_X_makePage 1 = .ok (.aload_n 0, 1) := by decide +kernel
theorem d_X_makePage_2 : decode b_X_makePage 2 = .ok (.getfield 62, 3) := by decide +kernel
theorem d_X_makePage_5 : decode b_X_makePage 5 = .ok (.iadd, 1) := by decide +kernel
theorem d_X_makePage_6 : decode b_X_makePage 6 = .ok (.aload_n 1, 1) := by decide +kernel
theorem d_X_makePage_7 : decode b_X_makePage 7 = .ok (.getfield 177, 3) := by decide +kernel
theorem d_X_makePage_10 : decode b_X_makePage 10 = .ok (.arraylength, 1) := by decide +kernel
theorem d_X_makePage_11 : decode b_X_makePage 11 = .ok (.invokestatic 178, 3) := by decide +kernel
theorem d_X_makePage_14 : decode b_X_makePage 14 = .ok (.istore 4, 2) := by decide +kernel
theorem d_X_makePage_16 : decode b_X_makePage 16 = .ok (.new 46, 3) := by decide +kernel
theorem d_X_makePage_19 : decode b_X_makePage 19 = .ok (.dup, 1) := by decide +kernel
theorem d_X_makePage_20 : decode b_X_makePage 20 = .ok (.aload_n 1, 1) := by decide +kernel
theorem d_X_makePage_21 : decode b_X_makePage 21 = .ok (.getfield 196, 3) := by decide +kernel
theorem d_X_makePage_24 : decode b_X_makePage 24 = .ok (.iconst 0, 1) := by decide +kernel
theorem d_X_makePage_25 : decode b_X_makePage 25 = .ok (.iload 4, 2) := by decide +kernel
theorem d_X_makePage_27 : decode b_X_makePage 27 = .ok (.iload_n 2, 1) := by decide +kernel
theorem d_X_makePage_28 : decode b_X_makePage 28 = .ok (.isub, 1) := by decide +kernel
theorem d_X_makePage_29 : decode b_X_makePage 29 = .ok (.invokestatic 184, 3) := by decide +kernel
theorem d_X_makePage_32 : decode b_X_makePage 32 = .ok (.invokespecial 197, 3) := by decide +kernel
theorem d_X_makePage_35 : decode b_X_makePage 35 = .ok (.astore 5, 2) := by decide +kernel
theorem d_X_makePage_37 : decode b_X_makePage 37 = .ok (.iload_n 2, 1) := by decide +kernel
theorem d_X_makePage_38 : decode b_X_makePage 38 = .ok (.istore 6, 2) := by decide +kernel
theorem d_X_makePage_40 : decode b_X_makePage 40 = .ok (.iload 6, 2) := by decide +kernel
theorem d_X_makePage_42 : decode b_X_makePage 42 = .ok (.iload 4, 2) := by decide +kernel
theorem d_X_makePage_44 : decode b_X_makePage 44 = .ok (.if_icmp .ge 66, 3) := by decide +kernel
theorem d_X_makePage_47 : decode b_X_makePage 47 = .ok (.aload_n 1, 1) := by decide +kernel
theorem d_X_makePage_48 : decode b_X_makePage 48 = .ok (.getfield 177, 3) := by decide +kernel
theorem d_X_makePage_51 : decode b_X_makePage 51 = .ok (.iload 6, 2) := by decide +kernel
theorem d_X_makePage_53 : decode b_X_makePage 53 = .ok (.iaload, 1) := by decide +kernel
theorem d_X_makePage_54 : decode b_X_makePage 54 = .ok (.istore 7, 2) := by decide +kernel
theorem d_X_makePage_56 : decode b_X_makePage 56 = .ok (.aload_n 0, 1) := by decide +kernel
theorem d_X_makePage_57 : decode b_X_makePage 57 = .ok (.getfield 23, 3) := by decide +kernel
theorem d_X_makePage_60 : decode b_X_makePage 60 = .ok (.iload 7, 2) := by decide +kernel
theorem d_X_makePage_62 : decode b_X_makePage 62 = .ok (.iaload, 1) := by decide +kernel
theorem d_X_makePage_63 : decode b_X_makePage 63 = .ok (.aload_n 1, 1) := by decide +kernel
theorem d_X_makePage_64 : decode b_X_makePage 64 = .ok (.getfield 199, 3) := by decide +kernel
theorem d_X_makePage_67 : decode b_X_makePage 67 = .ok (.if_icmp .le 16, 3) := by decide +kernel
theorem d_X_makePage_70 : decode b_X_makePage 70 = .ok (.aload_n 0, 1) := by decide +kernel
theorem d_X_makePage_71 : decode b_X_makePage 71 = .ok (.dup, 1) := by decide +kernel
theorem d_X_makePage_72 : decode b_X_makePage 72 = .ok (.getfield 55, 3) := by decide +kernel
theorem d_X_makePage_75 : decode b_X_makePage 75 = .ok (.iconst 1, 1) := by decide +kernel
theorem d_X_makePage_76 : decode b_X_makePage 76 = .ok (.iadd, 1) := by decide +kernel
theorem d_X_makePage_77 : decode b_X_makePage 77 = .ok (.putfield 55, 3) := by decide +kernel
theorem d_X_makePage_80 : decode b_X_makePage 80 = .ok (.goto 24, 3) := by decide +kernel
theorem d_X_makePage_83 : decode b_X_makePage 83 = .ok (.aload 5, 2) := by decide +kernel
theorem d_X_makePage_85 : decode b_X_makePage 85 = .ok (.iload 7, 2) := by decide +kernel
theorem d_X_makePage_87 : decode b_X_makePage 87 = .ok (.aload_n 0, 1) := by decide +kernel
theorem d_X_makePage_88 : decode b_X_makePage 88 = .ok (.getfield 17, 3) := by decide +kernel
theorem d_X_makePage_91 : decode b_X_makePage 91 = .ok (.iload 7, 2) := by decide +kernel
theorem d_X_makePage_93 : decode b_X_makePage 93 = .ok (.iaload, 1) := by decide +kernel
theorem d_X_makePage_94 : decode b_X_makePage 94 = .ok (.aload_n 0, 1) := by decide +kernel
theorem d_X_makePage_95 : decode b_X_makePage 95 = .ok (.getfield 20, 3) := by decide +kernel
theorem d_X_makePage_98 : decode b_X_makePage 98 = .ok (.iload 7, 2) := by decide +kernel
theorem d_X_makePage_100 : decode b_X_makePage 100 = .ok (.baload, 1) := by decide +kernel
theorem d_X_makePage_101 : decode b_X_makePage 101 = .ok (.invokevirtual 202, 3) := by decide +kernel
theorem d_X_makePage_104 : decode b_X_makePage 104 = .ok (.iinc 6 1, 3) := by decide +kernel
theorem d_X_makePage_107 : decode b_X_makePage 107 = .ok (.goto (-67), 3) := by decide +kernel
theorem d_X_makePage_110 : decode b_X_makePage 110 = .ok (.iload 4, 2) := by decide +kernel
theorem d_X_makePage_112 : decode b_X_makePage 112 = .ok (.aload_n 1, 1) := by decide +kernel
theorem d_X_makePage_113 : decode b_X_makePage 113 = .ok (.getfield 177, 3) := by decide +kernel
theorem d_X_makePage_116 : decode b_X_makePage 116 = .ok (.arraylength, 1) := by decide +kernel
theorem d_X_makePage_117 : decode b_X_makePage 117 = .ok (.if_icmp .ge 34, 3) := by decide +kernel
theorem d_X_makePage_120 : decode b_X_makePage 120 = .ok (.aload 5, 2) := by decide +kernel
theorem d_X_makePage_122 : decode b_X_makePage 122 = .ok (.aload_n 0, 1) := by decide +kernel
theorem d_X_makePage_123 : decode b_X_makePage 123 = .ok (.getfield 42, 3) := by decide +kernel
theorem d_X_makePage_126 : decode b_X_makePage 126 = .ok (.invokevirtual 188, 3) := by decide +kernel
theorem d_X_makePage_129 : decode b_X_makePage 129 = .ok (.putfield 146, 3) := by decide +kernel
theorem d_X_makePage_132 : decode b_X_makePage 132 = .ok (.aload_n 0, 1) := by decide +kernel
theorem d_X_makePage_133 : decode b_X_makePage 133 = .ok (.getfield 42, 3) := by decide +kernel
theorem d_X_makePage_136 : decode b_X_makePage 136 = .ok (.new 127, 3) := by decide +kernel
theorem d_X_makePage_139 : decode b_X_makePage 139 = .ok (.dup, 1) := by decide +kernel
theorem d_X_makePage_140 : decode b_X_makePage 140 = .ok (.aload_n 1, 1) := by decide +kernel
theorem d_X_makePage_141 : decode b_X_makePage 141 = .ok (.iload 4, 2) := by decide +kernel
theorem d_X_makePage_143 : decode b_X_makePage 143 = .ok (.iload_n 3, 1) := by decide +kernel
theorem d_X_makePage_144 : decode b_X_makePage 144 = .ok (.invokespecial 205, 3) := by decide +kernel
theorem d_X_makePage_147 : decode b_X_makePage 147 = .ok (.invokevirtual 208, 3) := by decide +kernel
theorem d_X_makePage_150 : decode b_X_makePage 150 = .ok (.pop, 1) := by decide +kernel
theorem d_X_makePage_151 : decode b_X_makePage 151 = .ok (.aload 5, 2) := by decide +kernel
theorem d_X_makePage_153 : decode b_X_makePage 153 = .ok (.areturn, 1) := by decide +kernel
theorem d_P_init_0 : decode b_P_init 0 = .ok (.aload_n 0, 1) := by decide +kernel
theorem d_P_init_1 : decode b_P_init 1 = .ok (.invokespecial 3, 3) := by decide +kernel
theorem d_P_init_4 : decode b_P_init 4 = .ok (.aload_n 0, 1) := by decide +kernel
theorem d_P_init_5 : decode b_P_init 5 = .ok (.iconst 0, 1) := by decide +kernel
theorem d_P_init_6 : decode b_P_init 6 = .ok (.putfield 9, 3) := by decide +kernel
theorem d_P_init_9 : decode b_P_init 9 = .ok (.aload_n 0, 1) := by decide +kernel
theorem d_P_init_10 : decode b_P_init 10 = .ok (.iconst (-1), 1) := by decide +kernel
theorem d_P_init_11 : decode b_P_init 11 = .ok (.putfield 15, 3) := by decide +kernel
theorem d_P_init_14 : decode b_P_init 14 = .ok (.aload_n 0, 1) := by decide +kernel
theorem d_P_init_15 : decode b_P_init 15 = .ok (.iload_n 1, 1) := by decide +kernel
theorem d_P_init_16 : decode b_P_init 16 = .ok (.putfield 18, 3) := by decide +kernel
theorem d_P_init_19 : decode b_P_init 19 = .ok (.aload_n 0, 1) := by decide +kernel
theorem d_P_init_20 : decode b_P_init 20 = .ok (.iload_n 2, 1) := by decide +kernel
theorem d_P_init_21 : decode b_P_init 21 = .ok (.newarray .int, 2) := by decide +kernel
theorem d_P_init_23 : decode b_P_init 23 = .ok (.putfield 21, 3) := by decide +kernel
theorem d_P_init_26 : decode b_P_init 26 = .ok (.aload_n 0, 1) := by decide +kernel
theorem d_P_init_27 : decode b_P_init 27 = .ok (.iload_n 2, 1) := by decide +kernel
theorem d_P_init_28 : decode b_P_init 28 = .ok (.newarray .int, 2) := by decide +kernel
theorem d_P_init_30 : decode b_P_init 30 = .ok (.putfield 25, 3) := by decide +kernel
theorem d_P_init_33 : decode b_P_init 33 = .ok (.aload_n 0, 1) := by decide +kernel
theorem d_P_init_34 : decode b_P_init 34 = .ok (.iload_n 2, 1) := by decide +kernel
theorem d_P_init_35 : decode b_P_init 35 = .ok (.newarray .boolean, 2) := by decide +kernel
theorem d_P_init_37 : decode b_P_init 37 = .ok (.putfield 28, 3) := by decide +kernel
theorem d_P_init_40 : decode b_P_init 40 = .ok (.return_, 1) := by decide +kernel
theorem d_P_keep_0 : decode b_P_keep 0 = .ok (.aload_n 0, 1) := by decide +kernel
theorem d_P_keep_1 : decode b_P_keep 1 = .ok (.getfield 9, 3) := by decide +kernel
theorem d_P_keep_4 : decode b_P_keep 4 = .ok (.aload_n 0, 1) := by decide +kernel
theorem d_P_keep_5 : decode b_P_keep 5 = .ok (.getfield 21, 3) := by decide +kernel
theorem d_P_keep_8 : decode b_P_keep 8 = .ok (.arraylength, 1) := by decide +kernel
theorem d_P_keep_9 : decode b_P_keep 9 = .ok (.if_icmp .lt 4, 3) := by decide +kernel
theorem d_P_keep_12 : decode b_P_keep 12 = .ok (.return_, 1) := by decide +kernel
theorem d_P_keep_13 : decode b_P_keep 13 = .ok (.aload_n 0, 1) := by decide +kernel
theorem d_P_keep_14 : decode b_P_keep 14 = .ok (.getfield 21, 3) := by decide +kernel
theorem d_P_keep_17 : decode b_P_keep 17 = .ok (.aload_n 0, 1) := by decide +kernel
theorem d_P_keep_18 : decode b_P_keep 18 = .ok (.getfield 9, 3) := by decide +kernel
theorem d_P_keep_21 : decode b_P_keep 21 = .ok (.iload_n 1, 1) := by decide +kernel
theorem d_P_keep_22 : decode b_P_keep 22 = .ok (.iastore, 1) := by decide +kernel
theorem d_P_keep_23 : decode b_P_keep 23 = .ok (.aload_n 0, 1) := by decide +kernel
theorem d_P_keep_24 : decode b_P_keep 24 = .ok (.getfield 25, 3) := by decide +kernel
theorem d_P_keep_27 : decode b_P_keep 27 = .ok (.aload_n 0, 1) := by decide +kernel
theorem d_P_keep_28 : decode b_P_keep 28 = .ok (.getfield 9, 3) := by decide +kernel
theorem d_P_keep_31 : decode b_P_keep 31 = .ok (.iload_n 2, 1) := by decide +kernel
theorem d_P_keep_32 : decode b_P_keep 32 = .ok (.iastore, 1) := by decide +kernel
theorem d_P_keep_33 : decode b_P_keep 33 = .ok (.aload_n 0, 1) := by decide +kernel
theorem d_P_keep_34 : decode b_P_keep 34 = .ok (.getfield 28, 3) := by decide +kernel
theorem d_P_keep_37 : decode b_P_keep 37 = .ok (.aload_n 0, 1) := by decide +kernel
theorem d_P_keep_38 : decode b_P_keep 38 = .ok (.getfield 9, 3) := by decide +kernel
theorem d_P_keep_41 : decode b_P_keep 41 = .ok (.iload_n 3, 1) := by decide +kernel
theorem d_P_keep_42 : decode b_P_keep 42 = .ok (.bastore, 1) := by decide +kernel
theorem d_P_keep_43 : decode b_P_keep 43 = .ok (.aload_n 0, 1) := by decide +kernel
theorem d_P_keep_44 : decode b_P_keep 44 = .ok (.dup, 1) := by decide +kernel
theorem d_P_keep_45 : decode b_P_keep 45 = .ok (.getfield 9, 3) := by decide +kernel
theorem d_P_keep_48 : decode b_P_keep 48 = .ok (.iconst 1, 1) := by decide +kernel
theorem d_P_keep_49 : decode b_P_keep 49 = .ok (.iadd, 1) := by decide +kernel
theorem d_P_keep_50 : decode b_P_keep 50 = .ok (.putfield 9, 3) := by decide +kernel
theorem d_P_keep_53 : decode b_P_keep 53 = .ok (.return_, 1) := by decide +kernel
theorem d_T_init_0 : decode b_T_init 0 = .ok (.aload_n 0, 1) := by decide +kernel
theorem d_T_init_1 : decode b_T_init 1 = .ok (.invokespecial 1, 3) := by decide +kernel
theorem d_T_init_4 : decode b_T_init 4 = .ok (.aload_n 0, 1) := by decide +kernel
theorem d_T_init_5 : decode b_T_init 5 = .ok (.aconst_null, 1) := by decide +kernel
theorem d_T_init_6 : decode b_T_init 6 = .ok (.putfield 7, 3) := by decide +kernel
theorem d_T_init_9 : decode b_T_init 9 = .ok (.aload_n 0, 1) := by decide +kernel
theorem d_T_init_10 : decode b_T_init 10 = .ok (.aload_n 1, 1) := by decide +kernel
theorem d_T_init_11 : decode b_T_init 11 = .ok (.putfield 13, 3) := by decide +kernel
theorem d_T_init_14 : decode b_T_init 14 = .ok (.aload_n 0, 1) := by decide +kernel
theorem d_T_init_15 : decode b_T_init 15 = .ok (.iload_n 2, 1) := by decide +kernel
theorem d_T_init_16 : decode b_T_init 16 = .ok (.putfield 17, 3) := by decide +kernel
theorem d_T_init_19 : decode b_T_init 19 = .ok (.aload_n 0, 1) := by decide +kernel
theorem d_T_init_20 : decode b_T_init 20 = .ok (.iload_n 3, 1) := by decide +kernel
theorem d_T_init_21 : decode b_T_init 21 = .ok (.putfield 21, 3) := by decide +kernel
theorem d_T_init_24 : decode b_T_init 24 = .ok (.return_, 1) := by decide +kernel
theorem d_X_answer_0 : decode b_X_answer 0 = .ok (.aload_n 0, 1) := by decide +kernel
theorem d_X_answer_1 : decode b_X_answer 1 = .ok (.getfield 48, 3) := by decide +kernel
theorem d_X_answer_4 : decode b_X_answer 4 = .ok (.iload_n 1, 1) := by decide +kernel
theorem d_X_answer_5 : decode b_X_answer 5 = .ok (.aload_n 2, 1) := by decide +kernel
theorem d_X_answer_6 : decode b_X_answer 6 = .ok (.aastore, 1) := by decide +kernel
theorem d_X_answer_7 : decode b_X_answer 7 = .ok (.aload_n 0, 1) := by decide +kernel
theorem d_X_answer_8 : decode b_X_answer 8 = .ok (.getfield 52, 3) := by decide +kernel
theorem d_X_answer_11 : decode b_X_answer 11 = .ok (.iload_n 1, 1) := by decide +kernel
theorem d_X_answer_12 : decode b_X_answer 12 = .ok (.dup2, 1) := by decide +kernel
theorem d_X_answer_13 : decode b_X_answer 13 = .ok (.iaload, 1) := by decide +kernel
theorem d_X_answer_14 : decode b_X_answer 14 = .ok (.aload_n 2, 1) := by decide +kernel
theorem d_X_answer_15 : decode b_X_answer 15 = .ok (.getfield 158, 3) := by decide +kernel
theorem d_X_answer_18 : decode b_X_answer 18 = .ok (.iadd, 1) := by decide +kernel
theorem d_X_answer_19 : decode b_X_answer 19 = .ok (.iastore, 1) := by decide +kernel
theorem d_X_answer_20 : decode b_X_answer 20 = .ok (.aload_n 2, 1) := by decide +kernel
theorem d_X_answer_21 : decode b_X_answer 21 = .ok (.getfield 158, 3) := by decide +kernel
theorem d_X_answer_24 : decode b_X_answer 24 = .ok (.ireturn, 1) := by decide +kernel
theorem d_X_resume_0 : decode b_X_resume 0 = .ok (.iload_n 1, 1) := by decide +kernel
theorem d_X_resume_1 : decode b_X_resume 1 = .ok (.invokestatic 89, 3) := by decide +kernel
theorem d_X_resume_4 : decode b_X_resume 4 = .ok (.ifCond .ne 5, 3) := by decide +kernel
theorem d_X_resume_7 : decode b_X_resume 7 = .ok (.iconst (-1), 1) := by decide +kernel
theorem d_X_resume_8 : decode b_X_resume 8 = .ok (.ireturn, 1) := by decide +kernel
theorem d_X_resume_9 : decode b_X_resume 9 = .ok (.iload_n 3, 1) := by decide +kernel
theorem d_X_resume_10 : decode b_X_resume 10 = .ok (.invokestatic 92, 3) := by decide +kernel
theorem d_X_resume_13 : decode b_X_resume 13 = .ok (.ifCond .ne 6, 3) := by decide +kernel
theorem d_X_resume_16 : decode b_X_resume 16 = .ok (.bipush (-2), 2) := by decide +kernel
theorem d_X_resume_18 : decode b_X_resume 18 = .ok (.ireturn, 1) := by decide +kernel
theorem d_X_resume_19 : decode b_X_resume 19 = .ok (.aload_n 0, 1) := by decide +kernel
theorem d_X_resume_20 : decode b_X_resume 20 = .ok (.iload_n 2, 1) := by decide +kernel
theorem d_X_resume_21 : decode b_X_resume 21 = .ok (.invokevirtual 120, 3) := by decide +kernel
theorem d_X_resume_24 : decode b_X_resume 24 = .ok (.ifCond .ne 6, 3) := by decide +kernel
theorem d_X_resume_27 : decode b_X_resume 27 = .ok (.bipush (-15), 2) := by decide +kernel
theorem d_X_resume_29 : decode b_X_resume 29 = .ok (.ireturn, 1) := by decide +kernel
theorem d_X_resume_30 : decode b_X_resume 30 = .ok (.aload_n 0, 1) := by decide +kernel
theorem d_X_resume_31 : decode b_X_resume 31 = .ok (.getfield 42, 3) := by decide +kernel
theorem d_X_resume_34 : decode b_X_resume 34 = .ok (.iload_n 2, 1) := by decide +kernel
theorem d_X_resume_35 : decode b_X_resume 35 = .ok (.invokevirtual 123, 3) := by decide +kernel
theorem d_X_resume_38 : decode b_X_resume 38 = .ok (.checkcast 127, 3) := by decide +kernel
theorem d_X_resume_41 : decode b_X_resume 41 = .ok (.astore 4, 2) := by decide +kernel
theorem d_X_resume_43 : decode b_X_resume 43 = .ok (.aload 4, 2) := by decide +kernel
theorem d_X_resume_45 : decode b_X_resume 45 = .ok (.getfield 129, 3) := by decide +kernel
theorem d_X_resume_48 : decode b_X_resume 48 = .ok (.getfield 133, 3) := by decide +kernel
theorem d_X_resume_51 : decode b_X_resume 51 = .ok (.iload_n 1, 1) := by decide +kernel
theorem d_X_resume_52 : decode b_X_resume 52 = .ok (.if_icmp .ne 17, 3) := by decide +kernel
theorem d_X_resume_55 : decode b_X_resume 55 = .ok (.iload_n 3, 1) := by decide +kernel
theorem d_X_resume_56 : decode b_X_resume 56 = .ok (.aload 4, 2) := by decide +kernel
theorem d_X_resume_58 : decode b_X_resume 58 = .ok (.getfield 136, 3) := by decide +kernel
theorem d_X_resume_61 : decode b_X_resume 61 = .ok (.aload_n 0, 1) := by decide +kernel
theorem d_X_resume_62 : decode b_X_resume 62 = .ok (.getfield 69, 3) := by decide +kernel
theorem d_X_resume_65 : decode b_X_resume 65 = .ok (.iadd, 1) := by decide +kernel
theorem d_X_resume_66 : decode b_X_resume 66 = .ok (.if_icmp .le 6, 3) := by decide +kernel
theorem d_X_resume_69 : decode b_X_resume 69 = .ok (.bipush (-15), 2) := by decide +kernel
theorem d_X_resume_71 : decode b_X_resume 71 = .ok (.ireturn, 1) := by decide +kernel
theorem d_X_resume_72 : decode b_X_resume 72 = .ok (.aload 4, 2) := by decide +kernel
theorem d_X_resume_74 : decode b_X_resume 74 = .ok (.getfield 139, 3) := by decide +kernel
theorem d_X_resume_77 : decode b_X_resume 77 = .ok (.ifnonnull 23, 3) := by decide +kernel
theorem d_X_resume_80 : decode b_X_resume 80 = .ok (.aload 4, 2) := by decide +kernel
theorem d_X_resume_82 : decode b_X_resume 82 = .ok (.aload_n 0, 1) := by decide +kernel
theorem d_X_resume_83 : decode b_X_resume 83 = .ok (.aload 4, 2) := by decide +kernel
theorem d_X_resume_85 : decode b_X_resume 85 = .ok (.getfield 129, 3) := by decide +kernel
theorem d_X_resume_88 : decode b_X_resume 88 = .ok (.aload 4, 2) := by decide +kernel
theorem d_X_resume_90 : decode b_X_resume 90 = .ok (.getfield 143, 3) := by decide +kernel
theorem d_X_resume_93 : decode b_X_resume 93 = .ok (.iload_n 3, 1) := by decide +kernel
theorem d_X_resume_94 : decode b_X_resume 94 = .ok (.invokevirtual 112, 3) := by decide +kernel
theorem d_X_resume_97 : decode b_X_resume 97 = .ok (.putfield 139, 3) := by decide +kernel
theorem d_X_resume_100 : decode b_X_resume 100 = .ok (.aload_n 0, 1) := by decide +kernel
theorem d_X_resume_101 : decode b_X_resume 101 = .ok (.iload_n 1, 1) := by decide +kernel
theorem d_X_resume_102 : decode b_X_resume 102 = .ok (.aload 4, 2) := by decide +kernel
theorem d_X_resume_104 : decode b_X_resume 104 = .ok (.getfield 139, 3) := by decide +kernel
theorem d_X_resume_107 : decode b_X_resume 107 = .ok (.invokevirtual 116, 3) := by decide +kernel
theorem d_X_resume_110 : decode b_X_resume 110 = .ok (.ireturn, 1) := by decide +kernel
theorem d_X_isToken_0 : decode b_X_isToken 0 = .ok (.iload_n 1, 1) := by decide +kernel
theorem d_X_isToken_1 : decode b_X_isToken 1 = .ok (.ifCond .lt 18, 3) := by decide +kernel
theorem d_X_isToken_4 : decode b_X_isToken 4 = .ok (.iload_n 1, 1) := by decide +kernel
theorem d_X_isToken_5 : decode b_X_isToken 5 = .ok (.aload_n 0, 1) := by decide +kernel
theorem d_X_isToken_6 : decode b_X_isToken 6 = .ok (.getfield 42, 3) := by decide +kernel
theorem d_X_isToken_9 : decode b_X_isToken 9 = .ok (.invokevirtual 188, 3) := by decide +kernel
theorem d_X_isToken_12 : decode b_X_isToken 12 = .ok (.if_icmp .ge 7, 3) := by decide +kernel
theorem d_X_isToken_15 : decode b_X_isToken 15 = .ok (.iconst 1, 1) := by decide +kernel
theorem d_X_isToken_16 : decode b_X_isToken 16 = .ok (.goto 4, 3) := by decide +kernel
theorem d_X_isToken_19 : decode b_X_isToken 19 = .ok (.iconst 0, 1) := by decide +kernel
theorem d_X_isToken_20 : decode b_X_isToken 20 = .ok (.ireturn, 1) := by decide +kernel
theorem d_X_token_0 : decode b_X_token 0 = .ok (.iload_n 1, 1) := by decide +kernel
theorem d_X_token_1 : decode b_X_token 1 = .ok (.invokestatic 89, 3) := by decide +kernel
theorem d_X_token_4 : decode b_X_token 4 = .ok (.ifCond .ne 5, 3) := by decide +kernel
theorem d_X_token_7 : decode b_X_token 7 = .ok (.iconst (-1), 1) := by decide +kernel
theorem d_X_token_8 : decode b_X_token 8 = .ok (.ireturn, 1) := by decide +kernel
theorem d_X_token_9 : decode b_X_token 9 = .ok (.aload_n 0, 1) := by decide +kernel
theorem d_X_token_10 : decode b_X_token 10 = .ok (.getfield 48, 3) := by decide +kernel
theorem d_X_token_13 : decode b_X_token 13 = .ok (.iload_n 1, 1) := by decide +kernel
theorem d_X_token_14 : decode b_X_token 14 = .ok (.aaload, 1) := by decide +kernel
theorem d_X_token_15 : decode b_X_token 15 = .ok (.astore_n 2, 1) := by decide +kernel
theorem d_X_token_16 : decode b_X_token 16 = .ok (.aload_n 2, 1) := by decide +kernel
theorem d_X_token_17 : decode b_X_token 17 = .ok (.ifnonnull 7, 3) := by decide +kernel
theorem d_X_token_20 : decode b_X_token 20 = .ok (.iconst (-1), 1) := by decide +kernel
theorem d_X_token_21 : decode b_X_token 21 = .ok (.goto 7, 3) := by decide +kernel
theorem d_X_token_24 : decode b_X_token 24 = .ok (.aload_n 2, 1) := by decide +kernel
theorem d_X_token_25 : decode b_X_token 25 = .ok (.getfield 146, 3) := by decide +kernel
theorem d_X_token_28 : decode b_X_token 28 = .ok (.ireturn, 1) := by decide +kernel
theorem d_X_get_0 : decode b_X_get 0 = .ok (.aload_n 0, 1) := by decide +kernel
theorem d_X_get_1 : decode b_X_get 1 = .ok (.iload_n 2, 1) := by decide +kernel
theorem d_X_get_2 : decode b_X_get 2 = .ok (.invokevirtual 95, 3) := by decide +kernel
theorem d_X_get_5 : decode b_X_get 5 = .ok (.ifCond .ne 6, 3) := by decide +kernel
theorem d_X_get_8 : decode b_X_get 8 = .ok (.bipush (-12), 2) := by decide +kernel
theorem d_X_get_10 : decode b_X_get 10 = .ok (.ireturn, 1) := by decide +kernel
theorem d_X_get_11 : decode b_X_get 11 = .ok (.aload_n 0, 1) := by decide +kernel
theorem d_X_get_12 : decode b_X_get 12 = .ok (.iload_n 1, 1) := by decide +kernel
theorem d_X_get_13 : decode b_X_get 13 = .ok (.invokevirtual 83, 3) := by decide +kernel
theorem d_X_get_16 : decode b_X_get 16 = .ok (.ifCond .ne 6, 3) := by decide +kernel
theorem d_X_get_19 : decode b_X_get 19 = .ok (.bipush (-16), 2) := by decide +kernel
theorem d_X_get_21 : decode b_X_get 21 = .ok (.ireturn, 1) := by decide +kernel
theorem d_X_get_22 : decode b_X_get 22 = .ok (.aload_n 0, 1) := by decide +kernel
theorem d_X_get_23 : decode b_X_get 23 = .ok (.getfield 20, 3) := by decide +kernel
theorem d_X_get_26 : decode b_X_get 26 = .ok (.iload_n 1, 1) := by decide +kernel
theorem d_X_get_27 : decode b_X_get 27 = .ok (.baload, 1) := by decide +kernel
theorem d_X_get_28 : decode b_X_get 28 = .ok (.ifCond .eq 15, 3) := by decide +kernel
theorem d_X_get_31 : decode b_X_get 31 = .ok (.bipush (-20), 2) := by decide +kernel
theorem d_X_get_33 : decode b_X_get 33 = .ok (.aload_n 0, 1) := by decide +kernel
theorem d_X_get_34 : decode b_X_get 34 = .ok (.getfield 17, 3) := by decide +kernel
theorem d_X_get_37 : decode b_X_get 37 = .ok (.iload_n 1, 1) := by decide +kernel
theorem d_X_get_38 : decode b_X_get 38 = .ok (.iaload, 1) := by decide +kernel
theorem d_X_get_39 : decode b_X_get 39 = .ok (.isub, 1) := by decide +kernel
theorem d_X_get_40 : decode b_X_get 40 = .ok (.goto 9, 3) := by decide +kernel
theorem d_X_get_43 : decode b_X_get 43 = .ok (.aload_n 0, 1) := by decide +kernel
theorem d_X_get_44 : decode b_X_get 44 = .ok (.getfield 17, 3) := by decide +kernel
theorem d_X_get_47 : decode b_X_get 47 = .ok (.iload_n 1, 1) := by decide +kernel
theorem d_X_get_48 : decode b_X_get 48 = .ok (.iaload, 1) := by decide +kernel
theorem d_X_get_49 : decode b_X_get 49 = .ok (.ireturn, 1) := by decide +kernel
theorem d_X_counted_0 : decode b_X_counted 0 = .ok (.iload_n 1, 1) := by decide +kernel
theorem d_X_counted_1 : decode b_X_counted 1 = .ok (.invokestatic 89, 3) := by decide +kernel
theorem d_X_counted_4 : decode b_X_counted 4 = .ok (.ifCond .eq 12, 3) := by decide +kernel
theorem d_X_counted_7 : decode b_X_counted 7 = .ok (.aload_n 0, 1) := by decide +kernel
theorem d_X_counted_8 : decode b_X_counted 8 = .ok (.getfield 52, 3) := by decide +kernel
theorem d_X_counted_11 : decode b_X_counted 11 = .ok (.iload_n 1, 1) := by decide +kernel
theorem d_X_counted_12 : decode b_X_counted 12 = .ok (.iaload, 1) := by decide +kernel
theorem d_X_counted_13 : decode b_X_counted 13 = .ok (.goto 4, 3) := by decide +kernel
theorem d_X_counted_16 : decode b_X_counted 16 = .ok (.iconst (-1), 1) := by decide +kernel
theorem d_X_counted_17 : decode b_X_counted 17 = .ok (.ireturn, 1) := by decide +kernel
theorem d_X_passed_0 : decode b_X_passed 0 = .ok (.aload_n 0, 1) := by decide +kernel
theorem d_X_passed_1 : decode b_X_passed 1 = .ok (.getfield 55, 3) := by decide +kernel
theorem d_X_passed_4 : decode b_X_passed 4 = .ok (.ireturn, 1) := by decide +kernel
theorem d_X_about_0 : decode b_X_about 0 = .ok (.aload_n 0, 1) := by decide +kernel
theorem d_X_about_1 : decode b_X_about 1 = .ok (.iload_n 1, 1) := by decide +kernel
theorem d_X_about_2 : decode b_X_about 2 = .ok (.invokevirtual 120, 3) := by decide +kernel
theorem d_X_about_5 : decode b_X_about 5 = .ok (.ifCond .ne 5, 3) := by decide +kernel
theorem d_X_about_8 : decode b_X_about 8 = .ok (.iconst (-1), 1) := by decide +kernel
theorem d_X_about_9 : decode b_X_about 9 = .ok (.ireturn, 1) := by decide +kernel
theorem d_X_about_10 : decode b_X_about 10 = .ok (.aload_n 0, 1) := by decide +kernel
theorem d_X_about_11 : decode b_X_about 11 = .ok (.getfield 42, 3) := by decide +kernel
theorem d_X_about_14 : decode b_X_about 14 = .ok (.iload_n 1, 1) := by decide +kernel
theorem d_X_about_15 : decode b_X_about 15 = .ok (.invokevirtual 123, 3) := by decide +kernel
theorem d_X_about_18 : decode b_X_about 18 = .ok (.checkcast 127, 3) := by decide +kernel
theorem d_X_about_21 : decode b_X_about 21 = .ok (.astore_n 3, 1) := by decide +kernel
theorem d_X_about_22 : decode b_X_about 22 = .ok (.iload_n 2, 1) := by decide +kernel
theorem d_X_about_23 : decode b_X_about 23 = .ok (.tableswitch 52 0 2 #[25, 33, 38], 25) := by decide +kernel
theorem d_X_about_48 : decode b_X_about 48 = .ok (.aload_n 3, 1) := by decide +kernel
theorem d_X_about_49 : decode b_X_about 49 = .ok (.getfield 129, 3) := by decide +kernel
theorem d_X_about_52 : decode b_X_about 52 = .ok (.getfield 133, 3) := by decide +kernel
theorem d_X_about_55 : decode b_X_about 55 = .ok (.ireturn, 1) := by decide +kernel
theorem d_X_about_56 : decode b_X_about 56 = .ok (.aload_n 3, 1) := by decide +kernel
theorem d_X_about_57 : decode b_X_about 57 = .ok (.getfield 136, 3) := by decide +kernel
theorem d_X_about_60 : decode b_X_about 60 = .ok (.ireturn, 1) := by decide +kernel
theorem d_X_about_61 : decode b_X_about 61 = .ok (.aload_n 3, 1) := by decide +kernel
theorem d_X_about_62 : decode b_X_about 62 = .ok (.getfield 129, 3) := by decide +kernel
theorem d_X_about_65 : decode b_X_about 65 = .ok (.getfield 177, 3) := by decide +kernel
theorem d_X_about_68 : decode b_X_about 68 = .ok (.arraylength, 1) := by decide +kernel
theorem d_X_about_69 : decode b_X_about 69 = .ok (.aload_n 3, 1) := by decide +kernel
theorem d_X_about_70 : decode b_X_about 70 = .ok (.getfield 143, 3) := by decide +kernel
theorem d_X_about_73 : decode b_X_about 73 = .ok (.isub, 1) := by decide +kernel
theorem d_X_about_74 : decode b_X_about 74 = .ok (.ireturn, 1) := by decide +kernel
theorem d_X_about_75 : decode b_X_about 75 = .ok (.iconst (-1), 1) := by decide +kernel
theorem d_X_about_76 : decode b_X_about 76 = .ok (.ireturn, 1) := by decide +kernel
theorem d_X_row_0 : decode b_X_row 0 = .ok (.iload_n 1, 1) := by decide +kernel
theorem d_X_row_1 : decode b_X_row 1 = .ok (.invokestatic 89, 3) := by decide +kernel
theorem d_X_row_4 : decode b_X_row 4 = .ok (.ifCond .ne 13, 3) := by decide +kernel
theorem d_X_row_7 : decode b_X_row 7 = .ok (.new 149, 3) := by decide +kernel
theorem d_X_row_10 : decode b_X_row 10 = .ok (.dup, 1) := by decide +kernel
theorem d_X_row_11 : decode b_X_row 11 = .ok (.ldc 151, 2) := by decide +kernel
theorem d_X_row_13 : decode b_X_row 13 = .ok (.invokespecial 153, 3) := by decide +kernel
theorem d_X_row_16 : decode b_X_row 16 = .ok (.athrow, 1) := by decide +kernel
theorem d_X_row_17 : decode b_X_row 17 = .ok (.aload_n 0, 1) := by decide +kernel
theorem d_X_row_18 : decode b_X_row 18 = .ok (.getfield 48, 3) := by decide +kernel
theorem d_X_row_21 : decode b_X_row 21 = .ok (.iload_n 1, 1) := by decide +kernel
theorem d_X_row_22 : decode b_X_row 22 = .ok (.aaload, 1) := by decide +kernel
theorem d_X_row_23 : decode b_X_row 23 = .ok (.astore 4, 2) := by decide +kernel
theorem d_X_row_25 : decode b_X_row 25 = .ok (.aload 4, 2) := by decide +kernel
theorem d_X_row_27 : decode b_X_row 27 = .ok (.ifnonnull 13, 3) := by decide +kernel
theorem d_X_row_30 : decode b_X_row 30 = .ok (.new 149, 3) := by decide +kernel
theorem d_X_row_33 : decode b_X_row 33 = .ok (.dup, 1) := by decide +kernel
theorem d_X_row_34 : decode b_X_row 34 = .ok (.ldc 156, 2) := by decide +kernel
theorem d_X_row_36 : decode b_X_row 36 = .ok (.invokespecial 153, 3) := by decide +kernel
theorem d_X_row_39 : decode b_X_row 39 = .ok (.athrow, 1) := by decide +kernel
theorem d_X_row_40 : decode b_X_row 40 = .ok (.iload_n 2, 1) := by decide +kernel
theorem d_X_row_41 : decode b_X_row 41 = .ok (.ifCond .lt 12, 3) := by decide +kernel
theorem d_X_row_44 : decode b_X_row 44 = .ok (.iload_n 2, 1) := by decide +kernel
theorem d_X_row_45 : decode b_X_row 45 = .ok (.aload 4, 2) := by decide +kernel
theorem d_X_row_47 : decode b_X_row 47 = .ok (.getfield 158, 3) := by decide +kernel
theorem d_X_row_50 : decode b_X_row 50 = .ok (.if_icmp .lt 13, 3) := by decide +kernel
theorem d_X_row_53 : decode b_X_row 53 = .ok (.new 149, 3) := by decide +kernel
theorem d_X_row_56 : decode b_X_row 56 = .ok (.dup, 1) := by decide +kernel
theorem d_X_row_57 : decode b_X_row 57 = .ok (.ldc 161, 2) := by decide +kernel
theorem d_X_row_59 : decode b_X_row 59 = .ok (.invokespecial 153, 3) := by decide +kernel
theorem d_X_row_62 : decode b_X_row 62 = .ok (.athrow, 1) := by decide +kernel
theorem d_X_row_63 : decode b_X_row 63 = .ok (.iload_n 3, 1) := by decide +kernel
theorem d_X_row_64 : decode b_X_row 64 = .ok (.tableswitch 70 0 3 #[32, 40, 48, 64], 32) := by decide +kernel
theorem d_X_row_96 : decode b_X_row 96 = .ok (.aload 4, 2) := by decide +kernel
theorem d_X_row_98 : decode b_X_row 98 = .ok (.getfield 163, 3) := by decide +kernel
theorem d_X_row_101 : decode b_X_row 101 = .ok (.iload_n 2, 1) := by decide +kernel
theorem d_X_row_102 : decode b_X_row 102 = .ok (.iaload, 1) := by decide +kernel
theorem d_X_row_103 : decode b_X_row 103 = .ok (.ireturn, 1) := by decide +kernel
theorem d_X_row_104 : decode b_X_row 104 = .ok (.aload 4, 2) := by decide +kernel
theorem d_X_row_106 : decode b_X_row 106 = .ok (.getfield 166, 3) := by decide +kernel
theorem d_X_row_109 : decode b_X_row 109 = .ok (.iload_n 2, 1) := by decide +kernel
theorem d_X_row_110 : decode b_X_row 110 = .ok (.iaload, 1) := by decide +kernel
theorem d_X_row_111 : decode b_X_row 111 = .ok (.ireturn, 1) := by decide +kernel
theorem d_X_row_112 : decode b_X_row 112 = .ok (.aload 4, 2) := by decide +kernel
theorem d_X_row_114 : decode b_X_row 114 = .ok (.getfield 169, 3) := by decide +kernel
theorem d_X_row_117 : decode b_X_row 117 = .ok (.iload_n 2, 1) := by decide +kernel
theorem d_X_row_118 : decode b_X_row 118 = .ok (.baload, 1) := by decide +kernel
theorem d_X_row_119 : decode b_X_row 119 = .ok (.ifCond .eq 7, 3) := by decide +kernel
theorem d_X_row_122 : decode b_X_row 122 = .ok (.iconst 1, 1) := by decide +kernel
theorem d_X_row_123 : decode b_X_row 123 = .ok (.goto 4, 3) := by decide +kernel
theorem d_X_row_126 : decode b_X_row 126 = .ok (.iconst 0, 1) := by decide +kernel
theorem d_X_row_127 : decode b_X_row 127 = .ok (.ireturn, 1) := by decide +kernel
theorem d_X_row_128 : decode b_X_row 128 = .ok (.aload 4, 2) := by decide +kernel
theorem d_X_row_130 : decode b_X_row 130 = .ok (.getfield 172, 3) := by decide +kernel
theorem d_X_row_133 : decode b_X_row 133 = .ok (.ireturn, 1) := by decide +kernel
theorem d_X_row_134 : decode b_X_row 134 = .ok (.new 149, 3) := by decide +kernel
theorem d_X_row_137 : decode b_X_row 137 = .ok (.dup, 1) := by decide +kernel
theorem d_X_row_138 : decode b_X_row 138 = .ok (.ldc 175, 2) := by decide +kernel
theorem d_X_row_140 : decode b_X_row 140 = .ok (.invokespecial 153, 3) := by decide +kernel
theorem d_X_row_143 : decode b_X_row 143 = .ok (.athrow, 1) := by decide +kernel
end
section
theorem d_A_init_0 : decode b_A_init 0 = .ok (.aload_n 0, 1) := by decide +kernel
theorem d_A_init_1 : decode b_A_init 1 = .ok (.invokespecial 1, 3) := by decide +kernel
theorem d_A_init_4 : decode b_A_init 4 = .ok (.aload_n 0, 1) := by decide +kernel
theorem d_A_init_5 : decode b_A_init 5 = .ok (.getstatic 39, 3) := by decide +kernel
theorem d_A_init_8 : decode b_A_init 8 = .ok (.putfield 9, 3) := by decide +kernel
theorem d_A_init_11 : decode b_A_init 11 = .ok (.return_, 1) := by decide +kernel
theorem d_AL_init_0 : decode b_AL_init 0 = .ok (.aload_n 0, 1) := by decide +kernel
theorem d_AL_init_1 : decode b_AL_init 1 = .ok (.invokespecial 1, 3) := by decide +kernel
theorem d_AL_init_4 : decode b_AL_init 4 = .ok (.aload_n 0, 1) := by decide +kernel
theorem d_AL_init_5 : decode b_AL_init 5 = .ok (.iconst 0, 1) := by decide +kernel
theorem d_AL_init_6 : decode b_AL_init 6 = .ok (.putfield 7, 3) := by decide +kernel
theorem d_AL_init_9 : decode b_AL_init 9 = .ok (.return_, 1) := by decide +kernel
theorem d_AC_init_0 : decode b_AC_init 0 = .ok (.aload_n 0, 1) := by decide +kernel
theorem d_AC_init_1 : decode b_AC_init 1 = .ok (.invokespecial 1, 3) := by decide +kernel
theorem d_AC_init_4 : decode b_AC_init 4 = .ok (.return_, 1) := by decide +kernel
theorem d_Ma_min_0 : decode b_Ma_min 0 = .ok (.iload_n 0, 1) := by decide +kernel
theorem d_Ma_min_1 : decode b_Ma_min 1 = .ok (.iload_n 1, 1) := by decide +kernel
theorem d_Ma_min_2 : decode b_Ma_min 2 = .ok (.if_icmp .gt 7, 3) := by decide +kernel
theorem d_Ma_min_5 : decode b_Ma_min 5 = .ok (.iload_n 0, 1) := by decide +kernel
theorem d_Ma_min_6 : decode b_Ma_min 6 = .ok (.goto 4, 3) := by decide +kernel
theorem d_Ma_min_9 : decode b_Ma_min 9 = .ok (.iload_n 1, 1) := by decide +kernel
theorem d_Ma_min_10 : decode b_Ma_min 10 = .ok (.ireturn, 1) := by decide +kernel
theorem d_Ma_max_0 : decode b_Ma_max 0 = .ok (.iload_n 0, 1) := by decide +kernel
theorem d_Ma_max_1 : decode b_Ma_max 1 = .ok (.iload_n 1, 1) := by decide +kernel
theorem d_Ma_max_2 : decode b_Ma_max 2 = .ok (.if_icmp .lt 7, 3) := by decide +kernel
theorem d_Ma_max_5 : decode b_Ma_max 5 = .ok (.iload_n 0, 1) := by decide +kernel
theorem d_Ma_max_6 : decode b_Ma_max 6 = .ok (.goto 4, 3) := by decide +kernel
theorem d_Ma_max_9 : decode b_Ma_max 9 = .ok (.iload_n 1, 1) := by decide +kernel
theorem d_Ma_max_10 : decode b_Ma_max 10 = .ok (.ireturn, 1) := by decide +kernel
theorem d_Ar_copyOf_0 : decode b_Ar_copyOf 0 = .ok (.iload_n 1, 1) := by decide +kernel
theorem d_Ar_copyOf_1 : decode b_Ar_copyOf 1 = .ok (.aload_n 0, 1) := by decide +kernel
theorem d_Ar_copyOf_2 : decode b_Ar_copyOf 2 = .ok (.arraylength, 1) := by decide +kernel
theorem d_Ar_copyOf_3 : decode b_Ar_copyOf 3 = .ok (.if_icmp .ne 11, 3) := by decide +kernel
theorem d_Ar_copyOf_6 : decode b_Ar_copyOf 6 = .ok (.aload_n 0, 1) := by decide +kernel
theorem d_Ar_copyOf_7 : decode b_Ar_copyOf 7 = .ok (.invokevirtual 316, 3) := by decide +kernel
theorem d_Ar_copyOf_10 : decode b_Ar_copyOf 10 = .ok (.checkcast 317, 3) := by decide +kernel
theorem d_Ar_copyOf_13 : decode b_Ar_copyOf 13 = .ok (.areturn, 1) := by decide +kernel
theorem d_Ar_copyOf_14 : decode b_Ar_copyOf 14 = .ok (.iload_n 1, 1) := by decide +kernel
theorem d_Ar_copyOf_15 : decode b_Ar_copyOf 15 = .ok (.newarray .int, 2) := by decide +kernel
theorem d_Ar_copyOf_17 : decode b_Ar_copyOf 17 = .ok (.astore_n 2, 1) := by decide +kernel
theorem d_Ar_copyOf_18 : decode b_Ar_copyOf 18 = .ok (.aload_n 0, 1) := by decide +kernel
theorem d_Ar_copyOf_19 : decode b_Ar_copyOf 19 = .ok (.iconst 0, 1) := by decide +kernel
theorem d_Ar_copyOf_20 : decode b_Ar_copyOf 20 = .ok (.aload_n 2, 1) := by decide +kernel
theorem d_Ar_copyOf_21 : decode b_Ar_copyOf 21 = .ok (.iconst 0, 1) := by decide +kernel
theorem d_Ar_copyOf_22 : decode b_Ar_copyOf 22 = .ok (.aload_n 0, 1) := by decide +kernel
theorem d_Ar_copyOf_23 : decode b_Ar_copyOf 23 = .ok (.arraylength, 1) := by decide +kernel
theorem d_Ar_copyOf_24 : decode b_Ar_copyOf 24 = .ok (.iload_n 1, 1) := by decide +kernel
theorem d_Ar_copyOf_25 : decode b_Ar_copyOf 25 = .ok (.invokestatic 304, 3) := by decide +kernel
theorem d_Ar_copyOf_28 : decode b_Ar_copyOf 28 = .ok (.invokestatic 150, 3) := by decide +kernel
theorem d_Ar_copyOf_31 : decode b_Ar_copyOf 31 = .ok (.aload_n 2, 1) := by decide +kernel
theorem d_Ar_copyOf_32 : decode b_Ar_copyOf 32 = .ok (.areturn, 1) := by decide +kernel
theorem d_A_size_0 : decode b_A_size 0 = .ok (.aload_n 0, 1) := by decide +kernel
theorem d_A_size_1 : decode b_A_size 1 = .ok (.getfield 48, 3) := by decide +kernel
theorem d_A_size_4 : decode b_A_size 4 = .ok (.ireturn, 1) := by decide +kernel
theorem d_A_add_0 : decode b_A_add 0 = .ok (.aload_n 0, 1) := by decide +kernel
theorem d_A_add_1 : decode b_A_add 1 = .ok (.dup, 1) := by decide +kernel
theorem d_A_add_2 : decode b_A_add 2 = .ok (.getfield 63, 3) := by decide +kernel
theorem d_A_add_5 : decode b_A_add 5 = .ok (.iconst 1, 1) := by decide +kernel
theorem d_A_add_6 : decode b_A_add 6 = .ok (.iadd, 1) := by decide +kernel
theorem d_A_add_7 : decode b_A_add 7 = .ok (.putfield 63, 3) := by decide +kernel
theorem d_A_add_10 : decode b_A_add 10 = .ok (.aload_n 0, 1) := by decide +kernel
theorem d_A_add_11 : decode b_A_add 11 = .ok (.aload_n 1, 1) := by decide +kernel
theorem d_A_add_12 : decode b_A_add 12 = .ok (.aload_n 0, 1) := by decide +kernel
theorem d_A_add_13 : decode b_A_add 13 = .ok (.getfield 9, 3) := by decide +kernel
theorem d_A_add_16 : decode b_A_add 16 = .ok (.aload_n 0, 1) := by decide +kernel
theorem d_A_add_17 : decode b_A_add 17 = .ok (.getfield 48, 3) := by decide +kernel
theorem d_A_add_20 : decode b_A_add 20 = .ok (.invokevirtual 131, 3) := by decide +kernel
theorem d_A_add_23 : decode b_A_add 23 = .ok (.iconst 1, 1) := by decide +kernel
theorem d_A_add_24 : decode b_A_add 24 = .ok (.ireturn, 1) := by decide +kernel
theorem d_A_add3_0 : decode b_A_add3 0 = .ok (.iload_n 3, 1) := by decide +kernel
theorem d_A_add3_1 : decode b_A_add3 1 = .ok (.aload_n 2, 1) := by decide +kernel
theorem d_A_add3_2 : decode b_A_add3 2 = .ok (.arraylength, 1) := by decide +kernel
theorem d_A_add3_3 : decode b_A_add3 3 = .ok (.if_icmp .ne 8, 3) := by decide +kernel
theorem d_A_add3_6 : decode b_A_add3 6 = .ok (.aload_n 0, 1) := by decide +kernel
theorem d_A_add3_7 : decode b_A_add3 7 = .ok (.invokevirtual 129, 3) := by decide +kernel
theorem d_A_add3_10 : decode b_A_add3 10 = .ok (.astore_n 2, 1) := by decide +kernel
theorem d_A_add3_11 : decode b_A_add3 11 = .ok (.aload_n 2, 1) := by decide +kernel
theorem d_A_add3_12 : decode b_A_add3 12 = .ok (.iload_n 3, 1) := by decide +kernel
theorem d_A_add3_13 : decode b_A_add3 13 = .ok (.aload_n 1, 1) := by decide +kernel
theorem d_A_add3_14 : decode b_A_add3 14 = .ok (.aastore, 1) := by decide +kernel
theorem d_A_add3_15 : decode b_A_add3 15 = .ok (.aload_n 0, 1) := by decide +kernel
theorem d_A_add3_16 : decode b_A_add3 16 = .ok (.iload_n 3, 1) := by decide +kernel
theorem d_A_add3_17 : decode b_A_add3 17 = .ok (.iconst 1, 1) := by decide +kernel
theorem d_A_add3_18 : decode b_A_add3 18 = .ok (.iadd, 1) := by decide +kernel
theorem d_A_add3_19 : decode b_A_add3 19 = .ok (.putfield 48, 3) := by decide +kernel
theorem d_A_add3_22 : decode b_A_add3 22 = .ok (.return_, 1) := by decide +kernel
theorem d_A_grow_0 : decode b_A_grow 0 = .ok (.aload_n 0, 1) := by decide +kernel
theorem d_A_grow_1 : decode b_A_grow 1 = .ok (.aload_n 0, 1) := by decide +kernel
theorem d_A_grow_2 : decode b_A_grow 2 = .ok (.getfield 48, 3) := by decide +kernel
theorem d_A_grow_5 : decode b_A_grow 5 = .ok (.iconst 1, 1) := by decide +kernel
theorem d_A_grow_6 : decode b_A_grow 6 = .ok (.iadd, 1) := by decide +kernel
theorem d_A_grow_7 : decode b_A_grow 7 = .ok (.invokevirtual 69, 3) := by decide +kernel
theorem d_A_grow_10 : decode b_A_grow 10 = .ok (.areturn, 1) := by decide +kernel
theorem d_A_grow1_0 : decode b_A_grow1 0 = .ok (.aload_n 0, 1) := by decide +kernel
theorem d_A_grow1_1 : decode b_A_grow1 1 = .ok (.getfield 9, 3) := by decide +kernel
theorem d_A_grow1_4 : decode b_A_grow1 4 = .ok (.arraylength, 1) := by decide +kernel
theorem d_A_grow1_5 : decode b_A_grow1 5 = .ok (.istore_n 2, 1) := by decide +kernel
theorem d_A_grow1_6 : decode b_A_grow1 6 = .ok (.iload_n 2, 1) := by decide +kernel
theorem d_A_grow1_7 : decode b_A_grow1 7 = .ok (.ifCond .gt 13, 3) := by decide +kernel
theorem d_A_grow1_10 : decode b_A_grow1 10 = .ok (.aload_n 0, 1) := by decide +kernel
theorem d_A_grow1_11 : decode b_A_grow1 11 = .ok (.getfield 9, 3) := by decide +kernel
theorem d_A_grow1_14 : decode b_A_grow1 14 = .ok (.getstatic 39, 3) := by decide +kernel
theorem d_A_grow1_17 : decode b_A_grow1 17 = .ok (.if_acmp .eq 28, 3) := by decide +kernel
theorem d_A_grow1_20 : decode b_A_grow1 20 = .ok (.iload_n 2, 1) := by decide +kernel
theorem d_A_grow1_21 : decode b_A_grow1 21 = .ok (.iload_n 1, 1) := by decide +kernel
theorem d_A_grow1_22 : decode b_A_grow1 22 = .ok (.iload_n 2, 1) := by decide +kernel
theorem d_A_grow1_23 : decode b_A_grow1 23 = .ok (.isub, 1) := by decide +kernel
theorem d_A_grow1_24 : decode b_A_grow1 24 = .ok (.iload_n 2, 1) := by decide +kernel
theorem d_A_grow1_25 : decode b_A_grow1 25 = .ok (.iconst 1, 1) := by decide +kernel
theorem d_A_grow1_26 : decode b_A_grow1 26 = .ok (.ishr, 1) := by decide +kernel
theorem d_A_grow1_27 : decode b_A_grow1 27 = .ok (.invokestatic 73, 3) := by decide +kernel
theorem d_A_grow1_30 : decode b_A_grow1 30 = .ok (.istore_n 3, 1) := by decide +kernel
theorem d_A_grow1_31 : decode b_A_grow1 31 = .ok (.aload_n 0, 1) := by decide +kernel
theorem d_A_grow1_32 : decode b_A_grow1 32 = .ok (.aload_n 0, 1) := by decide +kernel
theorem d_A_grow1_33 : decode b_A_grow1 33 = .ok (.getfield 9, 3) := by decide +kernel
theorem d_A_grow1_36 : decode b_A_grow1 36 = .ok (.iload_n 3, 1) := by decide +kernel
theorem d_A_grow1_37 : decode b_A_grow1 37 = .ok (.invokestatic 66, 3) := by decide +kernel
theorem d_A_grow1_40 : decode b_A_grow1 40 = .ok (.dup_x1, 1) := by decide +kernel
theorem d_A_grow1_41 : decode b_A_grow1 41 = .ok (.putfield 9, 3) := by decide +kernel
theorem d_A_grow1_44 : decode b_A_grow1 44 = .ok (.areturn, 1) := by decide +kernel
theorem d_A_grow1_45 : decode b_A_grow1 45 = .ok (.aload_n 0, 1) := by decide +kernel
theorem d_A_grow1_46 : decode b_A_grow1 46 = .ok (.bipush 10, 2) := by decide +kernel
theorem d_A_grow1_48 : decode b_A_grow1 48 = .ok (.iload_n 1, 1) := by decide +kernel
theorem d_A_grow1_49 : decode b_A_grow1 49 = .ok (.invokestatic 79, 3) := by decide +kernel
theorem d_A_grow1_52 : decode b_A_grow1 52 = .ok (.anewarray 7, 3) := by decide +kernel
theorem d_A_grow1_55 : decode b_A_grow1 55 = .ok (.dup_x1, 1) := by decide +kernel
theorem d_A_grow1_56 : decode b_A_grow1 56 = .ok (.putfield 9, 3) := by decide +kernel
theorem d_A_grow1_59 : decode b_A_grow1 59 = .ok (.areturn, 1) := by decide +kernel
theorem d_AS_newLength_0 : decode b_AS_newLength 0 = .ok (.iload_n 0, 1) := by decide +kernel
theorem d_AS_newLength_1 : decode b_AS_newLength 1 = .ok (.iload_n 1, 1) := by decide +kernel
theorem d_AS_newLength_2 : decode b_AS_newLength 2 = .ok (.iload_n 2, 1) := by decide +kernel
theorem d_AS_newLength_3 : decode b_AS_newLength 3 = .ok (.invokestatic 194, 3) := by decide +kernel
theorem d_AS_newLength_6 : decode b_AS_newLength 6 = .ok (.iadd, 1) := by decide +kernel
theorem d_AS_newLength_7 : decode b_AS_newLength 7 = .ok (.istore_n 3, 1) := by decide +kernel
theorem d_AS_newLength_8 : decode b_AS_newLength 8 = .ok (.iconst 0, 1) := by decide +kernel
theorem d_AS_newLength_9 : decode b_AS_newLength 9 = .ok (.iload_n 3, 1) := by decide +kernel
theorem d_AS_newLength_10 : decode b_AS_newLength 10 = .ok (.if_icmp .ge 11, 3) := by decide +kernel
theorem d_AS_newLength_13 : decode b_AS_newLength 13 = .ok (.iload_n 3, 1) := by decide +kernel
theorem d_AS_newLength_14 : decode b_AS_newLength 14 = .ok (.ldc 200, 2) := by decide +kernel
theorem d_AS_newLength_16 : decode b_AS_newLength 16 = .ok (.if_icmp .gt 5, 3) := by decide +kernel
theorem d_AS_newLength_19 : decode b_AS_newLength 19 = .ok (.iload_n 3, 1) := by decide +kernel
theorem d_AS_newLength_20 : decode b_AS_newLength 20 = .ok (.ireturn, 1) := by decide +kernel
theorem d_AS_newLength_21 : decode b_AS_newLength 21 = .ok (.iload_n 0, 1) := by decide +kernel
theorem d_AS_newLength_22 : decode b_AS_newLength 22 = .ok (.iload_n 1, 1) := by decide +kernel
theorem d_AS_newLength_23 : decode b_AS_newLength 23 = .ok (.invokestatic 201, 3) := by decide +kernel
theorem d_AS_newLength_26 : decode b_AS_newLength 26 = .ok (.ireturn, 1) := by decide +kernel
theorem d_AS_hugeLength_0 : decode b_AS_hugeLength 0 = .ok (.iload_n 0, 1) := by decide +kernel
theorem d_AS_hugeLength_1 : decode b_AS_hugeLength 1 = .ok (.iload_n 1, 1) := by decide +kernel
theorem d_AS_hugeLength_2 : decode b_AS_hugeLength 2 = .ok (.iadd, 1) := by decide +kernel
theorem d_AS_hugeLength_3 : decode b_AS_hugeLength 3 = .ok (.istore_n 2, 1) := by decide +kernel
theorem d_AS_hugeLength_4 : decode b_AS_hugeLength 4 = .ok (.iload_n 2, 1) := by decide +kernel
theorem d_AS_hugeLength_5 : decode b_AS_hugeLength 5 = .ok (.ifCond .ge 44, 3) := by decide +kernel
theorem d_AS_hugeLength_8 : decode b_AS_hugeLength 8 = .ok (.new 204, 3) := by decide +kernel
theorem d_AS_hugeLength_11 : decode b_AS_hugeLength 11 = .ok (.dup, 1) := by decide +kernel
theorem d_AS_hugeLength_12 : decode b_AS_hugeLength 12 = .ok (.new 89, 3) := by decide +kernel
theorem d_AS_hugeLength_15 : decode b_AS_hugeLength 15 = .ok (.dup, 1) := by decide +kernel
theorem d_AS_hugeLength_16 : decode b_AS_hugeLength 16 = .ok (.invokespecial 91, 3) := by decide +kernel
theorem d_AS_hugeLength_19 : decode b_AS_hugeLength 19 = .ok (.ldc 206, 2) := by decide +kernel
theorem d_AS_hugeLength_21 : decode b_AS_hugeLength 21 = .ok (.invokevirtual 94, 3) := by decide +kernel
theorem d_AS_hugeLength_24 : decode b_AS_hugeLength 24 = .ok (.iload_n 0, 1) := by decide +kernel
theorem d_AS_hugeLength_25 : decode b_AS_hugeLength 25 = .ok (.invokevirtual 98, 3) := by decide +kernel
theorem d_AS_hugeLength_28 : decode b_AS_hugeLength 28 = .ok (.ldc 208, 2) := by decide +kernel
theorem d_AS_hugeLength_30 : decode b_AS_hugeLength 30 = .ok (.invokevirtual 94, 3) := by decide +kernel
theorem d_AS_hugeLength_33 : decode b_AS_hugeLength 33 = .ok (.iload_n 1, 1) := by decide +kernel
theorem d_AS_hugeLength_34 : decode b_AS_hugeLength 34 = .ok (.invokevirtual 98, 3) := by decide +kernel
theorem d_AS_hugeLength_37 : decode b_AS_hugeLength 37 = .ok (.ldc 210, 2) := by decide +kernel
theorem d_AS_hugeLength_39 : decode b_AS_hugeLength 39 = .ok (.invokevirtual 94, 3) := by decide +kernel
theorem d_AS_hugeLength_42 : decode b_AS_hugeLength 42 = .ok (.invokevirtual 101, 3) := by decide +kernel
theorem d_AS_hugeLength_45 : decode b_AS_hugeLength 45 = .ok (.invokespecial 212, 3) := by decide +kernel
theorem d_AS_hugeLength_48 : decode b_AS_hugeLength 48 = .ok (.athrow, 1) := by decide +kernel
theorem d_AS_hugeLength_49 : decode b_AS_hugeLength 49 = .ok (.iload_n 2, 1) := by decide +kernel
theorem d_AS_hugeLength_50 : decode b_AS_hugeLength 50 = .ok (.ldc 200, 2) := by decide +kernel
theorem d_AS_hugeLength_52 : decode b_AS_hugeLength 52 = .ok (.if_icmp .gt 6, 3) := by decide +kernel
theorem d_AS_hugeLength_55 : decode b_AS_hugeLength 55 = .ok (.ldc 200, 2) := by decide +kernel
theorem d_AS_hugeLength_57 : decode b_AS_hugeLength 57 = .ok (.ireturn, 1) := by decide +kernel
theorem d_AS_hugeLength_58 : decode b_AS_hugeLength 58 = .ok (.iload_n 2, 1) := by decide +kernel
theorem d_AS_hugeLength_59 : decode b_AS_hugeLength 59 = .ok (.ireturn, 1) := by decide +kernel
theorem d_Ar_copyOfO_0 : decode b_Ar_copyOfO 0 = .ok (.aload_n 0, 1) := by decide +kernel
theorem d_Ar_copyOfO_1 : decode b_Ar_copyOfO 1 = .ok (.iload_n 1, 1) := by decide +kernel
theorem d_Ar_copyOfO_2 : decode b_Ar_copyOfO 2 = .ok (.aload_n 0, 1) := by decide +kernel
theorem d_Ar_copyOfO_3 : decode b_Ar_copyOfO 3 = .ok (.invokevirtual 86, 3) := by decide +kernel
theorem d_Ar_copyOfO_6 : decode b_Ar_copyOfO 6 = .ok (.invokestatic 300, 3) := by decide +kernel
theorem d_Ar_copyOfO_9 : decode b_Ar_copyOfO 9 = .ok (.areturn, 1) := by decide +kernel
theorem d_Ar_copyOfC_0 : decode b_Ar_copyOfC 0 = .ok (.aload_n 2, 1) := by decide +kernel
theorem d_Ar_copyOfC_1 : decode b_Ar_copyOfC 1 = .ok (.ldc 110, 2) := by decide +kernel
theorem d_Ar_copyOfC_3 : decode b_Ar_copyOfC 3 = .ok (.if_acmp .ne 10, 3) := by decide +kernel
theorem d_Ar_copyOfC_6 : decode b_Ar_copyOfC 6 = .ok (.iload_n 1, 1) := by decide +kernel
theorem d_Ar_copyOfC_7 : decode b_Ar_copyOfC 7 = .ok (.anewarray 2, 3) := by decide +kernel
theorem d_Ar_copyOfC_10 : decode b_Ar_copyOfC 10 = .ok (.goto 14, 3) := by decide +kernel
theorem d_Ar_copyOfC_13 : decode b_Ar_copyOfC 13 = .ok (.aload_n 2, 1) := by decide +kernel
theorem d_Ar_copyOfC_14 : decode b_Ar_copyOfC 14 = .ok (.invokevirtual 90, 3) := by decide +kernel
theorem d_Ar_copyOfC_17 : decode b_Ar_copyOfC 17 = .ok (.iload_n 1, 1) := by decide +kernel
theorem d_Ar_copyOfC_18 : decode b_Ar_copyOfC 18 = .ok (.invokestatic 95, 3) := by decide +kernel
theorem d_Ar_copyOfC_21 : decode b_Ar_copyOfC 21 = .ok (.checkcast 110, 3) := by decide +kernel
theorem d_Ar_copyOfC_24 : decode b_Ar_copyOfC 24 = .ok (.astore_n 3, 1) := by decide +kernel
theorem d_Ar_copyOfC_25 : decode b_Ar_copyOfC 25 = .ok (.aload_n 0, 1) := by decide +kernel
theorem d_Ar_copyOfC_26 : decode b_Ar_copyOfC 26 = .ok (.iconst 0, 1) := by decide +kernel
theorem d_Ar_copyOfC_27 : decode b_Ar_copyOfC 27 = .ok (.aload_n 3, 1) := by decide +kernel
theorem d_Ar_copyOfC_28 : decode b_Ar_copyOfC 28 = .ok (.iconst 0, 1) := by decide +kernel
theorem d_Ar_copyOfC_29 : decode b_Ar_copyOfC 29 = .ok (.aload_n 0, 1) := by decide +kernel
theorem d_Ar_copyOfC_30 : decode b_Ar_copyOfC 30 = .ok (.arraylength, 1) := by decide +kernel
theorem d_Ar_copyOfC_31 : decode b_Ar_copyOfC 31 = .ok (.iload_n 1, 1) := by decide +kernel
theorem d_Ar_copyOfC_32 : decode b_Ar_copyOfC 32 = .ok (.invokestatic 304, 3) := by decide +kernel
theorem d_Ar_copyOfC_35 : decode b_Ar_copyOfC 35 = .ok (.invokestatic 150, 3) := by decide +kernel
theorem d_Ar_copyOfC_38 : decode b_Ar_copyOfC 38 = .ok (.aload_n 3, 1) := by decide +kernel
theorem d_Ar_copyOfC_39 : decode b_Ar_copyOfC 39 = .ok (.areturn, 1) := by decide +kernel
theorem d_A_get_0 : decode b_A_get 0 = .ok (.iload_n 1, 1) := by decide +kernel
theorem d_A_get_1 : decode b_A_get 1 = .ok (.aload_n 0, 1) := by decide +kernel
theorem d_A_get_2 : decode b_A_get 2 = .ok (.getfield 48, 3) := by decide +kernel
theorem d_A_get_5 : decode b_A_get 5 = .ok (.invokestatic 118, 3) := by decide +kernel
theorem d_A_get_8 : decode b_A_get 8 = .ok (.pop, 1) := by decide +kernel
theorem d_A_get_9 : decode b_A_get 9 = .ok (.aload_n 0, 1) := by decide +kernel
theorem d_A_get_10 : decode b_A_get 10 = .ok (.iload_n 1, 1) := by decide +kernel
theorem d_A_get_11 : decode b_A_get 11 = .ok (.invokevirtual 123, 3) := by decide +kernel
theorem d_A_get_14 : decode b_A_get 14 = .ok (.areturn, 1) := by decide +kernel
theorem d_Ob_checkIndex_0 : decode b_Ob_checkIndex 0 = .ok (.iload_n 0, 1) := by decide +kernel
theorem d_Ob_checkIndex_1 : decode b_Ob_checkIndex 1 = .ok (.iload_n 1, 1) := by decide +kernel
theorem d_Ob_checkIndex_2 : decode b_Ob_checkIndex 2 = .ok (.aconst_null, 1) := by decide +kernel
theorem d_Ob_checkIndex_3 : decode b_Ob_checkIndex 3 = .ok (.invokestatic 105, 3) := by decide +kernel
theorem d_Ob_checkIndex_6 : decode b_Ob_checkIndex 6 = .ok (.ireturn, 1) := by decide +kernel
theorem d_Pr_checkIndex_0 : decode b_Pr_checkIndex 0 = .ok (.iload_n 0, 1) := by decide +kernel
theorem d_Pr_checkIndex_1 : decode b_Pr_checkIndex 1 = .ok (.ifCond .lt 8, 3) := by decide +kernel
theorem d_Pr_checkIndex_4 : decode b_Pr_checkIndex 4 = .ok (.iload_n 0, 1) := by decide +kernel
theorem d_Pr_checkIndex_5 : decode b_Pr_checkIndex 5 = .ok (.iload_n 1, 1) := by decide +kernel
theorem d_Pr_checkIndex_6 : decode b_Pr_checkIndex 6 = .ok (.if_icmp .lt 10, 3) := by decide +kernel
theorem d_Pr_checkIndex_9 : decode b_Pr_checkIndex 9 = .ok (.aload_n 2, 1) := by decide +kernel
theorem d_Pr_checkIndex_10 : decode b_Pr_checkIndex 10 = .ok (.iload_n 0, 1) := by decide +kernel
theorem d_Pr_checkIndex_11 : decode b_Pr_checkIndex 11 = .ok (.iload_n 1, 1) := by decide +kernel
theorem d_Pr_checkIndex_12 : decode b_Pr_checkIndex 12 = .ok (.invokestatic 95, 3) := by decide +kernel
theorem d_Pr_checkIndex_15 : decode b_Pr_checkIndex 15 = .ok (.athrow, 1) := by decide +kernel
theorem d_Pr_checkIndex_16 : decode b_Pr_checkIndex 16 = .ok (.iload_n 0, 1) := by decide +kernel
theorem d_Pr_checkIndex_17 : decode b_Pr_checkIndex 17 = .ok (.ireturn, 1) := by decide +kernel
theorem d_A_elementData_0 : decode b_A_elementData 0 = .ok (.aload_n 0, 1) := by decide +kernel
theorem d_A_elementData_1 : decode b_A_elementData 1 = .ok (.getfield 9, 3) := by decide +kernel
theorem d_A_elementData_4 : decode b_A_elementData 4 = .ok (.iload_n 1, 1) := by decide +kernel
theorem d_A_elementData_5 : decode b_A_elementData 5 = .ok (.aaload, 1) := by decide +kernel
theorem d_A_elementData_6 : decode b_A_elementData 6 = .ok (.areturn, 1) := by decide +kernel
end
section
theorem d_M_init_0 : decode b_M_init 0 = .ok (.aload_n 0, 1) := by decide +kernel
theorem d_M_init_1 : decode b_M_init 1 = .ok (.invokespecial 1, 3) := by decide +kernel
theorem d_M_init_4 : decode b_M_init 4 = .ok (.aload_n 0, 1) := by decide +kernel
theorem d_M_init_5 : decode b_M_init 5 = .ok (.sipush 150, 3) := by decide +kernel
theorem d_M_init_8 : decode b_M_init 8 = .ok (.newarray .int, 2) := by decide +kernel
theorem d_M_init_10 : decode b_M_init 10 = .ok (.putfield 7, 3) := by decide +kernel
theorem d_M_init_13 : decode b_M_init 13 = .ok (.aload_n 0, 1) := by decide +kernel
theorem d_M_init_14 : decode b_M_init 14 = .ok (.sipush 150, 3) := by decide +kernel
theorem d_M_init_17 : decode b_M_init 17 = .ok (.newarray .int, 2) := by decide +kernel
theorem d_M_init_19 : decode b_M_init 19 = .ok (.putfield 13, 3) := by decide +kernel
theorem d_M_init_22 : decode b_M_init 22 = .ok (.aload_n 0, 1) := by decide +kernel
theorem d_M_init_23 : decode b_M_init 23 = .ok (.sipush 150, 3) := by decide +kernel
theorem d_M_init_26 : decode b_M_init 26 = .ok (.newarray .boolean, 2) := by decide +kernel
theorem d_M_init_28 : decode b_M_init 28 = .ok (.putfield 16, 3) := by decide +kernel
theorem d_M_init_31 : decode b_M_init 31 = .ok (.aload_n 0, 1) := by decide +kernel
theorem d_M_init_32 : decode b_M_init 32 = .ok (.sipush 150, 3) := by decide +kernel
theorem d_M_init_35 : decode b_M_init 35 = .ok (.newarray .int, 2) := by decide +kernel
theorem d_M_init_37 : decode b_M_init 37 = .ok (.putfield 20, 3) := by decide +kernel
theorem d_M_init_40 : decode b_M_init 40 = .ok (.aload_n 0, 1) := by decide +kernel
theorem d_M_init_41 : decode b_M_init 41 = .ok (.bipush 6, 2) := by decide +kernel
theorem d_M_init_43 : decode b_M_init 43 = .ok (.newarray .boolean, 2) := by decide +kernel
theorem d_M_init_45 : decode b_M_init 45 = .ok (.putfield 23, 3) := by decide +kernel
theorem d_M_init_48 : decode b_M_init 48 = .ok (.aload_n 0, 1) := by decide +kernel
theorem d_M_init_49 : decode b_M_init 49 = .ok (.bipush 30, 2) := by decide +kernel
theorem d_M_init_51 : decode b_M_init 51 = .ok (.newarray .int, 2) := by decide +kernel
theorem d_M_init_53 : decode b_M_init 53 = .ok (.putfield 26, 3) := by decide +kernel
theorem d_M_init_56 : decode b_M_init 56 = .ok (.aload_n 0, 1) := by decide +kernel
theorem d_M_init_57 : decode b_M_init 57 = .ok (.bipush 30, 2) := by decide +kernel
theorem d_M_init_59 : decode b_M_init 59 = .ok (.newarray .int, 2) := by decide +kernel
theorem d_M_init_61 : decode b_M_init 61 = .ok (.putfield 29, 3) := by decide +kernel
theorem d_M_init_64 : decode b_M_init 64 = .ok (.aload_n 0, 1) := by decide +kernel
theorem d_M_init_65 : decode b_M_init 65 = .ok (.bipush 30, 2) := by decide +kernel
theorem d_M_init_67 : decode b_M_init 67 = .ok (.newarray .int, 2) := by decide +kernel
theorem d_M_init_69 : decode b_M_init 69 = .ok (.putfield 32, 3) := by decide +kernel
theorem d_M_init_72 : decode b_M_init 72 = .ok (.aload_n 0, 1) := by decide +kernel
theorem d_M_init_73 : decode b_M_init 73 = .ok (.bipush 30, 2) := by decide +kernel
theorem d_M_init_75 : decode b_M_init 75 = .ok (.newarray .int, 2) := by decide +kernel
theorem d_M_init_77 : decode b_M_init 77 = .ok (.putfield 35, 3) := by decide +kernel
theorem d_M_init_80 : decode b_M_init 80 = .ok (.aload_n 0, 1) := by decide +kernel
theorem d_M_init_81 : decode b_M_init 81 = .ok (.sipush 4500, 3) := by decide +kernel
theorem d_M_init_84 : decode b_M_init 84 = .ok (.newarray .int, 2) := by decide +kernel
theorem d_M_init_86 : decode b_M_init 86 = .ok (.putfield 38, 3) := by decide +kernel
theorem d_M_init_89 : decode b_M_init 89 = .ok (.aload_n 0, 1) := by decide +kernel
theorem d_M_init_90 : decode b_M_init 90 = .ok (.sipush 4600, 3) := by decide +kernel
theorem d_M_init_93 : decode b_M_init 93 = .ok (.newarray .int, 2) := by decide +kernel
theorem d_M_init_95 : decode b_M_init 95 = .ok (.putfield 41, 3) := by decide +kernel
theorem d_M_init_98 : decode b_M_init 98 = .ok (.aload_n 0, 1) := by decide +kernel
theorem d_M_init_99 : decode b_M_init 99 = .ok (.sipush 4600, 3) := by decide +kernel
theorem d_M_init_102 : decode b_M_init 102 = .ok (.newarray .int, 2) := by decide +kernel
theorem d_M_init_104 : decode b_M_init 104 = .ok (.putfield 44, 3) := by decide +kernel
theorem d_M_init_107 : decode b_M_init 107 = .ok (.aload_n 0, 1) := by decide +kernel
theorem d_M_init_108 : decode b_M_init 108 = .ok (.sipush 4600, 3) := by decide +kernel
theorem d_M_init_111 : decode b_M_init 111 = .ok (.newarray .int, 2) := by decide +kernel
theorem d_M_init_113 : decode b_M_init 113 = .ok (.putfield 47, 3) := by decide +kernel
theorem d_M_init_116 : decode b_M_init 116 = .ok (.aload_n 0, 1) := by decide +kernel
theorem d_M_init_117 : decode b_M_init 117 = .ok (.sipush 4600, 3) := by decide +kernel
theorem d_M_init_120 : decode b_M_init 120 = .ok (.newarray .int, 2) := by decide +kernel
theorem d_M_init_122 : decode b_M_init 122 = .ok (.putfield 50, 3) := by decide +kernel
theorem d_M_init_125 : decode b_M_init 125 = .ok (.aload_n 0, 1) := by decide +kernel
theorem d_M_init_126 : decode b_M_init 126 = .ok (.sipush 4600, 3) := by decide +kernel
theorem d_M_init_129 : decode b_M_init 129 = .ok (.newarray .int, 2) := by decide +kernel
theorem d_M_init_131 : decode b_M_init 131 = .ok (.putfield 53, 3) := by decide +kernel
theorem d_M_init_134 : decode b_M_init 134 = .ok (.aload_n 0, 1) := by decide +kernel
theorem d_M_init_135 : decode b_M_init 135 = .ok (.sipush 4500, 3) := by decide +kernel
theorem d_M_init_138 : decode b_M_init 138 = .ok (.newarray .int, 2) := by decide +kernel
theorem d_M_init_140 : decode b_M_init 140 = .ok (.putfield 56, 3) := by decide +kernel
theorem d_M_init_143 : decode b_M_init 143 = .ok (.aload_n 0, 1) := by decide +kernel
theorem d_M_init_144 : decode b_M_init 144 = .ok (.sipush 4500, 3) := by decide +kernel
theorem d_M_init_147 : decode b_M_init 147 = .ok (.newarray .int, 2) := by decide +kernel
theorem d_M_init_149 : decode b_M_init 149 = .ok (.putfield 59, 3) := by decide +kernel
theorem d_M_init_152 : decode b_M_init 152 = .ok (.aload_n 0, 1) := by decide +kernel
theorem d_M_init_153 : decode b_M_init 153 = .ok (.sipush 4500, 3) := by decide +kernel
theorem d_M_init_156 : decode b_M_init 156 = .ok (.newarray .boolean, 2) := by decide +kernel
theorem d_M_init_158 : decode b_M_init 158 = .ok (.putfield 62, 3) := by decide +kernel
theorem d_M_init_161 : decode b_M_init 161 = .ok (.aload_n 0, 1) := by decide +kernel
theorem d_M_init_162 : decode b_M_init 162 = .ok (.sipush 4600, 3) := by decide +kernel
theorem d_M_init_165 : decode b_M_init 165 = .ok (.newarray .int, 2) := by decide +kernel
theorem d_M_init_167 : decode b_M_init 167 = .ok (.putfield 65, 3) := by decide +kernel
theorem d_M_init_170 : decode b_M_init 170 = .ok (.aload_n 0, 1) := by decide +kernel
theorem d_M_init_171 : decode b_M_init 171 = .ok (.sipush 4600, 3) := by decide +kernel
theorem d_M_init_174 : decode b_M_init 174 = .ok (.newarray .int, 2) := by decide +kernel
theorem d_M_init_176 : decode b_M_init 176 = .ok (.putfield 68, 3) := by decide +kernel
theorem d_M_init_179 : decode b_M_init 179 = .ok (.aload_n 0, 1) := by decide +kernel
theorem d_M_init_180 : decode b_M_init 180 = .ok (.sipush 4600, 3) := by decide +kernel
theorem d_M_init_183 : decode b_M_init 183 = .ok (.newarray .int, 2) := by decide +kernel
theorem d_M_init_185 : decode b_M_init 185 = .ok (.putfield 71, 3) := by decide +kernel
theorem d_M_init_188 : decode b_M_init 188 = .ok (.aload_n 0, 1) := by decide +kernel
theorem d_M_init_189 : decode b_M_init 189 = .ok (.bipush 10, 2) := by decide +kernel
theorem d_M_init_191 : decode b_M_init 191 = .ok (.newarray .int, 2) := by decide +kernel
theorem d_M_init_193 : decode b_M_init 193 = .ok (.putfield 74, 3) := by decide +kernel
theorem d_M_init_196 : decode b_M_init 196 = .ok (.aload_n 0, 1) := by decide +kernel
theorem d_M_init_197 : decode b_M_init 197 = .ok (.bipush 10, 2) := by decide +kernel
theorem d_M_init_199 : decode b_M_init 199 = .ok (.newarray .int, 2) := by decide +kernel
theorem d_M_init_201 : decode b_M_init 201 = .ok (.putfield 77, 3) := by decide +kernel
theorem d_M_init_204 : decode b_M_init 204 = .ok (.aload_n 0, 1) := by decide +kernel
theorem d_M_init_205 : decode b_M_init 205 = .ok (.iload_n 1, 1) := by decide +kernel
theorem d_M_init_206 : decode b_M_init 206 = .ok (.iconst 1, 1) := by decide +kernel
theorem d_M_init_207 : decode b_M_init 207 = .ok (.if_icmp .ge 7, 3) := by decide +kernel
theorem d_M_init_210 : decode b_M_init 210 = .ok (.iconst 1, 1) := by decide +kernel
theorem d_M_init_211 : decode b_M_init 211 = .ok (.goto 15, 3) := by decide +kernel
theorem d_M_init_214 : decode b_M_init 214 = .ok (.iload_n 1, 1) := by decide +kernel
theorem d_M_init_215 : decode b_M_init 215 = .ok (.bipush 50, 2) := by decide +kernel
theorem d_M_init_217 : decode b_M_init 217 = .ok (.if_icmp .le 8, 3) := by decide +kernel
theorem d_M_init_220 : decode b_M_init 220 = .ok (.bipush 50, 2) := by decide +kernel
theorem d_M_init_222 : decode b_M_init 222 = .ok (.goto 4, 3) := by decide +kernel
theorem d_M_init_225 : decode b_M_init 225 = .ok (.iload_n 1, 1) := by decide +kernel
theorem d_M_init_226 : decode b_M_init 226 = .ok (.putfield 80, 3) := by decide +kernel
theorem d_M_init_229 : decode b_M_init 229 = .ok (.aload_n 0, 1) := by decide +kernel
theorem d_M_init_230 : decode b_M_init 230 = .ok (.iload_n 2, 1) := by decide +kernel
theorem d_M_init_231 : decode b_M_init 231 = .ok (.iconst 1, 1) := by decide +kernel
theorem d_M_init_232 : decode b_M_init 232 = .ok (.if_icmp .ge 7, 3) := by decide +kernel
theorem d_M_init_235 : decode b_M_init 235 = .ok (.iconst 1, 1) := by decide +kernel
theorem d_M_init_236 : decode b_M_init 236 = .ok (.goto 15, 3) := by decide +kernel
theorem d_M_init_239 : decode b_M_init 239 = .ok (.iload_n 2, 1) := by decide +kernel
theorem d_M_init_240 : decode b_M_init 240 = .ok (.bipush 100, 2) := by decide +kernel
theorem d_M_init_242 : decode b_M_init 242 = .ok (.if_icmp .le 8, 3) := by decide +kernel
theorem d_M_init_245 : decode b_M_init 245 = .ok (.bipush 100, 2) := by decide +kernel
theorem d_M_init_247 : decode b_M_init 247 = .ok (.goto 4, 3) := by decide +kernel
theorem d_M_init_250 : decode b_M_init 250 = .ok (.iload_n 2, 1) := by decide +kernel
theorem d_M_init_251 : decode b_M_init 251 = .ok (.putfield 84, 3) := by decide +kernel
theorem d_M_init_254 : decode b_M_init 254 = .ok (.aload_n 0, 1) := by decide +kernel
theorem d_M_init_255 : decode b_M_init 255 = .ok (.iload_n 3, 1) := by decide +kernel
theorem d_M_init_256 : decode b_M_init 256 = .ok (.ifCond .ge 7, 3) := by decide +kernel
theorem d_M_init_259 : decode b_M_init 259 = .ok (.iconst 0, 1) := by decide +kernel
theorem d_M_init_260 : decode b_M_init 260 = .ok (.goto 15, 3) := by decide +kernel
theorem d_M_init_263 : decode b_M_init 263 = .ok (.iload_n 3, 1) := by decide +kernel
theorem d_M_init_264 : decode b_M_init 264 = .ok (.ldc 87, 2) := by decide +kernel
theorem d_M_init_266 : decode b_M_init 266 = .ok (.if_icmp .le 8, 3) := by decide +kernel
theorem d_M_init_269 : decode b_M_init 269 = .ok (.ldc 87, 2) := by decide +kernel
theorem d_M_init_271 : decode b_M_init 271 = .ok (.goto 4, 3) := by decide +kernel
theorem d_M_init_274 : decode b_M_init 274 = .ok (.iload_n 3, 1) := by decide +kernel
theorem d_M_init_275 : decode b_M_init 275 = .ok (.putfield 88, 3) := by decide +kernel
theorem d_M_init_278 : decode b_M_init 278 = .ok (.iconst 0, 1) := by decide +kernel
theorem d_M_init_279 : decode b_M_init 279 = .ok (.istore 4, 2) := by decide +kernel
theorem d_M_init_281 : decode b_M_init 281 = .ok (.iload 4, 2) := by decide +kernel
theorem d_M_init_283 : decode b_M_init 283 = .ok (.bipush 10, 2) := by decide +kernel
theorem d_M_init_285 : decode b_M_init 285 = .ok (.if_icmp .ge 17, 3) := by decide +kernel
theorem d_M_init_288 : decode b_M_init 288 = .ok (.aload_n 0, 1) := by decide +kernel
theorem d_M_init_289 : decode b_M_init 289 = .ok (.getfield 74, 3) := by decide +kernel
theorem d_M_init_292 : decode b_M_init 292 = .ok (.iload 4, 2) := by decide +kernel
theorem d_M_init_294 : decode b_M_init 294 = .ok (.iconst (-1), 1) := by decide +kernel
theorem d_M_init_295 : decode b_M_init 295 = .ok (.iastore, 1) := by decide +kernel
theorem d_M_init_296 : decode b_M_init 296 = .ok (.iinc 4 1, 3) := by decide +kernel
theorem d_M_init_299 : decode b_M_init 299 = .ok (.goto (-18), 3) := by decide +kernel
theorem d_M_init_302 : decode b_M_init 302 = .ok (.return_, 1) := by decide +kernel
theorem d_M_thrown_0 : decode b_M_thrown 0 = .ok (.aload_n 0, 1) := by decide +kernel
theorem d_M_thrown_1 : decode b_M_thrown 1 = .ok (.getfield 91, 3) := by decide +kernel
theorem d_M_thrown_4 : decode b_M_thrown 4 = .ok (.ireturn, 1) := by decide +kernel
theorem d_M_record_0 : decode b_M_record 0 = .ok (.aload_n 0, 1) := by decide +kernel
theorem d_M_record_1 : decode b_M_record 1 = .ok (.iconst 0, 1) := by decide +kernel
theorem d_M_record_2 : decode b_M_record 2 = .ok (.putfield 91, 3) := by decide +kernel
theorem d_M_record_5 : decode b_M_record 5 = .ok (.iload_n 1, 1) := by decide +kernel
theorem d_M_record_6 : decode b_M_record 6 = .ok (.iconst 0, 1) := by decide +kernel
theorem d_M_record_7 : decode b_M_record 7 = .ok (.bipush 9, 2) := by decide +kernel
theorem d_M_record_9 : decode b_M_record 9 = .ok (.invokestatic 94, 3) := by decide +kernel
theorem d_M_record_12 : decode b_M_record 12 = .ok (.ifCond .eq 11, 3) := by decide +kernel
theorem d_M_record_15 : decode b_M_record 15 = .ok (.aload_n 0, 1) := by decide +kernel
theorem d_M_record_16 : decode b_M_record 16 = .ok (.iload_n 2, 1) := by decide +kernel
theorem d_M_record_17 : decode b_M_record 17 = .ok (.invokevirtual 104, 3) := by decide +kernel
theorem d_M_record_20 : decode b_M_record 20 = .ok (.ifCond .ne 6, 3) := by decide +kernel
theorem d_M_record_23 : decode b_M_record 23 = .ok (.bipush (-2), 2) := by decide +kernel
theorem d_M_record_25 : decode b_M_record 25 = .ok (.ireturn, 1) := by decide +kernel
theorem d_M_record_26 : decode b_M_record 26 = .ok (.aload_n 0, 1) := by decide +kernel
theorem d_M_record_27 : decode b_M_record 27 = .ok (.getfield 98, 3) := by decide +kernel
theorem d_M_record_30 : decode b_M_record 30 = .ok (.sipush 150, 3) := by decide +kernel
theorem d_M_record_33 : decode b_M_record 33 = .ok (.if_icmp .ne 6, 3) := by decide +kernel
theorem d_M_record_36 : decode b_M_record 36 = .ok (.bipush (-4), 2) := by decide +kernel
theorem d_M_record_38 : decode b_M_record 38 = .ok (.ireturn, 1) := by decide +kernel
theorem d_M_record_39 : decode b_M_record 39 = .ok (.aload_n 0, 1) := by decide +kernel
theorem d_M_record_40 : decode b_M_record 40 = .ok (.getfield 7, 3) := by decide +kernel
theorem d_M_record_43 : decode b_M_record 43 = .ok (.aload_n 0, 1) := by decide +kernel
theorem d_M_record_44 : decode b_M_record 44 = .ok (.getfield 98, 3) := by decide +kernel
theorem d_M_record_47 : decode b_M_record 47 = .ok (.iload_n 1, 1) := by decide +kernel
theorem d_M_record_48 : decode b_M_record 48 = .ok (.iastore, 1) := by decide +kernel
theorem d_M_record_49 : decode b_M_record 49 = .ok (.aload_n 0, 1) := by decide +kernel
theorem d_M_record_50 : decode b_M_record 50 = .ok (.aload_n 0, 1) := by decide +kernel
theorem d_M_record_51 : decode b_M_record 51 = .ok (.getfield 98, 3) := by decide +kernel
theorem d_M_record_54 : decode b_M_record 54 = .ok (.iload_n 2, 1) := by decide +kernel
theorem d_M_record_55 : decode b_M_record 55 = .ok (.iconst 0, 1) := by decide +kernel
theorem d_M_record_56 : decode b_M_record 56 = .ok (.invokevirtual 108, 3) := by decide +kernel
theorem d_M_record_59 : decode b_M_record 59 = .ok (.aload_n 0, 1) := by decide +kernel
theorem d_M_record_60 : decode b_M_record 60 = .ok (.dup, 1) := by decide +kernel
theorem d_M_record_61 : decode b_M_record 61 = .ok (.getfield 98, 3) := by decide +kernel
theorem d_M_record_64 : decode b_M_record 64 = .ok (.iconst 1, 1) := by decide +kernel
theorem d_M_record_65 : decode b_M_record 65 = .ok (.iadd, 1) := by decide +kernel
theorem d_M_record_66 : decode b_M_record 66 = .ok (.putfield 98, 3) := by decide +kernel
theorem d_M_record_69 : decode b_M_record 69 = .ok (.aload_n 0, 1) := by decide +kernel
theorem d_M_record_70 : decode b_M_record 70 = .ok (.getfield 98, 3) := by decide +kernel
theorem d_M_record_73 : decode b_M_record 73 = .ok (.iconst 1, 1) := by decide +kernel
theorem d_M_record_74 : decode b_M_record 74 = .ok (.isub, 1) := by decide +kernel
theorem d_M_record_75 : decode b_M_record 75 = .ok (.ireturn, 1) := by decide +kernel
theorem d_M_in_0 : decode b_M_in 0 = .ok (.iload_n 0, 1) := by decide +kernel
theorem d_M_in_1 : decode b_M_in 1 = .ok (.iload_n 1, 1) := by decide +kernel
theorem d_M_in_2 : decode b_M_in 2 = .ok (.if_icmp .lt 12, 3) := by decide +kernel
theorem d_M_in_5 : decode b_M_in 5 = .ok (.iload_n 0, 1) := by decide +kernel
theorem d_M_in_6 : decode b_M_in 6 = .ok (.iload_n 2, 1) := by decide +kernel
theorem d_M_in_7 : decode b_M_in 7 = .ok (.if_icmp .gt 7, 3) := by decide +kernel
theorem d_M_in_10 : decode b_M_in 10 = .ok (.iconst 1, 1) := by decide +kernel
theorem d_M_in_11 : decode b_M_in 11 = .ok (.goto 4, 3) := by decide +kernel
theorem d_M_in_14 : decode b_M_in 14 = .ok (.iconst 0, 1) := by decide +kernel
theorem d_M_in_15 : decode b_M_in 15 = .ok (.ireturn, 1) := by decide +kernel
theorem d_M_isDay_0 : decode b_M_isDay 0 = .ok (.iload_n 1, 1) := by decide +kernel
theorem d_M_isDay_1 : decode b_M_isDay 1 = .ok (.iconst 0, 1) := by decide +kernel
theorem d_M_isDay_2 : decode b_M_isDay 2 = .ok (.ldc 87, 2) := by decide +kernel
theorem d_M_isDay_4 : decode b_M_isDay 4 = .ok (.invokestatic 94, 3) := by decide +kernel
theorem d_M_isDay_7 : decode b_M_isDay 7 = .ok (.ifCond .eq 16, 3) := by decide +kernel
theorem d_M_isDay_10 : decode b_M_isDay 10 = .ok (.iload_n 1, 1) := by decide +kernel
theorem d_M_isDay_11 : decode b_M_isDay 11 = .ok (.aload_n 0, 1) := by decide +kernel
theorem d_M_isDay_12 : decode b_M_isDay 12 = .ok (.getfield 84, 3) := by decide +kernel
theorem d_M_isDay_15 : decode b_M_isDay 15 = .ok (.irem, 1) := by decide +kernel
theorem d_M_isDay_16 : decode b_M_isDay 16 = .ok (.ifCond .ne 7, 3) := by decide +kernel
theorem d_M_isDay_19 : decode b_M_isDay 19 = .ok (.iconst 1, 1) := by decide +kernel
theorem d_M_isDay_20 : decode b_M_isDay 20 = .ok (.goto 4, 3) := by decide +kernel
theorem d_M_isDay_23 : decode b_M_isDay 23 = .ok (.iconst 0, 1) := by decide +kernel
theorem d_M_isDay_24 : decode b_M_isDay 24 = .ok (.ireturn, 1) := by decide +kernel
theorem d_M_act_0 : decode b_M_act 0 = .ok (.aload_n 0, 1) := by decide +kernel
theorem d_M_act_1 : decode b_M_act 1 = .ok (.dup, 1) := by decide +kernel
theorem d_M_act_2 : decode b_M_act 2 = .ok (.getfield 101, 3) := by decide +kernel
theorem d_M_act_5 : decode b_M_act 5 = .ok (.iconst 1, 1) := by decide +kernel
theorem d_M_act_6 : decode b_M_act 6 = .ok (.iadd, 1) := by decide +kernel
theorem d_M_act_7 : decode b_M_act 7 = .ok (.putfield 101, 3) := by decide +kernel
theorem d_M_act_10 : decode b_M_act 10 = .ok (.aload_n 0, 1) := by decide +kernel
theorem d_M_act_11 : decode b_M_act 11 = .ok (.getfield 13, 3) := by decide +kernel
theorem d_M_act_14 : decode b_M_act 14 = .ok (.iload_n 1, 1) := by decide +kernel
theorem d_M_act_15 : decode b_M_act 15 = .ok (.iload_n 2, 1) := by decide +kernel
theorem d_M_act_16 : decode b_M_act 16 = .ok (.iastore, 1) := by decide +kernel
theorem d_M_act_17 : decode b_M_act 17 = .ok (.aload_n 0, 1) := by decide +kernel
theorem d_M_act_18 : decode b_M_act 18 = .ok (.getfield 16, 3) := by decide +kernel
theorem d_M_act_21 : decode b_M_act 21 = .ok (.iload_n 1, 1) := by decide +kernel
theorem d_M_act_22 : decode b_M_act 22 = .ok (.iload_n 3, 1) := by decide +kernel
theorem d_M_act_23 : decode b_M_act 23 = .ok (.bastore, 1) := by decide +kernel
theorem d_M_act_24 : decode b_M_act 24 = .ok (.aload_n 0, 1) := by decide +kernel
theorem d_M_act_25 : decode b_M_act 25 = .ok (.getfield 20, 3) := by decide +kernel
theorem d_M_act_28 : decode b_M_act 28 = .ok (.iload_n 1, 1) := by decide +kernel
theorem d_M_act_29 : decode b_M_act 29 = .ok (.aload_n 0, 1) := by decide +kernel
theorem d_M_act_30 : decode b_M_act 30 = .ok (.getfield 101, 3) := by decide +kernel
theorem d_M_act_33 : decode b_M_act 33 = .ok (.iastore, 1) := by decide +kernel
theorem d_M_act_34 : decode b_M_act 34 = .ok (.return_, 1) := by decide +kernel
theorem d_M_change_0 : decode b_M_change 0 = .ok (.aload_n 0, 1) := by decide +kernel
theorem d_M_change_1 : decode b_M_change 1 = .ok (.iconst 0, 1) := by decide +kernel
theorem d_M_change_2 : decode b_M_change 2 = .ok (.putfield 91, 3) := by decide +kernel
theorem d_M_change_5 : decode b_M_change 5 = .ok (.aload_n 0, 1) := by decide +kernel
theorem d_M_change_6 : decode b_M_change 6 = .ok (.iload_n 1, 1) := by decide +kernel
theorem d_M_change_7 : decode b_M_change 7 = .ok (.invokevirtual 112, 3) := by decide +kernel
theorem d_M_change_10 : decode b_M_change 10 = .ok (.ifCond .ne 5, 3) := by decide +kernel
theorem d_M_change_13 : decode b_M_change 13 = .ok (.iconst (-1), 1) := by decide +kernel
theorem d_M_change_14 : decode b_M_change 14 = .ok (.ireturn, 1) := by decide +kernel
theorem d_M_change_15 : decode b_M_change 15 = .ok (.aload_n 0, 1) := by decide +kernel
theorem d_M_change_16 : decode b_M_change 16 = .ok (.iload_n 2, 1) := by decide +kernel
theorem d_M_change_17 : decode b_M_change 17 = .ok (.invokevirtual 104, 3) := by decide +kernel
theorem d_M_change_20 : decode b_M_change 20 = .ok (.ifCond .ne 6, 3) := by decide +kernel
theorem d_M_change_23 : decode b_M_change 23 = .ok (.bipush (-2), 2) := by decide +kernel
theorem d_M_change_25 : decode b_M_change 25 = .ok (.ireturn, 1) := by decide +kernel
theorem d_M_change_26 : decode b_M_change 26 = .ok (.iload_n 2, 1) := by decide +kernel
theorem d_M_change_27 : decode b_M_change 27 = .ok (.aload_n 0, 1) := by decide +kernel
theorem d_M_change_28 : decode b_M_change 28 = .ok (.getfield 13, 3) := by decide +kernel
theorem d_M_change_31 : decode b_M_change 31 = .ok (.iload_n 1, 1) := by decide +kernel
theorem d_M_change_32 : decode b_M_change 32 = .ok (.iaload, 1) := by decide +kernel
theorem d_M_change_33 : decode b_M_change 33 = .ok (.if_icmp .ge 6, 3) := by decide +kernel
theorem d_M_change_36 : decode b_M_change 36 = .ok (.bipush (-3), 2) := by decide +kernel
theorem d_M_change_38 : decode b_M_change 38 = .ok (.ireturn, 1) := by decide +kernel
theorem d_M_change_39 : decode b_M_change 39 = .ok (.aload_n 0, 1) := by decide +kernel
theorem d_M_change_40 : decode b_M_change 40 = .ok (.iload_n 1, 1) := by decide +kernel
theorem d_M_change_41 : decode b_M_change 41 = .ok (.iload_n 2, 1) := by decide +kernel
theorem d_M_change_42 : decode b_M_change 42 = .ok (.iconst 0, 1) := by decide +kernel
theorem d_M_change_43 : decode b_M_change 43 = .ok (.invokevirtual 108, 3) := by decide +kernel
theorem d_M_change_46 : decode b_M_change 46 = .ok (.iconst 1, 1) := by decide +kernel
theorem d_M_change_47 : decode b_M_change 47 = .ok (.ireturn, 1) := by decide +kernel
theorem d_M_isRecord_0 : decode b_M_isRecord 0 = .ok (.iload_n 1, 1) := by decide +kernel
theorem d_M_isRecord_1 : decode b_M_isRecord 1 = .ok (.iconst 0, 1) := by decide +kernel
theorem d_M_isRecord_2 : decode b_M_isRecord 2 = .ok (.aload_n 0, 1) := by decide +kernel
theorem d_M_isRecord_3 : decode b_M_isRecord 3 = .ok (.getfield 98, 3) := by decide +kernel
theorem d_M_isRecord_6 : decode b_M_isRecord 6 = .ok (.iconst 1, 1) := by decide +kernel
theorem d_M_isRecord_7 : decode b_M_isRecord 7 = .ok (.isub, 1) := by decide +kernel
theorem d_M_isRecord_8 : decode b_M_isRecord 8 = .ok (.invokestatic 94, 3) := by decide +kernel
theorem d_M_isRecord_11 : decode b_M_isRecord 11 = .ok (.ireturn, 1) := by decide +kernel
theorem d_M_delete_0 : decode b_M_delete 0 = .ok (.aload_n 0, 1) := by decide +kernel
theorem d_M_delete_1 : decode b_M_delete 1 = .ok (.iconst 0, 1) := by decide +kernel
theorem d_M_delete_2 : decode b_M_delete 2 = .ok (.putfield 91, 3) := by decide +kernel
theorem d_M_delete_5 : decode b_M_delete 5 = .ok (.aload_n 0, 1) := by decide +kernel
theorem d_M_delete_6 : decode b_M_delete 6 = .ok (.iload_n 1, 1) := by decide +kernel
theorem d_M_delete_7 : decode b_M_delete 7 = .ok (.invokevirtual 112, 3) := by decide +kernel
theorem d_M_delete_10 : decode b_M_delete 10 = .ok (.ifCond .ne 5, 3) := by decide +kernel
theorem d_M_delete_13 : decode b_M_delete 13 = .ok (.iconst (-1), 1) := by decide +kernel
theorem d_M_delete_14 : decode b_M_delete 14 = .ok (.ireturn, 1) := by decide +kernel
theorem d_M_delete_15 : decode b_M_delete 15 = .ok (.aload_n 0, 1) := by decide +kernel
theorem d_M_delete_16 : decode b_M_delete 16 = .ok (.iload_n 2, 1) := by decide +kernel
theorem d_M_delete_17 : decode b_M_delete 17 = .ok (.invokevirtual 104, 3) := by decide +kernel
theorem d_M_delete_20 : decode b_M_delete 20 = .ok (.ifCond .ne 6, 3) := by decide +kernel
theorem d_M_delete_23 : decode b_M_delete 23 = .ok (.bipush (-2), 2) := by decide +kernel
theorem d_M_delete_25 : decode b_M_delete 25 = .ok (.ireturn, 1) := by decide +kernel
theorem d_M_delete_26 : decode b_M_delete 26 = .ok (.aload_n 0, 1) := by decide +kernel
theorem d_M_delete_27 : decode b_M_delete 27 = .ok (.getfield 16, 3) := by decide +kernel
theorem d_M_delete_30 : decode b_M_delete 30 = .ok (.iload_n 1, 1) := by decide +kernel
theorem d_M_delete_31 : decode b_M_delete 31 = .ok (.baload, 1) := by decide +kernel
theorem d_M_delete_32 : decode b_M_delete 32 = .ok (.ifCond .ne 13, 3) := by decide +kernel
theorem d_M_delete_35 : decode b_M_delete 35 = .ok (.iload_n 2, 1) := by decide +kernel
theorem d_M_delete_36 : decode b_M_delete 36 = .ok (.aload_n 0, 1) := by decide +kernel
theorem d_M_delete_37 : decode b_M_delete 37 = .ok (.getfield 13, 3) := by decide +kernel
theorem d_M_delete_40 : decode b_M_delete 40 = .ok (.iload_n 1, 1) := by decide +kernel
theorem d_M_delete_41 : decode b_M_delete 41 = .ok (.iaload, 1) := by decide +kernel
theorem d_M_delete_42 : decode b_M_delete 42 = .ok (.if_icmp .ge 6, 3) := by decide +kernel
theorem d_M_delete_45 : decode b_M_delete 45 = .ok (.bipush (-3), 2) := by decide +kernel
theorem d_M_delete_47 : decode b_M_delete 47 = .ok (.ireturn, 1) := by decide +kernel
theorem d_M_delete_48 : decode b_M_delete 48 = .ok (.aload_n 0, 1) := by decide +kernel
theorem d_M_delete_49 : decode b_M_delete 49 = .ok (.iload_n 1, 1) := by decide +kernel
theorem d_M_delete_50 : decode b_M_delete 50 = .ok (.iload_n 2, 1) := by decide +kernel
theorem d_M_delete_51 : decode b_M_delete 51 = .ok (.iconst 1, 1) := by decide +kernel
theorem d_M_delete_52 : decode b_M_delete 52 = .ok (.invokevirtual 108, 3) := by decide +kernel
theorem d_M_delete_55 : decode b_M_delete 55 = .ok (.iconst 1, 1) := by decide +kernel
theorem d_M_delete_56 : decode b_M_delete 56 = .ok (.ireturn, 1) := by decide +kernel
theorem d_M_form_0 : decode b_M_form 0 = .ok (.aload_n 0, 1) := by decide +kernel
theorem d_M_form_1 : decode b_M_form 1 = .ok (.iconst 0, 1) := by decide +kernel
theorem d_M_form_2 : decode b_M_form 2 = .ok (.putfield 91, 3) := by decide +kernel
theorem d_M_form_5 : decode b_M_form 5 = .ok (.iload_n 1, 1) := by decide +kernel
theorem d_M_form_6 : decode b_M_form 6 = .ok (.iconst 0, 1) := by decide +kernel
theorem d_M_form_7 : decode b_M_form 7 = .ok (.iconst 5, 1) := by decide +kernel
theorem d_M_form_8 : decode b_M_form 8 = .ok (.invokestatic 94, 3) := by decide +kernel
theorem d_M_form_11 : decode b_M_form 11 = .ok (.ifCond .ne 6, 3) := by decide +kernel
theorem d_M_form_14 : decode b_M_form 14 = .ok (.bipush (-2), 2) := by decide +kernel
theorem d_M_form_16 : decode b_M_form 16 = .ok (.ireturn, 1) := by decide +kernel
theorem d_M_form_17 : decode b_M_form 17 = .ok (.aload_n 0, 1) := by decide +kernel
theorem d_M_form_18 : decode b_M_form 18 = .ok (.getfield 23, 3) := by decide +kernel
theorem d_M_form_21 : decode b_M_form 21 = .ok (.iload_n 1, 1) := by decide +kernel
theorem d_M_form_22 : decode b_M_form 22 = .ok (.iload_n 2, 1) := by decide +kernel
theorem d_M_form_23 : decode b_M_form 23 = .ok (.bastore, 1) := by decide +kernel
theorem d_M_form_24 : decode b_M_form 24 = .ok (.iconst 1, 1) := by decide +kernel
theorem d_M_form_25 : decode b_M_form 25 = .ok (.ireturn, 1) := by decide +kernel
theorem d_M_list_0 : decode b_M_list 0 = .ok (.aload_n 0, 1) := by decide +kernel
theorem d_M_list_1 : decode b_M_list 1 = .ok (.iconst 0, 1) := by decide +kernel
theorem d_M_list_2 : decode b_M_list 2 = .ok (.putfield 91, 3) := by decide +kernel
theorem d_M_list_5 : decode b_M_list 5 = .ok (.iload_n 1, 1) := by decide +kernel
theorem d_M_list_6 : decode b_M_list 6 = .ok (.iconst 0, 1) := by decide +kernel
theorem d_M_list_7 : decode b_M_list 7 = .ok (.bipush 9, 2) := by decide +kernel
theorem d_M_list_9 : decode b_M_list 9 = .ok (.invokestatic 94, 3) := by decide +kernel
theorem d_M_list_12 : decode b_M_list 12 = .ok (.ifCond .ne 5, 3) := by decide +kernel
theorem d_M_list_15 : decode b_M_list 15 = .ok (.iconst (-1), 1) := by decide +kernel
theorem d_M_list_16 : decode b_M_list 16 = .ok (.ireturn, 1) := by decide +kernel
theorem d_M_list_17 : decode b_M_list 17 = .ok (.iload 6, 2) := by decide +kernel
theorem d_M_list_19 : decode b_M_list 19 = .ok (.iconst 0, 1) := by decide +kernel
theorem d_M_list_20 : decode b_M_list 20 = .ok (.ldc 130, 2) := by decide +kernel
theorem d_M_list_22 : decode b_M_list 22 = .ok (.invokestatic 94, 3) := by decide +kernel
theorem d_M_list_25 : decode b_M_list 25 = .ok (.ifCond .ne 6, 3) := by decide +kernel
theorem d_M_list_28 : decode b_M_list 28 = .ok (.bipush (-2), 2) := by decide +kernel
theorem d_M_list_30 : decode b_M_list 30 = .ok (.ireturn, 1) := by decide +kernel
theorem d_M_list_31 : decode b_M_list 31 = .ok (.aload_n 0, 1) := by decide +kernel
theorem d_M_list_32 : decode b_M_list 32 = .ok (.iload_n 3, 1) := by decide +kernel
theorem d_M_list_33 : decode b_M_list 33 = .ok (.invokevirtual 104, 3) := by decide +kernel
theorem d_M_list_36 : decode b_M_list 36 = .ok (.ifCond .eq 18, 3) := by decide +kernel
theorem d_M_list_39 : decode b_M_list 39 = .ok (.aload_n 0, 1) := by decide +kernel
theorem d_M_list_40 : decode b_M_list 40 = .ok (.iload 4, 2) := by decide +kernel
theorem d_M_list_42 : decode b_M_list 42 = .ok (.invokevirtual 104, 3) := by decide +kernel
theorem d_M_list_45 : decode b_M_list 45 = .ok (.ifCond .eq 9, 3) := by decide +kernel
theorem d_M_list_48 : decode b_M_list 48 = .ok (.iload_n 3, 1) := by decide +kernel
theorem d_M_list_49 : decode b_M_list 49 = .ok (.iload 4, 2) := by decide +kernel
theorem d_M_list_51 : decode b_M_list 51 = .ok (.if_icmp .le 6, 3) := by decide +kernel
theorem d_M_list_54 : decode b_M_list 54 = .ok (.bipush (-11), 2) := by decide +kernel
theorem d_M_list_56 : decode b_M_list 56 = .ok (.ireturn, 1) := by decide +kernel
theorem d_M_list_57 : decode b_M_list 57 = .ok (.aload_n 0, 1) := by decide +kernel
theorem d_M_list_58 : decode b_M_list 58 = .ok (.iload_n 2, 1) := by decide +kernel
theorem d_M_list_59 : decode b_M_list 59 = .ok (.invokevirtual 131, 3) := by decide +kernel
theorem d_M_list_62 : decode b_M_list 62 = .ok (.ifCond .ne 6, 3) := by decide +kernel
theorem d_M_list_65 : decode b_M_list 65 = .ok (.bipush (-12), 2) := by decide +kernel
theorem d_M_list_67 : decode b_M_list 67 = .ok (.ireturn, 1) := by decide +kernel
theorem d_M_list_68 : decode b_M_list 68 = .ok (.iload 5, 2) := by decide +kernel
theorem d_M_list_70 : decode b_M_list 70 = .ok (.iconst (-1), 1) := by decide +kernel
theorem d_M_list_71 : decode b_M_list 71 = .ok (.bipush 9, 2) := by decide +kernel
theorem d_M_list_73 : decode b_M_list 73 = .ok (.invokestatic 94, 3) := by decide +kernel
theorem d_M_list_76 : decode b_M_list 76 = .ok (.ifCond .ne 6, 3) := by decide +kernel
theorem d_M_list_79 : decode b_M_list 79 = .ok (.bipush (-13), 2) := by decide +kernel
theorem d_M_list_81 : decode b_M_list 81 = .ok (.ireturn, 1) := by decide +kernel
theorem d_M_list_82 : decode b_M_list 82 = .ok (.iconst 0, 1) := by decide +kernel
theorem d_M_list_83 : decode b_M_list 83 = .ok (.istore 7, 2) := by decide +kernel
theorem d_M_list_85 : decode b_M_list 85 = .ok (.iconst 0, 1) := by decide +kernel
theorem d_M_list_86 : decode b_M_list 86 = .ok (.istore 8, 2) := by decide +kernel
theorem d_M_list_88 : decode b_M_list 88 = .ok (.iload 8, 2) := by decide +kernel
theorem d_M_list_90 : decode b_M_list 90 = .ok (.aload_n 0, 1) := by decide +kernel
theorem d_M_list_91 : decode b_M_list 91 = .ok (.getfield 98, 3) := by decide +kernel
theorem d_M_list_94 : decode b_M_list 94 = .ok (.if_icmp .ge 54, 3) := by decide +kernel
theorem d_M_list_97 : decode b_M_list 97 = .ok (.iload 7, 2) := by decide +kernel
theorem d_M_list_99 : decode b_M_list 99 = .ok (.ifCond .ne 36, 3) := by decide +kernel
theorem d_M_list_102 : decode b_M_list 102 = .ok (.aload_n 0, 1) := by decide +kernel
theorem d_M_list_103 : decode b_M_list 103 = .ok (.getfield 13, 3) := by decide +kernel
theorem d_M_list_106 : decode b_M_list 106 = .ok (.iload 8, 2) := by decide +kernel
theorem d_M_list_108 : decode b_M_list 108 = .ok (.iaload, 1) := by decide +kernel
theorem d_M_list_109 : decode b_M_list 109 = .ok (.iload_n 3, 1) := by decide +kernel
theorem d_M_list_110 : decode b_M_list 110 = .ok (.iload 4, 2) := by decide +kernel
theorem d_M_list_112 : decode b_M_list 112 = .ok (.invokestatic 94, 3) := by decide +kernel
theorem d_M_list_115 : decode b_M_list 115 = .ok (.ifCond .eq 24, 3) := by decide +kernel
theorem d_M_list_118 : decode b_M_list 118 = .ok (.iload 5, 2) := by decide +kernel
theorem d_M_list_120 : decode b_M_list 120 = .ok (.ifCond .lt 15, 3) := by decide +kernel
theorem d_M_list_123 : decode b_M_list 123 = .ok (.aload_n 0, 1) := by decide +kernel
theorem d_M_list_124 : decode b_M_list 124 = .ok (.getfield 7, 3) := by decide +kernel
theorem d_M_list_127 : decode b_M_list 127 = .ok (.iload 8, 2) := by decide +kernel
theorem d_M_list_129 : decode b_M_list 129 = .ok (.iaload, 1) := by decide +kernel
theorem d_M_list_130 : decode b_M_list 130 = .ok (.iload 5, 2) := by decide +kernel
theorem d_M_list_132 : decode b_M_list 132 = .ok (.if_icmp .ne 7, 3) := by decide +kernel
theorem d_M_list_135 : decode b_M_list 135 = .ok (.iconst 1, 1) := by decide +kernel
theorem d_M_list_136 : decode b_M_list 136 = .ok (.goto 4, 3) := by decide +kernel
theorem d_M_list_139 : decode b_M_list 139 = .ok (.iconst 0, 1) := by decide +kernel
theorem d_M_list_140 : decode b_M_list 140 = .ok (.istore 7, 2) := by decide +kernel
theorem d_M_list_142 : decode b_M_list 142 = .ok (.iinc 8 1, 3) := by decide +kernel
theorem d_M_list_145 : decode b_M_list 145 = .ok (.goto (-57), 3) := by decide +kernel
theorem d_M_list_148 : decode b_M_list 148 = .ok (.iload 7, 2) := by decide +kernel
theorem d_M_list_150 : decode b_M_list 150 = .ok (.ifCond .ne 6, 3) := by decide +kernel
theorem d_M_list_153 : decode b_M_list 153 = .ok (.bipush (-14), 2) := by decide +kernel
theorem d_M_list_155 : decode b_M_list 155 = .ok (.ireturn, 1) := by decide +kernel
theorem d_M_list_156 : decode b_M_list 156 = .ok (.aload_n 0, 1) := by decide +kernel
theorem d_M_list_157 : decode b_M_list 157 = .ok (.getfield 115, 3) := by decide +kernel
theorem d_M_list_160 : decode b_M_list 160 = .ok (.bipush 30, 2) := by decide +kernel
theorem d_M_list_162 : decode b_M_list 162 = .ok (.if_icmp .ne 6, 3) := by decide +kernel
theorem d_M_list_165 : decode b_M_list 165 = .ok (.bipush (-4), 2) := by decide +kernel
theorem d_M_list_167 : decode b_M_list 167 = .ok (.ireturn, 1) := by decide +kernel
theorem d_M_list_168 : decode b_M_list 168 = .ok (.aload_n 0, 1) := by decide +kernel
theorem d_M_list_169 : decode b_M_list 169 = .ok (.getfield 26, 3) := by decide +kernel
theorem d_M_list_172 : decode b_M_list 172 = .ok (.aload_n 0, 1) := by decide +kernel
theorem d_M_list_173 : decode b_M_list 173 = .ok (.getfield 115, 3) := by decide +kernel
theorem d_M_list_176 : decode b_M_list 176 = .ok (.aload_n 0, 1) := by decide +kernel
theorem d_M_list_177 : decode b_M_list 177 = .ok (.iload_n 3, 1) := by decide +kernel
theorem d_M_list_178 : decode b_M_list 178 = .ok (.iload 4, 2) := by decide +kernel
theorem d_M_list_180 : decode b_M_list 180 = .ok (.iload 5, 2) := by decide +kernel
theorem d_M_list_182 : decode b_M_list 182 = .ok (.invokevirtual 134, 3) := by decide +kernel
theorem d_M_list_185 : decode b_M_list 185 = .ok (.iastore, 1) := by decide +kernel
theorem d_M_list_186 : decode b_M_list 186 = .ok (.aload_n 0, 1) := by decide +kernel
theorem d_M_list_187 : decode b_M_list 187 = .ok (.getfield 29, 3) := by decide +kernel
theorem d_M_list_190 : decode b_M_list 190 = .ok (.aload_n 0, 1) := by decide +kernel
theorem d_M_list_191 : decode b_M_list 191 = .ok (.getfield 115, 3) := by decide +kernel
theorem d_M_list_194 : decode b_M_list 194 = .ok (.aload_n 0, 1) := by decide +kernel
theorem d_M_list_195 : decode b_M_list 195 = .ok (.getfield 101, 3) := by decide +kernel
theorem d_M_list_198 : decode b_M_list 198 = .ok (.iastore, 1) := by decide +kernel
theorem d_M_list_199 : decode b_M_list 199 = .ok (.aload_n 0, 1) := by decide +kernel
theorem d_M_list_200 : decode b_M_list 200 = .ok (.getfield 32, 3) := by decide +kernel
theorem d_M_list_203 : decode b_M_list 203 = .ok (.aload_n 0, 1) := by decide +kernel
theorem d_M_list_204 : decode b_M_list 204 = .ok (.getfield 115, 3) := by decide +kernel
theorem d_M_list_207 : decode b_M_list 207 = .ok (.iload_n 2, 1) := by decide +kernel
theorem d_M_list_208 : decode b_M_list 208 = .ok (.iastore, 1) := by decide +kernel
theorem d_M_list_209 : decode b_M_list 209 = .ok (.aload_n 0, 1) := by decide +kernel
theorem d_M_list_210 : decode b_M_list 210 = .ok (.getfield 35, 3) := by decide +kernel
theorem d_M_list_213 : decode b_M_list 213 = .ok (.aload_n 0, 1) := by decide +kernel
theorem d_M_list_214 : decode b_M_list 214 = .ok (.getfield 115, 3) := by decide +kernel
theorem d_M_list_217 : decode b_M_list 217 = .ok (.iload_n 1, 1) := by decide +kernel
theorem d_M_list_218 : decode b_M_list 218 = .ok (.iastore, 1) := by decide +kernel
theorem d_M_list_219 : decode b_M_list 219 = .ok (.aload_n 0, 1) := by decide +kernel
theorem d_M_list_220 : decode b_M_list 220 = .ok (.dup, 1) := by decide +kernel
theorem d_M_list_221 : decode b_M_list 221 = .ok (.getfield 115, 3) := by decide +kernel
theorem d_M_list_224 : decode b_M_list 224 = .ok (.iconst 1, 1) := by decide +kernel
theorem d_M_list_225 : decode b_M_list 225 = .ok (.iadd, 1) := by decide +kernel
theorem d_M_list_226 : decode b_M_list 226 = .ok (.putfield 115, 3) := by decide +kernel
theorem d_M_list_229 : decode b_M_list 229 = .ok (.aload_n 0, 1) := by decide +kernel
theorem d_M_list_230 : decode b_M_list 230 = .ok (.iload_n 1, 1) := by decide +kernel
theorem d_M_list_231 : decode b_M_list 231 = .ok (.aload_n 0, 1) := by decide +kernel
theorem d_M_list_232 : decode b_M_list 232 = .ok (.aload_n 0, 1) := by decide +kernel
theorem d_M_list_233 : decode b_M_list 233 = .ok (.getfield 115, 3) := by decide +kernel
theorem d_M_list_236 : decode b_M_list 236 = .ok (.iconst 1, 1) := by decide +kernel
theorem d_M_list_237 : decode b_M_list 237 = .ok (.isub, 1) := by decide +kernel
theorem d_M_list_238 : decode b_M_list 238 = .ok (.iconst 0, 1) := by decide +kernel
theorem d_M_list_239 : decode b_M_list 239 = .ok (.iload 6, 2) := by decide +kernel
theorem d_M_list_241 : decode b_M_list 241 = .ok (.invokevirtual 138, 3) := by decide +kernel
theorem d_M_list_244 : decode b_M_list 244 = .ok (.invokevirtual 141, 3) := by decide +kernel
theorem d_M_list_247 : decode b_M_list 247 = .ok (.ireturn, 1) := by decide +kernel
theorem d_M_isHeld_0 : decode b_M_isHeld 0 = .ok (.iload_n 1, 1) := by decide +kernel
theorem d_M_isHeld_1 : decode b_M_isHeld 1 = .ok (.iconst 0, 1) := by decide +kernel
theorem d_M_isHeld_2 : decode b_M_isHeld 2 = .ok (.iconst 5, 1) := by decide +kernel
theorem d_M_isHeld_3 : decode b_M_isHeld 3 = .ok (.invokestatic 94, 3) := by decide +kernel
theorem d_M_isHeld_6 : decode b_M_isHeld 6 = .ok (.ifCond .eq 16, 3) := by decide +kernel
theorem d_M_isHeld_9 : decode b_M_isHeld 9 = .ok (.aload_n 0, 1) := by decide +kernel
theorem d_M_isHeld_10 : decode b_M_isHeld 10 = .ok (.getfield 23, 3) := by decide +kernel
theorem d_M_isHeld_13 : decode b_M_isHeld 13 = .ok (.iload_n 1, 1) := by decide +kernel
theorem d_M_isHeld_14 : decode b_M_isHeld 14 = .ok (.baload, 1) := by decide +kernel
theorem d_M_isHeld_15 : decode b_M_isHeld 15 = .ok (.ifCond .eq 7, 3) := by decide +kernel
theorem d_M_isHeld_18 : decode b_M_isHeld 18 = .ok (.iconst 1, 1) := by decide +kernel
theorem d_M_isHeld_19 : decode b_M_isHeld 19 = .ok (.goto 4, 3) := by decide +kernel
theorem d_M_isHeld_22 : decode b_M_isHeld 22 = .ok (.iconst 0, 1) := by decide +kernel
theorem d_M_isHeld_23 : decode b_M_isHeld 23 = .ok (.ireturn, 1) := by decide +kernel
theorem d_M_gather_0 : decode b_M_gather 0 = .ok (.sipush 150, 3) := by decide +kernel
theorem d_M_gather_3 : decode b_M_gather 3 = .ok (.aload_n 0, 1) := by decide +kernel
theorem d_M_gather_4 : decode b_M_gather 4 = .ok (.getfield 115, 3) := by decide +kernel
theorem d_M_gather_7 : decode b_M_gather 7 = .ok (.imul, 1) := by decide +kernel
theorem d_M_gather_8 : decode b_M_gather 8 = .ok (.istore 4, 2) := by decide +kernel
theorem d_M_gather_10 : decode b_M_gather 10 = .ok (.iconst 0, 1) := by decide +kernel
theorem d_M_gather_11 : decode b_M_gather 11 = .ok (.istore 5, 2) := by decide +kernel
theorem d_M_gather_13 : decode b_M_gather 13 = .ok (.iconst 0, 1) := by decide +kernel
theorem d_M_gather_14 : decode b_M_gather 14 = .ok (.istore 6, 2) := by decide +kernel
theorem d_M_gather_16 : decode b_M_gather 16 = .ok (.iload 6, 2) := by decide +kernel
theorem d_M_gather_18 : decode b_M_gather 18 = .ok (.aload_n 0, 1) := by decide +kernel
theorem d_M_gather_19 : decode b_M_gather 19 = .ok (.getfield 98, 3) := by decide +kernel
theorem d_M_gather_22 : decode b_M_gather 22 = .ok (.if_icmp .ge 114, 3) := by decide +kernel
theorem d_M_gather_25 : decode b_M_gather 25 = .ok (.aload_n 0, 1) := by decide +kernel
theorem d_M_gather_26 : decode b_M_gather 26 = .ok (.getfield 13, 3) := by decide +kernel
theorem d_M_gather_29 : decode b_M_gather 29 = .ok (.iload 6, 2) := by decide +kernel
theorem d_M_gather_31 : decode b_M_gather 31 = .ok (.iaload, 1) := by decide +kernel
theorem d_M_gather_32 : decode b_M_gather 32 = .ok (.iload_n 1, 1) := by decide +kernel
theorem d_M_gather_33 : decode b_M_gather 33 = .ok (.iload_n 2, 1) := by decide +kernel
theorem d_M_gather_34 : decode b_M_gather 34 = .ok (.invokestatic 94, 3) := by decide +kernel
theorem d_M_gather_37 : decode b_M_gather 37 = .ok (.ifCond .eq 93, 3) := by decide +kernel
theorem d_M_gather_40 : decode b_M_gather 40 = .ok (.iload_n 3, 1) := by decide +kernel
theorem d_M_gather_41 : decode b_M_gather 41 = .ok (.ifCond .lt 17, 3) := by decide +kernel
theorem d_M_gather_44 : decode b_M_gather 44 = .ok (.aload_n 0, 1) := by decide +kernel
theorem d_M_gather_45 : decode b_M_gather 45 = .ok (.getfield 7, 3) := by decide +kernel
theorem d_M_gather_48 : decode b_M_gather 48 = .ok (.iload 6, 2) := by decide +kernel
theorem d_M_gather_50 : decode b_M_gather 50 = .ok (.iaload, 1) := by decide +kernel
theorem d_M_gather_51 : decode b_M_gather 51 = .ok (.iload_n 3, 1) := by decide +kernel
theorem d_M_gather_52 : decode b_M_gather 52 = .ok (.if_icmp .eq 6, 3) := by decide +kernel
theorem d_M_gather_55 : decode b_M_gather 55 = .ok (.goto 75, 3) := by decide +kernel
theorem d_M_gather_58 : decode b_M_gather 58 = .ok (.iload 4, 2) := by decide +kernel
theorem d_M_gather_60 : decode b_M_gather 60 = .ok (.iload 5, 2) := by decide +kernel
theorem d_M_gather_62 : decode b_M_gather 62 = .ok (.iadd, 1) := by decide +kernel
theorem d_M_gather_63 : decode b_M_gather 63 = .ok (.istore 7, 2) := by decide +kernel
theorem d_M_gather_65 : decode b_M_gather 65 = .ok (.iload 7, 2) := by decide +kernel
theorem d_M_gather_67 : decode b_M_gather 67 = .ok (.iload 4, 2) := by decide +kernel
theorem d_M_gather_69 : decode b_M_gather 69 = .ok (.if_icmp .le 49, 3) := by decide +kernel
theorem d_M_gather_72 : decode b_M_gather 72 = .ok (.aload_n 0, 1) := by decide +kernel
theorem d_M_gather_73 : decode b_M_gather 73 = .ok (.getfield 13, 3) := by decide +kernel
theorem d_M_gather_76 : decode b_M_gather 76 = .ok (.aload_n 0, 1) := by decide +kernel
theorem d_M_gather_77 : decode b_M_gather 77 = .ok (.getfield 38, 3) := by decide +kernel
theorem d_M_gather_80 : decode b_M_gather 80 = .ok (.iload 7, 2) := by decide +kernel
theorem d_M_gather_82 : decode b_M_gather 82 = .ok (.iconst 1, 1) := by decide +kernel
theorem d_M_gather_83 : decode b_M_gather 83 = .ok (.isub, 1) := by decide +kernel
theorem d_M_gather_84 : decode b_M_gather 84 = .ok (.iaload, 1) := by decide +kernel
theorem d_M_gather_85 : decode b_M_gather 85 = .ok (.iaload, 1) := by decide +kernel
theorem d_M_gather_86 : decode b_M_gather 86 = .ok (.aload_n 0, 1) := by decide +kernel
theorem d_M_gather_87 : decode b_M_gather 87 = .ok (.getfield 13, 3) := by decide +kernel
theorem d_M_gather_90 : decode b_M_gather 90 = .ok (.iload 6, 2) := by decide +kernel
theorem d_M_gather_92 : decode b_M_gather 92 = .ok (.iaload, 1) := by decide +kernel
theorem d_M_gather_93 : decode b_M_gather 93 = .ok (.if_icmp .le 25, 3) := by decide +kernel
theorem d_M_gather_96 : decode b_M_gather 96 = .ok (.aload_n 0, 1) := by decide +kernel
theorem d_M_gather_97 : decode b_M_gather 97 = .ok (.getfield 38, 3) := by decide +kernel
theorem d_M_gather_100 : decode b_M_gather 100 = .ok (.iload 7, 2) := by decide +kernel
theorem d_M_gather_102 : decode b_M_gather 102 = .ok (.aload_n 0, 1) := by decide +kernel
theorem d_M_gather_103 : decode b_M_gather 103 = .ok (.getfield 38, 3) := by decide +kernel
theorem d_M_gather_106 : decode b_M_gather 106 = .ok (.iload 7, 2) := by decide +kernel
theorem d_M_gather_108 : decode b_M_gather 108 = .ok (.iconst 1, 1) := by decide +kernel
theorem d_M_gather_109 : decode b_M_gather 109 = .ok (.isub, 1) := by decide +kernel
theorem d_M_gather_110 : decode b_M_gather 110 = .ok (.iaload, 1) := by decide +kernel
theorem d_M_gather_111 : decode b_M_gather 111 = .ok (.iastore, 1) := by decide +kernel
theorem d_M_gather_112 : decode b_M_gather 112 = .ok (.iinc 7 (-1), 3) := by decide +kernel
theorem d_M_gather_115 : decode b_M_gather 115 = .ok (.goto (-50), 3) := by decide +kernel
theorem d_M_gather_118 : decode b_M_gather 118 = .ok (.aload_n 0, 1) := by decide +kernel
theorem d_M_gather_119 : decode b_M_gather 119 = .ok (.getfield 38, 3) := by decide +kernel
theorem d_M_gather_122 : decode b_M_gather 122 = .ok (.iload 7, 2) := by decide +kernel
theorem d_M_gather_124 : decode b_M_gather 124 = .ok (.iload 6, 2) := by decide +kernel
theorem d_M_gather_126 : decode b_M_gather 126 = .ok (.iastore, 1) := by decide +kernel
theorem d_M_gather_127 : decode b_M_gather 127 = .ok (.iinc 5 1, 3) := by decide +kernel
theorem d_M_gather_130 : decode b_M_gather 130 = .ok (.iinc 6 1, 3) := by decide +kernel
theorem d_M_gather_133 : decode b_M_gather 133 = .ok (.goto (-117), 3) := by decide +kernel
theorem d_M_gather_136 : decode b_M_gather 136 = .ok (.iload 5, 2) := by decide +kernel
theorem d_M_gather_138 : decode b_M_gather 138 = .ok (.ireturn, 1) := by decide +kernel
theorem d_M_makePage_0 : decode b_M_makePage 0 = .ok (.aload_n 0, 1) := by decide +kernel
theorem d_M_makePage_1 : decode b_M_makePage 1 = .ok (.getfield 118, 3) := by decide +kernel
theorem d_M_makePage_4 : decode b_M_makePage 4 = .ok (.istore 4, 2) := by decide +kernel
theorem d_M_makePage_6 : decode b_M_makePage 6 = .ok (.aload_n 0, 1) := by decide +kernel
theorem d_M_makePage_7 : decode b_M_makePage 7 = .ok (.getfield 41, 3) := by decide +kernel
theorem d_M_makePage_10 : decode b_M_makePage 10 = .ok (.iload 4, 2) := by decide +kernel
theorem d_M_makePage_12 : decode b_M_makePage 12 = .ok (.iload_n 1, 1) := by decide +kernel
theorem d_M_makePage_13 : decode b_M_makePage 13 = .ok (.iastore, 1) := by decide +kernel
theorem d_M_makePage_14 : decode b_M_makePage 14 = .ok (.aload_n 0, 1) := by decide +kernel
theorem d_M_makePage_15 : decode b_M_makePage 15 = .ok (.getfield 44, 3) := by decide +kernel
theorem d_M_makePage_18 : decode b_M_makePage 18 = .ok (.iload 4, 2) := by decide +kernel
theorem d_M_makePage_20 : decode b_M_makePage 20 = .ok (.iload_n 2, 1) := by decide +kernel
theorem d_M_makePage_21 : decode b_M_makePage 21 = .ok (.iastore, 1) := by decide +kernel
theorem d_M_makePage_22 : decode b_M_makePage 22 = .ok (.aload_n 0, 1) := by decide +kernel
theorem d_M_makePage_23 : decode b_M_makePage 23 = .ok (.getfield 50, 3) := by decide +kernel
theorem d_M_makePage_26 : decode b_M_makePage 26 = .ok (.iload 4, 2) := by decide +kernel
theorem d_M_makePage_28 : decode b_M_makePage 28 = .ok (.aload_n 0, 1) := by decide +kernel
theorem d_M_makePage_29 : decode b_M_makePage 29 = .ok (.getfield 121, 3) := by decide +kernel
theorem d_M_makePage_32 : decode b_M_makePage 32 = .ok (.iastore, 1) := by decide +kernel
theorem d_M_makePage_33 : decode b_M_makePage 33 = .ok (.iload_n 2, 1) := by decide +kernel
theorem d_M_makePage_34 : decode b_M_makePage 34 = .ok (.aload_n 0, 1) := by decide +kernel
theorem d_M_makePage_35 : decode b_M_makePage 35 = .ok (.getfield 80, 3) := by decide +kernel
theorem d_M_makePage_38 : decode b_M_makePage 38 = .ok (.iadd, 1) := by decide +kernel
theorem d_M_makePage_39 : decode b_M_makePage 39 = .ok (.aload_n 0, 1) := by decide +kernel
theorem d_M_makePage_40 : decode b_M_makePage 40 = .ok (.getfield 26, 3) := by decide +kernel
theorem d_M_makePage_43 : decode b_M_makePage 43 = .ok (.iload_n 1, 1) := by decide +kernel
theorem d_M_makePage_44 : decode b_M_makePage 44 = .ok (.iaload, 1) := by decide +kernel
theorem d_M_makePage_45 : decode b_M_makePage 45 = .ok (.if_icmp .ge 12, 3) := by decide +kernel
theorem d_M_makePage_48 : decode b_M_makePage 48 = .ok (.iload_n 2, 1) := by decide +kernel
theorem d_M_makePage_49 : decode b_M_makePage 49 = .ok (.aload_n 0, 1) := by decide +kernel
theorem d_M_makePage_50 : decode b_M_makePage 50 = .ok (.getfield 80, 3) := by decide +kernel
theorem d_M_makePage_53 : decode b_M_makePage 53 = .ok (.iadd, 1) := by decide +kernel
theorem d_M_makePage_54 : decode b_M_makePage 54 = .ok (.goto 9, 3) := by decide +kernel
theorem d_M_makePage_57 : decode b_M_makePage 57 = .ok (.aload_n 0, 1) := by decide +kernel
theorem d_M_makePage_58 : decode b_M_makePage 58 = .ok (.getfield 26, 3) := by decide +kernel
theorem d_M_makePage_61 : decode b_M_makePage 61 = .ok (.iload_n 1, 1) := by decide +kernel
theorem d_M_makePage_62 : decode b_M_makePage 62 = .ok (.iaload, 1) := by decide +kernel
theorem d_M_makePage_63 : decode b_M_makePage 63 = .ok (.istore 5, 2) := by decide +kernel
theorem d_M_makePage_65 : decode b_M_makePage 65 = .ok (.iload_n 2, 1) := by decide +kernel
theorem d_M_makePage_66 : decode b_M_makePage 66 = .ok (.istore 6, 2) := by decide +kernel
theorem d_M_makePage_68 : decode b_M_makePage 68 = .ok (.iload 6, 2) := by decide +kernel
theorem d_M_makePage_70 : decode b_M_makePage 70 = .ok (.iload 5, 2) := by decide +kernel
theorem d_M_makePage_72 : decode b_M_makePage 72 = .ok (.if_icmp .ge 106, 3) := by decide +kernel
theorem d_M_makePage_75 : decode b_M_makePage 75 = .ok (.aload_n 0, 1) := by decide +kernel
theorem d_M_makePage_76 : decode b_M_makePage 76 = .ok (.getfield 38, 3) := by decide +kernel
theorem d_M_makePage_79 : decode b_M_makePage 79 = .ok (.sipush 150, 3) := by decide +kernel
theorem d_M_makePage_82 : decode b_M_makePage 82 = .ok (.iload_n 1, 1) := by decide +kernel
theorem d_M_makePage_83 : decode b_M_makePage 83 = .ok (.imul, 1) := by decide +kernel
theorem d_M_makePage_84 : decode b_M_makePage 84 = .ok (.iload 6, 2) := by decide +kernel
theorem d_M_makePage_86 : decode b_M_makePage 86 = .ok (.iadd, 1) := by decide +kernel
theorem d_M_makePage_87 : decode b_M_makePage 87 = .ok (.iaload, 1) := by decide +kernel
theorem d_M_makePage_88 : decode b_M_makePage 88 = .ok (.istore 7, 2) := by decide +kernel
theorem d_M_makePage_90 : decode b_M_makePage 90 = .ok (.aload_n 0, 1) := by decide +kernel
theorem d_M_makePage_91 : decode b_M_makePage 91 = .ok (.getfield 20, 3) := by decide +kernel
theorem d_M_makePage_94 : decode b_M_makePage 94 = .ok (.iload 7, 2) := by decide +kernel
theorem d_M_makePage_96 : decode b_M_makePage 96 = .ok (.iaload, 1) := by decide +kernel
theorem d_M_makePage_97 : decode b_M_makePage 97 = .ok (.aload_n 0, 1) := by decide +kernel
theorem d_M_makePage_98 : decode b_M_makePage 98 = .ok (.getfield 29, 3) := by decide +kernel
theorem d_M_makePage_101 : decode b_M_makePage 101 = .ok (.iload_n 1, 1) := by decide +kernel
theorem d_M_makePage_102 : decode b_M_makePage 102 = .ok (.iaload, 1) := by decide +kernel
theorem d_M_makePage_103 : decode b_M_makePage 103 = .ok (.if_icmp .le 16, 3) := by decide +kernel
theorem d_M_makePage_106 : decode b_M_makePage 106 = .ok (.aload_n 0, 1) := by decide +kernel
theorem d_M_makePage_107 : decode b_M_makePage 107 = .ok (.dup, 1) := by decide +kernel
theorem d_M_makePage_108 : decode b_M_makePage 108 = .ok (.getfield 124, 3) := by decide +kernel
theorem d_M_makePage_111 : decode b_M_makePage 111 = .ok (.iconst 1, 1) := by decide +kernel
theorem d_M_makePage_112 : decode b_M_makePage 112 = .ok (.iadd, 1) := by decide +kernel
theorem d_M_makePage_113 : decode b_M_makePage 113 = .ok (.putfield 124, 3) := by decide +kernel
theorem d_M_makePage_116 : decode b_M_makePage 116 = .ok (.goto 56, 3) := by decide +kernel
theorem d_M_makePage_119 : decode b_M_makePage 119 = .ok (.aload_n 0, 1) := by decide +kernel
theorem d_M_makePage_120 : decode b_M_makePage 120 = .ok (.getfield 56, 3) := by decide +kernel
theorem d_M_makePage_123 : decode b_M_makePage 123 = .ok (.aload_n 0, 1) := by decide +kernel
theorem d_M_makePage_124 : decode b_M_makePage 124 = .ok (.getfield 121, 3) := by decide +kernel
theorem d_M_makePage_127 : decode b_M_makePage 127 = .ok (.iload 7, 2) := by decide +kernel
theorem d_M_makePage_129 : decode b_M_makePage 129 = .ok (.iastore, 1) := by decide +kernel
theorem d_M_makePage_130 : decode b_M_makePage 130 = .ok (.aload_n 0, 1) := by decide +kernel
theorem d_M_makePage_131 : decode b_M_makePage 131 = .ok (.getfield 59, 3) := by decide +kernel
theorem d_M_makePage_134 : decode b_M_makePage 134 = .ok (.aload_n 0, 1) := by decide +kernel
theorem d_M_makePage_135 : decode b_M_makePage 135 = .ok (.getfield 121, 3) := by decide +kernel
theorem d_M_makePage_138 : decode b_M_makePage 138 = .ok (.aload_n 0, 1) := by decide +kernel
theorem d_M_makePage_139 : decode b_M_makePage 139 = .ok (.getfield 13, 3) := by decide +kernel
theorem d_M_makePage_142 : decode b_M_makePage 142 = .ok (.iload 7, 2) := by decide +kernel
theorem d_M_makePage_144 : decode b_M_makePage 144 = .ok (.iaload, 1) := by decide +kernel
theorem d_M_makePage_145 : decode b_M_makePage 145 = .ok (.iastore, 1) := by decide +kernel
theorem d_M_makePage_146 : decode b_M_makePage 146 = .ok (.aload_n 0, 1) := by decide +kernel
theorem d_M_makePage_147 : decode b_M_makePage 147 = .ok (.getfield 62, 3) := by decide +kernel
theorem d_M_makePage_150 : decode b_M_makePage 150 = .ok (.aload_n 0, 1) := by decide +kernel
theorem d_M_makePage_151 : decode b_M_makePage 151 = .ok (.getfield 121, 3) := by decide +kernel
theorem d_M_makePage_154 : decode b_M_makePage 154 = .ok (.aload_n 0, 1) := by decide +kernel
theorem d_M_makePage_155 : decode b_M_makePage 155 = .ok (.getfield 16, 3) := by decide +kernel
theorem d_M_makePage_158 : decode b_M_makePage 158 = .ok (.iload 7, 2) := by decide +kernel
theorem d_M_makePage_160 : decode b_M_makePage 160 = .ok (.baload, 1) := by decide +kernel
theorem d_M_makePage_161 : decode b_M_makePage 161 = .ok (.bastore, 1) := by decide +kernel
theorem d_M_makePage_162 : decode b_M_makePage 162 = .ok (.aload_n 0, 1) := by decide +kernel
theorem d_M_makePage_163 : decode b_M_makePage 163 = .ok (.dup, 1) := by decide +kernel
theorem d_M_makePage_164 : decode b_M_makePage 164 = .ok (.getfield 121, 3) := by decide +kernel
theorem d_M_makePage_167 : decode b_M_makePage 167 = .ok (.iconst 1, 1) := by decide +kernel
theorem d_M_makePage_168 : decode b_M_makePage 168 = .ok (.iadd, 1) := by decide +kernel
theorem d_M_makePage_169 : decode b_M_makePage 169 = .ok (.putfield 121, 3) := by decide +kernel
theorem d_M_makePage_172 : decode b_M_makePage 172 = .ok (.iinc 6 1, 3) := by decide +kernel
theorem d_M_makePage_175 : decode b_M_makePage 175 = .ok (.goto (-107), 3) := by decide +kernel
theorem d_M_makePage_178 : decode b_M_makePage 178 = .ok (.aload_n 0, 1) := by decide +kernel
theorem d_M_makePage_179 : decode b_M_makePage 179 = .ok (.getfield 47, 3) := by decide +kernel
theorem d_M_makePage_182 : decode b_M_makePage 182 = .ok (.iload 4, 2) := by decide +kernel
theorem d_M_makePage_184 : decode b_M_makePage 184 = .ok (.aload_n 0, 1) := by decide +kernel
theorem d_M_makePage_185 : decode b_M_makePage 185 = .ok (.getfield 121, 3) := by decide +kernel
theorem d_M_makePage_188 : decode b_M_makePage 188 = .ok (.aload_n 0, 1) := by decide +kernel
theorem d_M_makePage_189 : decode b_M_makePage 189 = .ok (.getfield 50, 3) := by decide +kernel
theorem d_M_makePage_192 : decode b_M_makePage 192 = .ok (.iload 4, 2) := by decide +kernel
theorem d_M_makePage_194 : decode b_M_makePage 194 = .ok (.iaload, 1) := by decide +kernel
theorem d_M_makePage_195 : decode b_M_makePage 195 = .ok (.isub, 1) := by decide +kernel
theorem d_M_makePage_196 : decode b_M_makePage 196 = .ok (.iastore, 1) := by decide +kernel
theorem d_M_makePage_197 : decode b_M_makePage 197 = .ok (.aload_n 0, 1) := by decide +kernel
theorem d_M_makePage_198 : decode b_M_makePage 198 = .ok (.getfield 53, 3) := by decide +kernel
theorem d_M_makePage_201 : decode b_M_makePage 201 = .ok (.iload 4, 2) := by decide +kernel
theorem d_M_makePage_203 : decode b_M_makePage 203 = .ok (.iconst (-1), 1) := by decide +kernel
theorem d_M_makePage_204 : decode b_M_makePage 204 = .ok (.iastore, 1) := by decide +kernel
theorem d_M_makePage_205 : decode b_M_makePage 205 = .ok (.iload 5, 2) := by decide +kernel
theorem d_M_makePage_207 : decode b_M_makePage 207 = .ok (.aload_n 0, 1) := by decide +kernel
theorem d_M_makePage_208 : decode b_M_makePage 208 = .ok (.getfield 26, 3) := by decide +kernel
theorem d_M_makePage_211 : decode b_M_makePage 211 = .ok (.iload_n 1, 1) := by decide +kernel
theorem d_M_makePage_212 : decode b_M_makePage 212 = .ok (.iaload, 1) := by decide +kernel
theorem d_M_makePage_213 : decode b_M_makePage 213 = .ok (.if_icmp .ge 55, 3) := by decide +kernel
theorem d_M_makePage_216 : decode b_M_makePage 216 = .ok (.aload_n 0, 1) := by decide +kernel
theorem d_M_makePage_217 : decode b_M_makePage 217 = .ok (.getfield 53, 3) := by decide +kernel
theorem d_M_makePage_220 : decode b_M_makePage 220 = .ok (.iload 4, 2) := by decide +kernel
theorem d_M_makePage_222 : decode b_M_makePage 222 = .ok (.aload_n 0, 1) := by decide +kernel
theorem d_M_makePage_223 : decode b_M_makePage 223 = .ok (.getfield 127, 3) := by decide +kernel
theorem d_M_makePage_226 : decode b_M_makePage 226 = .ok (.iastore, 1) := by decide +kernel
theorem d_M_makePage_227 : decode b_M_makePage 227 = .ok (.aload_n 0, 1) := by decide +kernel
theorem d_M_makePage_228 : decode b_M_makePage 228 = .ok (.getfield 65, 3) := by decide +kernel
theorem d_M_makePage_231 : decode b_M_makePage 231 = .ok (.aload_n 0, 1) := by decide +kernel
theorem d_M_makePage_232 : decode b_M_makePage 232 = .ok (.getfield 127, 3) := by decide +kernel
theorem d_M_makePage_235 : decode b_M_makePage 235 = .ok (.iload 4, 2) := by decide +kernel
theorem d_M_makePage_237 : decode b_M_makePage 237 = .ok (.iastore, 1) := by decide +kernel
theorem d_M_makePage_238 : decode b_M_makePage 238 = .ok (.aload_n 0, 1) := by decide +kernel
theorem d_M_makePage_239 : decode b_M_makePage 239 = .ok (.getfield 68, 3) := by decide +kernel
theorem d_M_makePage_242 : decode b_M_makePage 242 = .ok (.aload_n 0, 1) := by decide +kernel
theorem d_M_makePage_243 : decode b_M_makePage 243 = .ok (.getfield 127, 3) := by decide +kernel
theorem d_M_makePage_246 : decode b_M_makePage 246 = .ok (.iload_n 3, 1) := by decide +kernel
theorem d_M_makePage_247 : decode b_M_makePage 247 = .ok (.iastore, 1) := by decide +kernel
theorem d_M_makePage_248 : decode b_M_makePage 248 = .ok (.aload_n 0, 1) := by decide +kernel
theorem d_M_makePage_249 : decode b_M_makePage 249 = .ok (.getfield 71, 3) := by decide +kernel
theorem d_M_makePage_252 : decode b_M_makePage 252 = .ok (.aload_n 0, 1) := by decide +kernel
theorem d_M_makePage_253 : decode b_M_makePage 253 = .ok (.getfield 127, 3) := by decide +kernel
theorem d_M_makePage_256 : decode b_M_makePage 256 = .ok (.iconst (-1), 1) := by decide +kernel
theorem d_M_makePage_257 : decode b_M_makePage 257 = .ok (.iastore, 1) := by decide +kernel
theorem d_M_makePage_258 : decode b_M_makePage 258 = .ok (.aload_n 0, 1) := by decide +kernel
theorem d_M_makePage_259 : decode b_M_makePage 259 = .ok (.dup, 1) := by decide +kernel
theorem d_M_makePage_260 : decode b_M_makePage 260 = .ok (.getfield 127, 3) := by decide +kernel
theorem d_M_makePage_263 : decode b_M_makePage 263 = .ok (.iconst 1, 1) := by decide +kernel
theorem d_M_makePage_264 : decode b_M_makePage 264 = .ok (.iadd, 1) := by decide +kernel
theorem d_M_makePage_265 : decode b_M_makePage 265 = .ok (.putfield 127, 3) := by decide +kernel
theorem d_M_makePage_268 : decode b_M_makePage 268 = .ok (.aload_n 0, 1) := by decide +kernel
theorem d_M_makePage_269 : decode b_M_makePage 269 = .ok (.dup, 1) := by decide +kernel
theorem d_M_makePage_270 : decode b_M_makePage 270 = .ok (.getfield 118, 3) := by decide +kernel
theorem d_M_makePage_273 : decode b_M_makePage 273 = .ok (.iconst 1, 1) := by decide +kernel
theorem d_M_makePage_274 : decode b_M_makePage 274 = .ok (.iadd, 1) := by decide +kernel
theorem d_M_makePage_275 : decode b_M_makePage 275 = .ok (.putfield 118, 3) := by decide +kernel
theorem d_M_makePage_278 : decode b_M_makePage 278 = .ok (.iload 4, 2) := by decide +kernel
theorem d_M_makePage_280 : decode b_M_makePage 280 = .ok (.ireturn, 1) := by decide +kernel
theorem d_M_answer_0 : decode b_M_answer 0 = .ok (.aload_n 0, 1) := by decide +kernel
theorem d_M_answer_1 : decode b_M_answer 1 = .ok (.getfield 74, 3) := by decide +kernel
theorem d_M_answer_4 : decode b_M_answer 4 = .ok (.iload_n 1, 1) := by decide +kernel
theorem d_M_answer_5 : decode b_M_answer 5 = .ok (.iload_n 2, 1) := by decide +kernel
theorem d_M_answer_6 : decode b_M_answer 6 = .ok (.iastore, 1) := by decide +kernel
theorem d_M_answer_7 : decode b_M_answer 7 = .ok (.aload_n 0, 1) := by decide +kernel
theorem d_M_answer_8 : decode b_M_answer 8 = .ok (.getfield 77, 3) := by decide +kernel
theorem d_M_answer_11 : decode b_M_answer 11 = .ok (.iload_n 1, 1) := by decide +kernel
theorem d_M_answer_12 : decode b_M_answer 12 = .ok (.dup2, 1) := by decide +kernel
theorem d_M_answer_13 : decode b_M_answer 13 = .ok (.iaload, 1) := by decide +kernel
theorem d_M_answer_14 : decode b_M_answer 14 = .ok (.aload_n 0, 1) := by decide +kernel
theorem d_M_answer_15 : decode b_M_answer 15 = .ok (.getfield 47, 3) := by decide +kernel
theorem d_M_answer_18 : decode b_M_answer 18 = .ok (.iload_n 2, 1) := by decide +kernel
theorem d_M_answer_19 : decode b_M_answer 19 = .ok (.iaload, 1) := by decide +kernel
theorem d_M_answer_20 : decode b_M_answer 20 = .ok (.iadd, 1) := by decide +kernel
theorem d_M_answer_21 : decode b_M_answer 21 = .ok (.iastore, 1) := by decide +kernel
theorem d_M_answer_22 : decode b_M_answer 22 = .ok (.aload_n 0, 1) := by decide +kernel
theorem d_M_answer_23 : decode b_M_answer 23 = .ok (.getfield 47, 3) := by decide +kernel
theorem d_M_answer_26 : decode b_M_answer 26 = .ok (.iload_n 2, 1) := by decide +kernel
theorem d_M_answer_27 : decode b_M_answer 27 = .ok (.iaload, 1) := by decide +kernel
theorem d_M_answer_28 : decode b_M_answer 28 = .ok (.ireturn, 1) := by decide +kernel
theorem d_M_resume_0 : decode b_M_resume 0 = .ok (.aload_n 0, 1) := by decide +kernel
theorem d_M_resume_1 : decode b_M_resume 1 = .ok (.iconst 0, 1) := by decide +kernel
theorem d_M_resume_2 : decode b_M_resume 2 = .ok (.putfield 91, 3) := by decide +kernel
theorem d_M_resume_5 : decode b_M_resume 5 = .ok (.iload_n 1, 1) := by decide +kernel
theorem d_M_resume_6 : decode b_M_resume 6 = .ok (.iconst 0, 1) := by decide +kernel
theorem d_M_resume_7 : decode b_M_resume 7 = .ok (.bipush 9, 2) := by decide +kernel
theorem d_M_resume_9 : decode b_M_resume 9 = .ok (.invokestatic 94, 3) := by decide +kernel
theorem d_M_resume_12 : decode b_M_resume 12 = .ok (.ifCond .ne 5, 3) := by decide +kernel
theorem d_M_resume_15 : decode b_M_resume 15 = .ok (.iconst (-1), 1) := by decide +kernel
theorem d_M_resume_16 : decode b_M_resume 16 = .ok (.ireturn, 1) := by decide +kernel
theorem d_M_resume_17 : decode b_M_resume 17 = .ok (.iload_n 3, 1) := by decide +kernel
theorem d_M_resume_18 : decode b_M_resume 18 = .ok (.iconst 0, 1) := by decide +kernel
theorem d_M_resume_19 : decode b_M_resume 19 = .ok (.ldc 130, 2) := by decide +kernel
theorem d_M_resume_21 : decode b_M_resume 21 = .ok (.invokestatic 94, 3) := by decide +kernel
theorem d_M_resume_24 : decode b_M_resume 24 = .ok (.ifCond .ne 6, 3) := by decide +kernel
theorem d_M_resume_27 : decode b_M_resume 27 = .ok (.bipush (-2), 2) := by decide +kernel
theorem d_M_resume_29 : decode b_M_resume 29 = .ok (.ireturn, 1) := by decide +kernel
theorem d_M_resume_30 : decode b_M_resume 30 = .ok (.iload_n 2, 1) := by decide +kernel
theorem d_M_resume_31 : decode b_M_resume 31 = .ok (.iconst 0, 1) := by decide +kernel
theorem d_M_resume_32 : decode b_M_resume 32 = .ok (.aload_n 0, 1) := by decide +kernel
theorem d_M_resume_33 : decode b_M_resume 33 = .ok (.getfield 127, 3) := by decide +kernel
theorem d_M_resume_36 : decode b_M_resume 36 = .ok (.iconst 1, 1) := by decide +kernel
theorem d_M_resume_37 : decode b_M_resume 37 = .ok (.isub, 1) := by decide +kernel
theorem d_M_resume_38 : decode b_M_resume 38 = .ok (.invokestatic 94, 3) := by decide +kernel
theorem d_M_resume_41 : decode b_M_resume 41 = .ok (.ifCond .ne 6, 3) := by decide +kernel
theorem d_M_resume_44 : decode b_M_resume 44 = .ok (.bipush (-15), 2) := by decide +kernel
theorem d_M_resume_46 : decode b_M_resume 46 = .ok (.ireturn, 1) := by decide +kernel
theorem d_M_resume_47 : decode b_M_resume 47 = .ok (.aload_n 0, 1) := by decide +kernel
theorem d_M_resume_48 : decode b_M_resume 48 = .ok (.getfield 65, 3) := by decide +kernel
theorem d_M_resume_51 : decode b_M_resume 51 = .ok (.iload_n 2, 1) := by decide +kernel
theorem d_M_resume_52 : decode b_M_resume 52 = .ok (.iaload, 1) := by decide +kernel
theorem d_M_resume_53 : decode b_M_resume 53 = .ok (.istore 4, 2) := by decide +kernel
theorem d_M_resume_55 : decode b_M_resume 55 = .ok (.aload_n 0, 1) := by decide +kernel
theorem d_M_resume_56 : decode b_M_resume 56 = .ok (.getfield 35, 3) := by decide +kernel
theorem d_M_resume_59 : decode b_M_resume 59 = .ok (.aload_n 0, 1) := by decide +kernel
theorem d_M_resume_60 : decode b_M_resume 60 = .ok (.getfield 41, 3) := by decide +kernel
theorem d_M_resume_63 : decode b_M_resume 63 = .ok (.iload 4, 2) := by decide +kernel
theorem d_M_resume_65 : decode b_M_resume 65 = .ok (.iaload, 1) := by decide +kernel
theorem d_M_resume_66 : decode b_M_resume 66 = .ok (.iaload, 1) := by decide +kernel
theorem d_M_resume_67 : decode b_M_resume 67 = .ok (.iload_n 1, 1) := by decide +kernel
theorem d_M_resume_68 : decode b_M_resume 68 = .ok (.if_icmp .ne 18, 3) := by decide +kernel
theorem d_M_resume_71 : decode b_M_resume 71 = .ok (.iload_n 3, 1) := by decide +kernel
theorem d_M_resume_72 : decode b_M_resume 72 = .ok (.aload_n 0, 1) := by decide +kernel
theorem d_M_resume_73 : decode b_M_resume 73 = .ok (.getfield 68, 3) := by decide +kernel
theorem d_M_resume_76 : decode b_M_resume 76 = .ok (.iload_n 2, 1) := by decide +kernel
theorem d_M_resume_77 : decode b_M_resume 77 = .ok (.iaload, 1) := by decide +kernel
theorem d_M_resume_78 : decode b_M_resume 78 = .ok (.isub, 1) := by decide +kernel
theorem d_M_resume_79 : decode b_M_resume 79 = .ok (.aload_n 0, 1) := by decide +kernel
theorem d_M_resume_80 : decode b_M_resume 80 = .ok (.getfield 88, 3) := by decide +kernel
theorem d_M_resume_83 : decode b_M_resume 83 = .ok (.if_icmp .le 6, 3) := by decide +kernel
theorem d_M_resume_86 : decode b_M_resume 86 = .ok (.bipush (-15), 2) := by decide +kernel
theorem d_M_resume_88 : decode b_M_resume 88 = .ok (.ireturn, 1) := by decide +kernel
theorem d_M_resume_89 : decode b_M_resume 89 = .ok (.aload_n 0, 1) := by decide +kernel
theorem d_M_resume_90 : decode b_M_resume 90 = .ok (.getfield 71, 3) := by decide +kernel
theorem d_M_resume_93 : decode b_M_resume 93 = .ok (.iload_n 2, 1) := by decide +kernel
theorem d_M_resume_94 : decode b_M_resume 94 = .ok (.iaload, 1) := by decide +kernel
theorem d_M_resume_95 : decode b_M_resume 95 = .ok (.ifCond .ge 33, 3) := by decide +kernel
theorem d_M_resume_98 : decode b_M_resume 98 = .ok (.aload_n 0, 1) := by decide +kernel
theorem d_M_resume_99 : decode b_M_resume 99 = .ok (.getfield 71, 3) := by decide +kernel
theorem d_M_resume_102 : decode b_M_resume 102 = .ok (.iload_n 2, 1) := by decide +kernel
theorem d_M_resume_103 : decode b_M_resume 103 = .ok (.aload_n 0, 1) := by decide +kernel
theorem d_M_resume_104 : decode b_M_resume 104 = .ok (.aload_n 0, 1) := by decide +kernel
theorem d_M_resume_105 : decode b_M_resume 105 = .ok (.getfield 41, 3) := by decide +kernel
theorem d_M_resume_108 : decode b_M_resume 108 = .ok (.iload 4, 2) := by decide +kernel
theorem d_M_resume_110 : decode b_M_resume 110 = .ok (.iaload, 1) := by decide +kernel
theorem d_M_resume_111 : decode b_M_resume 111 = .ok (.aload_n 0, 1) := by decide +kernel
theorem d_M_resume_112 : decode b_M_resume 112 = .ok (.getfield 44, 3) := by decide +kernel
theorem d_M_resume_115 : decode b_M_resume 115 = .ok (.iload 4, 2) := by decide +kernel
theorem d_M_resume_117 : decode b_M_resume 117 = .ok (.iaload, 1) := by decide +kernel
theorem d_M_resume_118 : decode b_M_resume 118 = .ok (.aload_n 0, 1) := by decide +kernel
theorem d_M_resume_119 : decode b_M_resume 119 = .ok (.getfield 80, 3) := by decide +kernel
theorem d_M_resume_122 : decode b_M_resume 122 = .ok (.iadd, 1) := by decide +kernel
theorem d_M_resume_123 : decode b_M_resume 123 = .ok (.iload_n 3, 1) := by decide +kernel
theorem d_M_resume_124 : decode b_M_resume 124 = .ok (.invokevirtual 138, 3) := by decide +kernel
theorem d_M_resume_127 : decode b_M_resume 127 = .ok (.iastore, 1) := by decide +kernel
theorem d_M_resume_128 : decode b_M_resume 128 = .ok (.aload_n 0, 1) := by decide +kernel
theorem d_M_resume_129 : decode b_M_resume 129 = .ok (.iload_n 1, 1) := by decide +kernel
theorem d_M_resume_130 : decode b_M_resume 130 = .ok (.aload_n 0, 1) := by decide +kernel
theorem d_M_resume_131 : decode b_M_resume 131 = .ok (.getfield 71, 3) := by decide +kernel
theorem d_M_resume_134 : decode b_M_resume 134 = .ok (.iload_n 2, 1) := by decide +kernel
theorem d_M_resume_135 : decode b_M_resume 135 = .ok (.iaload, 1) := by decide +kernel
theorem d_M_resume_136 : decode b_M_resume 136 = .ok (.invokevirtual 141, 3) := by decide +kernel
theorem d_M_resume_139 : decode b_M_resume 139 = .ok (.ireturn, 1) := by decide +kernel
theorem d_M_token_0 : decode b_M_token 0 = .ok (.aload_n 0, 1) := by decide +kernel
theorem d_M_token_1 : decode b_M_token 1 = .ok (.iconst 0, 1) := by decide +kernel
theorem d_M_token_2 : decode b_M_token 2 = .ok (.putfield 91, 3) := by decide +kernel
theorem d_M_token_5 : decode b_M_token 5 = .ok (.iload_n 1, 1) := by decide +kernel
theorem d_M_token_6 : decode b_M_token 6 = .ok (.iconst 0, 1) := by decide +kernel
theorem d_M_token_7 : decode b_M_token 7 = .ok (.bipush 9, 2) := by decide +kernel
theorem d_M_token_9 : decode b_M_token 9 = .ok (.invokestatic 94, 3) := by decide +kernel
theorem d_M_token_12 : decode b_M_token 12 = .ok (.ifCond .eq 26, 3) := by decide +kernel
theorem d_M_token_15 : decode b_M_token 15 = .ok (.aload_n 0, 1) := by decide +kernel
theorem d_M_token_16 : decode b_M_token 16 = .ok (.getfield 74, 3) := by decide +kernel
theorem d_M_token_19 : decode b_M_token 19 = .ok (.iload_n 1, 1) := by decide +kernel
theorem d_M_token_20 : decode b_M_token 20 = .ok (.iaload, 1) := by decide +kernel
theorem d_M_token_21 : decode b_M_token 21 = .ok (.ifCond .lt 17, 3) := by decide +kernel
theorem d_M_token_24 : decode b_M_token 24 = .ok (.aload_n 0, 1) := by decide +kernel
theorem d_M_token_25 : decode b_M_token 25 = .ok (.getfield 53, 3) := by decide +kernel
theorem d_M_token_28 : decode b_M_token 28 = .ok (.aload_n 0, 1) := by decide +kernel
theorem d_M_token_29 : decode b_M_token 29 = .ok (.getfield 74, 3) := by decide +kernel
theorem d_M_token_32 : decode b_M_token 32 = .ok (.iload_n 1, 1) := by decide +kernel
theorem d_M_token_33 : decode b_M_token 33 = .ok (.iaload, 1) := by decide +kernel
theorem d_M_token_34 : decode b_M_token 34 = .ok (.iaload, 1) := by decide +kernel
theorem d_M_token_35 : decode b_M_token 35 = .ok (.goto 4, 3) := by decide +kernel
theorem d_M_token_38 : decode b_M_token 38 = .ok (.iconst (-1), 1) := by decide +kernel
theorem d_M_token_39 : decode b_M_token 39 = .ok (.ireturn, 1) := by decide +kernel
theorem d_M_row_0 : decode b_M_row 0 = .ok (.iload_n 1, 1) := by decide +kernel
theorem d_M_row_1 : decode b_M_row 1 = .ok (.iconst 0, 1) := by decide +kernel
theorem d_M_row_2 : decode b_M_row 2 = .ok (.bipush 9, 2) := by decide +kernel
theorem d_M_row_4 : decode b_M_row 4 = .ok (.invokestatic 94, 3) := by decide +kernel
theorem d_M_row_7 : decode b_M_row 7 = .ok (.ifCond .eq 25, 3) := by decide +kernel
theorem d_M_row_10 : decode b_M_row 10 = .ok (.aload_n 0, 1) := by decide +kernel
theorem d_M_row_11 : decode b_M_row 11 = .ok (.getfield 74, 3) := by decide +kernel
theorem d_M_row_14 : decode b_M_row 14 = .ok (.iload_n 1, 1) := by decide +kernel
theorem d_M_row_15 : decode b_M_row 15 = .ok (.iaload, 1) := by decide +kernel
theorem d_M_row_16 : decode b_M_row 16 = .ok (.ifCond .lt 16, 3) := by decide +kernel
theorem d_M_row_19 : decode b_M_row 19 = .ok (.iload_n 3, 1) := by decide +kernel
theorem d_M_row_20 : decode b_M_row 20 = .ok (.iconst 0, 1) := by decide +kernel
theorem d_M_row_21 : decode b_M_row 21 = .ok (.iconst 3, 1) := by decide +kernel
theorem d_M_row_22 : decode b_M_row 22 = .ok (.invokestatic 94, 3) := by decide +kernel
theorem d_M_row_25 : decode b_M_row 25 = .ok (.ifCond .eq 7, 3) := by decide +kernel
theorem d_M_row_28 : decode b_M_row 28 = .ok (.iconst 1, 1) := by decide +kernel
theorem d_M_row_29 : decode b_M_row 29 = .ok (.goto 4, 3) := by decide +kernel
theorem d_M_row_32 : decode b_M_row 32 = .ok (.iconst 0, 1) := by decide +kernel
theorem d_M_row_33 : decode b_M_row 33 = .ok (.istore 4, 2) := by decide +kernel
theorem d_M_row_35 : decode b_M_row 35 = .ok (.aload_n 0, 1) := by decide +kernel
theorem d_M_row_36 : decode b_M_row 36 = .ok (.iload 4, 2) := by decide +kernel
theorem d_M_row_38 : decode b_M_row 38 = .ok (.ifCond .eq 28, 3) := by decide +kernel
theorem d_M_row_41 : decode b_M_row 41 = .ok (.iload_n 2, 1) := by decide +kernel
theorem d_M_row_42 : decode b_M_row 42 = .ok (.iconst 0, 1) := by decide +kernel
theorem d_M_row_43 : decode b_M_row 43 = .ok (.aload_n 0, 1) := by decide +kernel
theorem d_M_row_44 : decode b_M_row 44 = .ok (.getfield 47, 3) := by decide +kernel
theorem d_M_row_47 : decode b_M_row 47 = .ok (.aload_n 0, 1) := by decide +kernel
theorem d_M_row_48 : decode b_M_row 48 = .ok (.getfield 74, 3) := by decide +kernel
theorem d_M_row_51 : decode b_M_row 51 = .ok (.iload_n 1, 1) := by decide +kernel
theorem d_M_row_52 : decode b_M_row 52 = .ok (.iaload, 1) := by decide +kernel
theorem d_M_row_53 : decode b_M_row 53 = .ok (.iaload, 1) := by decide +kernel
theorem d_M_row_54 : decode b_M_row 54 = .ok (.iconst 1, 1) := by decide +kernel
theorem d_M_row_55 : decode b_M_row 55 = .ok (.isub, 1) := by decide +kernel
theorem d_M_row_56 : decode b_M_row 56 = .ok (.invokestatic 94, 3) := by decide +kernel
theorem d_M_row_59 : decode b_M_row 59 = .ok (.ifCond .eq 7, 3) := by decide +kernel
theorem d_M_row_62 : decode b_M_row 62 = .ok (.iconst 0, 1) := by decide +kernel
theorem d_M_row_63 : decode b_M_row 63 = .ok (.goto 4, 3) := by decide +kernel
theorem d_M_row_66 : decode b_M_row 66 = .ok (.iconst 1, 1) := by decide +kernel
theorem d_M_row_67 : decode b_M_row 67 = .ok (.putfield 91, 3) := by decide +kernel
theorem d_M_row_70 : decode b_M_row 70 = .ok (.aload_n 0, 1) := by decide +kernel
theorem d_M_row_71 : decode b_M_row 71 = .ok (.getfield 91, 3) := by decide +kernel
theorem d_M_row_74 : decode b_M_row 74 = .ok (.ifCond .le 5, 3) := by decide +kernel
theorem d_M_row_77 : decode b_M_row 77 = .ok (.iconst 0, 1) := by decide +kernel
theorem d_M_row_78 : decode b_M_row 78 = .ok (.ireturn, 1) := by decide +kernel
theorem d_M_row_79 : decode b_M_row 79 = .ok (.aload_n 0, 1) := by decide +kernel
theorem d_M_row_80 : decode b_M_row 80 = .ok (.getfield 74, 3) := by decide +kernel
theorem d_M_row_83 : decode b_M_row 83 = .ok (.iload_n 1, 1) := by decide +kernel
theorem d_M_row_84 : decode b_M_row 84 = .ok (.iaload, 1) := by decide +kernel
theorem d_M_row_85 : decode b_M_row 85 = .ok (.istore 5, 2) := by decide +kernel
theorem d_M_row_87 : decode b_M_row 87 = .ok (.aload_n 0, 1) := by decide +kernel
theorem d_M_row_88 : decode b_M_row 88 = .ok (.getfield 50, 3) := by decide +kernel
theorem d_M_row_91 : decode b_M_row 91 = .ok (.iload 5, 2) := by decide +kernel
theorem d_M_row_93 : decode b_M_row 93 = .ok (.iaload, 1) := by decide +kernel
theorem d_M_row_94 : decode b_M_row 94 = .ok (.iload_n 2, 1) := by decide +kernel
theorem d_M_row_95 : decode b_M_row 95 = .ok (.iadd, 1) := by decide +kernel
theorem d_M_row_96 : decode b_M_row 96 = .ok (.istore 6, 2) := by decide +kernel
theorem d_M_row_98 : decode b_M_row 98 = .ok (.iload_n 3, 1) := by decide +kernel
theorem d_M_row_99 : decode b_M_row 99 = .ok (.ifCond .ne 13, 3) := by decide +kernel
theorem d_M_row_102 : decode b_M_row 102 = .ok (.aload_n 0, 1) := by decide +kernel
theorem d_M_row_103 : decode b_M_row 103 = .ok (.getfield 56, 3) := by decide +kernel
theorem d_M_row_106 : decode b_M_row 106 = .ok (.iload 6, 2) := by decide +kernel
theorem d_M_row_108 : decode b_M_row 108 = .ok (.iaload, 1) := by decide +kernel
theorem d_M_row_109 : decode b_M_row 109 = .ok (.goto 53, 3) := by decide +kernel
theorem d_M_row_112 : decode b_M_row 112 = .ok (.iload_n 3, 1) := by decide +kernel
theorem d_M_row_113 : decode b_M_row 113 = .ok (.iconst 1, 1) := by decide +kernel
theorem d_M_row_114 : decode b_M_row 114 = .ok (.if_icmp .ne 13, 3) := by decide +kernel
theorem d_M_row_117 : decode b_M_row 117 = .ok (.aload_n 0, 1) := by decide +kernel
theorem d_M_row_118 : decode b_M_row 118 = .ok (.getfield 59, 3) := by decide +kernel
theorem d_M_row_121 : decode b_M_row 121 = .ok (.iload 6, 2) := by decide +kernel
theorem d_M_row_123 : decode b_M_row 123 = .ok (.iaload, 1) := by decide +kernel
theorem d_M_row_124 : decode b_M_row 124 = .ok (.goto 38, 3) := by decide +kernel
theorem d_M_row_127 : decode b_M_row 127 = .ok (.iload_n 3, 1) := by decide +kernel
theorem d_M_row_128 : decode b_M_row 128 = .ok (.iconst 2, 1) := by decide +kernel
theorem d_M_row_129 : decode b_M_row 129 = .ok (.if_icmp .ne 21, 3) := by decide +kernel
theorem d_M_row_132 : decode b_M_row 132 = .ok (.aload_n 0, 1) := by decide +kernel
theorem d_M_row_133 : decode b_M_row 133 = .ok (.getfield 62, 3) := by decide +kernel
theorem d_M_row_136 : decode b_M_row 136 = .ok (.iload 6, 2) := by decide +kernel
theorem d_M_row_138 : decode b_M_row 138 = .ok (.baload, 1) := by decide +kernel
theorem d_M_row_139 : decode b_M_row 139 = .ok (.ifCond .eq 7, 3) := by decide +kernel
theorem d_M_row_142 : decode b_M_row 142 = .ok (.iconst 1, 1) := by decide +kernel
theorem d_M_row_143 : decode b_M_row 143 = .ok (.goto 19, 3) := by decide +kernel
theorem d_M_row_146 : decode b_M_row 146 = .ok (.iconst 0, 1) := by decide +kernel
theorem d_M_row_147 : decode b_M_row 147 = .ok (.goto 15, 3) := by decide +kernel
theorem d_M_row_150 : decode b_M_row 150 = .ok (.aload_n 0, 1) := by decide +kernel
theorem d_M_row_151 : decode b_M_row 151 = .ok (.getfield 32, 3) := by decide +kernel
theorem d_M_row_154 : decode b_M_row 154 = .ok (.aload_n 0, 1) := by decide +kernel
theorem d_M_row_155 : decode b_M_row 155 = .ok (.getfield 41, 3) := by decide +kernel
theorem d_M_row_158 : decode b_M_row 158 = .ok (.iload 5, 2) := by decide +kernel
theorem d_M_row_160 : decode b_M_row 160 = .ok (.iaload, 1) := by decide +kernel
theorem d_M_row_161 : decode b_M_row 161 = .ok (.iaload, 1) := by decide +kernel
theorem d_M_row_162 : decode b_M_row 162 = .ok (.ireturn, 1) := by decide +kernel
theorem d_M_get_0 : decode b_M_get 0 = .ok (.aload_n 0, 1) := by decide +kernel
theorem d_M_get_1 : decode b_M_get 1 = .ok (.iconst 0, 1) := by decide +kernel
theorem d_M_get_2 : decode b_M_get 2 = .ok (.putfield 91, 3) := by decide +kernel
theorem d_M_get_5 : decode b_M_get 5 = .ok (.aload_n 0, 1) := by decide +kernel
theorem d_M_get_6 : decode b_M_get 6 = .ok (.iload_n 2, 1) := by decide +kernel
theorem d_M_get_7 : decode b_M_get 7 = .ok (.invokevirtual 131, 3) := by decide +kernel
theorem d_M_get_10 : decode b_M_get 10 = .ok (.ifCond .ne 6, 3) := by decide +kernel
theorem d_M_get_13 : decode b_M_get 13 = .ok (.bipush (-12), 2) := by decide +kernel
theorem d_M_get_15 : decode b_M_get 15 = .ok (.ireturn, 1) := by decide +kernel
theorem d_M_get_16 : decode b_M_get 16 = .ok (.aload_n 0, 1) := by decide +kernel
theorem d_M_get_17 : decode b_M_get 17 = .ok (.iload_n 1, 1) := by decide +kernel
theorem d_M_get_18 : decode b_M_get 18 = .ok (.invokevirtual 112, 3) := by decide +kernel
theorem d_M_get_21 : decode b_M_get 21 = .ok (.ifCond .ne 6, 3) := by decide +kernel
theorem d_M_get_24 : decode b_M_get 24 = .ok (.bipush (-16), 2) := by decide +kernel
theorem d_M_get_26 : decode b_M_get 26 = .ok (.ireturn, 1) := by decide +kernel
theorem d_M_get_27 : decode b_M_get 27 = .ok (.aload_n 0, 1) := by decide +kernel
theorem d_M_get_28 : decode b_M_get 28 = .ok (.getfield 16, 3) := by decide +kernel
theorem d_M_get_31 : decode b_M_get 31 = .ok (.iload_n 1, 1) := by decide +kernel
theorem d_M_get_32 : decode b_M_get 32 = .ok (.baload, 1) := by decide +kernel
theorem d_M_get_33 : decode b_M_get 33 = .ok (.ifCond .eq 15, 3) := by decide +kernel
theorem d_M_get_36 : decode b_M_get 36 = .ok (.bipush (-20), 2) := by decide +kernel
theorem d_M_get_38 : decode b_M_get 38 = .ok (.aload_n 0, 1) := by decide +kernel
theorem d_M_get_39 : decode b_M_get 39 = .ok (.getfield 13, 3) := by decide +kernel
theorem d_M_get_42 : decode b_M_get 42 = .ok (.iload_n 1, 1) := by decide +kernel
theorem d_M_get_43 : decode b_M_get 43 = .ok (.iaload, 1) := by decide +kernel
theorem d_M_get_44 : decode b_M_get 44 = .ok (.isub, 1) := by decide +kernel
theorem d_M_get_45 : decode b_M_get 45 = .ok (.goto 9, 3) := by decide +kernel
theorem d_M_get_48 : decode b_M_get 48 = .ok (.aload_n 0, 1) := by decide +kernel
theorem d_M_get_49 : decode b_M_get 49 = .ok (.getfield 13, 3) := by decide +kernel
theorem d_M_get_52 : decode b_M_get 52 = .ok (.iload_n 1, 1) := by decide +kernel
theorem d_M_get_53 : decode b_M_get 53 = .ok (.iaload, 1) := by decide +kernel
theorem d_M_get_54 : decode b_M_get 54 = .ok (.ireturn, 1) := by decide +kernel
theorem d_M_counted_0 : decode b_M_counted 0 = .ok (.aload_n 0, 1) := by decide +kernel
theorem d_M_counted_1 : decode b_M_counted 1 = .ok (.iconst 0, 1) := by decide +kernel
theorem d_M_counted_2 : decode b_M_counted 2 = .ok (.putfield 91, 3) := by decide +kernel
theorem d_M_counted_5 : decode b_M_counted 5 = .ok (.iload_n 1, 1) := by decide +kernel
theorem d_M_counted_6 : decode b_M_counted 6 = .ok (.iconst 0, 1) := by decide +kernel
theorem d_M_counted_7 : decode b_M_counted 7 = .ok (.bipush 9, 2) := by decide +kernel
theorem d_M_counted_9 : decode b_M_counted 9 = .ok (.invokestatic 94, 3) := by decide +kernel
theorem d_M_counted_12 : decode b_M_counted 12 = .ok (.ifCond .eq 12, 3) := by decide +kernel
theorem d_M_counted_15 : decode b_M_counted 15 = .ok (.aload_n 0, 1) := by decide +kernel
theorem d_M_counted_16 : decode b_M_counted 16 = .ok (.getfield 77, 3) := by decide +kernel
theorem d_M_counted_19 : decode b_M_counted 19 = .ok (.iload_n 1, 1) := by decide +kernel
theorem d_M_counted_20 : decode b_M_counted 20 = .ok (.iaload, 1) := by decide +kernel
theorem d_M_counted_21 : decode b_M_counted 21 = .ok (.goto 4, 3) := by decide +kernel
theorem d_M_counted_24 : decode b_M_counted 24 = .ok (.iconst (-1), 1) := by decide +kernel
theorem d_M_counted_25 : decode b_M_counted 25 = .ok (.ireturn, 1) := by decide +kernel
theorem d_M_passed_0 : decode b_M_passed 0 = .ok (.aload_n 0, 1) := by decide +kernel
theorem d_M_passed_1 : decode b_M_passed 1 = .ok (.iconst 0, 1) := by decide +kernel
theorem d_M_passed_2 : decode b_M_passed 2 = .ok (.putfield 91, 3) := by decide +kernel
theorem d_M_passed_5 : decode b_M_passed 5 = .ok (.aload_n 0, 1) := by decide +kernel
theorem d_M_passed_6 : decode b_M_passed 6 = .ok (.getfield 124, 3) := by decide +kernel
theorem d_M_passed_9 : decode b_M_passed 9 = .ok (.ireturn, 1) := by decide +kernel
theorem d_M_about_0 : decode b_M_about 0 = .ok (.aload_n 0, 1) := by decide +kernel
theorem d_M_about_1 : decode b_M_about 1 = .ok (.iconst 0, 1) := by decide +kernel
theorem d_M_about_2 : decode b_M_about 2 = .ok (.putfield 91, 3) := by decide +kernel
theorem d_M_about_5 : decode b_M_about 5 = .ok (.iload_n 1, 1) := by decide +kernel
theorem d_M_about_6 : decode b_M_about 6 = .ok (.iconst 0, 1) := by decide +kernel
theorem d_M_about_7 : decode b_M_about 7 = .ok (.aload_n 0, 1) := by decide +kernel
theorem d_M_about_8 : decode b_M_about 8 = .ok (.getfield 127, 3) := by decide +kernel
theorem d_M_about_11 : decode b_M_about 11 = .ok (.iconst 1, 1) := by decide +kernel
theorem d_M_about_12 : decode b_M_about 12 = .ok (.isub, 1) := by decide +kernel
theorem d_M_about_13 : decode b_M_about 13 = .ok (.invokestatic 94, 3) := by decide +kernel
theorem d_M_about_16 : decode b_M_about 16 = .ok (.ifCond .ne 5, 3) := by decide +kernel
theorem d_M_about_19 : decode b_M_about 19 = .ok (.iconst (-1), 1) := by decide +kernel
theorem d_M_about_20 : decode b_M_about 20 = .ok (.ireturn, 1) := by decide +kernel
theorem d_M_about_21 : decode b_M_about 21 = .ok (.aload_n 0, 1) := by decide +kernel
theorem d_M_about_22 : decode b_M_about 22 = .ok (.getfield 65, 3) := by decide +kernel
theorem d_M_about_25 : decode b_M_about 25 = .ok (.iload_n 1, 1) := by decide +kernel
theorem d_M_about_26 : decode b_M_about 26 = .ok (.iaload, 1) := by decide +kernel
theorem d_M_about_27 : decode b_M_about 27 = .ok (.istore_n 3, 1) := by decide +kernel
theorem d_M_about_28 : decode b_M_about 28 = .ok (.aload_n 0, 1) := by decide +kernel
theorem d_M_about_29 : decode b_M_about 29 = .ok (.getfield 41, 3) := by decide +kernel
theorem d_M_about_32 : decode b_M_about 32 = .ok (.iload_n 3, 1) := by decide +kernel
theorem d_M_about_33 : decode b_M_about 33 = .ok (.iaload, 1) := by decide +kernel
theorem d_M_about_34 : decode b_M_about 34 = .ok (.istore 4, 2) := by decide +kernel
theorem d_M_about_36 : decode b_M_about 36 = .ok (.iload_n 2, 1) := by decide +kernel
theorem d_M_about_37 : decode b_M_about 37 = .ok (.tableswitch 62 0 2 #[27, 35, 42], 27) := by decide +kernel
theorem d_M_about_64 : decode b_M_about 64 = .ok (.aload_n 0, 1) := by decide +kernel
theorem d_M_about_65 : decode b_M_about 65 = .ok (.getfield 35, 3) := by decide +kernel
theorem d_M_about_68 : decode b_M_about 68 = .ok (.iload 4, 2) := by decide +kernel
theorem d_M_about_70 : decode b_M_about 70 = .ok (.iaload, 1) := by decide +kernel
theorem d_M_about_71 : decode b_M_about 71 = .ok (.ireturn, 1) := by decide +kernel
theorem d_M_about_72 : decode b_M_about 72 = .ok (.aload_n 0, 1) := by decide +kernel
theorem d_M_about_73 : decode b_M_about 73 = .ok (.getfield 68, 3) := by decide +kernel
theorem d_M_about_76 : decode b_M_about 76 = .ok (.iload_n 1, 1) := by decide +kernel
theorem d_M_about_77 : decode b_M_about 77 = .ok (.iaload, 1) := by decide +kernel
theorem d_M_about_78 : decode b_M_about 78 = .ok (.ireturn, 1) := by decide +kernel
theorem d_M_about_79 : decode b_M_about 79 = .ok (.aload_n 0, 1) := by decide +kernel
theorem d_M_about_80 : decode b_M_about 80 = .ok (.getfield 26, 3) := by decide +kernel
theorem d_M_about_83 : decode b_M_about 83 = .ok (.iload 4, 2) := by decide +kernel
theorem d_M_about_85 : decode b_M_about 85 = .ok (.iaload, 1) := by decide +kernel
theorem d_M_about_86 : decode b_M_about 86 = .ok (.aload_n 0, 1) := by decide +kernel
theorem d_M_about_87 : decode b_M_about 87 = .ok (.getfield 44, 3) := by decide +kernel
theorem d_M_about_90 : decode b_M_about 90 = .ok (.iload_n 3, 1) := by decide +kernel
theorem d_M_about_91 : decode b_M_about 91 = .ok (.iaload, 1) := by decide +kernel
theorem d_M_about_92 : decode b_M_about 92 = .ok (.isub, 1) := by decide +kernel
theorem d_M_about_93 : decode b_M_about 93 = .ok (.aload_n 0, 1) := by decide +kernel
theorem d_M_about_94 : decode b_M_about 94 = .ok (.getfield 80, 3) := by decide +kernel
theorem d_M_about_97 : decode b_M_about 97 = .ok (.isub, 1) := by decide +kernel
theorem d_M_about_98 : decode b_M_about 98 = .ok (.ireturn, 1) := by decide +kernel
theorem d_M_about_99 : decode b_M_about 99 = .ok (.iconst (-1), 1) := by decide +kernel
theorem d_M_about_100 : decode b_M_about 100 = .ok (.ireturn, 1) := by decide +kernel
end
section
theorem d_W_cell_0 : decode b_W_cell 0 = .ok (.iload_n 1, 1) := by decide +kernel
theorem d_W_cell_1 : decode b_W_cell 1 = .ok (.aload_n 0, 1) := by decide +kernel
theorem d_W_cell_2 : decode b_W_cell 2 = .ok (.arraylength, 1) := by decide +kernel
theorem d_W_cell_3 : decode b_W_cell 3 = .ok (.if_icmp .ge 9, 3) := by decide +kernel
theorem d_W_cell_6 : decode b_W_cell 6 = .ok (.aload_n 0, 1) := by decide +kernel
theorem d_W_cell_7 : decode b_W_cell 7 = .ok (.iload_n 1, 1) := by decide +kernel
theorem d_W_cell_8 : decode b_W_cell 8 = .ok (.iaload, 1) := by decide +kernel
theorem d_W_cell_9 : decode b_W_cell 9 = .ok (.goto 4, 3) := by decide +kernel
theorem d_W_cell_12 : decode b_W_cell 12 = .ok (.iconst 0, 1) := by decide +kernel
theorem d_W_cell_13 : decode b_W_cell 13 = .ok (.ireturn, 1) := by decide +kernel
theorem d_W_row_0 : decode b_W_row 0 = .ok (.aload 4, 2) := by decide +kernel
theorem d_W_row_2 : decode b_W_row 2 = .ok (.iconst 0, 1) := by decide +kernel
theorem d_W_row_3 : decode b_W_row 3 = .ok (.aload_n 0, 1) := by decide +kernel
theorem d_W_row_4 : decode b_W_row 4 = .ok (.iload_n 1, 1) := by decide +kernel
theorem d_W_row_5 : decode b_W_row 5 = .ok (.iload_n 2, 1) := by decide +kernel
theorem d_W_row_6 : decode b_W_row 6 = .ok (.iload_n 3, 1) := by decide +kernel
theorem d_W_row_7 : decode b_W_row 7 = .ok (.invokevirtual 7, 3) := by decide +kernel
theorem d_W_row_10 : decode b_W_row 10 = .ok (.i2l, 1) := by decide +kernel
theorem d_W_row_11 : decode b_W_row 11 = .ok (.lastore, 1) := by decide +kernel
theorem d_W_row_12 : decode b_W_row 12 = .ok (.goto 7, 3) := by decide +kernel
theorem d_W_row_15 : decode b_W_row 15 = .ok (.astore 5, 2) := by decide +kernel
theorem d_W_row_17 : decode b_W_row 17 = .ok (.iconst 1, 1) := by decide +kernel
theorem d_W_row_18 : decode b_W_row 18 = .ok (.ireturn, 1) := by decide +kernel
theorem d_W_row_19 : decode b_W_row 19 = .ok (.iconst 0, 1) := by decide +kernel
theorem d_W_row_20 : decode b_W_row 20 = .ok (.ireturn, 1) := by decide +kernel
end
section
/-! THE WORLD BY ROLES. A role (0, i) is a cell under a fixed name, at the address b i; a role (1, a) is the cell at the address a. C says what each cell holds; z: all of them were made since the law began. -/
abbrev fr_C : Type := Nat × Nat → Option va_E
def fr_eq (x r : Nat × Nat) : Bool := Nat.beq x.1 r.1 && Nat.beq x.2 r.2
def fr_up (C : fr_C) (r : Nat × Nat) (e : va_E) : fr_C := fun x => bif fr_eq x r then some e else C x
def fr_rm (C : fr_C) (r : Nat × Nat) : fr_C := fun x => bif fr_eq x r then none else C x
def fr_ub (b : Nat → Nat) (i a : Nat) : Nat → Nat := fun j => bif Nat.beq j i then a else b j
def fr_ad (b : Nat → Nat) (r : Nat × Nat) : Nat := bif Nat.beq r.1 0 then b r.2 else r.2
def fr_A (z : Nat) : Nat → Prop := fun q => z ≤ q
theorem fr_eq_iff {x r : Nat × Nat} : fr_eq x r = true ↔ x = r := by
  obtain ⟨x1, x2⟩ := x
  obtain ⟨r1, r2⟩ := r
  simp [fr_eq, Bool.and_eq_true, Nat.beq_eq]
theorem fr_eq_ne {x r : Nat × Nat} (h : x ≠ r) : fr_eq x r = false := by
  cases h2 : fr_eq x r with
  | true => exact absurd (fr_eq_iff.mp h2) h
  | false => rfl
theorem fr_up_self (C : fr_C) (r : Nat × Nat) (e : va_E) : fr_up C r e r = some e := by
  have h : fr_eq r r = true := fr_eq_iff.mpr rfl
  unfold fr_up
  rw [h]
  rfl
theorem fr_up_ne {C : fr_C} {r x : Nat × Nat} {e : va_E} (h : x ≠ r) : fr_up C r e x = C x := by
  unfold fr_up
  rw [fr_eq_ne h]
  rfl
theorem fr_rm_self (C : fr_C) (r : Nat × Nat) : fr_rm C r r = none := by
  have h : fr_eq r r = true := fr_eq_iff.mpr rfl
  unfold fr_rm
  rw [h]
  rfl
theorem fr_rm_ne {C : fr_C} {r x : Nat × Nat} (h : x ≠ r) : fr_rm C r x = C x := by
  unfold fr_rm
  rw [fr_eq_ne h]
  rfl
theorem fr_ub_self (b : Nat → Nat) (i a : Nat) : fr_ub b i a i = a := by
  have h : Nat.beq i i = true := Nat.beq_refl i
  unfold fr_ub
  rw [h]
  rfl
theorem fr_ub_ne {b : Nat → Nat} {i a j : Nat} (h : j ≠ i) : fr_ub b i a j = b j := by
  have h1 : Nat.beq j i = false := by
    cases h2 : Nat.beq j i with
    | true => exact absurd (Nat.eq_of_beq_eq_true h2) h
    | false => rfl
  unfold fr_ub
  rw [h1]
  rfl
theorem fr_ad_0 (b : Nat → Nat) (i : Nat) : fr_ad b (0, i) = b i := rfl
theorem fr_ad_1 (b : Nat → Nat) (a : Nat) : fr_ad b (1, a) = a := rfl
theorem fr_ad_ub {b : Nat → Nat} {i a : Nat} {x : Nat × Nat} (h : x ≠ (0, i)) : fr_ad (fr_ub b i a) x = fr_ad b x := by
  obtain ⟨x1, x2⟩ := x
  by_cases h0 : x1 = 0
  · subst h0
    show fr_ub b i a x2 = b x2
    exact fr_ub_ne (fun q => h (by rw [q]))
  · have h1 : Nat.beq x1 0 = false := by
      cases h2 : Nat.beq x1 0 with
      | true => exact absurd (Nat.eq_of_beq_eq_true h2) h0
      | false => rfl
    unfold fr_ad
    rw [h1]
    rfl
def fr_W (D : va_G) (cl : List vw_C) (z : Nat) (b : Nat → Nat) (C : fr_C) (H : Heap) : Prop :=
  z ≤ H.size ∧ (∀ r e, C r = some e → va_at D cl (fr_ad b r, e) H ∧ z ≤ fr_ad b r) ∧ ∀ r r' e e', C r = some e → C r' = some e' → fr_ad b r = fr_ad b r' → r = r'
theorem fr_W.P {D : va_G} {cl : List vw_C} {z : Nat} {b : Nat → Nat} {C : fr_C} {H : Heap} (h : fr_W D cl z b C H) {r : Nat × Nat} {e : va_E} (he : C r = some e) : va_P D cl [(fr_ad b r, e)] H := by
  intro k q hk
  match k, hk with
  | 0, hk => cases hk; exact (h.2.1 r e he).1
  | k + 1, hk => simp at hk
theorem fr_W.lt {D : va_G} {cl : List vw_C} {z : Nat} {b : Nat → Nat} {C : fr_C} {H : Heap} (h : fr_W D cl z b C H) {r : Nat × Nat} {e : va_E} (he : C r = some e) : fr_ad b r < H.size := (h.2.1 r e he).1.lt
/-- a cell is written -/
theorem fr_W.set {D : va_G} {cl : List vw_C} {z : Nat} {b : Nat → Nat} {C : fr_C} {H H1 : Heap} {r : Nat × Nat} {e0 e : va_E} (h : fr_W D cl z b C H) (he : C r = some e0) (h1 : va_at D cl (fr_ad b r, e) H1) (hz : H1.size = H.size) (oq : ∀ q : Nat, q ≠ fr_ad b r → H1[q]? = H[q]?) : fr_W D cl z b (fr_up C r e) H1 := by
  refine ⟨by rw [hz]; exact h.1, fun x y hx => ?_, fun x y ex ey hx hy hxy => ?_⟩
  · by_cases hr : x = r
    · subst hr
      rw [fr_up_self] at hx
      cases hx
      exact ⟨h1, (h.2.1 _ _ he).2⟩
    · rw [fr_up_ne hr] at hx
      exact ⟨(h.2.1 x y hx).1.kept (oq _ (fun q => hr (h.2.2 _ _ _ _ hx he q))), (h.2.1 x y hx).2⟩
  · have key : ∀ w ew, fr_up C r e w = some ew → ∃ e', C w = some e' := by
      intro w ew hw
      by_cases hr : w = r
      · subst hr
        exact ⟨_, he⟩
      · rw [fr_up_ne hr] at hw
        exact ⟨_, hw⟩
    obtain ⟨e1, g1⟩ := key x ex hx
    obtain ⟨e2, g2⟩ := key y ey hy
    exact h.2.2 x y e1 e2 g1 g2 hxy
/-- a cell is made, under the name i -/
theorem fr_W.new {D : va_G} {cl : List vw_C} {z : Nat} {b : Nat → Nat} {C : fr_C} {H H1 : Heap} (i : Nat) {e : va_E} (h : fr_W D cl z b C H) (h1 : va_at D cl (H.size, e) H1) (hz : H.size ≤ H1.size) (oq : ∀ q : Nat, q < H.size → H1[q]? = H[q]?) : fr_W D cl z (fr_ub b i H.size) (fr_up C (0, i) e) H1 := by
  have hs : fr_ad (fr_ub b i H.size) (0, i) = H.size := fr_ub_self b i H.size
  refine ⟨Nat.le_trans h.1 hz, fun x y hx => ?_, fun x y ex ey hx hy hxy => ?_⟩
  · by_cases hr : x = (0, i)
    · subst hr
      rw [fr_up_self] at hx
      cases hx
      rw [hs]
      exact ⟨h1, h.1⟩
    · rw [fr_up_ne hr] at hx
      rw [fr_ad_ub hr]
      exact ⟨(h.2.1 x y hx).1.kept (oq _ (h.lt hx)), (h.2.1 x y hx).2⟩
  · by_cases hr : x = (0, i)
    · by_cases hq : y = (0, i)
      · rw [hr, hq]
      · rw [fr_up_ne hq] at hy
        rw [hr, hs, fr_ad_ub hq] at hxy
        have := h.lt hy
        omega
    · rw [fr_up_ne hr] at hx
      by_cases hq : y = (0, i)
      · rw [hq, hs, fr_ad_ub hr] at hxy
        have := h.lt hx
        omega
      · rw [fr_up_ne hq] at hy
        rw [fr_ad_ub hr, fr_ad_ub hq] at hxy
        exact h.2.2 x y ex ey hx hy hxy
/-- a named cell goes into the pool, under its address -/
theorem fr_W.retire {D : va_G} {cl : List vw_C} {z : Nat} {b : Nat → Nat} {C : fr_C} {H : Heap} (i : Nat) {e : va_E} (h : fr_W D cl z b C H) (he : C (0, i) = some e) : fr_W D cl z b (fr_up (fr_rm C (0, i)) (1, b i) e) H := by
  have hn : ∀ x y, x ≠ (1, b i) → fr_up (fr_rm C (0, i)) (1, b i) e x = some y → C x = some y ∧ x ≠ (0, i) := by
    intro x y hx hy
    rw [fr_up_ne hx] at hy
    by_cases hr : x = (0, i)
    · rw [hr, fr_rm_self] at hy
      cases hy
    · rw [fr_rm_ne hr] at hy
      exact ⟨hy, hr⟩
  refine ⟨h.1, fun x y hx => ?_, fun x y ex ey hx hy hxy => ?_⟩
  · by_cases hr : x = (1, b i)
    · subst hr
      rw [fr_up_self] at hx
      cases hx
      exact (show va_at D cl (fr_ad b (1, b i), e) H ∧ z ≤ fr_ad b (1, b i) from h.2.1 (0, i) _ he)
    · exact h.2.1 x y (hn x y hr hx).1
  · by_cases hr : x = (1, b i)
    · by_cases hq : y = (1, b i)
      · rw [hr, hq]
      · obtain ⟨g1, g2⟩ := hn y ey hq hy
        rw [hr] at hxy
        exact absurd (h.2.2 _ _ _ _ he g1 hxy).symm g2
    · obtain ⟨g1, g2⟩ := hn x ex hr hx
      by_cases hq : y = (1, b i)
      · rw [hq] at hxy
        exact absurd (h.2.2 _ _ _ _ g1 he hxy) g2
      · exact h.2.2 x y ex ey g1 (hn y ey hq hy).1 hxy
/-- cells may be forgotten, and contents named otherwise -/
theorem fr_W.less {D : va_G} {cl : List vw_C} {z : Nat} {b : Nat → Nat} {C C' : fr_C} {H : Heap} (h : fr_W D cl z b C H) (hC : ∀ r e, C' r = some e → C r = some e) : fr_W D cl z b C' H :=
  ⟨h.1, fun r e hr => h.2.1 r e (hC r e hr), fun r r' e e' h1 h2 h3 => h.2.2 r r' e e' (hC _ _ h1) (hC _ _ h2) h3⟩
/-- a fresh address is no pool cell's -/
theorem fr_W.fresh {D : va_G} {cl : List vw_C} {z : Nat} {b : Nat → Nat} {C : fr_C} {H : Heap} (h : fr_W D cl z b C H) : C (1, H.size) = none := by
  cases hc : C (1, H.size) with
  | none => rfl
  | some e => exact absurd (h.lt hc) (by rw [fr_ad_1]; omega)
def fr_G (D : va_G) (cl : List vw_C) (tys : List (ClassId × FieldType)) (z : Nat) (b : Nat → Nat) (C : fr_C) (U : State) : Prop := fr_W D cl z b C U.heap ∧ va_K D cl tys U
theorem fr_blind {av : List Value} {D : va_G} {cl : List vw_C} {tys : List (ClassId × FieldType)} {z : Nat} {b : Nat → Nat} {C : fr_C} : FrameBlind (va_Pc av (fr_G D cl tys z b C)) :=
  fun a U g mk q => ⟨q.1, q.2.1, va_K.moved (u := U) (U := U.calling g mk a) (Vm.Alike.refl U.vm) q.2.2⟩
theorem fr_pre {av : List Value} {D : va_G} {cl : List vw_C} {tys : List (ClassId × FieldType)} {z : Nat} {b : Nat → Nat} {C : fr_C} {H : Heap} {s : State} (hE : fr_W D cl z b C H) (hK : va_K D cl tys s) : ∀ U : State, U.heap = H → s.WarmedH U.vm → va_Pc av (fr_G D cl tys z b C) av.toArray U :=
  fun U hU hW => ⟨rfl, by rw [hU]; exact hE, va_K.moved hW.alike hK⟩
theorem fr_put_S {z : Nat} {H0 H H1 : Heap} {locs : List Loc} {a k : Nat} (h : va_S (fr_A z) H0 H locs) (hz : H1.size = H.size) (oq : ∀ q : Nat, q ≠ a → H1[q]? = H[q]?) (ha : z ≤ a) : va_S (fr_A z) H0 H1 (locs ++ [⟨a, k⟩]) := h.put hz oq ha
theorem fr_new_S {z : Nat} {H0 H H1 : Heap} {locs : List Loc} (h : va_S (fr_A z) H0 H locs) (hz : H.size ≤ H1.size) (oq : ∀ q : Nat, q < H.size → H1[q]? = H[q]?) : va_S (fr_A z) H0 H1 locs :=
  ⟨Nat.le_trans h.1 hz, fun x h1 h2 => (oq x (Nat.lt_of_lt_of_le h1 h.1)).trans (h.2.1 x h1 h2), h.2.2⟩
theorem fr_recv {s : State} {H : Heap} {D : va_G} {cl : List vw_C} {z : Nat} {b : Nat → Nat} {C : fr_C} {a ci : Nat} {q : vw_C} {fs : List Value} {tys : List (ClassId × FieldType)} (hK : va_K D cl tys s) (hE : fr_W D cl z b C H) (r : Nat × Nat) (ha : fr_ad b r = a) (he : C r = some (.inr (ci, fs))) (hc : cl[ci]? = some q) : ∃ cell : Cell, H[a]? = some cell ∧ cell.vm.isStatics = false ∧ s.vm.findClass q.1 = some cell.cls := by
  subst ha
  exact va_recv hK (hE.P he) hc (q0 := 0) rfl
section FRW
variable {p : Program} {l : Launch} {e : Env} {R : Room} {s : State} {m : MethodId} {args : Array Value} {below : List Frame} {meth : Method} {c : Code} {H : Heap} {locs : List Loc} {cells slots : Nat} {Q : State → Prop}
variable {cc : ByteArray} {pc : Nat} {ls : Array Slot} {rest : List Value} {D : va_G} {cl : List vw_C} {a : Nat} {tys : List (ClassId × FieldType)} {H0 : Heap} {z : Nat} {b : Nat → Nat} {C : fr_C}
theorem fr_get (hexec : p.tables.exec = Jvm.exec) (hb : c.code = cc) {own ref Cn : String} {T : u_T} {N ci index : Nat} {Ts : List Cond} (hts : ∀ w ∈ Ts, w.before args s = true) (hin : ∀ w ∈ u_ws Cn T N, w ∈ Ts) (hown : s.vm.findClass own = some m.cls) (hK : va_K D cl tys s) (hE : fr_W D cl z b C H) (r : Nat × Nat) (ha : fr_ad b r = a) {fs : List Value} (he : C r = some (.inr (ci, fs))) (hc : cl[ci]? = some (Cn, T, N)) (k : Nat) (hk : k < N) (hlink : (Cond.fieldLink own index ref (T k).2.1 (T k).2.2.1).before args s = true) (hsame : ∀ x, s.fieldFound? (T k).1 (T k).2.1 (T k).2.2.1 = some x → s.fieldFound? ref (T k).2.1 (T k).2.2.1 = some x) {v : Value} (hv : fs[k]? = some v) (hdg : decode cc pc = .ok (.getfield index, 3))
    (kk : W p l e R s m args below meth c H locs cells slots Q (F0 m (pc + 3) ls (v :: rest))) : W p l e R s m args below meth c H locs cells slots Q (F0 m pc ls (.ref a :: rest)) := by
  subst ha
  exact va_get hexec hb hts hin hown hK (hE.P he) 0 rfl hc k hk hlink hsame hv hdg kk
theorem fr_put (hexec : p.tables.exec = Jvm.exec) (hb : c.code = cc) {own ref Cn : String} {T : u_T} {N ci index : Nat} {Ts : List Cond} (hts : ∀ w ∈ Ts, w.before args s = true) (hin : ∀ w ∈ u_ws Cn T N, w ∈ Ts) (ty0 : Nat → FieldType) (hty : ∀ k, k < N → parseFieldDescriptor (T k).2.2.1 = some (ty0 k)) (hnm : ∀ a, a < N → ∀ b, b < N → a ≠ b → (T a).2.1 ≠ (T b).2.1) (hown : s.vm.findClass own = some m.cls) (hK : va_K D cl tys s) (hE : fr_W D cl z b C H) (hS0 : va_S (fr_A z) H0 H locs) (r : Nat × Nat) (ha : fr_ad b r = a) {fs : List Value} (he : C r = some (.inr (ci, fs))) (hc : cl[ci]? = some (Cn, T, N)) (k : Nat) (hk : k < N) (hlink : (Cond.fieldLink own index ref (T k).2.1 (T k).2.2.1).before args s = true) (hsame : ∀ x, s.fieldFound? (T k).1 (T k).2.1 (T k).2.2.1 = some x → s.fieldFound? ref (T k).2.1 (T k).2.2.1 = some x) (hfin : (T k).2.2.2 = false) {ty : FieldType} {v : Value} (hd : parseFieldDescriptor (T k).2.2.1 = some ty) (hn : narrow ty v = v) (hfit : fits ty v = true) (hl : k < fs.length)
    (hdg : decode cc pc = .ok (.putfield index, 3)) (kk : ∀ (H1 : Heap) (locs1 : List Loc), fr_W D cl z b (fr_up C r (.inr (ci, fs.set k v))) H1 → va_S (fr_A z) H0 H1 locs1 → W p l e R s m args below meth c H1 locs1 cells slots Q (F0 m (pc + 3) ls rest)) : W p l e R s m args below meth c H locs cells slots Q (F0 m pc ls (v :: .ref a :: rest)) := by
  subst ha
  have hap := va_apart (own := own) hts hin ty0 hty hnm hK hc
  obtain ⟨⟨r9, h1, cell, q1, q2, q3, q4⟩, hz9⟩ := hE.2.1 r _ he
  have hr : r9 = (Cn, T, N) := Option.some.inj (h1.symm.trans hc)
  subst hr
  obtain ⟨hS, hfc, kC, hkC, hkind⟩ := hK.1 ci _ hc
  obtain ⟨cf, kf, fi, f, hi, hsl⟩ := hS k hk
  have hlay := hts _ (hin _ (u_in_lay hk))
  unfold u_lay at hlay
  rw [if_neg (by rw [hfin]; decide)] at hlay
  have hst := (u_facts hfc hkC (u_lays hts hin hk) hi).1
  have h6 := u_store hfc hkC hkind hlay hi hd hn hfit
  refine W.putK hexec hb (f := f) ⟨hown, hlink, ⟨_, _, _, hsame _ hi⟩, hst⟩ (by rw [q2]; exact h6) q1 q3 (by rw [hsl]; exact k2_hasslot (q4 k hk)) rfl rfl hdg fun H' e1 e2 e3 => ?_
  rw [hsl] at e1 ⊢
  exact kk H' _ (hE.set he ⟨_, hc, t_OB.to (V := updV (vp_V fs) k v) ⟨_, e1, q2, q3, t_set q4 hap hk v⟩ (fun j _ => vp_updV_set hl v j)⟩ e2 e3) (fr_put_S hS0 e2 e3 hz9)
theorem fr_putF (hexec : p.tables.exec = Jvm.exec) (hb : c.code = cc) {own ref Cn : String} {T : u_T} {N ci index : Nat} {Ts : List Cond} (hts : ∀ w ∈ Ts, w.before args s = true) (hin : ∀ w ∈ u_ws Cn T N, w ∈ Ts) (ty0 : Nat → FieldType) (hty : ∀ k, k < N → parseFieldDescriptor (T k).2.2.1 = some (ty0 k)) (hnm : ∀ a, a < N → ∀ b, b < N → a ≠ b → (T a).2.1 ≠ (T b).2.1) (hown : s.vm.findClass own = some m.cls) (hK : va_K D cl tys s) (hE : fr_W D cl z b C H) (hS0 : va_S (fr_A z) H0 H locs) (r : Nat × Nat) (ha : fr_ad b r = a) {fs : List Value} (he : C r = some (.inr (ci, fs))) (hc : cl[ci]? = some (Cn, T, N)) (k : Nat) (hk : k < N) (hlink : (Cond.fieldLink own index ref (T k).2.1 (T k).2.2.1).before args s = true) (hsame : ∀ x, s.fieldFound? (T k).1 (T k).2.1 (T k).2.2.1 = some x → s.fieldFound? ref (T k).2.1 (T k).2.2.1 = some x) (hfin : (T k).2.2.2 = true) (hin2 : meth.name = "<init>") (hdecl : (T k).1 = own) {ty : FieldType} {v : Value} (hd : parseFieldDescriptor (T k).2.2.1 = some ty) (hn : narrow ty v = v) (hfit : fits ty v = true) (hl : k < fs.length)
    (hdg : decode cc pc = .ok (.putfield index, 3)) (kk : ∀ (H1 : Heap) (locs1 : List Loc), fr_W D cl z b (fr_up C r (.inr (ci, fs.set k v))) H1 → va_S (fr_A z) H0 H1 locs1 → W p l e R s m args below meth c H1 locs1 cells slots Q (F0 m (pc + 3) ls rest)) : W p l e R s m args below meth c H locs cells slots Q (F0 m pc ls (v :: .ref a :: rest)) := by
  subst ha
  have hap := va_apart (own := own) hts hin ty0 hty hnm hK hc
  obtain ⟨⟨r9, h1, cell, q1, q2, q3, q4⟩, hz9⟩ := hE.2.1 r _ he
  have hr : r9 = (Cn, T, N) := Option.some.inj (h1.symm.trans hc)
  subst hr
  obtain ⟨hS, hfc, kC, hkC, hkind⟩ := hK.1 ci _ hc
  obtain ⟨cf, kf, fi, f, hi, hsl⟩ := hS k hk
  have hlay := hts _ (hin _ (u_in_lay hk))
  unfold u_lay at hlay
  rw [if_pos hfin] at hlay
  have hst := (u_facts hfc hkC (u_lays hts hin hk) hi).1
  have hcf : m.cls = cf := by
    obtain ⟨_, _, c', _, _, _, -, -, hf', -, -, -, hown2, -⟩ := Cond.laysFinal_spec hlay
    have e1 : c' = cf := by have := hi.symm.trans hf'; simp at this; exact this.1.symm
    rw [hdecl] at hown2
    rw [← e1]; exact Option.some.inj (hown.symm.trans hown2)
  have h6 := u_fits hfc hkC hkind (Or.inr hlay) hi hd hn hfit
  refine W.putFinK hexec hb hown hlink (hsame _ hi) hst hcf hin2 (by rw [q2]; exact h6) q1 q3 (by rw [hsl]; exact k2_hasslot (q4 k hk)) rfl rfl hdg fun H' e1 e2 e3 => ?_
  rw [hsl] at e1 ⊢
  exact kk H' _ (hE.set he ⟨_, hc, t_OB.to (V := updV (vp_V fs) k v) ⟨_, e1, q2, q3, t_set q4 hap hk v⟩ (fun j _ => vp_updV_set hl v j)⟩ e2 e3) (fr_put_S hS0 e2 e3 hz9)
theorem fr_iald (hexec : p.tables.exec = Jvm.exec) (hb : c.code = cc) (hK : va_K D cl tys s) (hE : fr_W D cl z b C H) (r : Nat × Nat) (t0 : Nat) (ha : fr_ad b r = a) {cA : ClassId} {n : Nat} {f : Nat → Int32} (he : C r = some (.inl (cA, n, .inl f))) (ht : tys[t0]? = some (cA, .int)) {i : Int32} (j : Nat) (hi : i = nI j) (hj : j < n) (hn : n < 2 ^ 31) (hdg : decode cc pc = .ok (.iaload, 1))
    (kk : W p l e R s m args below meth c H locs cells slots Q (F0 m (pc + 1) ls (.int (f j) :: rest))) : W p l e R s m args below meth c H locs cells slots Q (F0 m pc ls (.int i :: .ref a :: rest)) := by
  subst ha
  subst hi
  refine va_iald hexec hb hK (hE.P he) 0 t0 rfl ht (vp_in_nI hj hn) hdg ?_
  rw [nI_clamp (by omega)]
  exact kk
theorem fr_zald (hexec : p.tables.exec = Jvm.exec) (hb : c.code = cc) (hK : va_K D cl tys s) (hE : fr_W D cl z b C H) (r : Nat × Nat) (t0 : Nat) (ha : fr_ad b r = a) {cA : ClassId} {n : Nat} {f : Nat → Int32} (he : C r = some (.inl (cA, n, .inl f))) (ht : tys[t0]? = some (cA, .boolean)) {i : Int32} (j : Nat) (hi : i = nI j) (hj : j < n) (hn : n < 2 ^ 31) (hdg : decode cc pc = .ok (.baload, 1))
    (kk : W p l e R s m args below meth c H locs cells slots Q (F0 m (pc + 1) ls (.int (f j) :: rest))) : W p l e R s m args below meth c H locs cells slots Q (F0 m pc ls (.int i :: .ref a :: rest)) := by
  subst ha
  subst hi
  refine va_zald hexec hb hK (hE.P he) 0 t0 rfl ht (vp_in_nI hj hn) hdg ?_
  rw [nI_clamp (by omega)]
  exact kk
theorem fr_aald (hexec : p.tables.exec = Jvm.exec) (hb : c.code = cc) (hK : va_K D cl tys s) (hE : fr_W D cl z b C H) (r : Nat × Nat) (t0 : Nat) (ha : fr_ad b r = a) {cA : ClassId} {Cn : String} {n : Nat} {f : Nat → Option Nat} (he : C r = some (.inl (cA, n, .inr (.inr (.inr (.inr f)))))) (ht : tys[t0]? = some (cA, .object Cn)) {i : Int32} (j : Nat) (hi : i = nI j) (hj : j < n) (hn : n < 2 ^ 31) (hdg : decode cc pc = .ok (.aaload, 1))
    (kk : W p l e R s m args below meth c H locs cells slots Q (F0 m (pc + 1) ls (va_rf (f j) :: rest))) : W p l e R s m args below meth c H locs cells slots Q (F0 m pc ls (.int i :: .ref a :: rest)) := by
  subst ha
  subst hi
  refine va_aldq hexec hb hK (hE.P he) 0 t0 rfl ht (vp_in_nI hj hn) hdg ?_
  rw [nI_clamp (by omega)]
  exact kk
theorem fr_lald (hexec : p.tables.exec = Jvm.exec) (hb : c.code = cc) (hK : va_K D cl tys s) (hE : fr_W D cl z b C H) (r : Nat × Nat) (t0 : Nat) (ha : fr_ad b r = a) {cA : ClassId} {n : Nat} {f : Nat → Int64} (he : C r = some (.inl (cA, n, .inr (.inl f)))) (ht : tys[t0]? = some (cA, .long)) {i : Int32} (j : Nat) (hi : i = nI j) (hj : j < n) (hn : n < 2 ^ 31) (hdg : decode cc pc = .ok (.laload, 1))
    (kk : W p l e R s m args below meth c H locs cells slots Q (F0 m (pc + 1) ls (.long (f j) :: rest))) : W p l e R s m args below meth c H locs cells slots Q (F0 m pc ls (.int i :: .ref a :: rest)) := by
  subst ha
  subst hi
  refine va_lald hexec hb hK (hE.P he) 0 t0 rfl ht (vp_in_nI hj hn) hdg ?_
  rw [nI_clamp (by omega)]
  exact kk
theorem fr_alen (hexec : p.tables.exec = Jvm.exec) (hb : c.code = cc) (hK : va_K D cl tys s) (hE : fr_W D cl z b C H) (r : Nat × Nat) (t0 : Nat) (ha : fr_ad b r = a) {cA : ClassId} {x : vp_A} (he : C r = some (.inl (cA, x))) {ty : FieldType} (ht : tys[t0]? = some (cA, ty)) (hdg : decode cc pc = .ok (.arraylength, 1))
    (kk : W p l e R s m args below meth c H locs cells slots Q (F0 m (pc + 1) ls (.int (nI x.1) :: rest))) : W p l e R s m args below meth c H locs cells slots Q (F0 m pc ls (.ref a :: rest)) := by
  subst ha
  exact va_alen hexec hb hK (hE.P he) 0 t0 rfl ht rfl hdg kk
theorem fr_iast (hexec : p.tables.exec = Jvm.exec) (hb : c.code = cc) (hK : va_K D cl tys s) (hE : fr_W D cl z b C H) (hS : va_S (fr_A z) H0 H locs) (r : Nat × Nat) (t0 : Nat) (ha : fr_ad b r = a) {cA : ClassId} {n : Nat} {f : Nat → Int32} (he : C r = some (.inl (cA, n, .inl f))) (ht : tys[t0]? = some (cA, .int)) {i : Int32} {x : Int32} (j : Nat) (hi : i = nI j) (hj : j < n) (hn : n < 2 ^ 31) (hdg : decode cc pc = .ok (.iastore, 1))
    (kk : ∀ (H1 : Heap) (locs1 : List Loc), fr_W D cl z b (fr_up C r (.inl (cA, n, .inl (upd f j x)))) H1 → va_S (fr_A z) H0 H1 locs1 → W p l e R s m args below meth c H1 locs1 cells slots Q (F0 m (pc + 1) ls rest)) : W p l e R s m args below meth c H locs cells slots Q (F0 m pc ls (.int x :: .int i :: .ref a :: rest)) := by
  subst ha
  subst hi
  have hin := vp_in_nI hj hn
  have hcl : (nI j).toNatClampNeg = j := nI_clamp (by omega)
  refine W.iast hexec hb (hE.2.1 r _ he).1 ((hK.2 t0 _ ht).1 n (fun j => .int (f j))) (fun q => by cases q) (by show ¬ (nI j < 0 ∨ (arrV _ _ _).slots.size ≤ _); rw [arrV_size]; exact hin) rfl rfl hdg fun H1 e z oq => ?_
  refine kk H1 _ (hE.set he ?_ z oq) (fr_put_S hS z oq (hE.2.1 r _ he).2)
  show H1[fr_ad b r]? = some (vp_cell _ _)
  rw [e]
  rw [vp_cell_i, vp_cell_i, arrV_store, hcl]
  congr 2
  funext q
  by_cases hq : q = j
  · subst hq
    simp [updV, upd]
  · simp [updV, upd, hq]
theorem fr_zast (hexec : p.tables.exec = Jvm.exec) (hb : c.code = cc) (hK : va_K D cl tys s) (hE : fr_W D cl z b C H) (hS : va_S (fr_A z) H0 H locs) (r : Nat × Nat) (t0 : Nat) (ha : fr_ad b r = a) {cA : ClassId} {n : Nat} {f : Nat → Int32} (he : C r = some (.inl (cA, n, .inl f))) (ht : tys[t0]? = some (cA, .boolean)) {i : Int32} {x : Int32} (j : Nat) (hi : i = nI j) (hj : j < n) (hn : n < 2 ^ 31) (x' : Int32) (hx' : vp_nar .boolean x = x') (hdg : decode cc pc = .ok (.bastore, 1))
    (kk : ∀ (H1 : Heap) (locs1 : List Loc), fr_W D cl z b (fr_up C r (.inl (cA, n, .inl (upd f j x')))) H1 → va_S (fr_A z) H0 H1 locs1 → W p l e R s m args below meth c H1 locs1 cells slots Q (F0 m (pc + 1) ls rest)) : W p l e R s m args below meth c H locs cells slots Q (F0 m pc ls (.int x :: .int i :: .ref a :: rest)) := by
  subst ha
  subst hi
  subst hx'
  have hin := vp_in_nI hj hn
  have hcl : (nI j).toNatClampNeg = j := nI_clamp (by omega)
  refine W.zast hexec hb (hE.2.1 r _ he).1 ((hK.2 t0 _ ht).1 n (fun j => .int (f j))) (fun q => by cases q) (by show ¬ (nI j < 0 ∨ (arrV _ _ _).slots.size ≤ _); rw [arrV_size]; exact hin) rfl rfl hdg fun H1 e z oq => ?_
  refine kk H1 _ (hE.set he ?_ z oq) (fr_put_S hS z oq (hE.2.1 r _ he).2)
  show H1[fr_ad b r]? = some (vp_cell _ _)
  rw [e]
  rw [vp_cell_i, vp_cell_i, arrV_store, hcl]
  congr 2
  funext q
  by_cases hq : q = j
  · subst hq
    simp [updV, upd, vp_nar]
    try rfl
  · simp [updV, upd, hq]
theorem fr_last (hexec : p.tables.exec = Jvm.exec) (hb : c.code = cc) (hK : va_K D cl tys s) (hE : fr_W D cl z b C H) (hS : va_S (fr_A z) H0 H locs) (r : Nat × Nat) (t0 : Nat) (ha : fr_ad b r = a) {cA : ClassId} {n : Nat} {f : Nat → Int64} (he : C r = some (.inl (cA, n, .inr (.inl f)))) (ht : tys[t0]? = some (cA, .long)) {i : Int32} {x : Int64} (j : Nat) (hi : i = nI j) (hj : j < n) (hn : n < 2 ^ 31) (hdg : decode cc pc = .ok (.lastore, 1))
    (kk : ∀ (H1 : Heap) (locs1 : List Loc), fr_W D cl z b (fr_up C r (.inl (cA, n, .inr (.inl (vp_updL f j x))))) H1 → va_S (fr_A z) H0 H1 locs1 → W p l e R s m args below meth c H1 locs1 cells slots Q (F0 m (pc + 1) ls rest)) : W p l e R s m args below meth c H locs cells slots Q (F0 m pc ls (.long x :: .int i :: .ref a :: rest)) := by
  subst ha
  subst hi
  have hin := vp_in_nI hj hn
  have hcl : (nI j).toNatClampNeg = j := nI_clamp (by omega)
  refine W.last hexec hb (hE.2.1 r _ he).1 ((hK.2 t0 _ ht).1 n (fun j => .long (f j))) (fun q => by cases q) (by show ¬ (nI j < 0 ∨ (arrV _ _ _).slots.size ≤ _); rw [arrV_size]; exact hin) rfl rfl hdg fun H1 e z oq => ?_
  refine kk H1 _ (hE.set he ?_ z oq) (fr_put_S hS z oq (hE.2.1 r _ he).2)
  show H1[fr_ad b r]? = some (vp_cell _ _)
  rw [e]
  rw [vp_cell_l, vp_cell_l, arrV_store, hcl]
  congr 2
  funext q
  by_cases hq : q = j
  · subst hq
    simp [updV, vp_updL]
  · simp [updV, vp_updL, hq]
/-- a reference is stored, of the very kind that the array is of -/
theorem fr_aast (hexec : p.tables.exec = Jvm.exec) (hb : c.code = cc) (hK : va_K D cl tys s) (hE : fr_W D cl z b C H) (hS : va_S (fr_A z) H0 H locs) (r : Nat × Nat) (t0 : Nat) (ha : fr_ad b r = a) {cA : ClassId} {r9 : vw_C} {n v ci : Nat} {vs : List Value} {f : Nat → Option Nat} (he : C r = some (.inl (cA, n, .inr (.inr (.inr (.inr f)))))) (ht : tys[t0]? = some (cA, .object r9.1)) (rv : Nat × Nat) (hav : fr_ad b rv = v) (hv : C rv = some (.inr (ci, vs))) (hc : cl[ci]? = some r9) {i : Int32} (j : Nat) (hi : i = nI j) (hj : j < n) (hn : n < 2 ^ 31) (hdg : decode cc pc = .ok (.aastore, 1))
    (kk : ∀ (H1 : Heap) (locs1 : List Loc), fr_W D cl z b (fr_up C r (.inl (cA, n, .inr (.inr (.inr (.inr (va_up f j (some v)))))))) H1 → va_S (fr_A z) H0 H1 locs1 → W p l e R s m args below meth c H1 locs1 cells slots Q (F0 m (pc + 1) ls rest)) : W p l e R s m args below meth c H locs cells slots Q (F0 m pc ls (.ref v :: .int i :: .ref a :: rest)) := by
  subst ha
  subst hi
  subst hav
  have hin := vp_in_nI hj hn
  have hcl9 : (nI j).toNatClampNeg = j := nI_clamp (by omega)
  have hlt : (nI j).toNatClampNeg < n := by rw [hcl9]; exact hj
  have h0 : ¬ nI j < 0 := nI_pos (by omega)
  obtain ⟨r', hr', cellV, g1, g2, g3, -⟩ := (hE.2.1 rv _ hv).1
  have hcls := (hK.1 ci r9 hc).2
  obtain ⟨kA, comp, k1, k2, k3, -⟩ := (hK.2 t0 _ ht).2
  have hcomp : comp = D.1 ci := Option.some.inj (k3.symm.trans hcls.1)
  subst hcomp
  obtain ⟨kC, hkC, -⟩ := hcls.2
  refine W.aast hexec hb (hE.2.1 r _ he).1 (fun q h => by cases h) (fun h => by cases h) k1 k2 rfl hkC ⟨h0, by show _ < (arrV _ _ _).slots.size; rw [arrV_size]; exact hlt⟩ g1 (fun q h => by rw [g3] at h; cases h) (by rw [g2]; exact hkC) (by rw [g2]; exact va_assign hcls) rfl rfl hdg fun H1 e z oq => ?_
  refine kk H1 _ (hE.set he ?_ z oq) (fr_put_S hS z oq (hE.2.1 r _ he).2)
  show H1[fr_ad b r]? = some (vp_cell _ _)
  rw [e]
  rw [vp_cell_q, vp_cell_q, arrV_store, hcl9]
  congr 2
  funext q
  by_cases hq : q = j
  · subst hq
    simp [updV, va_up, va_rf]
  · simp [updV, va_up, hq]
/-- newarray, of a kind that is known already -/
theorem fr_newa (hexec : p.tables.exec = Jvm.exec) (hb : c.code = cc) {atype : ArrayType} (harr : (Cond.arrayClass (newarray.typeOf atype)).before args s = true) {ty : FieldType} (hty : newarray.typeOf atype = ty) (hK : va_K D cl tys s) (hE : fr_W D cl z b C H) (hS : va_S (fr_A z) H0 H locs) (i t0 : Nat) {cA : ClassId} (ht : tys[t0]? = some (cA, ty))
    {n : Int32} (N' : Nat) {a0 : vp_A} (ha : ∀ cA : ClassId, vp_cell cA a0 = arrV cA N' (fun _ => defaultValue ty)) (hnN : n = nI N') (hN31 : N' < 2 ^ 31) (hbytes : N' * componentBytes ty ≤ 536870912) (hcells : cells + 1 ≤ R.cells) (hslots : slots + N' ≤ R.slots) (hdg : decode cc pc = .ok (.newarray atype, 2))
    (kk : ∀ (q : Nat) (H1 : Heap), C (1, q) = none → fr_W D cl z (fr_ub b i q) (fr_up C (0, i) (.inl (cA, a0))) H1 → va_S (fr_A z) H0 H1 locs →
      W p l e R s m args below meth c H1 locs (cells + 1) (slots + N') Q (F0 m (pc + 2) ls (.ref q :: rest))) : W p l e R s m args below meth c H locs cells slots Q (F0 m pc ls (.int n :: rest)) := by
  subst hty
  subst hnN
  refine va_newaK hexec hb harr rfl hdg rfl (nI_pos hN31) (nI_clamp hN31) hbytes hcells hslots rfl fun H1 cA1 e1 z1 o1 hAr hNm => ?_
  have hcA : cA1 = cA := by
    have h1 := (hK.2 t0 _ ht).2
    have h2 : s.vm.findClass ("[" ++ (newarray.typeOf atype).toString) = some cA := by cases atype <;> exact h1
    exact Option.some.inj (hNm.symm.trans h2)
  subst hcA
  refine kk H.size H1 hE.fresh (hE.new i ?_ (by omega) o1) (fr_new_S hS (by omega) o1)
  show H1[H.size]? = some (vp_cell _ _)
  rw [ha]
  exact e1
/-- anewarray, of a kind that is known already -/
theorem fr_newq (hexec : p.tables.exec = Jvm.exec) (hb : c.code = cc) {own Cn : String} {index : Nat} (hown : s.vm.findClass own = some m.cls) (hclink : (Cond.classLink own index Cn).before args s = true) (hover : (Cond.arrayOver (.object Cn)).before args s = true) (hK : va_K D cl tys s) (hE : fr_W D cl z b C H) (hS : va_S (fr_A z) H0 H locs) (i t0 : Nat) {cA : ClassId} (ht : tys[t0]? = some (cA, .object Cn))
    {n : Int32} (N' : Nat) (hnN : n = nI N') (hN31 : N' < 2 ^ 31) (hbytes : N' * 4 ≤ 536870912) (hcells : cells + 1 ≤ R.cells) (hslots : slots + N' ≤ R.slots) (hdg : decode cc pc = .ok (.anewarray index, 3))
    (kk : ∀ (q : Nat) (H1 : Heap), C (1, q) = none → fr_W D cl z (fr_ub b i q) (fr_up C (0, i) (.inl (cA, N', .inr (.inr (.inr (.inr (fun _ => none))))))) H1 → va_S (fr_A z) H0 H1 locs →
      W p l e R s m args below meth c H1 locs (cells + 1) (slots + N') Q (F0 m (pc + 3) ls (.ref q :: rest))) : W p l e R s m args below meth c H locs cells slots Q (F0 m pc ls (.int n :: rest)) := by
  subst hnN
  have hN : (nI N').toNatClampNeg = N' := nI_clamp hN31
  refine W.anew hexec hb hown hclink hover rfl hdg rfl (nI_pos hN31) (by rw [hN]; exact hbytes) hcells (by rw [hN]; exact hslots) fun cA1 kA comp f1 f2 f3 f4 => ?_
  have hcA : cA1 = cA := by
    obtain ⟨-, -, -, -, -, h4⟩ := (hK.2 t0 _ ht).2
    exact Option.some.inj (f1.symm.trans h4)
  subst hcA
  rw [hN]
  generalize hH1 : H.push ({ cls := cA1, slots := Array.replicate N' .null, vm := .none } : Cell) = H1
  have z1 : H1.size = H.size + 1 := by rw [← hH1, Array.size_push]
  have e1 : H1[H.size]? = some (arrV cA1 N' (fun _ => .null)) := by rw [← hH1, Array.getElem?_push_size, ← arrV_new]
  have o1 : ∀ q : Nat, q < H.size → H1[q]? = H[q]? := fun q hq => by rw [← hH1, Array.getElem?_push, if_neg (Nat.ne_of_lt hq)]
  refine kk H.size H1 hE.fresh (hE.new i ?_ (by omega) o1) (fr_new_S hS (by omega) o1)
  show H1[H.size]? = some (vp_cell _ _)
  rw [vp_cell_q]
  exact e1
theorem fr_new {c0 : Code} (hexec : p.tables.exec = Jvm.exec) (hb : c0.code = cc) {own Cn : String} {T : u_T} {N ci index : Nat} {Ts : List Cond} (hts : ∀ w ∈ Ts, w.before args s = true) (hin : ∀ w ∈ u_ws Cn T N, w ∈ Ts) (ty : Nat → FieldType) (hty : ∀ k, k < N → parseFieldDescriptor (T k).2.2.1 = some (ty k)) (hown : s.vm.findClass own = some m.cls) (hcl : (Cond.classLink own index Cn).before args s = true) (hinst : (Cond.instantiable Cn N).before args s = true) (hini : (Cond.initialized Cn).before args s = true)
    (hK : va_K D cl tys s) (hE : fr_W D cl z b C H) (hS : va_S (fr_A z) H0 H locs) (i : Nat) (hc : cl[ci]? = some (Cn, T, N)) {fs : List Value} (hfs : ∀ j, j < N → defaultValue (ty j) = vp_V fs j) (hcells : cells + 1 ≤ R.cells) (hslots : slots + N ≤ R.slots) (hdg : decode cc pc = .ok (.new index, 3))
    (kk : ∀ (q : Nat) (H1 : Heap), C (1, q) = none → fr_W D cl z (fr_ub b i q) (fr_up C (0, i) (.inr (ci, fs))) H1 → va_S (fr_A z) H0 H1 locs →
      W p l e R s m args below meth c0 H1 locs (cells + 1) (slots + N) Q (F0 m (pc + 3) ls (.ref q :: rest))) : W p l e R s m args below meth c0 H locs cells slots Q (F0 m pc ls rest) := by
  have hKn := hK.1 ci _ hc
  refine W.newcK hexec hb hown hcl hinst hini rfl hdg hcells hslots hKn.2.1 rfl fun H1 kC hkC e1 z1 o1 => ?_
  refine kk H.size H1 hE.fresh (hE.new i ?_ (by omega) o1) (fr_new_S hS (by omega) o1)
  exact ⟨_, hc, (u_born ty hts hin hKn hkC e1 hty).to hfs⟩
end FRW
section FRC
variable {p : Program} {l : Launch} {e : Env} {R : Room} {s : State} {m : MethodId} {args : Array Value} {below : List Frame} {meth : Method} {c : Code} {H : Heap} {locs : List Loc} {cells slots : Nat} {Q : State → Prop}
variable {pc : Nat} {ls : Array Slot} {rest st0 : List Value} {a : Array Value} {H0 : Heap} {mc ms : Nat} {D : va_G} {cl : List vw_C} {tys : List (ClassId × FieldType)} {z : Nat}
theorem fr_calli {S : Type} {post : Int32 → S → Prop} {bf : S → Nat → Nat} {Cf : S → fr_C} (hr : va_Run p l e R s m args below meth c H locs cells slots mc ms (F0 m pc ls st0) rest (va_Qi post (fun u t => fr_G D cl tys z (bf u) (Cf u) t) (fr_A z) a) (fr_A z)) (hS : va_S (fr_A z) H0 H locs)
    (kk : ∀ (r : Int32) (u : S) (H1 : Heap) (locs1 : List Loc), post r u → fr_W D cl z (bf u) (Cf u) H1 → va_S (fr_A z) H0 H1 locs1 → W p l e R s m args below meth c H1 locs1 (cells + mc) (slots + ms) Q (F0 m (pc + 3) ls (.int r :: rest))) : W p l e R s m args below meth c H locs cells slots Q (F0 m pc ls st0) :=
  va_calli hr hS (fun q _ h => h) (fun q h => h) (fun r u t H1 locs1 ht hvm hp hB hz hk hS1 => kk r u H1 locs1 hp (by rw [← ht]; exact hB.1) hS1)
theorem fr_callv {S : Type} {post : S → Prop} {bf : S → Nat → Nat} {Cf : S → fr_C} (hr : va_Run p l e R s m args below meth c H locs cells slots mc ms (F0 m pc ls st0) rest (va_Qv post (fun u t => fr_G D cl tys z (bf u) (Cf u) t) (fr_A z) a) (fr_A z)) (hS : va_S (fr_A z) H0 H locs)
    (kk : ∀ (u : S) (H1 : Heap) (locs1 : List Loc), post u → fr_W D cl z (bf u) (Cf u) H1 → va_S (fr_A z) H0 H1 locs1 → W p l e R s m args below meth c H1 locs1 (cells + mc) (slots + ms) Q (F0 m (pc + 3) ls rest)) : W p l e R s m args below meth c H locs cells slots Q (F0 m pc ls st0) :=
  va_callv hr hS (fun q _ h => h) (fun q h => h) (fun u t H1 locs1 ht hvm hp hB hz hk hS1 => kk u H1 locs1 hp (by rw [← ht]; exact hB.1) hS1)
theorem fr_callq {S : Type} {post : Option Nat → S → Prop} {bf : S → Nat → Nat} {Cf : S → fr_C} (hr : va_Run p l e R s m args below meth c H locs cells slots mc ms (F0 m pc ls st0) rest (va_Qq post (fun u t => fr_G D cl tys z (bf u) (Cf u) t) (fr_A z) a) (fr_A z)) (hS : va_S (fr_A z) H0 H locs)
    (kk : ∀ (r : Option Nat) (u : S) (H1 : Heap) (locs1 : List Loc), post r u → fr_W D cl z (bf u) (Cf u) H1 → va_S (fr_A z) H0 H1 locs1 → W p l e R s m args below meth c H1 locs1 (cells + mc) (slots + ms) Q (F0 m (pc + 3) ls (va_rf r :: rest))) : W p l e R s m args below meth c H locs cells slots Q (F0 m pc ls st0) :=
  va_callq hr hS (fun q _ h => h) (fun q h => h) (fun r u t H1 locs1 ht hvm hp hB hz hk hS1 => kk r u H1 locs1 hp (by rw [← ht]; exact hB.1) hS1)
end FRC
end
section
/-! System.arraycopy over the world by roles: numbers, and references -/
section FRCP
variable {p : Program} {l : Launch} {e : Env} {R : Room} {s : State} {m : MethodId} {args : Array Value} {below : List Frame} {meth : Method} {c : Code} {H : Heap} {locs : List Loc} {cells slots : Nat} {Q : State → Prop}
variable {cc : ByteArray} {pc : Nat} {ls : Array Slot} {rest : List Value} {D : va_G} {cl : List vw_C} {a a0 : Nat} {tys : List (ClassId × FieldType)} {H0 : Heap} {z : Nat} {b : Nat → Nat} {C : fr_C}
theorem fr_nn (z : Nat) (hz : z < 2 ^ 31) : (nI z).toInt = ((nI z).toNatClampNeg : Int) := by
  rw [nI_toInt hz, nI_clamp hz]
theorem fr_copyi (hexec : p.tables.exec = Jvm.exec) (hb : c.code = cc) (hml : c.maxLocals = ls.size) {own : String} {index : Nat} (hown : s.vm.findClass own = some m.cls) (hlink : (Cond.methodLink own index arraycopyName).before args s = true) (hnat : (Cond.native arraycopyName).before args s = true) (hstat : (Cond.static arraycopyName).before args s = true) (hini : (Cond.initialized "java/lang/System").before args s = true)
    (hK : va_K D cl tys s) (hE : fr_W D cl z b C H) (hS : va_S (fr_A z) H0 H locs) (r0 r1 : Nat × Nat) (t0 t1 : Nat) (ha0 : fr_ad b r0 = a0) (ha : fr_ad b r1 = a) {c0 c1 : ClassId} {n0 n1 : Nat} {f g : Nat → Int32} {ty : FieldType} (he0 : C r0 = some (.inl (c0, n0, .inl f))) (he1 : C r1 = some (.inl (c1, n1, .inl g))) (ht0 : tys[t0]? = some (c0, ty)) (ht1 : tys[t1]? = some (c1, ty)) (hprim : refKind ty = false)
    (sp dp n : Nat) {isp idp i9 : Int32} (hsp : isp = nI sp) (hdp : idp = nI dp) (hn : i9 = nI n) (h4 : sp + n ≤ n0) (h5 : dp + n ≤ n1) (h40 : n0 < 2 ^ 31) (h50 : n1 < 2 ^ 31) (hfit : ∀ i, i < n → fits ty (.int (f (sp + i))) = true)
    (hframes : 1 ≤ R.frames) (hlocals : (rest.map fun v => v.category).sum + (nativeFrameWords "java/lang/System" "arraycopy" 5 + 11) ≤ R.locals) (hdg : decode cc pc = .ok (.invokestatic index, 3))
    (kk : ∀ (H1 : Heap) (locs1 : List Loc), fr_W D cl z b (fr_up C r1 (.inl (c1, n1, .inl (va_cpy f g sp dp n)))) H1 → va_S (fr_A z) H0 H1 locs1 → W p l e R s m args below meth c H1 locs1 cells slots Q (F0 m (pc + 3) ls rest)) : W p l e R s m args below meth c H locs cells slots Q (F0 m pc ls (.int i9 :: .int idp :: .ref a :: .int isp :: .ref a0 :: rest)) := by
  subst hsp; subst hdp; subst hn; subst ha0; subst ha
  have csp : (nI sp).toNatClampNeg = sp := nI_clamp (by omega)
  have cdp : (nI dp).toNatClampNeg = dp := nI_clamp (by omega)
  have cn : (nI n).toNatClampNeg = n := nI_clamp (by omega)
  have h1 : ¬ nI sp < 0 := nI_pos (by omega)
  have h2 : ¬ nI dp < 0 := nI_pos (by omega)
  have h3 : ¬ nI n < 0 := nI_pos (by omega)
  intro T hT X
  have hc0 : H[fr_ad b r0]? = some (vp_cell c0 (n0, .inl f)) := (hE.2.1 r0 _ he0).1
  have hc1 : H[fr_ad b r1]? = some (vp_cell c1 (n1, .inl g)) := (hE.2.1 r1 _ he1).1
  have hz1 : z ≤ fr_ad b r1 := (hE.2.1 r1 _ he1).2
  obtain ⟨-, k0, hk0, cm0, hkk0⟩ := (hK.2 t0 _ ht0).1 n0 (fun j => .int (f j))
  obtain ⟨-, k1, hk1, cm1, hkk1⟩ := (hK.2 t1 _ ht1).1 n1 (fun j => .int (g j))
  obtain ⟨vm', X', step⟩ := X.arraycopy hexec hown hlink hnat hstat hini (src := fr_ad b r0) (dst := fr_ad b r1) (cs := vp_cell c0 (n0, .inl f)) (cd := vp_cell c1 (n1, .inl g)) (srcPos := nI sp) (destPos := nI dp) (n := nI n) (by rw [hT]; exact hc0) (by rw [hT]; exact hc1)
    (fun _ h => by cases h) (fun _ h => by cases h) (fun h => by cases h) (fun h => by cases h) hk0 hk1 hkk0 hkk1 (by simp [hprim]) h1 h2 h3
    (by rw [fr_nn sp (by omega), fr_nn n (by omega), csp, cn]; show ¬ _ > ((arrV c0 n0 (fun j => .int (f j))).slots.size : Int); rw [arrV_size]; omega)
    (by rw [fr_nn dp (by omega), fr_nn n (by omega), cdp, cn]; show ¬ _ > ((arrV c1 n1 (fun j => .int (g j))).slots.size : Int); rw [arrV_size]; omega)
    (fun vm₁ _ i hi => by
      rw [cn] at hi
      have e : (vp_cell c0 (n0, .inl f)).slots.getD ((nI sp).toNatClampNeg + i) .null = .int (f (sp + i)) := by
        rw [csp]
        show (arrV c0 n0 (fun j => .int (f j))).slots.getD _ _ = _
        rw [Array.getD_eq_getD_getElem?, arrV_read _ _ (by omega)]
        rfl
      refine ⟨?_, ?_⟩
      · rw [e]
        exact hfit i hi
      · rw [e]
        exact trivial)
    (g := F0 m pc ls (.int (nI n) :: .int (nI dp) :: .ref (fr_ad b r1) :: .int (nI sp) :: .ref (fr_ad b r0) :: rest)) rfl (by rw [hml]) (rest := rest) rfl (by rw [hb]; exact hdg) hframes (by show 2 * 0 + _ + _ ≤ _; omega)
  have e1 : copied (vp_cell c0 (n0, .inl f)) (vp_cell c1 (n1, .inl g)) (nI sp) (nI dp) (nI n) = vp_cell c1 (n1, .inl (va_cpy f g sp dp n)) := by
    have h := va_copied (fun z => Value.int z) c0 c1 (n0 := n0) (n1 := n1) (sp := (nI sp).toNatClampNeg) (dp := (nI dp).toNatClampNeg) (n := (nI n).toNatClampNeg) f g (by rw [csp, cn]; exact h4)
    rw [csp, cdp, cn] at h
    have h9 : copied (vp_cell c0 (n0, .inl f)) (vp_cell c1 (n1, .inl g)) (nI sp) (nI dp) (nI n) = (arrV c1 n1 (fun j => Value.int (g j))).storeRun (nI dp).toNatClampNeg ((arrV c0 n0 (fun j => Value.int (f j))).stretch (nI sp).toNatClampNeg (nI n).toNatClampNeg) := rfl
    rw [h9, csp, cdp, cn]
    exact h
  rw [e1] at X' step
  have hl : fr_ad b r1 < H.size := (Array.getElem?_eq_some_iff.mp hc1).1
  have hheap : ((T.setVm vm').setCell (fr_ad b r1) (vp_cell c1 (n1, .inl (va_cpy f g sp dp n)))).heap = H.setIfInBounds (fr_ad b r1) (vp_cell c1 (n1, .inl (va_cpy f g sp dp n))) := by rw [← hT]; rfl
  have oq : ∀ q : Nat, q ≠ fr_ad b r1 → (H.setIfInBounds (fr_ad b r1) (vp_cell c1 (n1, .inl (va_cpy f g sp dp n))))[q]? = H[q]? := fun q hq => by simp [Array.getElem?_setIfInBounds, Ne.symm hq]
  obtain ⟨t, a1, b1⟩ := kk _ _ (hE.set he1 (show (H.setIfInBounds (fr_ad b r1) _)[fr_ad b r1]? = some _ by simp [Array.getElem?_setIfInBounds, hl]) (by simp) oq) ⟨by simp; exact hS.1, fun q g1 g2 => by
      rw [oq q (fun e => g2 (by rw [e]; exact hz1))]
      exact hS.2.1 q g1 g2, fun q hq => by
      rcases List.mem_append.mp hq with h | h
      · exact hS.2.2 q h
      · obtain ⟨z9, -, hz9⟩ := List.mem_map.mp h
        rw [← hz9]
        exact hz1⟩ _ hheap X'
  exact ⟨t, step t a1, b1⟩
theorem fr_copyq (hexec : p.tables.exec = Jvm.exec) (hb : c.code = cc) (hml : c.maxLocals = ls.size) {own : String} {index : Nat} (hown : s.vm.findClass own = some m.cls) (hlink : (Cond.methodLink own index arraycopyName).before args s = true) (hnat : (Cond.native arraycopyName).before args s = true) (hstat : (Cond.static arraycopyName).before args s = true) (hini : (Cond.initialized "java/lang/System").before args s = true)
    (hK : va_K D cl tys s) (hE : fr_W D cl z b C H) (hS : va_S (fr_A z) H0 H locs) (r0 r1 : Nat × Nat) (t0 t1 : Nat) (ha0 : fr_ad b r0 = a0) (ha : fr_ad b r1 = a) {c0 c1 : ClassId} {n0 n1 : Nat} {f g : Nat → Option Nat} {E0 E1 : String} (he0 : C r0 = some (.inl (c0, n0, .inr (.inr (.inr (.inr f)))))) (he1 : C r1 = some (.inl (c1, n1, .inr (.inr (.inr (.inr g)))))) (ht0 : tys[t0]? = some (c0, .object E0)) (ht1 : tys[t1]? = some (c1, .object E1))
    (sp dp n : Nat) {isp idp i9 : Int32} (hsp : isp = nI sp) (hdp : idp = nI dp) (hn : i9 = nI n) (h4 : sp + n ≤ n0) (h5 : dp + n ≤ n1) (h40 : n0 < 2 ^ 31) (h50 : n1 < 2 ^ 31) (hel : ∀ i : Nat, i < n → ∀ y : Nat, f (sp + i) = some y → va_Any E1 s H y)
    (hframes : 1 ≤ R.frames) (hlocals : (rest.map fun v => v.category).sum + (nativeFrameWords "java/lang/System" "arraycopy" 5 + 11) ≤ R.locals) (hdg : decode cc pc = .ok (.invokestatic index, 3))
    (kk : ∀ (H1 : Heap) (locs1 : List Loc), fr_W D cl z b (fr_up C r1 (.inl (c1, n1, .inr (.inr (.inr (.inr (va_cpy f g sp dp n))))))) H1 → va_S (fr_A z) H0 H1 locs1 → W p l e R s m args below meth c H1 locs1 cells slots Q (F0 m (pc + 3) ls rest)) : W p l e R s m args below meth c H locs cells slots Q (F0 m pc ls (.int i9 :: .int idp :: .ref a :: .int isp :: .ref a0 :: rest)) := by
  subst hsp; subst hdp; subst hn; subst ha0; subst ha
  have csp : (nI sp).toNatClampNeg = sp := nI_clamp (by omega)
  have cdp : (nI dp).toNatClampNeg = dp := nI_clamp (by omega)
  have cn : (nI n).toNatClampNeg = n := nI_clamp (by omega)
  have h1 : ¬ nI sp < 0 := nI_pos (by omega)
  have h2 : ¬ nI dp < 0 := nI_pos (by omega)
  have h3 : ¬ nI n < 0 := nI_pos (by omega)
  intro T hT X
  have hc0 : H[fr_ad b r0]? = some (vp_cell c0 (n0, .inr (.inr (.inr (.inr f))))) := (hE.2.1 r0 _ he0).1
  have hc1 : H[fr_ad b r1]? = some (vp_cell c1 (n1, .inr (.inr (.inr (.inr g))))) := (hE.2.1 r1 _ he1).1
  have hz1 : z ≤ fr_ad b r1 := (hE.2.1 r1 _ he1).2
  obtain ⟨-, k0, hk0, cm0, hkk0⟩ := (hK.2 t0 _ ht0).1 n0 (fun j => va_rf (f j))
  obtain ⟨-, k1, hk1, cm1, hkk1⟩ := (hK.2 t1 _ ht1).1 n1 (fun j => va_rf (g j))
  obtain ⟨vm', X', step⟩ := X.arraycopy hexec hown hlink hnat hstat hini (src := fr_ad b r0) (dst := fr_ad b r1) (cs := vp_cell c0 (n0, .inr (.inr (.inr (.inr f))))) (cd := vp_cell c1 (n1, .inr (.inr (.inr (.inr g))))) (srcPos := nI sp) (destPos := nI dp) (n := nI n) (by rw [hT]; exact hc0) (by rw [hT]; exact hc1)
    (fun _ h => by cases h) (fun _ h => by cases h) (fun h => by cases h) (fun h => by cases h) hk0 hk1 hkk0 hkk1 rfl h1 h2 h3
    (by rw [fr_nn sp (by omega), fr_nn n (by omega), csp, cn]; show ¬ _ > ((arrV c0 n0 (fun j => va_rf (f j))).slots.size : Int); rw [arrV_size]; omega)
    (by rw [fr_nn dp (by omega), fr_nn n (by omega), cdp, cn]; show ¬ _ > ((arrV c1 n1 (fun j => va_rf (g j))).slots.size : Int); rw [arrV_size]; omega)
    (fun vm₁ hal i hi => by
      rw [cn] at hi
      have e : (vp_cell c0 (n0, .inr (.inr (.inr (.inr f))))).slots.getD ((nI sp).toNatClampNeg + i) .null = va_rf (f (sp + i)) := by
        rw [csp]
        show (arrV c0 n0 (fun j => va_rf (f j))).slots.getD _ _ = _
        rw [Array.getD_eq_getD_getElem?, arrV_read _ _ (by omega)]
        rfl
      rw [e]
      cases hy : f (sp + i) with
      | none => exact ⟨rfl, trivial⟩
      | some y =>
        obtain ⟨cellV, g1, g2, ⟨kC, hkC⟩, hasg⟩ := hel i hi y hy
        obtain ⟨kA, comp, r1, r2, r3, -⟩ := (hK.2 t1 _ ht1).2
        cases hk1.symm.trans r1
        cases hkk1.symm.trans r2
        obtain ⟨kE, hkE, -⟩ := Vm.findClass_spec r3
        obtain ⟨kC', hkC', -⟩ := hal.2.2 _ _ hkC
        obtain ⟨kE', hkE', -⟩ := hal.2.2 _ _ hkE
        refine ⟨rfl, cellV, (show T.heap[y]? = some cellV by rw [hT]; exact g1), (fun q h => by rw [h] at g2; cases g2), ⟨kC', hkC'⟩, ?_, ?_⟩
        · exact ⟨kE', hkE'⟩
        · show vm₁.assignable _ _ = true
          rw [hal.assignable]
          exact hasg _ r3)
    (g := F0 m pc ls (.int (nI n) :: .int (nI dp) :: .ref (fr_ad b r1) :: .int (nI sp) :: .ref (fr_ad b r0) :: rest)) rfl (by rw [hml]) (rest := rest) rfl (by rw [hb]; exact hdg) hframes (by show 2 * 0 + _ + _ ≤ _; omega)
  have e1 : copied (vp_cell c0 (n0, .inr (.inr (.inr (.inr f))))) (vp_cell c1 (n1, .inr (.inr (.inr (.inr g))))) (nI sp) (nI dp) (nI n) = vp_cell c1 (n1, .inr (.inr (.inr (.inr (va_cpy f g sp dp n))))) := by
    have h := va_copied (fun z => va_rf z) c0 c1 (n0 := n0) (n1 := n1) (sp := (nI sp).toNatClampNeg) (dp := (nI dp).toNatClampNeg) (n := (nI n).toNatClampNeg) f g (by rw [csp, cn]; exact h4)
    rw [csp, cdp, cn] at h
    have h9 : copied (vp_cell c0 (n0, .inr (.inr (.inr (.inr f))))) (vp_cell c1 (n1, .inr (.inr (.inr (.inr g))))) (nI sp) (nI dp) (nI n) = (arrV c1 n1 (fun j => va_rf (g j))).storeRun (nI dp).toNatClampNeg ((arrV c0 n0 (fun j => va_rf (f j))).stretch (nI sp).toNatClampNeg (nI n).toNatClampNeg) := rfl
    rw [h9, csp, cdp, cn]
    exact h
  rw [e1] at X' step
  have hl : fr_ad b r1 < H.size := (Array.getElem?_eq_some_iff.mp hc1).1
  have hheap : ((T.setVm vm').setCell (fr_ad b r1) (vp_cell c1 (n1, .inr (.inr (.inr (.inr (va_cpy f g sp dp n))))))).heap = H.setIfInBounds (fr_ad b r1) (vp_cell c1 (n1, .inr (.inr (.inr (.inr (va_cpy f g sp dp n)))))) := by rw [← hT]; rfl
  have oq : ∀ q : Nat, q ≠ fr_ad b r1 → (H.setIfInBounds (fr_ad b r1) (vp_cell c1 (n1, .inr (.inr (.inr (.inr (va_cpy f g sp dp n)))))))[q]? = H[q]? := fun q hq => by simp [Array.getElem?_setIfInBounds, Ne.symm hq]
  obtain ⟨t, a1, b1⟩ := kk _ _ (hE.set he1 (show (H.setIfInBounds (fr_ad b r1) _)[fr_ad b r1]? = some _ by simp [Array.getElem?_setIfInBounds, hl]) (by simp) oq) ⟨by simp; exact hS.1, fun q g1 g2 => by
      rw [oq q (fun e => g2 (by rw [e]; exact hz1))]
      exact hS.2.1 q g1 g2, fun q hq => by
      rcases List.mem_append.mp hq with h | h
      · exact hS.2.2 q h
      · obtain ⟨z9, -, hz9⟩ := List.mem_map.mp h
        rw [← hz9]
        exact hz1⟩ _ hheap X'
  exact ⟨t, step t a1, b1⟩
end FRCP
end
section
/-! loops, and updates of one cell again -/
theorem fr_up_up (C : fr_C) (r : Nat × Nat) (e1 e2 : va_E) : fr_up (fr_up C r e1) r e2 = fr_up C r e2 := by
  funext x
  by_cases h : x = r
  · subst h
    rw [fr_up_self, fr_up_self]
  · rw [fr_up_ne h, fr_up_ne h, fr_up_ne h]
theorem fr_up_same {C : fr_C} {r : Nat × Nat} {e : va_E} (h : C r = some e) : fr_up C r e = C := by
  funext x
  by_cases hx : x = r
  · subst hx
    rw [fr_up_self, h]
  · rw [fr_up_ne hx]
theorem fr_loop {p : Program} {l : Launch} {e : Env} {R : Room} {s : State} {m : MethodId} {args : Array Value} {below : List Frame} {meth : Method} {c : Code} {cells slots : Nat} {Q : State → Prop} {pc : Nat} {σ : Type} (I : Nat → σ → Heap → List Loc → Array Slot → Prop)
    (h0 : ∀ x H locs ls, ¬ I 0 x H locs ls)
    (hs : ∀ n x H locs ls, I (n + 1) x H locs ls → (∀ x' H' locs' ls', I n x' H' locs' ls' → W p l e R s m args below meth c H' locs' cells slots Q (F0 m pc ls' [])) → W p l e R s m args below meth c H locs cells slots Q (F0 m pc ls [])) :
    ∀ n x H locs ls, I n x H locs ls → W p l e R s m args below meth c H locs cells slots Q (F0 m pc ls []) := by
  intro n
  induction n with
  | zero => intro x H locs ls h; exact absurd h (h0 x H locs ls)
  | succ n ih => intro x H locs ls h; exact hs n x H locs ls h ih
/-- the worlds agree but at the listed roles -/
def fr_ag (L : List (Nat × Nat)) (C' C : fr_C) : Prop := ∀ x, x ∉ L → C' x = C x
theorem fr_ag.rf {L : List (Nat × Nat)} {C : fr_C} : fr_ag L C C := fun _ _ => rfl
theorem fr_ag.up {L : List (Nat × Nat)} {C' C : fr_C} {r : Nat × Nat} {e : va_E} (h : fr_ag L C' C) (hr : r ∈ L) : fr_ag L (fr_up C' r e) C := fun x hx => (fr_up_ne (fun q => hx (by rw [q]; exact hr))).trans (h x hx)
theorem fr_ag.tr {L : List (Nat × Nat)} {C2 C1 C : fr_C} (h2 : fr_ag L C2 C1) (h1 : fr_ag L C1 C) : fr_ag L C2 C := fun x hx => (h2 x hx).trans (h1 x hx)
theorem fr_ag.wider {L L' : List (Nat × Nat)} {C1 C : fr_C} (h : fr_ag L C1 C) (hL : ∀ x ∈ L, x ∈ L') : fr_ag L' C1 C := fun x hx => h x (fun q => hx (hL x q))
theorem fr_ag.at {L : List (Nat × Nat)} {C' C : fr_C} {x : Nat × Nat} {y : Option va_E} (h : fr_ag L C' C) (hx : x ∉ L) (e : C x = y) : C' x = y := (h x hx).trans e
/-! the records of a span, in order -/
/-- how far the one that is put in goes to the left: the last place whose day is not later -/
def psF (dy : Nat → Int32) (x : Nat) (L : Nat → Nat) : Nat → Nat
  | 0 => 0
  | m + 1 => if dy x < dy (L m) then psF dy x L m else m + 1
theorem psF_le (dy : Nat → Int32) (x : Nat) (L : Nat → Nat) (k : Nat) : psF dy x L k ≤ k := by
  induction k with
  | zero => exact Nat.le_refl 0
  | succ m ih =>
    unfold psF
    split
    · omega
    · exact Nat.le_refl _
def insF (dy : Nat → Int32) (x : Nat) (L : Nat → Nat) (k : Nat) : Nat → Nat := fun j => if j < psF dy x L k then L j else if j = psF dy x L k then x else L (j - 1)
def selB (fr to of : Int32) (dy st : Nat → Int32) (r : Nat) : Bool := decide (fr ≤ dy r) && decide (dy r ≤ to) && (decide (of < 0) || decide (st r = of))
def gaF (sel : Nat → Bool) (dy : Nat → Int32) : Nat → (Nat → Nat) × Nat
  | 0 => (fun _ => 0, 0)
  | r + 1 => if sel r = true then (insF dy r (gaF sel dy r).1 (gaF sel dy r).2, (gaF sel dy r).2 + 1) else gaF sel dy r
theorem gaF_le (sel : Nat → Bool) (dy : Nat → Int32) (r : Nat) : (gaF sel dy r).2 ≤ r := by
  induction r with
  | zero => exact Nat.le_refl 0
  | succ r ih =>
    unfold gaF
    split
    · show (gaF sel dy r).2 + 1 ≤ r + 1
      omega
    · omega
theorem insF_lt {dy : Nat → Int32} {x : Nat} {L : Nat → Nat} {k N : Nat} (hx : x < N) (hL : ∀ j, j < k → L j < N) : ∀ j, j < k + 1 → insF dy x L k j < N := by
  intro j hj
  have hp := psF_le dy x L k
  unfold insF
  split
  · exact hL j (by omega)
  · split
    · exact hx
    · exact hL (j - 1) (by omega)
theorem gaF_lt (sel : Nat → Bool) (dy : Nat → Int32) (r : Nat) : ∀ j, j < (gaF sel dy r).2 → (gaF sel dy r).1 j < r := by
  induction r with
  | zero => intro j hj; exact absurd hj (Nat.not_lt_zero j)
  | succ r ih =>
    unfold gaF
    split
    · intro j hj
      exact insF_lt (N := r + 1) (Nat.lt_succ_self r) (fun i hi => Nat.lt_succ_of_lt (ih i hi)) j hj
    · intro j hj
      exact Nat.lt_succ_of_lt (ih j hj)
theorem gaF_any (sel : Nat → Bool) (dy : Nat → Int32) (r : Nat) : 0 < (gaF sel dy r).2 ↔ ∃ i, i < r ∧ sel i = true := by
  induction r with
  | zero => exact ⟨fun h => absurd h (Nat.not_lt_zero 0), fun ⟨i, hi, _⟩ => absurd hi (Nat.not_lt_zero i)⟩
  | succ r ih =>
    unfold gaF
    split
    · rename_i h
      exact ⟨fun _ => ⟨r, Nat.lt_succ_self r, h⟩, fun _ => Nat.succ_pos _⟩
    · rename_i h
      rw [ih]
      constructor
      · rintro ⟨i, hi, hs⟩
        exact ⟨i, Nat.lt_succ_of_lt hi, hs⟩
      · rintro ⟨i, hi, hs⟩
        rcases Nat.lt_or_ge i r with q | q
        · exact ⟨i, q, hs⟩
        · have : i = r := by omega
          subst this
          exact absurd hs h
end
section
/-- the kinds of arrays that this claim has -/
abbrev hTy (cI cZ cJ cP cO : ClassId) : List (ClassId × FieldType) := [(cI, .int), (cZ, .boolean), (cJ, .long), (cP, .object "HarvestSteps$Page"), (cO, .object "java/lang/Object")]
/-- v is one of 0 .. n - 1 -/
def inN (v : Int32) (n : Nat) : Prop := ∃ j : Nat, j < n ∧ v = nI j
theorem inN_yes {v : Int32} {n : Nat} (hn : n < 2 ^ 31) (h0 : ¬ v < 0) (h1 : ¬ nI n ≤ v) : inN v n := by
  rcases pk_ix v hn with h | h | h
  · exact absurd h h0
  · exact absurd h h1
  · exact h
theorem inN_neg {v : Int32} {n : Nat} (hn : n < 2 ^ 31) (h0 : v < 0) : ¬ inN v n := by
  rintro ⟨j, hj, rfl⟩
  exact nI_pos (by omega) h0
theorem inN_big {v : Int32} {n : Nat} (hn : n < 2 ^ 31) (h1 : nI n ≤ v) : ¬ inN v n := by
  rintro ⟨j, hj, rfl⟩
  exact nI_ge hj hn h1
/-- what a test answers -/
def tells (r : Int32) (P : Prop) : Prop := (r = 1 ∧ P) ∨ (r = 0 ∧ ¬ P)
/-- a day that can be -/
def okDay (g : Nat) (v : Int32) : Prop := ∃ d : Nat, d ≤ 1000000 ∧ v = nI d ∧ d % g = 0
set_option maxHeartbeats 4000000 in
set_option maxRecDepth 100000 in
theorem c_X_isSet (l : Launch) {D : va_G} {z : Nat} {b : Nat → Nat} {C : fr_C} {H9 : Heap} (h9 : fr_W D hCl z b C H9) {cI cZ cJ cP cO : ClassId} (v : Int32) : Met l y_X_isSet w_X_isSet ({ frames := 0, cells := 0, slots := 0, locals := 0 }) (va_Pc [.int v] (fr_G D hCl (hTy cI cZ cJ cP cO) z b C)) (va_Qi (fun (r : Int32) (u : Unit) => tells r (inN v 10)) (fun u t => fr_G D hCl (hTy cI cZ cJ cP cO) z ((fun _ => b) u) ((fun _ => C) u) t) (fr_A z)) 0 0 (fr_A z) := by
  refine Met.ofW (cc := b_X_isSet) (maxL := 1) (ret := (some .boolean)) (by decide) rfl ?_
  intro p e s m args below meth c s₁ B hml hv
  obtain ⟨rfl, hE, hK⟩ := hv
  have hx := B.exec
  have hb := B.bytes
  have hr := B.returns
  have hts := atoms_spec (ws := w_X_isSet) B.pre
  have hT : ∀ w ∈ hw_tbl, w.before _ s = true := fun w h => hts w (List.mem_cons_of_mem _ h)
  have hown : s.vm.findClass "HarvestSteps" = some m.cls := findClass_of_methodNamed B.named
  have hlocks := B.notSynchronized
  have hS : va_S (fr_A z) s.heap s.heap [] := va_S.rf
  have hl := lv_entry ([.int v]) (n := 1) (Nat.le_of_ble_eq_true rfl)
  rw [lg_entry_eq]
  generalize (lg_sl ([.int v]) ++ List.replicate (1 - (lg_sl ([.int v])).length) Slot.unset).toArray = ls at hl ⊢
  have hl : lv_has ls 1 [(0, .int v)] := hl
  refine lv_iload_n hx hb d_X_isSet_0 rfl (lv_at hl 0 rfl) ?_
  refine lv_if_lt (tgt := 14) hx hb d_X_isSet_1 (by decide) (fun c_1 => ?_) (fun c_1 => ?_)
  · skip
    refine lv_iconst (v := 0) hx hb d_X_isSet_14 (by decide) ?_
    refine W.widen (k := 0) (n := 0) (Nat.le_of_ble_eq_true rfl) (Nat.le_of_ble_eq_true rfl) ?_
    exact W.zret (v := 0) (ty := .boolean) hx hb hr rfl (fun t9 ht9 hW9 => ⟨⟨0, (), rfl, Or.inr ⟨rfl, inN_neg (by decide) c_1⟩, ⟨by rw [ht9]; exact hE, va_K.moved hW9.alike hK⟩⟩, hS.F ht9⟩) hS.2.2 d_X_isSet_15
  · skip
    refine lv_iload_n hx hb d_X_isSet_4 rfl (lv_at hl 0 rfl) ?_
    refine lv_bipush (v := 10) hx hb d_X_isSet_5 (by decide) ?_
    refine lv_icmp_ge (tgt := 14) hx hb d_X_isSet_7 (by decide) (fun c_2 => ?_) (fun c_2 => ?_)
    · skip
      refine lv_iconst (v := 0) hx hb d_X_isSet_14 (by decide) ?_
      refine W.widen (k := 0) (n := 0) (Nat.le_of_ble_eq_true rfl) (Nat.le_of_ble_eq_true rfl) ?_
      exact W.zret (v := 0) (ty := .boolean) hx hb hr rfl (fun t9 ht9 hW9 => ⟨⟨0, (), rfl, Or.inr ⟨rfl, inN_big (n := 10) (by decide) c_2⟩, ⟨by rw [ht9]; exact hE, va_K.moved hW9.alike hK⟩⟩, hS.F ht9⟩) hS.2.2 d_X_isSet_15
    · skip
      refine lv_iconst (v := 1) hx hb d_X_isSet_10 (by decide) ?_
      refine lv_goto (tgt := 15) hx hb d_X_isSet_11 (by decide) ?_
      refine W.widen (k := 0) (n := 0) (Nat.le_of_ble_eq_true rfl) (Nat.le_of_ble_eq_true rfl) ?_
      exact W.zret (v := 1) (ty := .boolean) hx hb hr rfl (fun t9 ht9 hW9 => ⟨⟨1, (), rfl, Or.inl ⟨rfl, inN_yes (n := 10) (by decide) c_1 c_2⟩, ⟨by rw [ht9]; exact hE, va_K.moved hW9.alike hK⟩⟩, hS.F ht9⟩) hS.2.2 d_X_isSet_15
set_option maxHeartbeats 4000000 in
set_option maxRecDepth 100000 in
theorem c_X_isForm (l : Launch) {D : va_G} {z : Nat} {b : Nat → Nat} {C : fr_C} {H9 : Heap} (h9 : fr_W D hCl z b C H9) {cI cZ cJ cP cO : ClassId} (v : Int32) : Met l y_X_isForm w_X_isForm ({ frames := 0, cells := 0, slots := 0, locals := 0 }) (va_Pc [.int v] (fr_G D hCl (hTy cI cZ cJ cP cO) z b C)) (va_Qi (fun (r : Int32) (u : Unit) => tells r (inN v 6)) (fun u t => fr_G D hCl (hTy cI cZ cJ cP cO) z ((fun _ => b) u) ((fun _ => C) u) t) (fr_A z)) 0 0 (fr_A z) := by
  refine Met.ofW (cc := b_X_isForm) (maxL := 1) (ret := (some .boolean)) (by decide) rfl ?_
  intro p e s m args below meth c s₁ B hml hv
  obtain ⟨rfl, hE, hK⟩ := hv
  have hx := B.exec
  have hb := B.bytes
  have hr := B.returns
  have hts := atoms_spec (ws := w_X_isForm) B.pre
  have hT : ∀ w ∈ hw_tbl, w.before _ s = true := fun w h => hts w (List.mem_cons_of_mem _ h)
  have hown : s.vm.findClass "HarvestSteps" = some m.cls := findClass_of_methodNamed B.named
  have hlocks := B.notSynchronized
  have hS : va_S (fr_A z) s.heap s.heap [] := va_S.rf
  have hl := lv_entry ([.int v]) (n := 1) (Nat.le_of_ble_eq_true rfl)
  rw [lg_entry_eq]
  generalize (lg_sl ([.int v]) ++ List.replicate (1 - (lg_sl ([.int v])).length) Slot.unset).toArray = ls at hl ⊢
  have hl : lv_has ls 1 [(0, .int v)] := hl
  refine lv_iload_n hx hb d_X_isForm_0 rfl (lv_at hl 0 rfl) ?_
  refine lv_if_lt (tgt := 14) hx hb d_X_isForm_1 (by decide) (fun c_1 => ?_) (fun c_1 => ?_)
  · skip
    refine lv_iconst (v := 0) hx hb d_X_isForm_14 (by decide) ?_
    refine W.widen (k := 0) (n := 0) (Nat.le_of_ble_eq_true rfl) (Nat.le_of_ble_eq_true rfl) ?_
    exact W.zret (v := 0) (ty := .boolean) hx hb hr rfl (fun t9 ht9 hW9 => ⟨⟨0, (), rfl, Or.inr ⟨rfl, inN_neg (by decide) c_1⟩, ⟨by rw [ht9]; exact hE, va_K.moved hW9.alike hK⟩⟩, hS.F ht9⟩) hS.2.2 d_X_isForm_15
  · skip
    refine lv_iload_n hx hb d_X_isForm_4 rfl (lv_at hl 0 rfl) ?_
    refine lv_bipush (v := 6) hx hb d_X_isForm_5 (by decide) ?_
    refine lv_icmp_ge (tgt := 14) hx hb d_X_isForm_7 (by decide) (fun c_2 => ?_) (fun c_2 => ?_)
    · skip
      refine lv_iconst (v := 0) hx hb d_X_isForm_14 (by decide) ?_
      refine W.widen (k := 0) (n := 0) (Nat.le_of_ble_eq_true rfl) (Nat.le_of_ble_eq_true rfl) ?_
      exact W.zret (v := 0) (ty := .boolean) hx hb hr rfl (fun t9 ht9 hW9 => ⟨⟨0, (), rfl, Or.inr ⟨rfl, inN_big (n := 6) (by decide) c_2⟩, ⟨by rw [ht9]; exact hE, va_K.moved hW9.alike hK⟩⟩, hS.F ht9⟩) hS.2.2 d_X_isForm_15
    · skip
      refine lv_iconst (v := 1) hx hb d_X_isForm_10 (by decide) ?_
      refine lv_goto (tgt := 15) hx hb d_X_isForm_11 (by decide) ?_
      refine W.widen (k := 0) (n := 0) (Nat.le_of_ble_eq_true rfl) (Nat.le_of_ble_eq_true rfl) ?_
      exact W.zret (v := 1) (ty := .boolean) hx hb hr rfl (fun t9 ht9 hW9 => ⟨⟨1, (), rfl, Or.inl ⟨rfl, inN_yes (n := 6) (by decide) c_1 c_2⟩, ⟨by rw [ht9]; exact hE, va_K.moved hW9.alike hK⟩⟩, hS.F ht9⟩) hS.2.2 d_X_isForm_15
set_option maxHeartbeats 4000000 in
set_option maxRecDepth 100000 in
theorem c_X_isHarvester (l : Launch) {D : va_G} {z : Nat} {b : Nat → Nat} {C : fr_C} {H9 : Heap} (h9 : fr_W D hCl z b C H9) {cI cZ cJ cP cO : ClassId} (v : Int32) : Met l y_X_isHarvester w_X_isHarvester ({ frames := 0, cells := 0, slots := 0, locals := 0 }) (va_Pc [.int v] (fr_G D hCl (hTy cI cZ cJ cP cO) z b C)) (va_Qi (fun (r : Int32) (u : Unit) => tells r (inN v 10)) (fun u t => fr_G D hCl (hTy cI cZ cJ cP cO) z ((fun _ => b) u) ((fun _ => C) u) t) (fr_A z)) 0 0 (fr_A z) := by
  refine Met.ofW (cc := b_X_isHarvester) (maxL := 1) (ret := (some .boolean)) (by decide) rfl ?_
  intro p e s m args below meth c s₁ B hml hv
  obtain ⟨rfl, hE, hK⟩ := hv
  have hx := B.exec
  have hb := B.bytes
  have hr := B.returns
  have hts := atoms_spec (ws := w_X_isHarvester) B.pre
  have hT : ∀ w ∈ hw_tbl, w.before _ s = true := fun w h => hts w (List.mem_cons_of_mem _ h)
  have hown : s.vm.findClass "HarvestSteps" = some m.cls := findClass_of_methodNamed B.named
  have hlocks := B.notSynchronized
  have hS : va_S (fr_A z) s.heap s.heap [] := va_S.rf
  have hl := lv_entry ([.int v]) (n := 1) (Nat.le_of_ble_eq_true rfl)
  rw [lg_entry_eq]
  generalize (lg_sl ([.int v]) ++ List.replicate (1 - (lg_sl ([.int v])).length) Slot.unset).toArray = ls at hl ⊢
  have hl : lv_has ls 1 [(0, .int v)] := hl
  refine lv_iload_n hx hb d_X_isHarvester_0 rfl (lv_at hl 0 rfl) ?_
  refine lv_if_lt (tgt := 14) hx hb d_X_isHarvester_1 (by decide) (fun c_1 => ?_) (fun c_1 => ?_)
  · skip
    refine lv_iconst (v := 0) hx hb d_X_isHarvester_14 (by decide) ?_
    refine W.widen (k := 0) (n := 0) (Nat.le_of_ble_eq_true rfl) (Nat.le_of_ble_eq_true rfl) ?_
    exact W.zret (v := 0) (ty := .boolean) hx hb hr rfl (fun t9 ht9 hW9 => ⟨⟨0, (), rfl, Or.inr ⟨rfl, inN_neg (by decide) c_1⟩, ⟨by rw [ht9]; exact hE, va_K.moved hW9.alike hK⟩⟩, hS.F ht9⟩) hS.2.2 d_X_isHarvester_15
  · skip
    refine lv_iload_n hx hb d_X_isHarvester_4 rfl (lv_at hl 0 rfl) ?_
    refine lv_bipush (v := 10) hx hb d_X_isHarvester_5 (by decide) ?_
    refine lv_icmp_ge (tgt := 14) hx hb d_X_isHarvester_7 (by decide) (fun c_2 => ?_) (fun c_2 => ?_)
    · skip
      refine lv_iconst (v := 0) hx hb d_X_isHarvester_14 (by decide) ?_
      refine W.widen (k := 0) (n := 0) (Nat.le_of_ble_eq_true rfl) (Nat.le_of_ble_eq_true rfl) ?_
      exact W.zret (v := 0) (ty := .boolean) hx hb hr rfl (fun t9 ht9 hW9 => ⟨⟨0, (), rfl, Or.inr ⟨rfl, inN_big (n := 10) (by decide) c_2⟩, ⟨by rw [ht9]; exact hE, va_K.moved hW9.alike hK⟩⟩, hS.F ht9⟩) hS.2.2 d_X_isHarvester_15
    · skip
      refine lv_iconst (v := 1) hx hb d_X_isHarvester_10 (by decide) ?_
      refine lv_goto (tgt := 15) hx hb d_X_isHarvester_11 (by decide) ?_
      refine W.widen (k := 0) (n := 0) (Nat.le_of_ble_eq_true rfl) (Nat.le_of_ble_eq_true rfl) ?_
      exact W.zret (v := 1) (ty := .boolean) hx hb hr rfl (fun t9 ht9 hW9 => ⟨⟨1, (), rfl, Or.inl ⟨rfl, inN_yes (n := 10) (by decide) c_1 c_2⟩, ⟨by rw [ht9]; exact hE, va_K.moved hW9.alike hK⟩⟩, hS.F ht9⟩) hS.2.2 d_X_isHarvester_15
set_option maxHeartbeats 4000000 in
set_option maxRecDepth 100000 in
theorem c_X_isTime (l : Launch) {D : va_G} {z : Nat} {b : Nat → Nat} {C : fr_C} {H9 : Heap} (h9 : fr_W D hCl z b C H9) {cI cZ cJ cP cO : ClassId} (v : Int32) : Met l y_X_isTime w_X_isTime ({ frames := 0, cells := 0, slots := 0, locals := 0 }) (va_Pc [.int v] (fr_G D hCl (hTy cI cZ cJ cP cO) z b C)) (va_Qi (fun (r : Int32) (u : Unit) => tells r (inN v 1000000001)) (fun u t => fr_G D hCl (hTy cI cZ cJ cP cO) z ((fun _ => b) u) ((fun _ => C) u) t) (fr_A z)) 0 0 (fr_A z) := by
  refine Met.ofW (cc := b_X_isTime) (maxL := 1) (ret := (some .boolean)) (by decide) rfl ?_
  intro p e s m args below meth c s₁ B hml hv
  obtain ⟨rfl, hE, hK⟩ := hv
  have hx := B.exec
  have hb := B.bytes
  have hr := B.returns
  have hts := atoms_spec (ws := w_X_isTime) B.pre
  have hT : ∀ w ∈ hw_tbl, w.before _ s = true := fun w h => hts w (List.mem_cons_of_mem _ h)
  have hown : s.vm.findClass "HarvestSteps" = some m.cls := findClass_of_methodNamed B.named
  have hlocks := B.notSynchronized
  have hS : va_S (fr_A z) s.heap s.heap [] := va_S.rf
  have hl := lv_entry ([.int v]) (n := 1) (Nat.le_of_ble_eq_true rfl)
  rw [lg_entry_eq]
  generalize (lg_sl ([.int v]) ++ List.replicate (1 - (lg_sl ([.int v])).length) Slot.unset).toArray = ls at hl ⊢
  have hl : lv_has ls 1 [(0, .int v)] := hl
  refine lv_iload_n hx hb d_X_isTime_0 rfl (lv_at hl 0 rfl) ?_
  refine lv_if_lt (tgt := 14) hx hb d_X_isTime_1 (by decide) (fun c_1 => ?_) (fun c_1 => ?_)
  · skip
    refine lv_iconst (v := 0) hx hb d_X_isTime_14 (by decide) ?_
    refine W.widen (k := 0) (n := 0) (Nat.le_of_ble_eq_true rfl) (Nat.le_of_ble_eq_true rfl) ?_
    exact W.zret (v := 0) (ty := .boolean) hx hb hr rfl (fun t9 ht9 hW9 => ⟨⟨0, (), rfl, Or.inr ⟨rfl, inN_neg (by decide) c_1⟩, ⟨by rw [ht9]; exact hE, va_K.moved hW9.alike hK⟩⟩, hS.F ht9⟩) hS.2.2 d_X_isTime_15
  · skip
    refine lv_iload_n hx hb d_X_isTime_4 rfl (lv_at hl 0 rfl) ?_
    refine lv_ldc (v := 1000000000) hx hb hown (hT _ kw_180) d_X_isTime_5 ?_
    refine lv_icmp_gt (tgt := 14) hx hb d_X_isTime_7 (by decide) (fun c_2 => ?_) (fun c_2 => ?_)
    · skip
      refine lv_iconst (v := 0) hx hb d_X_isTime_14 (by decide) ?_
      refine W.widen (k := 0) (n := 0) (Nat.le_of_ble_eq_true rfl) (Nat.le_of_ble_eq_true rfl) ?_
      exact W.zret (v := 0) (ty := .boolean) hx hb hr rfl (fun t9 ht9 hW9 => ⟨⟨0, (), rfl, Or.inr ⟨rfl, inN_big (n := 1000000001) (by decide) (Int32.le_iff_toInt_le.mpr (by have := Int32.lt_iff_toInt_lt.mp c_2; rw [nI_toInt (by decide)]; have e9 : (1000000000 : Int32).toInt = 1000000000 := rfl; omega))⟩, ⟨by rw [ht9]; exact hE, va_K.moved hW9.alike hK⟩⟩, hS.F ht9⟩) hS.2.2 d_X_isTime_15
    · skip
      refine lv_iconst (v := 1) hx hb d_X_isTime_10 (by decide) ?_
      refine lv_goto (tgt := 15) hx hb d_X_isTime_11 (by decide) ?_
      refine W.widen (k := 0) (n := 0) (Nat.le_of_ble_eq_true rfl) (Nat.le_of_ble_eq_true rfl) ?_
      exact W.zret (v := 1) (ty := .boolean) hx hb hr rfl (fun t9 ht9 hW9 => ⟨⟨1, (), rfl, Or.inl ⟨rfl, inN_yes (n := 1000000001) (by decide) c_1 (fun q => c_2 (Int32.lt_iff_toInt_lt.mpr (by have := Int32.le_iff_toInt_le.mp q; rw [nI_toInt (by decide)] at this; show (1000000000 : Int) < v.toInt; omega)))⟩, ⟨by rw [ht9]; exact hE, va_K.moved hW9.alike hK⟩⟩, hS.F ht9⟩) hS.2.2 d_X_isTime_15
end
section
/-- the fields of the object under check -/
def fX (b : Nat → Nat) (pg gr lf n an lc po : Nat) : List Value := [.int (nI pg), .int (nI gr), .int (nI lf), .ref (b 1), .ref (b 2), .ref (b 3), .ref (b 4), .ref (b 5), .int (nI n), .int (nI an), .ref (b 6), .int (nI lc), .ref (b 7), .ref (b 8), .ref (b 9), .int (nI po)]
def isHeldP (hd : Nat → Int32) (f : Int32) : Prop := ∃ j : Nat, j < 6 ∧ f = nI j ∧ ¬ hd j = 0
theorem not_isHeldP {hd : Nat → Int32} {j : Nat} (hj : j < 6) (h : hd j = 0) : ¬ isHeldP hd (nI j) := by
  rintro ⟨i, hi, e, h1⟩
  have := (nI_eq (by omega) (by omega)).mp e
  subst this
  exact h1 h
theorem okDay_no {g : Nat} {d : Nat} (hd : d ≤ 1000000) (h : ¬ nI (d % g) = 0) : ¬ okDay g (nI d) := by
  rintro ⟨i, hi, e, h1⟩
  have := (nI_eq (by omega) (by omega)).mp e
  subst this
  rw [h1] at h
  exact h nI_0
theorem okDay_in {g : Nat} {v : Int32} (h : okDay g v) : inN v 1000001 := by
  obtain ⟨d, h1, h2, -⟩ := h
  exact ⟨d, by omega, h2⟩
/-- what act does -/
def xAct (b : Nat → Nat) (C : fr_C) (cI cZ : ClassId) (pg gr lf n an lc po : Nat) (ac dy dl : Nat → Int32) (j : Nat) (day x : Int32) : fr_C :=
  fr_up (fr_up (fr_up (fr_up C (0, 0) (.inr (0, fX b pg gr lf n (an + 1) lc po))) (0, 5) (.inl (cI, 150, .inl (upd ac j (nI (an + 1)))))) (0, 3) (.inl (cI, 150, .inl (upd dy j day)))) (0, 4) (.inl (cZ, 150, .inl (upd dl j x)))
set_option maxHeartbeats 4000000 in
set_option maxRecDepth 100000 in
theorem c_X_isRecord (l : Launch) {D : va_G} {z : Nat} {b : Nat → Nat} {C : fr_C} {H9 : Heap} (h9 : fr_W D hCl z b C H9) {cI cZ cJ cP cO : ClassId} {pg gr lf n an lc po : Nat}  (h0 : C (0, 0) = some (.inr (0, fX b pg gr lf n an lc po)))  (hn : n ≤ 150) (v : Int32) : Met l y_X_isRecord w_X_isRecord ({ frames := 0, cells := 0, slots := 0, locals := 0 }) (va_Pc [.ref (b 0), .int v] (fr_G D hCl (hTy cI cZ cJ cP cO) z b C)) (va_Qi (fun (r : Int32) (u : Unit) => tells r (inN v n)) (fun u t => fr_G D hCl (hTy cI cZ cJ cP cO) z ((fun _ => b) u) ((fun _ => C) u) t) (fr_A z)) 0 0 (fr_A z) := by
  refine Met.ofW (cc := b_X_isRecord) (maxL := 2) (ret := (some .boolean)) (by decide) rfl ?_
  intro p e s m args below meth c s₁ B hml hv
  obtain ⟨rfl, hE, hK⟩ := hv
  have hx := B.exec
  have hb := B.bytes
  have hr := B.returns
  have hts := atoms_spec (ws := w_X_isRecord) B.pre
  have hT : ∀ w ∈ hw_tbl, w.before _ s = true := fun w h => hts w (List.mem_cons_of_mem _ h)
  have hown : s.vm.findClass "HarvestSteps" = some m.cls := findClass_of_methodNamed B.named
  have hlocks := B.notSynchronized
  have hS : va_S (fr_A z) s.heap s.heap [] := va_S.rf
  have hl := lv_entry ([.ref (b 0), .int v]) (n := 2) (Nat.le_of_ble_eq_true rfl)
  rw [lg_entry_eq]
  generalize (lg_sl ([.ref (b 0), .int v]) ++ List.replicate (2 - (lg_sl ([.ref (b 0), .int v])).length) Slot.unset).toArray = ls at hl ⊢
  have hl : lv_has ls 2 [(0, .ref (b 0)), (1, .int v)] := hl
  refine lv_iload_n hx hb d_X_isRecord_0 rfl (lv_at hl 1 rfl) ?_
  refine lv_if_lt (tgt := 16) hx hb d_X_isRecord_1 (by decide) (fun c_1 => ?_) (fun c_1 => ?_)
  · skip
    refine lv_iconst (v := 0) hx hb d_X_isRecord_16 (by decide) ?_
    refine W.widen (k := 0) (n := 0) (Nat.le_of_ble_eq_true rfl) (Nat.le_of_ble_eq_true rfl) ?_
    exact W.zret (v := 0) (ty := .boolean) hx hb hr rfl (fun t9 ht9 hW9 => ⟨⟨0, (), rfl, Or.inr ⟨rfl, inN_neg (by omega) c_1⟩, ⟨by rw [ht9]; exact hE, va_K.moved hW9.alike hK⟩⟩, hS.F ht9⟩) hS.2.2 d_X_isRecord_17
  · skip
    refine lv_iload_n hx hb d_X_isRecord_4 rfl (lv_at hl 1 rfl) ?_
    refine lv_aload_n hx hb d_X_isRecord_5 rfl (lv_at hl 0 rfl) ?_
    refine fr_get (ci := 0) (Cn := hR_0) (T := hF_0) (N := 16) hx hb hT hi_0 hown hK hE (0, 0) rfl h0 rfl 8 (by decide) (hT _ kw_95) (fun _ h9 => h9) rfl d_X_isRecord_6 ?_
    refine lv_icmp_ge (tgt := 16) hx hb d_X_isRecord_9 (by decide) (fun c_2 => ?_) (fun c_2 => ?_)
    · skip
      refine lv_iconst (v := 0) hx hb d_X_isRecord_16 (by decide) ?_
      refine W.widen (k := 0) (n := 0) (Nat.le_of_ble_eq_true rfl) (Nat.le_of_ble_eq_true rfl) ?_
      exact W.zret (v := 0) (ty := .boolean) hx hb hr rfl (fun t9 ht9 hW9 => ⟨⟨0, (), rfl, Or.inr ⟨rfl, inN_big (by omega) c_2⟩, ⟨by rw [ht9]; exact hE, va_K.moved hW9.alike hK⟩⟩, hS.F ht9⟩) hS.2.2 d_X_isRecord_17
    · skip
      refine lv_iconst (v := 1) hx hb d_X_isRecord_12 (by decide) ?_
      refine lv_goto (tgt := 17) hx hb d_X_isRecord_13 (by decide) ?_
      refine W.widen (k := 0) (n := 0) (Nat.le_of_ble_eq_true rfl) (Nat.le_of_ble_eq_true rfl) ?_
      exact W.zret (v := 1) (ty := .boolean) hx hb hr rfl (fun t9 ht9 hW9 => ⟨⟨1, (), rfl, Or.inl ⟨rfl, inN_yes (by omega) c_1 c_2⟩, ⟨by rw [ht9]; exact hE, va_K.moved hW9.alike hK⟩⟩, hS.F ht9⟩) hS.2.2 d_X_isRecord_17
set_option maxHeartbeats 4000000 in
set_option maxRecDepth 100000 in
theorem c_X_canBeDay (l : Launch) {D : va_G} {z : Nat} {b : Nat → Nat} {C : fr_C} {H9 : Heap} (h9 : fr_W D hCl z b C H9) {cI cZ cJ cP cO : ClassId} {pg gr lf n an lc po : Nat}  (h0 : C (0, 0) = some (.inr (0, fX b pg gr lf n an lc po)))  (hg : 1 ≤ gr ∧ gr ≤ 100) (v : Int32) : Met l y_X_canBeDay w_X_canBeDay ({ frames := 0, cells := 0, slots := 0, locals := 0 }) (va_Pc [.ref (b 0), .int v] (fr_G D hCl (hTy cI cZ cJ cP cO) z b C)) (va_Qi (fun (r : Int32) (u : Unit) => tells r (okDay gr v)) (fun u t => fr_G D hCl (hTy cI cZ cJ cP cO) z ((fun _ => b) u) ((fun _ => C) u) t) (fr_A z)) 0 0 (fr_A z) := by
  refine Met.ofW (cc := b_X_canBeDay) (maxL := 2) (ret := (some .boolean)) (by decide) rfl ?_
  intro p e s m args below meth c s₁ B hml hv
  obtain ⟨rfl, hE, hK⟩ := hv
  have hx := B.exec
  have hb := B.bytes
  have hr := B.returns
  have hts := atoms_spec (ws := w_X_canBeDay) B.pre
  have hT : ∀ w ∈ hw_tbl, w.before _ s = true := fun w h => hts w (List.mem_cons_of_mem _ h)
  have hown : s.vm.findClass "HarvestSteps" = some m.cls := findClass_of_methodNamed B.named
  have hlocks := B.notSynchronized
  have hS : va_S (fr_A z) s.heap s.heap [] := va_S.rf
  have hl := lv_entry ([.ref (b 0), .int v]) (n := 2) (Nat.le_of_ble_eq_true rfl)
  rw [lg_entry_eq]
  generalize (lg_sl ([.ref (b 0), .int v]) ++ List.replicate (2 - (lg_sl ([.ref (b 0), .int v])).length) Slot.unset).toArray = ls at hl ⊢
  have hl : lv_has ls 2 [(0, .ref (b 0)), (1, .int v)] := hl
  refine lv_iload_n hx hb d_X_canBeDay_0 rfl (lv_at hl 1 rfl) ?_
  refine lv_if_lt (tgt := 30) hx hb d_X_canBeDay_1 (by decide) (fun c_1 => ?_) (fun c_1 => ?_)
  · skip
    refine lv_iconst (v := 0) hx hb d_X_canBeDay_30 (by decide) ?_
    refine W.widen (k := 0) (n := 0) (Nat.le_of_ble_eq_true rfl) (Nat.le_of_ble_eq_true rfl) ?_
    exact W.zret (v := 0) (ty := .boolean) hx hb hr rfl (fun t9 ht9 hW9 => ⟨⟨0, (), rfl, Or.inr ⟨rfl, fun q => inN_neg (n := 1000001) (by decide) c_1 (okDay_in q)⟩, ⟨by rw [ht9]; exact hE, va_K.moved hW9.alike hK⟩⟩, hS.F ht9⟩) hS.2.2 d_X_canBeDay_31
  · skip
    refine lv_iload_n hx hb d_X_canBeDay_4 rfl (lv_at hl 1 rfl) ?_
    refine lv_ldc (v := 1000000) hx hb hown (hT _ kw_86) d_X_canBeDay_5 ?_
    refine lv_icmp_gt (tgt := 30) hx hb d_X_canBeDay_7 (by decide) (fun c_2 => ?_) (fun c_2 => ?_)
    · skip
      refine lv_iconst (v := 0) hx hb d_X_canBeDay_30 (by decide) ?_
      refine W.widen (k := 0) (n := 0) (Nat.le_of_ble_eq_true rfl) (Nat.le_of_ble_eq_true rfl) ?_
      exact W.zret (v := 0) (ty := .boolean) hx hb hr rfl (fun t9 ht9 hW9 => ⟨⟨0, (), rfl, Or.inr ⟨rfl, fun q => inN_big (n := 1000001) (by decide) (Int32.le_iff_toInt_le.mpr (by have := Int32.lt_iff_toInt_lt.mp c_2; rw [nI_toInt (by decide)]; have e9 : (1000000 : Int32).toInt = 1000000 := rfl; omega)) (okDay_in q)⟩, ⟨by rw [ht9]; exact hE, va_K.moved hW9.alike hK⟩⟩, hS.F ht9⟩) hS.2.2 d_X_canBeDay_31
    · skip
      obtain ⟨j_1, hj_1, rfl⟩ : inN v 1000001 := inN_yes (n := 1000001) (by decide) c_1 (fun q => c_2 (Int32.lt_iff_toInt_lt.mpr (by have := Int32.le_iff_toInt_le.mp q; rw [nI_toInt (by decide)] at this; show (1000000 : Int) < v.toInt; omega)))
      refine lv_aload_n hx hb d_X_canBeDay_10 rfl (lv_at hl 0 rfl) ?_
      refine fr_get (ci := 0) (Cn := hR_0) (T := hF_0) (N := 16) hx hb hT hi_0 hown hK hE (0, 0) rfl h0 rfl 1 (by decide) (hT _ kw_88) (fun _ h9 => h9) rfl d_X_canBeDay_11 ?_
      refine lv_if_le (tgt := 30) hx hb d_X_canBeDay_14 (by decide) (fun c_3 => ?_) (fun c_3 => ?_)
      · skip
        exact absurd c_3 (nI_nle (by omega) (by omega))
      · skip
        refine lv_iload_n hx hb d_X_canBeDay_17 rfl (lv_at hl 1 rfl) ?_
        refine lv_aload_n hx hb d_X_canBeDay_18 rfl (lv_at hl 0 rfl) ?_
        refine fr_get (ci := 0) (Cn := hR_0) (T := hF_0) (N := 16) hx hb hT hi_0 hown hK hE (0, 0) rfl h0 rfl 1 (by decide) (hT _ kw_88) (fun _ h9 => h9) rfl d_X_canBeDay_19 ?_
        refine lv_irem hx hb d_X_canBeDay_22 (nI_ne0 (by omega) (by omega)) ?_
        refine lv_topi (fun y_4 ey_4 => ?_)
        obtain rfl : y_4 = nI (j_1 % gr) := ey_4.trans (pk_rem (by omega) (by omega) (by omega))
        refine lv_if_ne (tgt := 30) hx hb d_X_canBeDay_23 (by decide) (fun c_5 => ?_) (fun c_5 => ?_)
        · skip
          refine lv_iconst (v := 0) hx hb d_X_canBeDay_30 (by decide) ?_
          refine W.widen (k := 0) (n := 0) (Nat.le_of_ble_eq_true rfl) (Nat.le_of_ble_eq_true rfl) ?_
          exact W.zret (v := 0) (ty := .boolean) hx hb hr rfl (fun t9 ht9 hW9 => ⟨⟨0, (), rfl, Or.inr ⟨rfl, okDay_no (by omega) c_5⟩, ⟨by rw [ht9]; exact hE, va_K.moved hW9.alike hK⟩⟩, hS.F ht9⟩) hS.2.2 d_X_canBeDay_31
        · skip
          refine lv_iconst (v := 1) hx hb d_X_canBeDay_26 (by decide) ?_
          refine lv_goto (tgt := 31) hx hb d_X_canBeDay_27 (by decide) ?_
          refine W.widen (k := 0) (n := 0) (Nat.le_of_ble_eq_true rfl) (Nat.le_of_ble_eq_true rfl) ?_
          exact W.zret (v := 1) (ty := .boolean) hx hb hr rfl (fun t9 ht9 hW9 => ⟨⟨1, (), rfl, Or.inl ⟨rfl, j_1, by omega, rfl, by have := (nI_eq (a := j_1 % gr) (b := 0) (by have := Nat.mod_lt j_1 (show 0 < gr by omega); omega) (by decide)).mp (by rw [nI_0]; exact c_5); omega⟩, ⟨by rw [ht9]; exact hE, va_K.moved hW9.alike hK⟩⟩, hS.F ht9⟩) hS.2.2 d_X_canBeDay_31
set_option maxHeartbeats 4000000 in
set_option maxRecDepth 100000 in
theorem c_X_isHeld (l : Launch) {D : va_G} {z : Nat} {b : Nat → Nat} {C : fr_C} {H9 : Heap} (h9 : fr_W D hCl z b C H9) {cI cZ cJ cP cO : ClassId} {pg gr lf n an lc po : Nat} {hd : Nat → Int32} (h0 : C (0, 0) = some (.inr (0, fX b pg gr lf n an lc po))) (h1 : C (0, 1) = some (.inl (cZ, 6, .inl hd))) (f : Int32) : Met l y_X_isHeld w_X_isHeld ({ frames := 1, cells := 0, slots := 0, locals := 20 }) (va_Pc [.ref (b 0), .int f] (fr_G D hCl (hTy cI cZ cJ cP cO) z b C)) (va_Qi (fun (r : Int32) (u : Unit) => tells r (isHeldP hd f)) (fun u t => fr_G D hCl (hTy cI cZ cJ cP cO) z ((fun _ => b) u) ((fun _ => C) u) t) (fr_A z)) 0 0 (fr_A z) := by
  refine Met.ofW (cc := b_X_isHeld) (maxL := 2) (ret := (some .boolean)) (by decide) rfl ?_
  intro p e s m args below meth c s₁ B hml hv
  obtain ⟨rfl, hE, hK⟩ := hv
  have hx := B.exec
  have hb := B.bytes
  have hr := B.returns
  have hts := atoms_spec (ws := w_X_isHeld) B.pre
  have hT : ∀ w ∈ hw_tbl, w.before _ s = true := fun w h => hts w (List.mem_cons_of_mem _ h)
  have hown : s.vm.findClass "HarvestSteps" = some m.cls := findClass_of_methodNamed B.named
  have hlocks := B.notSynchronized
  have hS : va_S (fr_A z) s.heap s.heap [] := va_S.rf
  have hl := lv_entry ([.ref (b 0), .int f]) (n := 2) (Nat.le_of_ble_eq_true rfl)
  rw [lg_entry_eq]
  generalize (lg_sl ([.ref (b 0), .int f]) ++ List.replicate (2 - (lg_sl ([.ref (b 0), .int f])).length) Slot.unset).toArray = ls at hl ⊢
  have hl : lv_has ls 2 [(0, .ref (b 0)), (1, .int f)] := hl
  refine lv_iload_n hx hb d_X_isHeld_0 rfl (lv_at hl 1 rfl) ?_
  refine fr_calli (va_runS (As := [.int f]) (rest := []) ⟨hx, hb, hml, hown, hts⟩ (c_X_isForm l hE f) (va_cwS 1 hts (hw_goodS kw_167 kw_168 kw_21 kw_169) rfl rfl rfl (by decide +kernel) ⟨Nat.le_of_ble_eq_true rfl, Nat.le_of_ble_eq_true rfl⟩) ⟨fr_blind, fr_pre hE hK⟩ rfl rfl hl.1 rfl (lv_room (Nat.le_of_ble_eq_true rfl)) d_X_isHeld_1 ⟨Nat.le_of_ble_eq_true rfl, Nat.le_of_ble_eq_true rfl⟩) hS (fun r_1 u_1 H locs w_1 hE hS => ?_)
  rcases w_1 with ⟨rfl, pw_1⟩ | ⟨rfl, pw_1⟩
  · skip
    obtain ⟨j_1, hj_1, rfl⟩ := pw_1
    refine lv_if_eq (tgt := 20) hx hb d_X_isHeld_4 (by decide) (fun c_2 => ?_) (fun c_2 => ?_)
    · skip
      exact absurd c_2 (by decide)
    · skip
      refine lv_aload_n hx hb d_X_isHeld_7 rfl (lv_at hl 0 rfl) ?_
      refine fr_get (ci := 0) (Cn := hR_0) (T := hF_0) (N := 16) hx hb hT hi_0 hown hK hE (0, 0) rfl h0 rfl 3 (by decide) (hT _ kw_90) (fun _ h9 => h9) rfl d_X_isHeld_8 ?_
      refine lv_iload_n hx hb d_X_isHeld_11 rfl (lv_at hl 1 rfl) ?_
      refine fr_zald hx hb hK hE (0, 1) 1 rfl h1 rfl j_1 (rfl) (hj_1) (by decide) d_X_isHeld_12 ?_
      refine lv_if_eq (tgt := 20) hx hb d_X_isHeld_13 (by decide) (fun c_3 => ?_) (fun c_3 => ?_)
      · skip
        refine lv_iconst (v := 0) hx hb d_X_isHeld_20 (by decide) ?_
        refine W.widen (k := 0) (n := 0) (Nat.le_of_ble_eq_true rfl) (Nat.le_of_ble_eq_true rfl) ?_
        exact W.zret (v := 0) (ty := .boolean) hx hb hr rfl (fun t9 ht9 hW9 => ⟨⟨0, (), rfl, Or.inr ⟨rfl, not_isHeldP hj_1 c_3⟩, ⟨by rw [ht9]; exact hE, va_K.moved hW9.alike hK⟩⟩, hS.F ht9⟩) hS.2.2 d_X_isHeld_21
      · skip
        refine lv_iconst (v := 1) hx hb d_X_isHeld_16 (by decide) ?_
        refine lv_goto (tgt := 21) hx hb d_X_isHeld_17 (by decide) ?_
        refine W.widen (k := 0) (n := 0) (Nat.le_of_ble_eq_true rfl) (Nat.le_of_ble_eq_true rfl) ?_
        exact W.zret (v := 1) (ty := .boolean) hx hb hr rfl (fun t9 ht9 hW9 => ⟨⟨1, (), rfl, Or.inl ⟨rfl, j_1, hj_1, rfl, c_3⟩, ⟨by rw [ht9]; exact hE, va_K.moved hW9.alike hK⟩⟩, hS.F ht9⟩) hS.2.2 d_X_isHeld_21
  · skip
    refine lv_if_eq (tgt := 20) hx hb d_X_isHeld_4 (by decide) (fun c_4 => ?_) (fun c_4 => ?_)
    · skip
      refine lv_iconst (v := 0) hx hb d_X_isHeld_20 (by decide) ?_
      refine W.widen (k := 0) (n := 0) (Nat.le_of_ble_eq_true rfl) (Nat.le_of_ble_eq_true rfl) ?_
      exact W.zret (v := 0) (ty := .boolean) hx hb hr rfl (fun t9 ht9 hW9 => ⟨⟨0, (), rfl, Or.inr ⟨rfl, fun q => pw_1 (by obtain ⟨j, h1, h2, -⟩ := q; exact ⟨j, h1, h2⟩)⟩, ⟨by rw [ht9]; exact hE, va_K.moved hW9.alike hK⟩⟩, hS.F ht9⟩) hS.2.2 d_X_isHeld_21
    · skip
      exact absurd c_4 (by decide)
set_option maxHeartbeats 4000000 in
set_option maxRecDepth 100000 in
theorem c_X_act (l : Launch) {D : va_G} {z : Nat} {b : Nat → Nat} {C : fr_C} {H9 : Heap} (h9 : fr_W D hCl z b C H9) {cI cZ cJ cP cO : ClassId} {pg gr lf n an lc po : Nat} {dy : Nat → Int32} {dl : Nat → Int32} {ac : Nat → Int32} (h0 : C (0, 0) = some (.inr (0, fX b pg gr lf n an lc po))) (h3 : C (0, 3) = some (.inl (cI, 150, .inl dy))) (h4 : C (0, 4) = some (.inl (cZ, 150, .inl dl))) (h5 : C (0, 5) = some (.inl (cI, 150, .inl ac))) (j : Nat) (hj : j < 150) (day x : Int32) (hxx : vp_nar .boolean x = x) : Met l y_X_act w_X_act ({ frames := 0, cells := 0, slots := 0, locals := 0 }) (va_Pc [.ref (b 0), .int (nI j), .int day, .int x] (fr_G D hCl (hTy cI cZ cJ cP cO) z b C)) (va_Qv (fun (u : Unit) => True) (fun u t => fr_G D hCl (hTy cI cZ cJ cP cO) z ((fun _ => b) u) ((fun _ => xAct b C cI cZ pg gr lf n an lc po ac dy dl j day x) u) t) (fr_A z)) 0 0 (fr_A z) := by
  refine Met.ofW (cc := b_X_act) (maxL := 4) (ret := none) (by decide) rfl ?_
  intro p e s m args below meth c s₁ B hml hv
  obtain ⟨rfl, hE, hK⟩ := hv
  have hx := B.exec
  have hb := B.bytes
  have hr := B.returns
  have hts := atoms_spec (ws := w_X_act) B.pre
  have hT : ∀ w ∈ hw_tbl, w.before _ s = true := fun w h => hts w (List.mem_cons_of_mem _ h)
  have hown : s.vm.findClass "HarvestSteps" = some m.cls := findClass_of_methodNamed B.named
  have hlocks := B.notSynchronized
  have hS : va_S (fr_A z) s.heap s.heap [] := va_S.rf
  have hl := lv_entry ([.ref (b 0), .int (nI j), .int day, .int x]) (n := 4) (Nat.le_of_ble_eq_true rfl)
  rw [lg_entry_eq]
  generalize (lg_sl ([.ref (b 0), .int (nI j), .int day, .int x]) ++ List.replicate (4 - (lg_sl ([.ref (b 0), .int (nI j), .int day, .int x])).length) Slot.unset).toArray = ls at hl ⊢
  have hl : lv_has ls 4 [(0, .ref (b 0)), (1, .int (nI j)), (2, .int day), (3, .int x)] := hl
  refine lv_aload_n hx hb d_X_act_0 rfl (lv_at hl 0 rfl) ?_
  refine lv_dup hx hb d_X_act_1 rfl ?_
  refine fr_get (ci := 0) (Cn := hR_0) (T := hF_0) (N := 16) hx hb hT hi_0 hown hK hE (0, 0) rfl h0 rfl 9 (by decide) (hT _ kw_96) (fun _ h9 => h9) rfl d_X_act_2 ?_
  refine lv_iconst (v := 1) hx hb d_X_act_5 (by decide) ?_
  refine lv_iadd hx hb d_X_act_6 ?_
  refine lv_topi (fun y_1 ey_1 => ?_)
  obtain rfl : y_1 = nI (an + 1) := ey_1.trans (nI_1 an)
  refine fr_put (ci := 0) (v := .int (nI (an + 1))) (ty := .int) (Cn := hR_0) (T := hF_0) (N := 16) hx hb hT hi_0 hy_0 ho_0 hn_0 hown hK hE hS (0, 0) rfl h0 rfl 9 (by decide) (hT _ kw_96) (fun _ h9 => h9) rfl (by decide +kernel) rfl rfl (Nat.le_of_ble_eq_true rfl) d_X_act_7 (fun H locs hE hS => ?_)
  refine lv_aload_n hx hb d_X_act_10 rfl (lv_at hl 0 rfl) ?_
  refine fr_get (ci := 0) (Cn := hR_0) (T := hF_0) (N := 16) hx hb hT hi_0 hown hK hE (0, 0) rfl rfl rfl 7 (by decide) (hT _ kw_94) (fun _ h9 => h9) rfl d_X_act_11 ?_
  refine lv_iload_n hx hb d_X_act_14 rfl (lv_at hl 1 rfl) ?_
  refine lv_aload_n hx hb d_X_act_15 rfl (lv_at hl 0 rfl) ?_
  refine fr_get (ci := 0) (Cn := hR_0) (T := hF_0) (N := 16) hx hb hT hi_0 hown hK hE (0, 0) rfl rfl rfl 9 (by decide) (hT _ kw_96) (fun _ h9 => h9) rfl d_X_act_16 ?_
  refine fr_iast hx hb hK hE hS (0, 5) 0 rfl h5 rfl j (rfl) (hj) (by decide) d_X_act_19 (fun H locs hE hS => ?_)
  refine lv_aload_n hx hb d_X_act_20 rfl (lv_at hl 0 rfl) ?_
  refine fr_get (ci := 0) (Cn := hR_0) (T := hF_0) (N := 16) hx hb hT hi_0 hown hK hE (0, 0) rfl rfl rfl 5 (by decide) (hT _ kw_92) (fun _ h9 => h9) rfl d_X_act_21 ?_
  refine lv_iload_n hx hb d_X_act_24 rfl (lv_at hl 1 rfl) ?_
  refine lv_iload_n hx hb d_X_act_25 rfl (lv_at hl 2 rfl) ?_
  refine fr_iast hx hb hK hE hS (0, 3) 0 rfl h3 rfl j (rfl) (hj) (by decide) d_X_act_26 (fun H locs hE hS => ?_)
  refine lv_aload_n hx hb d_X_act_27 rfl (lv_at hl 0 rfl) ?_
  refine fr_get (ci := 0) (Cn := hR_0) (T := hF_0) (N := 16) hx hb hT hi_0 hown hK hE (0, 0) rfl rfl rfl 6 (by decide) (hT _ kw_93) (fun _ h9 => h9) rfl d_X_act_28 ?_
  refine lv_iload_n hx hb d_X_act_31 rfl (lv_at hl 1 rfl) ?_
  refine lv_iload_n hx hb d_X_act_32 rfl (lv_at hl 3 rfl) ?_
  refine fr_zast hx hb hK hE hS (0, 4) 1 rfl h4 rfl j (rfl) (hj) (by decide) x (hxx) d_X_act_33 (fun H locs hE hS => ?_)
  refine W.widen (k := 0) (n := 0) (Nat.le_of_ble_eq_true rfl) (Nat.le_of_ble_eq_true rfl) ?_
  exact W.vret hx hb hr (fun t9 ht9 hW9 => ⟨⟨(), rfl, trivial, ⟨by rw [ht9]; exact hE, va_K.moved hW9.alike hK⟩⟩, hS.F ht9⟩) hS.2.2 d_X_act_34
end
section
/-- what record does, where it is not refused -/
def xRec (b : Nat → Nat) (C : fr_C) (cI cZ : ClassId) (pg gr lf n an lc po : Nat) (st ac dy dl : Nat → Int32) (set day : Int32) : fr_C :=
  xAct b (fr_up (fr_up C (0, 0) (.inr (0, fX b pg gr lf (n + 1) an lc po))) (0, 2) (.inl (cI, 150, .inl (upd st n set)))) cI cZ pg gr lf (n + 1) an lc po ac dy dl n day 0
set_option maxHeartbeats 4000000 in
set_option maxRecDepth 100000 in
theorem c_X_record (l : Launch) {D : va_G} {z : Nat} {b : Nat → Nat} {C : fr_C} {H9 : Heap} (h9 : fr_W D hCl z b C H9) {cI cZ cJ cP cO : ClassId} {pg gr lf n an lc po : Nat} {st : Nat → Int32} {dy : Nat → Int32} {dl : Nat → Int32} {ac : Nat → Int32} (h0 : C (0, 0) = some (.inr (0, fX b pg gr lf n an lc po))) (h2 : C (0, 2) = some (.inl (cI, 150, .inl st))) (h3 : C (0, 3) = some (.inl (cI, 150, .inl dy))) (h4 : C (0, 4) = some (.inl (cZ, 150, .inl dl))) (h5 : C (0, 5) = some (.inl (cI, 150, .inl ac))) (hn : n ≤ 150) (hg : 1 ≤ gr ∧ gr ≤ 100) (set day : Int32) : Met l y_X_record w_X_record ({ frames := 1, cells := 0, slots := 0, locals := 23 }) (va_Pc [.ref (b 0), .int set, .int day] (fr_G D hCl (hTy cI cZ cJ cP cO) z b C)) (va_Qi (fun (r : Int32) (u : fr_C) => (¬ (inN set 10 ∧ okDay gr day) ∧ r = -2 ∧ u = C) ∨ ((inN set 10 ∧ okDay gr day) ∧ 150 ≤ n ∧ r = -4 ∧ u = C) ∨ ((inN set 10 ∧ okDay gr day) ∧ n < 150 ∧ r = nI n ∧ u = xRec b C cI cZ pg gr lf n an lc po st ac dy dl set day)) (fun u t => fr_G D hCl (hTy cI cZ cJ cP cO) z ((fun _ => b) u) ((fun u => u) u) t) (fr_A z)) 0 0 (fr_A z) := by
  refine Met.ofW (cc := b_X_record) (maxL := 4) (ret := (some .int)) (by decide) rfl ?_
  intro p e s m args below meth c s₁ B hml hv
  obtain ⟨rfl, hE, hK⟩ := hv
  have hx := B.exec
  have hb := B.bytes
  have hr := B.returns
  have hts := atoms_spec (ws := w_X_record) B.pre
  have hT : ∀ w ∈ hw_tbl, w.before _ s = true := fun w h => hts w (List.mem_cons_of_mem _ h)
  have hown : s.vm.findClass "HarvestSteps" = some m.cls := findClass_of_methodNamed B.named
  have hlocks := B.notSynchronized
  have hS : va_S (fr_A z) s.heap s.heap [] := va_S.rf
  have hl := lv_entry ([.ref (b 0), .int set, .int day]) (n := 4) (Nat.le_of_ble_eq_true rfl)
  rw [lg_entry_eq]
  generalize (lg_sl ([.ref (b 0), .int set, .int day]) ++ List.replicate (4 - (lg_sl ([.ref (b 0), .int set, .int day])).length) Slot.unset).toArray = ls at hl ⊢
  have hl : lv_has ls 4 [(0, .ref (b 0)), (1, .int set), (2, .int day)] := hl
  refine lv_iload_n hx hb d_X_record_0 rfl (lv_at hl 1 rfl) ?_
  refine fr_calli (va_runS (As := [.int set]) (rest := []) ⟨hx, hb, hml, hown, hts⟩ (c_X_isSet l hE set) (va_cwS 1 hts (hw_goodS kw_140 kw_141 kw_21 kw_142) rfl rfl rfl (by decide +kernel) ⟨Nat.le_of_ble_eq_true rfl, Nat.le_of_ble_eq_true rfl⟩) ⟨fr_blind, fr_pre hE hK⟩ rfl rfl hl.1 rfl (lv_room (Nat.le_of_ble_eq_true rfl)) d_X_record_1 ⟨Nat.le_of_ble_eq_true rfl, Nat.le_of_ble_eq_true rfl⟩) hS (fun r_1 u_1 H locs w_1 hE hS => ?_)
  rcases w_1 with ⟨rfl, pw_1⟩ | ⟨rfl, pw_1⟩
  · skip
    refine lv_if_eq (tgt := 15) hx hb d_X_record_4 (by decide) (fun c_2 => ?_) (fun c_2 => ?_)
    · skip
      exact absurd c_2 (by decide)
    · skip
      refine lv_aload_n hx hb d_X_record_7 rfl (lv_at hl 0 rfl) ?_
      refine lv_iload_n hx hb d_X_record_8 rfl (lv_at hl 2 rfl) ?_
      refine fr_calli (va_runV (As := [.int day]) (rest := []) ⟨hx, hb, hml, hown, hts⟩ (c_X_canBeDay l hE h0 hg day) (cwV 1 hts (hw_goodV kw_143 kw_145 kw_0 kw_21 kw_146) rfl rfl rfl (by decide +kernel) ⟨Nat.le_of_ble_eq_true rfl, Nat.le_of_ble_eq_true rfl⟩) ⟨fr_blind, fr_recv hK hE (0, 0) rfl h0 (ci := 0) rfl, fr_pre hE hK⟩ rfl rfl hl.1 rfl (lv_room (Nat.le_of_ble_eq_true rfl)) d_X_record_9 ⟨Nat.le_of_ble_eq_true rfl, Nat.le_of_ble_eq_true rfl⟩) hS (fun r_3 u_3 H locs w_3 hE hS => ?_)
      rcases w_3 with ⟨rfl, pw_3⟩ | ⟨rfl, pw_3⟩
      · skip
        refine lv_if_ne (tgt := 18) hx hb d_X_record_12 (by decide) (fun c_4 => ?_) (fun c_4 => ?_)
        · skip
          refine lv_aload_n hx hb d_X_record_18 rfl (lv_at hl 0 rfl) ?_
          refine fr_get (ci := 0) (Cn := hR_0) (T := hF_0) (N := 16) hx hb hT hi_0 hown hK hE (0, 0) rfl h0 rfl 8 (by decide) (hT _ kw_95) (fun _ h9 => h9) rfl d_X_record_19 ?_
          refine lv_sipush (v := 150) hx hb d_X_record_22 (by decide) ?_
          refine lv_icmp_lt (tgt := 31) hx hb d_X_record_25 (by decide) (fun c_5 => ?_) (fun c_5 => ?_)
          · skip
            have k_c_5 : n < 150 := (nI_ltI (by omega) (by decide)).mp c_5
            refine lv_aload_n hx hb d_X_record_31 rfl (lv_at hl 0 rfl) ?_
            refine fr_get (ci := 0) (Cn := hR_0) (T := hF_0) (N := 16) hx hb hT hi_0 hown hK hE (0, 0) rfl h0 rfl 8 (by decide) (hT _ kw_95) (fun _ h9 => h9) rfl d_X_record_32 ?_
            refine lv_istore_n (lv' := [(3, .int (nI n)), (0, .ref (b 0)), (1, .int set), (2, .int day)]) hx hb d_X_record_35 rfl hl (by decide) rfl (fun ls hl => ?_)
            refine lv_aload_n hx hb d_X_record_36 rfl (lv_at hl 1 rfl) ?_
            refine lv_dup hx hb d_X_record_37 rfl ?_
            refine fr_get (ci := 0) (Cn := hR_0) (T := hF_0) (N := 16) hx hb hT hi_0 hown hK hE (0, 0) rfl h0 rfl 8 (by decide) (hT _ kw_95) (fun _ h9 => h9) rfl d_X_record_38 ?_
            refine lv_iconst (v := 1) hx hb d_X_record_41 (by decide) ?_
            refine lv_iadd hx hb d_X_record_42 ?_
            refine lv_topi (fun y_6 ey_6 => ?_)
            obtain rfl : y_6 = nI (n + 1) := ey_6.trans (nI_1 n)
            refine fr_put (ci := 0) (v := .int (nI (n + 1))) (ty := .int) (Cn := hR_0) (T := hF_0) (N := 16) hx hb hT hi_0 hy_0 ho_0 hn_0 hown hK hE hS (0, 0) rfl h0 rfl 8 (by decide) (hT _ kw_95) (fun _ h9 => h9) rfl (by decide +kernel) rfl rfl (Nat.le_of_ble_eq_true rfl) d_X_record_43 (fun H locs hE hS => ?_)
            refine lv_aload_n hx hb d_X_record_46 rfl (lv_at hl 1 rfl) ?_
            refine fr_get (ci := 0) (Cn := hR_0) (T := hF_0) (N := 16) hx hb hT hi_0 hown hK hE (0, 0) rfl rfl rfl 4 (by decide) (hT _ kw_91) (fun _ h9 => h9) rfl d_X_record_47 ?_
            refine lv_iload_n hx hb d_X_record_50 rfl (lv_at hl 0 rfl) ?_
            refine lv_iload_n hx hb d_X_record_51 rfl (lv_at hl 2 rfl) ?_
            refine fr_iast hx hb hK hE hS (0, 2) 0 rfl h2 rfl n (rfl) (k_c_5) (by decide) d_X_record_52 (fun H locs hE hS => ?_)
            refine lv_aload_n hx hb d_X_record_53 rfl (lv_at hl 1 rfl) ?_
            refine lv_iload_n hx hb d_X_record_54 rfl (lv_at hl 0 rfl) ?_
            refine lv_iload_n hx hb d_X_record_55 rfl (lv_at hl 3 rfl) ?_
            refine lv_iconst (v := 0) hx hb d_X_record_56 (by decide) ?_
            refine fr_callv (va_runV (As := [.int (nI n), .int day, .int 0]) (rest := []) ⟨hx, hb, hml, hown, hts⟩ (c_X_act l hE (pg := pg) (gr := gr) (lf := lf) (n := n + 1) (an := an) (lc := lc) (po := po) rfl h3 h4 h5 n k_c_5 day 0 (by decide)) (cwV 3 hts (hw_goodV kw_147 kw_149 kw_1 kw_21 kw_150) rfl rfl rfl (by decide +kernel) ⟨Nat.le_of_ble_eq_true rfl, Nat.le_of_ble_eq_true rfl⟩) ⟨fr_blind, fr_recv hK hE (0, 0) rfl rfl (ci := 0) rfl, fr_pre hE hK⟩ rfl rfl hl.1 rfl (lv_room (Nat.le_of_ble_eq_true rfl)) d_X_record_57 ⟨Nat.le_of_ble_eq_true rfl, Nat.le_of_ble_eq_true rfl⟩) hS (fun u_7 H locs w_7 hE hS => ?_)
            refine lv_iload_n hx hb d_X_record_60 rfl (lv_at hl 0 rfl) ?_
            refine W.widen (k := 0) (n := 0) (Nat.le_of_ble_eq_true rfl) (Nat.le_of_ble_eq_true rfl) ?_
            exact W.iret (v := nI n) hx hb hr (fun t9 ht9 hW9 => ⟨⟨nI n, _, rfl, Or.inr (Or.inr ⟨⟨pw_1, pw_3⟩, k_c_5, rfl, rfl⟩), ⟨by rw [ht9]; exact hE, va_K.moved hW9.alike hK⟩⟩, hS.F ht9⟩) hS.2.2 d_X_record_61
          · skip
            have k_c_5 : 150 ≤ n := by rcases Nat.lt_or_ge n 150 with q | q; exact absurd (nI_lt q (by decide)) c_5; exact q
            refine lv_bipush (v := (-4)) hx hb d_X_record_28 (by decide) ?_
            refine W.widen (k := 0) (n := 0) (Nat.le_of_ble_eq_true rfl) (Nat.le_of_ble_eq_true rfl) ?_
            exact W.iret (v := (-4)) hx hb hr (fun t9 ht9 hW9 => ⟨⟨(-4), _, rfl, Or.inr (Or.inl ⟨⟨pw_1, pw_3⟩, k_c_5, rfl, rfl⟩), ⟨by rw [ht9]; exact hE, va_K.moved hW9.alike hK⟩⟩, hS.F ht9⟩) hS.2.2 d_X_record_30
        · skip
          exact absurd c_4 (by decide)
      · skip
        refine lv_if_ne (tgt := 18) hx hb d_X_record_12 (by decide) (fun c_8 => ?_) (fun c_8 => ?_)
        · skip
          exact absurd c_8 (by decide)
        · skip
          refine lv_bipush (v := (-2)) hx hb d_X_record_15 (by decide) ?_
          refine W.widen (k := 0) (n := 0) (Nat.le_of_ble_eq_true rfl) (Nat.le_of_ble_eq_true rfl) ?_
          exact W.iret (v := (-2)) hx hb hr (fun t9 ht9 hW9 => ⟨⟨(-2), _, rfl, Or.inl ⟨fun q => pw_3 q.2, rfl, rfl⟩, ⟨by rw [ht9]; exact hE, va_K.moved hW9.alike hK⟩⟩, hS.F ht9⟩) hS.2.2 d_X_record_17
  · skip
    refine lv_if_eq (tgt := 15) hx hb d_X_record_4 (by decide) (fun c_9 => ?_) (fun c_9 => ?_)
    · skip
      refine lv_bipush (v := (-2)) hx hb d_X_record_15 (by decide) ?_
      refine W.widen (k := 0) (n := 0) (Nat.le_of_ble_eq_true rfl) (Nat.le_of_ble_eq_true rfl) ?_
      exact W.iret (v := (-2)) hx hb hr (fun t9 ht9 hW9 => ⟨⟨(-2), _, rfl, Or.inl ⟨fun q => pw_1 q.1, rfl, rfl⟩, ⟨by rw [ht9]; exact hE, va_K.moved hW9.alike hK⟩⟩, hS.F ht9⟩) hS.2.2 d_X_record_17
    · skip
      exact absurd c_9 (by decide)
set_option maxHeartbeats 4000000 in
set_option maxRecDepth 100000 in
theorem c_X_change (l : Launch) {D : va_G} {z : Nat} {b : Nat → Nat} {C : fr_C} {H9 : Heap} (h9 : fr_W D hCl z b C H9) {cI cZ cJ cP cO : ClassId} {pg gr lf n an lc po : Nat} {dy : Nat → Int32} {dl : Nat → Int32} {ac : Nat → Int32} (h0 : C (0, 0) = some (.inr (0, fX b pg gr lf n an lc po))) (h3 : C (0, 3) = some (.inl (cI, 150, .inl dy))) (h4 : C (0, 4) = some (.inl (cZ, 150, .inl dl))) (h5 : C (0, 5) = some (.inl (cI, 150, .inl ac))) (hn : n ≤ 150) (hg : 1 ≤ gr ∧ gr ≤ 100) (rc day : Int32) : Met l y_X_change w_X_change ({ frames := 1, cells := 0, slots := 0, locals := 23 }) (va_Pc [.ref (b 0), .int rc, .int day] (fr_G D hCl (hTy cI cZ cJ cP cO) z b C)) (va_Qi (fun (r : Int32) (u : fr_C) => (¬ inN rc n ∧ r = -1 ∧ u = C) ∨ (inN rc n ∧ ¬ okDay gr day ∧ r = -2 ∧ u = C) ∨ (∃ j : Nat, j < n ∧ rc = nI j ∧ okDay gr day ∧ (((day < dy j) ∧ r = -3 ∧ u = C) ∨ (¬ (day < dy j) ∧ r = 1 ∧ u = xAct b C cI cZ pg gr lf n an lc po ac dy dl j day 0)))) (fun u t => fr_G D hCl (hTy cI cZ cJ cP cO) z ((fun _ => b) u) ((fun u => u) u) t) (fr_A z)) 0 0 (fr_A z) := by
  refine Met.ofW (cc := b_X_change) (maxL := 3) (ret := (some .int)) (by decide) rfl ?_
  intro p e s m args below meth c s₁ B hml hv
  obtain ⟨rfl, hE, hK⟩ := hv
  have hx := B.exec
  have hb := B.bytes
  have hr := B.returns
  have hts := atoms_spec (ws := w_X_change) B.pre
  have hT : ∀ w ∈ hw_tbl, w.before _ s = true := fun w h => hts w (List.mem_cons_of_mem _ h)
  have hown : s.vm.findClass "HarvestSteps" = some m.cls := findClass_of_methodNamed B.named
  have hlocks := B.notSynchronized
  have hS : va_S (fr_A z) s.heap s.heap [] := va_S.rf
  have hl := lv_entry ([.ref (b 0), .int rc, .int day]) (n := 3) (Nat.le_of_ble_eq_true rfl)
  rw [lg_entry_eq]
  generalize (lg_sl ([.ref (b 0), .int rc, .int day]) ++ List.replicate (3 - (lg_sl ([.ref (b 0), .int rc, .int day])).length) Slot.unset).toArray = ls at hl ⊢
  have hl : lv_has ls 3 [(0, .ref (b 0)), (1, .int rc), (2, .int day)] := hl
  refine lv_aload_n hx hb d_X_change_0 rfl (lv_at hl 0 rfl) ?_
  refine lv_iload_n hx hb d_X_change_1 rfl (lv_at hl 1 rfl) ?_
  refine fr_calli (va_runV (As := [.int rc]) (rest := []) ⟨hx, hb, hml, hown, hts⟩ (c_X_isRecord l hE h0 hn rc) (cwV 1 hts (hw_goodV kw_155 kw_157 kw_2 kw_21 kw_158) rfl rfl rfl (by decide +kernel) ⟨Nat.le_of_ble_eq_true rfl, Nat.le_of_ble_eq_true rfl⟩) ⟨fr_blind, fr_recv hK hE (0, 0) rfl h0 (ci := 0) rfl, fr_pre hE hK⟩ rfl rfl hl.1 rfl (lv_room (Nat.le_of_ble_eq_true rfl)) d_X_change_2 ⟨Nat.le_of_ble_eq_true rfl, Nat.le_of_ble_eq_true rfl⟩) hS (fun r_1 u_1 H locs w_1 hE hS => ?_)
  rcases w_1 with ⟨rfl, pw_1⟩ | ⟨rfl, pw_1⟩
  · skip
    obtain ⟨j_1, hj_1, rfl⟩ := pw_1
    refine lv_if_ne (tgt := 10) hx hb d_X_change_5 (by decide) (fun c_2 => ?_) (fun c_2 => ?_)
    · skip
      refine lv_aload_n hx hb d_X_change_10 rfl (lv_at hl 0 rfl) ?_
      refine lv_iload_n hx hb d_X_change_11 rfl (lv_at hl 2 rfl) ?_
      refine fr_calli (va_runV (As := [.int day]) (rest := []) ⟨hx, hb, hml, hown, hts⟩ (c_X_canBeDay l hE h0 hg day) (cwV 1 hts (hw_goodV kw_143 kw_145 kw_0 kw_21 kw_146) rfl rfl rfl (by decide +kernel) ⟨Nat.le_of_ble_eq_true rfl, Nat.le_of_ble_eq_true rfl⟩) ⟨fr_blind, fr_recv hK hE (0, 0) rfl h0 (ci := 0) rfl, fr_pre hE hK⟩ rfl rfl hl.1 rfl (lv_room (Nat.le_of_ble_eq_true rfl)) d_X_change_12 ⟨Nat.le_of_ble_eq_true rfl, Nat.le_of_ble_eq_true rfl⟩) hS (fun r_3 u_3 H locs w_3 hE hS => ?_)
      rcases w_3 with ⟨rfl, pw_3⟩ | ⟨rfl, pw_3⟩
      · skip
        refine lv_if_ne (tgt := 21) hx hb d_X_change_15 (by decide) (fun c_4 => ?_) (fun c_4 => ?_)
        · skip
          refine lv_iload_n hx hb d_X_change_21 rfl (lv_at hl 2 rfl) ?_
          refine lv_aload_n hx hb d_X_change_22 rfl (lv_at hl 0 rfl) ?_
          refine fr_get (ci := 0) (Cn := hR_0) (T := hF_0) (N := 16) hx hb hT hi_0 hown hK hE (0, 0) rfl h0 rfl 5 (by decide) (hT _ kw_92) (fun _ h9 => h9) rfl d_X_change_23 ?_
          refine lv_iload_n hx hb d_X_change_26 rfl (lv_at hl 1 rfl) ?_
          refine fr_iald hx hb hK hE (0, 3) 0 rfl h3 rfl j_1 (rfl) (by omega) (by decide) d_X_change_27 ?_
          refine lv_icmp_ge (tgt := 34) hx hb d_X_change_28 (by decide) (fun c_5 => ?_) (fun c_5 => ?_)
          · skip
            refine lv_aload_n hx hb d_X_change_34 rfl (lv_at hl 0 rfl) ?_
            refine lv_iload_n hx hb d_X_change_35 rfl (lv_at hl 1 rfl) ?_
            refine lv_iload_n hx hb d_X_change_36 rfl (lv_at hl 2 rfl) ?_
            refine lv_iconst (v := 0) hx hb d_X_change_37 (by decide) ?_
            refine fr_callv (va_runV (As := [.int (nI j_1), .int day, .int 0]) (rest := []) ⟨hx, hb, hml, hown, hts⟩ (c_X_act l hE (pg := pg) (gr := gr) (lf := lf) (n := n) (an := an) (lc := lc) (po := po) h0 h3 h4 h5 j_1 (by omega) day 0 (by decide)) (cwV 3 hts (hw_goodV kw_147 kw_149 kw_1 kw_21 kw_150) rfl rfl rfl (by decide +kernel) ⟨Nat.le_of_ble_eq_true rfl, Nat.le_of_ble_eq_true rfl⟩) ⟨fr_blind, fr_recv hK hE (0, 0) rfl h0 (ci := 0) rfl, fr_pre hE hK⟩ rfl rfl hl.1 rfl (lv_room (Nat.le_of_ble_eq_true rfl)) d_X_change_38 ⟨Nat.le_of_ble_eq_true rfl, Nat.le_of_ble_eq_true rfl⟩) hS (fun u_6 H locs w_6 hE hS => ?_)
            refine lv_iconst (v := 1) hx hb d_X_change_41 (by decide) ?_
            refine W.widen (k := 0) (n := 0) (Nat.le_of_ble_eq_true rfl) (Nat.le_of_ble_eq_true rfl) ?_
            exact W.iret (v := 1) hx hb hr (fun t9 ht9 hW9 => ⟨⟨1, _, rfl, Or.inr (Or.inr ⟨j_1, hj_1, rfl, pw_3, Or.inr ⟨Int32.not_lt.mpr c_5, rfl, rfl⟩⟩), ⟨by rw [ht9]; exact hE, va_K.moved hW9.alike hK⟩⟩, hS.F ht9⟩) hS.2.2 d_X_change_42
          · skip
            refine lv_bipush (v := (-3)) hx hb d_X_change_31 (by decide) ?_
            refine W.widen (k := 0) (n := 0) (Nat.le_of_ble_eq_true rfl) (Nat.le_of_ble_eq_true rfl) ?_
            exact W.iret (v := (-3)) hx hb hr (fun t9 ht9 hW9 => ⟨⟨(-3), _, rfl, Or.inr (Or.inr ⟨j_1, hj_1, rfl, pw_3, Or.inl ⟨Int32.not_le.mp c_5, rfl, rfl⟩⟩), ⟨by rw [ht9]; exact hE, va_K.moved hW9.alike hK⟩⟩, hS.F ht9⟩) hS.2.2 d_X_change_33
        · skip
          exact absurd c_4 (by decide)
      · skip
        refine lv_if_ne (tgt := 21) hx hb d_X_change_15 (by decide) (fun c_7 => ?_) (fun c_7 => ?_)
        · skip
          exact absurd c_7 (by decide)
        · skip
          refine lv_bipush (v := (-2)) hx hb d_X_change_18 (by decide) ?_
          refine W.widen (k := 0) (n := 0) (Nat.le_of_ble_eq_true rfl) (Nat.le_of_ble_eq_true rfl) ?_
          exact W.iret (v := (-2)) hx hb hr (fun t9 ht9 hW9 => ⟨⟨(-2), _, rfl, Or.inr (Or.inl ⟨⟨j_1, hj_1, rfl⟩, pw_3, rfl, rfl⟩), ⟨by rw [ht9]; exact hE, va_K.moved hW9.alike hK⟩⟩, hS.F ht9⟩) hS.2.2 d_X_change_20
    · skip
      exact absurd c_2 (by decide)
  · skip
    refine lv_if_ne (tgt := 10) hx hb d_X_change_5 (by decide) (fun c_8 => ?_) (fun c_8 => ?_)
    · skip
      exact absurd c_8 (by decide)
    · skip
      refine lv_iconst (v := (-1)) hx hb d_X_change_8 (by decide) ?_
      refine W.widen (k := 0) (n := 0) (Nat.le_of_ble_eq_true rfl) (Nat.le_of_ble_eq_true rfl) ?_
      exact W.iret (v := (-1)) hx hb hr (fun t9 ht9 hW9 => ⟨⟨(-1), _, rfl, Or.inl ⟨pw_1, rfl, rfl⟩, ⟨by rw [ht9]; exact hE, va_K.moved hW9.alike hK⟩⟩, hS.F ht9⟩) hS.2.2 d_X_change_9
set_option maxHeartbeats 4000000 in
set_option maxRecDepth 100000 in
theorem c_X_delete (l : Launch) {D : va_G} {z : Nat} {b : Nat → Nat} {C : fr_C} {H9 : Heap} (h9 : fr_W D hCl z b C H9) {cI cZ cJ cP cO : ClassId} {pg gr lf n an lc po : Nat} {dy : Nat → Int32} {dl : Nat → Int32} {ac : Nat → Int32} (h0 : C (0, 0) = some (.inr (0, fX b pg gr lf n an lc po))) (h3 : C (0, 3) = some (.inl (cI, 150, .inl dy))) (h4 : C (0, 4) = some (.inl (cZ, 150, .inl dl))) (h5 : C (0, 5) = some (.inl (cI, 150, .inl ac))) (hn : n ≤ 150) (hg : 1 ≤ gr ∧ gr ≤ 100) (rc day : Int32) : Met l y_X_delete w_X_delete ({ frames := 1, cells := 0, slots := 0, locals := 23 }) (va_Pc [.ref (b 0), .int rc, .int day] (fr_G D hCl (hTy cI cZ cJ cP cO) z b C)) (va_Qi (fun (r : Int32) (u : fr_C) => (¬ inN rc n ∧ r = -1 ∧ u = C) ∨ (inN rc n ∧ ¬ okDay gr day ∧ r = -2 ∧ u = C) ∨ (∃ j : Nat, j < n ∧ rc = nI j ∧ okDay gr day ∧ (((¬ dl j = 0 ∨ day < dy j) ∧ r = -3 ∧ u = C) ∨ (¬ (¬ dl j = 0 ∨ day < dy j) ∧ r = 1 ∧ u = xAct b C cI cZ pg gr lf n an lc po ac dy dl j day 1)))) (fun u t => fr_G D hCl (hTy cI cZ cJ cP cO) z ((fun _ => b) u) ((fun u => u) u) t) (fr_A z)) 0 0 (fr_A z) := by
  refine Met.ofW (cc := b_X_delete) (maxL := 3) (ret := (some .int)) (by decide) rfl ?_
  intro p e s m args below meth c s₁ B hml hv
  obtain ⟨rfl, hE, hK⟩ := hv
  have hx := B.exec
  have hb := B.bytes
  have hr := B.returns
  have hts := atoms_spec (ws := w_X_delete) B.pre
  have hT : ∀ w ∈ hw_tbl, w.before _ s = true := fun w h => hts w (List.mem_cons_of_mem _ h)
  have hown : s.vm.findClass "HarvestSteps" = some m.cls := findClass_of_methodNamed B.named
  have hlocks := B.notSynchronized
  have hS : va_S (fr_A z) s.heap s.heap [] := va_S.rf
  have hl := lv_entry ([.ref (b 0), .int rc, .int day]) (n := 3) (Nat.le_of_ble_eq_true rfl)
  rw [lg_entry_eq]
  generalize (lg_sl ([.ref (b 0), .int rc, .int day]) ++ List.replicate (3 - (lg_sl ([.ref (b 0), .int rc, .int day])).length) Slot.unset).toArray = ls at hl ⊢
  have hl : lv_has ls 3 [(0, .ref (b 0)), (1, .int rc), (2, .int day)] := hl
  refine lv_aload_n hx hb d_X_delete_0 rfl (lv_at hl 0 rfl) ?_
  refine lv_iload_n hx hb d_X_delete_1 rfl (lv_at hl 1 rfl) ?_
  refine fr_calli (va_runV (As := [.int rc]) (rest := []) ⟨hx, hb, hml, hown, hts⟩ (c_X_isRecord l hE h0 hn rc) (cwV 1 hts (hw_goodV kw_155 kw_157 kw_2 kw_21 kw_158) rfl rfl rfl (by decide +kernel) ⟨Nat.le_of_ble_eq_true rfl, Nat.le_of_ble_eq_true rfl⟩) ⟨fr_blind, fr_recv hK hE (0, 0) rfl h0 (ci := 0) rfl, fr_pre hE hK⟩ rfl rfl hl.1 rfl (lv_room (Nat.le_of_ble_eq_true rfl)) d_X_delete_2 ⟨Nat.le_of_ble_eq_true rfl, Nat.le_of_ble_eq_true rfl⟩) hS (fun r_1 u_1 H locs w_1 hE hS => ?_)
  rcases w_1 with ⟨rfl, pw_1⟩ | ⟨rfl, pw_1⟩
  · skip
    obtain ⟨j_1, hj_1, rfl⟩ := pw_1
    refine lv_if_ne (tgt := 10) hx hb d_X_delete_5 (by decide) (fun c_2 => ?_) (fun c_2 => ?_)
    · skip
      refine lv_aload_n hx hb d_X_delete_10 rfl (lv_at hl 0 rfl) ?_
      refine lv_iload_n hx hb d_X_delete_11 rfl (lv_at hl 2 rfl) ?_
      refine fr_calli (va_runV (As := [.int day]) (rest := []) ⟨hx, hb, hml, hown, hts⟩ (c_X_canBeDay l hE h0 hg day) (cwV 1 hts (hw_goodV kw_143 kw_145 kw_0 kw_21 kw_146) rfl rfl rfl (by decide +kernel) ⟨Nat.le_of_ble_eq_true rfl, Nat.le_of_ble_eq_true rfl⟩) ⟨fr_blind, fr_recv hK hE (0, 0) rfl h0 (ci := 0) rfl, fr_pre hE hK⟩ rfl rfl hl.1 rfl (lv_room (Nat.le_of_ble_eq_true rfl)) d_X_delete_12 ⟨Nat.le_of_ble_eq_true rfl, Nat.le_of_ble_eq_true rfl⟩) hS (fun r_3 u_3 H locs w_3 hE hS => ?_)
      rcases w_3 with ⟨rfl, pw_3⟩ | ⟨rfl, pw_3⟩
      · skip
        refine lv_if_ne (tgt := 21) hx hb d_X_delete_15 (by decide) (fun c_4 => ?_) (fun c_4 => ?_)
        · skip
          refine lv_aload_n hx hb d_X_delete_21 rfl (lv_at hl 0 rfl) ?_
          refine fr_get (ci := 0) (Cn := hR_0) (T := hF_0) (N := 16) hx hb hT hi_0 hown hK hE (0, 0) rfl h0 rfl 6 (by decide) (hT _ kw_93) (fun _ h9 => h9) rfl d_X_delete_22 ?_
          refine lv_iload_n hx hb d_X_delete_25 rfl (lv_at hl 1 rfl) ?_
          refine fr_zald hx hb hK hE (0, 4) 1 rfl h4 rfl j_1 (rfl) (by omega) (by decide) d_X_delete_26 ?_
          refine lv_if_ne (tgt := 40) hx hb d_X_delete_27 (by decide) (fun c_5 => ?_) (fun c_5 => ?_)
          · skip
            refine lv_bipush (v := (-3)) hx hb d_X_delete_40 (by decide) ?_
            refine W.widen (k := 0) (n := 0) (Nat.le_of_ble_eq_true rfl) (Nat.le_of_ble_eq_true rfl) ?_
            exact W.iret (v := (-3)) hx hb hr (fun t9 ht9 hW9 => ⟨⟨(-3), _, rfl, Or.inr (Or.inr ⟨j_1, hj_1, rfl, pw_3, Or.inl ⟨Or.inl c_5, rfl, rfl⟩⟩), ⟨by rw [ht9]; exact hE, va_K.moved hW9.alike hK⟩⟩, hS.F ht9⟩) hS.2.2 d_X_delete_42
          · skip
            refine lv_iload_n hx hb d_X_delete_30 rfl (lv_at hl 2 rfl) ?_
            refine lv_aload_n hx hb d_X_delete_31 rfl (lv_at hl 0 rfl) ?_
            refine fr_get (ci := 0) (Cn := hR_0) (T := hF_0) (N := 16) hx hb hT hi_0 hown hK hE (0, 0) rfl h0 rfl 5 (by decide) (hT _ kw_92) (fun _ h9 => h9) rfl d_X_delete_32 ?_
            refine lv_iload_n hx hb d_X_delete_35 rfl (lv_at hl 1 rfl) ?_
            refine fr_iald hx hb hK hE (0, 3) 0 rfl h3 rfl j_1 (rfl) (by omega) (by decide) d_X_delete_36 ?_
            refine lv_icmp_ge (tgt := 43) hx hb d_X_delete_37 (by decide) (fun c_6 => ?_) (fun c_6 => ?_)
            · skip
              refine lv_aload_n hx hb d_X_delete_43 rfl (lv_at hl 0 rfl) ?_
              refine lv_iload_n hx hb d_X_delete_44 rfl (lv_at hl 1 rfl) ?_
              refine lv_iload_n hx hb d_X_delete_45 rfl (lv_at hl 2 rfl) ?_
              refine lv_iconst (v := 1) hx hb d_X_delete_46 (by decide) ?_
              refine fr_callv (va_runV (As := [.int (nI j_1), .int day, .int 1]) (rest := []) ⟨hx, hb, hml, hown, hts⟩ (c_X_act l hE (pg := pg) (gr := gr) (lf := lf) (n := n) (an := an) (lc := lc) (po := po) h0 h3 h4 h5 j_1 (by omega) day 1 (by decide)) (cwV 3 hts (hw_goodV kw_147 kw_149 kw_1 kw_21 kw_150) rfl rfl rfl (by decide +kernel) ⟨Nat.le_of_ble_eq_true rfl, Nat.le_of_ble_eq_true rfl⟩) ⟨fr_blind, fr_recv hK hE (0, 0) rfl h0 (ci := 0) rfl, fr_pre hE hK⟩ rfl rfl hl.1 rfl (lv_room (Nat.le_of_ble_eq_true rfl)) d_X_delete_47 ⟨Nat.le_of_ble_eq_true rfl, Nat.le_of_ble_eq_true rfl⟩) hS (fun u_7 H locs w_7 hE hS => ?_)
              refine lv_iconst (v := 1) hx hb d_X_delete_50 (by decide) ?_
              refine W.widen (k := 0) (n := 0) (Nat.le_of_ble_eq_true rfl) (Nat.le_of_ble_eq_true rfl) ?_
              exact W.iret (v := 1) hx hb hr (fun t9 ht9 hW9 => ⟨⟨1, _, rfl, Or.inr (Or.inr ⟨j_1, hj_1, rfl, pw_3, Or.inr ⟨fun q => q.elim (fun q => q c_5) (Int32.not_lt.mpr c_6), rfl, rfl⟩⟩), ⟨by rw [ht9]; exact hE, va_K.moved hW9.alike hK⟩⟩, hS.F ht9⟩) hS.2.2 d_X_delete_51
            · skip
              refine lv_bipush (v := (-3)) hx hb d_X_delete_40 (by decide) ?_
              refine W.widen (k := 0) (n := 0) (Nat.le_of_ble_eq_true rfl) (Nat.le_of_ble_eq_true rfl) ?_
              exact W.iret (v := (-3)) hx hb hr (fun t9 ht9 hW9 => ⟨⟨(-3), _, rfl, Or.inr (Or.inr ⟨j_1, hj_1, rfl, pw_3, Or.inl ⟨Or.inr (Int32.not_le.mp c_6), rfl, rfl⟩⟩), ⟨by rw [ht9]; exact hE, va_K.moved hW9.alike hK⟩⟩, hS.F ht9⟩) hS.2.2 d_X_delete_42
        · skip
          exact absurd c_4 (by decide)
      · skip
        refine lv_if_ne (tgt := 21) hx hb d_X_delete_15 (by decide) (fun c_8 => ?_) (fun c_8 => ?_)
        · skip
          exact absurd c_8 (by decide)
        · skip
          refine lv_bipush (v := (-2)) hx hb d_X_delete_18 (by decide) ?_
          refine W.widen (k := 0) (n := 0) (Nat.le_of_ble_eq_true rfl) (Nat.le_of_ble_eq_true rfl) ?_
          exact W.iret (v := (-2)) hx hb hr (fun t9 ht9 hW9 => ⟨⟨(-2), _, rfl, Or.inr (Or.inl ⟨⟨j_1, hj_1, rfl⟩, pw_3, rfl, rfl⟩), ⟨by rw [ht9]; exact hE, va_K.moved hW9.alike hK⟩⟩, hS.F ht9⟩) hS.2.2 d_X_delete_20
    · skip
      exact absurd c_2 (by decide)
  · skip
    refine lv_if_ne (tgt := 10) hx hb d_X_delete_5 (by decide) (fun c_9 => ?_) (fun c_9 => ?_)
    · skip
      exact absurd c_9 (by decide)
    · skip
      refine lv_iconst (v := (-1)) hx hb d_X_delete_8 (by decide) ?_
      refine W.widen (k := 0) (n := 0) (Nat.le_of_ble_eq_true rfl) (Nat.le_of_ble_eq_true rfl) ?_
      exact W.iret (v := (-1)) hx hb hr (fun t9 ht9 hW9 => ⟨⟨(-1), _, rfl, Or.inl ⟨pw_1, rfl, rfl⟩, ⟨by rw [ht9]; exact hE, va_K.moved hW9.alike hK⟩⟩, hS.F ht9⟩) hS.2.2 d_X_delete_9
set_option maxHeartbeats 4000000 in
set_option maxRecDepth 100000 in
theorem c_X_form (l : Launch) {D : va_G} {z : Nat} {b : Nat → Nat} {C : fr_C} {H9 : Heap} (h9 : fr_W D hCl z b C H9) {cI cZ cJ cP cO : ClassId} {pg gr lf n an lc po : Nat} {hd : Nat → Int32} (h0 : C (0, 0) = some (.inr (0, fX b pg gr lf n an lc po))) (h1 : C (0, 1) = some (.inl (cZ, 6, .inl hd))) (f x : Int32) (hxx : vp_nar .boolean x = x) : Met l y_X_form w_X_form ({ frames := 1, cells := 0, slots := 0, locals := 20 }) (va_Pc [.ref (b 0), .int f, .int x] (fr_G D hCl (hTy cI cZ cJ cP cO) z b C)) (va_Qi (fun (r : Int32) (u : fr_C) => (¬ inN f 6 ∧ r = -2 ∧ u = C) ∨ (∃ j : Nat, j < 6 ∧ f = nI j ∧ r = 1 ∧ u = fr_up C (0, 1) (.inl (cZ, 6, .inl (upd hd j x))))) (fun u t => fr_G D hCl (hTy cI cZ cJ cP cO) z ((fun _ => b) u) ((fun u => u) u) t) (fr_A z)) 0 0 (fr_A z) := by
  refine Met.ofW (cc := b_X_form) (maxL := 3) (ret := (some .int)) (by decide) rfl ?_
  intro p e s m args below meth c s₁ B hml hv
  obtain ⟨rfl, hE, hK⟩ := hv
  have hx := B.exec
  have hb := B.bytes
  have hr := B.returns
  have hts := atoms_spec (ws := w_X_form) B.pre
  have hT : ∀ w ∈ hw_tbl, w.before _ s = true := fun w h => hts w (List.mem_cons_of_mem _ h)
  have hown : s.vm.findClass "HarvestSteps" = some m.cls := findClass_of_methodNamed B.named
  have hlocks := B.notSynchronized
  have hS : va_S (fr_A z) s.heap s.heap [] := va_S.rf
  have hl := lv_entry ([.ref (b 0), .int f, .int x]) (n := 3) (Nat.le_of_ble_eq_true rfl)
  rw [lg_entry_eq]
  generalize (lg_sl ([.ref (b 0), .int f, .int x]) ++ List.replicate (3 - (lg_sl ([.ref (b 0), .int f, .int x])).length) Slot.unset).toArray = ls at hl ⊢
  have hl : lv_has ls 3 [(0, .ref (b 0)), (1, .int f), (2, .int x)] := hl
  refine lv_iload_n hx hb d_X_form_0 rfl (lv_at hl 1 rfl) ?_
  refine fr_calli (va_runS (As := [.int f]) (rest := []) ⟨hx, hb, hml, hown, hts⟩ (c_X_isForm l hE f) (va_cwS 1 hts (hw_goodS kw_167 kw_168 kw_21 kw_169) rfl rfl rfl (by decide +kernel) ⟨Nat.le_of_ble_eq_true rfl, Nat.le_of_ble_eq_true rfl⟩) ⟨fr_blind, fr_pre hE hK⟩ rfl rfl hl.1 rfl (lv_room (Nat.le_of_ble_eq_true rfl)) d_X_form_1 ⟨Nat.le_of_ble_eq_true rfl, Nat.le_of_ble_eq_true rfl⟩) hS (fun r_1 u_1 H locs w_1 hE hS => ?_)
  rcases w_1 with ⟨rfl, pw_1⟩ | ⟨rfl, pw_1⟩
  · skip
    obtain ⟨j_1, hj_1, rfl⟩ := pw_1
    refine lv_if_ne (tgt := 10) hx hb d_X_form_4 (by decide) (fun c_2 => ?_) (fun c_2 => ?_)
    · skip
      refine lv_aload_n hx hb d_X_form_10 rfl (lv_at hl 0 rfl) ?_
      refine fr_get (ci := 0) (Cn := hR_0) (T := hF_0) (N := 16) hx hb hT hi_0 hown hK hE (0, 0) rfl h0 rfl 3 (by decide) (hT _ kw_90) (fun _ h9 => h9) rfl d_X_form_11 ?_
      refine lv_iload_n hx hb d_X_form_14 rfl (lv_at hl 1 rfl) ?_
      refine lv_iload_n hx hb d_X_form_15 rfl (lv_at hl 2 rfl) ?_
      refine fr_zast hx hb hK hE hS (0, 1) 1 rfl h1 rfl j_1 (rfl) (hj_1) (by decide) x (hxx) d_X_form_16 (fun H locs hE hS => ?_)
      refine lv_iconst (v := 1) hx hb d_X_form_17 (by decide) ?_
      refine W.widen (k := 0) (n := 0) (Nat.le_of_ble_eq_true rfl) (Nat.le_of_ble_eq_true rfl) ?_
      exact W.iret (v := 1) hx hb hr (fun t9 ht9 hW9 => ⟨⟨1, _, rfl, Or.inr ⟨j_1, hj_1, rfl, rfl, rfl⟩, ⟨by rw [ht9]; exact hE, va_K.moved hW9.alike hK⟩⟩, hS.F ht9⟩) hS.2.2 d_X_form_18
    · skip
      exact absurd c_2 (by decide)
  · skip
    refine lv_if_ne (tgt := 10) hx hb d_X_form_4 (by decide) (fun c_3 => ?_) (fun c_3 => ?_)
    · skip
      exact absurd c_3 (by decide)
    · skip
      refine lv_bipush (v := (-2)) hx hb d_X_form_7 (by decide) ?_
      refine W.widen (k := 0) (n := 0) (Nat.le_of_ble_eq_true rfl) (Nat.le_of_ble_eq_true rfl) ?_
      exact W.iret (v := (-2)) hx hb hr (fun t9 ht9 hW9 => ⟨⟨(-2), _, rfl, Or.inl ⟨pw_1, rfl, rfl⟩, ⟨by rw [ht9]; exact hE, va_K.moved hW9.alike hK⟩⟩, hS.F ht9⟩) hS.2.2 d_X_form_9
set_option maxHeartbeats 4000000 in
set_option maxRecDepth 100000 in
theorem c_X_get (l : Launch) {D : va_G} {z : Nat} {b : Nat → Nat} {C : fr_C} {H9 : Heap} (h9 : fr_W D hCl z b C H9) {cI cZ cJ cP cO : ClassId} {pg gr lf n an lc po : Nat} {hd : Nat → Int32} {dy : Nat → Int32} {dl : Nat → Int32} (h0 : C (0, 0) = some (.inr (0, fX b pg gr lf n an lc po))) (h1 : C (0, 1) = some (.inl (cZ, 6, .inl hd))) (h3 : C (0, 3) = some (.inl (cI, 150, .inl dy))) (h4 : C (0, 4) = some (.inl (cZ, 150, .inl dl))) (hn : n ≤ 150) (rc f : Int32) : Met l y_X_get w_X_get ({ frames := 2, cells := 0, slots := 0, locals := 41 }) (va_Pc [.ref (b 0), .int rc, .int f] (fr_G D hCl (hTy cI cZ cJ cP cO) z b C)) (va_Qi (fun (r : Int32) (u : Unit) => (¬ isHeldP hd f ∧ r = -12) ∨ (isHeldP hd f ∧ ¬ inN rc n ∧ r = -16) ∨ (isHeldP hd f ∧ ∃ j : Nat, j < n ∧ rc = nI j ∧ r = if dl j = 0 then dy j else -20 - dy j)) (fun u t => fr_G D hCl (hTy cI cZ cJ cP cO) z ((fun _ => b) u) ((fun _ => C) u) t) (fr_A z)) 0 0 (fr_A z) := by
  refine Met.ofW (cc := b_X_get) (maxL := 3) (ret := (some .int)) (by decide) rfl ?_
  intro p e s m args below meth c s₁ B hml hv
  obtain ⟨rfl, hE, hK⟩ := hv
  have hx := B.exec
  have hb := B.bytes
  have hr := B.returns
  have hts := atoms_spec (ws := w_X_get) B.pre
  have hT : ∀ w ∈ hw_tbl, w.before _ s = true := fun w h => hts w (List.mem_cons_of_mem _ h)
  have hown : s.vm.findClass "HarvestSteps" = some m.cls := findClass_of_methodNamed B.named
  have hlocks := B.notSynchronized
  have hS : va_S (fr_A z) s.heap s.heap [] := va_S.rf
  have hl := lv_entry ([.ref (b 0), .int rc, .int f]) (n := 3) (Nat.le_of_ble_eq_true rfl)
  rw [lg_entry_eq]
  generalize (lg_sl ([.ref (b 0), .int rc, .int f]) ++ List.replicate (3 - (lg_sl ([.ref (b 0), .int rc, .int f])).length) Slot.unset).toArray = ls at hl ⊢
  have hl : lv_has ls 3 [(0, .ref (b 0)), (1, .int rc), (2, .int f)] := hl
  refine lv_aload_n hx hb d_X_get_0 rfl (lv_at hl 0 rfl) ?_
  refine lv_iload_n hx hb d_X_get_1 rfl (lv_at hl 2 rfl) ?_
  refine fr_calli (va_runV (As := [.int f]) (rest := []) ⟨hx, hb, hml, hown, hts⟩ (c_X_isHeld l hE h0 h1 f) (cwV 1 hts (hw_goodV kw_181 kw_183 kw_3 kw_21 kw_184) rfl rfl rfl (by decide +kernel) ⟨Nat.le_of_ble_eq_true rfl, Nat.le_of_ble_eq_true rfl⟩) ⟨fr_blind, fr_recv hK hE (0, 0) rfl h0 (ci := 0) rfl, fr_pre hE hK⟩ rfl rfl hl.1 rfl (lv_room (Nat.le_of_ble_eq_true rfl)) d_X_get_2 ⟨Nat.le_of_ble_eq_true rfl, Nat.le_of_ble_eq_true rfl⟩) hS (fun r_1 u_1 H locs w_1 hE hS => ?_)
  rcases w_1 with ⟨rfl, pw_1⟩ | ⟨rfl, pw_1⟩
  · skip
    refine lv_if_ne (tgt := 11) hx hb d_X_get_5 (by decide) (fun c_2 => ?_) (fun c_2 => ?_)
    · skip
      refine lv_aload_n hx hb d_X_get_11 rfl (lv_at hl 0 rfl) ?_
      refine lv_iload_n hx hb d_X_get_12 rfl (lv_at hl 1 rfl) ?_
      refine fr_calli (va_runV (As := [.int rc]) (rest := []) ⟨hx, hb, hml, hown, hts⟩ (c_X_isRecord l hE h0 hn rc) (cwV 1 hts (hw_goodV kw_155 kw_157 kw_2 kw_21 kw_158) rfl rfl rfl (by decide +kernel) ⟨Nat.le_of_ble_eq_true rfl, Nat.le_of_ble_eq_true rfl⟩) ⟨fr_blind, fr_recv hK hE (0, 0) rfl h0 (ci := 0) rfl, fr_pre hE hK⟩ rfl rfl hl.1 rfl (lv_room (Nat.le_of_ble_eq_true rfl)) d_X_get_13 ⟨Nat.le_of_ble_eq_true rfl, Nat.le_of_ble_eq_true rfl⟩) hS (fun r_3 u_3 H locs w_3 hE hS => ?_)
      rcases w_3 with ⟨rfl, pw_3⟩ | ⟨rfl, pw_3⟩
      · skip
        obtain ⟨j_1, hj_1, rfl⟩ := pw_3
        refine lv_if_ne (tgt := 22) hx hb d_X_get_16 (by decide) (fun c_4 => ?_) (fun c_4 => ?_)
        · skip
          refine lv_aload_n hx hb d_X_get_22 rfl (lv_at hl 0 rfl) ?_
          refine fr_get (ci := 0) (Cn := hR_0) (T := hF_0) (N := 16) hx hb hT hi_0 hown hK hE (0, 0) rfl h0 rfl 6 (by decide) (hT _ kw_93) (fun _ h9 => h9) rfl d_X_get_23 ?_
          refine lv_iload_n hx hb d_X_get_26 rfl (lv_at hl 1 rfl) ?_
          refine fr_zald hx hb hK hE (0, 4) 1 rfl h4 rfl j_1 (rfl) (by omega) (by decide) d_X_get_27 ?_
          refine lv_if_eq (tgt := 43) hx hb d_X_get_28 (by decide) (fun c_5 => ?_) (fun c_5 => ?_)
          · skip
            refine lv_aload_n hx hb d_X_get_43 rfl (lv_at hl 0 rfl) ?_
            refine fr_get (ci := 0) (Cn := hR_0) (T := hF_0) (N := 16) hx hb hT hi_0 hown hK hE (0, 0) rfl h0 rfl 5 (by decide) (hT _ kw_92) (fun _ h9 => h9) rfl d_X_get_44 ?_
            refine lv_iload_n hx hb d_X_get_47 rfl (lv_at hl 1 rfl) ?_
            refine fr_iald hx hb hK hE (0, 3) 0 rfl h3 rfl j_1 (rfl) (by omega) (by decide) d_X_get_48 ?_
            refine W.widen (k := 0) (n := 0) (Nat.le_of_ble_eq_true rfl) (Nat.le_of_ble_eq_true rfl) ?_
            exact W.iret (v := dy j_1) hx hb hr (fun t9 ht9 hW9 => ⟨⟨dy j_1, (), rfl, Or.inr (Or.inr ⟨pw_1, j_1, hj_1, rfl, by rw [if_pos c_5]⟩), ⟨by rw [ht9]; exact hE, va_K.moved hW9.alike hK⟩⟩, hS.F ht9⟩) hS.2.2 d_X_get_49
          · skip
            refine lv_bipush (v := (-20)) hx hb d_X_get_31 (by decide) ?_
            refine lv_aload_n hx hb d_X_get_33 rfl (lv_at hl 0 rfl) ?_
            refine fr_get (ci := 0) (Cn := hR_0) (T := hF_0) (N := 16) hx hb hT hi_0 hown hK hE (0, 0) rfl h0 rfl 5 (by decide) (hT _ kw_92) (fun _ h9 => h9) rfl d_X_get_34 ?_
            refine lv_iload_n hx hb d_X_get_37 rfl (lv_at hl 1 rfl) ?_
            refine fr_iald hx hb hK hE (0, 3) 0 rfl h3 rfl j_1 (rfl) (by omega) (by decide) d_X_get_38 ?_
            refine lv_isub hx hb d_X_get_39 ?_
            refine lv_goto (tgt := 49) hx hb d_X_get_40 (by decide) ?_
            refine W.widen (k := 0) (n := 0) (Nat.le_of_ble_eq_true rfl) (Nat.le_of_ble_eq_true rfl) ?_
            exact W.iret (v := (-20) - (dy j_1)) hx hb hr (fun t9 ht9 hW9 => ⟨⟨(-20) - (dy j_1), (), rfl, Or.inr (Or.inr ⟨pw_1, j_1, hj_1, rfl, by rw [if_neg c_5]⟩), ⟨by rw [ht9]; exact hE, va_K.moved hW9.alike hK⟩⟩, hS.F ht9⟩) hS.2.2 d_X_get_49
        · skip
          exact absurd c_4 (by decide)
      · skip
        refine lv_if_ne (tgt := 22) hx hb d_X_get_16 (by decide) (fun c_6 => ?_) (fun c_6 => ?_)
        · skip
          exact absurd c_6 (by decide)
        · skip
          refine lv_bipush (v := (-16)) hx hb d_X_get_19 (by decide) ?_
          refine W.widen (k := 0) (n := 0) (Nat.le_of_ble_eq_true rfl) (Nat.le_of_ble_eq_true rfl) ?_
          exact W.iret (v := (-16)) hx hb hr (fun t9 ht9 hW9 => ⟨⟨(-16), (), rfl, Or.inr (Or.inl ⟨pw_1, pw_3, rfl⟩), ⟨by rw [ht9]; exact hE, va_K.moved hW9.alike hK⟩⟩, hS.F ht9⟩) hS.2.2 d_X_get_21
    · skip
      exact absurd c_2 (by decide)
  · skip
    refine lv_if_ne (tgt := 11) hx hb d_X_get_5 (by decide) (fun c_7 => ?_) (fun c_7 => ?_)
    · skip
      exact absurd c_7 (by decide)
    · skip
      refine lv_bipush (v := (-12)) hx hb d_X_get_8 (by decide) ?_
      refine W.widen (k := 0) (n := 0) (Nat.le_of_ble_eq_true rfl) (Nat.le_of_ble_eq_true rfl) ?_
      exact W.iret (v := (-12)) hx hb hr (fun t9 ht9 hW9 => ⟨⟨(-12), (), rfl, Or.inl ⟨pw_1, rfl⟩, ⟨by rw [ht9]; exact hE, va_K.moved hW9.alike hK⟩⟩, hS.F ht9⟩) hS.2.2 d_X_get_10
set_option maxHeartbeats 4000000 in
set_option maxRecDepth 100000 in
theorem c_X_counted (l : Launch) {D : va_G} {z : Nat} {b : Nat → Nat} {C : fr_C} {H9 : Heap} (h9 : fr_W D hCl z b C H9) {cI cZ cJ cP cO : ClassId} {pg gr lf n an lc po : Nat} {cs : Nat → Int32} (h0 : C (0, 0) = some (.inr (0, fX b pg gr lf n an lc po))) (h9a : C (0, 9) = some (.inl (cI, 10, .inl cs))) (h : Int32) : Met l y_X_counted w_X_counted ({ frames := 1, cells := 0, slots := 0, locals := 20 }) (va_Pc [.ref (b 0), .int h] (fr_G D hCl (hTy cI cZ cJ cP cO) z b C)) (va_Qi (fun (r : Int32) (u : Unit) => (¬ inN h 10 ∧ r = -1) ∨ (∃ j : Nat, j < 10 ∧ h = nI j ∧ r = cs j)) (fun u t => fr_G D hCl (hTy cI cZ cJ cP cO) z ((fun _ => b) u) ((fun _ => C) u) t) (fr_A z)) 0 0 (fr_A z) := by
  refine Met.ofW (cc := b_X_counted) (maxL := 2) (ret := (some .int)) (by decide) rfl ?_
  intro p e s m args below meth c s₁ B hml hv
  obtain ⟨rfl, hE, hK⟩ := hv
  have hx := B.exec
  have hb := B.bytes
  have hr := B.returns
  have hts := atoms_spec (ws := w_X_counted) B.pre
  have hT : ∀ w ∈ hw_tbl, w.before _ s = true := fun w h => hts w (List.mem_cons_of_mem _ h)
  have hown : s.vm.findClass "HarvestSteps" = some m.cls := findClass_of_methodNamed B.named
  have hlocks := B.notSynchronized
  have hS : va_S (fr_A z) s.heap s.heap [] := va_S.rf
  have hl := lv_entry ([.ref (b 0), .int h]) (n := 2) (Nat.le_of_ble_eq_true rfl)
  rw [lg_entry_eq]
  generalize (lg_sl ([.ref (b 0), .int h]) ++ List.replicate (2 - (lg_sl ([.ref (b 0), .int h])).length) Slot.unset).toArray = ls at hl ⊢
  have hl : lv_has ls 2 [(0, .ref (b 0)), (1, .int h)] := hl
  refine lv_iload_n hx hb d_X_counted_0 rfl (lv_at hl 1 rfl) ?_
  refine fr_calli (va_runS (As := [.int h]) (rest := []) ⟨hx, hb, hml, hown, hts⟩ (c_X_isHarvester l hE h) (va_cwS 1 hts (hw_goodS kw_174 kw_175 kw_21 kw_176) rfl rfl rfl (by decide +kernel) ⟨Nat.le_of_ble_eq_true rfl, Nat.le_of_ble_eq_true rfl⟩) ⟨fr_blind, fr_pre hE hK⟩ rfl rfl hl.1 rfl (lv_room (Nat.le_of_ble_eq_true rfl)) d_X_counted_1 ⟨Nat.le_of_ble_eq_true rfl, Nat.le_of_ble_eq_true rfl⟩) hS (fun r_1 u_1 H locs w_1 hE hS => ?_)
  rcases w_1 with ⟨rfl, pw_1⟩ | ⟨rfl, pw_1⟩
  · skip
    obtain ⟨j_1, hj_1, rfl⟩ := pw_1
    refine lv_if_eq (tgt := 16) hx hb d_X_counted_4 (by decide) (fun c_2 => ?_) (fun c_2 => ?_)
    · skip
      exact absurd c_2 (by decide)
    · skip
      refine lv_aload_n hx hb d_X_counted_7 rfl (lv_at hl 0 rfl) ?_
      refine fr_get (ci := 0) (Cn := hR_0) (T := hF_0) (N := 16) hx hb hT hi_0 hown hK hE (0, 0) rfl h0 rfl 14 (by decide) (hT _ kw_101) (fun _ h9 => h9) rfl d_X_counted_8 ?_
      refine lv_iload_n hx hb d_X_counted_11 rfl (lv_at hl 1 rfl) ?_
      refine fr_iald hx hb hK hE (0, 9) 0 rfl h9a rfl j_1 (rfl) (hj_1) (by decide) d_X_counted_12 ?_
      refine lv_goto (tgt := 17) hx hb d_X_counted_13 (by decide) ?_
      refine W.widen (k := 0) (n := 0) (Nat.le_of_ble_eq_true rfl) (Nat.le_of_ble_eq_true rfl) ?_
      exact W.iret (v := cs j_1) hx hb hr (fun t9 ht9 hW9 => ⟨⟨cs j_1, (), rfl, Or.inr ⟨j_1, hj_1, rfl, rfl⟩, ⟨by rw [ht9]; exact hE, va_K.moved hW9.alike hK⟩⟩, hS.F ht9⟩) hS.2.2 d_X_counted_17
  · skip
    refine lv_if_eq (tgt := 16) hx hb d_X_counted_4 (by decide) (fun c_3 => ?_) (fun c_3 => ?_)
    · skip
      refine lv_iconst (v := (-1)) hx hb d_X_counted_16 (by decide) ?_
      refine W.widen (k := 0) (n := 0) (Nat.le_of_ble_eq_true rfl) (Nat.le_of_ble_eq_true rfl) ?_
      exact W.iret (v := (-1)) hx hb hr (fun t9 ht9 hW9 => ⟨⟨(-1), (), rfl, Or.inl ⟨pw_1, rfl⟩, ⟨by rw [ht9]; exact hE, va_K.moved hW9.alike hK⟩⟩, hS.F ht9⟩) hS.2.2 d_X_counted_17
    · skip
      exact absurd c_3 (by decide)
set_option maxHeartbeats 4000000 in
set_option maxRecDepth 100000 in
theorem c_X_passed (l : Launch) {D : va_G} {z : Nat} {b : Nat → Nat} {C : fr_C} {H9 : Heap} (h9 : fr_W D hCl z b C H9) {cI cZ cJ cP cO : ClassId} {pg gr lf n an lc po : Nat}  (h0 : C (0, 0) = some (.inr (0, fX b pg gr lf n an lc po)))   : Met l y_X_passed w_X_passed ({ frames := 0, cells := 0, slots := 0, locals := 0 }) (va_Pc [.ref (b 0)] (fr_G D hCl (hTy cI cZ cJ cP cO) z b C)) (va_Qi (fun (r : Int32) (u : Unit) => r = nI po) (fun u t => fr_G D hCl (hTy cI cZ cJ cP cO) z ((fun _ => b) u) ((fun _ => C) u) t) (fr_A z)) 0 0 (fr_A z) := by
  refine Met.ofW (cc := b_X_passed) (maxL := 1) (ret := (some .int)) (by decide) rfl ?_
  intro p e s m args below meth c s₁ B hml hv
  obtain ⟨rfl, hE, hK⟩ := hv
  have hx := B.exec
  have hb := B.bytes
  have hr := B.returns
  have hts := atoms_spec (ws := w_X_passed) B.pre
  have hT : ∀ w ∈ hw_tbl, w.before _ s = true := fun w h => hts w (List.mem_cons_of_mem _ h)
  have hown : s.vm.findClass "HarvestSteps" = some m.cls := findClass_of_methodNamed B.named
  have hlocks := B.notSynchronized
  have hS : va_S (fr_A z) s.heap s.heap [] := va_S.rf
  have hl := lv_entry ([.ref (b 0)]) (n := 1) (Nat.le_of_ble_eq_true rfl)
  rw [lg_entry_eq]
  generalize (lg_sl ([.ref (b 0)]) ++ List.replicate (1 - (lg_sl ([.ref (b 0)])).length) Slot.unset).toArray = ls at hl ⊢
  have hl : lv_has ls 1 [(0, .ref (b 0))] := hl
  refine lv_aload_n hx hb d_X_passed_0 rfl (lv_at hl 0 rfl) ?_
  refine fr_get (ci := 0) (Cn := hR_0) (T := hF_0) (N := 16) hx hb hT hi_0 hown hK hE (0, 0) rfl h0 rfl 15 (by decide) (hT _ kw_102) (fun _ h9 => h9) rfl d_X_passed_1 ?_
  refine W.widen (k := 0) (n := 0) (Nat.le_of_ble_eq_true rfl) (Nat.le_of_ble_eq_true rfl) ?_
  exact W.iret (v := nI po) hx hb hr (fun t9 ht9 hW9 => ⟨⟨nI po, (), rfl, rfl, ⟨by rw [ht9]; exact hE, va_K.moved hW9.alike hK⟩⟩, hS.F ht9⟩) hS.2.2 d_X_passed_4
end
section
theorem psF_0 {dy : Nat → Int32} {x : Nat} {L : Nat → Nat} {t : Nat} (h : nI t ≤ 0) (ht : t < 2 ^ 31) : psF dy x L t = t := by
  have : t = 0 := by
    rcases Nat.eq_zero_or_pos t with q | q
    · exact q
    · exact absurd h (nI_nle q ht)
  subst this
  rfl
theorem psF_s {dy : Nat → Int32} {x : Nat} {L : Nat → Nat} {m : Nat} (h : dy (L m) ≤ dy x) : psF dy x L (m + 1) = m + 1 := by
  unfold psF
  rw [if_neg (Int32.not_lt.mpr h)]
theorem psF_n {dy : Nat → Int32} {x : Nat} {L : Nat → Nat} {m : Nat} (h : ¬ dy (L m) ≤ dy x) : psF dy x L (m + 1) = psF dy x L m := by
  conv => lhs; unfold psF
  rw [if_pos (Int32.not_le.mp h)]
theorem ins_fin {dy : Nat → Int32} {x : Nat} {L : Nat → Nat} {k t off : Nat} {od : Nat → Int32} (hp : psF dy x L k = t) (htk : t ≤ k) (h1 : ∀ j, j < t → od (off + j) = nI (L j)) (h2 : ∀ j, t ≤ j → j < k → od (off + (j + 1)) = nI (L j)) : ∀ j, j < k + 1 → upd od (off + t) (nI x) (off + j) = nI (insF dy x L k j) := by
  intro j hj
  unfold insF
  rw [hp]
  rcases Nat.lt_trichotomy j t with q | q | q
  · rw [if_pos q, pk_un (by omega)]
    exact h1 j q
  · subst q
    rw [if_neg (Nat.lt_irrefl _), if_pos rfl]
    exact pk_us
  · rw [if_neg (by omega), if_neg (by omega), pk_un (by omega)]
    have := h2 (j - 1) (by omega) (by omega)
    rwa [show j - 1 + 1 = j by omega] at this
theorem nI_pos_of {t : Nat} (h : ¬ nI t ≤ 0) : ∃ m, t = m + 1 := by
  cases t with
  | zero => exact absurd (by rw [nI_0]; exact Int32.le_refl 0) h
  | succ m => exact ⟨m, rfl⟩
set_option maxHeartbeats 4000000 in
set_option maxRecDepth 100000 in
theorem c_X_insertByDay (l : Launch) {D : va_G} {z : Nat} {b : Nat → Nat} {C : fr_C} {H9 : Heap} (h9 : fr_W D hCl z b C H9) {cI cZ cJ cP cO : ClassId} {pg gr lf n an lc po : Nat} {dy : Nat → Int32} {od : Nat → Int32} (h0 : C (0, 0) = some (.inr (0, fX b pg gr lf n an lc po))) (h3 : C (0, 3) = some (.inl (cI, 150, .inl dy))) (h6 : C (0, 6) = some (.inl (cI, 150, .inl od))) (L : Nat → Nat) (x1 k : Nat) (hx1 : x1 < 150) (hk : k < 150) (hL : ∀ j, j < k → od j = nI (L j) ∧ L j < 150) : Met l y_X_insertByDay w_X_insertByDay ({ frames := 0, cells := 0, slots := 0, locals := 0 }) (va_Pc [.ref (b 0), .int (nI x1), .int (nI k)] (fr_G D hCl (hTy cI cZ cJ cP cO) z b C)) (va_Qv (fun (u : Nat → Int32) => ∀ j, j < k + 1 → u j = nI (insF dy x1 L k j)) (fun u t => fr_G D hCl (hTy cI cZ cJ cP cO) z ((fun _ => b) u) ((fun u => fr_up C (0, 6) (.inl (cI, 150, .inl u))) u) t) (fr_A z)) 0 0 (fr_A z) := by
  refine Met.ofW (cc := b_X_insertByDay) (maxL := 4) (ret := none) (by decide) rfl ?_
  intro p e s m args below meth c s₁ B hml hv
  obtain ⟨rfl, hE, hK⟩ := hv
  have hx := B.exec
  have hb := B.bytes
  have hr := B.returns
  have hts := atoms_spec (ws := w_X_insertByDay) B.pre
  have hT : ∀ w ∈ hw_tbl, w.before _ s = true := fun w h => hts w (List.mem_cons_of_mem _ h)
  have hown : s.vm.findClass "HarvestSteps" = some m.cls := findClass_of_methodNamed B.named
  have hlocks := B.notSynchronized
  have hS : va_S (fr_A z) s.heap s.heap [] := va_S.rf
  have hl := lv_entry ([.ref (b 0), .int (nI x1), .int (nI k)]) (n := 4) (Nat.le_of_ble_eq_true rfl)
  rw [lg_entry_eq]
  generalize (lg_sl ([.ref (b 0), .int (nI x1), .int (nI k)]) ++ List.replicate (4 - (lg_sl ([.ref (b 0), .int (nI x1), .int (nI k)])).length) Slot.unset).toArray = ls at hl ⊢
  have hl : lv_has ls 4 [(0, .ref (b 0)), (1, .int (nI x1)), (2, .int (nI k))] := hl
  refine lv_iload_n hx hb d_X_insertByDay_0 rfl (lv_at hl 2 rfl) ?_
  refine lv_istore_n (lv' := [(3, .int (nI k)), (0, .ref (b 0)), (1, .int (nI x1)), (2, .int (nI k))]) hx hb d_X_insertByDay_1 rfl hl (by decide) rfl (fun ls hl => ?_)
  rw [← fr_up_same h6] at hE
  refine W.widen (k := 0) (n := 0) (Nat.le_of_ble_eq_true rfl) (Nat.le_of_ble_eq_true rfl) ?_
  have ai0 : (k + 1) = k + 1 := rfl
  have ai1 : k ≤ k := Nat.le_refl k
  have ai2 : ∀ j, j < k → od j = nI (L j) := fun j hj => (hL j hj).1
  have ai3 : ∀ j, k ≤ j → j < k → od (j + 1) = nI (L j) := fun j h1 h2 => absurd h2 (by omega)
  have ai4 : psF dy x1 L k = psF dy x1 L k := rfl
  refine fr_loop (σ := Nat × (Nat → Int32)) (fun n9 x H locs ls => (n9 = x.1 + 1) ∧ (x.1 ≤ k) ∧ (∀ j, j < x.1 → x.2 j = nI (L j)) ∧ (∀ j, x.1 ≤ j → j < k → x.2 (j + 1) = nI (L j)) ∧ (psF dy x1 L k = psF dy x1 L x.1) ∧ fr_W D hCl z b (fr_up C (0, 6) (.inl (cI, 150, .inl x.2))) H ∧ va_S (fr_A z) s.heap H locs ∧ lv_has ls 4 [(3, .int (nI x.1)), (0, .ref (b 0)), (1, .int (nI x1)), (2, .int (nI k))]) (fun x H locs ls h => by obtain ⟨h1, h2, -⟩ := h; omega) (fun n9 x H locs ls hI ih => ?_) (k + 1) (k, od) _ _ _ ⟨ai0, ai1, ai2, ai3, ai4, hE, hS, lv_sub hl [0, 1, 2, 3] rfl⟩
  obtain ⟨t, od1⟩ := x
  obtain ⟨i0, i1, i2, i3, i4, hE, hS, hl⟩ := hI
  replace i0 : (n9 + 1) = t + 1 := i0
  replace i1 : t ≤ k := i1
  replace i2 : ∀ j, j < t → od1 j = nI (L j) := i2
  replace i3 : ∀ j, t ≤ j → j < k → od1 (j + 1) = nI (L j) := i3
  replace i4 : psF dy x1 L k = psF dy x1 L t := i4
  replace hE : fr_W D hCl z b (fr_up C (0, 6) (.inl (cI, 150, .inl od1))) H := hE
  replace hl : lv_has ls 4 [(3, .int (nI t)), (0, .ref (b 0)), (1, .int (nI x1)), (2, .int (nI k))] := hl
  refine lv_iload_n hx hb d_X_insertByDay_2 rfl (lv_at hl 0 rfl) ?_
  refine lv_if_le (tgt := 48) hx hb d_X_insertByDay_3 (by decide) (fun c_1 => ?_) (fun c_1 => ?_)
  · skip
    refine lv_aload_n hx hb d_X_insertByDay_48 rfl (lv_at hl 1 rfl) ?_
    refine fr_get (ci := 0) (Cn := hR_0) (T := hF_0) (N := 16) hx hb hT hi_0 hown hK hE (0, 0) rfl h0 rfl 10 (by decide) (hT _ kw_97) (fun _ h9 => h9) rfl d_X_insertByDay_49 ?_
    refine lv_iload_n hx hb d_X_insertByDay_52 rfl (lv_at hl 0 rfl) ?_
    refine lv_iload_n hx hb d_X_insertByDay_53 rfl (lv_at hl 2 rfl) ?_
    refine fr_iast hx hb hK hE hS (0, 6) 0 rfl rfl rfl t (rfl) (by omega) (by decide) d_X_insertByDay_54 (fun H locs hE hS => ?_)
    rw [fr_up_up] at hE
    refine W.widen (k := 0) (n := 0) (Nat.le_of_ble_eq_true rfl) (Nat.le_of_ble_eq_true rfl) ?_
    exact W.vret hx hb hr (fun t9 ht9 hW9 => ⟨⟨upd od1 (t) (nI x1), rfl, (fun j hj => by have := ins_fin (off := 0) (od := od1) (t := t) (i4.trans (psF_0 c_1 (by omega))) (by omega) (fun j hj => by rw [Nat.zero_add]; exact i2 j hj) (fun j h1 h2 => by rw [Nat.zero_add]; exact i3 j h1 h2) j hj; rw [Nat.zero_add, Nat.zero_add] at this; exact this), ⟨by rw [ht9]; exact hE, va_K.moved hW9.alike hK⟩⟩, hS.F ht9⟩) hS.2.2 d_X_insertByDay_55
  · skip
    obtain ⟨m_1, rfl⟩ := nI_pos_of c_1
    have hm_1 := i2 m_1 (by omega)
    have hm_2 := (hL m_1 (by omega)).2
    refine lv_aload_n hx hb d_X_insertByDay_6 rfl (lv_at hl 1 rfl) ?_
    refine fr_get (ci := 0) (Cn := hR_0) (T := hF_0) (N := 16) hx hb hT hi_0 hown hK hE (0, 0) rfl h0 rfl 5 (by decide) (hT _ kw_92) (fun _ h9 => h9) rfl d_X_insertByDay_7 ?_
    refine lv_aload_n hx hb d_X_insertByDay_10 rfl (lv_at hl 1 rfl) ?_
    refine fr_get (ci := 0) (Cn := hR_0) (T := hF_0) (N := 16) hx hb hT hi_0 hown hK hE (0, 0) rfl h0 rfl 10 (by decide) (hT _ kw_97) (fun _ h9 => h9) rfl d_X_insertByDay_11 ?_
    refine lv_iload_n hx hb d_X_insertByDay_14 rfl (lv_at hl 0 rfl) ?_
    refine lv_iconst (v := 1) hx hb d_X_insertByDay_15 (by decide) ?_
    refine lv_isub hx hb d_X_insertByDay_16 ?_
    refine lv_topi (fun y_2 ey_2 => ?_)
    obtain rfl : y_2 = nI m_1 := ey_2.trans (nI_pred m_1)
    refine fr_iald hx hb hK hE (0, 6) 0 rfl rfl rfl m_1 (rfl) (by omega) (by decide) d_X_insertByDay_17 ?_
    refine fr_iald hx hb hK hE (0, 3) 0 rfl h3 rfl (L m_1) (hm_1) (hm_2) (by decide) d_X_insertByDay_18 ?_
    refine lv_aload_n hx hb d_X_insertByDay_19 rfl (lv_at hl 1 rfl) ?_
    refine fr_get (ci := 0) (Cn := hR_0) (T := hF_0) (N := 16) hx hb hT hi_0 hown hK hE (0, 0) rfl h0 rfl 5 (by decide) (hT _ kw_92) (fun _ h9 => h9) rfl d_X_insertByDay_20 ?_
    refine lv_iload_n hx hb d_X_insertByDay_23 rfl (lv_at hl 2 rfl) ?_
    refine fr_iald hx hb hK hE (0, 3) 0 rfl h3 rfl x1 (rfl) (hx1) (by decide) d_X_insertByDay_24 ?_
    refine lv_icmp_le (tgt := 48) hx hb d_X_insertByDay_25 (by decide) (fun c_3 => ?_) (fun c_3 => ?_)
    · skip
      refine lv_aload_n hx hb d_X_insertByDay_48 rfl (lv_at hl 1 rfl) ?_
      refine fr_get (ci := 0) (Cn := hR_0) (T := hF_0) (N := 16) hx hb hT hi_0 hown hK hE (0, 0) rfl h0 rfl 10 (by decide) (hT _ kw_97) (fun _ h9 => h9) rfl d_X_insertByDay_49 ?_
      refine lv_iload_n hx hb d_X_insertByDay_52 rfl (lv_at hl 0 rfl) ?_
      refine lv_iload_n hx hb d_X_insertByDay_53 rfl (lv_at hl 2 rfl) ?_
      refine fr_iast hx hb hK hE hS (0, 6) 0 rfl rfl rfl (m_1 + 1) (rfl) (by omega) (by decide) d_X_insertByDay_54 (fun H locs hE hS => ?_)
      rw [fr_up_up] at hE
      refine W.widen (k := 0) (n := 0) (Nat.le_of_ble_eq_true rfl) (Nat.le_of_ble_eq_true rfl) ?_
      exact W.vret hx hb hr (fun t9 ht9 hW9 => ⟨⟨upd od1 (m_1 + 1) (nI x1), rfl, (fun j hj => by have := ins_fin (off := 0) (od := od1) (t := m_1 + 1) (i4.trans (psF_s c_3)) (by omega) (fun j hj => by rw [Nat.zero_add]; exact i2 j hj) (fun j h1 h2 => by rw [Nat.zero_add]; exact i3 j h1 h2) j hj; rw [Nat.zero_add, Nat.zero_add] at this; exact this), ⟨by rw [ht9]; exact hE, va_K.moved hW9.alike hK⟩⟩, hS.F ht9⟩) hS.2.2 d_X_insertByDay_55
    · skip
      refine lv_aload_n hx hb d_X_insertByDay_28 rfl (lv_at hl 1 rfl) ?_
      refine fr_get (ci := 0) (Cn := hR_0) (T := hF_0) (N := 16) hx hb hT hi_0 hown hK hE (0, 0) rfl h0 rfl 10 (by decide) (hT _ kw_97) (fun _ h9 => h9) rfl d_X_insertByDay_29 ?_
      refine lv_iload_n hx hb d_X_insertByDay_32 rfl (lv_at hl 0 rfl) ?_
      refine lv_aload_n hx hb d_X_insertByDay_33 rfl (lv_at hl 1 rfl) ?_
      refine fr_get (ci := 0) (Cn := hR_0) (T := hF_0) (N := 16) hx hb hT hi_0 hown hK hE (0, 0) rfl h0 rfl 10 (by decide) (hT _ kw_97) (fun _ h9 => h9) rfl d_X_insertByDay_34 ?_
      refine lv_iload_n hx hb d_X_insertByDay_37 rfl (lv_at hl 0 rfl) ?_
      refine lv_iconst (v := 1) hx hb d_X_insertByDay_38 (by decide) ?_
      refine lv_isub hx hb d_X_insertByDay_39 ?_
      refine lv_topi (fun y_4 ey_4 => ?_)
      obtain rfl : y_4 = nI m_1 := ey_4.trans (nI_pred m_1)
      refine fr_iald hx hb hK hE (0, 6) 0 rfl rfl rfl m_1 (rfl) (by omega) (by decide) d_X_insertByDay_40 ?_
      refine fr_iast hx hb hK hE hS (0, 6) 0 rfl rfl rfl (m_1 + 1) (rfl) (by omega) (by decide) d_X_insertByDay_41 (fun H locs hE hS => ?_)
      refine lv_iinc (v := nI m_1) (lv' := [(3, .int (nI m_1)), (0, .ref (b 0)), (1, .int (nI x1)), (2, .int (nI k))]) hx hb d_X_insertByDay_42 hl (k := 0) rfl (pk_m1 m_1) (by decide) rfl (fun ls hl => ?_)
      refine lv_goto (tgt := 2) hx hb d_X_insertByDay_45 (by decide) ?_
      rw [fr_up_up, hm_1] at hE
      have bi0 : n9 = m_1 + 1 := by omega
      have bi1 : m_1 ≤ k := by omega
      have bi2 : ∀ j, j < m_1 → (upd od1 (m_1 + 1) (nI (L m_1))) j = nI (L j) := fun j hj => by rw [pk_un (by omega)]; exact i2 j (by omega)
      have bi3 : ∀ j, m_1 ≤ j → j < k → (upd od1 (m_1 + 1) (nI (L m_1))) (j + 1) = nI (L j) := fun j h1 h2 => by rcases Nat.lt_or_ge m_1 j with q | q; rw [pk_un (by omega)]; exact i3 j (by omega) h2; rw [show j = m_1 by omega]; exact pk_us
      have bi4 : psF dy x1 L k = psF dy x1 L m_1 := i4.trans (psF_n c_3)
      exact ih (m_1, upd od1 (m_1 + 1) (nI (L m_1))) _ _ _ ⟨bi0, bi1, bi2, bi3, bi4, hE, hS, lv_sub hl [0, 1, 2, 3] rfl⟩
end
section
theorem gaF_no {sel : Nat → Bool} {dy : Nat → Int32} {r : Nat} (h : sel r = false) : gaF sel dy (r + 1) = gaF sel dy r := by
  conv => lhs; unfold gaF
  rw [if_neg (by rw [h]; decide)]
theorem gaF_yes {sel : Nat → Bool} {dy : Nat → Int32} {r : Nat} (h : sel r = true) : gaF sel dy (r + 1) = (insF dy r (gaF sel dy r).1 (gaF sel dy r).2, (gaF sel dy r).2 + 1) := by
  conv => lhs; unfold gaF
  rw [if_pos h]
theorem selB_yes {fr to of : Int32} {dy st : Nat → Int32} {r : Nat} (h1 : fr ≤ dy r) (h2 : dy r ≤ to) (h3 : of < 0 ∨ st r = of) : selB fr to of dy st r = true := by
  unfold selB
  rcases h3 with h3 | h3 <;> simp [h1, h2, h3]
theorem selB_n1 {fr to of : Int32} {dy st : Nat → Int32} {r : Nat} (h1 : ¬ fr ≤ dy r) : selB fr to of dy st r = false := by
  unfold selB
  simp [h1]
theorem selB_n2 {fr to of : Int32} {dy st : Nat → Int32} {r : Nat} (h1 : ¬ dy r ≤ to) : selB fr to of dy st r = false := by
  unfold selB
  simp [h1]
theorem selB_n3 {fr to of : Int32} {dy st : Nat → Int32} {r : Nat} (h1 : ¬ of < 0) (h2 : ¬ st r = of) : selB fr to of dy st r = false := by
  unfold selB
  simp [h1, h2]
/-- what stands for a set, or for all -/
def okSet (of : Int32) : Prop := of = -1 ∨ inN of 10
theorem okSet_neg {of : Int32} (h : okSet of) (h1 : ¬ of = -1) : ¬ of < 0 := by
  rcases h with h | ⟨j, hj, rfl⟩
  · exact absurd h h1
  · exact nI_pos (by omega)
theorem m1_neg : (-1 : Int32) < 0 := by decide
set_option maxHeartbeats 4000000 in
set_option maxRecDepth 100000 in
theorem c_X_sortSpan (l : Launch) {D : va_G} {z : Nat} {b : Nat → Nat} {C : fr_C} {H9 : Heap} (h9 : fr_W D hCl z b C H9) {cI cZ cJ cP cO : ClassId} {pg gr lf n an lc po : Nat} {st : Nat → Int32} {dy : Nat → Int32} {od : Nat → Int32} (h0 : C (0, 0) = some (.inr (0, fX b pg gr lf n an lc po))) (h2 : C (0, 2) = some (.inl (cI, 150, .inl st))) (h3 : C (0, 3) = some (.inl (cI, 150, .inl dy))) (h6 : C (0, 6) = some (.inl (cI, 150, .inl od))) (hn : n ≤ 150) (fr to of : Int32) (hof : okSet of) : Met l y_X_sortSpan w_X_sortSpan ({ frames := 1, cells := 0, slots := 0, locals := 23 }) (va_Pc [.ref (b 0), .int fr, .int to, .int of] (fr_G D hCl (hTy cI cZ cJ cP cO) z b C)) (va_Qi (fun (r : Int32) (u : Nat → Int32) => r = nI (gaF (selB fr to of dy st) dy n).2 ∧ ∀ j, j < (gaF (selB fr to of dy st) dy n).2 → u j = nI ((gaF (selB fr to of dy st) dy n).1 j)) (fun u t => fr_G D hCl (hTy cI cZ cJ cP cO) z ((fun _ => b) u) ((fun u => fr_up C (0, 6) (.inl (cI, 150, .inl u))) u) t) (fr_A z)) 0 0 (fr_A z) := by
  refine Met.ofW (cc := b_X_sortSpan) (maxL := 7) (ret := (some .int)) (by decide) rfl ?_
  intro p e s m args below meth c s₁ B hml hv
  obtain ⟨rfl, hE, hK⟩ := hv
  have hx := B.exec
  have hb := B.bytes
  have hr := B.returns
  have hts := atoms_spec (ws := w_X_sortSpan) B.pre
  have hT : ∀ w ∈ hw_tbl, w.before _ s = true := fun w h => hts w (List.mem_cons_of_mem _ h)
  have hown : s.vm.findClass "HarvestSteps" = some m.cls := findClass_of_methodNamed B.named
  have hlocks := B.notSynchronized
  have hS : va_S (fr_A z) s.heap s.heap [] := va_S.rf
  have hl := lv_entry ([.ref (b 0), .int fr, .int to, .int of]) (n := 7) (Nat.le_of_ble_eq_true rfl)
  rw [lg_entry_eq]
  generalize (lg_sl ([.ref (b 0), .int fr, .int to, .int of]) ++ List.replicate (7 - (lg_sl ([.ref (b 0), .int fr, .int to, .int of])).length) Slot.unset).toArray = ls at hl ⊢
  have hl : lv_has ls 7 [(0, .ref (b 0)), (1, .int fr), (2, .int to), (3, .int of)] := hl
  refine lv_iconst (v := 0) hx hb d_X_sortSpan_0 (by decide) ?_
  refine lv_istore (lv' := [(4, .int 0), (0, .ref (b 0)), (1, .int fr), (2, .int to), (3, .int of)]) hx hb d_X_sortSpan_1 hl (by decide) rfl (fun ls hl => ?_)
  refine lv_iconst (v := 0) hx hb d_X_sortSpan_3 (by decide) ?_
  refine lv_istore (lv' := [(5, .int 0), (4, .int 0), (0, .ref (b 0)), (1, .int fr), (2, .int to), (3, .int of)]) hx hb d_X_sortSpan_4 hl (by decide) rfl (fun ls hl => ?_)
  rw [← fr_up_same h6] at hE
  refine W.widen (k := 0) (n := 0) (Nat.le_of_ble_eq_true rfl) (Nat.le_of_ble_eq_true rfl) ?_
  have ai0 : (n + 1) + 0 = n + 1 := rfl
  have ai1 : 0 ≤ n := Nat.zero_le n
  have ai2 : 0 = (gaF (selB fr to of dy st) dy 0).2 := rfl
  have ai3 : ∀ j, j < 0 → od j = nI ((gaF (selB fr to of dy st) dy 0).1 j) := fun j hj => absurd hj (Nat.not_lt_zero j)
  refine fr_loop (σ := Nat × Nat × (Nat → Int32)) (fun n9 x H locs ls => (n9 + x.1 = n + 1) ∧ (x.1 ≤ n) ∧ (x.2.1 = (gaF (selB fr to of dy st) dy x.1).2) ∧ (∀ j, j < x.2.1 → x.2.2 j = nI ((gaF (selB fr to of dy st) dy x.1).1 j)) ∧ fr_W D hCl z b (fr_up C (0, 6) (.inl (cI, 150, .inl x.2.2))) H ∧ va_S (fr_A z) s.heap H locs ∧ lv_has ls 7 [(4, .int (nI x.2.1)), (5, .int (nI x.1)), (0, .ref (b 0)), (1, .int fr), (2, .int to), (3, .int of)]) (fun x H locs ls h => by obtain ⟨h1, h2, -⟩ := h; omega) (fun n9 x H locs ls hI ih => ?_) (n + 1) (0, 0, od) _ _ _ ⟨ai0, ai1, ai2, ai3, hE, hS, lv_sub hl [1, 0, 2, 3, 4, 5] rfl⟩
  obtain ⟨q, k, od1⟩ := x
  obtain ⟨i0, i1, i2, i3, hE, hS, hl⟩ := hI
  replace i0 : (n9 + 1) + q = n + 1 := i0
  replace i1 : q ≤ n := i1
  replace i2 : k = (gaF (selB fr to of dy st) dy q).2 := i2
  replace i3 : ∀ j, j < k → od1 j = nI ((gaF (selB fr to of dy st) dy q).1 j) := i3
  replace hE : fr_W D hCl z b (fr_up C (0, 6) (.inl (cI, 150, .inl od1))) H := hE
  replace hl : lv_has ls 7 [(4, .int (nI k)), (5, .int (nI q)), (0, .ref (b 0)), (1, .int fr), (2, .int to), (3, .int of)] := hl
  refine lv_iload hx hb d_X_sortSpan_6 (lv_at hl 1 rfl) ?_
  refine lv_aload_n hx hb d_X_sortSpan_8 rfl (lv_at hl 2 rfl) ?_
  refine fr_get (ci := 0) (Cn := hR_0) (T := hF_0) (N := 16) hx hb hT hi_0 hown hK hE (0, 0) rfl h0 rfl 8 (by decide) (hT _ kw_95) (fun _ h9 => h9) rfl d_X_sortSpan_9 ?_
  refine lv_icmp_ge (tgt := 82) hx hb d_X_sortSpan_12 (by decide) (fun c_1 => ?_) (fun c_1 => ?_)
  · skip
    have hqn : q = n := by rcases Nat.lt_or_ge q n with y | y; exact absurd c_1 (nI_ge y (by omega)); omega
    subst hqn
    refine lv_iload hx hb d_X_sortSpan_82 (lv_at hl 0 rfl) ?_
    refine W.widen (k := 0) (n := 0) (Nat.le_of_ble_eq_true rfl) (Nat.le_of_ble_eq_true rfl) ?_
    exact W.iret (v := nI k) hx hb hr (fun t9 ht9 hW9 => ⟨⟨nI k, od1, rfl, ⟨by rw [i2], by rw [← i2]; exact i3⟩, ⟨by rw [ht9]; exact hE, va_K.moved hW9.alike hK⟩⟩, hS.F ht9⟩) hS.2.2 d_X_sortSpan_84
  · skip
    have hq : q < n := by rcases Nat.lt_or_ge q n with y | y; exact y; exact absurd (nI_le y (by omega)) c_1
    have hkq : k ≤ q := by rw [i2]; exact gaF_le (selB fr to of dy st) dy q
    refine lv_aload_n hx hb d_X_sortSpan_15 rfl (lv_at hl 2 rfl) ?_
    refine fr_get (ci := 0) (Cn := hR_0) (T := hF_0) (N := 16) hx hb hT hi_0 hown hK hE (0, 0) rfl h0 rfl 5 (by decide) (hT _ kw_92) (fun _ h9 => h9) rfl d_X_sortSpan_16 ?_
    refine lv_iload hx hb d_X_sortSpan_19 (lv_at hl 1 rfl) ?_
    refine fr_iald hx hb hK hE (0, 3) 0 rfl h3 rfl q (rfl) (by omega) (by decide) d_X_sortSpan_21 ?_
    refine lv_iload_n hx hb d_X_sortSpan_22 rfl (lv_at hl 3 rfl) ?_
    refine lv_icmp_lt (tgt := 41) hx hb d_X_sortSpan_23 (by decide) (fun c_2 => ?_) (fun c_2 => ?_)
    · skip
      refine lv_iconst (v := 0) hx hb d_X_sortSpan_41 (by decide) ?_
      refine lv_istore (lv' := [(6, .int 0), (4, .int (nI k)), (5, .int (nI q)), (0, .ref (b 0)), (1, .int fr), (2, .int to), (3, .int of)]) hx hb d_X_sortSpan_42 hl (by decide) rfl (fun ls hl => ?_)
      refine lv_iload hx hb d_X_sortSpan_44 (lv_at hl 0 rfl) ?_
      refine lv_if_eq (tgt := 76) hx hb d_X_sortSpan_46 (by decide) (fun c_3 => ?_) (fun c_3 => ?_)
      · skip
        refine lv_iinc (v := nI (q + 1)) (lv' := [(5, .int (nI (q + 1))), (6, .int 0), (4, .int (nI k)), (0, .ref (b 0)), (1, .int fr), (2, .int to), (3, .int of)]) hx hb d_X_sortSpan_76 hl (k := 2) rfl (nI_1 q) (by decide) rfl (fun ls hl => ?_)
        refine lv_goto (tgt := 6) hx hb d_X_sortSpan_79 (by decide) ?_
        have ns : (selB fr to of dy st) q = false := selB_n1 (Int32.not_le.mpr c_2)
        have bi0 : n9 + (q + 1) = n + 1 := by omega
        have bi1 : (q + 1) ≤ n := by omega
        have bi2 : k = (gaF (selB fr to of dy st) dy (q + 1)).2 := by rw [gaF_no ns, i2]
        have bi3 : ∀ j, j < k → od1 j = nI ((gaF (selB fr to of dy st) dy (q + 1)).1 j) := fun j hj => by rw [gaF_no ns]; exact i3 j hj
        exact ih (q + 1, k, od1) _ _ _ ⟨bi0, bi1, bi2, bi3, hE, hS, lv_sub hl [2, 0, 3, 4, 5, 6] rfl⟩
      · skip
        exact absurd c_3 (by decide)
    · skip
      refine lv_aload_n hx hb d_X_sortSpan_26 rfl (lv_at hl 2 rfl) ?_
      refine fr_get (ci := 0) (Cn := hR_0) (T := hF_0) (N := 16) hx hb hT hi_0 hown hK hE (0, 0) rfl h0 rfl 5 (by decide) (hT _ kw_92) (fun _ h9 => h9) rfl d_X_sortSpan_27 ?_
      refine lv_iload hx hb d_X_sortSpan_30 (lv_at hl 1 rfl) ?_
      refine fr_iald hx hb hK hE (0, 3) 0 rfl h3 rfl q (rfl) (by omega) (by decide) d_X_sortSpan_32 ?_
      refine lv_iload_n hx hb d_X_sortSpan_33 rfl (lv_at hl 4 rfl) ?_
      refine lv_icmp_gt (tgt := 41) hx hb d_X_sortSpan_34 (by decide) (fun c_4 => ?_) (fun c_4 => ?_)
      · skip
        refine lv_iconst (v := 0) hx hb d_X_sortSpan_41 (by decide) ?_
        refine lv_istore (lv' := [(6, .int 0), (4, .int (nI k)), (5, .int (nI q)), (0, .ref (b 0)), (1, .int fr), (2, .int to), (3, .int of)]) hx hb d_X_sortSpan_42 hl (by decide) rfl (fun ls hl => ?_)
        refine lv_iload hx hb d_X_sortSpan_44 (lv_at hl 0 rfl) ?_
        refine lv_if_eq (tgt := 76) hx hb d_X_sortSpan_46 (by decide) (fun c_5 => ?_) (fun c_5 => ?_)
        · skip
          refine lv_iinc (v := nI (q + 1)) (lv' := [(5, .int (nI (q + 1))), (6, .int 0), (4, .int (nI k)), (0, .ref (b 0)), (1, .int fr), (2, .int to), (3, .int of)]) hx hb d_X_sortSpan_76 hl (k := 2) rfl (nI_1 q) (by decide) rfl (fun ls hl => ?_)
          refine lv_goto (tgt := 6) hx hb d_X_sortSpan_79 (by decide) ?_
          have ns : (selB fr to of dy st) q = false := selB_n2 (Int32.not_le.mpr c_4)
          have bi0 : n9 + (q + 1) = n + 1 := by omega
          have bi1 : (q + 1) ≤ n := by omega
          have bi2 : k = (gaF (selB fr to of dy st) dy (q + 1)).2 := by rw [gaF_no ns, i2]
          have bi3 : ∀ j, j < k → od1 j = nI ((gaF (selB fr to of dy st) dy (q + 1)).1 j) := fun j hj => by rw [gaF_no ns]; exact i3 j hj
          exact ih (q + 1, k, od1) _ _ _ ⟨bi0, bi1, bi2, bi3, hE, hS, lv_sub hl [2, 0, 3, 4, 5, 6] rfl⟩
        · skip
          exact absurd c_5 (by decide)
      · skip
        refine lv_iconst (v := 1) hx hb d_X_sortSpan_37 (by decide) ?_
        refine lv_goto (tgt := 42) hx hb d_X_sortSpan_38 (by decide) ?_
        refine lv_istore (lv' := [(6, .int 1), (4, .int (nI k)), (5, .int (nI q)), (0, .ref (b 0)), (1, .int fr), (2, .int to), (3, .int of)]) hx hb d_X_sortSpan_42 hl (by decide) rfl (fun ls hl => ?_)
        refine lv_iload hx hb d_X_sortSpan_44 (lv_at hl 0 rfl) ?_
        refine lv_if_eq (tgt := 76) hx hb d_X_sortSpan_46 (by decide) (fun c_6 => ?_) (fun c_6 => ?_)
        · skip
          exact absurd c_6 (by decide)
        · skip
          refine lv_iload_n hx hb d_X_sortSpan_49 rfl (lv_at hl 6 rfl) ?_
          refine lv_iconst (v := (-1)) hx hb d_X_sortSpan_50 (by decide) ?_
          refine lv_icmp_eq (tgt := 65) hx hb d_X_sortSpan_51 (by decide) (fun c_7 => ?_) (fun c_7 => ?_)
          · skip
            refine lv_aload_n hx hb d_X_sortSpan_65 rfl (lv_at hl 3 rfl) ?_
            refine lv_iload hx hb d_X_sortSpan_66 (lv_at hl 2 rfl) ?_
            refine lv_iload hx hb d_X_sortSpan_68 (lv_at hl 1 rfl) ?_
            refine fr_callv (va_runV (As := [.int (nI q), .int (nI k)]) (rest := []) ⟨hx, hb, hml, hown, hts⟩ (c_X_insertByDay l hE (pg := pg) (gr := gr) (lf := lf) (n := n) (an := an) (lc := lc) (po := po) h0 h3 rfl (gaF (selB fr to of dy st) dy q).1 q k (by omega) (by omega) (fun j hj => ⟨i3 j hj, by have := gaF_lt (selB fr to of dy st) dy q j (by omega); omega⟩)) (cwV 2 hts (hw_goodV kw_189 kw_191 kw_5 kw_21 kw_192) rfl rfl rfl (by decide +kernel) ⟨Nat.le_of_ble_eq_true rfl, Nat.le_of_ble_eq_true rfl⟩) ⟨fr_blind, fr_recv hK hE (0, 0) rfl h0 (ci := 0) rfl, fr_pre hE hK⟩ rfl rfl hl.1 rfl (lv_room (Nat.le_of_ble_eq_true rfl)) d_X_sortSpan_70 ⟨Nat.le_of_ble_eq_true rfl, Nat.le_of_ble_eq_true rfl⟩) hS (fun u_8 H locs w_8 hE hS => ?_)
            rw [fr_up_up] at hE
            refine lv_iinc (v := nI (k + 1)) (lv' := [(4, .int (nI (k + 1))), (6, .int 1), (5, .int (nI q)), (0, .ref (b 0)), (1, .int fr), (2, .int to), (3, .int of)]) hx hb d_X_sortSpan_73 hl (k := 1) rfl (nI_1 k) (by decide) rfl (fun ls hl => ?_)
            refine lv_iinc (v := nI (q + 1)) (lv' := [(5, .int (nI (q + 1))), (4, .int (nI (k + 1))), (6, .int 1), (0, .ref (b 0)), (1, .int fr), (2, .int to), (3, .int of)]) hx hb d_X_sortSpan_76 hl (k := 2) rfl (nI_1 q) (by decide) rfl (fun ls hl => ?_)
            refine lv_goto (tgt := 6) hx hb d_X_sortSpan_79 (by decide) ?_
            have ys : (selB fr to of dy st) q = true := selB_yes (Int32.not_lt.mp c_2) (Int32.not_lt.mp c_4) (Or.inl (by rw [c_7]; exact m1_neg))
            have bi0 : n9 + (q + 1) = n + 1 := by omega
            have bi1 : (q + 1) ≤ n := by omega
            have bi2 : (k + 1) = (gaF (selB fr to of dy st) dy (q + 1)).2 := by rw [gaF_yes ys, i2]
            have bi3 : ∀ j, j < (k + 1) → u_8 j = nI ((gaF (selB fr to of dy st) dy (q + 1)).1 j) := fun j hj => by rw [gaF_yes ys]; exact (w_8 j hj).trans (by rw [i2])
            exact ih (q + 1, k + 1, u_8) _ _ _ ⟨bi0, bi1, bi2, bi3, hE, hS, lv_sub hl [1, 0, 3, 4, 5, 6] rfl⟩
          · skip
            refine lv_aload_n hx hb d_X_sortSpan_54 rfl (lv_at hl 3 rfl) ?_
            refine fr_get (ci := 0) (Cn := hR_0) (T := hF_0) (N := 16) hx hb hT hi_0 hown hK hE (0, 0) rfl h0 rfl 4 (by decide) (hT _ kw_91) (fun _ h9 => h9) rfl d_X_sortSpan_55 ?_
            refine lv_iload hx hb d_X_sortSpan_58 (lv_at hl 2 rfl) ?_
            refine fr_iald hx hb hK hE (0, 2) 0 rfl h2 rfl q (rfl) (by omega) (by decide) d_X_sortSpan_60 ?_
            refine lv_iload_n hx hb d_X_sortSpan_61 rfl (lv_at hl 6 rfl) ?_
            refine lv_icmp_ne (tgt := 76) hx hb d_X_sortSpan_62 (by decide) (fun c_9 => ?_) (fun c_9 => ?_)
            · skip
              refine lv_iinc (v := nI (q + 1)) (lv' := [(5, .int (nI (q + 1))), (6, .int 1), (4, .int (nI k)), (0, .ref (b 0)), (1, .int fr), (2, .int to), (3, .int of)]) hx hb d_X_sortSpan_76 hl (k := 2) rfl (nI_1 q) (by decide) rfl (fun ls hl => ?_)
              refine lv_goto (tgt := 6) hx hb d_X_sortSpan_79 (by decide) ?_
              have ns : (selB fr to of dy st) q = false := selB_n3 (okSet_neg hof c_7) c_9
              have bi0 : n9 + (q + 1) = n + 1 := by omega
              have bi1 : (q + 1) ≤ n := by omega
              have bi2 : k = (gaF (selB fr to of dy st) dy (q + 1)).2 := by rw [gaF_no ns, i2]
              have bi3 : ∀ j, j < k → od1 j = nI ((gaF (selB fr to of dy st) dy (q + 1)).1 j) := fun j hj => by rw [gaF_no ns]; exact i3 j hj
              exact ih (q + 1, k, od1) _ _ _ ⟨bi0, bi1, bi2, bi3, hE, hS, lv_sub hl [2, 0, 3, 4, 5, 6] rfl⟩
            · skip
              refine lv_aload_n hx hb d_X_sortSpan_65 rfl (lv_at hl 3 rfl) ?_
              refine lv_iload hx hb d_X_sortSpan_66 (lv_at hl 2 rfl) ?_
              refine lv_iload hx hb d_X_sortSpan_68 (lv_at hl 1 rfl) ?_
              refine fr_callv (va_runV (As := [.int (nI q), .int (nI k)]) (rest := []) ⟨hx, hb, hml, hown, hts⟩ (c_X_insertByDay l hE (pg := pg) (gr := gr) (lf := lf) (n := n) (an := an) (lc := lc) (po := po) h0 h3 rfl (gaF (selB fr to of dy st) dy q).1 q k (by omega) (by omega) (fun j hj => ⟨i3 j hj, by have := gaF_lt (selB fr to of dy st) dy q j (by omega); omega⟩)) (cwV 2 hts (hw_goodV kw_189 kw_191 kw_5 kw_21 kw_192) rfl rfl rfl (by decide +kernel) ⟨Nat.le_of_ble_eq_true rfl, Nat.le_of_ble_eq_true rfl⟩) ⟨fr_blind, fr_recv hK hE (0, 0) rfl h0 (ci := 0) rfl, fr_pre hE hK⟩ rfl rfl hl.1 rfl (lv_room (Nat.le_of_ble_eq_true rfl)) d_X_sortSpan_70 ⟨Nat.le_of_ble_eq_true rfl, Nat.le_of_ble_eq_true rfl⟩) hS (fun u_10 H locs w_10 hE hS => ?_)
              rw [fr_up_up] at hE
              refine lv_iinc (v := nI (k + 1)) (lv' := [(4, .int (nI (k + 1))), (6, .int 1), (5, .int (nI q)), (0, .ref (b 0)), (1, .int fr), (2, .int to), (3, .int of)]) hx hb d_X_sortSpan_73 hl (k := 1) rfl (nI_1 k) (by decide) rfl (fun ls hl => ?_)
              refine lv_iinc (v := nI (q + 1)) (lv' := [(5, .int (nI (q + 1))), (4, .int (nI (k + 1))), (6, .int 1), (0, .ref (b 0)), (1, .int fr), (2, .int to), (3, .int of)]) hx hb d_X_sortSpan_76 hl (k := 2) rfl (nI_1 q) (by decide) rfl (fun ls hl => ?_)
              refine lv_goto (tgt := 6) hx hb d_X_sortSpan_79 (by decide) ?_
              have ys : (selB fr to of dy st) q = true := selB_yes (Int32.not_lt.mp c_2) (Int32.not_lt.mp c_4) (Or.inr c_9)
              have bi0 : n9 + (q + 1) = n + 1 := by omega
              have bi1 : (q + 1) ≤ n := by omega
              have bi2 : (k + 1) = (gaF (selB fr to of dy st) dy (q + 1)).2 := by rw [gaF_yes ys, i2]
              have bi3 : ∀ j, j < (k + 1) → u_10 j = nI ((gaF (selB fr to of dy st) dy (q + 1)).1 j) := fun j hj => by rw [gaF_yes ys]; exact (w_10 j hj).trans (by rw [i2])
              exact ih (q + 1, k + 1, u_10) _ _ _ ⟨bi0, bi1, bi2, bi3, hE, hS, lv_sub hl [1, 0, 3, 4, 5, 6] rfl⟩
end
section
/-- the fields of the reference -/
def fM (b : Nat → Nat) (th : Int32) (pg gr lf an n lc ps rw tk po : Nat) : List Value := [.int th, .int (nI pg), .int (nI gr), .int (nI lf), .int (nI an), .int (nI n), .ref (b 46), .ref (b 47), .ref (b 48), .ref (b 49), .ref (b 50), .int (nI lc), .ref (b 52), .ref (b 53), .ref (b 54), .ref (b 55), .ref (b 56), .int (nI ps), .ref (b 58), .ref (b 59), .ref (b 60), .ref (b 61), .ref (b 62), .int (nI rw), .ref (b 64), .ref (b 65), .ref (b 66), .int (nI tk), .ref (b 68), .ref (b 69), .ref (b 70), .ref (b 71), .ref (b 72), .int (nI po)]
theorem in0 {v hi : Int32} {m : Nat} (h1 : hi.toInt = (m : Int) - 1) (h2 : m < 2 ^ 31) : (0 ≤ v ∧ v ≤ hi) ↔ inN v m := by
  constructor
  · rintro ⟨a, c⟩
    refine inN_yes h2 (Int32.not_lt.mpr a) (fun q => ?_)
    have e1 := Int32.le_iff_toInt_le.mp c
    have e2 := Int32.le_iff_toInt_le.mp q
    rw [nI_toInt h2] at e2
    omega
  · rintro ⟨j, hj, rfl⟩
    refine ⟨nI_pos' (by omega), Int32.le_iff_toInt_le.mpr ?_⟩
    rw [nI_toInt (by omega)]
    omega
theorem nI_m1 {n : Nat} (h : n < 2 ^ 30) : (nI n - 1).toInt = (n : Int) - 1 := pk_sub_toInt (b := 1) h (by decide)
/-- what the reference's act does -/
def mAct (b : Nat → Nat) (C : fr_C) (cI cZ : ClassId) (th : Int32) (pg gr lf an n lc ps rw tk po : Nat) (ac dy dl : Nat → Int32) (j : Nat) (day x : Int32) : fr_C :=
  fr_up (fr_up (fr_up (fr_up C (0, 40) (.inr (5, fM b th pg gr lf (an + 1) n lc ps rw tk po))) (0, 47) (.inl (cI, 150, .inl (upd dy j day)))) (0, 48) (.inl (cZ, 150, .inl (upd dl j x)))) (0, 49) (.inl (cI, 150, .inl (upd ac j (nI (an + 1)))))
/-- what the reference's record does, where it is not refused -/
def mRec (b : Nat → Nat) (C : fr_C) (cI cZ : ClassId) (pg gr lf an n lc ps rw tk po : Nat) (st ac dy dl : Nat → Int32) (set day : Int32) : fr_C :=
  fr_up (mAct b (fr_up (fr_up C (0, 40) (.inr (5, fM b 0 pg gr lf an n lc ps rw tk po))) (0, 46) (.inl (cI, 150, .inl (upd st n set)))) cI cZ 0 pg gr lf an n lc ps rw tk po ac dy dl n day 0) (0, 40) (.inr (5, fM b 0 pg gr lf (an + 1) (n + 1) lc ps rw tk po))
set_option maxHeartbeats 4000000 in
set_option maxRecDepth 100000 in
theorem c_M_in (l : Launch) {D : va_G} {z : Nat} {b : Nat → Nat} {C : fr_C} {H9 : Heap} (h9 : fr_W D hCl z b C H9) {cI cZ cJ cP cO : ClassId} (v lo hi : Int32) : Met l y_M_in w_M_in ({ frames := 0, cells := 0, slots := 0, locals := 0 }) (va_Pc [.int v, .int lo, .int hi] (fr_G D hCl (hTy cI cZ cJ cP cO) z b C)) (va_Qi (fun (r : Int32) (u : Unit) => tells r (lo ≤ v ∧ v ≤ hi)) (fun u t => fr_G D hCl (hTy cI cZ cJ cP cO) z ((fun _ => b) u) ((fun _ => C) u) t) (fr_A z)) 0 0 (fr_A z) := by
  refine Met.ofW (cc := b_M_in) (maxL := 3) (ret := (some .boolean)) (by decide) rfl ?_
  intro p e s m args below meth c s₁ B hml hv
  obtain ⟨rfl, hE, hK⟩ := hv
  have hx := B.exec
  have hb := B.bytes
  have hr := B.returns
  have hts := atoms_spec (ws := w_M_in) B.pre
  have hT : ∀ w ∈ hw_tbl, w.before _ s = true := fun w h => hts w (List.mem_cons_of_mem _ h)
  have hown : s.vm.findClass "HarvestStepsModel" = some m.cls := findClass_of_methodNamed B.named
  have hlocks := B.notSynchronized
  have hS : va_S (fr_A z) s.heap s.heap [] := va_S.rf
  have hl := lv_entry ([.int v, .int lo, .int hi]) (n := 3) (Nat.le_of_ble_eq_true rfl)
  rw [lg_entry_eq]
  generalize (lg_sl ([.int v, .int lo, .int hi]) ++ List.replicate (3 - (lg_sl ([.int v, .int lo, .int hi])).length) Slot.unset).toArray = ls at hl ⊢
  have hl : lv_has ls 3 [(0, .int v), (1, .int lo), (2, .int hi)] := hl
  refine lv_iload_n hx hb d_M_in_0 rfl (lv_at hl 0 rfl) ?_
  refine lv_iload_n hx hb d_M_in_1 rfl (lv_at hl 1 rfl) ?_
  refine lv_icmp_lt (tgt := 14) hx hb d_M_in_2 (by decide) (fun c_1 => ?_) (fun c_1 => ?_)
  · skip
    refine lv_iconst (v := 0) hx hb d_M_in_14 (by decide) ?_
    refine W.widen (k := 0) (n := 0) (Nat.le_of_ble_eq_true rfl) (Nat.le_of_ble_eq_true rfl) ?_
    exact W.zret (v := 0) (ty := .boolean) hx hb hr rfl (fun t9 ht9 hW9 => ⟨⟨0, (), rfl, Or.inr ⟨rfl, fun q => Int32.not_lt.mpr q.1 c_1⟩, ⟨by rw [ht9]; exact hE, va_K.moved hW9.alike hK⟩⟩, hS.F ht9⟩) hS.2.2 d_M_in_15
  · skip
    refine lv_iload_n hx hb d_M_in_5 rfl (lv_at hl 0 rfl) ?_
    refine lv_iload_n hx hb d_M_in_6 rfl (lv_at hl 2 rfl) ?_
    refine lv_icmp_gt (tgt := 14) hx hb d_M_in_7 (by decide) (fun c_2 => ?_) (fun c_2 => ?_)
    · skip
      refine lv_iconst (v := 0) hx hb d_M_in_14 (by decide) ?_
      refine W.widen (k := 0) (n := 0) (Nat.le_of_ble_eq_true rfl) (Nat.le_of_ble_eq_true rfl) ?_
      exact W.zret (v := 0) (ty := .boolean) hx hb hr rfl (fun t9 ht9 hW9 => ⟨⟨0, (), rfl, Or.inr ⟨rfl, fun q => Int32.not_lt.mpr q.2 c_2⟩, ⟨by rw [ht9]; exact hE, va_K.moved hW9.alike hK⟩⟩, hS.F ht9⟩) hS.2.2 d_M_in_15
    · skip
      refine lv_iconst (v := 1) hx hb d_M_in_10 (by decide) ?_
      refine lv_goto (tgt := 15) hx hb d_M_in_11 (by decide) ?_
      refine W.widen (k := 0) (n := 0) (Nat.le_of_ble_eq_true rfl) (Nat.le_of_ble_eq_true rfl) ?_
      exact W.zret (v := 1) (ty := .boolean) hx hb hr rfl (fun t9 ht9 hW9 => ⟨⟨1, (), rfl, Or.inl ⟨rfl, Int32.not_lt.mp c_1, Int32.not_lt.mp c_2⟩, ⟨by rw [ht9]; exact hE, va_K.moved hW9.alike hK⟩⟩, hS.F ht9⟩) hS.2.2 d_M_in_15
set_option maxHeartbeats 4000000 in
set_option maxRecDepth 100000 in
theorem c_M_isDay (l : Launch) {D : va_G} {z : Nat} {b : Nat → Nat} {C : fr_C} {H9 : Heap} (h9 : fr_W D hCl z b C H9) {cI cZ cJ cP cO : ClassId} {th : Int32} {pg gr lf an n lc ps rw tk po : Nat}  (m0 : C (0, 40) = some (.inr (5, fM b th pg gr lf an n lc ps rw tk po)))  (hg : 1 ≤ gr ∧ gr ≤ 100) (v : Int32) : Met l y_M_isDay w_M_isDay ({ frames := 1, cells := 0, slots := 0, locals := 22 }) (va_Pc [.ref (b 40), .int v] (fr_G D hCl (hTy cI cZ cJ cP cO) z b C)) (va_Qi (fun (r : Int32) (u : Unit) => tells r (okDay gr v)) (fun u t => fr_G D hCl (hTy cI cZ cJ cP cO) z ((fun _ => b) u) ((fun _ => C) u) t) (fr_A z)) 0 0 (fr_A z) := by
  refine Met.ofW (cc := b_M_isDay) (maxL := 2) (ret := (some .boolean)) (by decide) rfl ?_
  intro p e s m args below meth c s₁ B hml hv
  obtain ⟨rfl, hE, hK⟩ := hv
  have hx := B.exec
  have hb := B.bytes
  have hr := B.returns
  have hts := atoms_spec (ws := w_M_isDay) B.pre
  have hT : ∀ w ∈ hw_tbl, w.before _ s = true := fun w h => hts w (List.mem_cons_of_mem _ h)
  have hown : s.vm.findClass "HarvestStepsModel" = some m.cls := findClass_of_methodNamed B.named
  have hlocks := B.notSynchronized
  have hS : va_S (fr_A z) s.heap s.heap [] := va_S.rf
  have hl := lv_entry ([.ref (b 40), .int v]) (n := 2) (Nat.le_of_ble_eq_true rfl)
  rw [lg_entry_eq]
  generalize (lg_sl ([.ref (b 40), .int v]) ++ List.replicate (2 - (lg_sl ([.ref (b 40), .int v])).length) Slot.unset).toArray = ls at hl ⊢
  have hl : lv_has ls 2 [(0, .ref (b 40)), (1, .int v)] := hl
  refine lv_iload_n hx hb d_M_isDay_0 rfl (lv_at hl 1 rfl) ?_
  refine lv_iconst (v := 0) hx hb d_M_isDay_1 (by decide) ?_
  refine lv_ldc (v := 1000000) hx hb hown (hT _ kw_473) d_M_isDay_2 ?_
  refine fr_calli (va_runS (As := [.int v, .int 0, .int 1000000]) (rest := []) ⟨hx, hb, hml, hown, hts⟩ (c_M_in l hE v 0 1000000) (va_cwS 3 hts (hw_goodS kw_585 kw_586 kw_26 kw_587) rfl rfl rfl (by decide +kernel) ⟨Nat.le_of_ble_eq_true rfl, Nat.le_of_ble_eq_true rfl⟩) ⟨fr_blind, fr_pre hE hK⟩ rfl rfl hl.1 rfl (lv_room (Nat.le_of_ble_eq_true rfl)) d_M_isDay_4 ⟨Nat.le_of_ble_eq_true rfl, Nat.le_of_ble_eq_true rfl⟩) hS (fun r_1 u_1 H locs w_1 hE hS => ?_)
  rcases w_1 with ⟨rfl, pw_1⟩ | ⟨rfl, pw_1⟩
  · skip
    replace pw_1 := (in0 (m := 1000001) (by decide) (by decide)).mp pw_1
    obtain ⟨j_1, hj_1, rfl⟩ := pw_1
    refine lv_if_eq (tgt := 23) hx hb d_M_isDay_7 (by decide) (fun c_2 => ?_) (fun c_2 => ?_)
    · skip
      exact absurd c_2 (by decide)
    · skip
      refine lv_iload_n hx hb d_M_isDay_10 rfl (lv_at hl 1 rfl) ?_
      refine lv_aload_n hx hb d_M_isDay_11 rfl (lv_at hl 0 rfl) ?_
      refine fr_get (ci := 5) (Cn := hR_5) (T := hF_5) (N := 34) hx hb hT hi_5 hown hK hE (0, 40) rfl m0 rfl 2 (by decide) (hT _ kw_476) (fun _ h9 => h9) rfl d_M_isDay_12 ?_
      refine lv_irem hx hb d_M_isDay_15 (nI_ne0 (by omega) (by omega)) ?_
      refine lv_topi (fun y_3 ey_3 => ?_)
      obtain rfl : y_3 = nI (j_1 % gr) := ey_3.trans (pk_rem (by omega) (by omega) (by omega))
      refine lv_if_ne (tgt := 23) hx hb d_M_isDay_16 (by decide) (fun c_4 => ?_) (fun c_4 => ?_)
      · skip
        refine lv_iconst (v := 0) hx hb d_M_isDay_23 (by decide) ?_
        refine W.widen (k := 0) (n := 0) (Nat.le_of_ble_eq_true rfl) (Nat.le_of_ble_eq_true rfl) ?_
        exact W.zret (v := 0) (ty := .boolean) hx hb hr rfl (fun t9 ht9 hW9 => ⟨⟨0, (), rfl, Or.inr ⟨rfl, okDay_no (by omega) c_4⟩, ⟨by rw [ht9]; exact hE, va_K.moved hW9.alike hK⟩⟩, hS.F ht9⟩) hS.2.2 d_M_isDay_24
      · skip
        refine lv_iconst (v := 1) hx hb d_M_isDay_19 (by decide) ?_
        refine lv_goto (tgt := 24) hx hb d_M_isDay_20 (by decide) ?_
        refine W.widen (k := 0) (n := 0) (Nat.le_of_ble_eq_true rfl) (Nat.le_of_ble_eq_true rfl) ?_
        exact W.zret (v := 1) (ty := .boolean) hx hb hr rfl (fun t9 ht9 hW9 => ⟨⟨1, (), rfl, Or.inl ⟨rfl, j_1, by omega, rfl, by have := (nI_eq (a := j_1 % gr) (b := 0) (by have := Nat.mod_lt j_1 (show 0 < gr by omega); omega) (by decide)).mp (by rw [nI_0]; exact c_4); omega⟩, ⟨by rw [ht9]; exact hE, va_K.moved hW9.alike hK⟩⟩, hS.F ht9⟩) hS.2.2 d_M_isDay_24
  · skip
    replace pw_1 := fun q => pw_1 ((in0 (m := 1000001) (by decide) (by decide)).mpr q)
    refine lv_if_eq (tgt := 23) hx hb d_M_isDay_7 (by decide) (fun c_5 => ?_) (fun c_5 => ?_)
    · skip
      refine lv_iconst (v := 0) hx hb d_M_isDay_23 (by decide) ?_
      refine W.widen (k := 0) (n := 0) (Nat.le_of_ble_eq_true rfl) (Nat.le_of_ble_eq_true rfl) ?_
      exact W.zret (v := 0) (ty := .boolean) hx hb hr rfl (fun t9 ht9 hW9 => ⟨⟨0, (), rfl, Or.inr ⟨rfl, fun q => pw_1 (okDay_in q)⟩, ⟨by rw [ht9]; exact hE, va_K.moved hW9.alike hK⟩⟩, hS.F ht9⟩) hS.2.2 d_M_isDay_24
    · skip
      exact absurd c_5 (by decide)
set_option maxHeartbeats 4000000 in
set_option maxRecDepth 100000 in
theorem c_M_isRecord (l : Launch) {D : va_G} {z : Nat} {b : Nat → Nat} {C : fr_C} {H9 : Heap} (h9 : fr_W D hCl z b C H9) {cI cZ cJ cP cO : ClassId} {th : Int32} {pg gr lf an n lc ps rw tk po : Nat}  (m0 : C (0, 40) = some (.inr (5, fM b th pg gr lf an n lc ps rw tk po)))  (hn : n ≤ 150) (v : Int32) : Met l y_M_isRecord w_M_isRecord ({ frames := 1, cells := 0, slots := 0, locals := 22 }) (va_Pc [.ref (b 40), .int v] (fr_G D hCl (hTy cI cZ cJ cP cO) z b C)) (va_Qi (fun (r : Int32) (u : Unit) => tells r (inN v n)) (fun u t => fr_G D hCl (hTy cI cZ cJ cP cO) z ((fun _ => b) u) ((fun _ => C) u) t) (fr_A z)) 0 0 (fr_A z) := by
  refine Met.ofW (cc := b_M_isRecord) (maxL := 2) (ret := (some .boolean)) (by decide) rfl ?_
  intro p e s m args below meth c s₁ B hml hv
  obtain ⟨rfl, hE, hK⟩ := hv
  have hx := B.exec
  have hb := B.bytes
  have hr := B.returns
  have hts := atoms_spec (ws := w_M_isRecord) B.pre
  have hT : ∀ w ∈ hw_tbl, w.before _ s = true := fun w h => hts w (List.mem_cons_of_mem _ h)
  have hown : s.vm.findClass "HarvestStepsModel" = some m.cls := findClass_of_methodNamed B.named
  have hlocks := B.notSynchronized
  have hS : va_S (fr_A z) s.heap s.heap [] := va_S.rf
  have hl := lv_entry ([.ref (b 40), .int v]) (n := 2) (Nat.le_of_ble_eq_true rfl)
  rw [lg_entry_eq]
  generalize (lg_sl ([.ref (b 40), .int v]) ++ List.replicate (2 - (lg_sl ([.ref (b 40), .int v])).length) Slot.unset).toArray = ls at hl ⊢
  have hl : lv_has ls 2 [(0, .ref (b 40)), (1, .int v)] := hl
  refine lv_iload_n hx hb d_M_isRecord_0 rfl (lv_at hl 1 rfl) ?_
  refine lv_iconst (v := 0) hx hb d_M_isRecord_1 (by decide) ?_
  refine lv_aload_n hx hb d_M_isRecord_2 rfl (lv_at hl 0 rfl) ?_
  refine fr_get (ci := 5) (Cn := hR_5) (T := hF_5) (N := 34) hx hb hT hi_5 hown hK hE (0, 40) rfl m0 rfl 5 (by decide) (hT _ kw_479) (fun _ h9 => h9) rfl d_M_isRecord_3 ?_
  refine lv_iconst (v := 1) hx hb d_M_isRecord_6 (by decide) ?_
  refine lv_isub hx hb d_M_isRecord_7 ?_
  refine fr_calli (va_runS (As := [.int v, .int 0, .int ((nI n) - 1)]) (rest := []) ⟨hx, hb, hml, hown, hts⟩ (c_M_in l hE v 0 (nI n - 1)) (va_cwS 3 hts (hw_goodS kw_585 kw_586 kw_26 kw_587) rfl rfl rfl (by decide +kernel) ⟨Nat.le_of_ble_eq_true rfl, Nat.le_of_ble_eq_true rfl⟩) ⟨fr_blind, fr_pre hE hK⟩ rfl rfl hl.1 rfl (lv_room (Nat.le_of_ble_eq_true rfl)) d_M_isRecord_8 ⟨Nat.le_of_ble_eq_true rfl, Nat.le_of_ble_eq_true rfl⟩) hS (fun r_1 u_1 H locs w_1 hE hS => ?_)
  rcases w_1 with ⟨rfl, pw_1⟩ | ⟨rfl, pw_1⟩
  · skip
    replace pw_1 := (in0 (m := n) (nI_m1 (by omega)) (by omega)).mp pw_1
    refine W.widen (k := 0) (n := 0) (Nat.le_of_ble_eq_true rfl) (Nat.le_of_ble_eq_true rfl) ?_
    exact W.zret (v := 1) (ty := .boolean) hx hb hr rfl (fun t9 ht9 hW9 => ⟨⟨1, (), rfl, Or.inl ⟨rfl, pw_1⟩, ⟨by rw [ht9]; exact hE, va_K.moved hW9.alike hK⟩⟩, hS.F ht9⟩) hS.2.2 d_M_isRecord_11
  · skip
    replace pw_1 := fun q => pw_1 ((in0 (m := n) (nI_m1 (by omega)) (by omega)).mpr q)
    refine W.widen (k := 0) (n := 0) (Nat.le_of_ble_eq_true rfl) (Nat.le_of_ble_eq_true rfl) ?_
    exact W.zret (v := 0) (ty := .boolean) hx hb hr rfl (fun t9 ht9 hW9 => ⟨⟨0, (), rfl, Or.inr ⟨rfl, pw_1⟩, ⟨by rw [ht9]; exact hE, va_K.moved hW9.alike hK⟩⟩, hS.F ht9⟩) hS.2.2 d_M_isRecord_11
set_option maxHeartbeats 4000000 in
set_option maxRecDepth 100000 in
theorem c_M_isHeld (l : Launch) {D : va_G} {z : Nat} {b : Nat → Nat} {C : fr_C} {H9 : Heap} (h9 : fr_W D hCl z b C H9) {cI cZ cJ cP cO : ClassId} {th : Int32} {pg gr lf an n lc ps rw tk po : Nat} {hd : Nat → Int32} (m0 : C (0, 40) = some (.inr (5, fM b th pg gr lf an n lc ps rw tk po))) (m10 : C (0, 50) = some (.inl (cZ, 6, .inl hd))) (f : Int32) : Met l y_M_isHeld w_M_isHeld ({ frames := 1, cells := 0, slots := 0, locals := 22 }) (va_Pc [.ref (b 40), .int f] (fr_G D hCl (hTy cI cZ cJ cP cO) z b C)) (va_Qi (fun (r : Int32) (u : Unit) => tells r (isHeldP hd f)) (fun u t => fr_G D hCl (hTy cI cZ cJ cP cO) z ((fun _ => b) u) ((fun _ => C) u) t) (fr_A z)) 0 0 (fr_A z) := by
  refine Met.ofW (cc := b_M_isHeld) (maxL := 2) (ret := (some .boolean)) (by decide) rfl ?_
  intro p e s m args below meth c s₁ B hml hv
  obtain ⟨rfl, hE, hK⟩ := hv
  have hx := B.exec
  have hb := B.bytes
  have hr := B.returns
  have hts := atoms_spec (ws := w_M_isHeld) B.pre
  have hT : ∀ w ∈ hw_tbl, w.before _ s = true := fun w h => hts w (List.mem_cons_of_mem _ h)
  have hown : s.vm.findClass "HarvestStepsModel" = some m.cls := findClass_of_methodNamed B.named
  have hlocks := B.notSynchronized
  have hS : va_S (fr_A z) s.heap s.heap [] := va_S.rf
  have hl := lv_entry ([.ref (b 40), .int f]) (n := 2) (Nat.le_of_ble_eq_true rfl)
  rw [lg_entry_eq]
  generalize (lg_sl ([.ref (b 40), .int f]) ++ List.replicate (2 - (lg_sl ([.ref (b 40), .int f])).length) Slot.unset).toArray = ls at hl ⊢
  have hl : lv_has ls 2 [(0, .ref (b 40)), (1, .int f)] := hl
  refine lv_iload_n hx hb d_M_isHeld_0 rfl (lv_at hl 1 rfl) ?_
  refine lv_iconst (v := 0) hx hb d_M_isHeld_1 (by decide) ?_
  refine lv_iconst (v := 5) hx hb d_M_isHeld_2 (by decide) ?_
  refine fr_calli (va_runS (As := [.int f, .int 0, .int 5]) (rest := []) ⟨hx, hb, hml, hown, hts⟩ (c_M_in l hE f 0 5) (va_cwS 3 hts (hw_goodS kw_585 kw_586 kw_26 kw_587) rfl rfl rfl (by decide +kernel) ⟨Nat.le_of_ble_eq_true rfl, Nat.le_of_ble_eq_true rfl⟩) ⟨fr_blind, fr_pre hE hK⟩ rfl rfl hl.1 rfl (lv_room (Nat.le_of_ble_eq_true rfl)) d_M_isHeld_3 ⟨Nat.le_of_ble_eq_true rfl, Nat.le_of_ble_eq_true rfl⟩) hS (fun r_1 u_1 H locs w_1 hE hS => ?_)
  rcases w_1 with ⟨rfl, pw_1⟩ | ⟨rfl, pw_1⟩
  · skip
    replace pw_1 := (in0 (m := 6) (by decide) (by decide)).mp pw_1
    obtain ⟨j_1, hj_1, rfl⟩ := pw_1
    refine lv_if_eq (tgt := 22) hx hb d_M_isHeld_6 (by decide) (fun c_2 => ?_) (fun c_2 => ?_)
    · skip
      exact absurd c_2 (by decide)
    · skip
      refine lv_aload_n hx hb d_M_isHeld_9 rfl (lv_at hl 0 rfl) ?_
      refine fr_get (ci := 5) (Cn := hR_5) (T := hF_5) (N := 34) hx hb hT hi_5 hown hK hE (0, 40) rfl m0 rfl 10 (by decide) (hT _ kw_484) (fun _ h9 => h9) rfl d_M_isHeld_10 ?_
      refine lv_iload_n hx hb d_M_isHeld_13 rfl (lv_at hl 1 rfl) ?_
      refine fr_zald hx hb hK hE (0, 50) 1 rfl m10 rfl j_1 (rfl) (hj_1) (by decide) d_M_isHeld_14 ?_
      refine lv_if_eq (tgt := 22) hx hb d_M_isHeld_15 (by decide) (fun c_3 => ?_) (fun c_3 => ?_)
      · skip
        refine lv_iconst (v := 0) hx hb d_M_isHeld_22 (by decide) ?_
        refine W.widen (k := 0) (n := 0) (Nat.le_of_ble_eq_true rfl) (Nat.le_of_ble_eq_true rfl) ?_
        exact W.zret (v := 0) (ty := .boolean) hx hb hr rfl (fun t9 ht9 hW9 => ⟨⟨0, (), rfl, Or.inr ⟨rfl, not_isHeldP hj_1 c_3⟩, ⟨by rw [ht9]; exact hE, va_K.moved hW9.alike hK⟩⟩, hS.F ht9⟩) hS.2.2 d_M_isHeld_23
      · skip
        refine lv_iconst (v := 1) hx hb d_M_isHeld_18 (by decide) ?_
        refine lv_goto (tgt := 23) hx hb d_M_isHeld_19 (by decide) ?_
        refine W.widen (k := 0) (n := 0) (Nat.le_of_ble_eq_true rfl) (Nat.le_of_ble_eq_true rfl) ?_
        exact W.zret (v := 1) (ty := .boolean) hx hb hr rfl (fun t9 ht9 hW9 => ⟨⟨1, (), rfl, Or.inl ⟨rfl, j_1, hj_1, rfl, c_3⟩, ⟨by rw [ht9]; exact hE, va_K.moved hW9.alike hK⟩⟩, hS.F ht9⟩) hS.2.2 d_M_isHeld_23
  · skip
    replace pw_1 := fun q => pw_1 ((in0 (m := 6) (by decide) (by decide)).mpr q)
    refine lv_if_eq (tgt := 22) hx hb d_M_isHeld_6 (by decide) (fun c_4 => ?_) (fun c_4 => ?_)
    · skip
      refine lv_iconst (v := 0) hx hb d_M_isHeld_22 (by decide) ?_
      refine W.widen (k := 0) (n := 0) (Nat.le_of_ble_eq_true rfl) (Nat.le_of_ble_eq_true rfl) ?_
      exact W.zret (v := 0) (ty := .boolean) hx hb hr rfl (fun t9 ht9 hW9 => ⟨⟨0, (), rfl, Or.inr ⟨rfl, fun q => pw_1 (by obtain ⟨j, h1, h2, -⟩ := q; exact ⟨j, h1, h2⟩)⟩, ⟨by rw [ht9]; exact hE, va_K.moved hW9.alike hK⟩⟩, hS.F ht9⟩) hS.2.2 d_M_isHeld_23
    · skip
      exact absurd c_4 (by decide)
set_option maxHeartbeats 4000000 in
set_option maxRecDepth 100000 in
theorem c_M_act (l : Launch) {D : va_G} {z : Nat} {b : Nat → Nat} {C : fr_C} {H9 : Heap} (h9 : fr_W D hCl z b C H9) {cI cZ cJ cP cO : ClassId} {th : Int32} {pg gr lf an n lc ps rw tk po : Nat} {dy : Nat → Int32} {dl : Nat → Int32} {ac : Nat → Int32} (m0 : C (0, 40) = some (.inr (5, fM b th pg gr lf an n lc ps rw tk po))) (m7 : C (0, 47) = some (.inl (cI, 150, .inl dy))) (m8 : C (0, 48) = some (.inl (cZ, 150, .inl dl))) (m9 : C (0, 49) = some (.inl (cI, 150, .inl ac))) (j : Nat) (hj : j < 150) (day x : Int32) (hxx : vp_nar .boolean x = x) : Met l y_M_act w_M_act ({ frames := 0, cells := 0, slots := 0, locals := 0 }) (va_Pc [.ref (b 40), .int (nI j), .int day, .int x] (fr_G D hCl (hTy cI cZ cJ cP cO) z b C)) (va_Qv (fun (u : Unit) => True) (fun u t => fr_G D hCl (hTy cI cZ cJ cP cO) z ((fun _ => b) u) ((fun _ => mAct b C cI cZ th pg gr lf an n lc ps rw tk po ac dy dl j day x) u) t) (fr_A z)) 0 0 (fr_A z) := by
  refine Met.ofW (cc := b_M_act) (maxL := 4) (ret := none) (by decide) rfl ?_
  intro p e s m args below meth c s₁ B hml hv
  obtain ⟨rfl, hE, hK⟩ := hv
  have hx := B.exec
  have hb := B.bytes
  have hr := B.returns
  have hts := atoms_spec (ws := w_M_act) B.pre
  have hT : ∀ w ∈ hw_tbl, w.before _ s = true := fun w h => hts w (List.mem_cons_of_mem _ h)
  have hown : s.vm.findClass "HarvestStepsModel" = some m.cls := findClass_of_methodNamed B.named
  have hlocks := B.notSynchronized
  have hS : va_S (fr_A z) s.heap s.heap [] := va_S.rf
  have hl := lv_entry ([.ref (b 40), .int (nI j), .int day, .int x]) (n := 4) (Nat.le_of_ble_eq_true rfl)
  rw [lg_entry_eq]
  generalize (lg_sl ([.ref (b 40), .int (nI j), .int day, .int x]) ++ List.replicate (4 - (lg_sl ([.ref (b 40), .int (nI j), .int day, .int x])).length) Slot.unset).toArray = ls at hl ⊢
  have hl : lv_has ls 4 [(0, .ref (b 40)), (1, .int (nI j)), (2, .int day), (3, .int x)] := hl
  refine lv_aload_n hx hb d_M_act_0 rfl (lv_at hl 0 rfl) ?_
  refine lv_dup hx hb d_M_act_1 rfl ?_
  refine fr_get (ci := 5) (Cn := hR_5) (T := hF_5) (N := 34) hx hb hT hi_5 hown hK hE (0, 40) rfl m0 rfl 4 (by decide) (hT _ kw_478) (fun _ h9 => h9) rfl d_M_act_2 ?_
  refine lv_iconst (v := 1) hx hb d_M_act_5 (by decide) ?_
  refine lv_iadd hx hb d_M_act_6 ?_
  refine lv_topi (fun y_1 ey_1 => ?_)
  obtain rfl : y_1 = nI (an + 1) := ey_1.trans (nI_1 an)
  refine fr_put (ci := 5) (v := .int (nI (an + 1))) (ty := .int) (Cn := hR_5) (T := hF_5) (N := 34) hx hb hT hi_5 hy_5 ho_5 hn_5 hown hK hE hS (0, 40) rfl m0 rfl 4 (by decide) (hT _ kw_478) (fun _ h9 => h9) rfl (by decide +kernel) rfl rfl (Nat.le_of_ble_eq_true rfl) d_M_act_7 (fun H locs hE hS => ?_)
  refine lv_aload_n hx hb d_M_act_10 rfl (lv_at hl 0 rfl) ?_
  refine fr_get (ci := 5) (Cn := hR_5) (T := hF_5) (N := 34) hx hb hT hi_5 hown hK hE (0, 40) rfl rfl rfl 7 (by decide) (hT _ kw_481) (fun _ h9 => h9) rfl d_M_act_11 ?_
  refine lv_iload_n hx hb d_M_act_14 rfl (lv_at hl 1 rfl) ?_
  refine lv_iload_n hx hb d_M_act_15 rfl (lv_at hl 2 rfl) ?_
  refine fr_iast hx hb hK hE hS (0, 47) 0 rfl m7 rfl j (rfl) (hj) (by decide) d_M_act_16 (fun H locs hE hS => ?_)
  refine lv_aload_n hx hb d_M_act_17 rfl (lv_at hl 0 rfl) ?_
  refine fr_get (ci := 5) (Cn := hR_5) (T := hF_5) (N := 34) hx hb hT hi_5 hown hK hE (0, 40) rfl rfl rfl 8 (by decide) (hT _ kw_482) (fun _ h9 => h9) rfl d_M_act_18 ?_
  refine lv_iload_n hx hb d_M_act_21 rfl (lv_at hl 1 rfl) ?_
  refine lv_iload_n hx hb d_M_act_22 rfl (lv_at hl 3 rfl) ?_
  refine fr_zast hx hb hK hE hS (0, 48) 1 rfl m8 rfl j (rfl) (hj) (by decide) x (hxx) d_M_act_23 (fun H locs hE hS => ?_)
  refine lv_aload_n hx hb d_M_act_24 rfl (lv_at hl 0 rfl) ?_
  refine fr_get (ci := 5) (Cn := hR_5) (T := hF_5) (N := 34) hx hb hT hi_5 hown hK hE (0, 40) rfl rfl rfl 9 (by decide) (hT _ kw_483) (fun _ h9 => h9) rfl d_M_act_25 ?_
  refine lv_iload_n hx hb d_M_act_28 rfl (lv_at hl 1 rfl) ?_
  refine lv_aload_n hx hb d_M_act_29 rfl (lv_at hl 0 rfl) ?_
  refine fr_get (ci := 5) (Cn := hR_5) (T := hF_5) (N := 34) hx hb hT hi_5 hown hK hE (0, 40) rfl rfl rfl 4 (by decide) (hT _ kw_478) (fun _ h9 => h9) rfl d_M_act_30 ?_
  refine fr_iast hx hb hK hE hS (0, 49) 0 rfl m9 rfl j (rfl) (hj) (by decide) d_M_act_33 (fun H locs hE hS => ?_)
  refine W.widen (k := 0) (n := 0) (Nat.le_of_ble_eq_true rfl) (Nat.le_of_ble_eq_true rfl) ?_
  exact W.vret hx hb hr (fun t9 ht9 hW9 => ⟨⟨(), rfl, trivial, ⟨by rw [ht9]; exact hE, va_K.moved hW9.alike hK⟩⟩, hS.F ht9⟩) hS.2.2 d_M_act_34
set_option maxHeartbeats 4000000 in
set_option maxRecDepth 100000 in
theorem c_M_record (l : Launch) {D : va_G} {z : Nat} {b : Nat → Nat} {C : fr_C} {H9 : Heap} (h9 : fr_W D hCl z b C H9) {cI cZ cJ cP cO : ClassId} {th : Int32} {pg gr lf an n lc ps rw tk po : Nat} {st : Nat → Int32} {dy : Nat → Int32} {dl : Nat → Int32} {ac : Nat → Int32} (m0 : C (0, 40) = some (.inr (5, fM b th pg gr lf an n lc ps rw tk po))) (m6 : C (0, 46) = some (.inl (cI, 150, .inl st))) (m7 : C (0, 47) = some (.inl (cI, 150, .inl dy))) (m8 : C (0, 48) = some (.inl (cZ, 150, .inl dl))) (m9 : C (0, 49) = some (.inl (cI, 150, .inl ac))) (hn : n ≤ 150) (hg : 1 ≤ gr ∧ gr ≤ 100) (set day : Int32) : Met l y_M_record w_M_record ({ frames := 2, cells := 0, slots := 0, locals := 44 }) (va_Pc [.ref (b 40), .int set, .int day] (fr_G D hCl (hTy cI cZ cJ cP cO) z b C)) (va_Qi (fun (r : Int32) (u : fr_C) => (¬ (inN set 10 ∧ okDay gr day) ∧ r = -2 ∧ u = fr_up C (0, 40) (.inr (5, fM b 0 pg gr lf an n lc ps rw tk po))) ∨ ((inN set 10 ∧ okDay gr day) ∧ 150 ≤ n ∧ r = -4 ∧ u = fr_up C (0, 40) (.inr (5, fM b 0 pg gr lf an n lc ps rw tk po))) ∨ ((inN set 10 ∧ okDay gr day) ∧ n < 150 ∧ r = nI n ∧ u = mRec b C cI cZ pg gr lf an n lc ps rw tk po st ac dy dl set day)) (fun u t => fr_G D hCl (hTy cI cZ cJ cP cO) z ((fun _ => b) u) ((fun u => u) u) t) (fr_A z)) 0 0 (fr_A z) := by
  refine Met.ofW (cc := b_M_record) (maxL := 3) (ret := (some .int)) (by decide) rfl ?_
  intro p e s m args below meth c s₁ B hml hv
  obtain ⟨rfl, hE, hK⟩ := hv
  have hx := B.exec
  have hb := B.bytes
  have hr := B.returns
  have hts := atoms_spec (ws := w_M_record) B.pre
  have hT : ∀ w ∈ hw_tbl, w.before _ s = true := fun w h => hts w (List.mem_cons_of_mem _ h)
  have hown : s.vm.findClass "HarvestStepsModel" = some m.cls := findClass_of_methodNamed B.named
  have hlocks := B.notSynchronized
  have hS : va_S (fr_A z) s.heap s.heap [] := va_S.rf
  have hl := lv_entry ([.ref (b 40), .int set, .int day]) (n := 3) (Nat.le_of_ble_eq_true rfl)
  rw [lg_entry_eq]
  generalize (lg_sl ([.ref (b 40), .int set, .int day]) ++ List.replicate (3 - (lg_sl ([.ref (b 40), .int set, .int day])).length) Slot.unset).toArray = ls at hl ⊢
  have hl : lv_has ls 3 [(0, .ref (b 40)), (1, .int set), (2, .int day)] := hl
  refine lv_aload_n hx hb d_M_record_0 rfl (lv_at hl 0 rfl) ?_
  refine lv_iconst (v := 0) hx hb d_M_record_1 (by decide) ?_
  refine fr_put (ci := 5) (v := .int 0) (ty := .int) (Cn := hR_5) (T := hF_5) (N := 34) hx hb hT hi_5 hy_5 ho_5 hn_5 hown hK hE hS (0, 40) rfl m0 rfl 0 (by decide) (hT _ kw_474) (fun _ h9 => h9) rfl (by decide +kernel) rfl rfl (Nat.le_of_ble_eq_true rfl) d_M_record_2 (fun H locs hE hS => ?_)
  refine lv_iload_n hx hb d_M_record_5 rfl (lv_at hl 1 rfl) ?_
  refine lv_iconst (v := 0) hx hb d_M_record_6 (by decide) ?_
  refine lv_bipush (v := 9) hx hb d_M_record_7 (by decide) ?_
  refine fr_calli (va_runS (As := [.int set, .int 0, .int 9]) (rest := []) ⟨hx, hb, hml, hown, hts⟩ (c_M_in l hE set 0 9) (va_cwS 3 hts (hw_goodS kw_585 kw_586 kw_26 kw_587) rfl rfl rfl (by decide +kernel) ⟨Nat.le_of_ble_eq_true rfl, Nat.le_of_ble_eq_true rfl⟩) ⟨fr_blind, fr_pre hE hK⟩ rfl rfl hl.1 rfl (lv_room (Nat.le_of_ble_eq_true rfl)) d_M_record_9 ⟨Nat.le_of_ble_eq_true rfl, Nat.le_of_ble_eq_true rfl⟩) hS (fun r_1 u_1 H locs w_1 hE hS => ?_)
  rcases w_1 with ⟨rfl, pw_1⟩ | ⟨rfl, pw_1⟩
  · skip
    replace pw_1 := (in0 (m := 10) (by decide) (by decide)).mp pw_1
    refine lv_if_eq (tgt := 23) hx hb d_M_record_12 (by decide) (fun c_2 => ?_) (fun c_2 => ?_)
    · skip
      exact absurd c_2 (by decide)
    · skip
      refine lv_aload_n hx hb d_M_record_15 rfl (lv_at hl 0 rfl) ?_
      refine lv_iload_n hx hb d_M_record_16 rfl (lv_at hl 2 rfl) ?_
      refine fr_calli (va_runV (As := [.int day]) (rest := []) ⟨hx, hb, hml, hown, hts⟩ (c_M_isDay l hE (pg := pg) (gr := gr) (lf := lf) (an := an) (n := n) (lc := lc) (ps := ps) (rw := rw) (tk := tk) (po := po) rfl hg day) (cwV 1 hts (hw_goodV kw_588 kw_590 kw_13 kw_26 kw_591) rfl rfl rfl (by decide +kernel) ⟨Nat.le_of_ble_eq_true rfl, Nat.le_of_ble_eq_true rfl⟩) ⟨fr_blind, fr_recv hK hE (0, 40) rfl rfl (ci := 5) rfl, fr_pre hE hK⟩ rfl rfl hl.1 rfl (lv_room (Nat.le_of_ble_eq_true rfl)) d_M_record_17 ⟨Nat.le_of_ble_eq_true rfl, Nat.le_of_ble_eq_true rfl⟩) hS (fun r_3 u_3 H locs w_3 hE hS => ?_)
      rcases w_3 with ⟨rfl, pw_3⟩ | ⟨rfl, pw_3⟩
      · skip
        refine lv_if_ne (tgt := 26) hx hb d_M_record_20 (by decide) (fun c_4 => ?_) (fun c_4 => ?_)
        · skip
          refine lv_aload_n hx hb d_M_record_26 rfl (lv_at hl 0 rfl) ?_
          refine fr_get (ci := 5) (Cn := hR_5) (T := hF_5) (N := 34) hx hb hT hi_5 hown hK hE (0, 40) rfl rfl rfl 5 (by decide) (hT _ kw_479) (fun _ h9 => h9) rfl d_M_record_27 ?_
          refine lv_sipush (v := 150) hx hb d_M_record_30 (by decide) ?_
          refine lv_icmp_ne (tgt := 39) hx hb d_M_record_33 (by decide) (fun c_5 => ?_) (fun c_5 => ?_)
          · skip
            have k_c_5 : n < 150 := by rcases Nat.lt_or_ge n 150 with q | q; exact q; exact absurd (by rw [show n = 150 by omega]; rfl) c_5
            refine lv_aload_n hx hb d_M_record_39 rfl (lv_at hl 0 rfl) ?_
            refine fr_get (ci := 5) (Cn := hR_5) (T := hF_5) (N := 34) hx hb hT hi_5 hown hK hE (0, 40) rfl rfl rfl 6 (by decide) (hT _ kw_480) (fun _ h9 => h9) rfl d_M_record_40 ?_
            refine lv_aload_n hx hb d_M_record_43 rfl (lv_at hl 0 rfl) ?_
            refine fr_get (ci := 5) (Cn := hR_5) (T := hF_5) (N := 34) hx hb hT hi_5 hown hK hE (0, 40) rfl rfl rfl 5 (by decide) (hT _ kw_479) (fun _ h9 => h9) rfl d_M_record_44 ?_
            refine lv_iload_n hx hb d_M_record_47 rfl (lv_at hl 1 rfl) ?_
            refine fr_iast hx hb hK hE hS (0, 46) 0 rfl m6 rfl n (rfl) (k_c_5) (by decide) d_M_record_48 (fun H locs hE hS => ?_)
            refine lv_aload_n hx hb d_M_record_49 rfl (lv_at hl 0 rfl) ?_
            refine lv_aload_n hx hb d_M_record_50 rfl (lv_at hl 0 rfl) ?_
            refine fr_get (ci := 5) (Cn := hR_5) (T := hF_5) (N := 34) hx hb hT hi_5 hown hK hE (0, 40) rfl rfl rfl 5 (by decide) (hT _ kw_479) (fun _ h9 => h9) rfl d_M_record_51 ?_
            refine lv_iload_n hx hb d_M_record_54 rfl (lv_at hl 2 rfl) ?_
            refine lv_iconst (v := 0) hx hb d_M_record_55 (by decide) ?_
            refine fr_callv (va_runV (As := [.int (nI n), .int day, .int 0]) (rest := []) ⟨hx, hb, hml, hown, hts⟩ (c_M_act l hE (pg := pg) (gr := gr) (lf := lf) (an := an) (n := n) (lc := lc) (ps := ps) (rw := rw) (tk := tk) (po := po) rfl m7 m8 m9 n k_c_5 day 0 (by decide)) (cwV 3 hts (hw_goodV kw_592 kw_594 kw_14 kw_26 kw_595) rfl rfl rfl (by decide +kernel) ⟨Nat.le_of_ble_eq_true rfl, Nat.le_of_ble_eq_true rfl⟩) ⟨fr_blind, fr_recv hK hE (0, 40) rfl rfl (ci := 5) rfl, fr_pre hE hK⟩ rfl rfl hl.1 rfl (lv_room (Nat.le_of_ble_eq_true rfl)) d_M_record_56 ⟨Nat.le_of_ble_eq_true rfl, Nat.le_of_ble_eq_true rfl⟩) hS (fun u_6 H locs w_6 hE hS => ?_)
            refine lv_aload_n hx hb d_M_record_59 rfl (lv_at hl 0 rfl) ?_
            refine lv_dup hx hb d_M_record_60 rfl ?_
            refine fr_get (ci := 5) (Cn := hR_5) (T := hF_5) (N := 34) hx hb hT hi_5 hown hK hE (0, 40) rfl rfl rfl 5 (by decide) (hT _ kw_479) (fun _ h9 => h9) rfl d_M_record_61 ?_
            refine lv_iconst (v := 1) hx hb d_M_record_64 (by decide) ?_
            refine lv_iadd hx hb d_M_record_65 ?_
            refine lv_topi (fun y_7 ey_7 => ?_)
            obtain rfl : y_7 = nI (n + 1) := ey_7.trans (nI_1 n)
            refine fr_put (ci := 5) (v := .int (nI (n + 1))) (ty := .int) (Cn := hR_5) (T := hF_5) (N := 34) hx hb hT hi_5 hy_5 ho_5 hn_5 hown hK hE hS (0, 40) rfl rfl rfl 5 (by decide) (hT _ kw_479) (fun _ h9 => h9) rfl (by decide +kernel) rfl rfl (Nat.le_of_ble_eq_true rfl) d_M_record_66 (fun H locs hE hS => ?_)
            refine lv_aload_n hx hb d_M_record_69 rfl (lv_at hl 0 rfl) ?_
            refine fr_get (ci := 5) (Cn := hR_5) (T := hF_5) (N := 34) hx hb hT hi_5 hown hK hE (0, 40) rfl rfl rfl 5 (by decide) (hT _ kw_479) (fun _ h9 => h9) rfl d_M_record_70 ?_
            refine lv_iconst (v := 1) hx hb d_M_record_73 (by decide) ?_
            refine lv_isub hx hb d_M_record_74 ?_
            refine lv_topi (fun y_8 ey_8 => ?_)
            obtain rfl : y_8 = nI n := ey_8.trans (nI_pred n)
            refine W.widen (k := 0) (n := 0) (Nat.le_of_ble_eq_true rfl) (Nat.le_of_ble_eq_true rfl) ?_
            exact W.iret (v := nI n) hx hb hr (fun t9 ht9 hW9 => ⟨⟨nI n, _, rfl, Or.inr (Or.inr ⟨⟨pw_1, pw_3⟩, k_c_5, rfl, rfl⟩), ⟨by rw [ht9]; exact hE, va_K.moved hW9.alike hK⟩⟩, hS.F ht9⟩) hS.2.2 d_M_record_75
          · skip
            refine lv_bipush (v := (-4)) hx hb d_M_record_36 (by decide) ?_
            refine W.widen (k := 0) (n := 0) (Nat.le_of_ble_eq_true rfl) (Nat.le_of_ble_eq_true rfl) ?_
            exact W.iret (v := (-4)) hx hb hr (fun t9 ht9 hW9 => ⟨⟨(-4), _, rfl, Or.inr (Or.inl ⟨⟨pw_1, pw_3⟩, by have := (nI_eq (a := n) (b := 150) (by omega) (by decide)).mp c_5; omega, rfl, rfl⟩), ⟨by rw [ht9]; exact hE, va_K.moved hW9.alike hK⟩⟩, hS.F ht9⟩) hS.2.2 d_M_record_38
        · skip
          exact absurd c_4 (by decide)
      · skip
        refine lv_if_ne (tgt := 26) hx hb d_M_record_20 (by decide) (fun c_9 => ?_) (fun c_9 => ?_)
        · skip
          exact absurd c_9 (by decide)
        · skip
          refine lv_bipush (v := (-2)) hx hb d_M_record_23 (by decide) ?_
          refine W.widen (k := 0) (n := 0) (Nat.le_of_ble_eq_true rfl) (Nat.le_of_ble_eq_true rfl) ?_
          exact W.iret (v := (-2)) hx hb hr (fun t9 ht9 hW9 => ⟨⟨(-2), _, rfl, Or.inl ⟨fun q => pw_3 q.2, rfl, rfl⟩, ⟨by rw [ht9]; exact hE, va_K.moved hW9.alike hK⟩⟩, hS.F ht9⟩) hS.2.2 d_M_record_25
  · skip
    replace pw_1 := fun q => pw_1 ((in0 (m := 10) (by decide) (by decide)).mpr q)
    refine lv_if_eq (tgt := 23) hx hb d_M_record_12 (by decide) (fun c_10 => ?_) (fun c_10 => ?_)
    · skip
      refine lv_bipush (v := (-2)) hx hb d_M_record_23 (by decide) ?_
      refine W.widen (k := 0) (n := 0) (Nat.le_of_ble_eq_true rfl) (Nat.le_of_ble_eq_true rfl) ?_
      exact W.iret (v := (-2)) hx hb hr (fun t9 ht9 hW9 => ⟨⟨(-2), _, rfl, Or.inl ⟨fun q => pw_1 q.1, rfl, rfl⟩, ⟨by rw [ht9]; exact hE, va_K.moved hW9.alike hK⟩⟩, hS.F ht9⟩) hS.2.2 d_M_record_25
    · skip
      exact absurd c_10 (by decide)
set_option maxHeartbeats 4000000 in
set_option maxRecDepth 100000 in
theorem c_M_change (l : Launch) {D : va_G} {z : Nat} {b : Nat → Nat} {C : fr_C} {H9 : Heap} (h9 : fr_W D hCl z b C H9) {cI cZ cJ cP cO : ClassId} {th : Int32} {pg gr lf an n lc ps rw tk po : Nat} {dy : Nat → Int32} {dl : Nat → Int32} {ac : Nat → Int32} (m0 : C (0, 40) = some (.inr (5, fM b th pg gr lf an n lc ps rw tk po))) (m7 : C (0, 47) = some (.inl (cI, 150, .inl dy))) (m8 : C (0, 48) = some (.inl (cZ, 150, .inl dl))) (m9 : C (0, 49) = some (.inl (cI, 150, .inl ac))) (hn : n ≤ 150) (hg : 1 ≤ gr ∧ gr ≤ 100) (rc day : Int32) : Met l y_M_change w_M_change ({ frames := 2, cells := 0, slots := 0, locals := 44 }) (va_Pc [.ref (b 40), .int rc, .int day] (fr_G D hCl (hTy cI cZ cJ cP cO) z b C)) (va_Qi (fun (r : Int32) (u : fr_C) => (¬ inN rc n ∧ r = -1 ∧ u = fr_up C (0, 40) (.inr (5, fM b 0 pg gr lf an n lc ps rw tk po))) ∨ (inN rc n ∧ ¬ okDay gr day ∧ r = -2 ∧ u = fr_up C (0, 40) (.inr (5, fM b 0 pg gr lf an n lc ps rw tk po))) ∨ (∃ j : Nat, j < n ∧ rc = nI j ∧ okDay gr day ∧ (((day < dy j) ∧ r = -3 ∧ u = fr_up C (0, 40) (.inr (5, fM b 0 pg gr lf an n lc ps rw tk po))) ∨ (¬ (day < dy j) ∧ r = 1 ∧ u = mAct b (fr_up C (0, 40) (.inr (5, fM b 0 pg gr lf an n lc ps rw tk po))) cI cZ 0 pg gr lf an n lc ps rw tk po ac dy dl j day 0)))) (fun u t => fr_G D hCl (hTy cI cZ cJ cP cO) z ((fun _ => b) u) ((fun u => u) u) t) (fr_A z)) 0 0 (fr_A z) := by
  refine Met.ofW (cc := b_M_change) (maxL := 3) (ret := (some .int)) (by decide) rfl ?_
  intro p e s m args below meth c s₁ B hml hv
  obtain ⟨rfl, hE, hK⟩ := hv
  have hx := B.exec
  have hb := B.bytes
  have hr := B.returns
  have hts := atoms_spec (ws := w_M_change) B.pre
  have hT : ∀ w ∈ hw_tbl, w.before _ s = true := fun w h => hts w (List.mem_cons_of_mem _ h)
  have hown : s.vm.findClass "HarvestStepsModel" = some m.cls := findClass_of_methodNamed B.named
  have hlocks := B.notSynchronized
  have hS : va_S (fr_A z) s.heap s.heap [] := va_S.rf
  have hl := lv_entry ([.ref (b 40), .int rc, .int day]) (n := 3) (Nat.le_of_ble_eq_true rfl)
  rw [lg_entry_eq]
  generalize (lg_sl ([.ref (b 40), .int rc, .int day]) ++ List.replicate (3 - (lg_sl ([.ref (b 40), .int rc, .int day])).length) Slot.unset).toArray = ls at hl ⊢
  have hl : lv_has ls 3 [(0, .ref (b 40)), (1, .int rc), (2, .int day)] := hl
  refine lv_aload_n hx hb d_M_change_0 rfl (lv_at hl 0 rfl) ?_
  refine lv_iconst (v := 0) hx hb d_M_change_1 (by decide) ?_
  refine fr_put (ci := 5) (v := .int 0) (ty := .int) (Cn := hR_5) (T := hF_5) (N := 34) hx hb hT hi_5 hy_5 ho_5 hn_5 hown hK hE hS (0, 40) rfl m0 rfl 0 (by decide) (hT _ kw_474) (fun _ h9 => h9) rfl (by decide +kernel) rfl rfl (Nat.le_of_ble_eq_true rfl) d_M_change_2 (fun H locs hE hS => ?_)
  refine lv_aload_n hx hb d_M_change_5 rfl (lv_at hl 0 rfl) ?_
  refine lv_iload_n hx hb d_M_change_6 rfl (lv_at hl 1 rfl) ?_
  refine fr_calli (va_runV (As := [.int rc]) (rest := []) ⟨hx, hb, hml, hown, hts⟩ (c_M_isRecord l hE (pg := pg) (gr := gr) (lf := lf) (an := an) (n := n) (lc := lc) (ps := ps) (rw := rw) (tk := tk) (po := po) rfl hn rc) (cwV 1 hts (hw_goodV kw_600 kw_602 kw_15 kw_26 kw_603) rfl rfl rfl (by decide +kernel) ⟨Nat.le_of_ble_eq_true rfl, Nat.le_of_ble_eq_true rfl⟩) ⟨fr_blind, fr_recv hK hE (0, 40) rfl rfl (ci := 5) rfl, fr_pre hE hK⟩ rfl rfl hl.1 rfl (lv_room (Nat.le_of_ble_eq_true rfl)) d_M_change_7 ⟨Nat.le_of_ble_eq_true rfl, Nat.le_of_ble_eq_true rfl⟩) hS (fun r_1 u_1 H locs w_1 hE hS => ?_)
  rcases w_1 with ⟨rfl, pw_1⟩ | ⟨rfl, pw_1⟩
  · skip
    obtain ⟨j_1, hj_1, rfl⟩ := pw_1
    refine lv_if_ne (tgt := 15) hx hb d_M_change_10 (by decide) (fun c_2 => ?_) (fun c_2 => ?_)
    · skip
      refine lv_aload_n hx hb d_M_change_15 rfl (lv_at hl 0 rfl) ?_
      refine lv_iload_n hx hb d_M_change_16 rfl (lv_at hl 2 rfl) ?_
      refine fr_calli (va_runV (As := [.int day]) (rest := []) ⟨hx, hb, hml, hown, hts⟩ (c_M_isDay l hE (pg := pg) (gr := gr) (lf := lf) (an := an) (n := n) (lc := lc) (ps := ps) (rw := rw) (tk := tk) (po := po) rfl hg day) (cwV 1 hts (hw_goodV kw_588 kw_590 kw_13 kw_26 kw_591) rfl rfl rfl (by decide +kernel) ⟨Nat.le_of_ble_eq_true rfl, Nat.le_of_ble_eq_true rfl⟩) ⟨fr_blind, fr_recv hK hE (0, 40) rfl rfl (ci := 5) rfl, fr_pre hE hK⟩ rfl rfl hl.1 rfl (lv_room (Nat.le_of_ble_eq_true rfl)) d_M_change_17 ⟨Nat.le_of_ble_eq_true rfl, Nat.le_of_ble_eq_true rfl⟩) hS (fun r_3 u_3 H locs w_3 hE hS => ?_)
      rcases w_3 with ⟨rfl, pw_3⟩ | ⟨rfl, pw_3⟩
      · skip
        refine lv_if_ne (tgt := 26) hx hb d_M_change_20 (by decide) (fun c_4 => ?_) (fun c_4 => ?_)
        · skip
          refine lv_iload_n hx hb d_M_change_26 rfl (lv_at hl 2 rfl) ?_
          refine lv_aload_n hx hb d_M_change_27 rfl (lv_at hl 0 rfl) ?_
          refine fr_get (ci := 5) (Cn := hR_5) (T := hF_5) (N := 34) hx hb hT hi_5 hown hK hE (0, 40) rfl rfl rfl 7 (by decide) (hT _ kw_481) (fun _ h9 => h9) rfl d_M_change_28 ?_
          refine lv_iload_n hx hb d_M_change_31 rfl (lv_at hl 1 rfl) ?_
          refine fr_iald hx hb hK hE (0, 47) 0 rfl m7 rfl j_1 (rfl) (by omega) (by decide) d_M_change_32 ?_
          refine lv_icmp_ge (tgt := 39) hx hb d_M_change_33 (by decide) (fun c_5 => ?_) (fun c_5 => ?_)
          · skip
            refine lv_aload_n hx hb d_M_change_39 rfl (lv_at hl 0 rfl) ?_
            refine lv_iload_n hx hb d_M_change_40 rfl (lv_at hl 1 rfl) ?_
            refine lv_iload_n hx hb d_M_change_41 rfl (lv_at hl 2 rfl) ?_
            refine lv_iconst (v := 0) hx hb d_M_change_42 (by decide) ?_
            refine fr_callv (va_runV (As := [.int (nI j_1), .int day, .int 0]) (rest := []) ⟨hx, hb, hml, hown, hts⟩ (c_M_act l hE (pg := pg) (gr := gr) (lf := lf) (an := an) (n := n) (lc := lc) (ps := ps) (rw := rw) (tk := tk) (po := po) rfl m7 m8 m9 j_1 (by omega) day 0 (by decide)) (cwV 3 hts (hw_goodV kw_592 kw_594 kw_14 kw_26 kw_595) rfl rfl rfl (by decide +kernel) ⟨Nat.le_of_ble_eq_true rfl, Nat.le_of_ble_eq_true rfl⟩) ⟨fr_blind, fr_recv hK hE (0, 40) rfl rfl (ci := 5) rfl, fr_pre hE hK⟩ rfl rfl hl.1 rfl (lv_room (Nat.le_of_ble_eq_true rfl)) d_M_change_43 ⟨Nat.le_of_ble_eq_true rfl, Nat.le_of_ble_eq_true rfl⟩) hS (fun u_6 H locs w_6 hE hS => ?_)
            refine lv_iconst (v := 1) hx hb d_M_change_46 (by decide) ?_
            refine W.widen (k := 0) (n := 0) (Nat.le_of_ble_eq_true rfl) (Nat.le_of_ble_eq_true rfl) ?_
            exact W.iret (v := 1) hx hb hr (fun t9 ht9 hW9 => ⟨⟨1, _, rfl, Or.inr (Or.inr ⟨j_1, hj_1, rfl, pw_3, Or.inr ⟨Int32.not_lt.mpr c_5, rfl, rfl⟩⟩), ⟨by rw [ht9]; exact hE, va_K.moved hW9.alike hK⟩⟩, hS.F ht9⟩) hS.2.2 d_M_change_47
          · skip
            refine lv_bipush (v := (-3)) hx hb d_M_change_36 (by decide) ?_
            refine W.widen (k := 0) (n := 0) (Nat.le_of_ble_eq_true rfl) (Nat.le_of_ble_eq_true rfl) ?_
            exact W.iret (v := (-3)) hx hb hr (fun t9 ht9 hW9 => ⟨⟨(-3), _, rfl, Or.inr (Or.inr ⟨j_1, hj_1, rfl, pw_3, Or.inl ⟨Int32.not_le.mp c_5, rfl, rfl⟩⟩), ⟨by rw [ht9]; exact hE, va_K.moved hW9.alike hK⟩⟩, hS.F ht9⟩) hS.2.2 d_M_change_38
        · skip
          exact absurd c_4 (by decide)
      · skip
        refine lv_if_ne (tgt := 26) hx hb d_M_change_20 (by decide) (fun c_7 => ?_) (fun c_7 => ?_)
        · skip
          exact absurd c_7 (by decide)
        · skip
          refine lv_bipush (v := (-2)) hx hb d_M_change_23 (by decide) ?_
          refine W.widen (k := 0) (n := 0) (Nat.le_of_ble_eq_true rfl) (Nat.le_of_ble_eq_true rfl) ?_
          exact W.iret (v := (-2)) hx hb hr (fun t9 ht9 hW9 => ⟨⟨(-2), _, rfl, Or.inr (Or.inl ⟨⟨j_1, hj_1, rfl⟩, pw_3, rfl, rfl⟩), ⟨by rw [ht9]; exact hE, va_K.moved hW9.alike hK⟩⟩, hS.F ht9⟩) hS.2.2 d_M_change_25
    · skip
      exact absurd c_2 (by decide)
  · skip
    refine lv_if_ne (tgt := 15) hx hb d_M_change_10 (by decide) (fun c_8 => ?_) (fun c_8 => ?_)
    · skip
      exact absurd c_8 (by decide)
    · skip
      refine lv_iconst (v := (-1)) hx hb d_M_change_13 (by decide) ?_
      refine W.widen (k := 0) (n := 0) (Nat.le_of_ble_eq_true rfl) (Nat.le_of_ble_eq_true rfl) ?_
      exact W.iret (v := (-1)) hx hb hr (fun t9 ht9 hW9 => ⟨⟨(-1), _, rfl, Or.inl ⟨pw_1, rfl, rfl⟩, ⟨by rw [ht9]; exact hE, va_K.moved hW9.alike hK⟩⟩, hS.F ht9⟩) hS.2.2 d_M_change_14
set_option maxHeartbeats 4000000 in
set_option maxRecDepth 100000 in
theorem c_M_delete (l : Launch) {D : va_G} {z : Nat} {b : Nat → Nat} {C : fr_C} {H9 : Heap} (h9 : fr_W D hCl z b C H9) {cI cZ cJ cP cO : ClassId} {th : Int32} {pg gr lf an n lc ps rw tk po : Nat} {dy : Nat → Int32} {dl : Nat → Int32} {ac : Nat → Int32} (m0 : C (0, 40) = some (.inr (5, fM b th pg gr lf an n lc ps rw tk po))) (m7 : C (0, 47) = some (.inl (cI, 150, .inl dy))) (m8 : C (0, 48) = some (.inl (cZ, 150, .inl dl))) (m9 : C (0, 49) = some (.inl (cI, 150, .inl ac))) (hn : n ≤ 150) (hg : 1 ≤ gr ∧ gr ≤ 100) (rc day : Int32) : Met l y_M_delete w_M_delete ({ frames := 2, cells := 0, slots := 0, locals := 44 }) (va_Pc [.ref (b 40), .int rc, .int day] (fr_G D hCl (hTy cI cZ cJ cP cO) z b C)) (va_Qi (fun (r : Int32) (u : fr_C) => (¬ inN rc n ∧ r = -1 ∧ u = fr_up C (0, 40) (.inr (5, fM b 0 pg gr lf an n lc ps rw tk po))) ∨ (inN rc n ∧ ¬ okDay gr day ∧ r = -2 ∧ u = fr_up C (0, 40) (.inr (5, fM b 0 pg gr lf an n lc ps rw tk po))) ∨ (∃ j : Nat, j < n ∧ rc = nI j ∧ okDay gr day ∧ (((¬ dl j = 0 ∨ day < dy j) ∧ r = -3 ∧ u = fr_up C (0, 40) (.inr (5, fM b 0 pg gr lf an n lc ps rw tk po))) ∨ (¬ (¬ dl j = 0 ∨ day < dy j) ∧ r = 1 ∧ u = mAct b (fr_up C (0, 40) (.inr (5, fM b 0 pg gr lf an n lc ps rw tk po))) cI cZ 0 pg gr lf an n lc ps rw tk po ac dy dl j day 1)))) (fun u t => fr_G D hCl (hTy cI cZ cJ cP cO) z ((fun _ => b) u) ((fun u => u) u) t) (fr_A z)) 0 0 (fr_A z) := by
  refine Met.ofW (cc := b_M_delete) (maxL := 3) (ret := (some .int)) (by decide) rfl ?_
  intro p e s m args below meth c s₁ B hml hv
  obtain ⟨rfl, hE, hK⟩ := hv
  have hx := B.exec
  have hb := B.bytes
  have hr := B.returns
  have hts := atoms_spec (ws := w_M_delete) B.pre
  have hT : ∀ w ∈ hw_tbl, w.before _ s = true := fun w h => hts w (List.mem_cons_of_mem _ h)
  have hown : s.vm.findClass "HarvestStepsModel" = some m.cls := findClass_of_methodNamed B.named
  have hlocks := B.notSynchronized
  have hS : va_S (fr_A z) s.heap s.heap [] := va_S.rf
  have hl := lv_entry ([.ref (b 40), .int rc, .int day]) (n := 3) (Nat.le_of_ble_eq_true rfl)
  rw [lg_entry_eq]
  generalize (lg_sl ([.ref (b 40), .int rc, .int day]) ++ List.replicate (3 - (lg_sl ([.ref (b 40), .int rc, .int day])).length) Slot.unset).toArray = ls at hl ⊢
  have hl : lv_has ls 3 [(0, .ref (b 40)), (1, .int rc), (2, .int day)] := hl
  refine lv_aload_n hx hb d_M_delete_0 rfl (lv_at hl 0 rfl) ?_
  refine lv_iconst (v := 0) hx hb d_M_delete_1 (by decide) ?_
  refine fr_put (ci := 5) (v := .int 0) (ty := .int) (Cn := hR_5) (T := hF_5) (N := 34) hx hb hT hi_5 hy_5 ho_5 hn_5 hown hK hE hS (0, 40) rfl m0 rfl 0 (by decide) (hT _ kw_474) (fun _ h9 => h9) rfl (by decide +kernel) rfl rfl (Nat.le_of_ble_eq_true rfl) d_M_delete_2 (fun H locs hE hS => ?_)
  refine lv_aload_n hx hb d_M_delete_5 rfl (lv_at hl 0 rfl) ?_
  refine lv_iload_n hx hb d_M_delete_6 rfl (lv_at hl 1 rfl) ?_
  refine fr_calli (va_runV (As := [.int rc]) (rest := []) ⟨hx, hb, hml, hown, hts⟩ (c_M_isRecord l hE (pg := pg) (gr := gr) (lf := lf) (an := an) (n := n) (lc := lc) (ps := ps) (rw := rw) (tk := tk) (po := po) rfl hn rc) (cwV 1 hts (hw_goodV kw_600 kw_602 kw_15 kw_26 kw_603) rfl rfl rfl (by decide +kernel) ⟨Nat.le_of_ble_eq_true rfl, Nat.le_of_ble_eq_true rfl⟩) ⟨fr_blind, fr_recv hK hE (0, 40) rfl rfl (ci := 5) rfl, fr_pre hE hK⟩ rfl rfl hl.1 rfl (lv_room (Nat.le_of_ble_eq_true rfl)) d_M_delete_7 ⟨Nat.le_of_ble_eq_true rfl, Nat.le_of_ble_eq_true rfl⟩) hS (fun r_1 u_1 H locs w_1 hE hS => ?_)
  rcases w_1 with ⟨rfl, pw_1⟩ | ⟨rfl, pw_1⟩
  · skip
    obtain ⟨j_1, hj_1, rfl⟩ := pw_1
    refine lv_if_ne (tgt := 15) hx hb d_M_delete_10 (by decide) (fun c_2 => ?_) (fun c_2 => ?_)
    · skip
      refine lv_aload_n hx hb d_M_delete_15 rfl (lv_at hl 0 rfl) ?_
      refine lv_iload_n hx hb d_M_delete_16 rfl (lv_at hl 2 rfl) ?_
      refine fr_calli (va_runV (As := [.int day]) (rest := []) ⟨hx, hb, hml, hown, hts⟩ (c_M_isDay l hE (pg := pg) (gr := gr) (lf := lf) (an := an) (n := n) (lc := lc) (ps := ps) (rw := rw) (tk := tk) (po := po) rfl hg day) (cwV 1 hts (hw_goodV kw_588 kw_590 kw_13 kw_26 kw_591) rfl rfl rfl (by decide +kernel) ⟨Nat.le_of_ble_eq_true rfl, Nat.le_of_ble_eq_true rfl⟩) ⟨fr_blind, fr_recv hK hE (0, 40) rfl rfl (ci := 5) rfl, fr_pre hE hK⟩ rfl rfl hl.1 rfl (lv_room (Nat.le_of_ble_eq_true rfl)) d_M_delete_17 ⟨Nat.le_of_ble_eq_true rfl, Nat.le_of_ble_eq_true rfl⟩) hS (fun r_3 u_3 H locs w_3 hE hS => ?_)
      rcases w_3 with ⟨rfl, pw_3⟩ | ⟨rfl, pw_3⟩
      · skip
        refine lv_if_ne (tgt := 26) hx hb d_M_delete_20 (by decide) (fun c_4 => ?_) (fun c_4 => ?_)
        · skip
          refine lv_aload_n hx hb d_M_delete_26 rfl (lv_at hl 0 rfl) ?_
          refine fr_get (ci := 5) (Cn := hR_5) (T := hF_5) (N := 34) hx hb hT hi_5 hown hK hE (0, 40) rfl rfl rfl 8 (by decide) (hT _ kw_482) (fun _ h9 => h9) rfl d_M_delete_27 ?_
          refine lv_iload_n hx hb d_M_delete_30 rfl (lv_at hl 1 rfl) ?_
          refine fr_zald hx hb hK hE (0, 48) 1 rfl m8 rfl j_1 (rfl) (by omega) (by decide) d_M_delete_31 ?_
          refine lv_if_ne (tgt := 45) hx hb d_M_delete_32 (by decide) (fun c_5 => ?_) (fun c_5 => ?_)
          · skip
            refine lv_bipush (v := (-3)) hx hb d_M_delete_45 (by decide) ?_
            refine W.widen (k := 0) (n := 0) (Nat.le_of_ble_eq_true rfl) (Nat.le_of_ble_eq_true rfl) ?_
            exact W.iret (v := (-3)) hx hb hr (fun t9 ht9 hW9 => ⟨⟨(-3), _, rfl, Or.inr (Or.inr ⟨j_1, hj_1, rfl, pw_3, Or.inl ⟨Or.inl c_5, rfl, rfl⟩⟩), ⟨by rw [ht9]; exact hE, va_K.moved hW9.alike hK⟩⟩, hS.F ht9⟩) hS.2.2 d_M_delete_47
          · skip
            refine lv_iload_n hx hb d_M_delete_35 rfl (lv_at hl 2 rfl) ?_
            refine lv_aload_n hx hb d_M_delete_36 rfl (lv_at hl 0 rfl) ?_
            refine fr_get (ci := 5) (Cn := hR_5) (T := hF_5) (N := 34) hx hb hT hi_5 hown hK hE (0, 40) rfl rfl rfl 7 (by decide) (hT _ kw_481) (fun _ h9 => h9) rfl d_M_delete_37 ?_
            refine lv_iload_n hx hb d_M_delete_40 rfl (lv_at hl 1 rfl) ?_
            refine fr_iald hx hb hK hE (0, 47) 0 rfl m7 rfl j_1 (rfl) (by omega) (by decide) d_M_delete_41 ?_
            refine lv_icmp_ge (tgt := 48) hx hb d_M_delete_42 (by decide) (fun c_6 => ?_) (fun c_6 => ?_)
            · skip
              refine lv_aload_n hx hb d_M_delete_48 rfl (lv_at hl 0 rfl) ?_
              refine lv_iload_n hx hb d_M_delete_49 rfl (lv_at hl 1 rfl) ?_
              refine lv_iload_n hx hb d_M_delete_50 rfl (lv_at hl 2 rfl) ?_
              refine lv_iconst (v := 1) hx hb d_M_delete_51 (by decide) ?_
              refine fr_callv (va_runV (As := [.int (nI j_1), .int day, .int 1]) (rest := []) ⟨hx, hb, hml, hown, hts⟩ (c_M_act l hE (pg := pg) (gr := gr) (lf := lf) (an := an) (n := n) (lc := lc) (ps := ps) (rw := rw) (tk := tk) (po := po) rfl m7 m8 m9 j_1 (by omega) day 1 (by decide)) (cwV 3 hts (hw_goodV kw_592 kw_594 kw_14 kw_26 kw_595) rfl rfl rfl (by decide +kernel) ⟨Nat.le_of_ble_eq_true rfl, Nat.le_of_ble_eq_true rfl⟩) ⟨fr_blind, fr_recv hK hE (0, 40) rfl rfl (ci := 5) rfl, fr_pre hE hK⟩ rfl rfl hl.1 rfl (lv_room (Nat.le_of_ble_eq_true rfl)) d_M_delete_52 ⟨Nat.le_of_ble_eq_true rfl, Nat.le_of_ble_eq_true rfl⟩) hS (fun u_7 H locs w_7 hE hS => ?_)
              refine lv_iconst (v := 1) hx hb d_M_delete_55 (by decide) ?_
              refine W.widen (k := 0) (n := 0) (Nat.le_of_ble_eq_true rfl) (Nat.le_of_ble_eq_true rfl) ?_
              exact W.iret (v := 1) hx hb hr (fun t9 ht9 hW9 => ⟨⟨1, _, rfl, Or.inr (Or.inr ⟨j_1, hj_1, rfl, pw_3, Or.inr ⟨fun q => q.elim (fun q => q c_5) (Int32.not_lt.mpr c_6), rfl, rfl⟩⟩), ⟨by rw [ht9]; exact hE, va_K.moved hW9.alike hK⟩⟩, hS.F ht9⟩) hS.2.2 d_M_delete_56
            · skip
              refine lv_bipush (v := (-3)) hx hb d_M_delete_45 (by decide) ?_
              refine W.widen (k := 0) (n := 0) (Nat.le_of_ble_eq_true rfl) (Nat.le_of_ble_eq_true rfl) ?_
              exact W.iret (v := (-3)) hx hb hr (fun t9 ht9 hW9 => ⟨⟨(-3), _, rfl, Or.inr (Or.inr ⟨j_1, hj_1, rfl, pw_3, Or.inl ⟨Or.inr (Int32.not_le.mp c_6), rfl, rfl⟩⟩), ⟨by rw [ht9]; exact hE, va_K.moved hW9.alike hK⟩⟩, hS.F ht9⟩) hS.2.2 d_M_delete_47
        · skip
          exact absurd c_4 (by decide)
      · skip
        refine lv_if_ne (tgt := 26) hx hb d_M_delete_20 (by decide) (fun c_8 => ?_) (fun c_8 => ?_)
        · skip
          exact absurd c_8 (by decide)
        · skip
          refine lv_bipush (v := (-2)) hx hb d_M_delete_23 (by decide) ?_
          refine W.widen (k := 0) (n := 0) (Nat.le_of_ble_eq_true rfl) (Nat.le_of_ble_eq_true rfl) ?_
          exact W.iret (v := (-2)) hx hb hr (fun t9 ht9 hW9 => ⟨⟨(-2), _, rfl, Or.inr (Or.inl ⟨⟨j_1, hj_1, rfl⟩, pw_3, rfl, rfl⟩), ⟨by rw [ht9]; exact hE, va_K.moved hW9.alike hK⟩⟩, hS.F ht9⟩) hS.2.2 d_M_delete_25
    · skip
      exact absurd c_2 (by decide)
  · skip
    refine lv_if_ne (tgt := 15) hx hb d_M_delete_10 (by decide) (fun c_9 => ?_) (fun c_9 => ?_)
    · skip
      exact absurd c_9 (by decide)
    · skip
      refine lv_iconst (v := (-1)) hx hb d_M_delete_13 (by decide) ?_
      refine W.widen (k := 0) (n := 0) (Nat.le_of_ble_eq_true rfl) (Nat.le_of_ble_eq_true rfl) ?_
      exact W.iret (v := (-1)) hx hb hr (fun t9 ht9 hW9 => ⟨⟨(-1), _, rfl, Or.inl ⟨pw_1, rfl, rfl⟩, ⟨by rw [ht9]; exact hE, va_K.moved hW9.alike hK⟩⟩, hS.F ht9⟩) hS.2.2 d_M_delete_14
set_option maxHeartbeats 4000000 in
set_option maxRecDepth 100000 in
theorem c_M_form (l : Launch) {D : va_G} {z : Nat} {b : Nat → Nat} {C : fr_C} {H9 : Heap} (h9 : fr_W D hCl z b C H9) {cI cZ cJ cP cO : ClassId} {th : Int32} {pg gr lf an n lc ps rw tk po : Nat} {hd : Nat → Int32} (m0 : C (0, 40) = some (.inr (5, fM b th pg gr lf an n lc ps rw tk po))) (m10 : C (0, 50) = some (.inl (cZ, 6, .inl hd))) (f x : Int32) (hxx : vp_nar .boolean x = x) : Met l y_M_form w_M_form ({ frames := 1, cells := 0, slots := 0, locals := 22 }) (va_Pc [.ref (b 40), .int f, .int x] (fr_G D hCl (hTy cI cZ cJ cP cO) z b C)) (va_Qi (fun (r : Int32) (u : fr_C) => (¬ inN f 6 ∧ r = -2 ∧ u = fr_up C (0, 40) (.inr (5, fM b 0 pg gr lf an n lc ps rw tk po))) ∨ (∃ j : Nat, j < 6 ∧ f = nI j ∧ r = 1 ∧ u = fr_up (fr_up C (0, 40) (.inr (5, fM b 0 pg gr lf an n lc ps rw tk po))) (0, 50) (.inl (cZ, 6, .inl (upd hd j x))))) (fun u t => fr_G D hCl (hTy cI cZ cJ cP cO) z ((fun _ => b) u) ((fun u => u) u) t) (fr_A z)) 0 0 (fr_A z) := by
  refine Met.ofW (cc := b_M_form) (maxL := 3) (ret := (some .int)) (by decide) rfl ?_
  intro p e s m args below meth c s₁ B hml hv
  obtain ⟨rfl, hE, hK⟩ := hv
  have hx := B.exec
  have hb := B.bytes
  have hr := B.returns
  have hts := atoms_spec (ws := w_M_form) B.pre
  have hT : ∀ w ∈ hw_tbl, w.before _ s = true := fun w h => hts w (List.mem_cons_of_mem _ h)
  have hown : s.vm.findClass "HarvestStepsModel" = some m.cls := findClass_of_methodNamed B.named
  have hlocks := B.notSynchronized
  have hS : va_S (fr_A z) s.heap s.heap [] := va_S.rf
  have hl := lv_entry ([.ref (b 40), .int f, .int x]) (n := 3) (Nat.le_of_ble_eq_true rfl)
  rw [lg_entry_eq]
  generalize (lg_sl ([.ref (b 40), .int f, .int x]) ++ List.replicate (3 - (lg_sl ([.ref (b 40), .int f, .int x])).length) Slot.unset).toArray = ls at hl ⊢
  have hl : lv_has ls 3 [(0, .ref (b 40)), (1, .int f), (2, .int x)] := hl
  refine lv_aload_n hx hb d_M_form_0 rfl (lv_at hl 0 rfl) ?_
  refine lv_iconst (v := 0) hx hb d_M_form_1 (by decide) ?_
  refine fr_put (ci := 5) (v := .int 0) (ty := .int) (Cn := hR_5) (T := hF_5) (N := 34) hx hb hT hi_5 hy_5 ho_5 hn_5 hown hK hE hS (0, 40) rfl m0 rfl 0 (by decide) (hT _ kw_474) (fun _ h9 => h9) rfl (by decide +kernel) rfl rfl (Nat.le_of_ble_eq_true rfl) d_M_form_2 (fun H locs hE hS => ?_)
  refine lv_iload_n hx hb d_M_form_5 rfl (lv_at hl 1 rfl) ?_
  refine lv_iconst (v := 0) hx hb d_M_form_6 (by decide) ?_
  refine lv_iconst (v := 5) hx hb d_M_form_7 (by decide) ?_
  refine fr_calli (va_runS (As := [.int f, .int 0, .int 5]) (rest := []) ⟨hx, hb, hml, hown, hts⟩ (c_M_in l hE f 0 5) (va_cwS 3 hts (hw_goodS kw_585 kw_586 kw_26 kw_587) rfl rfl rfl (by decide +kernel) ⟨Nat.le_of_ble_eq_true rfl, Nat.le_of_ble_eq_true rfl⟩) ⟨fr_blind, fr_pre hE hK⟩ rfl rfl hl.1 rfl (lv_room (Nat.le_of_ble_eq_true rfl)) d_M_form_8 ⟨Nat.le_of_ble_eq_true rfl, Nat.le_of_ble_eq_true rfl⟩) hS (fun r_1 u_1 H locs w_1 hE hS => ?_)
  rcases w_1 with ⟨rfl, pw_1⟩ | ⟨rfl, pw_1⟩
  · skip
    replace pw_1 := (in0 (m := 6) (by decide) (by decide)).mp pw_1
    obtain ⟨j_1, hj_1, rfl⟩ := pw_1
    refine lv_if_ne (tgt := 17) hx hb d_M_form_11 (by decide) (fun c_2 => ?_) (fun c_2 => ?_)
    · skip
      refine lv_aload_n hx hb d_M_form_17 rfl (lv_at hl 0 rfl) ?_
      refine fr_get (ci := 5) (Cn := hR_5) (T := hF_5) (N := 34) hx hb hT hi_5 hown hK hE (0, 40) rfl rfl rfl 10 (by decide) (hT _ kw_484) (fun _ h9 => h9) rfl d_M_form_18 ?_
      refine lv_iload_n hx hb d_M_form_21 rfl (lv_at hl 1 rfl) ?_
      refine lv_iload_n hx hb d_M_form_22 rfl (lv_at hl 2 rfl) ?_
      refine fr_zast hx hb hK hE hS (0, 50) 1 rfl m10 rfl j_1 (rfl) (hj_1) (by decide) x (hxx) d_M_form_23 (fun H locs hE hS => ?_)
      refine lv_iconst (v := 1) hx hb d_M_form_24 (by decide) ?_
      refine W.widen (k := 0) (n := 0) (Nat.le_of_ble_eq_true rfl) (Nat.le_of_ble_eq_true rfl) ?_
      exact W.iret (v := 1) hx hb hr (fun t9 ht9 hW9 => ⟨⟨1, _, rfl, Or.inr ⟨j_1, hj_1, rfl, rfl, rfl⟩, ⟨by rw [ht9]; exact hE, va_K.moved hW9.alike hK⟩⟩, hS.F ht9⟩) hS.2.2 d_M_form_25
    · skip
      exact absurd c_2 (by decide)
  · skip
    replace pw_1 := fun q => pw_1 ((in0 (m := 6) (by decide) (by decide)).mpr q)
    refine lv_if_ne (tgt := 17) hx hb d_M_form_11 (by decide) (fun c_3 => ?_) (fun c_3 => ?_)
    · skip
      exact absurd c_3 (by decide)
    · skip
      refine lv_bipush (v := (-2)) hx hb d_M_form_14 (by decide) ?_
      refine W.widen (k := 0) (n := 0) (Nat.le_of_ble_eq_true rfl) (Nat.le_of_ble_eq_true rfl) ?_
      exact W.iret (v := (-2)) hx hb hr (fun t9 ht9 hW9 => ⟨⟨(-2), _, rfl, Or.inl ⟨pw_1, rfl, rfl⟩, ⟨by rw [ht9]; exact hE, va_K.moved hW9.alike hK⟩⟩, hS.F ht9⟩) hS.2.2 d_M_form_16
set_option maxHeartbeats 4000000 in
set_option maxRecDepth 100000 in
theorem c_M_get (l : Launch) {D : va_G} {z : Nat} {b : Nat → Nat} {C : fr_C} {H9 : Heap} (h9 : fr_W D hCl z b C H9) {cI cZ cJ cP cO : ClassId} {th : Int32} {pg gr lf an n lc ps rw tk po : Nat} {dy : Nat → Int32} {dl : Nat → Int32} {hd : Nat → Int32} (m0 : C (0, 40) = some (.inr (5, fM b th pg gr lf an n lc ps rw tk po))) (m7 : C (0, 47) = some (.inl (cI, 150, .inl dy))) (m8 : C (0, 48) = some (.inl (cZ, 150, .inl dl))) (m10 : C (0, 50) = some (.inl (cZ, 6, .inl hd))) (hn : n ≤ 150) (rc f : Int32) : Met l y_M_get w_M_get ({ frames := 2, cells := 0, slots := 0, locals := 44 }) (va_Pc [.ref (b 40), .int rc, .int f] (fr_G D hCl (hTy cI cZ cJ cP cO) z b C)) (va_Qi (fun (r : Int32) (u : Unit) => (¬ isHeldP hd f ∧ r = -12) ∨ (isHeldP hd f ∧ ¬ inN rc n ∧ r = -16) ∨ (isHeldP hd f ∧ ∃ j : Nat, j < n ∧ rc = nI j ∧ r = if dl j = 0 then dy j else -20 - dy j)) (fun u t => fr_G D hCl (hTy cI cZ cJ cP cO) z ((fun _ => b) u) ((fun _ => fr_up C (0, 40) (.inr (5, fM b 0 pg gr lf an n lc ps rw tk po))) u) t) (fr_A z)) 0 0 (fr_A z) := by
  refine Met.ofW (cc := b_M_get) (maxL := 3) (ret := (some .int)) (by decide) rfl ?_
  intro p e s m args below meth c s₁ B hml hv
  obtain ⟨rfl, hE, hK⟩ := hv
  have hx := B.exec
  have hb := B.bytes
  have hr := B.returns
  have hts := atoms_spec (ws := w_M_get) B.pre
  have hT : ∀ w ∈ hw_tbl, w.before _ s = true := fun w h => hts w (List.mem_cons_of_mem _ h)
  have hown : s.vm.findClass "HarvestStepsModel" = some m.cls := findClass_of_methodNamed B.named
  have hlocks := B.notSynchronized
  have hS : va_S (fr_A z) s.heap s.heap [] := va_S.rf
  have hl := lv_entry ([.ref (b 40), .int rc, .int f]) (n := 3) (Nat.le_of_ble_eq_true rfl)
  rw [lg_entry_eq]
  generalize (lg_sl ([.ref (b 40), .int rc, .int f]) ++ List.replicate (3 - (lg_sl ([.ref (b 40), .int rc, .int f])).length) Slot.unset).toArray = ls at hl ⊢
  have hl : lv_has ls 3 [(0, .ref (b 40)), (1, .int rc), (2, .int f)] := hl
  refine lv_aload_n hx hb d_M_get_0 rfl (lv_at hl 0 rfl) ?_
  refine lv_iconst (v := 0) hx hb d_M_get_1 (by decide) ?_
  refine fr_put (ci := 5) (v := .int 0) (ty := .int) (Cn := hR_5) (T := hF_5) (N := 34) hx hb hT hi_5 hy_5 ho_5 hn_5 hown hK hE hS (0, 40) rfl m0 rfl 0 (by decide) (hT _ kw_474) (fun _ h9 => h9) rfl (by decide +kernel) rfl rfl (Nat.le_of_ble_eq_true rfl) d_M_get_2 (fun H locs hE hS => ?_)
  refine lv_aload_n hx hb d_M_get_5 rfl (lv_at hl 0 rfl) ?_
  refine lv_iload_n hx hb d_M_get_6 rfl (lv_at hl 2 rfl) ?_
  refine fr_calli (va_runV (As := [.int f]) (rest := []) ⟨hx, hb, hml, hown, hts⟩ (c_M_isHeld l hE (pg := pg) (gr := gr) (lf := lf) (an := an) (n := n) (lc := lc) (ps := ps) (rw := rw) (tk := tk) (po := po) rfl m10 f) (cwV 1 hts (hw_goodV kw_617 kw_619 kw_16 kw_26 kw_620) rfl rfl rfl (by decide +kernel) ⟨Nat.le_of_ble_eq_true rfl, Nat.le_of_ble_eq_true rfl⟩) ⟨fr_blind, fr_recv hK hE (0, 40) rfl rfl (ci := 5) rfl, fr_pre hE hK⟩ rfl rfl hl.1 rfl (lv_room (Nat.le_of_ble_eq_true rfl)) d_M_get_7 ⟨Nat.le_of_ble_eq_true rfl, Nat.le_of_ble_eq_true rfl⟩) hS (fun r_1 u_1 H locs w_1 hE hS => ?_)
  rcases w_1 with ⟨rfl, pw_1⟩ | ⟨rfl, pw_1⟩
  · skip
    refine lv_if_ne (tgt := 16) hx hb d_M_get_10 (by decide) (fun c_2 => ?_) (fun c_2 => ?_)
    · skip
      refine lv_aload_n hx hb d_M_get_16 rfl (lv_at hl 0 rfl) ?_
      refine lv_iload_n hx hb d_M_get_17 rfl (lv_at hl 1 rfl) ?_
      refine fr_calli (va_runV (As := [.int rc]) (rest := []) ⟨hx, hb, hml, hown, hts⟩ (c_M_isRecord l hE (pg := pg) (gr := gr) (lf := lf) (an := an) (n := n) (lc := lc) (ps := ps) (rw := rw) (tk := tk) (po := po) rfl hn rc) (cwV 1 hts (hw_goodV kw_600 kw_602 kw_15 kw_26 kw_603) rfl rfl rfl (by decide +kernel) ⟨Nat.le_of_ble_eq_true rfl, Nat.le_of_ble_eq_true rfl⟩) ⟨fr_blind, fr_recv hK hE (0, 40) rfl rfl (ci := 5) rfl, fr_pre hE hK⟩ rfl rfl hl.1 rfl (lv_room (Nat.le_of_ble_eq_true rfl)) d_M_get_18 ⟨Nat.le_of_ble_eq_true rfl, Nat.le_of_ble_eq_true rfl⟩) hS (fun r_3 u_3 H locs w_3 hE hS => ?_)
      rcases w_3 with ⟨rfl, pw_3⟩ | ⟨rfl, pw_3⟩
      · skip
        obtain ⟨j_1, hj_1, rfl⟩ := pw_3
        refine lv_if_ne (tgt := 27) hx hb d_M_get_21 (by decide) (fun c_4 => ?_) (fun c_4 => ?_)
        · skip
          refine lv_aload_n hx hb d_M_get_27 rfl (lv_at hl 0 rfl) ?_
          refine fr_get (ci := 5) (Cn := hR_5) (T := hF_5) (N := 34) hx hb hT hi_5 hown hK hE (0, 40) rfl rfl rfl 8 (by decide) (hT _ kw_482) (fun _ h9 => h9) rfl d_M_get_28 ?_
          refine lv_iload_n hx hb d_M_get_31 rfl (lv_at hl 1 rfl) ?_
          refine fr_zald hx hb hK hE (0, 48) 1 rfl m8 rfl j_1 (rfl) (by omega) (by decide) d_M_get_32 ?_
          refine lv_if_eq (tgt := 48) hx hb d_M_get_33 (by decide) (fun c_5 => ?_) (fun c_5 => ?_)
          · skip
            refine lv_aload_n hx hb d_M_get_48 rfl (lv_at hl 0 rfl) ?_
            refine fr_get (ci := 5) (Cn := hR_5) (T := hF_5) (N := 34) hx hb hT hi_5 hown hK hE (0, 40) rfl rfl rfl 7 (by decide) (hT _ kw_481) (fun _ h9 => h9) rfl d_M_get_49 ?_
            refine lv_iload_n hx hb d_M_get_52 rfl (lv_at hl 1 rfl) ?_
            refine fr_iald hx hb hK hE (0, 47) 0 rfl m7 rfl j_1 (rfl) (by omega) (by decide) d_M_get_53 ?_
            refine W.widen (k := 0) (n := 0) (Nat.le_of_ble_eq_true rfl) (Nat.le_of_ble_eq_true rfl) ?_
            exact W.iret (v := dy j_1) hx hb hr (fun t9 ht9 hW9 => ⟨⟨dy j_1, (), rfl, Or.inr (Or.inr ⟨pw_1, j_1, hj_1, rfl, by rw [if_pos c_5]⟩), ⟨by rw [ht9]; exact hE, va_K.moved hW9.alike hK⟩⟩, hS.F ht9⟩) hS.2.2 d_M_get_54
          · skip
            refine lv_bipush (v := (-20)) hx hb d_M_get_36 (by decide) ?_
            refine lv_aload_n hx hb d_M_get_38 rfl (lv_at hl 0 rfl) ?_
            refine fr_get (ci := 5) (Cn := hR_5) (T := hF_5) (N := 34) hx hb hT hi_5 hown hK hE (0, 40) rfl rfl rfl 7 (by decide) (hT _ kw_481) (fun _ h9 => h9) rfl d_M_get_39 ?_
            refine lv_iload_n hx hb d_M_get_42 rfl (lv_at hl 1 rfl) ?_
            refine fr_iald hx hb hK hE (0, 47) 0 rfl m7 rfl j_1 (rfl) (by omega) (by decide) d_M_get_43 ?_
            refine lv_isub hx hb d_M_get_44 ?_
            refine lv_goto (tgt := 54) hx hb d_M_get_45 (by decide) ?_
            refine W.widen (k := 0) (n := 0) (Nat.le_of_ble_eq_true rfl) (Nat.le_of_ble_eq_true rfl) ?_
            exact W.iret (v := (-20) - (dy j_1)) hx hb hr (fun t9 ht9 hW9 => ⟨⟨(-20) - (dy j_1), (), rfl, Or.inr (Or.inr ⟨pw_1, j_1, hj_1, rfl, by rw [if_neg c_5]⟩), ⟨by rw [ht9]; exact hE, va_K.moved hW9.alike hK⟩⟩, hS.F ht9⟩) hS.2.2 d_M_get_54
        · skip
          exact absurd c_4 (by decide)
      · skip
        refine lv_if_ne (tgt := 27) hx hb d_M_get_21 (by decide) (fun c_6 => ?_) (fun c_6 => ?_)
        · skip
          exact absurd c_6 (by decide)
        · skip
          refine lv_bipush (v := (-16)) hx hb d_M_get_24 (by decide) ?_
          refine W.widen (k := 0) (n := 0) (Nat.le_of_ble_eq_true rfl) (Nat.le_of_ble_eq_true rfl) ?_
          exact W.iret (v := (-16)) hx hb hr (fun t9 ht9 hW9 => ⟨⟨(-16), (), rfl, Or.inr (Or.inl ⟨pw_1, pw_3, rfl⟩), ⟨by rw [ht9]; exact hE, va_K.moved hW9.alike hK⟩⟩, hS.F ht9⟩) hS.2.2 d_M_get_26
    · skip
      exact absurd c_2 (by decide)
  · skip
    refine lv_if_ne (tgt := 16) hx hb d_M_get_10 (by decide) (fun c_7 => ?_) (fun c_7 => ?_)
    · skip
      exact absurd c_7 (by decide)
    · skip
      refine lv_bipush (v := (-12)) hx hb d_M_get_13 (by decide) ?_
      refine W.widen (k := 0) (n := 0) (Nat.le_of_ble_eq_true rfl) (Nat.le_of_ble_eq_true rfl) ?_
      exact W.iret (v := (-12)) hx hb hr (fun t9 ht9 hW9 => ⟨⟨(-12), (), rfl, Or.inl ⟨pw_1, rfl⟩, ⟨by rw [ht9]; exact hE, va_K.moved hW9.alike hK⟩⟩, hS.F ht9⟩) hS.2.2 d_M_get_15
set_option maxHeartbeats 4000000 in
set_option maxRecDepth 100000 in
theorem c_M_counted (l : Launch) {D : va_G} {z : Nat} {b : Nat → Nat} {C : fr_C} {H9 : Heap} (h9 : fr_W D hCl z b C H9) {cI cZ cJ cP cO : ClassId} {th : Int32} {pg gr lf an n lc ps rw tk po : Nat} {cs : Nat → Int32} (m0 : C (0, 40) = some (.inr (5, fM b th pg gr lf an n lc ps rw tk po))) (m32 : C (0, 72) = some (.inl (cI, 10, .inl cs))) (h : Int32) : Met l y_M_counted w_M_counted ({ frames := 1, cells := 0, slots := 0, locals := 22 }) (va_Pc [.ref (b 40), .int h] (fr_G D hCl (hTy cI cZ cJ cP cO) z b C)) (va_Qi (fun (r : Int32) (u : Unit) => (¬ inN h 10 ∧ r = -1) ∨ (∃ j : Nat, j < 10 ∧ h = nI j ∧ r = cs j)) (fun u t => fr_G D hCl (hTy cI cZ cJ cP cO) z ((fun _ => b) u) ((fun _ => fr_up C (0, 40) (.inr (5, fM b 0 pg gr lf an n lc ps rw tk po))) u) t) (fr_A z)) 0 0 (fr_A z) := by
  refine Met.ofW (cc := b_M_counted) (maxL := 2) (ret := (some .int)) (by decide) rfl ?_
  intro p e s m args below meth c s₁ B hml hv
  obtain ⟨rfl, hE, hK⟩ := hv
  have hx := B.exec
  have hb := B.bytes
  have hr := B.returns
  have hts := atoms_spec (ws := w_M_counted) B.pre
  have hT : ∀ w ∈ hw_tbl, w.before _ s = true := fun w h => hts w (List.mem_cons_of_mem _ h)
  have hown : s.vm.findClass "HarvestStepsModel" = some m.cls := findClass_of_methodNamed B.named
  have hlocks := B.notSynchronized
  have hS : va_S (fr_A z) s.heap s.heap [] := va_S.rf
  have hl := lv_entry ([.ref (b 40), .int h]) (n := 2) (Nat.le_of_ble_eq_true rfl)
  rw [lg_entry_eq]
  generalize (lg_sl ([.ref (b 40), .int h]) ++ List.replicate (2 - (lg_sl ([.ref (b 40), .int h])).length) Slot.unset).toArray = ls at hl ⊢
  have hl : lv_has ls 2 [(0, .ref (b 40)), (1, .int h)] := hl
  refine lv_aload_n hx hb d_M_counted_0 rfl (lv_at hl 0 rfl) ?_
  refine lv_iconst (v := 0) hx hb d_M_counted_1 (by decide) ?_
  refine fr_put (ci := 5) (v := .int 0) (ty := .int) (Cn := hR_5) (T := hF_5) (N := 34) hx hb hT hi_5 hy_5 ho_5 hn_5 hown hK hE hS (0, 40) rfl m0 rfl 0 (by decide) (hT _ kw_474) (fun _ h9 => h9) rfl (by decide +kernel) rfl rfl (Nat.le_of_ble_eq_true rfl) d_M_counted_2 (fun H locs hE hS => ?_)
  refine lv_iload_n hx hb d_M_counted_5 rfl (lv_at hl 1 rfl) ?_
  refine lv_iconst (v := 0) hx hb d_M_counted_6 (by decide) ?_
  refine lv_bipush (v := 9) hx hb d_M_counted_7 (by decide) ?_
  refine fr_calli (va_runS (As := [.int h, .int 0, .int 9]) (rest := []) ⟨hx, hb, hml, hown, hts⟩ (c_M_in l hE h 0 9) (va_cwS 3 hts (hw_goodS kw_585 kw_586 kw_26 kw_587) rfl rfl rfl (by decide +kernel) ⟨Nat.le_of_ble_eq_true rfl, Nat.le_of_ble_eq_true rfl⟩) ⟨fr_blind, fr_pre hE hK⟩ rfl rfl hl.1 rfl (lv_room (Nat.le_of_ble_eq_true rfl)) d_M_counted_9 ⟨Nat.le_of_ble_eq_true rfl, Nat.le_of_ble_eq_true rfl⟩) hS (fun r_1 u_1 H locs w_1 hE hS => ?_)
  rcases w_1 with ⟨rfl, pw_1⟩ | ⟨rfl, pw_1⟩
  · skip
    replace pw_1 := (in0 (m := 10) (by decide) (by decide)).mp pw_1
    obtain ⟨j_1, hj_1, rfl⟩ := pw_1
    refine lv_if_eq (tgt := 24) hx hb d_M_counted_12 (by decide) (fun c_2 => ?_) (fun c_2 => ?_)
    · skip
      exact absurd c_2 (by decide)
    · skip
      refine lv_aload_n hx hb d_M_counted_15 rfl (lv_at hl 0 rfl) ?_
      refine fr_get (ci := 5) (Cn := hR_5) (T := hF_5) (N := 34) hx hb hT hi_5 hown hK hE (0, 40) rfl rfl rfl 32 (by decide) (hT _ kw_506) (fun _ h9 => h9) rfl d_M_counted_16 ?_
      refine lv_iload_n hx hb d_M_counted_19 rfl (lv_at hl 1 rfl) ?_
      refine fr_iald hx hb hK hE (0, 72) 0 rfl m32 rfl j_1 (rfl) (hj_1) (by decide) d_M_counted_20 ?_
      refine lv_goto (tgt := 25) hx hb d_M_counted_21 (by decide) ?_
      refine W.widen (k := 0) (n := 0) (Nat.le_of_ble_eq_true rfl) (Nat.le_of_ble_eq_true rfl) ?_
      exact W.iret (v := cs j_1) hx hb hr (fun t9 ht9 hW9 => ⟨⟨cs j_1, (), rfl, Or.inr ⟨j_1, hj_1, rfl, rfl⟩, ⟨by rw [ht9]; exact hE, va_K.moved hW9.alike hK⟩⟩, hS.F ht9⟩) hS.2.2 d_M_counted_25
  · skip
    replace pw_1 := fun q => pw_1 ((in0 (m := 10) (by decide) (by decide)).mpr q)
    refine lv_if_eq (tgt := 24) hx hb d_M_counted_12 (by decide) (fun c_3 => ?_) (fun c_3 => ?_)
    · skip
      refine lv_iconst (v := (-1)) hx hb d_M_counted_24 (by decide) ?_
      refine W.widen (k := 0) (n := 0) (Nat.le_of_ble_eq_true rfl) (Nat.le_of_ble_eq_true rfl) ?_
      exact W.iret (v := (-1)) hx hb hr (fun t9 ht9 hW9 => ⟨⟨(-1), (), rfl, Or.inl ⟨pw_1, rfl⟩, ⟨by rw [ht9]; exact hE, va_K.moved hW9.alike hK⟩⟩, hS.F ht9⟩) hS.2.2 d_M_counted_25
    · skip
      exact absurd c_3 (by decide)
set_option maxHeartbeats 4000000 in
set_option maxRecDepth 100000 in
theorem c_M_passed (l : Launch) {D : va_G} {z : Nat} {b : Nat → Nat} {C : fr_C} {H9 : Heap} (h9 : fr_W D hCl z b C H9) {cI cZ cJ cP cO : ClassId} {th : Int32} {pg gr lf an n lc ps rw tk po : Nat}  (m0 : C (0, 40) = some (.inr (5, fM b th pg gr lf an n lc ps rw tk po)))   : Met l y_M_passed w_M_passed ({ frames := 0, cells := 0, slots := 0, locals := 0 }) (va_Pc [.ref (b 40)] (fr_G D hCl (hTy cI cZ cJ cP cO) z b C)) (va_Qi (fun (r : Int32) (u : Unit) => r = nI po) (fun u t => fr_G D hCl (hTy cI cZ cJ cP cO) z ((fun _ => b) u) ((fun _ => fr_up C (0, 40) (.inr (5, fM b 0 pg gr lf an n lc ps rw tk po))) u) t) (fr_A z)) 0 0 (fr_A z) := by
  refine Met.ofW (cc := b_M_passed) (maxL := 1) (ret := (some .int)) (by decide) rfl ?_
  intro p e s m args below meth c s₁ B hml hv
  obtain ⟨rfl, hE, hK⟩ := hv
  have hx := B.exec
  have hb := B.bytes
  have hr := B.returns
  have hts := atoms_spec (ws := w_M_passed) B.pre
  have hT : ∀ w ∈ hw_tbl, w.before _ s = true := fun w h => hts w (List.mem_cons_of_mem _ h)
  have hown : s.vm.findClass "HarvestStepsModel" = some m.cls := findClass_of_methodNamed B.named
  have hlocks := B.notSynchronized
  have hS : va_S (fr_A z) s.heap s.heap [] := va_S.rf
  have hl := lv_entry ([.ref (b 40)]) (n := 1) (Nat.le_of_ble_eq_true rfl)
  rw [lg_entry_eq]
  generalize (lg_sl ([.ref (b 40)]) ++ List.replicate (1 - (lg_sl ([.ref (b 40)])).length) Slot.unset).toArray = ls at hl ⊢
  have hl : lv_has ls 1 [(0, .ref (b 40))] := hl
  refine lv_aload_n hx hb d_M_passed_0 rfl (lv_at hl 0 rfl) ?_
  refine lv_iconst (v := 0) hx hb d_M_passed_1 (by decide) ?_
  refine fr_put (ci := 5) (v := .int 0) (ty := .int) (Cn := hR_5) (T := hF_5) (N := 34) hx hb hT hi_5 hy_5 ho_5 hn_5 hown hK hE hS (0, 40) rfl m0 rfl 0 (by decide) (hT _ kw_474) (fun _ h9 => h9) rfl (by decide +kernel) rfl rfl (Nat.le_of_ble_eq_true rfl) d_M_passed_2 (fun H locs hE hS => ?_)
  refine lv_aload_n hx hb d_M_passed_5 rfl (lv_at hl 0 rfl) ?_
  refine fr_get (ci := 5) (Cn := hR_5) (T := hF_5) (N := 34) hx hb hT hi_5 hown hK hE (0, 40) rfl rfl rfl 33 (by decide) (hT _ kw_507) (fun _ h9 => h9) rfl d_M_passed_6 ?_
  refine W.widen (k := 0) (n := 0) (Nat.le_of_ble_eq_true rfl) (Nat.le_of_ble_eq_true rfl) ?_
  exact W.iret (v := nI po) hx hb hr (fun t9 ht9 hW9 => ⟨⟨nI po, (), rfl, rfl, ⟨by rw [ht9]; exact hE, va_K.moved hW9.alike hK⟩⟩, hS.F ht9⟩) hS.2.2 d_M_passed_9
set_option maxHeartbeats 4000000 in
set_option maxRecDepth 100000 in
theorem c_M_thrown (l : Launch) {D : va_G} {z : Nat} {b : Nat → Nat} {C : fr_C} {H9 : Heap} (h9 : fr_W D hCl z b C H9) {cI cZ cJ cP cO : ClassId} {th : Int32} {pg gr lf an n lc ps rw tk po : Nat}  (m0 : C (0, 40) = some (.inr (5, fM b th pg gr lf an n lc ps rw tk po)))   : Met l y_M_thrown w_M_thrown ({ frames := 0, cells := 0, slots := 0, locals := 0 }) (va_Pc [.ref (b 40)] (fr_G D hCl (hTy cI cZ cJ cP cO) z b C)) (va_Qi (fun (r : Int32) (u : Unit) => r = th) (fun u t => fr_G D hCl (hTy cI cZ cJ cP cO) z ((fun _ => b) u) ((fun _ => C) u) t) (fr_A z)) 0 0 (fr_A z) := by
  refine Met.ofW (cc := b_M_thrown) (maxL := 1) (ret := (some .int)) (by decide) rfl ?_
  intro p e s m args below meth c s₁ B hml hv
  obtain ⟨rfl, hE, hK⟩ := hv
  have hx := B.exec
  have hb := B.bytes
  have hr := B.returns
  have hts := atoms_spec (ws := w_M_thrown) B.pre
  have hT : ∀ w ∈ hw_tbl, w.before _ s = true := fun w h => hts w (List.mem_cons_of_mem _ h)
  have hown : s.vm.findClass "HarvestStepsModel" = some m.cls := findClass_of_methodNamed B.named
  have hlocks := B.notSynchronized
  have hS : va_S (fr_A z) s.heap s.heap [] := va_S.rf
  have hl := lv_entry ([.ref (b 40)]) (n := 1) (Nat.le_of_ble_eq_true rfl)
  rw [lg_entry_eq]
  generalize (lg_sl ([.ref (b 40)]) ++ List.replicate (1 - (lg_sl ([.ref (b 40)])).length) Slot.unset).toArray = ls at hl ⊢
  have hl : lv_has ls 1 [(0, .ref (b 40))] := hl
  refine lv_aload_n hx hb d_M_thrown_0 rfl (lv_at hl 0 rfl) ?_
  refine fr_get (ci := 5) (Cn := hR_5) (T := hF_5) (N := 34) hx hb hT hi_5 hown hK hE (0, 40) rfl m0 rfl 0 (by decide) (hT _ kw_474) (fun _ h9 => h9) rfl d_M_thrown_1 ?_
  refine W.widen (k := 0) (n := 0) (Nat.le_of_ble_eq_true rfl) (Nat.le_of_ble_eq_true rfl) ?_
  exact W.iret (v := th) hx hb hr (fun t9 ht9 hW9 => ⟨⟨th, (), rfl, rfl, ⟨by rw [ht9]; exact hE, va_K.moved hW9.alike hK⟩⟩, hS.F ht9⟩) hS.2.2 d_M_thrown_4
end
section
set_option maxHeartbeats 4000000 in
set_option maxRecDepth 100000 in
theorem c_M_gather (l : Launch) {D : va_G} {z : Nat} {b : Nat → Nat} {C : fr_C} {H9 : Heap} (h9 : fr_W D hCl z b C H9) {cI cZ cJ cP cO : ClassId} {th : Int32} {pg gr lf an n lc ps rw tk po : Nat} {st : Nat → Int32} {dy : Nat → Int32} {li : Nat → Int32} (m0 : C (0, 40) = some (.inr (5, fM b th pg gr lf an n lc ps rw tk po))) (m6 : C (0, 46) = some (.inl (cI, 150, .inl st))) (m7 : C (0, 47) = some (.inl (cI, 150, .inl dy))) (m16 : C (0, 56) = some (.inl (cI, 4500, .inl li))) (hn : n ≤ 150) (hlc : lc < 30) (fr to of : Int32) : Met l y_M_gather w_M_gather ({ frames := 1, cells := 0, slots := 0, locals := 22 }) (va_Pc [.ref (b 40), .int fr, .int to, .int of] (fr_G D hCl (hTy cI cZ cJ cP cO) z b C)) (va_Qi (fun (r : Int32) (u : Nat → Int32) => r = nI (gaF (selB fr to of dy st) dy n).2 ∧ (∀ j, j < (gaF (selB fr to of dy st) dy n).2 → u (150 * lc + j) = nI ((gaF (selB fr to of dy st) dy n).1 j)) ∧ ∀ i, i < 150 * lc → u i = li i) (fun u t => fr_G D hCl (hTy cI cZ cJ cP cO) z ((fun _ => b) u) ((fun u => fr_up C (0, 56) (.inl (cI, 4500, .inl u))) u) t) (fr_A z)) 0 0 (fr_A z) := by
  refine Met.ofW (cc := b_M_gather) (maxL := 8) (ret := (some .int)) (by decide) rfl ?_
  intro p e s m args below meth c s₁ B hml hv
  obtain ⟨rfl, hE, hK⟩ := hv
  have hx := B.exec
  have hb := B.bytes
  have hr := B.returns
  have hts := atoms_spec (ws := w_M_gather) B.pre
  have hT : ∀ w ∈ hw_tbl, w.before _ s = true := fun w h => hts w (List.mem_cons_of_mem _ h)
  have hown : s.vm.findClass "HarvestStepsModel" = some m.cls := findClass_of_methodNamed B.named
  have hlocks := B.notSynchronized
  have hS : va_S (fr_A z) s.heap s.heap [] := va_S.rf
  have hl := lv_entry ([.ref (b 40), .int fr, .int to, .int of]) (n := 8) (Nat.le_of_ble_eq_true rfl)
  rw [lg_entry_eq]
  generalize (lg_sl ([.ref (b 40), .int fr, .int to, .int of]) ++ List.replicate (8 - (lg_sl ([.ref (b 40), .int fr, .int to, .int of])).length) Slot.unset).toArray = ls at hl ⊢
  have hl : lv_has ls 8 [(0, .ref (b 40)), (1, .int fr), (2, .int to), (3, .int of)] := hl
  refine lv_sipush (v := 150) hx hb d_M_gather_0 (by decide) ?_
  refine lv_aload_n hx hb d_M_gather_3 rfl (lv_at hl 0 rfl) ?_
  refine fr_get (ci := 5) (Cn := hR_5) (T := hF_5) (N := 34) hx hb hT hi_5 hown hK hE (0, 40) rfl m0 rfl 11 (by decide) (hT _ kw_485) (fun _ h9 => h9) rfl d_M_gather_4 ?_
  refine lv_imul hx hb d_M_gather_7 ?_
  refine lv_topi (fun y_1 ey_1 => ?_)
  obtain rfl : y_1 = nI (150 * lc) := ey_1.trans (pk_mul 150 lc)
  refine lv_istore (lv' := [(4, .int (nI (150 * lc))), (0, .ref (b 40)), (1, .int fr), (2, .int to), (3, .int of)]) hx hb d_M_gather_8 hl (by decide) rfl (fun ls hl => ?_)
  refine lv_iconst (v := 0) hx hb d_M_gather_10 (by decide) ?_
  refine lv_istore (lv' := [(5, .int 0), (4, .int (nI (150 * lc))), (0, .ref (b 40)), (1, .int fr), (2, .int to), (3, .int of)]) hx hb d_M_gather_11 hl (by decide) rfl (fun ls hl => ?_)
  refine lv_iconst (v := 0) hx hb d_M_gather_13 (by decide) ?_
  refine lv_istore (lv' := [(6, .int 0), (5, .int 0), (4, .int (nI (150 * lc))), (0, .ref (b 40)), (1, .int fr), (2, .int to), (3, .int of)]) hx hb d_M_gather_14 hl (by decide) rfl (fun ls hl => ?_)
  rw [← fr_up_same m16] at hE
  refine W.widen (k := 0) (n := 0) (Nat.le_of_ble_eq_true rfl) (Nat.le_of_ble_eq_true rfl) ?_
  have ai0 : (n + 1) + 0 = n + 1 := rfl
  have ai1 : 0 ≤ n := Nat.zero_le n
  have ai2 : 0 = (gaF (selB fr to of dy st) dy 0).2 := rfl
  have ai3 : ∀ j, j < 0 → li (150 * lc + j) = nI ((gaF (selB fr to of dy st) dy 0).1 j) := fun j hj => absurd hj (Nat.not_lt_zero j)
  have ai4 : ∀ i, i < 150 * lc → li i = li i := fun _ _ => rfl
  refine fr_loop (σ := Nat × Nat × (Nat → Int32)) (fun n9 x H locs ls => (n9 + x.1 = n + 1) ∧ (x.1 ≤ n) ∧ (x.2.1 = (gaF (selB fr to of dy st) dy x.1).2) ∧ (∀ j, j < x.2.1 → x.2.2 (150 * lc + j) = nI ((gaF (selB fr to of dy st) dy x.1).1 j)) ∧ (∀ i, i < 150 * lc → x.2.2 i = li i) ∧ fr_W D hCl z b (fr_up C (0, 56) (.inl (cI, 4500, .inl x.2.2))) H ∧ va_S (fr_A z) s.heap H locs ∧ lv_has ls 8 [(4, .int (nI (150 * lc))), (5, .int (nI x.2.1)), (6, .int (nI x.1)), (0, .ref (b 40)), (1, .int fr), (2, .int to), (3, .int of)]) (fun x H locs ls h => by obtain ⟨h1, h2, -⟩ := h; omega) (fun n9 x H locs ls hI ih => ?_) (n + 1) (0, 0, li) _ _ _ ⟨ai0, ai1, ai2, ai3, ai4, hE, hS, lv_sub hl [2, 1, 0, 3, 4, 5, 6] rfl⟩
  obtain ⟨q, k, li1⟩ := x
  obtain ⟨i0, i1, i2, i3, i4, hE, hS, hl⟩ := hI
  replace i0 : (n9 + 1) + q = n + 1 := i0
  replace i1 : q ≤ n := i1
  replace i2 : k = (gaF (selB fr to of dy st) dy q).2 := i2
  replace i3 : ∀ j, j < k → li1 (150 * lc + j) = nI ((gaF (selB fr to of dy st) dy q).1 j) := i3
  replace i4 : ∀ i, i < 150 * lc → li1 i = li i := i4
  replace hE : fr_W D hCl z b (fr_up C (0, 56) (.inl (cI, 4500, .inl li1))) H := hE
  replace hl : lv_has ls 8 [(4, .int (nI (150 * lc))), (5, .int (nI k)), (6, .int (nI q)), (0, .ref (b 40)), (1, .int fr), (2, .int to), (3, .int of)] := hl
  refine lv_iload hx hb d_M_gather_16 (lv_at hl 2 rfl) ?_
  refine lv_aload_n hx hb d_M_gather_18 rfl (lv_at hl 3 rfl) ?_
  refine fr_get (ci := 5) (Cn := hR_5) (T := hF_5) (N := 34) hx hb hT hi_5 hown hK hE (0, 40) rfl m0 rfl 5 (by decide) (hT _ kw_479) (fun _ h9 => h9) rfl d_M_gather_19 ?_
  refine lv_icmp_ge (tgt := 136) hx hb d_M_gather_22 (by decide) (fun c_2 => ?_) (fun c_2 => ?_)
  · skip
    have hqn : q = n := by rcases Nat.lt_or_ge q n with y | y; exact absurd c_2 (nI_ge y (by omega)); omega
    subst hqn
    refine lv_iload hx hb d_M_gather_136 (lv_at hl 1 rfl) ?_
    refine W.widen (k := 0) (n := 0) (Nat.le_of_ble_eq_true rfl) (Nat.le_of_ble_eq_true rfl) ?_
    exact W.iret (v := nI k) hx hb hr (fun t9 ht9 hW9 => ⟨⟨nI k, li1, rfl, ⟨by rw [i2], by rw [← i2]; exact i3, i4⟩, ⟨by rw [ht9]; exact hE, va_K.moved hW9.alike hK⟩⟩, hS.F ht9⟩) hS.2.2 d_M_gather_138
  · skip
    have hq : q < n := by rcases Nat.lt_or_ge q n with y | y; exact y; exact absurd (nI_le y (by omega)) c_2
    have hkq : k ≤ q := by rw [i2]; exact gaF_le (selB fr to of dy st) dy q
    have hL : ∀ j, j < k → (gaF (selB fr to of dy st) dy q).1 j < 150 := fun j hj => by have := gaF_lt (selB fr to of dy st) dy q j (by omega); omega
    refine lv_aload_n hx hb d_M_gather_25 rfl (lv_at hl 3 rfl) ?_
    refine fr_get (ci := 5) (Cn := hR_5) (T := hF_5) (N := 34) hx hb hT hi_5 hown hK hE (0, 40) rfl m0 rfl 7 (by decide) (hT _ kw_481) (fun _ h9 => h9) rfl d_M_gather_26 ?_
    refine lv_iload hx hb d_M_gather_29 (lv_at hl 2 rfl) ?_
    refine fr_iald hx hb hK hE (0, 47) 0 rfl m7 rfl q (rfl) (by omega) (by decide) d_M_gather_31 ?_
    refine lv_iload_n hx hb d_M_gather_32 rfl (lv_at hl 4 rfl) ?_
    refine lv_iload_n hx hb d_M_gather_33 rfl (lv_at hl 5 rfl) ?_
    refine fr_calli (va_runS (As := [.int (dy q), .int fr, .int to]) (rest := []) ⟨hx, hb, hml, hown, hts⟩ (c_M_in l hE (dy q) fr to) (va_cwS 3 hts (hw_goodS kw_585 kw_586 kw_26 kw_587) rfl rfl rfl (by decide +kernel) ⟨Nat.le_of_ble_eq_true rfl, Nat.le_of_ble_eq_true rfl⟩) ⟨fr_blind, fr_pre hE hK⟩ rfl rfl hl.1 rfl (lv_room (Nat.le_of_ble_eq_true rfl)) d_M_gather_34 ⟨Nat.le_of_ble_eq_true rfl, Nat.le_of_ble_eq_true rfl⟩) hS (fun r_3 u_3 H locs w_3 hE hS => ?_)
    rcases w_3 with ⟨rfl, pw_3⟩ | ⟨rfl, pw_3⟩
    · skip
      refine lv_if_eq (tgt := 130) hx hb d_M_gather_37 (by decide) (fun c_4 => ?_) (fun c_4 => ?_)
      · skip
        exact absurd c_4 (by decide)
      · skip
        refine lv_iload_n hx hb d_M_gather_40 rfl (lv_at hl 6 rfl) ?_
        refine lv_if_lt (tgt := 58) hx hb d_M_gather_41 (by decide) (fun c_5 => ?_) (fun c_5 => ?_)
        · skip
          have ys : (selB fr to of dy st) q = true := selB_yes pw_3.1 pw_3.2 (Or.inl c_5)
          refine lv_iload hx hb d_M_gather_58 (lv_at hl 0 rfl) ?_
          refine lv_iload hx hb d_M_gather_60 (lv_at hl 1 rfl) ?_
          refine lv_iadd hx hb d_M_gather_62 ?_
          refine lv_topi (fun y_6 ey_6 => ?_)
          obtain rfl : y_6 = nI (150 * lc + k) := ey_6.trans (nI_add _ _)
          refine lv_istore (lv' := [(7, .int (nI (150 * lc + k))), (4, .int (nI (150 * lc))), (5, .int (nI k)), (6, .int (nI q)), (0, .ref (b 40)), (1, .int fr), (2, .int to), (3, .int of)]) hx hb d_M_gather_63 hl (by decide) rfl (fun ls hl => ?_)
          refine W.widen (k := 0) (n := 0) (Nat.le_of_ble_eq_true rfl) (Nat.le_of_ble_eq_true rfl) ?_
          have ae0 : (k + 1) = k + 1 := rfl
          have ae1 : k ≤ k := Nat.le_refl k
          have ae2 : ∀ j, j < k → li1 (150 * lc + j) = nI ((gaF (selB fr to of dy st) dy q).1 j) := i3
          have ae3 : ∀ j, k ≤ j → j < k → li1 (150 * lc + (j + 1)) = nI ((gaF (selB fr to of dy st) dy q).1 j) := fun j h1 h2 => absurd h2 (by omega)
          have ae4 : psF dy q (gaF (selB fr to of dy st) dy q).1 k = psF dy q (gaF (selB fr to of dy st) dy q).1 k := rfl
          have ae5 : ∀ i, i < 150 * lc → li1 i = li i := i4
          refine fr_loop (σ := Nat × (Nat → Int32)) (fun n9a x H locs ls => (n9a = x.1 + 1) ∧ (x.1 ≤ k) ∧ (∀ j, j < x.1 → x.2 (150 * lc + j) = nI ((gaF (selB fr to of dy st) dy q).1 j)) ∧ (∀ j, x.1 ≤ j → j < k → x.2 (150 * lc + (j + 1)) = nI ((gaF (selB fr to of dy st) dy q).1 j)) ∧ (psF dy q (gaF (selB fr to of dy st) dy q).1 k = psF dy q (gaF (selB fr to of dy st) dy q).1 x.1) ∧ (∀ i, i < 150 * lc → x.2 i = li i) ∧ fr_W D hCl z b (fr_up C (0, 56) (.inl (cI, 4500, .inl x.2))) H ∧ va_S (fr_A z) s.heap H locs ∧ lv_has ls 8 [(7, .int (nI (150 * lc + x.1))), (4, .int (nI (150 * lc))), (5, .int (nI k)), (6, .int (nI q)), (0, .ref (b 40)), (1, .int fr), (2, .int to), (3, .int of)]) (fun x H locs ls h => by obtain ⟨h1, h2, -⟩ := h; omega) (fun n9a x H locs ls hI iha => ?_) (k + 1) (k, li1) _ _ _ ⟨ae0, ae1, ae2, ae3, ae4, ae5, hE, hS, lv_sub hl [0, 1, 2, 3, 4, 5, 6, 7] rfl⟩
          obtain ⟨t, li2⟩ := x
          obtain ⟨e0, e1, e2, e3, e4, e5, hE, hS, hl⟩ := hI
          replace e0 : (n9a + 1) = t + 1 := e0
          replace e1 : t ≤ k := e1
          replace e2 : ∀ j, j < t → li2 (150 * lc + j) = nI ((gaF (selB fr to of dy st) dy q).1 j) := e2
          replace e3 : ∀ j, t ≤ j → j < k → li2 (150 * lc + (j + 1)) = nI ((gaF (selB fr to of dy st) dy q).1 j) := e3
          replace e4 : psF dy q (gaF (selB fr to of dy st) dy q).1 k = psF dy q (gaF (selB fr to of dy st) dy q).1 t := e4
          replace e5 : ∀ i, i < 150 * lc → li2 i = li i := e5
          replace hE : fr_W D hCl z b (fr_up C (0, 56) (.inl (cI, 4500, .inl li2))) H := hE
          replace hl : lv_has ls 8 [(7, .int (nI (150 * lc + t))), (4, .int (nI (150 * lc))), (5, .int (nI k)), (6, .int (nI q)), (0, .ref (b 40)), (1, .int fr), (2, .int to), (3, .int of)] := hl
          refine lv_iload hx hb d_M_gather_65 (lv_at hl 0 rfl) ?_
          refine lv_iload hx hb d_M_gather_67 (lv_at hl 1 rfl) ?_
          refine lv_icmp_le (tgt := 118) hx hb d_M_gather_69 (by decide) (fun c_7 => ?_) (fun c_7 => ?_)
          · skip
            have ht0 : t = 0 := by have := (nI_leI (by omega) (by omega)).mp c_7; omega
            have yfin := ins_fin (off := 150 * lc) (od := li2) (t := t) (e4.trans (by rw [ht0]; rfl)) (by omega) e2 e3
            refine lv_aload_n hx hb d_M_gather_118 rfl (lv_at hl 4 rfl) ?_
            refine fr_get (ci := 5) (Cn := hR_5) (T := hF_5) (N := 34) hx hb hT hi_5 hown hK hE (0, 40) rfl m0 rfl 16 (by decide) (hT _ kw_490) (fun _ h9 => h9) rfl d_M_gather_119 ?_
            refine lv_iload hx hb d_M_gather_122 (lv_at hl 0 rfl) ?_
            refine lv_iload hx hb d_M_gather_124 (lv_at hl 3 rfl) ?_
            refine fr_iast hx hb hK hE hS (0, 56) 0 rfl rfl rfl (150 * lc + t) (rfl) (by omega) (by decide) d_M_gather_126 (fun H locs hE hS => ?_)
            rw [fr_up_up] at hE
            refine lv_iinc (v := nI (k + 1)) (lv' := [(5, .int (nI (k + 1))), (7, .int (nI (150 * lc + t))), (4, .int (nI (150 * lc))), (6, .int (nI q)), (0, .ref (b 40)), (1, .int fr), (2, .int to), (3, .int of)]) hx hb d_M_gather_127 hl (k := 2) rfl (nI_1 k) (by decide) rfl (fun ls hl => ?_)
            refine lv_iinc (v := nI (q + 1)) (lv' := [(6, .int (nI (q + 1))), (5, .int (nI (k + 1))), (7, .int (nI (150 * lc + t))), (4, .int (nI (150 * lc))), (0, .ref (b 40)), (1, .int fr), (2, .int to), (3, .int of)]) hx hb d_M_gather_130 hl (k := 3) rfl (nI_1 q) (by decide) rfl (fun ls hl => ?_)
            refine lv_goto (tgt := 16) hx hb d_M_gather_133 (by decide) ?_
            have bi0 : n9 + (q + 1) = n + 1 := by omega
            have bi1 : (q + 1) ≤ n := by omega
            have bi2 : (k + 1) = (gaF (selB fr to of dy st) dy (q + 1)).2 := by rw [gaF_yes ys, i2]
            have bi3 : ∀ j, j < (k + 1) → (upd li2 (150 * lc + t) (nI q)) (150 * lc + j) = nI ((gaF (selB fr to of dy st) dy (q + 1)).1 j) := fun j hj => by rw [gaF_yes ys]; exact (yfin j hj).trans (by rw [i2])
            have bi4 : ∀ i, i < 150 * lc → (upd li2 (150 * lc + t) (nI q)) i = li i := fun i hi => by rw [pk_un (by omega)]; exact e5 i hi
            exact ih (q + 1, k + 1, upd li2 (150 * lc + t) (nI q)) _ _ _ ⟨bi0, bi1, bi2, bi3, bi4, hE, hS, lv_sub hl [3, 1, 0, 4, 5, 6, 7] rfl⟩
          · skip
            obtain ⟨m_1, rfl⟩ : ∃ m, t = m + 1 := by cases t with | zero => exact absurd (nI_le (by omega) (by omega)) c_7 | succ m => exact ⟨m, rfl⟩
            have hm_1 := e2 m_1 (by omega)
            have hm_2 := hL m_1 (by omega)
            refine lv_aload_n hx hb d_M_gather_72 rfl (lv_at hl 4 rfl) ?_
            refine fr_get (ci := 5) (Cn := hR_5) (T := hF_5) (N := 34) hx hb hT hi_5 hown hK hE (0, 40) rfl m0 rfl 7 (by decide) (hT _ kw_481) (fun _ h9 => h9) rfl d_M_gather_73 ?_
            refine lv_aload_n hx hb d_M_gather_76 rfl (lv_at hl 4 rfl) ?_
            refine fr_get (ci := 5) (Cn := hR_5) (T := hF_5) (N := 34) hx hb hT hi_5 hown hK hE (0, 40) rfl m0 rfl 16 (by decide) (hT _ kw_490) (fun _ h9 => h9) rfl d_M_gather_77 ?_
            refine lv_iload hx hb d_M_gather_80 (lv_at hl 0 rfl) ?_
            refine lv_iconst (v := 1) hx hb d_M_gather_82 (by decide) ?_
            refine lv_isub hx hb d_M_gather_83 ?_
            refine lv_topi (fun y_8 ey_8 => ?_)
            obtain rfl : y_8 = nI (150 * lc + m_1) := ey_8.trans (by rw [show 150 * lc + (m_1 + 1) = (150 * lc + m_1) + 1 by omega]; exact nI_pred _)
            refine fr_iald hx hb hK hE (0, 56) 0 rfl rfl rfl (150 * lc + m_1) (rfl) (by omega) (by decide) d_M_gather_84 ?_
            refine fr_iald hx hb hK hE (0, 47) 0 rfl m7 rfl ((gaF (selB fr to of dy st) dy q).1 m_1) (hm_1) (hm_2) (by decide) d_M_gather_85 ?_
            refine lv_aload_n hx hb d_M_gather_86 rfl (lv_at hl 4 rfl) ?_
            refine fr_get (ci := 5) (Cn := hR_5) (T := hF_5) (N := 34) hx hb hT hi_5 hown hK hE (0, 40) rfl m0 rfl 7 (by decide) (hT _ kw_481) (fun _ h9 => h9) rfl d_M_gather_87 ?_
            refine lv_iload hx hb d_M_gather_90 (lv_at hl 3 rfl) ?_
            refine fr_iald hx hb hK hE (0, 47) 0 rfl m7 rfl q (rfl) (by omega) (by decide) d_M_gather_92 ?_
            refine lv_icmp_le (tgt := 118) hx hb d_M_gather_93 (by decide) (fun c_9 => ?_) (fun c_9 => ?_)
            · skip
              have yfin := ins_fin (off := 150 * lc) (od := li2) (t := (m_1 + 1)) (e4.trans (psF_s c_9)) (by omega) e2 e3
              refine lv_aload_n hx hb d_M_gather_118 rfl (lv_at hl 4 rfl) ?_
              refine fr_get (ci := 5) (Cn := hR_5) (T := hF_5) (N := 34) hx hb hT hi_5 hown hK hE (0, 40) rfl m0 rfl 16 (by decide) (hT _ kw_490) (fun _ h9 => h9) rfl d_M_gather_119 ?_
              refine lv_iload hx hb d_M_gather_122 (lv_at hl 0 rfl) ?_
              refine lv_iload hx hb d_M_gather_124 (lv_at hl 3 rfl) ?_
              refine fr_iast hx hb hK hE hS (0, 56) 0 rfl rfl rfl (150 * lc + (m_1 + 1)) (rfl) (by omega) (by decide) d_M_gather_126 (fun H locs hE hS => ?_)
              rw [fr_up_up] at hE
              refine lv_iinc (v := nI (k + 1)) (lv' := [(5, .int (nI (k + 1))), (7, .int (nI (150 * lc + (m_1 + 1)))), (4, .int (nI (150 * lc))), (6, .int (nI q)), (0, .ref (b 40)), (1, .int fr), (2, .int to), (3, .int of)]) hx hb d_M_gather_127 hl (k := 2) rfl (nI_1 k) (by decide) rfl (fun ls hl => ?_)
              refine lv_iinc (v := nI (q + 1)) (lv' := [(6, .int (nI (q + 1))), (5, .int (nI (k + 1))), (7, .int (nI (150 * lc + (m_1 + 1)))), (4, .int (nI (150 * lc))), (0, .ref (b 40)), (1, .int fr), (2, .int to), (3, .int of)]) hx hb d_M_gather_130 hl (k := 3) rfl (nI_1 q) (by decide) rfl (fun ls hl => ?_)
              refine lv_goto (tgt := 16) hx hb d_M_gather_133 (by decide) ?_
              have bi0 : n9 + (q + 1) = n + 1 := by omega
              have bi1 : (q + 1) ≤ n := by omega
              have bi2 : (k + 1) = (gaF (selB fr to of dy st) dy (q + 1)).2 := by rw [gaF_yes ys, i2]
              have bi3 : ∀ j, j < (k + 1) → (upd li2 (150 * lc + (m_1 + 1)) (nI q)) (150 * lc + j) = nI ((gaF (selB fr to of dy st) dy (q + 1)).1 j) := fun j hj => by rw [gaF_yes ys]; exact (yfin j hj).trans (by rw [i2])
              have bi4 : ∀ i, i < 150 * lc → (upd li2 (150 * lc + (m_1 + 1)) (nI q)) i = li i := fun i hi => by rw [pk_un (by omega)]; exact e5 i hi
              exact ih (q + 1, k + 1, upd li2 (150 * lc + (m_1 + 1)) (nI q)) _ _ _ ⟨bi0, bi1, bi2, bi3, bi4, hE, hS, lv_sub hl [3, 1, 0, 4, 5, 6, 7] rfl⟩
            · skip
              refine lv_aload_n hx hb d_M_gather_96 rfl (lv_at hl 4 rfl) ?_
              refine fr_get (ci := 5) (Cn := hR_5) (T := hF_5) (N := 34) hx hb hT hi_5 hown hK hE (0, 40) rfl m0 rfl 16 (by decide) (hT _ kw_490) (fun _ h9 => h9) rfl d_M_gather_97 ?_
              refine lv_iload hx hb d_M_gather_100 (lv_at hl 0 rfl) ?_
              refine lv_aload_n hx hb d_M_gather_102 rfl (lv_at hl 4 rfl) ?_
              refine fr_get (ci := 5) (Cn := hR_5) (T := hF_5) (N := 34) hx hb hT hi_5 hown hK hE (0, 40) rfl m0 rfl 16 (by decide) (hT _ kw_490) (fun _ h9 => h9) rfl d_M_gather_103 ?_
              refine lv_iload hx hb d_M_gather_106 (lv_at hl 0 rfl) ?_
              refine lv_iconst (v := 1) hx hb d_M_gather_108 (by decide) ?_
              refine lv_isub hx hb d_M_gather_109 ?_
              refine lv_topi (fun y_10 ey_10 => ?_)
              obtain rfl : y_10 = nI (150 * lc + m_1) := ey_10.trans (by rw [show 150 * lc + (m_1 + 1) = (150 * lc + m_1) + 1 by omega]; exact nI_pred _)
              refine fr_iald hx hb hK hE (0, 56) 0 rfl rfl rfl (150 * lc + m_1) (rfl) (by omega) (by decide) d_M_gather_110 ?_
              refine fr_iast hx hb hK hE hS (0, 56) 0 rfl rfl rfl (150 * lc + (m_1 + 1)) (rfl) (by omega) (by decide) d_M_gather_111 (fun H locs hE hS => ?_)
              refine lv_iinc (v := nI (150 * lc + m_1)) (lv' := [(7, .int (nI (150 * lc + m_1))), (4, .int (nI (150 * lc))), (5, .int (nI k)), (6, .int (nI q)), (0, .ref (b 40)), (1, .int fr), (2, .int to), (3, .int of)]) hx hb d_M_gather_112 hl (k := 0) rfl (by rw [show 150 * lc + (m_1 + 1) = (150 * lc + m_1) + 1 by omega]; exact pk_m1 _) (by decide) rfl (fun ls hl => ?_)
              refine lv_goto (tgt := 65) hx hb d_M_gather_115 (by decide) ?_
              rw [fr_up_up, hm_1] at hE
              have be0 : n9a = m_1 + 1 := by omega
              have be1 : m_1 ≤ k := by omega
              have be2 : ∀ j, j < m_1 → (upd li2 (150 * lc + (m_1 + 1)) (nI ((gaF (selB fr to of dy st) dy q).1 m_1))) (150 * lc + j) = nI ((gaF (selB fr to of dy st) dy q).1 j) := fun j hj => by rw [pk_un (by omega)]; exact e2 j (by omega)
              have be3 : ∀ j, m_1 ≤ j → j < k → (upd li2 (150 * lc + (m_1 + 1)) (nI ((gaF (selB fr to of dy st) dy q).1 m_1))) (150 * lc + (j + 1)) = nI ((gaF (selB fr to of dy st) dy q).1 j) := fun j h1 h2 => by rcases Nat.lt_or_ge m_1 j with y | y; rw [pk_un (by omega)]; exact e3 j (by omega) h2; rw [show j = m_1 by omega]; exact pk_us
              have be4 : psF dy q (gaF (selB fr to of dy st) dy q).1 k = psF dy q (gaF (selB fr to of dy st) dy q).1 m_1 := e4.trans (psF_n c_9)
              have be5 : ∀ i, i < 150 * lc → (upd li2 (150 * lc + (m_1 + 1)) (nI ((gaF (selB fr to of dy st) dy q).1 m_1))) i = li i := fun i hi => by rw [pk_un (by omega)]; exact e5 i hi
              exact iha (m_1, upd li2 (150 * lc + (m_1 + 1)) (nI ((gaF (selB fr to of dy st) dy q).1 m_1))) _ _ _ ⟨be0, be1, be2, be3, be4, be5, hE, hS, lv_sub hl [0, 1, 2, 3, 4, 5, 6, 7] rfl⟩
        · skip
          refine lv_aload_n hx hb d_M_gather_44 rfl (lv_at hl 3 rfl) ?_
          refine fr_get (ci := 5) (Cn := hR_5) (T := hF_5) (N := 34) hx hb hT hi_5 hown hK hE (0, 40) rfl m0 rfl 6 (by decide) (hT _ kw_480) (fun _ h9 => h9) rfl d_M_gather_45 ?_
          refine lv_iload hx hb d_M_gather_48 (lv_at hl 2 rfl) ?_
          refine fr_iald hx hb hK hE (0, 46) 0 rfl m6 rfl q (rfl) (by omega) (by decide) d_M_gather_50 ?_
          refine lv_iload_n hx hb d_M_gather_51 rfl (lv_at hl 6 rfl) ?_
          refine lv_icmp_eq (tgt := 58) hx hb d_M_gather_52 (by decide) (fun c_11 => ?_) (fun c_11 => ?_)
          · skip
            have ys : (selB fr to of dy st) q = true := selB_yes pw_3.1 pw_3.2 (Or.inr c_11)
            refine lv_iload hx hb d_M_gather_58 (lv_at hl 0 rfl) ?_
            refine lv_iload hx hb d_M_gather_60 (lv_at hl 1 rfl) ?_
            refine lv_iadd hx hb d_M_gather_62 ?_
            refine lv_topi (fun y_12 ey_12 => ?_)
            obtain rfl : y_12 = nI (150 * lc + k) := ey_12.trans (nI_add _ _)
            refine lv_istore (lv' := [(7, .int (nI (150 * lc + k))), (4, .int (nI (150 * lc))), (5, .int (nI k)), (6, .int (nI q)), (0, .ref (b 40)), (1, .int fr), (2, .int to), (3, .int of)]) hx hb d_M_gather_63 hl (by decide) rfl (fun ls hl => ?_)
            refine W.widen (k := 0) (n := 0) (Nat.le_of_ble_eq_true rfl) (Nat.le_of_ble_eq_true rfl) ?_
            have ae0 : (k + 1) = k + 1 := rfl
            have ae1 : k ≤ k := Nat.le_refl k
            have ae2 : ∀ j, j < k → li1 (150 * lc + j) = nI ((gaF (selB fr to of dy st) dy q).1 j) := i3
            have ae3 : ∀ j, k ≤ j → j < k → li1 (150 * lc + (j + 1)) = nI ((gaF (selB fr to of dy st) dy q).1 j) := fun j h1 h2 => absurd h2 (by omega)
            have ae4 : psF dy q (gaF (selB fr to of dy st) dy q).1 k = psF dy q (gaF (selB fr to of dy st) dy q).1 k := rfl
            have ae5 : ∀ i, i < 150 * lc → li1 i = li i := i4
            refine fr_loop (σ := Nat × (Nat → Int32)) (fun n9a x H locs ls => (n9a = x.1 + 1) ∧ (x.1 ≤ k) ∧ (∀ j, j < x.1 → x.2 (150 * lc + j) = nI ((gaF (selB fr to of dy st) dy q).1 j)) ∧ (∀ j, x.1 ≤ j → j < k → x.2 (150 * lc + (j + 1)) = nI ((gaF (selB fr to of dy st) dy q).1 j)) ∧ (psF dy q (gaF (selB fr to of dy st) dy q).1 k = psF dy q (gaF (selB fr to of dy st) dy q).1 x.1) ∧ (∀ i, i < 150 * lc → x.2 i = li i) ∧ fr_W D hCl z b (fr_up C (0, 56) (.inl (cI, 4500, .inl x.2))) H ∧ va_S (fr_A z) s.heap H locs ∧ lv_has ls 8 [(7, .int (nI (150 * lc + x.1))), (4, .int (nI (150 * lc))), (5, .int (nI k)), (6, .int (nI q)), (0, .ref (b 40)), (1, .int fr), (2, .int to), (3, .int of)]) (fun x H locs ls h => by obtain ⟨h1, h2, -⟩ := h; omega) (fun n9a x H locs ls hI iha => ?_) (k + 1) (k, li1) _ _ _ ⟨ae0, ae1, ae2, ae3, ae4, ae5, hE, hS, lv_sub hl [0, 1, 2, 3, 4, 5, 6, 7] rfl⟩
            obtain ⟨t, li2⟩ := x
            obtain ⟨e0, e1, e2, e3, e4, e5, hE, hS, hl⟩ := hI
            replace e0 : (n9a + 1) = t + 1 := e0
            replace e1 : t ≤ k := e1
            replace e2 : ∀ j, j < t → li2 (150 * lc + j) = nI ((gaF (selB fr to of dy st) dy q).1 j) := e2
            replace e3 : ∀ j, t ≤ j → j < k → li2 (150 * lc + (j + 1)) = nI ((gaF (selB fr to of dy st) dy q).1 j) := e3
            replace e4 : psF dy q (gaF (selB fr to of dy st) dy q).1 k = psF dy q (gaF (selB fr to of dy st) dy q).1 t := e4
            replace e5 : ∀ i, i < 150 * lc → li2 i = li i := e5
            replace hE : fr_W D hCl z b (fr_up C (0, 56) (.inl (cI, 4500, .inl li2))) H := hE
            replace hl : lv_has ls 8 [(7, .int (nI (150 * lc + t))), (4, .int (nI (150 * lc))), (5, .int (nI k)), (6, .int (nI q)), (0, .ref (b 40)), (1, .int fr), (2, .int to), (3, .int of)] := hl
            refine lv_iload hx hb d_M_gather_65 (lv_at hl 0 rfl) ?_
            refine lv_iload hx hb d_M_gather_67 (lv_at hl 1 rfl) ?_
            refine lv_icmp_le (tgt := 118) hx hb d_M_gather_69 (by decide) (fun c_13 => ?_) (fun c_13 => ?_)
            · skip
              have ht0 : t = 0 := by have := (nI_leI (by omega) (by omega)).mp c_13; omega
              have yfin := ins_fin (off := 150 * lc) (od := li2) (t := t) (e4.trans (by rw [ht0]; rfl)) (by omega) e2 e3
              refine lv_aload_n hx hb d_M_gather_118 rfl (lv_at hl 4 rfl) ?_
              refine fr_get (ci := 5) (Cn := hR_5) (T := hF_5) (N := 34) hx hb hT hi_5 hown hK hE (0, 40) rfl m0 rfl 16 (by decide) (hT _ kw_490) (fun _ h9 => h9) rfl d_M_gather_119 ?_
              refine lv_iload hx hb d_M_gather_122 (lv_at hl 0 rfl) ?_
              refine lv_iload hx hb d_M_gather_124 (lv_at hl 3 rfl) ?_
              refine fr_iast hx hb hK hE hS (0, 56) 0 rfl rfl rfl (150 * lc + t) (rfl) (by omega) (by decide) d_M_gather_126 (fun H locs hE hS => ?_)
              rw [fr_up_up] at hE
              refine lv_iinc (v := nI (k + 1)) (lv' := [(5, .int (nI (k + 1))), (7, .int (nI (150 * lc + t))), (4, .int (nI (150 * lc))), (6, .int (nI q)), (0, .ref (b 40)), (1, .int fr), (2, .int to), (3, .int of)]) hx hb d_M_gather_127 hl (k := 2) rfl (nI_1 k) (by decide) rfl (fun ls hl => ?_)
              refine lv_iinc (v := nI (q + 1)) (lv' := [(6, .int (nI (q + 1))), (5, .int (nI (k + 1))), (7, .int (nI (150 * lc + t))), (4, .int (nI (150 * lc))), (0, .ref (b 40)), (1, .int fr), (2, .int to), (3, .int of)]) hx hb d_M_gather_130 hl (k := 3) rfl (nI_1 q) (by decide) rfl (fun ls hl => ?_)
              refine lv_goto (tgt := 16) hx hb d_M_gather_133 (by decide) ?_
              have bi0 : n9 + (q + 1) = n + 1 := by omega
              have bi1 : (q + 1) ≤ n := by omega
              have bi2 : (k + 1) = (gaF (selB fr to of dy st) dy (q + 1)).2 := by rw [gaF_yes ys, i2]
              have bi3 : ∀ j, j < (k + 1) → (upd li2 (150 * lc + t) (nI q)) (150 * lc + j) = nI ((gaF (selB fr to of dy st) dy (q + 1)).1 j) := fun j hj => by rw [gaF_yes ys]; exact (yfin j hj).trans (by rw [i2])
              have bi4 : ∀ i, i < 150 * lc → (upd li2 (150 * lc + t) (nI q)) i = li i := fun i hi => by rw [pk_un (by omega)]; exact e5 i hi
              exact ih (q + 1, k + 1, upd li2 (150 * lc + t) (nI q)) _ _ _ ⟨bi0, bi1, bi2, bi3, bi4, hE, hS, lv_sub hl [3, 1, 0, 4, 5, 6, 7] rfl⟩
            · skip
              obtain ⟨m_1, rfl⟩ : ∃ m, t = m + 1 := by cases t with | zero => exact absurd (nI_le (by omega) (by omega)) c_13 | succ m => exact ⟨m, rfl⟩
              have hm_1 := e2 m_1 (by omega)
              have hm_2 := hL m_1 (by omega)
              refine lv_aload_n hx hb d_M_gather_72 rfl (lv_at hl 4 rfl) ?_
              refine fr_get (ci := 5) (Cn := hR_5) (T := hF_5) (N := 34) hx hb hT hi_5 hown hK hE (0, 40) rfl m0 rfl 7 (by decide) (hT _ kw_481) (fun _ h9 => h9) rfl d_M_gather_73 ?_
              refine lv_aload_n hx hb d_M_gather_76 rfl (lv_at hl 4 rfl) ?_
              refine fr_get (ci := 5) (Cn := hR_5) (T := hF_5) (N := 34) hx hb hT hi_5 hown hK hE (0, 40) rfl m0 rfl 16 (by decide) (hT _ kw_490) (fun _ h9 => h9) rfl d_M_gather_77 ?_
              refine lv_iload hx hb d_M_gather_80 (lv_at hl 0 rfl) ?_
              refine lv_iconst (v := 1) hx hb d_M_gather_82 (by decide) ?_
              refine lv_isub hx hb d_M_gather_83 ?_
              refine lv_topi (fun y_14 ey_14 => ?_)
              obtain rfl : y_14 = nI (150 * lc + m_1) := ey_14.trans (by rw [show 150 * lc + (m_1 + 1) = (150 * lc + m_1) + 1 by omega]; exact nI_pred _)
              refine fr_iald hx hb hK hE (0, 56) 0 rfl rfl rfl (150 * lc + m_1) (rfl) (by omega) (by decide) d_M_gather_84 ?_
              refine fr_iald hx hb hK hE (0, 47) 0 rfl m7 rfl ((gaF (selB fr to of dy st) dy q).1 m_1) (hm_1) (hm_2) (by decide) d_M_gather_85 ?_
              refine lv_aload_n hx hb d_M_gather_86 rfl (lv_at hl 4 rfl) ?_
              refine fr_get (ci := 5) (Cn := hR_5) (T := hF_5) (N := 34) hx hb hT hi_5 hown hK hE (0, 40) rfl m0 rfl 7 (by decide) (hT _ kw_481) (fun _ h9 => h9) rfl d_M_gather_87 ?_
              refine lv_iload hx hb d_M_gather_90 (lv_at hl 3 rfl) ?_
              refine fr_iald hx hb hK hE (0, 47) 0 rfl m7 rfl q (rfl) (by omega) (by decide) d_M_gather_92 ?_
              refine lv_icmp_le (tgt := 118) hx hb d_M_gather_93 (by decide) (fun c_15 => ?_) (fun c_15 => ?_)
              · skip
                have yfin := ins_fin (off := 150 * lc) (od := li2) (t := (m_1 + 1)) (e4.trans (psF_s c_15)) (by omega) e2 e3
                refine lv_aload_n hx hb d_M_gather_118 rfl (lv_at hl 4 rfl) ?_
                refine fr_get (ci := 5) (Cn := hR_5) (T := hF_5) (N := 34) hx hb hT hi_5 hown hK hE (0, 40) rfl m0 rfl 16 (by decide) (hT _ kw_490) (fun _ h9 => h9) rfl d_M_gather_119 ?_
                refine lv_iload hx hb d_M_gather_122 (lv_at hl 0 rfl) ?_
                refine lv_iload hx hb d_M_gather_124 (lv_at hl 3 rfl) ?_
                refine fr_iast hx hb hK hE hS (0, 56) 0 rfl rfl rfl (150 * lc + (m_1 + 1)) (rfl) (by omega) (by decide) d_M_gather_126 (fun H locs hE hS => ?_)
                rw [fr_up_up] at hE
                refine lv_iinc (v := nI (k + 1)) (lv' := [(5, .int (nI (k + 1))), (7, .int (nI (150 * lc + (m_1 + 1)))), (4, .int (nI (150 * lc))), (6, .int (nI q)), (0, .ref (b 40)), (1, .int fr), (2, .int to), (3, .int of)]) hx hb d_M_gather_127 hl (k := 2) rfl (nI_1 k) (by decide) rfl (fun ls hl => ?_)
                refine lv_iinc (v := nI (q + 1)) (lv' := [(6, .int (nI (q + 1))), (5, .int (nI (k + 1))), (7, .int (nI (150 * lc + (m_1 + 1)))), (4, .int (nI (150 * lc))), (0, .ref (b 40)), (1, .int fr), (2, .int to), (3, .int of)]) hx hb d_M_gather_130 hl (k := 3) rfl (nI_1 q) (by decide) rfl (fun ls hl => ?_)
                refine lv_goto (tgt := 16) hx hb d_M_gather_133 (by decide) ?_
                have bi0 : n9 + (q + 1) = n + 1 := by omega
                have bi1 : (q + 1) ≤ n := by omega
                have bi2 : (k + 1) = (gaF (selB fr to of dy st) dy (q + 1)).2 := by rw [gaF_yes ys, i2]
                have bi3 : ∀ j, j < (k + 1) → (upd li2 (150 * lc + (m_1 + 1)) (nI q)) (150 * lc + j) = nI ((gaF (selB fr to of dy st) dy (q + 1)).1 j) := fun j hj => by rw [gaF_yes ys]; exact (yfin j hj).trans (by rw [i2])
                have bi4 : ∀ i, i < 150 * lc → (upd li2 (150 * lc + (m_1 + 1)) (nI q)) i = li i := fun i hi => by rw [pk_un (by omega)]; exact e5 i hi
                exact ih (q + 1, k + 1, upd li2 (150 * lc + (m_1 + 1)) (nI q)) _ _ _ ⟨bi0, bi1, bi2, bi3, bi4, hE, hS, lv_sub hl [3, 1, 0, 4, 5, 6, 7] rfl⟩
              · skip
                refine lv_aload_n hx hb d_M_gather_96 rfl (lv_at hl 4 rfl) ?_
                refine fr_get (ci := 5) (Cn := hR_5) (T := hF_5) (N := 34) hx hb hT hi_5 hown hK hE (0, 40) rfl m0 rfl 16 (by decide) (hT _ kw_490) (fun _ h9 => h9) rfl d_M_gather_97 ?_
                refine lv_iload hx hb d_M_gather_100 (lv_at hl 0 rfl) ?_
                refine lv_aload_n hx hb d_M_gather_102 rfl (lv_at hl 4 rfl) ?_
                refine fr_get (ci := 5) (Cn := hR_5) (T := hF_5) (N := 34) hx hb hT hi_5 hown hK hE (0, 40) rfl m0 rfl 16 (by decide) (hT _ kw_490) (fun _ h9 => h9) rfl d_M_gather_103 ?_
                refine lv_iload hx hb d_M_gather_106 (lv_at hl 0 rfl) ?_
                refine lv_iconst (v := 1) hx hb d_M_gather_108 (by decide) ?_
                refine lv_isub hx hb d_M_gather_109 ?_
                refine lv_topi (fun y_16 ey_16 => ?_)
                obtain rfl : y_16 = nI (150 * lc + m_1) := ey_16.trans (by rw [show 150 * lc + (m_1 + 1) = (150 * lc + m_1) + 1 by omega]; exact nI_pred _)
                refine fr_iald hx hb hK hE (0, 56) 0 rfl rfl rfl (150 * lc + m_1) (rfl) (by omega) (by decide) d_M_gather_110 ?_
                refine fr_iast hx hb hK hE hS (0, 56) 0 rfl rfl rfl (150 * lc + (m_1 + 1)) (rfl) (by omega) (by decide) d_M_gather_111 (fun H locs hE hS => ?_)
                refine lv_iinc (v := nI (150 * lc + m_1)) (lv' := [(7, .int (nI (150 * lc + m_1))), (4, .int (nI (150 * lc))), (5, .int (nI k)), (6, .int (nI q)), (0, .ref (b 40)), (1, .int fr), (2, .int to), (3, .int of)]) hx hb d_M_gather_112 hl (k := 0) rfl (by rw [show 150 * lc + (m_1 + 1) = (150 * lc + m_1) + 1 by omega]; exact pk_m1 _) (by decide) rfl (fun ls hl => ?_)
                refine lv_goto (tgt := 65) hx hb d_M_gather_115 (by decide) ?_
                rw [fr_up_up, hm_1] at hE
                have be0 : n9a = m_1 + 1 := by omega
                have be1 : m_1 ≤ k := by omega
                have be2 : ∀ j, j < m_1 → (upd li2 (150 * lc + (m_1 + 1)) (nI ((gaF (selB fr to of dy st) dy q).1 m_1))) (150 * lc + j) = nI ((gaF (selB fr to of dy st) dy q).1 j) := fun j hj => by rw [pk_un (by omega)]; exact e2 j (by omega)
                have be3 : ∀ j, m_1 ≤ j → j < k → (upd li2 (150 * lc + (m_1 + 1)) (nI ((gaF (selB fr to of dy st) dy q).1 m_1))) (150 * lc + (j + 1)) = nI ((gaF (selB fr to of dy st) dy q).1 j) := fun j h1 h2 => by rcases Nat.lt_or_ge m_1 j with y | y; rw [pk_un (by omega)]; exact e3 j (by omega) h2; rw [show j = m_1 by omega]; exact pk_us
                have be4 : psF dy q (gaF (selB fr to of dy st) dy q).1 k = psF dy q (gaF (selB fr to of dy st) dy q).1 m_1 := e4.trans (psF_n c_15)
                have be5 : ∀ i, i < 150 * lc → (upd li2 (150 * lc + (m_1 + 1)) (nI ((gaF (selB fr to of dy st) dy q).1 m_1))) i = li i := fun i hi => by rw [pk_un (by omega)]; exact e5 i hi
                exact iha (m_1, upd li2 (150 * lc + (m_1 + 1)) (nI ((gaF (selB fr to of dy st) dy q).1 m_1))) _ _ _ ⟨be0, be1, be2, be3, be4, be5, hE, hS, lv_sub hl [0, 1, 2, 3, 4, 5, 6, 7] rfl⟩
          · skip
            refine lv_goto (tgt := 130) hx hb d_M_gather_55 (by decide) ?_
            refine lv_iinc (v := nI (q + 1)) (lv' := [(6, .int (nI (q + 1))), (4, .int (nI (150 * lc))), (5, .int (nI k)), (0, .ref (b 40)), (1, .int fr), (2, .int to), (3, .int of)]) hx hb d_M_gather_130 hl (k := 2) rfl (nI_1 q) (by decide) rfl (fun ls hl => ?_)
            refine lv_goto (tgt := 16) hx hb d_M_gather_133 (by decide) ?_
            have ns : (selB fr to of dy st) q = false := selB_n3 c_5 c_11
            have bi0 : n9 + (q + 1) = n + 1 := by omega
            have bi1 : (q + 1) ≤ n := by omega
            have bi2 : k = (gaF (selB fr to of dy st) dy (q + 1)).2 := by rw [gaF_no ns, i2]
            have bi3 : ∀ j, j < k → li1 (150 * lc + j) = nI ((gaF (selB fr to of dy st) dy (q + 1)).1 j) := fun j hj => by rw [gaF_no ns]; exact i3 j hj
            have bi4 : ∀ i, i < 150 * lc → li1 i = li i := i4
            exact ih (q + 1, k, li1) _ _ _ ⟨bi0, bi1, bi2, bi3, bi4, hE, hS, lv_sub hl [1, 2, 0, 3, 4, 5, 6] rfl⟩
    · skip
      refine lv_if_eq (tgt := 130) hx hb d_M_gather_37 (by decide) (fun c_17 => ?_) (fun c_17 => ?_)
      · skip
        refine lv_iinc (v := nI (q + 1)) (lv' := [(6, .int (nI (q + 1))), (4, .int (nI (150 * lc))), (5, .int (nI k)), (0, .ref (b 40)), (1, .int fr), (2, .int to), (3, .int of)]) hx hb d_M_gather_130 hl (k := 2) rfl (nI_1 q) (by decide) rfl (fun ls hl => ?_)
        refine lv_goto (tgt := 16) hx hb d_M_gather_133 (by decide) ?_
        have ns : (selB fr to of dy st) q = false := by by_cases y1 : fr ≤ dy q; exact selB_n2 (fun y2 => pw_3 ⟨y1, y2⟩); exact selB_n1 y1
        have bi0 : n9 + (q + 1) = n + 1 := by omega
        have bi1 : (q + 1) ≤ n := by omega
        have bi2 : k = (gaF (selB fr to of dy st) dy (q + 1)).2 := by rw [gaF_no ns, i2]
        have bi3 : ∀ j, j < k → li1 (150 * lc + j) = nI ((gaF (selB fr to of dy st) dy (q + 1)).1 j) := fun j hj => by rw [gaF_no ns]; exact i3 j hj
        have bi4 : ∀ i, i < 150 * lc → li1 i = li i := i4
        exact ih (q + 1, k, li1) _ _ _ ⟨bi0, bi1, bi2, bi3, bi4, hE, hS, lv_sub hl [1, 2, 0, 3, 4, 5, 6] rfl⟩
      · skip
        exact absurd c_17 (by decide)
end
section
theorem fr_W.agw {D : va_G} {cl : List vw_C} {z : Nat} {b : Nat → Nat} {C C0 : fr_C} {H : Heap} {L : List (Nat × Nat)} (_h : fr_W D cl z b C H) (hag : fr_ag L C C0) : fr_ag L C C0 := hag
theorem fr_W.say {D : va_G} {cl : List vw_C} {z : Nat} {b : Nat → Nat} {C : fr_C} {H : Heap} (P : fr_C → Prop) (_h : fr_W D cl z b C H) (hp : P C) : P C := hp
/-- which of the records at the places a .. a + m - 1 of a list come on the page -/
def kp (q : Nat → Bool) (g : Nat → Nat) (a : Nat) : Nat → List Nat
  | 0 => []
  | m + 1 => kp q g a m ++ (if q (g (a + m)) = true then [g (a + m)] else [])
theorem kp_yes {q : Nat → Bool} {g : Nat → Nat} {a m : Nat} (h : q (g (a + m)) = true) : kp q g a (m + 1) = kp q g a m ++ [g (a + m)] := by
  conv => lhs; unfold kp
  rw [if_pos h]
theorem kp_no {q : Nat → Bool} {g : Nat → Nat} {a m : Nat} (h : q (g (a + m)) = false) : kp q g a (m + 1) = kp q g a m := by
  conv => lhs; unfold kp
  rw [if_neg (by rw [h]; decide), List.append_nil]
/-- a record without an act since s -/
def keepB (ac : Nat → Int32) (s : Int32) (r : Nat) : Bool := decide (ac r ≤ s)
theorem upd_upd (f : Nat → Int32) (k : Nat) (x y : Int32) : upd (upd f k x) k y = upd f k y := by
  funext j
  by_cases h : j = k
  · subst h
    rw [pk_us, pk_us]
  · rw [pk_un h, pk_un h, pk_un h]
def mPgL : List (Nat × Nat) := [(0, 40), (0, 58), (0, 59), (0, 60), (0, 61), (0, 62), (0, 64), (0, 65), (0, 66), (0, 68), (0, 69), (0, 70)]
/-- rows that a page adds: K's records, from w on -/
def rowsOf (K : List Nat) (w : Nat) (dy dl rr rd rg rr' rd' rg' : Nat → Int32) : Prop := (∀ j, j < w → rr' j = rr j ∧ rd' j = rd j ∧ rg' j = rg j) ∧ ∀ j x, K[j]? = some x → rr' (w + j) = nI x ∧ rd' (w + j) = dy x ∧ rg' (w + j) = dl x
theorem rowsOf_0 {w : Nat} {dy dl rr rd rg : Nat → Int32} : rowsOf [] w dy dl rr rd rg rr rd rg := ⟨fun _ _ => ⟨rfl, rfl, rfl⟩, fun j x h => by simp at h⟩
theorem rowsOf_add {K : List Nat} {w A x : Nat} {dy dl rr rd rg rr' rd' rg' : Nat → Int32} {v : Int32} (hA : A = K.length) (hv : v = nI x) (h : rowsOf K w dy dl rr rd rg rr' rd' rg') : rowsOf (K ++ [x]) w dy dl rr rd rg (upd rr' (w + A) v) (upd rd' (w + A) (dy x)) (upd rg' (w + A) (dl x)) := by
  subst hv
  refine ⟨fun j hj => ?_, fun j y hy => ?_⟩
  · rw [pk_un (by omega), pk_un (by omega), pk_un (by omega)]
    exact h.1 j hj
  · rcases Nat.lt_trichotomy j A with q | q | q
    · rw [List.getElem?_append_left (by omega)] at hy
      rw [pk_un (by omega), pk_un (by omega), pk_un (by omega)]
      exact h.2 j y hy
    · subst q
      rw [hA, List.getElem?_append_right (Nat.le_refl _), Nat.sub_self] at hy
      have : x = y := by simpa using hy
      subst this
      exact ⟨pk_us, pk_us, pk_us⟩
    · have := (List.getElem?_eq_some_iff.mp hy).1
      rw [List.length_append] at this
      simp at this
      omega
/-- what the reference's makePage does: page ps, of list L from F on, m places, K of them kept; tm: there is more behind it -/
def mPage (C C' : fr_C) (cI cZ : ClassId) (b : Nat → Nat) (th : Int32) (pg gr lf an n lc ps rw tk po : Nat) (pl pf pr pa pt rr rd rg tp md le dy dl : Nat → Int32) (L F : Nat) (t : Int32) (m : Nat) (K : List Nat) (tm : Prop) (rr' rd' rg' : Nat → Int32) : Prop :=
  C' (0, 58) = some (.inl (cI, 4600, .inl (upd pl ps (nI L)))) ∧ C' (0, 59) = some (.inl (cI, 4600, .inl (upd pf ps (nI F)))) ∧ C' (0, 60) = some (.inl (cI, 4600, .inl (upd pr ps (nI K.length)))) ∧ C' (0, 61) = some (.inl (cI, 4600, .inl (upd pa ps (nI rw)))) ∧ C' (0, 64) = some (.inl (cI, 4500, .inl rr')) ∧ C' (0, 65) = some (.inl (cI, 4500, .inl rd')) ∧ C' (0, 66) = some (.inl (cZ, 4500, .inl rg')) ∧ rowsOf K rw dy dl rr rd rg rr' rd' rg' ∧ K.length ≤ m ∧ fr_ag mPgL C' C ∧
  ((tm ∧ C' (0, 40) = some (.inr (5, fM b th pg gr lf an n lc (ps + 1) (rw + K.length) (tk + 1) (po + (m - K.length)))) ∧ C' (0, 62) = some (.inl (cI, 4600, .inl (upd pt ps (nI tk)))) ∧ C' (0, 68) = some (.inl (cI, 4600, .inl (upd tp tk (nI ps)))) ∧ C' (0, 69) = some (.inl (cI, 4600, .inl (upd md tk t))) ∧ C' (0, 70) = some (.inl (cI, 4600, .inl (upd le tk (-1))))) ∨
   (¬ tm ∧ C' (0, 40) = some (.inr (5, fM b th pg gr lf an n lc (ps + 1) (rw + K.length) tk (po + (m - K.length)))) ∧ C' (0, 62) = some (.inl (cI, 4600, .inl (upd pt ps (-1)))) ∧ C' (0, 68) = some (.inl (cI, 4600, .inl tp)) ∧ C' (0, 69) = some (.inl (cI, 4600, .inl md)) ∧ C' (0, 70) = some (.inl (cI, 4600, .inl le))))
set_option maxHeartbeats 4000000 in
set_option maxRecDepth 100000 in
theorem c_M_makePage (l : Launch) {D : va_G} {z : Nat} {b : Nat → Nat} {C : fr_C} {H9 : Heap} (h9 : fr_W D hCl z b C H9) {cI cZ cJ cP cO : ClassId} {th : Int32} {pg gr lf an n lc ps rw tk po : Nat} {dy : Nat → Int32} {dl : Nat → Int32} {ac : Nat → Int32} {mn : Nat → Int32} {si : Nat → Int32} {li : Nat → Int32} {pl : Nat → Int32} {pf : Nat → Int32} {pr : Nat → Int32} {pa : Nat → Int32} {pt : Nat → Int32} {rr : Nat → Int32} {rd : Nat → Int32} {rg : Nat → Int32} {tp : Nat → Int32} {md : Nat → Int32} {le : Nat → Int32} (m0 : C (0, 40) = some (.inr (5, fM b th pg gr lf an n lc ps rw tk po))) (m7 : C (0, 47) = some (.inl (cI, 150, .inl dy))) (m8 : C (0, 48) = some (.inl (cZ, 150, .inl dl))) (m9 : C (0, 49) = some (.inl (cI, 150, .inl ac))) (m12 : C (0, 52) = some (.inl (cI, 30, .inl mn))) (m13 : C (0, 53) = some (.inl (cI, 30, .inl si))) (m16 : C (0, 56) = some (.inl (cI, 4500, .inl li))) (m18 : C (0, 58) = some (.inl (cI, 4600, .inl pl))) (m19 : C (0, 59) = some (.inl (cI, 4600, .inl pf))) (m20 : C (0, 60) = some (.inl (cI, 4600, .inl pr))) (m21 : C (0, 61) = some (.inl (cI, 4600, .inl pa))) (m22 : C (0, 62) = some (.inl (cI, 4600, .inl pt))) (m24 : C (0, 64) = some (.inl (cI, 4500, .inl rr))) (m25 : C (0, 65) = some (.inl (cI, 4500, .inl rd))) (m26 : C (0, 66) = some (.inl (cZ, 4500, .inl rg))) (m28 : C (0, 68) = some (.inl (cI, 4600, .inl tp))) (m29 : C (0, 69) = some (.inl (cI, 4600, .inl md))) (m30 : C (0, 70) = some (.inl (cI, 4600, .inl le))) (L F mL mq : Nat) (t : Int32) (g : Nat → Nat) (hL : L < 30) (hps : ps < 4600) (htk : tk < 4600) (hpg : pg ≤ 50) (hmL : mn L = nI mL) (hmL2 : mL ≤ 150) (hF : F ≤ mL) (hm : F + mq = if F + pg < mL then F + pg else mL) (hrw : rw + mq ≤ 4500) (hdl : ∀ j, vp_nar .boolean (dl j) = dl j) (hgg : ∀ k, k < mL → li (150 * L + k) = nI (g k) ∧ g k < 150) : Met l y_M_makePage w_M_makePage ({ frames := 0, cells := 0, slots := 0, locals := 0 }) (va_Pc [.ref (b 40), .int (nI L), .int (nI F), .int t] (fr_G D hCl (hTy cI cZ cJ cP cO) z b C)) (va_Qi (fun (r : Int32) (u : fr_C × (Nat → Int32) × (Nat → Int32) × (Nat → Int32)) => r = nI ps ∧ mPage C u.1 cI cZ b th pg gr lf an n lc ps rw tk po pl pf pr pa pt rr rd rg tp md le dy dl L F t mq (kp (keepB ac (si L)) g F mq) (F + mq < mL) u.2.1 u.2.2.1 u.2.2.2) (fun u t => fr_G D hCl (hTy cI cZ cJ cP cO) z ((fun _ => b) u) ((fun u => u.1) u) t) (fr_A z)) 0 0 (fr_A z) := by
  refine Met.ofW (cc := b_M_makePage) (maxL := 8) (ret := (some .int)) (by decide) rfl ?_
  intro p e s m args below meth c s₁ B hml hv
  obtain ⟨rfl, hE, hK⟩ := hv
  have hx := B.exec
  have hb := B.bytes
  have hr := B.returns
  have hts := atoms_spec (ws := w_M_makePage) B.pre
  have hT : ∀ w ∈ hw_tbl, w.before _ s = true := fun w h => hts w (List.mem_cons_of_mem _ h)
  have hown : s.vm.findClass "HarvestStepsModel" = some m.cls := findClass_of_methodNamed B.named
  have hlocks := B.notSynchronized
  have hS : va_S (fr_A z) s.heap s.heap [] := va_S.rf
  have hl := lv_entry ([.ref (b 40), .int (nI L), .int (nI F), .int t]) (n := 8) (Nat.le_of_ble_eq_true rfl)
  rw [lg_entry_eq]
  generalize (lg_sl ([.ref (b 40), .int (nI L), .int (nI F), .int t]) ++ List.replicate (8 - (lg_sl ([.ref (b 40), .int (nI L), .int (nI F), .int t])).length) Slot.unset).toArray = ls at hl ⊢
  have hl : lv_has ls 8 [(0, .ref (b 40)), (1, .int (nI L)), (2, .int (nI F)), (3, .int t)] := hl
  refine lv_aload_n hx hb d_M_makePage_0 rfl (lv_at hl 0 rfl) ?_
  refine fr_get (ci := 5) (Cn := hR_5) (T := hF_5) (N := 34) hx hb hT hi_5 hown hK hE (0, 40) rfl m0 rfl 17 (by decide) (hT _ kw_491) (fun _ h9 => h9) rfl d_M_makePage_1 ?_
  refine lv_istore (lv' := [(4, .int (nI ps)), (0, .ref (b 40)), (1, .int (nI L)), (2, .int (nI F)), (3, .int t)]) hx hb d_M_makePage_4 hl (by decide) rfl (fun ls hl => ?_)
  refine lv_aload_n hx hb d_M_makePage_6 rfl (lv_at hl 1 rfl) ?_
  refine fr_get (ci := 5) (Cn := hR_5) (T := hF_5) (N := 34) hx hb hT hi_5 hown hK hE (0, 40) rfl m0 rfl 18 (by decide) (hT _ kw_492) (fun _ h9 => h9) rfl d_M_makePage_7 ?_
  refine lv_iload hx hb d_M_makePage_10 (lv_at hl 0 rfl) ?_
  refine lv_iload_n hx hb d_M_makePage_12 rfl (lv_at hl 2 rfl) ?_
  refine fr_iast hx hb hK hE hS (0, 58) 0 rfl m18 rfl ps (rfl) (by omega) (by decide) d_M_makePage_13 (fun H locs hE hS => ?_)
  refine lv_aload_n hx hb d_M_makePage_14 rfl (lv_at hl 1 rfl) ?_
  refine fr_get (ci := 5) (Cn := hR_5) (T := hF_5) (N := 34) hx hb hT hi_5 hown hK hE (0, 40) rfl m0 rfl 19 (by decide) (hT _ kw_493) (fun _ h9 => h9) rfl d_M_makePage_15 ?_
  refine lv_iload hx hb d_M_makePage_18 (lv_at hl 0 rfl) ?_
  refine lv_iload_n hx hb d_M_makePage_20 rfl (lv_at hl 3 rfl) ?_
  refine fr_iast hx hb hK hE hS (0, 59) 0 rfl m19 rfl ps (rfl) (by omega) (by decide) d_M_makePage_21 (fun H locs hE hS => ?_)
  refine lv_aload_n hx hb d_M_makePage_22 rfl (lv_at hl 1 rfl) ?_
  refine fr_get (ci := 5) (Cn := hR_5) (T := hF_5) (N := 34) hx hb hT hi_5 hown hK hE (0, 40) rfl m0 rfl 21 (by decide) (hT _ kw_495) (fun _ h9 => h9) rfl d_M_makePage_23 ?_
  refine lv_iload hx hb d_M_makePage_26 (lv_at hl 0 rfl) ?_
  refine lv_aload_n hx hb d_M_makePage_28 rfl (lv_at hl 1 rfl) ?_
  refine fr_get (ci := 5) (Cn := hR_5) (T := hF_5) (N := 34) hx hb hT hi_5 hown hK hE (0, 40) rfl m0 rfl 23 (by decide) (hT _ kw_497) (fun _ h9 => h9) rfl d_M_makePage_29 ?_
  refine fr_iast hx hb hK hE hS (0, 61) 0 rfl m21 rfl ps (rfl) (by omega) (by decide) d_M_makePage_32 (fun H locs hE hS => ?_)
  refine lv_iload_n hx hb d_M_makePage_33 rfl (lv_at hl 3 rfl) ?_
  refine lv_aload_n hx hb d_M_makePage_34 rfl (lv_at hl 1 rfl) ?_
  refine fr_get (ci := 5) (Cn := hR_5) (T := hF_5) (N := 34) hx hb hT hi_5 hown hK hE (0, 40) rfl m0 rfl 1 (by decide) (hT _ kw_475) (fun _ h9 => h9) rfl d_M_makePage_35 ?_
  refine lv_iadd hx hb d_M_makePage_38 ?_
  refine lv_topi (fun y_1 ey_1 => ?_)
  obtain rfl : y_1 = nI (F + pg) := ey_1.trans (nI_add F pg)
  refine lv_aload_n hx hb d_M_makePage_39 rfl (lv_at hl 1 rfl) ?_
  refine fr_get (ci := 5) (Cn := hR_5) (T := hF_5) (N := 34) hx hb hT hi_5 hown hK hE (0, 40) rfl m0 rfl 12 (by decide) (hT _ kw_486) (fun _ h9 => h9) rfl d_M_makePage_40 ?_
  refine lv_iload_n hx hb d_M_makePage_43 rfl (lv_at hl 2 rfl) ?_
  refine fr_iald hx hb hK hE (0, 52) 0 rfl m12 rfl L (rfl) (by omega) (by decide) d_M_makePage_44 ?_
  refine lv_topi (fun y_2 ey_2 => ?_)
  obtain rfl : y_2 = nI mL := ey_2.trans (hmL)
  refine lv_icmp_ge (tgt := 57) hx hb d_M_makePage_45 (by decide) (fun c_3 => ?_) (fun c_3 => ?_)
  · skip
    have hc : ¬ F + pg < mL := fun y => absurd c_3 (nI_ge y (by omega))
    rw [if_neg hc] at hm
    refine lv_aload_n hx hb d_M_makePage_57 rfl (lv_at hl 1 rfl) ?_
    refine fr_get (ci := 5) (Cn := hR_5) (T := hF_5) (N := 34) hx hb hT hi_5 hown hK hE (0, 40) rfl m0 rfl 12 (by decide) (hT _ kw_486) (fun _ h9 => h9) rfl d_M_makePage_58 ?_
    refine lv_iload_n hx hb d_M_makePage_61 rfl (lv_at hl 2 rfl) ?_
    refine fr_iald hx hb hK hE (0, 52) 0 rfl m12 rfl L (rfl) (by omega) (by decide) d_M_makePage_62 ?_
    refine lv_topi (fun y_4 ey_4 => ?_)
    obtain rfl : y_4 = nI mL := ey_4.trans (hmL)
    refine lv_topi (fun y_5 ey_5 => ?_)
    obtain rfl : y_5 = nI (F + mq) := ey_5.trans (by rw [hm])
    refine lv_istore (lv' := [(5, .int (nI (F + mq))), (4, .int (nI ps)), (0, .ref (b 40)), (1, .int (nI L)), (2, .int (nI F)), (3, .int t)]) hx hb d_M_makePage_63 hl (by decide) rfl (fun ls hl => ?_)
    refine lv_iload_n hx hb d_M_makePage_65 rfl (lv_at hl 4 rfl) ?_
    refine lv_istore (lv' := [(6, .int (nI F)), (5, .int (nI (F + mq))), (4, .int (nI ps)), (0, .ref (b 40)), (1, .int (nI L)), (2, .int (nI F)), (3, .int t)]) hx hb d_M_makePage_66 hl (by decide) rfl (fun ls hl => ?_)
    refine W.widen (k := 0) (n := 0) (Nat.le_of_ble_eq_true rfl) (Nat.le_of_ble_eq_true rfl) ?_
    have ai0 : (mq + 1) + 0 = mq + 1 := by omega
    have ai1 : 0 ≤ mq := Nat.zero_le mq
    have ai2 : ([] : List Nat) = kp (keepB ac (si L)) g F 0 := rfl
    have ai3 : 0 = ([] : List Nat).length := rfl
    have ai4 : 0 + 0 = 0 := rfl
    have ai5 : (fr_up (fr_up (fr_up C (0, 58) (.inl (cI, 4600, .inl (upd pl ps (nI L))))) (0, 59) (.inl (cI, 4600, .inl (upd pf ps (nI F))))) (0, 61) (.inl (cI, 4600, .inl (upd pa ps (nI rw))))) (0, 40) = some (.inr (5, fM b th pg gr lf an n lc ps (rw + 0) tk (po + 0))) := m0
    have ai6 : (fr_up (fr_up (fr_up C (0, 58) (.inl (cI, 4600, .inl (upd pl ps (nI L))))) (0, 59) (.inl (cI, 4600, .inl (upd pf ps (nI F))))) (0, 61) (.inl (cI, 4600, .inl (upd pa ps (nI rw))))) (0, 64) = some (.inl (cI, 4500, .inl rr)) := m24
    have ai7 : (fr_up (fr_up (fr_up C (0, 58) (.inl (cI, 4600, .inl (upd pl ps (nI L))))) (0, 59) (.inl (cI, 4600, .inl (upd pf ps (nI F))))) (0, 61) (.inl (cI, 4600, .inl (upd pa ps (nI rw))))) (0, 65) = some (.inl (cI, 4500, .inl rd)) := m25
    have ai8 : (fr_up (fr_up (fr_up C (0, 58) (.inl (cI, 4600, .inl (upd pl ps (nI L))))) (0, 59) (.inl (cI, 4600, .inl (upd pf ps (nI F))))) (0, 61) (.inl (cI, 4600, .inl (upd pa ps (nI rw))))) (0, 66) = some (.inl (cZ, 4500, .inl rg)) := m26
    have ai9 : rowsOf ([] : List Nat) rw dy dl rr rd rg rr rd rg := rowsOf_0
    have aiA : fr_ag [(0, 40), (0, 64), (0, 65), (0, 66)] (fr_up (fr_up (fr_up C (0, 58) (.inl (cI, 4600, .inl (upd pl ps (nI L))))) (0, 59) (.inl (cI, 4600, .inl (upd pf ps (nI F))))) (0, 61) (.inl (cI, 4600, .inl (upd pa ps (nI rw))))) (fr_up (fr_up (fr_up C (0, 58) (.inl (cI, 4600, .inl (upd pl ps (nI L))))) (0, 59) (.inl (cI, 4600, .inl (upd pf ps (nI F))))) (0, 61) (.inl (cI, 4600, .inl (upd pa ps (nI rw))))) := fr_ag.rf
    refine fr_loop (σ := Nat × Nat × Nat × List Nat × fr_C × (Nat → Int32) × (Nat → Int32) × (Nat → Int32)) (fun n9 x H locs ls => (n9 + x.1 = mq + 1) ∧ (x.1 ≤ mq) ∧ (x.2.2.2.1 = kp (keepB ac (si L)) g F x.1) ∧ (x.2.1 = x.2.2.2.1.length) ∧ (x.2.1 + x.2.2.1 = x.1) ∧ (x.2.2.2.2.1 (0, 40) = some (.inr (5, fM b th pg gr lf an n lc ps (rw + x.2.1) tk (po + x.2.2.1)))) ∧ (x.2.2.2.2.1 (0, 64) = some (.inl (cI, 4500, .inl x.2.2.2.2.2.1))) ∧ (x.2.2.2.2.1 (0, 65) = some (.inl (cI, 4500, .inl x.2.2.2.2.2.2.1))) ∧ (x.2.2.2.2.1 (0, 66) = some (.inl (cZ, 4500, .inl x.2.2.2.2.2.2.2))) ∧ (rowsOf x.2.2.2.1 rw dy dl rr rd rg x.2.2.2.2.2.1 x.2.2.2.2.2.2.1 x.2.2.2.2.2.2.2) ∧ (fr_ag [(0, 40), (0, 64), (0, 65), (0, 66)] x.2.2.2.2.1 (fr_up (fr_up (fr_up C (0, 58) (.inl (cI, 4600, .inl (upd pl ps (nI L))))) (0, 59) (.inl (cI, 4600, .inl (upd pf ps (nI F))))) (0, 61) (.inl (cI, 4600, .inl (upd pa ps (nI rw)))))) ∧ fr_W D hCl z b (x.2.2.2.2.1) H ∧ va_S (fr_A z) s.heap H locs ∧ lv_has ls 8 [(4, .int (nI ps)), (5, .int (nI (F + mq))), (6, .int (nI (F + x.1))), (0, .ref (b 40)), (1, .int (nI L)), (2, .int (nI F)), (3, .int t)]) (fun x H locs ls h => by obtain ⟨h1, h2, -⟩ := h; omega) (fun n9 x H locs ls hI ih => ?_) (mq + 1) (0, 0, 0, ([] : List Nat), (fr_up (fr_up (fr_up C (0, 58) (.inl (cI, 4600, .inl (upd pl ps (nI L))))) (0, 59) (.inl (cI, 4600, .inl (upd pf ps (nI F))))) (0, 61) (.inl (cI, 4600, .inl (upd pa ps (nI rw))))), rr, rd, rg) _ _ _ ⟨ai0, ai1, ai2, ai3, ai4, ai5, ai6, ai7, ai8, ai9, aiA, hE, hS, lv_sub hl [2, 1, 0, 3, 4, 5, 6] rfl⟩
    obtain ⟨m1, A, B, K1, C1, rr1, rd1, rg1⟩ := x
    obtain ⟨i0, i1, i2, i3, i4, i5, i6, i7, i8, i9, iA, hE, hS, hl⟩ := hI
    replace i0 : (n9 + 1) + m1 = mq + 1 := i0
    replace i1 : m1 ≤ mq := i1
    replace i2 : K1 = kp (keepB ac (si L)) g F m1 := i2
    replace i3 : A = K1.length := i3
    replace i4 : A + B = m1 := i4
    replace i5 : C1 (0, 40) = some (.inr (5, fM b th pg gr lf an n lc ps (rw + A) tk (po + B))) := i5
    replace i6 : C1 (0, 64) = some (.inl (cI, 4500, .inl rr1)) := i6
    replace i7 : C1 (0, 65) = some (.inl (cI, 4500, .inl rd1)) := i7
    replace i8 : C1 (0, 66) = some (.inl (cZ, 4500, .inl rg1)) := i8
    replace i9 : rowsOf K1 rw dy dl rr rd rg rr1 rd1 rg1 := i9
    replace iA : fr_ag [(0, 40), (0, 64), (0, 65), (0, 66)] C1 (fr_up (fr_up (fr_up C (0, 58) (.inl (cI, 4600, .inl (upd pl ps (nI L))))) (0, 59) (.inl (cI, 4600, .inl (upd pf ps (nI F))))) (0, 61) (.inl (cI, 4600, .inl (upd pa ps (nI rw))))) := iA
    replace hE : fr_W D hCl z b (C1) H := hE
    replace hl : lv_has ls 8 [(4, .int (nI ps)), (5, .int (nI (F + mq))), (6, .int (nI (F + m1))), (0, .ref (b 40)), (1, .int (nI L)), (2, .int (nI F)), (3, .int t)] := hl
    have k47 : C1 (0, 47) = some (.inl (cI, 150, .inl dy)) := iA.at (by decide) m7
    have k48 : C1 (0, 48) = some (.inl (cZ, 150, .inl dl)) := iA.at (by decide) m8
    have k49 : C1 (0, 49) = some (.inl (cI, 150, .inl ac)) := iA.at (by decide) m9
    have k52 : C1 (0, 52) = some (.inl (cI, 30, .inl mn)) := iA.at (by decide) m12
    have k53 : C1 (0, 53) = some (.inl (cI, 30, .inl si)) := iA.at (by decide) m13
    have k56 : C1 (0, 56) = some (.inl (cI, 4500, .inl li)) := iA.at (by decide) m16
    have k58 : C1 (0, 58) = some (.inl (cI, 4600, .inl (upd pl ps (nI L)))) := iA.at (by decide) rfl
    have k59 : C1 (0, 59) = some (.inl (cI, 4600, .inl (upd pf ps (nI F)))) := iA.at (by decide) rfl
    have k61 : C1 (0, 61) = some (.inl (cI, 4600, .inl (upd pa ps (nI rw)))) := iA.at (by decide) rfl
    have k60 : C1 (0, 60) = some (.inl (cI, 4600, .inl pr)) := iA.at (by decide) m20
    have k62 : C1 (0, 62) = some (.inl (cI, 4600, .inl pt)) := iA.at (by decide) m22
    have k68 : C1 (0, 68) = some (.inl (cI, 4600, .inl tp)) := iA.at (by decide) m28
    have k69 : C1 (0, 69) = some (.inl (cI, 4600, .inl md)) := iA.at (by decide) m29
    have k70 : C1 (0, 70) = some (.inl (cI, 4600, .inl le)) := iA.at (by decide) m30
    refine lv_iload hx hb d_M_makePage_68 (lv_at hl 2 rfl) ?_
    refine lv_iload hx hb d_M_makePage_70 (lv_at hl 1 rfl) ?_
    refine lv_icmp_ge (tgt := 178) hx hb d_M_makePage_72 (by decide) (fun c_6 => ?_) (fun c_6 => ?_)
    · skip
      have hmm : m1 = mq := by rcases Nat.lt_or_ge m1 mq with y | y; exact absurd c_6 (nI_ge (by omega) (by omega)); omega
      subst hmm
      refine lv_aload_n hx hb d_M_makePage_178 rfl (lv_at hl 3 rfl) ?_
      refine fr_get (ci := 5) (Cn := hR_5) (T := hF_5) (N := 34) hx hb hT hi_5 hown hK hE (0, 40) rfl i5 rfl 20 (by decide) (hT _ kw_494) (fun _ h9 => h9) rfl d_M_makePage_179 ?_
      refine lv_iload hx hb d_M_makePage_182 (lv_at hl 0 rfl) ?_
      refine lv_aload_n hx hb d_M_makePage_184 rfl (lv_at hl 3 rfl) ?_
      refine fr_get (ci := 5) (Cn := hR_5) (T := hF_5) (N := 34) hx hb hT hi_5 hown hK hE (0, 40) rfl i5 rfl 23 (by decide) (hT _ kw_497) (fun _ h9 => h9) rfl d_M_makePage_185 ?_
      refine lv_aload_n hx hb d_M_makePage_188 rfl (lv_at hl 3 rfl) ?_
      refine fr_get (ci := 5) (Cn := hR_5) (T := hF_5) (N := 34) hx hb hT hi_5 hown hK hE (0, 40) rfl i5 rfl 21 (by decide) (hT _ kw_495) (fun _ h9 => h9) rfl d_M_makePage_189 ?_
      refine lv_iload hx hb d_M_makePage_192 (lv_at hl 0 rfl) ?_
      refine fr_iald hx hb hK hE (0, 61) 0 rfl k61 rfl ps (rfl) (by omega) (by decide) d_M_makePage_194 ?_
      refine lv_isub hx hb d_M_makePage_195 ?_
      refine lv_topi (fun y_7 ey_7 => ?_)
      obtain rfl : y_7 = nI A := ey_7.trans (by rw [pk_us, pk_sub (by omega)]; exact congrArg nI (by omega))
      refine fr_iast hx hb hK hE hS (0, 60) 0 rfl k60 rfl ps (rfl) (by omega) (by decide) d_M_makePage_196 (fun H locs hE hS => ?_)
      refine lv_aload_n hx hb d_M_makePage_197 rfl (lv_at hl 3 rfl) ?_
      refine fr_get (ci := 5) (Cn := hR_5) (T := hF_5) (N := 34) hx hb hT hi_5 hown hK hE (0, 40) rfl i5 rfl 22 (by decide) (hT _ kw_496) (fun _ h9 => h9) rfl d_M_makePage_198 ?_
      refine lv_iload hx hb d_M_makePage_201 (lv_at hl 0 rfl) ?_
      refine lv_iconst (v := (-1)) hx hb d_M_makePage_203 (by decide) ?_
      refine fr_iast hx hb hK hE hS (0, 62) 0 rfl k62 rfl ps (rfl) (by omega) (by decide) d_M_makePage_204 (fun H locs hE hS => ?_)
      refine lv_iload hx hb d_M_makePage_205 (lv_at hl 1 rfl) ?_
      refine lv_aload_n hx hb d_M_makePage_207 rfl (lv_at hl 3 rfl) ?_
      refine fr_get (ci := 5) (Cn := hR_5) (T := hF_5) (N := 34) hx hb hT hi_5 hown hK hE (0, 40) rfl i5 rfl 12 (by decide) (hT _ kw_486) (fun _ h9 => h9) rfl d_M_makePage_208 ?_
      refine lv_iload_n hx hb d_M_makePage_211 rfl (lv_at hl 4 rfl) ?_
      refine fr_iald hx hb hK hE (0, 52) 0 rfl k52 rfl L (rfl) (by omega) (by decide) d_M_makePage_212 ?_
      refine lv_topi (fun y_8 ey_8 => ?_)
      obtain rfl : y_8 = nI mL := ey_8.trans (hmL)
      refine lv_icmp_ge (tgt := 268) hx hb d_M_makePage_213 (by decide) (fun c_9 => ?_) (fun c_9 => ?_)
      · skip
        refine lv_aload_n hx hb d_M_makePage_268 rfl (lv_at hl 3 rfl) ?_
        refine lv_dup hx hb d_M_makePage_269 rfl ?_
        refine fr_get (ci := 5) (Cn := hR_5) (T := hF_5) (N := 34) hx hb hT hi_5 hown hK hE (0, 40) rfl i5 rfl 17 (by decide) (hT _ kw_491) (fun _ h9 => h9) rfl d_M_makePage_270 ?_
        refine lv_iconst (v := 1) hx hb d_M_makePage_273 (by decide) ?_
        refine lv_iadd hx hb d_M_makePage_274 ?_
        refine lv_topi (fun y_10 ey_10 => ?_)
        obtain rfl : y_10 = nI (ps + 1) := ey_10.trans (nI_1 ps)
        refine fr_put (ci := 5) (v := .int (nI (ps + 1))) (ty := .int) (Cn := hR_5) (T := hF_5) (N := 34) hx hb hT hi_5 hy_5 ho_5 hn_5 hown hK hE hS (0, 40) rfl i5 rfl 17 (by decide) (hT _ kw_491) (fun _ h9 => h9) rfl (by decide +kernel) rfl rfl (Nat.le_of_ble_eq_true rfl) d_M_makePage_275 (fun H locs hE hS => ?_)
        have hag := hE.agw (L := mPgL) (C0 := C) (((((fr_ag.wider iA (L' := mPgL) (by decide)).tr (((fr_ag.rf.up (by decide)).up (by decide)).up (by decide))).up (by decide)).up (by decide)).up (by decide))
        have htm : ¬ F + m1 < mL := fun y => absurd c_9 (nI_ge y (by omega))
        refine lv_iload hx hb d_M_makePage_278 (lv_at hl 0 rfl) ?_
        refine W.widen (k := 0) (n := 0) (Nat.le_of_ble_eq_true rfl) (Nat.le_of_ble_eq_true rfl) ?_
        have hpost := hE.say (fun X => mPage C X cI cZ b th pg gr lf an n lc ps rw tk po pl pf pr pa pt rr rd rg tp md le dy dl L F t m1 (kp (keepB ac (si L)) g F m1) (F + m1 < mL) rr1 rd1 rg1) ⟨k58, k59, (by rw [← i2, ← i3]; rfl), k61, i6, i7, i8, (by rw [← i2]; exact i9), (by rw [← i2, ← i3]; omega), hag, Or.inr ⟨htm, (by rw [← i2, ← i3, show m1 - A = B by omega]; rfl), rfl, k68, k69, k70⟩⟩
        exact W.iret (v := nI ps) hx hb hr (fun t9 ht9 hW9 => ⟨⟨nI ps, (_, rr1, rd1, rg1), rfl, ⟨rfl, hpost⟩, ⟨by rw [ht9]; exact hE, va_K.moved hW9.alike hK⟩⟩, hS.F ht9⟩) hS.2.2 d_M_makePage_280
      · skip
        refine lv_aload_n hx hb d_M_makePage_216 rfl (lv_at hl 3 rfl) ?_
        refine fr_get (ci := 5) (Cn := hR_5) (T := hF_5) (N := 34) hx hb hT hi_5 hown hK hE (0, 40) rfl i5 rfl 22 (by decide) (hT _ kw_496) (fun _ h9 => h9) rfl d_M_makePage_217 ?_
        refine lv_iload hx hb d_M_makePage_220 (lv_at hl 0 rfl) ?_
        refine lv_aload_n hx hb d_M_makePage_222 rfl (lv_at hl 3 rfl) ?_
        refine fr_get (ci := 5) (Cn := hR_5) (T := hF_5) (N := 34) hx hb hT hi_5 hown hK hE (0, 40) rfl i5 rfl 27 (by decide) (hT _ kw_501) (fun _ h9 => h9) rfl d_M_makePage_223 ?_
        refine fr_iast hx hb hK hE hS (0, 62) 0 rfl rfl rfl ps (rfl) (by omega) (by decide) d_M_makePage_226 (fun H locs hE hS => ?_)
        refine lv_aload_n hx hb d_M_makePage_227 rfl (lv_at hl 3 rfl) ?_
        refine fr_get (ci := 5) (Cn := hR_5) (T := hF_5) (N := 34) hx hb hT hi_5 hown hK hE (0, 40) rfl i5 rfl 28 (by decide) (hT _ kw_502) (fun _ h9 => h9) rfl d_M_makePage_228 ?_
        refine lv_aload_n hx hb d_M_makePage_231 rfl (lv_at hl 3 rfl) ?_
        refine fr_get (ci := 5) (Cn := hR_5) (T := hF_5) (N := 34) hx hb hT hi_5 hown hK hE (0, 40) rfl i5 rfl 27 (by decide) (hT _ kw_501) (fun _ h9 => h9) rfl d_M_makePage_232 ?_
        refine lv_iload hx hb d_M_makePage_235 (lv_at hl 0 rfl) ?_
        refine fr_iast hx hb hK hE hS (0, 68) 0 rfl k68 rfl tk (rfl) (by omega) (by decide) d_M_makePage_237 (fun H locs hE hS => ?_)
        refine lv_aload_n hx hb d_M_makePage_238 rfl (lv_at hl 3 rfl) ?_
        refine fr_get (ci := 5) (Cn := hR_5) (T := hF_5) (N := 34) hx hb hT hi_5 hown hK hE (0, 40) rfl i5 rfl 29 (by decide) (hT _ kw_503) (fun _ h9 => h9) rfl d_M_makePage_239 ?_
        refine lv_aload_n hx hb d_M_makePage_242 rfl (lv_at hl 3 rfl) ?_
        refine fr_get (ci := 5) (Cn := hR_5) (T := hF_5) (N := 34) hx hb hT hi_5 hown hK hE (0, 40) rfl i5 rfl 27 (by decide) (hT _ kw_501) (fun _ h9 => h9) rfl d_M_makePage_243 ?_
        refine lv_iload_n hx hb d_M_makePage_246 rfl (lv_at hl 6 rfl) ?_
        refine fr_iast hx hb hK hE hS (0, 69) 0 rfl k69 rfl tk (rfl) (by omega) (by decide) d_M_makePage_247 (fun H locs hE hS => ?_)
        refine lv_aload_n hx hb d_M_makePage_248 rfl (lv_at hl 3 rfl) ?_
        refine fr_get (ci := 5) (Cn := hR_5) (T := hF_5) (N := 34) hx hb hT hi_5 hown hK hE (0, 40) rfl i5 rfl 30 (by decide) (hT _ kw_504) (fun _ h9 => h9) rfl d_M_makePage_249 ?_
        refine lv_aload_n hx hb d_M_makePage_252 rfl (lv_at hl 3 rfl) ?_
        refine fr_get (ci := 5) (Cn := hR_5) (T := hF_5) (N := 34) hx hb hT hi_5 hown hK hE (0, 40) rfl i5 rfl 27 (by decide) (hT _ kw_501) (fun _ h9 => h9) rfl d_M_makePage_253 ?_
        refine lv_iconst (v := (-1)) hx hb d_M_makePage_256 (by decide) ?_
        refine fr_iast hx hb hK hE hS (0, 70) 0 rfl k70 rfl tk (rfl) (by omega) (by decide) d_M_makePage_257 (fun H locs hE hS => ?_)
        refine lv_aload_n hx hb d_M_makePage_258 rfl (lv_at hl 3 rfl) ?_
        refine lv_dup hx hb d_M_makePage_259 rfl ?_
        refine fr_get (ci := 5) (Cn := hR_5) (T := hF_5) (N := 34) hx hb hT hi_5 hown hK hE (0, 40) rfl i5 rfl 27 (by decide) (hT _ kw_501) (fun _ h9 => h9) rfl d_M_makePage_260 ?_
        refine lv_iconst (v := 1) hx hb d_M_makePage_263 (by decide) ?_
        refine lv_iadd hx hb d_M_makePage_264 ?_
        refine lv_topi (fun y_11 ey_11 => ?_)
        obtain rfl : y_11 = nI (tk + 1) := ey_11.trans (nI_1 tk)
        refine fr_put (ci := 5) (v := .int (nI (tk + 1))) (ty := .int) (Cn := hR_5) (T := hF_5) (N := 34) hx hb hT hi_5 hy_5 ho_5 hn_5 hown hK hE hS (0, 40) rfl i5 rfl 27 (by decide) (hT _ kw_501) (fun _ h9 => h9) rfl (by decide +kernel) rfl rfl (Nat.le_of_ble_eq_true rfl) d_M_makePage_265 (fun H locs hE hS => ?_)
        refine lv_aload_n hx hb d_M_makePage_268 rfl (lv_at hl 3 rfl) ?_
        refine lv_dup hx hb d_M_makePage_269 rfl ?_
        refine fr_get (ci := 5) (Cn := hR_5) (T := hF_5) (N := 34) hx hb hT hi_5 hown hK hE (0, 40) rfl rfl rfl 17 (by decide) (hT _ kw_491) (fun _ h9 => h9) rfl d_M_makePage_270 ?_
        refine lv_iconst (v := 1) hx hb d_M_makePage_273 (by decide) ?_
        refine lv_iadd hx hb d_M_makePage_274 ?_
        refine lv_topi (fun y_12 ey_12 => ?_)
        obtain rfl : y_12 = nI (ps + 1) := ey_12.trans (nI_1 ps)
        refine fr_put (ci := 5) (v := .int (nI (ps + 1))) (ty := .int) (Cn := hR_5) (T := hF_5) (N := 34) hx hb hT hi_5 hy_5 ho_5 hn_5 hown hK hE hS (0, 40) rfl rfl rfl 17 (by decide) (hT _ kw_491) (fun _ h9 => h9) rfl (by decide +kernel) rfl rfl (Nat.le_of_ble_eq_true rfl) d_M_makePage_275 (fun H locs hE hS => ?_)
        have hag := hE.agw (L := mPgL) (C0 := C) ((((((((((fr_ag.wider iA (L' := mPgL) (by decide)).tr (((fr_ag.rf.up (by decide)).up (by decide)).up (by decide))).up (by decide)).up (by decide)).up (by decide)).up (by decide)).up (by decide)).up (by decide)).up (by decide)).up (by decide))
        have htm : F + m1 < mL := by rcases Nat.lt_or_ge (F + m1) mL with y | y; exact y; exact absurd (nI_le y (by omega)) c_9
        refine lv_iload hx hb d_M_makePage_278 (lv_at hl 0 rfl) ?_
        refine W.widen (k := 0) (n := 0) (Nat.le_of_ble_eq_true rfl) (Nat.le_of_ble_eq_true rfl) ?_
        have hpost := hE.say (fun X => mPage C X cI cZ b th pg gr lf an n lc ps rw tk po pl pf pr pa pt rr rd rg tp md le dy dl L F t m1 (kp (keepB ac (si L)) g F m1) (F + m1 < mL) rr1 rd1 rg1) ⟨k58, k59, (by rw [← i2, ← i3]; rfl), k61, i6, i7, i8, (by rw [← i2]; exact i9), (by rw [← i2, ← i3]; omega), hag, Or.inl ⟨htm, (by rw [← i2, ← i3, show m1 - A = B by omega]; rfl), (by rw [← upd_upd pt ps (-1) (nI tk)]; rfl), rfl, rfl, rfl⟩⟩
        exact W.iret (v := nI ps) hx hb hr (fun t9 ht9 hW9 => ⟨⟨nI ps, (_, rr1, rd1, rg1), rfl, ⟨rfl, hpost⟩, ⟨by rw [ht9]; exact hE, va_K.moved hW9.alike hK⟩⟩, hS.F ht9⟩) hS.2.2 d_M_makePage_280
    · skip
      have hm1 : m1 < mq := by rcases Nat.lt_or_ge m1 mq with y | y; exact y; exact absurd (nI_le (by omega) (by omega)) c_6
      have hgk := hgg (F + m1) (by omega)
      refine lv_aload_n hx hb d_M_makePage_75 rfl (lv_at hl 3 rfl) ?_
      refine fr_get (ci := 5) (Cn := hR_5) (T := hF_5) (N := 34) hx hb hT hi_5 hown hK hE (0, 40) rfl i5 rfl 16 (by decide) (hT _ kw_490) (fun _ h9 => h9) rfl d_M_makePage_76 ?_
      refine lv_sipush (v := 150) hx hb d_M_makePage_79 (by decide) ?_
      refine lv_iload_n hx hb d_M_makePage_82 rfl (lv_at hl 4 rfl) ?_
      refine lv_imul hx hb d_M_makePage_83 ?_
      refine lv_topi (fun y_13 ey_13 => ?_)
      obtain rfl : y_13 = nI (150 * L) := ey_13.trans (pk_mul 150 L)
      refine lv_iload hx hb d_M_makePage_84 (lv_at hl 2 rfl) ?_
      refine lv_iadd hx hb d_M_makePage_86 ?_
      refine lv_topi (fun y_14 ey_14 => ?_)
      obtain rfl : y_14 = nI (150 * L + (F + m1)) := ey_14.trans (nI_add _ _)
      refine fr_iald hx hb hK hE (0, 56) 0 rfl k56 rfl (150 * L + (F + m1)) (rfl) (by omega) (by decide) d_M_makePage_87 ?_
      refine lv_istore (lv' := [(7, .int (li (150 * L + (F + m1)))), (4, .int (nI ps)), (5, .int (nI (F + mq))), (6, .int (nI (F + m1))), (0, .ref (b 40)), (1, .int (nI L)), (2, .int (nI F)), (3, .int t)]) hx hb d_M_makePage_88 hl (by decide) rfl (fun ls hl => ?_)
      refine lv_aload_n hx hb d_M_makePage_90 rfl (lv_at hl 4 rfl) ?_
      refine fr_get (ci := 5) (Cn := hR_5) (T := hF_5) (N := 34) hx hb hT hi_5 hown hK hE (0, 40) rfl i5 rfl 9 (by decide) (hT _ kw_483) (fun _ h9 => h9) rfl d_M_makePage_91 ?_
      refine lv_iload hx hb d_M_makePage_94 (lv_at hl 0 rfl) ?_
      refine fr_iald hx hb hK hE (0, 49) 0 rfl k49 rfl (g (F + m1)) (hgk.1) (hgk.2) (by decide) d_M_makePage_96 ?_
      refine lv_aload_n hx hb d_M_makePage_97 rfl (lv_at hl 4 rfl) ?_
      refine fr_get (ci := 5) (Cn := hR_5) (T := hF_5) (N := 34) hx hb hT hi_5 hown hK hE (0, 40) rfl i5 rfl 13 (by decide) (hT _ kw_487) (fun _ h9 => h9) rfl d_M_makePage_98 ?_
      refine lv_iload_n hx hb d_M_makePage_101 rfl (lv_at hl 5 rfl) ?_
      refine fr_iald hx hb hK hE (0, 53) 0 rfl k53 rfl L (rfl) (by omega) (by decide) d_M_makePage_102 ?_
      refine lv_icmp_le (tgt := 119) hx hb d_M_makePage_103 (by decide) (fun c_15 => ?_) (fun c_15 => ?_)
      · skip
        refine lv_aload_n hx hb d_M_makePage_119 rfl (lv_at hl 4 rfl) ?_
        refine fr_get (ci := 5) (Cn := hR_5) (T := hF_5) (N := 34) hx hb hT hi_5 hown hK hE (0, 40) rfl i5 rfl 24 (by decide) (hT _ kw_498) (fun _ h9 => h9) rfl d_M_makePage_120 ?_
        refine lv_aload_n hx hb d_M_makePage_123 rfl (lv_at hl 4 rfl) ?_
        refine fr_get (ci := 5) (Cn := hR_5) (T := hF_5) (N := 34) hx hb hT hi_5 hown hK hE (0, 40) rfl i5 rfl 23 (by decide) (hT _ kw_497) (fun _ h9 => h9) rfl d_M_makePage_124 ?_
        refine lv_iload hx hb d_M_makePage_127 (lv_at hl 0 rfl) ?_
        refine fr_iast hx hb hK hE hS (0, 64) 0 rfl i6 rfl (rw + A) (rfl) (by omega) (by decide) d_M_makePage_129 (fun H locs hE hS => ?_)
        refine lv_aload_n hx hb d_M_makePage_130 rfl (lv_at hl 4 rfl) ?_
        refine fr_get (ci := 5) (Cn := hR_5) (T := hF_5) (N := 34) hx hb hT hi_5 hown hK hE (0, 40) rfl i5 rfl 25 (by decide) (hT _ kw_499) (fun _ h9 => h9) rfl d_M_makePage_131 ?_
        refine lv_aload_n hx hb d_M_makePage_134 rfl (lv_at hl 4 rfl) ?_
        refine fr_get (ci := 5) (Cn := hR_5) (T := hF_5) (N := 34) hx hb hT hi_5 hown hK hE (0, 40) rfl i5 rfl 23 (by decide) (hT _ kw_497) (fun _ h9 => h9) rfl d_M_makePage_135 ?_
        refine lv_aload_n hx hb d_M_makePage_138 rfl (lv_at hl 4 rfl) ?_
        refine fr_get (ci := 5) (Cn := hR_5) (T := hF_5) (N := 34) hx hb hT hi_5 hown hK hE (0, 40) rfl i5 rfl 7 (by decide) (hT _ kw_481) (fun _ h9 => h9) rfl d_M_makePage_139 ?_
        refine lv_iload hx hb d_M_makePage_142 (lv_at hl 0 rfl) ?_
        refine fr_iald hx hb hK hE (0, 47) 0 rfl k47 rfl (g (F + m1)) (hgk.1) (hgk.2) (by decide) d_M_makePage_144 ?_
        refine fr_iast hx hb hK hE hS (0, 65) 0 rfl i7 rfl (rw + A) (rfl) (by omega) (by decide) d_M_makePage_145 (fun H locs hE hS => ?_)
        refine lv_aload_n hx hb d_M_makePage_146 rfl (lv_at hl 4 rfl) ?_
        refine fr_get (ci := 5) (Cn := hR_5) (T := hF_5) (N := 34) hx hb hT hi_5 hown hK hE (0, 40) rfl i5 rfl 26 (by decide) (hT _ kw_500) (fun _ h9 => h9) rfl d_M_makePage_147 ?_
        refine lv_aload_n hx hb d_M_makePage_150 rfl (lv_at hl 4 rfl) ?_
        refine fr_get (ci := 5) (Cn := hR_5) (T := hF_5) (N := 34) hx hb hT hi_5 hown hK hE (0, 40) rfl i5 rfl 23 (by decide) (hT _ kw_497) (fun _ h9 => h9) rfl d_M_makePage_151 ?_
        refine lv_aload_n hx hb d_M_makePage_154 rfl (lv_at hl 4 rfl) ?_
        refine fr_get (ci := 5) (Cn := hR_5) (T := hF_5) (N := 34) hx hb hT hi_5 hown hK hE (0, 40) rfl i5 rfl 8 (by decide) (hT _ kw_482) (fun _ h9 => h9) rfl d_M_makePage_155 ?_
        refine lv_iload hx hb d_M_makePage_158 (lv_at hl 0 rfl) ?_
        refine fr_zald hx hb hK hE (0, 48) 1 rfl k48 rfl (g (F + m1)) (hgk.1) (hgk.2) (by decide) d_M_makePage_160 ?_
        refine fr_zast hx hb hK hE hS (0, 66) 1 rfl i8 rfl (rw + A) (rfl) (by omega) (by decide) (dl (g (F + m1))) (hdl _) d_M_makePage_161 (fun H locs hE hS => ?_)
        refine lv_aload_n hx hb d_M_makePage_162 rfl (lv_at hl 4 rfl) ?_
        refine lv_dup hx hb d_M_makePage_163 rfl ?_
        refine fr_get (ci := 5) (Cn := hR_5) (T := hF_5) (N := 34) hx hb hT hi_5 hown hK hE (0, 40) rfl i5 rfl 23 (by decide) (hT _ kw_497) (fun _ h9 => h9) rfl d_M_makePage_164 ?_
        refine lv_iconst (v := 1) hx hb d_M_makePage_167 (by decide) ?_
        refine lv_iadd hx hb d_M_makePage_168 ?_
        refine lv_topi (fun y_16 ey_16 => ?_)
        obtain rfl : y_16 = nI (rw + (A + 1)) := ey_16.trans ((nI_1 _).trans (congrArg nI (by omega)))
        refine fr_put (ci := 5) (v := .int (nI (rw + (A + 1)))) (ty := .int) (Cn := hR_5) (T := hF_5) (N := 34) hx hb hT hi_5 hy_5 ho_5 hn_5 hown hK hE hS (0, 40) rfl i5 rfl 23 (by decide) (hT _ kw_497) (fun _ h9 => h9) rfl (by decide +kernel) rfl rfl (Nat.le_of_ble_eq_true rfl) d_M_makePage_169 (fun H locs hE hS => ?_)
        refine lv_iinc (v := nI (F + (m1 + 1))) (lv' := [(6, .int (nI (F + (m1 + 1)))), (7, .int (li (150 * L + (F + m1)))), (4, .int (nI ps)), (5, .int (nI (F + mq))), (0, .ref (b 40)), (1, .int (nI L)), (2, .int (nI F)), (3, .int t)]) hx hb d_M_makePage_172 hl (k := 3) rfl ((nI_1 _).trans (congrArg nI (by omega))) (by decide) rfl (fun ls hl => ?_)
        refine lv_goto (tgt := 68) hx hb d_M_makePage_175 (by decide) ?_
        have ys : (keepB ac (si L)) (g (F + m1)) = true := decide_eq_true c_15
        have bi0 : n9 + (m1 + 1) = mq + 1 := by omega
        have bi1 : (m1 + 1) ≤ mq := by omega
        have bi2 : (K1 ++ [g (F + m1)]) = kp (keepB ac (si L)) g F (m1 + 1) := by rw [kp_yes ys, i2]
        have bi3 : (A + 1) = (K1 ++ [g (F + m1)]).length := by rw [List.length_append, ← i3]; rfl
        have bi4 : (A + 1) + B = (m1 + 1) := by omega
        have bi5 : (fr_up (fr_up (fr_up (fr_up C1 (0, 64) (.inl (cI, 4500, .inl (upd rr1 (rw + A) (li (150 * L + (F + m1))))))) (0, 65) (.inl (cI, 4500, .inl (upd rd1 (rw + A) (dy (g (F + m1))))))) (0, 66) (.inl (cZ, 4500, .inl (upd rg1 (rw + A) (dl (g (F + m1))))))) (0, 40) (.inr (5, fM b th pg gr lf an n lc ps (rw + (A + 1)) tk (po + B)))) (0, 40) = some (.inr (5, fM b th pg gr lf an n lc ps (rw + (A + 1)) tk (po + B))) := rfl
        have bi6 : (fr_up (fr_up (fr_up (fr_up C1 (0, 64) (.inl (cI, 4500, .inl (upd rr1 (rw + A) (li (150 * L + (F + m1))))))) (0, 65) (.inl (cI, 4500, .inl (upd rd1 (rw + A) (dy (g (F + m1))))))) (0, 66) (.inl (cZ, 4500, .inl (upd rg1 (rw + A) (dl (g (F + m1))))))) (0, 40) (.inr (5, fM b th pg gr lf an n lc ps (rw + (A + 1)) tk (po + B)))) (0, 64) = some (.inl (cI, 4500, .inl (upd rr1 (rw + A) (li (150 * L + (F + m1)))))) := rfl
        have bi7 : (fr_up (fr_up (fr_up (fr_up C1 (0, 64) (.inl (cI, 4500, .inl (upd rr1 (rw + A) (li (150 * L + (F + m1))))))) (0, 65) (.inl (cI, 4500, .inl (upd rd1 (rw + A) (dy (g (F + m1))))))) (0, 66) (.inl (cZ, 4500, .inl (upd rg1 (rw + A) (dl (g (F + m1))))))) (0, 40) (.inr (5, fM b th pg gr lf an n lc ps (rw + (A + 1)) tk (po + B)))) (0, 65) = some (.inl (cI, 4500, .inl (upd rd1 (rw + A) (dy (g (F + m1)))))) := rfl
        have bi8 : (fr_up (fr_up (fr_up (fr_up C1 (0, 64) (.inl (cI, 4500, .inl (upd rr1 (rw + A) (li (150 * L + (F + m1))))))) (0, 65) (.inl (cI, 4500, .inl (upd rd1 (rw + A) (dy (g (F + m1))))))) (0, 66) (.inl (cZ, 4500, .inl (upd rg1 (rw + A) (dl (g (F + m1))))))) (0, 40) (.inr (5, fM b th pg gr lf an n lc ps (rw + (A + 1)) tk (po + B)))) (0, 66) = some (.inl (cZ, 4500, .inl (upd rg1 (rw + A) (dl (g (F + m1)))))) := rfl
        have bi9 : rowsOf (K1 ++ [g (F + m1)]) rw dy dl rr rd rg (upd rr1 (rw + A) (li (150 * L + (F + m1)))) (upd rd1 (rw + A) (dy (g (F + m1)))) (upd rg1 (rw + A) (dl (g (F + m1)))) := rowsOf_add i3 hgk.1 i9
        have biA : fr_ag [(0, 40), (0, 64), (0, 65), (0, 66)] (fr_up (fr_up (fr_up (fr_up C1 (0, 64) (.inl (cI, 4500, .inl (upd rr1 (rw + A) (li (150 * L + (F + m1))))))) (0, 65) (.inl (cI, 4500, .inl (upd rd1 (rw + A) (dy (g (F + m1))))))) (0, 66) (.inl (cZ, 4500, .inl (upd rg1 (rw + A) (dl (g (F + m1))))))) (0, 40) (.inr (5, fM b th pg gr lf an n lc ps (rw + (A + 1)) tk (po + B)))) (fr_up (fr_up (fr_up C (0, 58) (.inl (cI, 4600, .inl (upd pl ps (nI L))))) (0, 59) (.inl (cI, 4600, .inl (upd pf ps (nI F))))) (0, 61) (.inl (cI, 4600, .inl (upd pa ps (nI rw))))) := (((iA.up (by decide)).up (by decide)).up (by decide)).up (by decide)
        exact ih (m1 + 1, A + 1, B, K1 ++ [g (F + m1)], fr_up (fr_up (fr_up (fr_up C1 (0, 64) (.inl (cI, 4500, .inl (upd rr1 (rw + A) (li (150 * L + (F + m1))))))) (0, 65) (.inl (cI, 4500, .inl (upd rd1 (rw + A) (dy (g (F + m1))))))) (0, 66) (.inl (cZ, 4500, .inl (upd rg1 (rw + A) (dl (g (F + m1))))))) (0, 40) (.inr (5, fM b th pg gr lf an n lc ps (rw + (A + 1)) tk (po + B))), upd rr1 (rw + A) (li (150 * L + (F + m1))), upd rd1 (rw + A) (dy (g (F + m1))), upd rg1 (rw + A) (dl (g (F + m1)))) _ _ _ ⟨bi0, bi1, bi2, bi3, bi4, bi5, bi6, bi7, bi8, bi9, biA, hE, hS, lv_sub hl [2, 3, 0, 4, 5, 6, 7] rfl⟩
      · skip
        refine lv_aload_n hx hb d_M_makePage_106 rfl (lv_at hl 4 rfl) ?_
        refine lv_dup hx hb d_M_makePage_107 rfl ?_
        refine fr_get (ci := 5) (Cn := hR_5) (T := hF_5) (N := 34) hx hb hT hi_5 hown hK hE (0, 40) rfl i5 rfl 33 (by decide) (hT _ kw_507) (fun _ h9 => h9) rfl d_M_makePage_108 ?_
        refine lv_iconst (v := 1) hx hb d_M_makePage_111 (by decide) ?_
        refine lv_iadd hx hb d_M_makePage_112 ?_
        refine lv_topi (fun y_17 ey_17 => ?_)
        obtain rfl : y_17 = nI (po + (B + 1)) := ey_17.trans ((nI_1 _).trans (congrArg nI (by omega)))
        refine fr_put (ci := 5) (v := .int (nI (po + (B + 1)))) (ty := .int) (Cn := hR_5) (T := hF_5) (N := 34) hx hb hT hi_5 hy_5 ho_5 hn_5 hown hK hE hS (0, 40) rfl i5 rfl 33 (by decide) (hT _ kw_507) (fun _ h9 => h9) rfl (by decide +kernel) rfl rfl (Nat.le_of_ble_eq_true rfl) d_M_makePage_113 (fun H locs hE hS => ?_)
        refine lv_goto (tgt := 172) hx hb d_M_makePage_116 (by decide) ?_
        refine lv_iinc (v := nI (F + (m1 + 1))) (lv' := [(6, .int (nI (F + (m1 + 1)))), (7, .int (li (150 * L + (F + m1)))), (4, .int (nI ps)), (5, .int (nI (F + mq))), (0, .ref (b 40)), (1, .int (nI L)), (2, .int (nI F)), (3, .int t)]) hx hb d_M_makePage_172 hl (k := 3) rfl ((nI_1 _).trans (congrArg nI (by omega))) (by decide) rfl (fun ls hl => ?_)
        refine lv_goto (tgt := 68) hx hb d_M_makePage_175 (by decide) ?_
        have ns : (keepB ac (si L)) (g (F + m1)) = false := decide_eq_false c_15
        have bi0 : n9 + (m1 + 1) = mq + 1 := by omega
        have bi1 : (m1 + 1) ≤ mq := by omega
        have bi2 : K1 = kp (keepB ac (si L)) g F (m1 + 1) := i2.trans (kp_no ns).symm
        have bi3 : A = K1.length := i3
        have bi4 : A + (B + 1) = (m1 + 1) := by omega
        have bi5 : (fr_up C1 (0, 40) (.inr (5, fM b th pg gr lf an n lc ps (rw + A) tk (po + (B + 1))))) (0, 40) = some (.inr (5, fM b th pg gr lf an n lc ps (rw + A) tk (po + (B + 1)))) := rfl
        have bi6 : (fr_up C1 (0, 40) (.inr (5, fM b th pg gr lf an n lc ps (rw + A) tk (po + (B + 1))))) (0, 64) = some (.inl (cI, 4500, .inl rr1)) := i6
        have bi7 : (fr_up C1 (0, 40) (.inr (5, fM b th pg gr lf an n lc ps (rw + A) tk (po + (B + 1))))) (0, 65) = some (.inl (cI, 4500, .inl rd1)) := i7
        have bi8 : (fr_up C1 (0, 40) (.inr (5, fM b th pg gr lf an n lc ps (rw + A) tk (po + (B + 1))))) (0, 66) = some (.inl (cZ, 4500, .inl rg1)) := i8
        have bi9 : rowsOf K1 rw dy dl rr rd rg rr1 rd1 rg1 := i9
        have biA : fr_ag [(0, 40), (0, 64), (0, 65), (0, 66)] (fr_up C1 (0, 40) (.inr (5, fM b th pg gr lf an n lc ps (rw + A) tk (po + (B + 1))))) (fr_up (fr_up (fr_up C (0, 58) (.inl (cI, 4600, .inl (upd pl ps (nI L))))) (0, 59) (.inl (cI, 4600, .inl (upd pf ps (nI F))))) (0, 61) (.inl (cI, 4600, .inl (upd pa ps (nI rw))))) := iA.up (by decide)
        exact ih (m1 + 1, A, B + 1, K1, fr_up C1 (0, 40) (.inr (5, fM b th pg gr lf an n lc ps (rw + A) tk (po + (B + 1)))), rr1, rd1, rg1) _ _ _ ⟨bi0, bi1, bi2, bi3, bi4, bi5, bi6, bi7, bi8, bi9, biA, hE, hS, lv_sub hl [2, 3, 0, 4, 5, 6, 7] rfl⟩
  · skip
    have hc : F + pg < mL := by rcases Nat.lt_or_ge (F + pg) mL with y | y; exact y; exact absurd (nI_le y (by omega)) c_3
    rw [if_pos hc] at hm
    refine lv_iload_n hx hb d_M_makePage_48 rfl (lv_at hl 3 rfl) ?_
    refine lv_aload_n hx hb d_M_makePage_49 rfl (lv_at hl 1 rfl) ?_
    refine fr_get (ci := 5) (Cn := hR_5) (T := hF_5) (N := 34) hx hb hT hi_5 hown hK hE (0, 40) rfl m0 rfl 1 (by decide) (hT _ kw_475) (fun _ h9 => h9) rfl d_M_makePage_50 ?_
    refine lv_iadd hx hb d_M_makePage_53 ?_
    refine lv_topi (fun y_18 ey_18 => ?_)
    obtain rfl : y_18 = nI (F + pg) := ey_18.trans (nI_add F pg)
    refine lv_goto (tgt := 63) hx hb d_M_makePage_54 (by decide) ?_
    refine lv_topi (fun y_19 ey_19 => ?_)
    obtain rfl : y_19 = nI (F + mq) := ey_19.trans (by rw [hm])
    refine lv_istore (lv' := [(5, .int (nI (F + mq))), (4, .int (nI ps)), (0, .ref (b 40)), (1, .int (nI L)), (2, .int (nI F)), (3, .int t)]) hx hb d_M_makePage_63 hl (by decide) rfl (fun ls hl => ?_)
    refine lv_iload_n hx hb d_M_makePage_65 rfl (lv_at hl 4 rfl) ?_
    refine lv_istore (lv' := [(6, .int (nI F)), (5, .int (nI (F + mq))), (4, .int (nI ps)), (0, .ref (b 40)), (1, .int (nI L)), (2, .int (nI F)), (3, .int t)]) hx hb d_M_makePage_66 hl (by decide) rfl (fun ls hl => ?_)
    refine W.widen (k := 0) (n := 0) (Nat.le_of_ble_eq_true rfl) (Nat.le_of_ble_eq_true rfl) ?_
    have ai0 : (mq + 1) + 0 = mq + 1 := by omega
    have ai1 : 0 ≤ mq := Nat.zero_le mq
    have ai2 : ([] : List Nat) = kp (keepB ac (si L)) g F 0 := rfl
    have ai3 : 0 = ([] : List Nat).length := rfl
    have ai4 : 0 + 0 = 0 := rfl
    have ai5 : (fr_up (fr_up (fr_up C (0, 58) (.inl (cI, 4600, .inl (upd pl ps (nI L))))) (0, 59) (.inl (cI, 4600, .inl (upd pf ps (nI F))))) (0, 61) (.inl (cI, 4600, .inl (upd pa ps (nI rw))))) (0, 40) = some (.inr (5, fM b th pg gr lf an n lc ps (rw + 0) tk (po + 0))) := m0
    have ai6 : (fr_up (fr_up (fr_up C (0, 58) (.inl (cI, 4600, .inl (upd pl ps (nI L))))) (0, 59) (.inl (cI, 4600, .inl (upd pf ps (nI F))))) (0, 61) (.inl (cI, 4600, .inl (upd pa ps (nI rw))))) (0, 64) = some (.inl (cI, 4500, .inl rr)) := m24
    have ai7 : (fr_up (fr_up (fr_up C (0, 58) (.inl (cI, 4600, .inl (upd pl ps (nI L))))) (0, 59) (.inl (cI, 4600, .inl (upd pf ps (nI F))))) (0, 61) (.inl (cI, 4600, .inl (upd pa ps (nI rw))))) (0, 65) = some (.inl (cI, 4500, .inl rd)) := m25
    have ai8 : (fr_up (fr_up (fr_up C (0, 58) (.inl (cI, 4600, .inl (upd pl ps (nI L))))) (0, 59) (.inl (cI, 4600, .inl (upd pf ps (nI F))))) (0, 61) (.inl (cI, 4600, .inl (upd pa ps (nI rw))))) (0, 66) = some (.inl (cZ, 4500, .inl rg)) := m26
    have ai9 : rowsOf ([] : List Nat) rw dy dl rr rd rg rr rd rg := rowsOf_0
    have aiA : fr_ag [(0, 40), (0, 64), (0, 65), (0, 66)] (fr_up (fr_up (fr_up C (0, 58) (.inl (cI, 4600, .inl (upd pl ps (nI L))))) (0, 59) (.inl (cI, 4600, .inl (upd pf ps (nI F))))) (0, 61) (.inl (cI, 4600, .inl (upd pa ps (nI rw))))) (fr_up (fr_up (fr_up C (0, 58) (.inl (cI, 4600, .inl (upd pl ps (nI L))))) (0, 59) (.inl (cI, 4600, .inl (upd pf ps (nI F))))) (0, 61) (.inl (cI, 4600, .inl (upd pa ps (nI rw))))) := fr_ag.rf
    refine fr_loop (σ := Nat × Nat × Nat × List Nat × fr_C × (Nat → Int32) × (Nat → Int32) × (Nat → Int32)) (fun n9 x H locs ls => (n9 + x.1 = mq + 1) ∧ (x.1 ≤ mq) ∧ (x.2.2.2.1 = kp (keepB ac (si L)) g F x.1) ∧ (x.2.1 = x.2.2.2.1.length) ∧ (x.2.1 + x.2.2.1 = x.1) ∧ (x.2.2.2.2.1 (0, 40) = some (.inr (5, fM b th pg gr lf an n lc ps (rw + x.2.1) tk (po + x.2.2.1)))) ∧ (x.2.2.2.2.1 (0, 64) = some (.inl (cI, 4500, .inl x.2.2.2.2.2.1))) ∧ (x.2.2.2.2.1 (0, 65) = some (.inl (cI, 4500, .inl x.2.2.2.2.2.2.1))) ∧ (x.2.2.2.2.1 (0, 66) = some (.inl (cZ, 4500, .inl x.2.2.2.2.2.2.2))) ∧ (rowsOf x.2.2.2.1 rw dy dl rr rd rg x.2.2.2.2.2.1 x.2.2.2.2.2.2.1 x.2.2.2.2.2.2.2) ∧ (fr_ag [(0, 40), (0, 64), (0, 65), (0, 66)] x.2.2.2.2.1 (fr_up (fr_up (fr_up C (0, 58) (.inl (cI, 4600, .inl (upd pl ps (nI L))))) (0, 59) (.inl (cI, 4600, .inl (upd pf ps (nI F))))) (0, 61) (.inl (cI, 4600, .inl (upd pa ps (nI rw)))))) ∧ fr_W D hCl z b (x.2.2.2.2.1) H ∧ va_S (fr_A z) s.heap H locs ∧ lv_has ls 8 [(4, .int (nI ps)), (5, .int (nI (F + mq))), (6, .int (nI (F + x.1))), (0, .ref (b 40)), (1, .int (nI L)), (2, .int (nI F)), (3, .int t)]) (fun x H locs ls h => by obtain ⟨h1, h2, -⟩ := h; omega) (fun n9 x H locs ls hI ih => ?_) (mq + 1) (0, 0, 0, ([] : List Nat), (fr_up (fr_up (fr_up C (0, 58) (.inl (cI, 4600, .inl (upd pl ps (nI L))))) (0, 59) (.inl (cI, 4600, .inl (upd pf ps (nI F))))) (0, 61) (.inl (cI, 4600, .inl (upd pa ps (nI rw))))), rr, rd, rg) _ _ _ ⟨ai0, ai1, ai2, ai3, ai4, ai5, ai6, ai7, ai8, ai9, aiA, hE, hS, lv_sub hl [2, 1, 0, 3, 4, 5, 6] rfl⟩
    obtain ⟨m1, A, B, K1, C1, rr1, rd1, rg1⟩ := x
    obtain ⟨i0, i1, i2, i3, i4, i5, i6, i7, i8, i9, iA, hE, hS, hl⟩ := hI
    replace i0 : (n9 + 1) + m1 = mq + 1 := i0
    replace i1 : m1 ≤ mq := i1
    replace i2 : K1 = kp (keepB ac (si L)) g F m1 := i2
    replace i3 : A = K1.length := i3
    replace i4 : A + B = m1 := i4
    replace i5 : C1 (0, 40) = some (.inr (5, fM b th pg gr lf an n lc ps (rw + A) tk (po + B))) := i5
    replace i6 : C1 (0, 64) = some (.inl (cI, 4500, .inl rr1)) := i6
    replace i7 : C1 (0, 65) = some (.inl (cI, 4500, .inl rd1)) := i7
    replace i8 : C1 (0, 66) = some (.inl (cZ, 4500, .inl rg1)) := i8
    replace i9 : rowsOf K1 rw dy dl rr rd rg rr1 rd1 rg1 := i9
    replace iA : fr_ag [(0, 40), (0, 64), (0, 65), (0, 66)] C1 (fr_up (fr_up (fr_up C (0, 58) (.inl (cI, 4600, .inl (upd pl ps (nI L))))) (0, 59) (.inl (cI, 4600, .inl (upd pf ps (nI F))))) (0, 61) (.inl (cI, 4600, .inl (upd pa ps (nI rw))))) := iA
    replace hE : fr_W D hCl z b (C1) H := hE
    replace hl : lv_has ls 8 [(4, .int (nI ps)), (5, .int (nI (F + mq))), (6, .int (nI (F + m1))), (0, .ref (b 40)), (1, .int (nI L)), (2, .int (nI F)), (3, .int t)] := hl
    have k47 : C1 (0, 47) = some (.inl (cI, 150, .inl dy)) := iA.at (by decide) m7
    have k48 : C1 (0, 48) = some (.inl (cZ, 150, .inl dl)) := iA.at (by decide) m8
    have k49 : C1 (0, 49) = some (.inl (cI, 150, .inl ac)) := iA.at (by decide) m9
    have k52 : C1 (0, 52) = some (.inl (cI, 30, .inl mn)) := iA.at (by decide) m12
    have k53 : C1 (0, 53) = some (.inl (cI, 30, .inl si)) := iA.at (by decide) m13
    have k56 : C1 (0, 56) = some (.inl (cI, 4500, .inl li)) := iA.at (by decide) m16
    have k58 : C1 (0, 58) = some (.inl (cI, 4600, .inl (upd pl ps (nI L)))) := iA.at (by decide) rfl
    have k59 : C1 (0, 59) = some (.inl (cI, 4600, .inl (upd pf ps (nI F)))) := iA.at (by decide) rfl
    have k61 : C1 (0, 61) = some (.inl (cI, 4600, .inl (upd pa ps (nI rw)))) := iA.at (by decide) rfl
    have k60 : C1 (0, 60) = some (.inl (cI, 4600, .inl pr)) := iA.at (by decide) m20
    have k62 : C1 (0, 62) = some (.inl (cI, 4600, .inl pt)) := iA.at (by decide) m22
    have k68 : C1 (0, 68) = some (.inl (cI, 4600, .inl tp)) := iA.at (by decide) m28
    have k69 : C1 (0, 69) = some (.inl (cI, 4600, .inl md)) := iA.at (by decide) m29
    have k70 : C1 (0, 70) = some (.inl (cI, 4600, .inl le)) := iA.at (by decide) m30
    refine lv_iload hx hb d_M_makePage_68 (lv_at hl 2 rfl) ?_
    refine lv_iload hx hb d_M_makePage_70 (lv_at hl 1 rfl) ?_
    refine lv_icmp_ge (tgt := 178) hx hb d_M_makePage_72 (by decide) (fun c_20 => ?_) (fun c_20 => ?_)
    · skip
      have hmm : m1 = mq := by rcases Nat.lt_or_ge m1 mq with y | y; exact absurd c_20 (nI_ge (by omega) (by omega)); omega
      subst hmm
      refine lv_aload_n hx hb d_M_makePage_178 rfl (lv_at hl 3 rfl) ?_
      refine fr_get (ci := 5) (Cn := hR_5) (T := hF_5) (N := 34) hx hb hT hi_5 hown hK hE (0, 40) rfl i5 rfl 20 (by decide) (hT _ kw_494) (fun _ h9 => h9) rfl d_M_makePage_179 ?_
      refine lv_iload hx hb d_M_makePage_182 (lv_at hl 0 rfl) ?_
      refine lv_aload_n hx hb d_M_makePage_184 rfl (lv_at hl 3 rfl) ?_
      refine fr_get (ci := 5) (Cn := hR_5) (T := hF_5) (N := 34) hx hb hT hi_5 hown hK hE (0, 40) rfl i5 rfl 23 (by decide) (hT _ kw_497) (fun _ h9 => h9) rfl d_M_makePage_185 ?_
      refine lv_aload_n hx hb d_M_makePage_188 rfl (lv_at hl 3 rfl) ?_
      refine fr_get (ci := 5) (Cn := hR_5) (T := hF_5) (N := 34) hx hb hT hi_5 hown hK hE (0, 40) rfl i5 rfl 21 (by decide) (hT _ kw_495) (fun _ h9 => h9) rfl d_M_makePage_189 ?_
      refine lv_iload hx hb d_M_makePage_192 (lv_at hl 0 rfl) ?_
      refine fr_iald hx hb hK hE (0, 61) 0 rfl k61 rfl ps (rfl) (by omega) (by decide) d_M_makePage_194 ?_
      refine lv_isub hx hb d_M_makePage_195 ?_
      refine lv_topi (fun y_21 ey_21 => ?_)
      obtain rfl : y_21 = nI A := ey_21.trans (by rw [pk_us, pk_sub (by omega)]; exact congrArg nI (by omega))
      refine fr_iast hx hb hK hE hS (0, 60) 0 rfl k60 rfl ps (rfl) (by omega) (by decide) d_M_makePage_196 (fun H locs hE hS => ?_)
      refine lv_aload_n hx hb d_M_makePage_197 rfl (lv_at hl 3 rfl) ?_
      refine fr_get (ci := 5) (Cn := hR_5) (T := hF_5) (N := 34) hx hb hT hi_5 hown hK hE (0, 40) rfl i5 rfl 22 (by decide) (hT _ kw_496) (fun _ h9 => h9) rfl d_M_makePage_198 ?_
      refine lv_iload hx hb d_M_makePage_201 (lv_at hl 0 rfl) ?_
      refine lv_iconst (v := (-1)) hx hb d_M_makePage_203 (by decide) ?_
      refine fr_iast hx hb hK hE hS (0, 62) 0 rfl k62 rfl ps (rfl) (by omega) (by decide) d_M_makePage_204 (fun H locs hE hS => ?_)
      refine lv_iload hx hb d_M_makePage_205 (lv_at hl 1 rfl) ?_
      refine lv_aload_n hx hb d_M_makePage_207 rfl (lv_at hl 3 rfl) ?_
      refine fr_get (ci := 5) (Cn := hR_5) (T := hF_5) (N := 34) hx hb hT hi_5 hown hK hE (0, 40) rfl i5 rfl 12 (by decide) (hT _ kw_486) (fun _ h9 => h9) rfl d_M_makePage_208 ?_
      refine lv_iload_n hx hb d_M_makePage_211 rfl (lv_at hl 4 rfl) ?_
      refine fr_iald hx hb hK hE (0, 52) 0 rfl k52 rfl L (rfl) (by omega) (by decide) d_M_makePage_212 ?_
      refine lv_topi (fun y_22 ey_22 => ?_)
      obtain rfl : y_22 = nI mL := ey_22.trans (hmL)
      refine lv_icmp_ge (tgt := 268) hx hb d_M_makePage_213 (by decide) (fun c_23 => ?_) (fun c_23 => ?_)
      · skip
        refine lv_aload_n hx hb d_M_makePage_268 rfl (lv_at hl 3 rfl) ?_
        refine lv_dup hx hb d_M_makePage_269 rfl ?_
        refine fr_get (ci := 5) (Cn := hR_5) (T := hF_5) (N := 34) hx hb hT hi_5 hown hK hE (0, 40) rfl i5 rfl 17 (by decide) (hT _ kw_491) (fun _ h9 => h9) rfl d_M_makePage_270 ?_
        refine lv_iconst (v := 1) hx hb d_M_makePage_273 (by decide) ?_
        refine lv_iadd hx hb d_M_makePage_274 ?_
        refine lv_topi (fun y_24 ey_24 => ?_)
        obtain rfl : y_24 = nI (ps + 1) := ey_24.trans (nI_1 ps)
        refine fr_put (ci := 5) (v := .int (nI (ps + 1))) (ty := .int) (Cn := hR_5) (T := hF_5) (N := 34) hx hb hT hi_5 hy_5 ho_5 hn_5 hown hK hE hS (0, 40) rfl i5 rfl 17 (by decide) (hT _ kw_491) (fun _ h9 => h9) rfl (by decide +kernel) rfl rfl (Nat.le_of_ble_eq_true rfl) d_M_makePage_275 (fun H locs hE hS => ?_)
        have hag := hE.agw (L := mPgL) (C0 := C) (((((fr_ag.wider iA (L' := mPgL) (by decide)).tr (((fr_ag.rf.up (by decide)).up (by decide)).up (by decide))).up (by decide)).up (by decide)).up (by decide))
        have htm : ¬ F + m1 < mL := fun y => absurd c_23 (nI_ge y (by omega))
        refine lv_iload hx hb d_M_makePage_278 (lv_at hl 0 rfl) ?_
        refine W.widen (k := 0) (n := 0) (Nat.le_of_ble_eq_true rfl) (Nat.le_of_ble_eq_true rfl) ?_
        have hpost := hE.say (fun X => mPage C X cI cZ b th pg gr lf an n lc ps rw tk po pl pf pr pa pt rr rd rg tp md le dy dl L F t m1 (kp (keepB ac (si L)) g F m1) (F + m1 < mL) rr1 rd1 rg1) ⟨k58, k59, (by rw [← i2, ← i3]; rfl), k61, i6, i7, i8, (by rw [← i2]; exact i9), (by rw [← i2, ← i3]; omega), hag, Or.inr ⟨htm, (by rw [← i2, ← i3, show m1 - A = B by omega]; rfl), rfl, k68, k69, k70⟩⟩
        exact W.iret (v := nI ps) hx hb hr (fun t9 ht9 hW9 => ⟨⟨nI ps, (_, rr1, rd1, rg1), rfl, ⟨rfl, hpost⟩, ⟨by rw [ht9]; exact hE, va_K.moved hW9.alike hK⟩⟩, hS.F ht9⟩) hS.2.2 d_M_makePage_280
      · skip
        refine lv_aload_n hx hb d_M_makePage_216 rfl (lv_at hl 3 rfl) ?_
        refine fr_get (ci := 5) (Cn := hR_5) (T := hF_5) (N := 34) hx hb hT hi_5 hown hK hE (0, 40) rfl i5 rfl 22 (by decide) (hT _ kw_496) (fun _ h9 => h9) rfl d_M_makePage_217 ?_
        refine lv_iload hx hb d_M_makePage_220 (lv_at hl 0 rfl) ?_
        refine lv_aload_n hx hb d_M_makePage_222 rfl (lv_at hl 3 rfl) ?_
        refine fr_get (ci := 5) (Cn := hR_5) (T := hF_5) (N := 34) hx hb hT hi_5 hown hK hE (0, 40) rfl i5 rfl 27 (by decide) (hT _ kw_501) (fun _ h9 => h9) rfl d_M_makePage_223 ?_
        refine fr_iast hx hb hK hE hS (0, 62) 0 rfl rfl rfl ps (rfl) (by omega) (by decide) d_M_makePage_226 (fun H locs hE hS => ?_)
        refine lv_aload_n hx hb d_M_makePage_227 rfl (lv_at hl 3 rfl) ?_
        refine fr_get (ci := 5) (Cn := hR_5) (T := hF_5) (N := 34) hx hb hT hi_5 hown hK hE (0, 40) rfl i5 rfl 28 (by decide) (hT _ kw_502) (fun _ h9 => h9) rfl d_M_makePage_228 ?_
        refine lv_aload_n hx hb d_M_makePage_231 rfl (lv_at hl 3 rfl) ?_
        refine fr_get (ci := 5) (Cn := hR_5) (T := hF_5) (N := 34) hx hb hT hi_5 hown hK hE (0, 40) rfl i5 rfl 27 (by decide) (hT _ kw_501) (fun _ h9 => h9) rfl d_M_makePage_232 ?_
        refine lv_iload hx hb d_M_makePage_235 (lv_at hl 0 rfl) ?_
        refine fr_iast hx hb hK hE hS (0, 68) 0 rfl k68 rfl tk (rfl) (by omega) (by decide) d_M_makePage_237 (fun H locs hE hS => ?_)
        refine lv_aload_n hx hb d_M_makePage_238 rfl (lv_at hl 3 rfl) ?_
        refine fr_get (ci := 5) (Cn := hR_5) (T := hF_5) (N := 34) hx hb hT hi_5 hown hK hE (0, 40) rfl i5 rfl 29 (by decide) (hT _ kw_503) (fun _ h9 => h9) rfl d_M_makePage_239 ?_
        refine lv_aload_n hx hb d_M_makePage_242 rfl (lv_at hl 3 rfl) ?_
        refine fr_get (ci := 5) (Cn := hR_5) (T := hF_5) (N := 34) hx hb hT hi_5 hown hK hE (0, 40) rfl i5 rfl 27 (by decide) (hT _ kw_501) (fun _ h9 => h9) rfl d_M_makePage_243 ?_
        refine lv_iload_n hx hb d_M_makePage_246 rfl (lv_at hl 6 rfl) ?_
        refine fr_iast hx hb hK hE hS (0, 69) 0 rfl k69 rfl tk (rfl) (by omega) (by decide) d_M_makePage_247 (fun H locs hE hS => ?_)
        refine lv_aload_n hx hb d_M_makePage_248 rfl (lv_at hl 3 rfl) ?_
        refine fr_get (ci := 5) (Cn := hR_5) (T := hF_5) (N := 34) hx hb hT hi_5 hown hK hE (0, 40) rfl i5 rfl 30 (by decide) (hT _ kw_504) (fun _ h9 => h9) rfl d_M_makePage_249 ?_
        refine lv_aload_n hx hb d_M_makePage_252 rfl (lv_at hl 3 rfl) ?_
        refine fr_get (ci := 5) (Cn := hR_5) (T := hF_5) (N := 34) hx hb hT hi_5 hown hK hE (0, 40) rfl i5 rfl 27 (by decide) (hT _ kw_501) (fun _ h9 => h9) rfl d_M_makePage_253 ?_
        refine lv_iconst (v := (-1)) hx hb d_M_makePage_256 (by decide) ?_
        refine fr_iast hx hb hK hE hS (0, 70) 0 rfl k70 rfl tk (rfl) (by omega) (by decide) d_M_makePage_257 (fun H locs hE hS => ?_)
        refine lv_aload_n hx hb d_M_makePage_258 rfl (lv_at hl 3 rfl) ?_
        refine lv_dup hx hb d_M_makePage_259 rfl ?_
        refine fr_get (ci := 5) (Cn := hR_5) (T := hF_5) (N := 34) hx hb hT hi_5 hown hK hE (0, 40) rfl i5 rfl 27 (by decide) (hT _ kw_501) (fun _ h9 => h9) rfl d_M_makePage_260 ?_
        refine lv_iconst (v := 1) hx hb d_M_makePage_263 (by decide) ?_
        refine lv_iadd hx hb d_M_makePage_264 ?_
        refine lv_topi (fun y_25 ey_25 => ?_)
        obtain rfl : y_25 = nI (tk + 1) := ey_25.trans (nI_1 tk)
        refine fr_put (ci := 5) (v := .int (nI (tk + 1))) (ty := .int) (Cn := hR_5) (T := hF_5) (N := 34) hx hb hT hi_5 hy_5 ho_5 hn_5 hown hK hE hS (0, 40) rfl i5 rfl 27 (by decide) (hT _ kw_501) (fun _ h9 => h9) rfl (by decide +kernel) rfl rfl (Nat.le_of_ble_eq_true rfl) d_M_makePage_265 (fun H locs hE hS => ?_)
        refine lv_aload_n hx hb d_M_makePage_268 rfl (lv_at hl 3 rfl) ?_
        refine lv_dup hx hb d_M_makePage_269 rfl ?_
        refine fr_get (ci := 5) (Cn := hR_5) (T := hF_5) (N := 34) hx hb hT hi_5 hown hK hE (0, 40) rfl rfl rfl 17 (by decide) (hT _ kw_491) (fun _ h9 => h9) rfl d_M_makePage_270 ?_
        refine lv_iconst (v := 1) hx hb d_M_makePage_273 (by decide) ?_
        refine lv_iadd hx hb d_M_makePage_274 ?_
        refine lv_topi (fun y_26 ey_26 => ?_)
        obtain rfl : y_26 = nI (ps + 1) := ey_26.trans (nI_1 ps)
        refine fr_put (ci := 5) (v := .int (nI (ps + 1))) (ty := .int) (Cn := hR_5) (T := hF_5) (N := 34) hx hb hT hi_5 hy_5 ho_5 hn_5 hown hK hE hS (0, 40) rfl rfl rfl 17 (by decide) (hT _ kw_491) (fun _ h9 => h9) rfl (by decide +kernel) rfl rfl (Nat.le_of_ble_eq_true rfl) d_M_makePage_275 (fun H locs hE hS => ?_)
        have hag := hE.agw (L := mPgL) (C0 := C) ((((((((((fr_ag.wider iA (L' := mPgL) (by decide)).tr (((fr_ag.rf.up (by decide)).up (by decide)).up (by decide))).up (by decide)).up (by decide)).up (by decide)).up (by decide)).up (by decide)).up (by decide)).up (by decide)).up (by decide))
        have htm : F + m1 < mL := by rcases Nat.lt_or_ge (F + m1) mL with y | y; exact y; exact absurd (nI_le y (by omega)) c_23
        refine lv_iload hx hb d_M_makePage_278 (lv_at hl 0 rfl) ?_
        refine W.widen (k := 0) (n := 0) (Nat.le_of_ble_eq_true rfl) (Nat.le_of_ble_eq_true rfl) ?_
        have hpost := hE.say (fun X => mPage C X cI cZ b th pg gr lf an n lc ps rw tk po pl pf pr pa pt rr rd rg tp md le dy dl L F t m1 (kp (keepB ac (si L)) g F m1) (F + m1 < mL) rr1 rd1 rg1) ⟨k58, k59, (by rw [← i2, ← i3]; rfl), k61, i6, i7, i8, (by rw [← i2]; exact i9), (by rw [← i2, ← i3]; omega), hag, Or.inl ⟨htm, (by rw [← i2, ← i3, show m1 - A = B by omega]; rfl), (by rw [← upd_upd pt ps (-1) (nI tk)]; rfl), rfl, rfl, rfl⟩⟩
        exact W.iret (v := nI ps) hx hb hr (fun t9 ht9 hW9 => ⟨⟨nI ps, (_, rr1, rd1, rg1), rfl, ⟨rfl, hpost⟩, ⟨by rw [ht9]; exact hE, va_K.moved hW9.alike hK⟩⟩, hS.F ht9⟩) hS.2.2 d_M_makePage_280
    · skip
      have hm1 : m1 < mq := by rcases Nat.lt_or_ge m1 mq with y | y; exact y; exact absurd (nI_le (by omega) (by omega)) c_20
      have hgk := hgg (F + m1) (by omega)
      refine lv_aload_n hx hb d_M_makePage_75 rfl (lv_at hl 3 rfl) ?_
      refine fr_get (ci := 5) (Cn := hR_5) (T := hF_5) (N := 34) hx hb hT hi_5 hown hK hE (0, 40) rfl i5 rfl 16 (by decide) (hT _ kw_490) (fun _ h9 => h9) rfl d_M_makePage_76 ?_
      refine lv_sipush (v := 150) hx hb d_M_makePage_79 (by decide) ?_
      refine lv_iload_n hx hb d_M_makePage_82 rfl (lv_at hl 4 rfl) ?_
      refine lv_imul hx hb d_M_makePage_83 ?_
      refine lv_topi (fun y_27 ey_27 => ?_)
      obtain rfl : y_27 = nI (150 * L) := ey_27.trans (pk_mul 150 L)
      refine lv_iload hx hb d_M_makePage_84 (lv_at hl 2 rfl) ?_
      refine lv_iadd hx hb d_M_makePage_86 ?_
      refine lv_topi (fun y_28 ey_28 => ?_)
      obtain rfl : y_28 = nI (150 * L + (F + m1)) := ey_28.trans (nI_add _ _)
      refine fr_iald hx hb hK hE (0, 56) 0 rfl k56 rfl (150 * L + (F + m1)) (rfl) (by omega) (by decide) d_M_makePage_87 ?_
      refine lv_istore (lv' := [(7, .int (li (150 * L + (F + m1)))), (4, .int (nI ps)), (5, .int (nI (F + mq))), (6, .int (nI (F + m1))), (0, .ref (b 40)), (1, .int (nI L)), (2, .int (nI F)), (3, .int t)]) hx hb d_M_makePage_88 hl (by decide) rfl (fun ls hl => ?_)
      refine lv_aload_n hx hb d_M_makePage_90 rfl (lv_at hl 4 rfl) ?_
      refine fr_get (ci := 5) (Cn := hR_5) (T := hF_5) (N := 34) hx hb hT hi_5 hown hK hE (0, 40) rfl i5 rfl 9 (by decide) (hT _ kw_483) (fun _ h9 => h9) rfl d_M_makePage_91 ?_
      refine lv_iload hx hb d_M_makePage_94 (lv_at hl 0 rfl) ?_
      refine fr_iald hx hb hK hE (0, 49) 0 rfl k49 rfl (g (F + m1)) (hgk.1) (hgk.2) (by decide) d_M_makePage_96 ?_
      refine lv_aload_n hx hb d_M_makePage_97 rfl (lv_at hl 4 rfl) ?_
      refine fr_get (ci := 5) (Cn := hR_5) (T := hF_5) (N := 34) hx hb hT hi_5 hown hK hE (0, 40) rfl i5 rfl 13 (by decide) (hT _ kw_487) (fun _ h9 => h9) rfl d_M_makePage_98 ?_
      refine lv_iload_n hx hb d_M_makePage_101 rfl (lv_at hl 5 rfl) ?_
      refine fr_iald hx hb hK hE (0, 53) 0 rfl k53 rfl L (rfl) (by omega) (by decide) d_M_makePage_102 ?_
      refine lv_icmp_le (tgt := 119) hx hb d_M_makePage_103 (by decide) (fun c_29 => ?_) (fun c_29 => ?_)
      · skip
        refine lv_aload_n hx hb d_M_makePage_119 rfl (lv_at hl 4 rfl) ?_
        refine fr_get (ci := 5) (Cn := hR_5) (T := hF_5) (N := 34) hx hb hT hi_5 hown hK hE (0, 40) rfl i5 rfl 24 (by decide) (hT _ kw_498) (fun _ h9 => h9) rfl d_M_makePage_120 ?_
        refine lv_aload_n hx hb d_M_makePage_123 rfl (lv_at hl 4 rfl) ?_
        refine fr_get (ci := 5) (Cn := hR_5) (T := hF_5) (N := 34) hx hb hT hi_5 hown hK hE (0, 40) rfl i5 rfl 23 (by decide) (hT _ kw_497) (fun _ h9 => h9) rfl d_M_makePage_124 ?_
        refine lv_iload hx hb d_M_makePage_127 (lv_at hl 0 rfl) ?_
        refine fr_iast hx hb hK hE hS (0, 64) 0 rfl i6 rfl (rw + A) (rfl) (by omega) (by decide) d_M_makePage_129 (fun H locs hE hS => ?_)
        refine lv_aload_n hx hb d_M_makePage_130 rfl (lv_at hl 4 rfl) ?_
        refine fr_get (ci := 5) (Cn := hR_5) (T := hF_5) (N := 34) hx hb hT hi_5 hown hK hE (0, 40) rfl i5 rfl 25 (by decide) (hT _ kw_499) (fun _ h9 => h9) rfl d_M_makePage_131 ?_
        refine lv_aload_n hx hb d_M_makePage_134 rfl (lv_at hl 4 rfl) ?_
        refine fr_get (ci := 5) (Cn := hR_5) (T := hF_5) (N := 34) hx hb hT hi_5 hown hK hE (0, 40) rfl i5 rfl 23 (by decide) (hT _ kw_497) (fun _ h9 => h9) rfl d_M_makePage_135 ?_
        refine lv_aload_n hx hb d_M_makePage_138 rfl (lv_at hl 4 rfl) ?_
        refine fr_get (ci := 5) (Cn := hR_5) (T := hF_5) (N := 34) hx hb hT hi_5 hown hK hE (0, 40) rfl i5 rfl 7 (by decide) (hT _ kw_481) (fun _ h9 => h9) rfl d_M_makePage_139 ?_
        refine lv_iload hx hb d_M_makePage_142 (lv_at hl 0 rfl) ?_
        refine fr_iald hx hb hK hE (0, 47) 0 rfl k47 rfl (g (F + m1)) (hgk.1) (hgk.2) (by decide) d_M_makePage_144 ?_
        refine fr_iast hx hb hK hE hS (0, 65) 0 rfl i7 rfl (rw + A) (rfl) (by omega) (by decide) d_M_makePage_145 (fun H locs hE hS => ?_)
        refine lv_aload_n hx hb d_M_makePage_146 rfl (lv_at hl 4 rfl) ?_
        refine fr_get (ci := 5) (Cn := hR_5) (T := hF_5) (N := 34) hx hb hT hi_5 hown hK hE (0, 40) rfl i5 rfl 26 (by decide) (hT _ kw_500) (fun _ h9 => h9) rfl d_M_makePage_147 ?_
        refine lv_aload_n hx hb d_M_makePage_150 rfl (lv_at hl 4 rfl) ?_
        refine fr_get (ci := 5) (Cn := hR_5) (T := hF_5) (N := 34) hx hb hT hi_5 hown hK hE (0, 40) rfl i5 rfl 23 (by decide) (hT _ kw_497) (fun _ h9 => h9) rfl d_M_makePage_151 ?_
        refine lv_aload_n hx hb d_M_makePage_154 rfl (lv_at hl 4 rfl) ?_
        refine fr_get (ci := 5) (Cn := hR_5) (T := hF_5) (N := 34) hx hb hT hi_5 hown hK hE (0, 40) rfl i5 rfl 8 (by decide) (hT _ kw_482) (fun _ h9 => h9) rfl d_M_makePage_155 ?_
        refine lv_iload hx hb d_M_makePage_158 (lv_at hl 0 rfl) ?_
        refine fr_zald hx hb hK hE (0, 48) 1 rfl k48 rfl (g (F + m1)) (hgk.1) (hgk.2) (by decide) d_M_makePage_160 ?_
        refine fr_zast hx hb hK hE hS (0, 66) 1 rfl i8 rfl (rw + A) (rfl) (by omega) (by decide) (dl (g (F + m1))) (hdl _) d_M_makePage_161 (fun H locs hE hS => ?_)
        refine lv_aload_n hx hb d_M_makePage_162 rfl (lv_at hl 4 rfl) ?_
        refine lv_dup hx hb d_M_makePage_163 rfl ?_
        refine fr_get (ci := 5) (Cn := hR_5) (T := hF_5) (N := 34) hx hb hT hi_5 hown hK hE (0, 40) rfl i5 rfl 23 (by decide) (hT _ kw_497) (fun _ h9 => h9) rfl d_M_makePage_164 ?_
        refine lv_iconst (v := 1) hx hb d_M_makePage_167 (by decide) ?_
        refine lv_iadd hx hb d_M_makePage_168 ?_
        refine lv_topi (fun y_30 ey_30 => ?_)
        obtain rfl : y_30 = nI (rw + (A + 1)) := ey_30.trans ((nI_1 _).trans (congrArg nI (by omega)))
        refine fr_put (ci := 5) (v := .int (nI (rw + (A + 1)))) (ty := .int) (Cn := hR_5) (T := hF_5) (N := 34) hx hb hT hi_5 hy_5 ho_5 hn_5 hown hK hE hS (0, 40) rfl i5 rfl 23 (by decide) (hT _ kw_497) (fun _ h9 => h9) rfl (by decide +kernel) rfl rfl (Nat.le_of_ble_eq_true rfl) d_M_makePage_169 (fun H locs hE hS => ?_)
        refine lv_iinc (v := nI (F + (m1 + 1))) (lv' := [(6, .int (nI (F + (m1 + 1)))), (7, .int (li (150 * L + (F + m1)))), (4, .int (nI ps)), (5, .int (nI (F + mq))), (0, .ref (b 40)), (1, .int (nI L)), (2, .int (nI F)), (3, .int t)]) hx hb d_M_makePage_172 hl (k := 3) rfl ((nI_1 _).trans (congrArg nI (by omega))) (by decide) rfl (fun ls hl => ?_)
        refine lv_goto (tgt := 68) hx hb d_M_makePage_175 (by decide) ?_
        have ys : (keepB ac (si L)) (g (F + m1)) = true := decide_eq_true c_29
        have bi0 : n9 + (m1 + 1) = mq + 1 := by omega
        have bi1 : (m1 + 1) ≤ mq := by omega
        have bi2 : (K1 ++ [g (F + m1)]) = kp (keepB ac (si L)) g F (m1 + 1) := by rw [kp_yes ys, i2]
        have bi3 : (A + 1) = (K1 ++ [g (F + m1)]).length := by rw [List.length_append, ← i3]; rfl
        have bi4 : (A + 1) + B = (m1 + 1) := by omega
        have bi5 : (fr_up (fr_up (fr_up (fr_up C1 (0, 64) (.inl (cI, 4500, .inl (upd rr1 (rw + A) (li (150 * L + (F + m1))))))) (0, 65) (.inl (cI, 4500, .inl (upd rd1 (rw + A) (dy (g (F + m1))))))) (0, 66) (.inl (cZ, 4500, .inl (upd rg1 (rw + A) (dl (g (F + m1))))))) (0, 40) (.inr (5, fM b th pg gr lf an n lc ps (rw + (A + 1)) tk (po + B)))) (0, 40) = some (.inr (5, fM b th pg gr lf an n lc ps (rw + (A + 1)) tk (po + B))) := rfl
        have bi6 : (fr_up (fr_up (fr_up (fr_up C1 (0, 64) (.inl (cI, 4500, .inl (upd rr1 (rw + A) (li (150 * L + (F + m1))))))) (0, 65) (.inl (cI, 4500, .inl (upd rd1 (rw + A) (dy (g (F + m1))))))) (0, 66) (.inl (cZ, 4500, .inl (upd rg1 (rw + A) (dl (g (F + m1))))))) (0, 40) (.inr (5, fM b th pg gr lf an n lc ps (rw + (A + 1)) tk (po + B)))) (0, 64) = some (.inl (cI, 4500, .inl (upd rr1 (rw + A) (li (150 * L + (F + m1)))))) := rfl
        have bi7 : (fr_up (fr_up (fr_up (fr_up C1 (0, 64) (.inl (cI, 4500, .inl (upd rr1 (rw + A) (li (150 * L + (F + m1))))))) (0, 65) (.inl (cI, 4500, .inl (upd rd1 (rw + A) (dy (g (F + m1))))))) (0, 66) (.inl (cZ, 4500, .inl (upd rg1 (rw + A) (dl (g (F + m1))))))) (0, 40) (.inr (5, fM b th pg gr lf an n lc ps (rw + (A + 1)) tk (po + B)))) (0, 65) = some (.inl (cI, 4500, .inl (upd rd1 (rw + A) (dy (g (F + m1)))))) := rfl
        have bi8 : (fr_up (fr_up (fr_up (fr_up C1 (0, 64) (.inl (cI, 4500, .inl (upd rr1 (rw + A) (li (150 * L + (F + m1))))))) (0, 65) (.inl (cI, 4500, .inl (upd rd1 (rw + A) (dy (g (F + m1))))))) (0, 66) (.inl (cZ, 4500, .inl (upd rg1 (rw + A) (dl (g (F + m1))))))) (0, 40) (.inr (5, fM b th pg gr lf an n lc ps (rw + (A + 1)) tk (po + B)))) (0, 66) = some (.inl (cZ, 4500, .inl (upd rg1 (rw + A) (dl (g (F + m1)))))) := rfl
        have bi9 : rowsOf (K1 ++ [g (F + m1)]) rw dy dl rr rd rg (upd rr1 (rw + A) (li (150 * L + (F + m1)))) (upd rd1 (rw + A) (dy (g (F + m1)))) (upd rg1 (rw + A) (dl (g (F + m1)))) := rowsOf_add i3 hgk.1 i9
        have biA : fr_ag [(0, 40), (0, 64), (0, 65), (0, 66)] (fr_up (fr_up (fr_up (fr_up C1 (0, 64) (.inl (cI, 4500, .inl (upd rr1 (rw + A) (li (150 * L + (F + m1))))))) (0, 65) (.inl (cI, 4500, .inl (upd rd1 (rw + A) (dy (g (F + m1))))))) (0, 66) (.inl (cZ, 4500, .inl (upd rg1 (rw + A) (dl (g (F + m1))))))) (0, 40) (.inr (5, fM b th pg gr lf an n lc ps (rw + (A + 1)) tk (po + B)))) (fr_up (fr_up (fr_up C (0, 58) (.inl (cI, 4600, .inl (upd pl ps (nI L))))) (0, 59) (.inl (cI, 4600, .inl (upd pf ps (nI F))))) (0, 61) (.inl (cI, 4600, .inl (upd pa ps (nI rw))))) := (((iA.up (by decide)).up (by decide)).up (by decide)).up (by decide)
        exact ih (m1 + 1, A + 1, B, K1 ++ [g (F + m1)], fr_up (fr_up (fr_up (fr_up C1 (0, 64) (.inl (cI, 4500, .inl (upd rr1 (rw + A) (li (150 * L + (F + m1))))))) (0, 65) (.inl (cI, 4500, .inl (upd rd1 (rw + A) (dy (g (F + m1))))))) (0, 66) (.inl (cZ, 4500, .inl (upd rg1 (rw + A) (dl (g (F + m1))))))) (0, 40) (.inr (5, fM b th pg gr lf an n lc ps (rw + (A + 1)) tk (po + B))), upd rr1 (rw + A) (li (150 * L + (F + m1))), upd rd1 (rw + A) (dy (g (F + m1))), upd rg1 (rw + A) (dl (g (F + m1)))) _ _ _ ⟨bi0, bi1, bi2, bi3, bi4, bi5, bi6, bi7, bi8, bi9, biA, hE, hS, lv_sub hl [2, 3, 0, 4, 5, 6, 7] rfl⟩
      · skip
        refine lv_aload_n hx hb d_M_makePage_106 rfl (lv_at hl 4 rfl) ?_
        refine lv_dup hx hb d_M_makePage_107 rfl ?_
        refine fr_get (ci := 5) (Cn := hR_5) (T := hF_5) (N := 34) hx hb hT hi_5 hown hK hE (0, 40) rfl i5 rfl 33 (by decide) (hT _ kw_507) (fun _ h9 => h9) rfl d_M_makePage_108 ?_
        refine lv_iconst (v := 1) hx hb d_M_makePage_111 (by decide) ?_
        refine lv_iadd hx hb d_M_makePage_112 ?_
        refine lv_topi (fun y_31 ey_31 => ?_)
        obtain rfl : y_31 = nI (po + (B + 1)) := ey_31.trans ((nI_1 _).trans (congrArg nI (by omega)))
        refine fr_put (ci := 5) (v := .int (nI (po + (B + 1)))) (ty := .int) (Cn := hR_5) (T := hF_5) (N := 34) hx hb hT hi_5 hy_5 ho_5 hn_5 hown hK hE hS (0, 40) rfl i5 rfl 33 (by decide) (hT _ kw_507) (fun _ h9 => h9) rfl (by decide +kernel) rfl rfl (Nat.le_of_ble_eq_true rfl) d_M_makePage_113 (fun H locs hE hS => ?_)
        refine lv_goto (tgt := 172) hx hb d_M_makePage_116 (by decide) ?_
        refine lv_iinc (v := nI (F + (m1 + 1))) (lv' := [(6, .int (nI (F + (m1 + 1)))), (7, .int (li (150 * L + (F + m1)))), (4, .int (nI ps)), (5, .int (nI (F + mq))), (0, .ref (b 40)), (1, .int (nI L)), (2, .int (nI F)), (3, .int t)]) hx hb d_M_makePage_172 hl (k := 3) rfl ((nI_1 _).trans (congrArg nI (by omega))) (by decide) rfl (fun ls hl => ?_)
        refine lv_goto (tgt := 68) hx hb d_M_makePage_175 (by decide) ?_
        have ns : (keepB ac (si L)) (g (F + m1)) = false := decide_eq_false c_29
        have bi0 : n9 + (m1 + 1) = mq + 1 := by omega
        have bi1 : (m1 + 1) ≤ mq := by omega
        have bi2 : K1 = kp (keepB ac (si L)) g F (m1 + 1) := i2.trans (kp_no ns).symm
        have bi3 : A = K1.length := i3
        have bi4 : A + (B + 1) = (m1 + 1) := by omega
        have bi5 : (fr_up C1 (0, 40) (.inr (5, fM b th pg gr lf an n lc ps (rw + A) tk (po + (B + 1))))) (0, 40) = some (.inr (5, fM b th pg gr lf an n lc ps (rw + A) tk (po + (B + 1)))) := rfl
        have bi6 : (fr_up C1 (0, 40) (.inr (5, fM b th pg gr lf an n lc ps (rw + A) tk (po + (B + 1))))) (0, 64) = some (.inl (cI, 4500, .inl rr1)) := i6
        have bi7 : (fr_up C1 (0, 40) (.inr (5, fM b th pg gr lf an n lc ps (rw + A) tk (po + (B + 1))))) (0, 65) = some (.inl (cI, 4500, .inl rd1)) := i7
        have bi8 : (fr_up C1 (0, 40) (.inr (5, fM b th pg gr lf an n lc ps (rw + A) tk (po + (B + 1))))) (0, 66) = some (.inl (cZ, 4500, .inl rg1)) := i8
        have bi9 : rowsOf K1 rw dy dl rr rd rg rr1 rd1 rg1 := i9
        have biA : fr_ag [(0, 40), (0, 64), (0, 65), (0, 66)] (fr_up C1 (0, 40) (.inr (5, fM b th pg gr lf an n lc ps (rw + A) tk (po + (B + 1))))) (fr_up (fr_up (fr_up C (0, 58) (.inl (cI, 4600, .inl (upd pl ps (nI L))))) (0, 59) (.inl (cI, 4600, .inl (upd pf ps (nI F))))) (0, 61) (.inl (cI, 4600, .inl (upd pa ps (nI rw))))) := iA.up (by decide)
        exact ih (m1 + 1, A, B + 1, K1, fr_up C1 (0, 40) (.inr (5, fM b th pg gr lf an n lc ps (rw + A) tk (po + (B + 1)))), rr1, rd1, rg1) _ _ _ ⟨bi0, bi1, bi2, bi3, bi4, bi5, bi6, bi7, bi8, bi9, biA, hE, hS, lv_sub hl [2, 3, 0, 4, 5, 6, 7] rfl⟩
end
section
def mAns (C : fr_C) (cI : ClassId) (aw cs pr : Nat → Int32) (hh P : Nat) : fr_C := fr_up (fr_up C (0, 71) (.inl (cI, 10, .inl (upd aw hh (nI P))))) (0, 72) (.inl (cI, 10, .inl (upd cs hh (cs hh + pr P))))
set_option maxHeartbeats 4000000 in
set_option maxRecDepth 100000 in
theorem c_M_answer (l : Launch) {D : va_G} {z : Nat} {b : Nat → Nat} {C : fr_C} {H9 : Heap} (h9 : fr_W D hCl z b C H9) {cI cZ cJ cP cO : ClassId} {th : Int32} {pg gr lf an n lc ps rw tk po : Nat} {pr : Nat → Int32} {aw : Nat → Int32} {cs : Nat → Int32} (m0 : C (0, 40) = some (.inr (5, fM b th pg gr lf an n lc ps rw tk po))) (m20 : C (0, 60) = some (.inl (cI, 4600, .inl pr))) (m31 : C (0, 71) = some (.inl (cI, 10, .inl aw))) (m32 : C (0, 72) = some (.inl (cI, 10, .inl cs))) (hh Q : Nat) (h1 : hh < 10) (h2 : Q < 4600) : Met l y_M_answer w_M_answer ({ frames := 0, cells := 0, slots := 0, locals := 0 }) (va_Pc [.ref (b 40), .int (nI hh), .int (nI Q)] (fr_G D hCl (hTy cI cZ cJ cP cO) z b C)) (va_Qi (fun (r : Int32) (u : Unit) => r = pr Q) (fun u t => fr_G D hCl (hTy cI cZ cJ cP cO) z ((fun _ => b) u) ((fun _ => mAns C cI aw cs pr hh Q) u) t) (fr_A z)) 0 0 (fr_A z) := by
  refine Met.ofW (cc := b_M_answer) (maxL := 3) (ret := (some .int)) (by decide) rfl ?_
  intro p e s m args below meth c s₁ B hml hv
  obtain ⟨rfl, hE, hK⟩ := hv
  have hx := B.exec
  have hb := B.bytes
  have hr := B.returns
  have hts := atoms_spec (ws := w_M_answer) B.pre
  have hT : ∀ w ∈ hw_tbl, w.before _ s = true := fun w h => hts w (List.mem_cons_of_mem _ h)
  have hown : s.vm.findClass "HarvestStepsModel" = some m.cls := findClass_of_methodNamed B.named
  have hlocks := B.notSynchronized
  have hS : va_S (fr_A z) s.heap s.heap [] := va_S.rf
  have hl := lv_entry ([.ref (b 40), .int (nI hh), .int (nI Q)]) (n := 3) (Nat.le_of_ble_eq_true rfl)
  rw [lg_entry_eq]
  generalize (lg_sl ([.ref (b 40), .int (nI hh), .int (nI Q)]) ++ List.replicate (3 - (lg_sl ([.ref (b 40), .int (nI hh), .int (nI Q)])).length) Slot.unset).toArray = ls at hl ⊢
  have hl : lv_has ls 3 [(0, .ref (b 40)), (1, .int (nI hh)), (2, .int (nI Q))] := hl
  refine lv_aload_n hx hb d_M_answer_0 rfl (lv_at hl 0 rfl) ?_
  refine fr_get (ci := 5) (Cn := hR_5) (T := hF_5) (N := 34) hx hb hT hi_5 hown hK hE (0, 40) rfl m0 rfl 31 (by decide) (hT _ kw_505) (fun _ h9 => h9) rfl d_M_answer_1 ?_
  refine lv_iload_n hx hb d_M_answer_4 rfl (lv_at hl 1 rfl) ?_
  refine lv_iload_n hx hb d_M_answer_5 rfl (lv_at hl 2 rfl) ?_
  refine fr_iast hx hb hK hE hS (0, 71) 0 rfl m31 rfl hh (rfl) (by omega) (by decide) d_M_answer_6 (fun H locs hE hS => ?_)
  refine lv_aload_n hx hb d_M_answer_7 rfl (lv_at hl 0 rfl) ?_
  refine fr_get (ci := 5) (Cn := hR_5) (T := hF_5) (N := 34) hx hb hT hi_5 hown hK hE (0, 40) rfl m0 rfl 32 (by decide) (hT _ kw_506) (fun _ h9 => h9) rfl d_M_answer_8 ?_
  refine lv_iload_n hx hb d_M_answer_11 rfl (lv_at hl 1 rfl) ?_
  refine lv_dup2_11 hx hb d_M_answer_12 rfl rfl ?_
  refine fr_iald hx hb hK hE (0, 72) 0 rfl m32 rfl hh (rfl) (by omega) (by decide) d_M_answer_13 ?_
  refine lv_aload_n hx hb d_M_answer_14 rfl (lv_at hl 0 rfl) ?_
  refine fr_get (ci := 5) (Cn := hR_5) (T := hF_5) (N := 34) hx hb hT hi_5 hown hK hE (0, 40) rfl m0 rfl 20 (by decide) (hT _ kw_494) (fun _ h9 => h9) rfl d_M_answer_15 ?_
  refine lv_iload_n hx hb d_M_answer_18 rfl (lv_at hl 2 rfl) ?_
  refine fr_iald hx hb hK hE (0, 60) 0 rfl m20 rfl Q (rfl) (by omega) (by decide) d_M_answer_19 ?_
  refine lv_iadd hx hb d_M_answer_20 ?_
  refine fr_iast hx hb hK hE hS (0, 72) 0 rfl m32 rfl hh (rfl) (by omega) (by decide) d_M_answer_21 (fun H locs hE hS => ?_)
  refine lv_aload_n hx hb d_M_answer_22 rfl (lv_at hl 0 rfl) ?_
  refine fr_get (ci := 5) (Cn := hR_5) (T := hF_5) (N := 34) hx hb hT hi_5 hown hK hE (0, 40) rfl m0 rfl 20 (by decide) (hT _ kw_494) (fun _ h9 => h9) rfl d_M_answer_23 ?_
  refine lv_iload_n hx hb d_M_answer_26 rfl (lv_at hl 2 rfl) ?_
  refine fr_iald hx hb hK hE (0, 60) 0 rfl m20 rfl Q (rfl) (by omega) (by decide) d_M_answer_27 ?_
  refine W.widen (k := 0) (n := 0) (Nat.le_of_ble_eq_true rfl) (Nat.le_of_ble_eq_true rfl) ?_
  exact W.iret (v := pr Q) hx hb hr (fun t9 ht9 hW9 => ⟨⟨pr Q, (), rfl, rfl, ⟨by rw [ht9]; exact hE, va_K.moved hW9.alike hK⟩⟩, hS.F ht9⟩) hS.2.2 d_M_answer_28
set_option maxHeartbeats 4000000 in
set_option maxRecDepth 100000 in
theorem c_M_token (l : Launch) {D : va_G} {z : Nat} {b : Nat → Nat} {C : fr_C} {H9 : Heap} (h9 : fr_W D hCl z b C H9) {cI cZ cJ cP cO : ClassId} {th : Int32} {pg gr lf an n lc ps rw tk po : Nat} {pt : Nat → Int32} {aw : Nat → Int32} (m0 : C (0, 40) = some (.inr (5, fM b th pg gr lf an n lc ps rw tk po))) (m22 : C (0, 62) = some (.inl (cI, 4600, .inl pt))) (m31 : C (0, 71) = some (.inl (cI, 10, .inl aw))) (haw : ∀ j, j < 10 → ¬ aw j < 0 → inN (aw j) 4600) (h : Int32) : Met l y_M_token w_M_token ({ frames := 1, cells := 0, slots := 0, locals := 22 }) (va_Pc [.ref (b 40), .int h] (fr_G D hCl (hTy cI cZ cJ cP cO) z b C)) (va_Qi (fun (r : Int32) (u : Unit) => (¬ inN h 10 ∧ r = -1) ∨ (∃ j : Nat, j < 10 ∧ h = nI j ∧ ((aw j < 0 ∧ r = -1) ∨ (∃ Q : Nat, aw j = nI Q ∧ r = pt Q)))) (fun u t => fr_G D hCl (hTy cI cZ cJ cP cO) z ((fun _ => b) u) ((fun _ => fr_up C (0, 40) (.inr (5, fM b 0 pg gr lf an n lc ps rw tk po))) u) t) (fr_A z)) 0 0 (fr_A z) := by
  refine Met.ofW (cc := b_M_token) (maxL := 2) (ret := (some .int)) (by decide) rfl ?_
  intro p e s m args below meth c s₁ B hml hv
  obtain ⟨rfl, hE, hK⟩ := hv
  have hx := B.exec
  have hb := B.bytes
  have hr := B.returns
  have hts := atoms_spec (ws := w_M_token) B.pre
  have hT : ∀ w ∈ hw_tbl, w.before _ s = true := fun w h => hts w (List.mem_cons_of_mem _ h)
  have hown : s.vm.findClass "HarvestStepsModel" = some m.cls := findClass_of_methodNamed B.named
  have hlocks := B.notSynchronized
  have hS : va_S (fr_A z) s.heap s.heap [] := va_S.rf
  have hl := lv_entry ([.ref (b 40), .int h]) (n := 2) (Nat.le_of_ble_eq_true rfl)
  rw [lg_entry_eq]
  generalize (lg_sl ([.ref (b 40), .int h]) ++ List.replicate (2 - (lg_sl ([.ref (b 40), .int h])).length) Slot.unset).toArray = ls at hl ⊢
  have hl : lv_has ls 2 [(0, .ref (b 40)), (1, .int h)] := hl
  refine lv_aload_n hx hb d_M_token_0 rfl (lv_at hl 0 rfl) ?_
  refine lv_iconst (v := 0) hx hb d_M_token_1 (by decide) ?_
  refine fr_put (ci := 5) (v := .int 0) (ty := .int) (Cn := hR_5) (T := hF_5) (N := 34) hx hb hT hi_5 hy_5 ho_5 hn_5 hown hK hE hS (0, 40) rfl m0 rfl 0 (by decide) (hT _ kw_474) (fun _ h9 => h9) rfl (by decide +kernel) rfl rfl (Nat.le_of_ble_eq_true rfl) d_M_token_2 (fun H locs hE hS => ?_)
  refine lv_iload_n hx hb d_M_token_5 rfl (lv_at hl 1 rfl) ?_
  refine lv_iconst (v := 0) hx hb d_M_token_6 (by decide) ?_
  refine lv_bipush (v := 9) hx hb d_M_token_7 (by decide) ?_
  refine fr_calli (va_runS (As := [.int h, .int 0, .int 9]) (rest := []) ⟨hx, hb, hml, hown, hts⟩ (c_M_in l hE h 0 9) (va_cwS 3 hts (hw_goodS kw_585 kw_586 kw_26 kw_587) rfl rfl rfl (by decide +kernel) ⟨Nat.le_of_ble_eq_true rfl, Nat.le_of_ble_eq_true rfl⟩) ⟨fr_blind, fr_pre hE hK⟩ rfl rfl hl.1 rfl (lv_room (Nat.le_of_ble_eq_true rfl)) d_M_token_9 ⟨Nat.le_of_ble_eq_true rfl, Nat.le_of_ble_eq_true rfl⟩) hS (fun r_1 u_1 H locs w_1 hE hS => ?_)
  rcases w_1 with ⟨rfl, pw_1⟩ | ⟨rfl, pw_1⟩
  · skip
    replace pw_1 := (in0 (m := 10) (by decide) (by decide)).mp pw_1
    obtain ⟨j_1, hj_1, rfl⟩ := pw_1
    refine lv_if_eq (tgt := 38) hx hb d_M_token_12 (by decide) (fun c_2 => ?_) (fun c_2 => ?_)
    · skip
      exact absurd c_2 (by decide)
    · skip
      refine lv_aload_n hx hb d_M_token_15 rfl (lv_at hl 0 rfl) ?_
      refine fr_get (ci := 5) (Cn := hR_5) (T := hF_5) (N := 34) hx hb hT hi_5 hown hK hE (0, 40) rfl rfl rfl 31 (by decide) (hT _ kw_505) (fun _ h9 => h9) rfl d_M_token_16 ?_
      refine lv_iload_n hx hb d_M_token_19 rfl (lv_at hl 1 rfl) ?_
      refine fr_iald hx hb hK hE (0, 71) 0 rfl m31 rfl j_1 (rfl) (by omega) (by decide) d_M_token_20 ?_
      refine lv_if_lt (tgt := 38) hx hb d_M_token_21 (by decide) (fun c_3 => ?_) (fun c_3 => ?_)
      · skip
        refine lv_iconst (v := (-1)) hx hb d_M_token_38 (by decide) ?_
        refine W.widen (k := 0) (n := 0) (Nat.le_of_ble_eq_true rfl) (Nat.le_of_ble_eq_true rfl) ?_
        exact W.iret (v := (-1)) hx hb hr (fun t9 ht9 hW9 => ⟨⟨(-1), (), rfl, Or.inr ⟨j_1, hj_1, rfl, Or.inl ⟨c_3, rfl⟩⟩, ⟨by rw [ht9]; exact hE, va_K.moved hW9.alike hK⟩⟩, hS.F ht9⟩) hS.2.2 d_M_token_39
      · skip
        obtain ⟨j_2, hj_2, e_2⟩ := haw j_1 hj_1 c_3
        refine lv_aload_n hx hb d_M_token_24 rfl (lv_at hl 0 rfl) ?_
        refine fr_get (ci := 5) (Cn := hR_5) (T := hF_5) (N := 34) hx hb hT hi_5 hown hK hE (0, 40) rfl rfl rfl 22 (by decide) (hT _ kw_496) (fun _ h9 => h9) rfl d_M_token_25 ?_
        refine lv_aload_n hx hb d_M_token_28 rfl (lv_at hl 0 rfl) ?_
        refine fr_get (ci := 5) (Cn := hR_5) (T := hF_5) (N := 34) hx hb hT hi_5 hown hK hE (0, 40) rfl rfl rfl 31 (by decide) (hT _ kw_505) (fun _ h9 => h9) rfl d_M_token_29 ?_
        refine lv_iload_n hx hb d_M_token_32 rfl (lv_at hl 1 rfl) ?_
        refine fr_iald hx hb hK hE (0, 71) 0 rfl m31 rfl j_1 (rfl) (by omega) (by decide) d_M_token_33 ?_
        refine fr_iald hx hb hK hE (0, 62) 0 rfl m22 rfl j_2 (e_2) (hj_2) (by decide) d_M_token_34 ?_
        refine lv_goto (tgt := 39) hx hb d_M_token_35 (by decide) ?_
        refine W.widen (k := 0) (n := 0) (Nat.le_of_ble_eq_true rfl) (Nat.le_of_ble_eq_true rfl) ?_
        exact W.iret (v := pt j_2) hx hb hr (fun t9 ht9 hW9 => ⟨⟨pt j_2, (), rfl, Or.inr ⟨j_1, hj_1, rfl, Or.inr ⟨j_2, e_2, rfl⟩⟩, ⟨by rw [ht9]; exact hE, va_K.moved hW9.alike hK⟩⟩, hS.F ht9⟩) hS.2.2 d_M_token_39
  · skip
    replace pw_1 := fun q => pw_1 ((in0 (m := 10) (by decide) (by decide)).mpr q)
    refine lv_if_eq (tgt := 38) hx hb d_M_token_12 (by decide) (fun c_4 => ?_) (fun c_4 => ?_)
    · skip
      refine lv_iconst (v := (-1)) hx hb d_M_token_38 (by decide) ?_
      refine W.widen (k := 0) (n := 0) (Nat.le_of_ble_eq_true rfl) (Nat.le_of_ble_eq_true rfl) ?_
      exact W.iret (v := (-1)) hx hb hr (fun t9 ht9 hW9 => ⟨⟨(-1), (), rfl, Or.inl ⟨pw_1, rfl⟩, ⟨by rw [ht9]; exact hE, va_K.moved hW9.alike hK⟩⟩, hS.F ht9⟩) hS.2.2 d_M_token_39
    · skip
      exact absurd c_4 (by decide)
set_option maxHeartbeats 4000000 in
set_option maxRecDepth 100000 in
theorem c_M_about (l : Launch) {D : va_G} {z : Nat} {b : Nat → Nat} {C : fr_C} {H9 : Heap} (h9 : fr_W D hCl z b C H9) {cI cZ cJ cP cO : ClassId} {th : Int32} {pg gr lf an n lc ps rw tk po : Nat} {mn : Nat → Int32} {ol : Nat → Int32} {pl : Nat → Int32} {pf : Nat → Int32} {tp : Nat → Int32} {md : Nat → Int32} (m0 : C (0, 40) = some (.inr (5, fM b th pg gr lf an n lc ps rw tk po))) (m12 : C (0, 52) = some (.inl (cI, 30, .inl mn))) (m15 : C (0, 55) = some (.inl (cI, 30, .inl ol))) (m18 : C (0, 58) = some (.inl (cI, 4600, .inl pl))) (m19 : C (0, 59) = some (.inl (cI, 4600, .inl pf))) (m28 : C (0, 68) = some (.inl (cI, 4600, .inl tp))) (m29 : C (0, 69) = some (.inl (cI, 4600, .inl md))) (htk : tk ≤ 4600) (htp : ∀ j, j < tk → ∃ Q L : Nat, Q < 4600 ∧ L < 30 ∧ tp j = nI Q ∧ pl Q = nI L) (tok what : Int32) : Met l y_M_about w_M_about ({ frames := 1, cells := 0, slots := 0, locals := 22 }) (va_Pc [.ref (b 40), .int tok, .int what] (fr_G D hCl (hTy cI cZ cJ cP cO) z b C)) (va_Qi (fun (r : Int32) (u : Unit) => (¬ inN tok tk ∧ r = -1) ∨ (∃ j : Nat, j < tk ∧ tok = nI j ∧ ∃ Q L : Nat, tp j = nI Q ∧ pl Q = nI L ∧ ((what = 0 ∧ r = ol L) ∨ (what = 1 ∧ r = md j) ∨ (what = 2 ∧ r = mn L - pf Q - nI pg) ∨ (¬ what = 0 ∧ ¬ what = 1 ∧ ¬ what = 2 ∧ r = -1)))) (fun u t => fr_G D hCl (hTy cI cZ cJ cP cO) z ((fun _ => b) u) ((fun _ => fr_up C (0, 40) (.inr (5, fM b 0 pg gr lf an n lc ps rw tk po))) u) t) (fr_A z)) 0 0 (fr_A z) := by
  refine Met.ofW (cc := b_M_about) (maxL := 5) (ret := (some .int)) (by decide) rfl ?_
  intro p e s m args below meth c s₁ B hml hv
  obtain ⟨rfl, hE, hK⟩ := hv
  have hx := B.exec
  have hb := B.bytes
  have hr := B.returns
  have hts := atoms_spec (ws := w_M_about) B.pre
  have hT : ∀ w ∈ hw_tbl, w.before _ s = true := fun w h => hts w (List.mem_cons_of_mem _ h)
  have hown : s.vm.findClass "HarvestStepsModel" = some m.cls := findClass_of_methodNamed B.named
  have hlocks := B.notSynchronized
  have hS : va_S (fr_A z) s.heap s.heap [] := va_S.rf
  have hl := lv_entry ([.ref (b 40), .int tok, .int what]) (n := 5) (Nat.le_of_ble_eq_true rfl)
  rw [lg_entry_eq]
  generalize (lg_sl ([.ref (b 40), .int tok, .int what]) ++ List.replicate (5 - (lg_sl ([.ref (b 40), .int tok, .int what])).length) Slot.unset).toArray = ls at hl ⊢
  have hl : lv_has ls 5 [(0, .ref (b 40)), (1, .int tok), (2, .int what)] := hl
  refine lv_aload_n hx hb d_M_about_0 rfl (lv_at hl 0 rfl) ?_
  refine lv_iconst (v := 0) hx hb d_M_about_1 (by decide) ?_
  refine fr_put (ci := 5) (v := .int 0) (ty := .int) (Cn := hR_5) (T := hF_5) (N := 34) hx hb hT hi_5 hy_5 ho_5 hn_5 hown hK hE hS (0, 40) rfl m0 rfl 0 (by decide) (hT _ kw_474) (fun _ h9 => h9) rfl (by decide +kernel) rfl rfl (Nat.le_of_ble_eq_true rfl) d_M_about_2 (fun H locs hE hS => ?_)
  refine lv_iload_n hx hb d_M_about_5 rfl (lv_at hl 1 rfl) ?_
  refine lv_iconst (v := 0) hx hb d_M_about_6 (by decide) ?_
  refine lv_aload_n hx hb d_M_about_7 rfl (lv_at hl 0 rfl) ?_
  refine fr_get (ci := 5) (Cn := hR_5) (T := hF_5) (N := 34) hx hb hT hi_5 hown hK hE (0, 40) rfl rfl rfl 27 (by decide) (hT _ kw_501) (fun _ h9 => h9) rfl d_M_about_8 ?_
  refine lv_iconst (v := 1) hx hb d_M_about_11 (by decide) ?_
  refine lv_isub hx hb d_M_about_12 ?_
  refine fr_calli (va_runS (As := [.int tok, .int 0, .int ((nI tk) - 1)]) (rest := []) ⟨hx, hb, hml, hown, hts⟩ (c_M_in l hE tok 0 (nI tk - 1)) (va_cwS 3 hts (hw_goodS kw_585 kw_586 kw_26 kw_587) rfl rfl rfl (by decide +kernel) ⟨Nat.le_of_ble_eq_true rfl, Nat.le_of_ble_eq_true rfl⟩) ⟨fr_blind, fr_pre hE hK⟩ rfl rfl hl.1 rfl (lv_room (Nat.le_of_ble_eq_true rfl)) d_M_about_13 ⟨Nat.le_of_ble_eq_true rfl, Nat.le_of_ble_eq_true rfl⟩) hS (fun r_1 u_1 H locs w_1 hE hS => ?_)
  rcases w_1 with ⟨rfl, pw_1⟩ | ⟨rfl, pw_1⟩
  · skip
    replace pw_1 := (in0 (m := tk) (nI_m1 (by omega)) (by omega)).mp pw_1
    obtain ⟨j_1, hj_1, rfl⟩ := pw_1
    obtain ⟨j_2, j_3, hj_2, hj_3, e_2, e_3⟩ := htp j_1 hj_1
    refine lv_if_ne (tgt := 21) hx hb d_M_about_16 (by decide) (fun c_2 => ?_) (fun c_2 => ?_)
    · skip
      refine lv_aload_n hx hb d_M_about_21 rfl (lv_at hl 0 rfl) ?_
      refine fr_get (ci := 5) (Cn := hR_5) (T := hF_5) (N := 34) hx hb hT hi_5 hown hK hE (0, 40) rfl rfl rfl 28 (by decide) (hT _ kw_502) (fun _ h9 => h9) rfl d_M_about_22 ?_
      refine lv_iload_n hx hb d_M_about_25 rfl (lv_at hl 1 rfl) ?_
      refine fr_iald hx hb hK hE (0, 68) 0 rfl m28 rfl j_1 (rfl) (by omega) (by decide) d_M_about_26 ?_
      refine lv_istore_n (lv' := [(3, .int (tp j_1)), (0, .ref (b 40)), (1, .int (nI j_1)), (2, .int what)]) hx hb d_M_about_27 rfl hl (by decide) rfl (fun ls hl => ?_)
      refine lv_aload_n hx hb d_M_about_28 rfl (lv_at hl 1 rfl) ?_
      refine fr_get (ci := 5) (Cn := hR_5) (T := hF_5) (N := 34) hx hb hT hi_5 hown hK hE (0, 40) rfl rfl rfl 18 (by decide) (hT _ kw_492) (fun _ h9 => h9) rfl d_M_about_29 ?_
      refine lv_iload_n hx hb d_M_about_32 rfl (lv_at hl 0 rfl) ?_
      refine fr_iald hx hb hK hE (0, 58) 0 rfl m18 rfl j_2 (e_2) (by omega) (by decide) d_M_about_33 ?_
      refine lv_istore (lv' := [(4, .int (pl j_2)), (3, .int (tp j_1)), (0, .ref (b 40)), (1, .int (nI j_1)), (2, .int what)]) hx hb d_M_about_34 hl (by decide) rfl (fun ls hl => ?_)
      refine lv_iload_n hx hb d_M_about_36 rfl (lv_at hl 4 rfl) ?_
      by_cases s_3_0 : what = 0
      · skip
        refine lv_tableIn (tgt := 64) (off := 27) hx hb d_M_about_37 (by rw [s_3_0]; decide) (by rw [s_3_0]; decide) (by rw [s_3_0]; rfl) (by decide) ?_
        refine lv_aload_n hx hb d_M_about_64 rfl (lv_at hl 2 rfl) ?_
        refine fr_get (ci := 5) (Cn := hR_5) (T := hF_5) (N := 34) hx hb hT hi_5 hown hK hE (0, 40) rfl rfl rfl 15 (by decide) (hT _ kw_489) (fun _ h9 => h9) rfl d_M_about_65 ?_
        refine lv_iload hx hb d_M_about_68 (lv_at hl 0 rfl) ?_
        refine fr_iald hx hb hK hE (0, 55) 0 rfl m15 rfl j_3 (e_3) (by omega) (by decide) d_M_about_70 ?_
        refine W.widen (k := 0) (n := 0) (Nat.le_of_ble_eq_true rfl) (Nat.le_of_ble_eq_true rfl) ?_
        exact W.iret (v := ol j_3) hx hb hr (fun t9 ht9 hW9 => ⟨⟨ol j_3, (), rfl, Or.inr ⟨j_1, hj_1, rfl, j_2, j_3, e_2, e_3, Or.inl ⟨s_3_0, rfl⟩⟩, ⟨by rw [ht9]; exact hE, va_K.moved hW9.alike hK⟩⟩, hS.F ht9⟩) hS.2.2 d_M_about_71
      by_cases s_3_1 : what = 1
      · skip
        refine lv_tableIn (tgt := 72) (off := 35) hx hb d_M_about_37 (by rw [s_3_1]; decide) (by rw [s_3_1]; decide) (by rw [s_3_1]; rfl) (by decide) ?_
        refine lv_aload_n hx hb d_M_about_72 rfl (lv_at hl 2 rfl) ?_
        refine fr_get (ci := 5) (Cn := hR_5) (T := hF_5) (N := 34) hx hb hT hi_5 hown hK hE (0, 40) rfl rfl rfl 29 (by decide) (hT _ kw_503) (fun _ h9 => h9) rfl d_M_about_73 ?_
        refine lv_iload_n hx hb d_M_about_76 rfl (lv_at hl 3 rfl) ?_
        refine fr_iald hx hb hK hE (0, 69) 0 rfl m29 rfl j_1 (rfl) (by omega) (by decide) d_M_about_77 ?_
        refine W.widen (k := 0) (n := 0) (Nat.le_of_ble_eq_true rfl) (Nat.le_of_ble_eq_true rfl) ?_
        exact W.iret (v := md j_1) hx hb hr (fun t9 ht9 hW9 => ⟨⟨md j_1, (), rfl, Or.inr ⟨j_1, hj_1, rfl, j_2, j_3, e_2, e_3, Or.inr (Or.inl ⟨s_3_1, rfl⟩)⟩, ⟨by rw [ht9]; exact hE, va_K.moved hW9.alike hK⟩⟩, hS.F ht9⟩) hS.2.2 d_M_about_78
      by_cases s_3_2 : what = 2
      · skip
        refine lv_tableIn (tgt := 79) (off := 42) hx hb d_M_about_37 (by rw [s_3_2]; decide) (by rw [s_3_2]; decide) (by rw [s_3_2]; rfl) (by decide) ?_
        refine lv_aload_n hx hb d_M_about_79 rfl (lv_at hl 2 rfl) ?_
        refine fr_get (ci := 5) (Cn := hR_5) (T := hF_5) (N := 34) hx hb hT hi_5 hown hK hE (0, 40) rfl rfl rfl 12 (by decide) (hT _ kw_486) (fun _ h9 => h9) rfl d_M_about_80 ?_
        refine lv_iload hx hb d_M_about_83 (lv_at hl 0 rfl) ?_
        refine fr_iald hx hb hK hE (0, 52) 0 rfl m12 rfl j_3 (e_3) (by omega) (by decide) d_M_about_85 ?_
        refine lv_aload_n hx hb d_M_about_86 rfl (lv_at hl 2 rfl) ?_
        refine fr_get (ci := 5) (Cn := hR_5) (T := hF_5) (N := 34) hx hb hT hi_5 hown hK hE (0, 40) rfl rfl rfl 19 (by decide) (hT _ kw_493) (fun _ h9 => h9) rfl d_M_about_87 ?_
        refine lv_iload_n hx hb d_M_about_90 rfl (lv_at hl 1 rfl) ?_
        refine fr_iald hx hb hK hE (0, 59) 0 rfl m19 rfl j_2 (e_2) (by omega) (by decide) d_M_about_91 ?_
        refine lv_isub hx hb d_M_about_92 ?_
        refine lv_aload_n hx hb d_M_about_93 rfl (lv_at hl 2 rfl) ?_
        refine fr_get (ci := 5) (Cn := hR_5) (T := hF_5) (N := 34) hx hb hT hi_5 hown hK hE (0, 40) rfl rfl rfl 1 (by decide) (hT _ kw_475) (fun _ h9 => h9) rfl d_M_about_94 ?_
        refine lv_isub hx hb d_M_about_97 ?_
        refine W.widen (k := 0) (n := 0) (Nat.le_of_ble_eq_true rfl) (Nat.le_of_ble_eq_true rfl) ?_
        exact W.iret (v := ((mn j_3) - (pf j_2)) - (nI pg)) hx hb hr (fun t9 ht9 hW9 => ⟨⟨((mn j_3) - (pf j_2)) - (nI pg), (), rfl, Or.inr ⟨j_1, hj_1, rfl, j_2, j_3, e_2, e_3, Or.inr (Or.inr (Or.inl ⟨s_3_2, rfl⟩))⟩, ⟨by rw [ht9]; exact hE, va_K.moved hW9.alike hK⟩⟩, hS.F ht9⟩) hS.2.2 d_M_about_98
      refine lv_tableOut (tgt := 99) hx hb d_M_about_37 (by have a_0 := lv_neT s_3_0 (a := 0) rfl; have a_1 := lv_neT s_3_1 (a := 1) rfl; have a_2 := lv_neT s_3_2 (a := 2) rfl; omega) (by decide) ?_
      refine lv_iconst (v := (-1)) hx hb d_M_about_99 (by decide) ?_
      refine W.widen (k := 0) (n := 0) (Nat.le_of_ble_eq_true rfl) (Nat.le_of_ble_eq_true rfl) ?_
      exact W.iret (v := (-1)) hx hb hr (fun t9 ht9 hW9 => ⟨⟨(-1), (), rfl, Or.inr ⟨j_1, hj_1, rfl, j_2, j_3, e_2, e_3, Or.inr (Or.inr (Or.inr ⟨s_3_0, s_3_1, s_3_2, rfl⟩))⟩, ⟨by rw [ht9]; exact hE, va_K.moved hW9.alike hK⟩⟩, hS.F ht9⟩) hS.2.2 d_M_about_100
    · skip
      exact absurd c_2 (by decide)
  · skip
    replace pw_1 := fun q => pw_1 ((in0 (m := tk) (nI_m1 (by omega)) (by omega)).mpr q)
    refine lv_if_ne (tgt := 21) hx hb d_M_about_16 (by decide) (fun c_4 => ?_) (fun c_4 => ?_)
    · skip
      exact absurd c_4 (by decide)
    · skip
      refine lv_iconst (v := (-1)) hx hb d_M_about_19 (by decide) ?_
      refine W.widen (k := 0) (n := 0) (Nat.le_of_ble_eq_true rfl) (Nat.le_of_ble_eq_true rfl) ?_
      exact W.iret (v := (-1)) hx hb hr (fun t9 ht9 hW9 => ⟨⟨(-1), (), rfl, Or.inl ⟨pw_1, rfl⟩, ⟨by rw [ht9]; exact hE, va_K.moved hW9.alike hK⟩⟩, hS.F ht9⟩) hS.2.2 d_M_about_20
end
section
theorem in_okSet {v : Int32} : (-1 ≤ v ∧ v ≤ 9) ↔ okSet v := by
  constructor
  · rintro ⟨a, c⟩
    by_cases h : v = -1
    · exact Or.inl h
    · refine Or.inr (inN_yes (n := 10) (by decide) (fun q => h ?_) (fun q => ?_))
      · have e1 := Int32.le_iff_toInt_le.mp a
        have e2 := Int32.lt_iff_toInt_lt.mp q
        apply Int32.toInt_inj.mp
        have e3 : (-1 : Int32).toInt = -1 := rfl
        have e4 : (0 : Int32).toInt = 0 := rfl
        omega
      · have e1 := Int32.le_iff_toInt_le.mp c
        have e2 := Int32.le_iff_toInt_le.mp q
        have e3 : (9 : Int32).toInt = 9 := rfl
        rw [nI_toInt (by decide)] at e2
        omega
  · rintro (rfl | ⟨j, hj, rfl⟩)
    · exact ⟨by decide, by decide⟩
    · constructor
      · apply Int32.le_iff_toInt_le.mpr
        rw [nI_toInt (by omega)]
        have e3 : (-1 : Int32).toInt = -1 := rfl
        omega
      · apply Int32.le_iff_toInt_le.mpr
        rw [nI_toInt (by omega)]
        have e3 : (9 : Int32).toInt = 9 := rfl
        omega
theorem in4_3 {v : Int32} (h : inN v 4) (h0 : ¬ v = 0) (h1 : ¬ v = 1) (h2 : ¬ v = 2) : v = 3 := by
  obtain ⟨j, hj, rfl⟩ := h
  rcases (show j = 0 ∨ j = 1 ∨ j = 2 ∨ j = 3 by omega) with rfl | rfl | rfl | rfl
  · exact absurd rfl h0
  · exact absurd rfl h1
  · exact absurd rfl h2
  · rfl
def spanOk (gr : Nat) (fr to : Int32) : Prop := okDay gr fr ∧ okDay gr to ∧ fr ≤ to
/-- what is against a list, and its code; k: how many records it would have -/
def lsErr (gr lc k : Nat) (hd : Nat → Int32) (h f fr to of t r : Int32) : Prop :=
  (¬ inN h 10 ∧ r = -1) ∨ (inN h 10 ∧ ¬ inN t 1000000001 ∧ r = -2) ∨ (inN h 10 ∧ inN t 1000000001 ∧ ¬ spanOk gr fr to ∧ r = -11) ∨ (inN h 10 ∧ inN t 1000000001 ∧ spanOk gr fr to ∧ ¬ isHeldP hd f ∧ r = -12) ∨ (inN h 10 ∧ inN t 1000000001 ∧ spanOk gr fr to ∧ isHeldP hd f ∧ ¬ okSet of ∧ r = -13) ∨ (inN h 10 ∧ inN t 1000000001 ∧ spanOk gr fr to ∧ isHeldP hd f ∧ okSet of ∧ k = 0 ∧ r = -14) ∨ (inN h 10 ∧ inN t 1000000001 ∧ spanOk gr fr to ∧ isHeldP hd f ∧ okSet of ∧ 0 < k ∧ 30 ≤ lc ∧ r = -4)
def lsOk (gr lc k : Nat) (hd : Nat → Int32) (h f fr to of t : Int32) : Prop := inN h 10 ∧ inN t 1000000001 ∧ spanOk gr fr to ∧ isHeldP hd f ∧ okSet of ∧ 0 < k ∧ lc < 30
/-- the reference's world when a list is made, ahead of its first page -/
def mLs (C : fr_C) (cI : ClassId) (b : Nat → Nat) (pg gr lf an n lc ps rw tk po : Nat) (li' mn si fo ol : Nat → Int32) (k : Nat) (f h : Int32) : fr_C :=
  fr_up (fr_up (fr_up (fr_up (fr_up (fr_up (fr_up C (0, 40) (.inr (5, fM b 0 pg gr lf an n lc ps rw tk po))) (0, 56) (.inl (cI, 4500, .inl li'))) (0, 52) (.inl (cI, 30, .inl (upd mn lc (nI k))))) (0, 53) (.inl (cI, 30, .inl (upd si lc (nI an))))) (0, 54) (.inl (cI, 30, .inl (upd fo lc f)))) (0, 55) (.inl (cI, 30, .inl (upd ol lc h)))) (0, 40) (.inr (5, fM b 0 pg gr lf an n (lc + 1) ps rw tk po))
set_option maxHeartbeats 4000000 in
set_option maxRecDepth 100000 in
theorem c_M_row (l : Launch) {D : va_G} {z : Nat} {b : Nat → Nat} {C : fr_C} {H9 : Heap} (h9 : fr_W D hCl z b C H9) {cI cZ cJ cP cO : ClassId} {th : Int32} {pg gr lf an n lc ps rw tk po : Nat} {fo : Nat → Int32} {pl : Nat → Int32} {pr : Nat → Int32} {pa : Nat → Int32} {rr : Nat → Int32} {rd : Nat → Int32} {rg : Nat → Int32} {aw : Nat → Int32} (m0 : C (0, 40) = some (.inr (5, fM b th pg gr lf an n lc ps rw tk po))) (m14 : C (0, 54) = some (.inl (cI, 30, .inl fo))) (m18 : C (0, 58) = some (.inl (cI, 4600, .inl pl))) (m20 : C (0, 60) = some (.inl (cI, 4600, .inl pr))) (m21 : C (0, 61) = some (.inl (cI, 4600, .inl pa))) (m24 : C (0, 64) = some (.inl (cI, 4500, .inl rr))) (m25 : C (0, 65) = some (.inl (cI, 4500, .inl rd))) (m26 : C (0, 66) = some (.inl (cZ, 4500, .inl rg))) (m31 : C (0, 71) = some (.inl (cI, 10, .inl aw))) (haw : ∀ j, j < 10 → ¬ aw j < 0 → ∃ Q c a L : Nat, Q < 4600 ∧ c ≤ 4500 ∧ a + c ≤ 4500 ∧ L < 30 ∧ aw j = nI Q ∧ pr Q = nI c ∧ pa Q = nI a ∧ pl Q = nI L) (h i what : Int32) : Met l y_M_row w_M_row ({ frames := 1, cells := 0, slots := 0, locals := 22 }) (va_Pc [.ref (b 40), .int h, .int i, .int what] (fr_G D hCl (hTy cI cZ cJ cP cO) z b C)) (va_Qi (fun (r : Int32) (u : Int32) => (u = 1 ∧ r = 0 ∧ (¬ inN h 10 ∨ ∃ j : Nat, j < 10 ∧ h = nI j ∧ (aw j < 0 ∨ ∃ Q c : Nat, Q < 4600 ∧ c ≤ 4500 ∧ aw j = nI Q ∧ pr Q = nI c ∧ (¬ inN what 4 ∨ ¬ inN i c)))) ∨ (u = 0 ∧ ∃ j Q c x L a : Nat, j < 10 ∧ h = nI j ∧ Q < 4600 ∧ c ≤ 4500 ∧ aw j = nI Q ∧ pr Q = nI c ∧ x < c ∧ i = nI x ∧ pa Q = nI a ∧ pl Q = nI L ∧ ((what = 0 ∧ r = rr (a + x)) ∨ (what = 1 ∧ r = rd (a + x)) ∨ (what = 2 ∧ r = if rg (a + x) = 0 then 0 else 1) ∨ (what = 3 ∧ r = fo L)))) (fun u t => fr_G D hCl (hTy cI cZ cJ cP cO) z ((fun _ => b) u) ((fun u => fr_up C (0, 40) (.inr (5, fM b u pg gr lf an n lc ps rw tk po))) u) t) (fr_A z)) 0 0 (fr_A z) := by
  refine Met.ofW (cc := b_M_row) (maxL := 7) (ret := (some .int)) (by decide) rfl ?_
  intro p e s m args below meth c s₁ B hml hv
  obtain ⟨rfl, hE, hK⟩ := hv
  have hx := B.exec
  have hb := B.bytes
  have hr := B.returns
  have hts := atoms_spec (ws := w_M_row) B.pre
  have hT : ∀ w ∈ hw_tbl, w.before _ s = true := fun w h => hts w (List.mem_cons_of_mem _ h)
  have hown : s.vm.findClass "HarvestStepsModel" = some m.cls := findClass_of_methodNamed B.named
  have hlocks := B.notSynchronized
  have hS : va_S (fr_A z) s.heap s.heap [] := va_S.rf
  have hl := lv_entry ([.ref (b 40), .int h, .int i, .int what]) (n := 7) (Nat.le_of_ble_eq_true rfl)
  rw [lg_entry_eq]
  generalize (lg_sl ([.ref (b 40), .int h, .int i, .int what]) ++ List.replicate (7 - (lg_sl ([.ref (b 40), .int h, .int i, .int what])).length) Slot.unset).toArray = ls at hl ⊢
  have hl : lv_has ls 7 [(0, .ref (b 40)), (1, .int h), (2, .int i), (3, .int what)] := hl
  refine lv_iload_n hx hb d_M_row_0 rfl (lv_at hl 1 rfl) ?_
  refine lv_iconst (v := 0) hx hb d_M_row_1 (by decide) ?_
  refine lv_bipush (v := 9) hx hb d_M_row_2 (by decide) ?_
  refine fr_calli (va_runS (As := [.int h, .int 0, .int 9]) (rest := []) ⟨hx, hb, hml, hown, hts⟩ (c_M_in l hE h 0 9) (va_cwS 3 hts (hw_goodS kw_585 kw_586 kw_26 kw_587) rfl rfl rfl (by decide +kernel) ⟨Nat.le_of_ble_eq_true rfl, Nat.le_of_ble_eq_true rfl⟩) ⟨fr_blind, fr_pre hE hK⟩ rfl rfl hl.1 rfl (lv_room (Nat.le_of_ble_eq_true rfl)) d_M_row_4 ⟨Nat.le_of_ble_eq_true rfl, Nat.le_of_ble_eq_true rfl⟩) hS (fun r_1 u_1 H locs w_1 hE hS => ?_)
  rcases w_1 with ⟨rfl, pw_1⟩ | ⟨rfl, pw_1⟩
  · skip
    replace pw_1 := (in0 (m := 10) (by decide) (by decide)).mp pw_1
    obtain ⟨j_1, hj_1, rfl⟩ := pw_1
    refine lv_if_eq (tgt := 32) hx hb d_M_row_7 (by decide) (fun c_2 => ?_) (fun c_2 => ?_)
    · skip
      exact absurd c_2 (by decide)
    · skip
      refine lv_aload_n hx hb d_M_row_10 rfl (lv_at hl 0 rfl) ?_
      refine fr_get (ci := 5) (Cn := hR_5) (T := hF_5) (N := 34) hx hb hT hi_5 hown hK hE (0, 40) rfl m0 rfl 31 (by decide) (hT _ kw_505) (fun _ h9 => h9) rfl d_M_row_11 ?_
      refine lv_iload_n hx hb d_M_row_14 rfl (lv_at hl 1 rfl) ?_
      refine fr_iald hx hb hK hE (0, 71) 0 rfl m31 rfl j_1 (rfl) (by omega) (by decide) d_M_row_15 ?_
      refine lv_if_lt (tgt := 32) hx hb d_M_row_16 (by decide) (fun c_3 => ?_) (fun c_3 => ?_)
      · skip
        refine lv_iconst (v := 0) hx hb d_M_row_32 (by decide) ?_
        refine lv_istore (lv' := [(4, .int 0), (0, .ref (b 40)), (1, .int (nI j_1)), (2, .int i), (3, .int what)]) hx hb d_M_row_33 hl (by decide) rfl (fun ls hl => ?_)
        refine lv_aload_n hx hb d_M_row_35 rfl (lv_at hl 1 rfl) ?_
        refine lv_iload hx hb d_M_row_36 (lv_at hl 0 rfl) ?_
        refine lv_if_eq (tgt := 66) hx hb d_M_row_38 (by decide) (fun c_4 => ?_) (fun c_4 => ?_)
        · skip
          refine lv_iconst (v := 1) hx hb d_M_row_66 (by decide) ?_
          refine fr_put (ci := 5) (v := .int 1) (ty := .int) (Cn := hR_5) (T := hF_5) (N := 34) hx hb hT hi_5 hy_5 ho_5 hn_5 hown hK hE hS (0, 40) rfl m0 rfl 0 (by decide) (hT _ kw_474) (fun _ h9 => h9) rfl (by decide +kernel) rfl rfl (Nat.le_of_ble_eq_true rfl) d_M_row_67 (fun H locs hE hS => ?_)
          refine lv_aload_n hx hb d_M_row_70 rfl (lv_at hl 1 rfl) ?_
          refine fr_get (ci := 5) (Cn := hR_5) (T := hF_5) (N := 34) hx hb hT hi_5 hown hK hE (0, 40) rfl rfl rfl 0 (by decide) (hT _ kw_474) (fun _ h9 => h9) rfl d_M_row_71 ?_
          refine lv_if_le (tgt := 79) hx hb d_M_row_74 (by decide) (fun c_5 => ?_) (fun c_5 => ?_)
          · skip
            exact absurd c_5 (by decide)
          · skip
            refine lv_iconst (v := 0) hx hb d_M_row_77 (by decide) ?_
            refine W.widen (k := 0) (n := 0) (Nat.le_of_ble_eq_true rfl) (Nat.le_of_ble_eq_true rfl) ?_
            exact W.iret (v := 0) hx hb hr (fun t9 ht9 hW9 => ⟨⟨0, 1, rfl, Or.inl ⟨rfl, rfl, Or.inr ⟨j_1, hj_1, rfl, Or.inl c_3⟩⟩, ⟨by rw [ht9]; exact hE, va_K.moved hW9.alike hK⟩⟩, hS.F ht9⟩) hS.2.2 d_M_row_78
        · skip
          exact absurd c_4 (by decide)
      · skip
        obtain ⟨j_2, k_2, a_2, l_2, hj_2, hk_2, hak_2, hl_2, e_2, e_3, e_4, e_5⟩ := haw j_1 hj_1 c_3
        refine lv_iload_n hx hb d_M_row_19 rfl (lv_at hl 3 rfl) ?_
        refine lv_iconst (v := 0) hx hb d_M_row_20 (by decide) ?_
        refine lv_iconst (v := 3) hx hb d_M_row_21 (by decide) ?_
        refine fr_calli (va_runS (As := [.int what, .int 0, .int 3]) (rest := []) ⟨hx, hb, hml, hown, hts⟩ (c_M_in l hE what 0 3) (va_cwS 3 hts (hw_goodS kw_585 kw_586 kw_26 kw_587) rfl rfl rfl (by decide +kernel) ⟨Nat.le_of_ble_eq_true rfl, Nat.le_of_ble_eq_true rfl⟩) ⟨fr_blind, fr_pre hE hK⟩ rfl rfl hl.1 rfl (lv_room (Nat.le_of_ble_eq_true rfl)) d_M_row_22 ⟨Nat.le_of_ble_eq_true rfl, Nat.le_of_ble_eq_true rfl⟩) hS (fun r_6 u_6 H locs w_6 hE hS => ?_)
        rcases w_6 with ⟨rfl, pw_6⟩ | ⟨rfl, pw_6⟩
        · skip
          replace pw_6 := (in0 (m := 4) (by decide) (by decide)).mp pw_6
          refine lv_if_eq (tgt := 32) hx hb d_M_row_25 (by decide) (fun c_7 => ?_) (fun c_7 => ?_)
          · skip
            exact absurd c_7 (by decide)
          · skip
            refine lv_iconst (v := 1) hx hb d_M_row_28 (by decide) ?_
            refine lv_goto (tgt := 33) hx hb d_M_row_29 (by decide) ?_
            refine lv_istore (lv' := [(4, .int 1), (0, .ref (b 40)), (1, .int (nI j_1)), (2, .int i), (3, .int what)]) hx hb d_M_row_33 hl (by decide) rfl (fun ls hl => ?_)
            refine lv_aload_n hx hb d_M_row_35 rfl (lv_at hl 1 rfl) ?_
            refine lv_iload hx hb d_M_row_36 (lv_at hl 0 rfl) ?_
            refine lv_if_eq (tgt := 66) hx hb d_M_row_38 (by decide) (fun c_8 => ?_) (fun c_8 => ?_)
            · skip
              exact absurd c_8 (by decide)
            · skip
              refine lv_iload_n hx hb d_M_row_41 rfl (lv_at hl 3 rfl) ?_
              refine lv_iconst (v := 0) hx hb d_M_row_42 (by decide) ?_
              refine lv_aload_n hx hb d_M_row_43 rfl (lv_at hl 1 rfl) ?_
              refine fr_get (ci := 5) (Cn := hR_5) (T := hF_5) (N := 34) hx hb hT hi_5 hown hK hE (0, 40) rfl m0 rfl 20 (by decide) (hT _ kw_494) (fun _ h9 => h9) rfl d_M_row_44 ?_
              refine lv_aload_n hx hb d_M_row_47 rfl (lv_at hl 1 rfl) ?_
              refine fr_get (ci := 5) (Cn := hR_5) (T := hF_5) (N := 34) hx hb hT hi_5 hown hK hE (0, 40) rfl m0 rfl 31 (by decide) (hT _ kw_505) (fun _ h9 => h9) rfl d_M_row_48 ?_
              refine lv_iload_n hx hb d_M_row_51 rfl (lv_at hl 2 rfl) ?_
              refine fr_iald hx hb hK hE (0, 71) 0 rfl m31 rfl j_1 (rfl) (by omega) (by decide) d_M_row_52 ?_
              refine lv_topi (fun y_9 ey_9 => ?_)
              obtain rfl : y_9 = nI j_2 := ey_9.trans (e_2)
              refine fr_iald hx hb hK hE (0, 60) 0 rfl m20 rfl j_2 (rfl) (by omega) (by decide) d_M_row_53 ?_
              refine lv_topi (fun y_10 ey_10 => ?_)
              obtain rfl : y_10 = nI k_2 := ey_10.trans (e_3)
              refine lv_iconst (v := 1) hx hb d_M_row_54 (by decide) ?_
              refine lv_isub hx hb d_M_row_55 ?_
              refine fr_calli (va_runS (As := [.int i, .int 0, .int ((nI k_2) - 1)]) (rest := [.ref (b 40)]) ⟨hx, hb, hml, hown, hts⟩ (c_M_in l hE i 0 (nI k_2 - 1)) (va_cwS 3 hts (hw_goodS kw_585 kw_586 kw_26 kw_587) rfl rfl rfl (by decide +kernel) ⟨Nat.le_of_ble_eq_true rfl, Nat.le_of_ble_eq_true rfl⟩) ⟨fr_blind, fr_pre hE hK⟩ rfl rfl hl.1 rfl (lv_room (Nat.le_of_ble_eq_true rfl)) d_M_row_56 ⟨Nat.le_of_ble_eq_true rfl, Nat.le_of_ble_eq_true rfl⟩) hS (fun r_11 u_11 H locs w_11 hE hS => ?_)
              rcases w_11 with ⟨rfl, pw_11⟩ | ⟨rfl, pw_11⟩
              · skip
                replace pw_11 := (in0 (m := k_2) (nI_m1 (by omega)) (by omega)).mp pw_11
                obtain ⟨x_2, hx_2, rfl⟩ := pw_11
                refine lv_if_eq (tgt := 66) hx hb d_M_row_59 (by decide) (fun c_12 => ?_) (fun c_12 => ?_)
                · skip
                  exact absurd c_12 (by decide)
                · skip
                  refine lv_iconst (v := 0) hx hb d_M_row_62 (by decide) ?_
                  refine lv_goto (tgt := 67) hx hb d_M_row_63 (by decide) ?_
                  refine fr_put (ci := 5) (v := .int 0) (ty := .int) (Cn := hR_5) (T := hF_5) (N := 34) hx hb hT hi_5 hy_5 ho_5 hn_5 hown hK hE hS (0, 40) rfl m0 rfl 0 (by decide) (hT _ kw_474) (fun _ h9 => h9) rfl (by decide +kernel) rfl rfl (Nat.le_of_ble_eq_true rfl) d_M_row_67 (fun H locs hE hS => ?_)
                  refine lv_aload_n hx hb d_M_row_70 rfl (lv_at hl 1 rfl) ?_
                  refine fr_get (ci := 5) (Cn := hR_5) (T := hF_5) (N := 34) hx hb hT hi_5 hown hK hE (0, 40) rfl rfl rfl 0 (by decide) (hT _ kw_474) (fun _ h9 => h9) rfl d_M_row_71 ?_
                  refine lv_if_le (tgt := 79) hx hb d_M_row_74 (by decide) (fun c_13 => ?_) (fun c_13 => ?_)
                  · skip
                    refine lv_aload_n hx hb d_M_row_79 rfl (lv_at hl 1 rfl) ?_
                    refine fr_get (ci := 5) (Cn := hR_5) (T := hF_5) (N := 34) hx hb hT hi_5 hown hK hE (0, 40) rfl rfl rfl 31 (by decide) (hT _ kw_505) (fun _ h9 => h9) rfl d_M_row_80 ?_
                    refine lv_iload_n hx hb d_M_row_83 rfl (lv_at hl 2 rfl) ?_
                    refine fr_iald hx hb hK hE (0, 71) 0 rfl m31 rfl j_1 (rfl) (by omega) (by decide) d_M_row_84 ?_
                    refine lv_topi (fun y_14 ey_14 => ?_)
                    obtain rfl : y_14 = nI j_2 := ey_14.trans (e_2)
                    refine lv_istore (lv' := [(5, .int (nI j_2)), (4, .int 1), (0, .ref (b 40)), (1, .int (nI j_1)), (2, .int (nI x_2)), (3, .int what)]) hx hb d_M_row_85 hl (by decide) rfl (fun ls hl => ?_)
                    refine lv_aload_n hx hb d_M_row_87 rfl (lv_at hl 2 rfl) ?_
                    refine fr_get (ci := 5) (Cn := hR_5) (T := hF_5) (N := 34) hx hb hT hi_5 hown hK hE (0, 40) rfl rfl rfl 21 (by decide) (hT _ kw_495) (fun _ h9 => h9) rfl d_M_row_88 ?_
                    refine lv_iload hx hb d_M_row_91 (lv_at hl 0 rfl) ?_
                    refine fr_iald hx hb hK hE (0, 61) 0 rfl m21 rfl j_2 (rfl) (by omega) (by decide) d_M_row_93 ?_
                    refine lv_topi (fun y_15 ey_15 => ?_)
                    obtain rfl : y_15 = nI a_2 := ey_15.trans (e_4)
                    refine lv_iload_n hx hb d_M_row_94 rfl (lv_at hl 4 rfl) ?_
                    refine lv_iadd hx hb d_M_row_95 ?_
                    refine lv_topi (fun y_16 ey_16 => ?_)
                    obtain rfl : y_16 = nI (a_2 + x_2) := ey_16.trans (nI_add _ _)
                    refine lv_istore (lv' := [(6, .int (nI (a_2 + x_2))), (5, .int (nI j_2)), (4, .int 1), (0, .ref (b 40)), (1, .int (nI j_1)), (2, .int (nI x_2)), (3, .int what)]) hx hb d_M_row_96 hl (by decide) rfl (fun ls hl => ?_)
                    refine lv_iload_n hx hb d_M_row_98 rfl (lv_at hl 6 rfl) ?_
                    refine lv_if_ne (tgt := 112) hx hb d_M_row_99 (by decide) (fun c_17 => ?_) (fun c_17 => ?_)
                    · skip
                      refine lv_iload_n hx hb d_M_row_112 rfl (lv_at hl 6 rfl) ?_
                      refine lv_iconst (v := 1) hx hb d_M_row_113 (by decide) ?_
                      refine lv_icmp_ne (tgt := 127) hx hb d_M_row_114 (by decide) (fun c_18 => ?_) (fun c_18 => ?_)
                      · skip
                        refine lv_iload_n hx hb d_M_row_127 rfl (lv_at hl 6 rfl) ?_
                        refine lv_iconst (v := 2) hx hb d_M_row_128 (by decide) ?_
                        refine lv_icmp_ne (tgt := 150) hx hb d_M_row_129 (by decide) (fun c_19 => ?_) (fun c_19 => ?_)
                        · skip
                          refine lv_aload_n hx hb d_M_row_150 rfl (lv_at hl 3 rfl) ?_
                          refine fr_get (ci := 5) (Cn := hR_5) (T := hF_5) (N := 34) hx hb hT hi_5 hown hK hE (0, 40) rfl rfl rfl 14 (by decide) (hT _ kw_488) (fun _ h9 => h9) rfl d_M_row_151 ?_
                          refine lv_aload_n hx hb d_M_row_154 rfl (lv_at hl 3 rfl) ?_
                          refine fr_get (ci := 5) (Cn := hR_5) (T := hF_5) (N := 34) hx hb hT hi_5 hown hK hE (0, 40) rfl rfl rfl 18 (by decide) (hT _ kw_492) (fun _ h9 => h9) rfl d_M_row_155 ?_
                          refine lv_iload hx hb d_M_row_158 (lv_at hl 1 rfl) ?_
                          refine fr_iald hx hb hK hE (0, 58) 0 rfl m18 rfl j_2 (rfl) (by omega) (by decide) d_M_row_160 ?_
                          refine lv_topi (fun y_20 ey_20 => ?_)
                          obtain rfl : y_20 = nI l_2 := ey_20.trans (e_5)
                          refine fr_iald hx hb hK hE (0, 54) 0 rfl m14 rfl l_2 (rfl) (by omega) (by decide) d_M_row_161 ?_
                          refine W.widen (k := 0) (n := 0) (Nat.le_of_ble_eq_true rfl) (Nat.le_of_ble_eq_true rfl) ?_
                          exact W.iret (v := fo l_2) hx hb hr (fun t9 ht9 hW9 => ⟨⟨fo l_2, 0, rfl, Or.inr ⟨rfl, j_1, j_2, k_2, x_2, l_2, a_2, hj_1, rfl, hj_2, hk_2, e_2, e_3, hx_2, rfl, e_4, e_5, Or.inr (Or.inr (Or.inr ⟨in4_3 pw_6 c_17 c_18 c_19, rfl⟩))⟩, ⟨by rw [ht9]; exact hE, va_K.moved hW9.alike hK⟩⟩, hS.F ht9⟩) hS.2.2 d_M_row_162
                        · skip
                          refine lv_aload_n hx hb d_M_row_132 rfl (lv_at hl 3 rfl) ?_
                          refine fr_get (ci := 5) (Cn := hR_5) (T := hF_5) (N := 34) hx hb hT hi_5 hown hK hE (0, 40) rfl rfl rfl 26 (by decide) (hT _ kw_500) (fun _ h9 => h9) rfl d_M_row_133 ?_
                          refine lv_iload hx hb d_M_row_136 (lv_at hl 0 rfl) ?_
                          refine fr_zald hx hb hK hE (0, 66) 1 rfl m26 rfl (a_2 + x_2) (rfl) (by omega) (by decide) d_M_row_138 ?_
                          refine lv_if_eq (tgt := 146) hx hb d_M_row_139 (by decide) (fun c_21 => ?_) (fun c_21 => ?_)
                          · skip
                            refine lv_iconst (v := 0) hx hb d_M_row_146 (by decide) ?_
                            refine lv_goto (tgt := 162) hx hb d_M_row_147 (by decide) ?_
                            refine W.widen (k := 0) (n := 0) (Nat.le_of_ble_eq_true rfl) (Nat.le_of_ble_eq_true rfl) ?_
                            exact W.iret (v := 0) hx hb hr (fun t9 ht9 hW9 => ⟨⟨0, 0, rfl, Or.inr ⟨rfl, j_1, j_2, k_2, x_2, l_2, a_2, hj_1, rfl, hj_2, hk_2, e_2, e_3, hx_2, rfl, e_4, e_5, Or.inr (Or.inr (Or.inl ⟨c_19, by rw [if_pos c_21]⟩))⟩, ⟨by rw [ht9]; exact hE, va_K.moved hW9.alike hK⟩⟩, hS.F ht9⟩) hS.2.2 d_M_row_162
                          · skip
                            refine lv_iconst (v := 1) hx hb d_M_row_142 (by decide) ?_
                            refine lv_goto (tgt := 162) hx hb d_M_row_143 (by decide) ?_
                            refine W.widen (k := 0) (n := 0) (Nat.le_of_ble_eq_true rfl) (Nat.le_of_ble_eq_true rfl) ?_
                            exact W.iret (v := 1) hx hb hr (fun t9 ht9 hW9 => ⟨⟨1, 0, rfl, Or.inr ⟨rfl, j_1, j_2, k_2, x_2, l_2, a_2, hj_1, rfl, hj_2, hk_2, e_2, e_3, hx_2, rfl, e_4, e_5, Or.inr (Or.inr (Or.inl ⟨c_19, by rw [if_neg c_21]⟩))⟩, ⟨by rw [ht9]; exact hE, va_K.moved hW9.alike hK⟩⟩, hS.F ht9⟩) hS.2.2 d_M_row_162
                      · skip
                        refine lv_aload_n hx hb d_M_row_117 rfl (lv_at hl 3 rfl) ?_
                        refine fr_get (ci := 5) (Cn := hR_5) (T := hF_5) (N := 34) hx hb hT hi_5 hown hK hE (0, 40) rfl rfl rfl 25 (by decide) (hT _ kw_499) (fun _ h9 => h9) rfl d_M_row_118 ?_
                        refine lv_iload hx hb d_M_row_121 (lv_at hl 0 rfl) ?_
                        refine fr_iald hx hb hK hE (0, 65) 0 rfl m25 rfl (a_2 + x_2) (rfl) (by omega) (by decide) d_M_row_123 ?_
                        refine lv_goto (tgt := 162) hx hb d_M_row_124 (by decide) ?_
                        refine W.widen (k := 0) (n := 0) (Nat.le_of_ble_eq_true rfl) (Nat.le_of_ble_eq_true rfl) ?_
                        exact W.iret (v := rd (a_2 + x_2)) hx hb hr (fun t9 ht9 hW9 => ⟨⟨rd (a_2 + x_2), 0, rfl, Or.inr ⟨rfl, j_1, j_2, k_2, x_2, l_2, a_2, hj_1, rfl, hj_2, hk_2, e_2, e_3, hx_2, rfl, e_4, e_5, Or.inr (Or.inl ⟨c_18, rfl⟩)⟩, ⟨by rw [ht9]; exact hE, va_K.moved hW9.alike hK⟩⟩, hS.F ht9⟩) hS.2.2 d_M_row_162
                    · skip
                      refine lv_aload_n hx hb d_M_row_102 rfl (lv_at hl 3 rfl) ?_
                      refine fr_get (ci := 5) (Cn := hR_5) (T := hF_5) (N := 34) hx hb hT hi_5 hown hK hE (0, 40) rfl rfl rfl 24 (by decide) (hT _ kw_498) (fun _ h9 => h9) rfl d_M_row_103 ?_
                      refine lv_iload hx hb d_M_row_106 (lv_at hl 0 rfl) ?_
                      refine fr_iald hx hb hK hE (0, 64) 0 rfl m24 rfl (a_2 + x_2) (rfl) (by omega) (by decide) d_M_row_108 ?_
                      refine lv_goto (tgt := 162) hx hb d_M_row_109 (by decide) ?_
                      refine W.widen (k := 0) (n := 0) (Nat.le_of_ble_eq_true rfl) (Nat.le_of_ble_eq_true rfl) ?_
                      exact W.iret (v := rr (a_2 + x_2)) hx hb hr (fun t9 ht9 hW9 => ⟨⟨rr (a_2 + x_2), 0, rfl, Or.inr ⟨rfl, j_1, j_2, k_2, x_2, l_2, a_2, hj_1, rfl, hj_2, hk_2, e_2, e_3, hx_2, rfl, e_4, e_5, Or.inl ⟨c_17, rfl⟩⟩, ⟨by rw [ht9]; exact hE, va_K.moved hW9.alike hK⟩⟩, hS.F ht9⟩) hS.2.2 d_M_row_162
                  · skip
                    exact absurd c_13 (by decide)
              · skip
                replace pw_11 := fun q => pw_11 ((in0 (m := k_2) (nI_m1 (by omega)) (by omega)).mpr q)
                refine lv_if_eq (tgt := 66) hx hb d_M_row_59 (by decide) (fun c_22 => ?_) (fun c_22 => ?_)
                · skip
                  refine lv_iconst (v := 1) hx hb d_M_row_66 (by decide) ?_
                  refine fr_put (ci := 5) (v := .int 1) (ty := .int) (Cn := hR_5) (T := hF_5) (N := 34) hx hb hT hi_5 hy_5 ho_5 hn_5 hown hK hE hS (0, 40) rfl m0 rfl 0 (by decide) (hT _ kw_474) (fun _ h9 => h9) rfl (by decide +kernel) rfl rfl (Nat.le_of_ble_eq_true rfl) d_M_row_67 (fun H locs hE hS => ?_)
                  refine lv_aload_n hx hb d_M_row_70 rfl (lv_at hl 1 rfl) ?_
                  refine fr_get (ci := 5) (Cn := hR_5) (T := hF_5) (N := 34) hx hb hT hi_5 hown hK hE (0, 40) rfl rfl rfl 0 (by decide) (hT _ kw_474) (fun _ h9 => h9) rfl d_M_row_71 ?_
                  refine lv_if_le (tgt := 79) hx hb d_M_row_74 (by decide) (fun c_23 => ?_) (fun c_23 => ?_)
                  · skip
                    exact absurd c_23 (by decide)
                  · skip
                    refine lv_iconst (v := 0) hx hb d_M_row_77 (by decide) ?_
                    refine W.widen (k := 0) (n := 0) (Nat.le_of_ble_eq_true rfl) (Nat.le_of_ble_eq_true rfl) ?_
                    exact W.iret (v := 0) hx hb hr (fun t9 ht9 hW9 => ⟨⟨0, 1, rfl, Or.inl ⟨rfl, rfl, Or.inr ⟨j_1, hj_1, rfl, Or.inr ⟨j_2, k_2, hj_2, hk_2, e_2, e_3, Or.inr pw_11⟩⟩⟩, ⟨by rw [ht9]; exact hE, va_K.moved hW9.alike hK⟩⟩, hS.F ht9⟩) hS.2.2 d_M_row_78
                · skip
                  exact absurd c_22 (by decide)
        · skip
          replace pw_6 := fun q => pw_6 ((in0 (m := 4) (by decide) (by decide)).mpr q)
          refine lv_if_eq (tgt := 32) hx hb d_M_row_25 (by decide) (fun c_24 => ?_) (fun c_24 => ?_)
          · skip
            refine lv_iconst (v := 0) hx hb d_M_row_32 (by decide) ?_
            refine lv_istore (lv' := [(4, .int 0), (0, .ref (b 40)), (1, .int (nI j_1)), (2, .int i), (3, .int what)]) hx hb d_M_row_33 hl (by decide) rfl (fun ls hl => ?_)
            refine lv_aload_n hx hb d_M_row_35 rfl (lv_at hl 1 rfl) ?_
            refine lv_iload hx hb d_M_row_36 (lv_at hl 0 rfl) ?_
            refine lv_if_eq (tgt := 66) hx hb d_M_row_38 (by decide) (fun c_25 => ?_) (fun c_25 => ?_)
            · skip
              refine lv_iconst (v := 1) hx hb d_M_row_66 (by decide) ?_
              refine fr_put (ci := 5) (v := .int 1) (ty := .int) (Cn := hR_5) (T := hF_5) (N := 34) hx hb hT hi_5 hy_5 ho_5 hn_5 hown hK hE hS (0, 40) rfl m0 rfl 0 (by decide) (hT _ kw_474) (fun _ h9 => h9) rfl (by decide +kernel) rfl rfl (Nat.le_of_ble_eq_true rfl) d_M_row_67 (fun H locs hE hS => ?_)
              refine lv_aload_n hx hb d_M_row_70 rfl (lv_at hl 1 rfl) ?_
              refine fr_get (ci := 5) (Cn := hR_5) (T := hF_5) (N := 34) hx hb hT hi_5 hown hK hE (0, 40) rfl rfl rfl 0 (by decide) (hT _ kw_474) (fun _ h9 => h9) rfl d_M_row_71 ?_
              refine lv_if_le (tgt := 79) hx hb d_M_row_74 (by decide) (fun c_26 => ?_) (fun c_26 => ?_)
              · skip
                exact absurd c_26 (by decide)
              · skip
                refine lv_iconst (v := 0) hx hb d_M_row_77 (by decide) ?_
                refine W.widen (k := 0) (n := 0) (Nat.le_of_ble_eq_true rfl) (Nat.le_of_ble_eq_true rfl) ?_
                exact W.iret (v := 0) hx hb hr (fun t9 ht9 hW9 => ⟨⟨0, 1, rfl, Or.inl ⟨rfl, rfl, Or.inr ⟨j_1, hj_1, rfl, Or.inr ⟨j_2, k_2, hj_2, hk_2, e_2, e_3, Or.inl pw_6⟩⟩⟩, ⟨by rw [ht9]; exact hE, va_K.moved hW9.alike hK⟩⟩, hS.F ht9⟩) hS.2.2 d_M_row_78
            · skip
              exact absurd c_25 (by decide)
          · skip
            exact absurd c_24 (by decide)
  · skip
    replace pw_1 := fun q => pw_1 ((in0 (m := 10) (by decide) (by decide)).mpr q)
    refine lv_if_eq (tgt := 32) hx hb d_M_row_7 (by decide) (fun c_27 => ?_) (fun c_27 => ?_)
    · skip
      refine lv_iconst (v := 0) hx hb d_M_row_32 (by decide) ?_
      refine lv_istore (lv' := [(4, .int 0), (0, .ref (b 40)), (1, .int h), (2, .int i), (3, .int what)]) hx hb d_M_row_33 hl (by decide) rfl (fun ls hl => ?_)
      refine lv_aload_n hx hb d_M_row_35 rfl (lv_at hl 1 rfl) ?_
      refine lv_iload hx hb d_M_row_36 (lv_at hl 0 rfl) ?_
      refine lv_if_eq (tgt := 66) hx hb d_M_row_38 (by decide) (fun c_28 => ?_) (fun c_28 => ?_)
      · skip
        refine lv_iconst (v := 1) hx hb d_M_row_66 (by decide) ?_
        refine fr_put (ci := 5) (v := .int 1) (ty := .int) (Cn := hR_5) (T := hF_5) (N := 34) hx hb hT hi_5 hy_5 ho_5 hn_5 hown hK hE hS (0, 40) rfl m0 rfl 0 (by decide) (hT _ kw_474) (fun _ h9 => h9) rfl (by decide +kernel) rfl rfl (Nat.le_of_ble_eq_true rfl) d_M_row_67 (fun H locs hE hS => ?_)
        refine lv_aload_n hx hb d_M_row_70 rfl (lv_at hl 1 rfl) ?_
        refine fr_get (ci := 5) (Cn := hR_5) (T := hF_5) (N := 34) hx hb hT hi_5 hown hK hE (0, 40) rfl rfl rfl 0 (by decide) (hT _ kw_474) (fun _ h9 => h9) rfl d_M_row_71 ?_
        refine lv_if_le (tgt := 79) hx hb d_M_row_74 (by decide) (fun c_29 => ?_) (fun c_29 => ?_)
        · skip
          exact absurd c_29 (by decide)
        · skip
          refine lv_iconst (v := 0) hx hb d_M_row_77 (by decide) ?_
          refine W.widen (k := 0) (n := 0) (Nat.le_of_ble_eq_true rfl) (Nat.le_of_ble_eq_true rfl) ?_
          exact W.iret (v := 0) hx hb hr (fun t9 ht9 hW9 => ⟨⟨0, 1, rfl, Or.inl ⟨rfl, rfl, Or.inl pw_1⟩, ⟨by rw [ht9]; exact hE, va_K.moved hW9.alike hK⟩⟩, hS.F ht9⟩) hS.2.2 d_M_row_78
      · skip
        exact absurd c_28 (by decide)
    · skip
      exact absurd c_27 (by decide)
set_option maxHeartbeats 4000000 in
set_option maxRecDepth 100000 in
theorem c_M_list (l : Launch) {D : va_G} {z : Nat} {b : Nat → Nat} {C : fr_C} {H9 : Heap} (h9 : fr_W D hCl z b C H9) {cI cZ cJ cP cO : ClassId} {th : Int32} {pg gr lf an n lc ps rw tk po : Nat} {st : Nat → Int32} {dy : Nat → Int32} {dl : Nat → Int32} {ac : Nat → Int32} {hd : Nat → Int32} {mn : Nat → Int32} {si : Nat → Int32} {fo : Nat → Int32} {ol : Nat → Int32} {li : Nat → Int32} {pl : Nat → Int32} {pf : Nat → Int32} {pr : Nat → Int32} {pa : Nat → Int32} {pt : Nat → Int32} {rr : Nat → Int32} {rd : Nat → Int32} {rg : Nat → Int32} {tp : Nat → Int32} {md : Nat → Int32} {le : Nat → Int32} {aw : Nat → Int32} {cs : Nat → Int32} (m0 : C (0, 40) = some (.inr (5, fM b th pg gr lf an n lc ps rw tk po))) (m6 : C (0, 46) = some (.inl (cI, 150, .inl st))) (m7 : C (0, 47) = some (.inl (cI, 150, .inl dy))) (m8 : C (0, 48) = some (.inl (cZ, 150, .inl dl))) (m9 : C (0, 49) = some (.inl (cI, 150, .inl ac))) (m10 : C (0, 50) = some (.inl (cZ, 6, .inl hd))) (m12 : C (0, 52) = some (.inl (cI, 30, .inl mn))) (m13 : C (0, 53) = some (.inl (cI, 30, .inl si))) (m14 : C (0, 54) = some (.inl (cI, 30, .inl fo))) (m15 : C (0, 55) = some (.inl (cI, 30, .inl ol))) (m16 : C (0, 56) = some (.inl (cI, 4500, .inl li))) (m18 : C (0, 58) = some (.inl (cI, 4600, .inl pl))) (m19 : C (0, 59) = some (.inl (cI, 4600, .inl pf))) (m20 : C (0, 60) = some (.inl (cI, 4600, .inl pr))) (m21 : C (0, 61) = some (.inl (cI, 4600, .inl pa))) (m22 : C (0, 62) = some (.inl (cI, 4600, .inl pt))) (m24 : C (0, 64) = some (.inl (cI, 4500, .inl rr))) (m25 : C (0, 65) = some (.inl (cI, 4500, .inl rd))) (m26 : C (0, 66) = some (.inl (cZ, 4500, .inl rg))) (m28 : C (0, 68) = some (.inl (cI, 4600, .inl tp))) (m29 : C (0, 69) = some (.inl (cI, 4600, .inl md))) (m30 : C (0, 70) = some (.inl (cI, 4600, .inl le))) (m31 : C (0, 71) = some (.inl (cI, 10, .inl aw))) (m32 : C (0, 72) = some (.inl (cI, 10, .inl cs))) (hn : n ≤ 150) (hg : 1 ≤ gr ∧ gr ≤ 100) (hlc : lc ≤ 30) (hps : ps < 4600) (htk : tk < 4600) (hpg : pg ≤ 50) (hrw : rw ≤ 150 * lc) (hdl : ∀ j, vp_nar .boolean (dl j) = dl j) (h f fr to of t : Int32) : Met l y_M_list w_M_list ({ frames := 3, cells := 0, slots := 0, locals := 70 }) (va_Pc [.ref (b 40), .int h, .int f, .int fr, .int to, .int of, .int t] (fr_G D hCl (hTy cI cZ cJ cP cO) z b C)) (va_Qi (fun (r : Int32) (u : fr_C) => (lsErr gr lc (gaF (selB fr to of dy st) dy n).2 hd h f fr to of t r ∧ u = fr_up C (0, 40) (.inr (5, fM b 0 pg gr lf an n lc ps rw tk po))) ∨ (lsOk gr lc (gaF (selB fr to of dy st) dy n).2 hd h f fr to of t ∧ ∃ (hh : Nat) (li' : Nat → Int32) (Q : fr_C × (Nat → Int32) × (Nat → Int32) × (Nat → Int32)), hh < 10 ∧ h = nI hh ∧ ((∀ j, j < (gaF (selB fr to of dy st) dy n).2 → li' (150 * lc + j) = nI ((gaF (selB fr to of dy st) dy n).1 j)) ∧ ∀ i, i < 150 * lc → li' i = li i) ∧ mPage (mLs C cI b pg gr lf an n lc ps rw tk po li' mn si fo ol (gaF (selB fr to of dy st) dy n).2 f h) Q.1 cI cZ b 0 pg gr lf an n (lc + 1) ps rw tk po pl pf pr pa pt rr rd rg tp md le dy dl lc 0 t (if pg < (gaF (selB fr to of dy st) dy n).2 then pg else (gaF (selB fr to of dy st) dy n).2) (kp (keepB ac (upd si lc (nI an) lc)) (gaF (selB fr to of dy st) dy n).1 0 (if pg < (gaF (selB fr to of dy st) dy n).2 then pg else (gaF (selB fr to of dy st) dy n).2)) (0 + (if pg < (gaF (selB fr to of dy st) dy n).2 then pg else (gaF (selB fr to of dy st) dy n).2) < (gaF (selB fr to of dy st) dy n).2) Q.2.1 Q.2.2.1 Q.2.2.2 ∧ r = nI (kp (keepB ac (upd si lc (nI an) lc)) (gaF (selB fr to of dy st) dy n).1 0 (if pg < (gaF (selB fr to of dy st) dy n).2 then pg else (gaF (selB fr to of dy st) dy n).2)).length ∧ u = mAns Q.1 cI aw cs (upd pr ps (nI (kp (keepB ac (upd si lc (nI an) lc)) (gaF (selB fr to of dy st) dy n).1 0 (if pg < (gaF (selB fr to of dy st) dy n).2 then pg else (gaF (selB fr to of dy st) dy n).2)).length)) hh ps)) (fun u t => fr_G D hCl (hTy cI cZ cJ cP cO) z ((fun _ => b) u) ((fun u => u) u) t) (fr_A z)) 0 0 (fr_A z) := by
  refine Met.ofW (cc := b_M_list) (maxL := 9) (ret := (some .int)) (by decide) rfl ?_
  intro p e s m args below meth c s₁ B hml hv
  obtain ⟨rfl, hE, hK⟩ := hv
  have hx := B.exec
  have hb := B.bytes
  have hr := B.returns
  have hts := atoms_spec (ws := w_M_list) B.pre
  have hT : ∀ w ∈ hw_tbl, w.before _ s = true := fun w h => hts w (List.mem_cons_of_mem _ h)
  have hown : s.vm.findClass "HarvestStepsModel" = some m.cls := findClass_of_methodNamed B.named
  have hlocks := B.notSynchronized
  have hS : va_S (fr_A z) s.heap s.heap [] := va_S.rf
  have hl := lv_entry ([.ref (b 40), .int h, .int f, .int fr, .int to, .int of, .int t]) (n := 9) (Nat.le_of_ble_eq_true rfl)
  rw [lg_entry_eq]
  generalize (lg_sl ([.ref (b 40), .int h, .int f, .int fr, .int to, .int of, .int t]) ++ List.replicate (9 - (lg_sl ([.ref (b 40), .int h, .int f, .int fr, .int to, .int of, .int t])).length) Slot.unset).toArray = ls at hl ⊢
  have hl : lv_has ls 9 [(0, .ref (b 40)), (1, .int h), (2, .int f), (3, .int fr), (4, .int to), (5, .int of), (6, .int t)] := hl
  refine lv_aload_n hx hb d_M_list_0 rfl (lv_at hl 0 rfl) ?_
  refine lv_iconst (v := 0) hx hb d_M_list_1 (by decide) ?_
  refine fr_put (ci := 5) (v := .int 0) (ty := .int) (Cn := hR_5) (T := hF_5) (N := 34) hx hb hT hi_5 hy_5 ho_5 hn_5 hown hK hE hS (0, 40) rfl m0 rfl 0 (by decide) (hT _ kw_474) (fun _ h9 => h9) rfl (by decide +kernel) rfl rfl (Nat.le_of_ble_eq_true rfl) d_M_list_2 (fun H locs hE hS => ?_)
  refine lv_iload_n hx hb d_M_list_5 rfl (lv_at hl 1 rfl) ?_
  refine lv_iconst (v := 0) hx hb d_M_list_6 (by decide) ?_
  refine lv_bipush (v := 9) hx hb d_M_list_7 (by decide) ?_
  refine fr_calli (va_runS (As := [.int h, .int 0, .int 9]) (rest := []) ⟨hx, hb, hml, hown, hts⟩ (c_M_in l hE h 0 9) (va_cwS 3 hts (hw_goodS kw_585 kw_586 kw_26 kw_587) rfl rfl rfl (by decide +kernel) ⟨Nat.le_of_ble_eq_true rfl, Nat.le_of_ble_eq_true rfl⟩) ⟨fr_blind, fr_pre hE hK⟩ rfl rfl hl.1 rfl (lv_room (Nat.le_of_ble_eq_true rfl)) d_M_list_9 ⟨Nat.le_of_ble_eq_true rfl, Nat.le_of_ble_eq_true rfl⟩) hS (fun r_1 u_1 H locs w_1 hE hS => ?_)
  rcases w_1 with ⟨rfl, pw_1⟩ | ⟨rfl, pw_1⟩
  · skip
    replace pw_1 := (in0 (m := 10) (by decide) (by decide)).mp pw_1
    obtain ⟨j_1, hj_1, rfl⟩ := pw_1
    refine lv_if_ne (tgt := 17) hx hb d_M_list_12 (by decide) (fun c_2 => ?_) (fun c_2 => ?_)
    · skip
      refine lv_iload hx hb d_M_list_17 (lv_at hl 6 rfl) ?_
      refine lv_iconst (v := 0) hx hb d_M_list_19 (by decide) ?_
      refine lv_ldc (v := 1000000000) hx hb hown (hT _ kw_616) d_M_list_20 ?_
      refine fr_calli (va_runS (As := [.int t, .int 0, .int 1000000000]) (rest := []) ⟨hx, hb, hml, hown, hts⟩ (c_M_in l hE t 0 1000000000) (va_cwS 3 hts (hw_goodS kw_585 kw_586 kw_26 kw_587) rfl rfl rfl (by decide +kernel) ⟨Nat.le_of_ble_eq_true rfl, Nat.le_of_ble_eq_true rfl⟩) ⟨fr_blind, fr_pre hE hK⟩ rfl rfl hl.1 rfl (lv_room (Nat.le_of_ble_eq_true rfl)) d_M_list_22 ⟨Nat.le_of_ble_eq_true rfl, Nat.le_of_ble_eq_true rfl⟩) hS (fun r_3 u_3 H locs w_3 hE hS => ?_)
      rcases w_3 with ⟨rfl, pw_3⟩ | ⟨rfl, pw_3⟩
      · skip
        replace pw_3 := (in0 (m := 1000000001) (by decide) (by decide)).mp pw_3
        refine lv_if_ne (tgt := 31) hx hb d_M_list_25 (by decide) (fun c_4 => ?_) (fun c_4 => ?_)
        · skip
          refine lv_aload_n hx hb d_M_list_31 rfl (lv_at hl 0 rfl) ?_
          refine lv_iload_n hx hb d_M_list_32 rfl (lv_at hl 3 rfl) ?_
          refine fr_calli (va_runV (As := [.int fr]) (rest := []) ⟨hx, hb, hml, hown, hts⟩ (c_M_isDay l hE (pg := pg) (gr := gr) (lf := lf) (an := an) (n := n) (lc := lc) (ps := ps) (rw := rw) (tk := tk) (po := po) rfl hg fr) (cwV 1 hts (hw_goodV kw_588 kw_590 kw_13 kw_26 kw_591) rfl rfl rfl (by decide +kernel) ⟨Nat.le_of_ble_eq_true rfl, Nat.le_of_ble_eq_true rfl⟩) ⟨fr_blind, fr_recv hK hE (0, 40) rfl rfl (ci := 5) rfl, fr_pre hE hK⟩ rfl rfl hl.1 rfl (lv_room (Nat.le_of_ble_eq_true rfl)) d_M_list_33 ⟨Nat.le_of_ble_eq_true rfl, Nat.le_of_ble_eq_true rfl⟩) hS (fun r_5 u_5 H locs w_5 hE hS => ?_)
          rcases w_5 with ⟨rfl, pw_5⟩ | ⟨rfl, pw_5⟩
          · skip
            refine lv_if_eq (tgt := 54) hx hb d_M_list_36 (by decide) (fun c_6 => ?_) (fun c_6 => ?_)
            · skip
              exact absurd c_6 (by decide)
            · skip
              refine lv_aload_n hx hb d_M_list_39 rfl (lv_at hl 0 rfl) ?_
              refine lv_iload hx hb d_M_list_40 (lv_at hl 4 rfl) ?_
              refine fr_calli (va_runV (As := [.int to]) (rest := []) ⟨hx, hb, hml, hown, hts⟩ (c_M_isDay l hE (pg := pg) (gr := gr) (lf := lf) (an := an) (n := n) (lc := lc) (ps := ps) (rw := rw) (tk := tk) (po := po) rfl hg to) (cwV 1 hts (hw_goodV kw_588 kw_590 kw_13 kw_26 kw_591) rfl rfl rfl (by decide +kernel) ⟨Nat.le_of_ble_eq_true rfl, Nat.le_of_ble_eq_true rfl⟩) ⟨fr_blind, fr_recv hK hE (0, 40) rfl rfl (ci := 5) rfl, fr_pre hE hK⟩ rfl rfl hl.1 rfl (lv_room (Nat.le_of_ble_eq_true rfl)) d_M_list_42 ⟨Nat.le_of_ble_eq_true rfl, Nat.le_of_ble_eq_true rfl⟩) hS (fun r_7 u_7 H locs w_7 hE hS => ?_)
              rcases w_7 with ⟨rfl, pw_7⟩ | ⟨rfl, pw_7⟩
              · skip
                refine lv_if_eq (tgt := 54) hx hb d_M_list_45 (by decide) (fun c_8 => ?_) (fun c_8 => ?_)
                · skip
                  exact absurd c_8 (by decide)
                · skip
                  refine lv_iload_n hx hb d_M_list_48 rfl (lv_at hl 3 rfl) ?_
                  refine lv_iload hx hb d_M_list_49 (lv_at hl 4 rfl) ?_
                  refine lv_icmp_le (tgt := 57) hx hb d_M_list_51 (by decide) (fun c_9 => ?_) (fun c_9 => ?_)
                  · skip
                    refine lv_aload_n hx hb d_M_list_57 rfl (lv_at hl 0 rfl) ?_
                    refine lv_iload_n hx hb d_M_list_58 rfl (lv_at hl 2 rfl) ?_
                    refine fr_calli (va_runV (As := [.int f]) (rest := []) ⟨hx, hb, hml, hown, hts⟩ (c_M_isHeld l hE (pg := pg) (gr := gr) (lf := lf) (an := an) (n := n) (lc := lc) (ps := ps) (rw := rw) (tk := tk) (po := po) rfl m10 f) (cwV 1 hts (hw_goodV kw_617 kw_619 kw_16 kw_26 kw_620) rfl rfl rfl (by decide +kernel) ⟨Nat.le_of_ble_eq_true rfl, Nat.le_of_ble_eq_true rfl⟩) ⟨fr_blind, fr_recv hK hE (0, 40) rfl rfl (ci := 5) rfl, fr_pre hE hK⟩ rfl rfl hl.1 rfl (lv_room (Nat.le_of_ble_eq_true rfl)) d_M_list_59 ⟨Nat.le_of_ble_eq_true rfl, Nat.le_of_ble_eq_true rfl⟩) hS (fun r_10 u_10 H locs w_10 hE hS => ?_)
                    rcases w_10 with ⟨rfl, pw_10⟩ | ⟨rfl, pw_10⟩
                    · skip
                      refine lv_if_ne (tgt := 68) hx hb d_M_list_62 (by decide) (fun c_11 => ?_) (fun c_11 => ?_)
                      · skip
                        refine lv_iload hx hb d_M_list_68 (lv_at hl 5 rfl) ?_
                        refine lv_iconst (v := (-1)) hx hb d_M_list_70 (by decide) ?_
                        refine lv_bipush (v := 9) hx hb d_M_list_71 (by decide) ?_
                        refine fr_calli (va_runS (As := [.int of, .int (-1), .int 9]) (rest := []) ⟨hx, hb, hml, hown, hts⟩ (c_M_in l hE of (-1) 9) (va_cwS 3 hts (hw_goodS kw_585 kw_586 kw_26 kw_587) rfl rfl rfl (by decide +kernel) ⟨Nat.le_of_ble_eq_true rfl, Nat.le_of_ble_eq_true rfl⟩) ⟨fr_blind, fr_pre hE hK⟩ rfl rfl hl.1 rfl (lv_room (Nat.le_of_ble_eq_true rfl)) d_M_list_73 ⟨Nat.le_of_ble_eq_true rfl, Nat.le_of_ble_eq_true rfl⟩) hS (fun r_12 u_12 H locs w_12 hE hS => ?_)
                        rcases w_12 with ⟨rfl, pw_12⟩ | ⟨rfl, pw_12⟩
                        · skip
                          replace pw_12 := (in_okSet).mp pw_12
                          refine lv_if_ne (tgt := 82) hx hb d_M_list_76 (by decide) (fun c_13 => ?_) (fun c_13 => ?_)
                          · skip
                            refine lv_iconst (v := 0) hx hb d_M_list_82 (by decide) ?_
                            refine lv_istore (lv' := [(7, .int 0), (0, .ref (b 40)), (1, .int (nI j_1)), (2, .int f), (3, .int fr), (4, .int to), (5, .int of), (6, .int t)]) hx hb d_M_list_83 hl (by decide) rfl (fun ls hl => ?_)
                            refine lv_iconst (v := 0) hx hb d_M_list_85 (by decide) ?_
                            refine lv_istore (lv' := [(8, .int 0), (7, .int 0), (0, .ref (b 40)), (1, .int (nI j_1)), (2, .int f), (3, .int fr), (4, .int to), (5, .int of), (6, .int t)]) hx hb d_M_list_86 hl (by decide) rfl (fun ls hl => ?_)
                            refine W.widen (k := 0) (n := 0) (Nat.le_of_ble_eq_true rfl) (Nat.le_of_ble_eq_true rfl) ?_
                            have ai0 : (n + 1) + 0 = n + 1 := rfl
                            have ai1 : 0 ≤ n := Nat.zero_le n
                            have ai2 : tells (0 : Int32) (∃ i, i < 0 ∧ (selB fr to of dy st) i = true) := Or.inr ⟨rfl, fun ⟨i, hi, _⟩ => absurd hi (Nat.not_lt_zero i)⟩
                            refine fr_loop (σ := Nat × Int32) (fun n9 x H locs ls => (n9 + x.1 = n + 1) ∧ (x.1 ≤ n) ∧ (tells x.2 (∃ i, i < x.1 ∧ (selB fr to of dy st) i = true)) ∧ fr_W D hCl z b (fr_up C (0, 40) (.inr (5, fM b 0 pg gr lf an n lc ps rw tk po))) H ∧ va_S (fr_A z) s.heap H locs ∧ lv_has ls 9 [(7, .int x.2), (8, .int (nI x.1)), (0, .ref (b 40)), (1, .int (nI j_1)), (2, .int f), (3, .int fr), (4, .int to), (5, .int of), (6, .int t)]) (fun x H locs ls h => by obtain ⟨h1, h2, -⟩ := h; omega) (fun n9 x H locs ls hI ih => ?_) (n + 1) (0, (0 : Int32)) _ _ _ ⟨ai0, ai1, ai2, hE, hS, lv_sub hl [1, 0, 2, 3, 4, 5, 6, 7, 8] rfl⟩
                            obtain ⟨q, a⟩ := x
                            obtain ⟨i0, i1, i2, hE, hS, hl⟩ := hI
                            replace i0 : (n9 + 1) + q = n + 1 := i0
                            replace i1 : q ≤ n := i1
                            replace i2 : tells a (∃ i, i < q ∧ (selB fr to of dy st) i = true) := i2
                            replace hE : fr_W D hCl z b (fr_up C (0, 40) (.inr (5, fM b 0 pg gr lf an n lc ps rw tk po))) H := hE
                            replace hl : lv_has ls 9 [(7, .int a), (8, .int (nI q)), (0, .ref (b 40)), (1, .int (nI j_1)), (2, .int f), (3, .int fr), (4, .int to), (5, .int of), (6, .int t)] := hl
                            refine lv_iload hx hb d_M_list_88 (lv_at hl 1 rfl) ?_
                            refine lv_aload_n hx hb d_M_list_90 rfl (lv_at hl 2 rfl) ?_
                            refine fr_get (ci := 5) (Cn := hR_5) (T := hF_5) (N := 34) hx hb hT hi_5 hown hK hE (0, 40) rfl rfl rfl 5 (by decide) (hT _ kw_479) (fun _ h9 => h9) rfl d_M_list_91 ?_
                            refine lv_icmp_ge (tgt := 148) hx hb d_M_list_94 (by decide) (fun c_14 => ?_) (fun c_14 => ?_)
                            · skip
                              have hqn : q = n := by rcases Nat.lt_or_ge q n with y | y; exact absurd c_14 (nI_ge y (by omega)); omega
                              subst hqn
                              rcases i2 with ⟨rfl, hany⟩ | ⟨rfl, hany⟩
                              · skip
                                have hpos : 0 < (gaF (selB fr to of dy st) dy q).2 := (gaF_any (selB fr to of dy st) dy q).mpr hany
                                refine lv_iload hx hb d_M_list_148 (lv_at hl 0 rfl) ?_
                                refine lv_if_ne (tgt := 156) hx hb d_M_list_150 (by decide) (fun c_15 => ?_) (fun c_15 => ?_)
                                · skip
                                  refine lv_aload_n hx hb d_M_list_156 rfl (lv_at hl 2 rfl) ?_
                                  refine fr_get (ci := 5) (Cn := hR_5) (T := hF_5) (N := 34) hx hb hT hi_5 hown hK hE (0, 40) rfl rfl rfl 11 (by decide) (hT _ kw_485) (fun _ h9 => h9) rfl d_M_list_157 ?_
                                  refine lv_bipush (v := 30) hx hb d_M_list_160 (by decide) ?_
                                  refine lv_icmp_ne (tgt := 168) hx hb d_M_list_162 (by decide) (fun c_16 => ?_) (fun c_16 => ?_)
                                  · skip
                                    have hlt : lc < 30 := by rcases Nat.lt_or_ge lc 30 with y | y; exact y; exact absurd (by rw [show lc = 30 by omega]; rfl) c_16
                                    have hk150 : (gaF (selB fr to of dy st) dy q).2 ≤ 150 := by have := gaF_le (selB fr to of dy st) dy q; omega
                                    refine lv_aload_n hx hb d_M_list_168 rfl (lv_at hl 2 rfl) ?_
                                    refine fr_get (ci := 5) (Cn := hR_5) (T := hF_5) (N := 34) hx hb hT hi_5 hown hK hE (0, 40) rfl rfl rfl 12 (by decide) (hT _ kw_486) (fun _ h9 => h9) rfl d_M_list_169 ?_
                                    refine lv_aload_n hx hb d_M_list_172 rfl (lv_at hl 2 rfl) ?_
                                    refine fr_get (ci := 5) (Cn := hR_5) (T := hF_5) (N := 34) hx hb hT hi_5 hown hK hE (0, 40) rfl rfl rfl 11 (by decide) (hT _ kw_485) (fun _ h9 => h9) rfl d_M_list_173 ?_
                                    refine lv_aload_n hx hb d_M_list_176 rfl (lv_at hl 2 rfl) ?_
                                    refine lv_iload_n hx hb d_M_list_177 rfl (lv_at hl 5 rfl) ?_
                                    refine lv_iload hx hb d_M_list_178 (lv_at hl 6 rfl) ?_
                                    refine lv_iload hx hb d_M_list_180 (lv_at hl 7 rfl) ?_
                                    refine fr_calli (va_runV (As := [.int fr, .int to, .int of]) (rest := [.int (nI lc), .ref (b 52)]) ⟨hx, hb, hml, hown, hts⟩ (c_M_gather l hE (pg := pg) (gr := gr) (lf := lf) (an := an) (n := q) (lc := lc) (ps := ps) (rw := rw) (tk := tk) (po := po) rfl m6 m7 m16 (by omega) hlt fr to of) (cwV 3 hts (hw_goodV kw_621 kw_623 kw_17 kw_26 kw_624) rfl rfl rfl (by decide +kernel) ⟨Nat.le_of_ble_eq_true rfl, Nat.le_of_ble_eq_true rfl⟩) ⟨fr_blind, fr_recv hK hE (0, 40) rfl rfl (ci := 5) rfl, fr_pre hE hK⟩ rfl rfl hl.1 rfl (lv_room (Nat.le_of_ble_eq_true rfl)) d_M_list_182 ⟨Nat.le_of_ble_eq_true rfl, Nat.le_of_ble_eq_true rfl⟩) hS (fun r_17 u_17 H locs w_17 hE hS => ?_)
                                    obtain ⟨rfl, g1, g2⟩ := id w_17
                                    refine fr_iast hx hb hK hE hS (0, 52) 0 rfl m12 rfl lc (rfl) (by omega) (by decide) d_M_list_185 (fun H locs hE hS => ?_)
                                    refine lv_aload_n hx hb d_M_list_186 rfl (lv_at hl 2 rfl) ?_
                                    refine fr_get (ci := 5) (Cn := hR_5) (T := hF_5) (N := 34) hx hb hT hi_5 hown hK hE (0, 40) rfl rfl rfl 13 (by decide) (hT _ kw_487) (fun _ h9 => h9) rfl d_M_list_187 ?_
                                    refine lv_aload_n hx hb d_M_list_190 rfl (lv_at hl 2 rfl) ?_
                                    refine fr_get (ci := 5) (Cn := hR_5) (T := hF_5) (N := 34) hx hb hT hi_5 hown hK hE (0, 40) rfl rfl rfl 11 (by decide) (hT _ kw_485) (fun _ h9 => h9) rfl d_M_list_191 ?_
                                    refine lv_aload_n hx hb d_M_list_194 rfl (lv_at hl 2 rfl) ?_
                                    refine fr_get (ci := 5) (Cn := hR_5) (T := hF_5) (N := 34) hx hb hT hi_5 hown hK hE (0, 40) rfl rfl rfl 4 (by decide) (hT _ kw_478) (fun _ h9 => h9) rfl d_M_list_195 ?_
                                    refine fr_iast hx hb hK hE hS (0, 53) 0 rfl m13 rfl lc (rfl) (by omega) (by decide) d_M_list_198 (fun H locs hE hS => ?_)
                                    refine lv_aload_n hx hb d_M_list_199 rfl (lv_at hl 2 rfl) ?_
                                    refine fr_get (ci := 5) (Cn := hR_5) (T := hF_5) (N := 34) hx hb hT hi_5 hown hK hE (0, 40) rfl rfl rfl 14 (by decide) (hT _ kw_488) (fun _ h9 => h9) rfl d_M_list_200 ?_
                                    refine lv_aload_n hx hb d_M_list_203 rfl (lv_at hl 2 rfl) ?_
                                    refine fr_get (ci := 5) (Cn := hR_5) (T := hF_5) (N := 34) hx hb hT hi_5 hown hK hE (0, 40) rfl rfl rfl 11 (by decide) (hT _ kw_485) (fun _ h9 => h9) rfl d_M_list_204 ?_
                                    refine lv_iload_n hx hb d_M_list_207 rfl (lv_at hl 4 rfl) ?_
                                    refine fr_iast hx hb hK hE hS (0, 54) 0 rfl m14 rfl lc (rfl) (by omega) (by decide) d_M_list_208 (fun H locs hE hS => ?_)
                                    refine lv_aload_n hx hb d_M_list_209 rfl (lv_at hl 2 rfl) ?_
                                    refine fr_get (ci := 5) (Cn := hR_5) (T := hF_5) (N := 34) hx hb hT hi_5 hown hK hE (0, 40) rfl rfl rfl 15 (by decide) (hT _ kw_489) (fun _ h9 => h9) rfl d_M_list_210 ?_
                                    refine lv_aload_n hx hb d_M_list_213 rfl (lv_at hl 2 rfl) ?_
                                    refine fr_get (ci := 5) (Cn := hR_5) (T := hF_5) (N := 34) hx hb hT hi_5 hown hK hE (0, 40) rfl rfl rfl 11 (by decide) (hT _ kw_485) (fun _ h9 => h9) rfl d_M_list_214 ?_
                                    refine lv_iload_n hx hb d_M_list_217 rfl (lv_at hl 3 rfl) ?_
                                    refine fr_iast hx hb hK hE hS (0, 55) 0 rfl m15 rfl lc (rfl) (by omega) (by decide) d_M_list_218 (fun H locs hE hS => ?_)
                                    refine lv_aload_n hx hb d_M_list_219 rfl (lv_at hl 2 rfl) ?_
                                    refine lv_dup hx hb d_M_list_220 rfl ?_
                                    refine fr_get (ci := 5) (Cn := hR_5) (T := hF_5) (N := 34) hx hb hT hi_5 hown hK hE (0, 40) rfl rfl rfl 11 (by decide) (hT _ kw_485) (fun _ h9 => h9) rfl d_M_list_221 ?_
                                    refine lv_iconst (v := 1) hx hb d_M_list_224 (by decide) ?_
                                    refine lv_iadd hx hb d_M_list_225 ?_
                                    refine lv_topi (fun y_18 ey_18 => ?_)
                                    obtain rfl : y_18 = nI (lc + 1) := ey_18.trans (nI_1 lc)
                                    refine fr_put (ci := 5) (v := .int (nI (lc + 1))) (ty := .int) (Cn := hR_5) (T := hF_5) (N := 34) hx hb hT hi_5 hy_5 ho_5 hn_5 hown hK hE hS (0, 40) rfl rfl rfl 11 (by decide) (hT _ kw_485) (fun _ h9 => h9) rfl (by decide +kernel) rfl rfl (Nat.le_of_ble_eq_true rfl) d_M_list_226 (fun H locs hE hS => ?_)
                                    refine lv_aload_n hx hb d_M_list_229 rfl (lv_at hl 2 rfl) ?_
                                    refine lv_iload_n hx hb d_M_list_230 rfl (lv_at hl 3 rfl) ?_
                                    refine lv_aload_n hx hb d_M_list_231 rfl (lv_at hl 2 rfl) ?_
                                    refine lv_aload_n hx hb d_M_list_232 rfl (lv_at hl 2 rfl) ?_
                                    refine fr_get (ci := 5) (Cn := hR_5) (T := hF_5) (N := 34) hx hb hT hi_5 hown hK hE (0, 40) rfl rfl rfl 11 (by decide) (hT _ kw_485) (fun _ h9 => h9) rfl d_M_list_233 ?_
                                    refine lv_iconst (v := 1) hx hb d_M_list_236 (by decide) ?_
                                    refine lv_isub hx hb d_M_list_237 ?_
                                    refine lv_topi (fun y_19 ey_19 => ?_)
                                    obtain rfl : y_19 = nI lc := ey_19.trans (nI_pred lc)
                                    refine lv_iconst (v := 0) hx hb d_M_list_238 (by decide) ?_
                                    refine lv_iload hx hb d_M_list_239 (lv_at hl 8 rfl) ?_
                                    refine fr_calli (va_runV (As := [.int (nI lc), .int 0, .int t]) (rest := [.int (nI j_1), .ref (b 40)]) ⟨hx, hb, hml, hown, hts⟩ (c_M_makePage l hE (th := 0) (pg := pg) (gr := gr) (lf := lf) (an := an) (n := q) (lc := lc + 1) (ps := ps) (rw := rw) (tk := tk) (po := po) rfl m7 m8 m9 rfl rfl rfl m18 m19 m20 m21 m22 m24 m25 m26 m28 m29 m30 lc 0 (gaF (selB fr to of dy st) dy q).2 (if pg < (gaF (selB fr to of dy st) dy q).2 then pg else (gaF (selB fr to of dy st) dy q).2) t (gaF (selB fr to of dy st) dy q).1 (by omega) (by omega) (by omega) (by omega) pk_us (by omega) (Nat.zero_le _) (by rw [Nat.zero_add, Nat.zero_add]) (by split <;> omega) hdl (fun k hk => ⟨g1 k hk, by have := gaF_lt (selB fr to of dy st) dy q k hk; omega⟩)) (cwV 3 hts (hw_goodV kw_625 kw_627 kw_18 kw_26 kw_628) rfl rfl rfl (by decide +kernel) ⟨Nat.le_of_ble_eq_true rfl, Nat.le_of_ble_eq_true rfl⟩) ⟨fr_blind, fr_recv hK hE (0, 40) rfl rfl (ci := 5) rfl, fr_pre hE hK⟩ rfl rfl hl.1 rfl (lv_room (Nat.le_of_ble_eq_true rfl)) d_M_list_241 ⟨Nat.le_of_ble_eq_true rfl, Nat.le_of_ble_eq_true rfl⟩) hS (fun r_20 u_20 H locs w_20 hE hS => ?_)
                                    obtain ⟨rfl, hPg⟩ := id w_20
                                    have z71 : u_20.1 (0, 71) = some (.inl (cI, 10, .inl aw)) := hPg.2.2.2.2.2.2.2.2.2.1.at (by decide) m31
                                    have z72 : u_20.1 (0, 72) = some (.inl (cI, 10, .inl cs)) := hPg.2.2.2.2.2.2.2.2.2.1.at (by decide) m32
                                    obtain ⟨rw9, tk9, po9, z40⟩ : ∃ rw9 tk9 po9, u_20.1 (0, 40) = some (.inr (5, fM b 0 pg gr lf an q (lc + 1) (ps + 1) rw9 tk9 po9)) := by rcases hPg.2.2.2.2.2.2.2.2.2.2 with ⟨_, y, _⟩ | ⟨_, y, _⟩ <;> exact ⟨_, _, _, y⟩
                                    refine fr_calli (va_runV (As := [.int (nI j_1), .int (nI ps)]) (rest := []) ⟨hx, hb, hml, hown, hts⟩ (c_M_answer l hE (th := 0) (pg := pg) (gr := gr) (lf := lf) (an := an) (n := q) (lc := lc + 1) (ps := ps + 1) (rw := rw9) (tk := tk9) (po := po9) z40 hPg.2.2.1 z71 z72 j_1 ps (by omega) (by omega)) (cwV 2 hts (hw_goodV kw_629 kw_631 kw_19 kw_26 kw_632) rfl rfl rfl (by decide +kernel) ⟨Nat.le_of_ble_eq_true rfl, Nat.le_of_ble_eq_true rfl⟩) ⟨fr_blind, fr_recv hK hE (0, 40) rfl z40 (ci := 5) rfl, fr_pre hE hK⟩ rfl rfl hl.1 rfl (lv_room (Nat.le_of_ble_eq_true rfl)) d_M_list_244 ⟨Nat.le_of_ble_eq_true rfl, Nat.le_of_ble_eq_true rfl⟩) hS (fun r_21 u_21 H locs w_21 hE hS => ?_)
                                    obtain rfl : r_21 = nI (kp (keepB ac (upd si lc (nI an) lc)) (gaF (selB fr to of dy st) dy q).1 0 (if pg < (gaF (selB fr to of dy st) dy q).2 then pg else (gaF (selB fr to of dy st) dy q).2)).length := w_21.trans pk_us
                                    refine W.widen (k := 0) (n := 0) (Nat.le_of_ble_eq_true rfl) (Nat.le_of_ble_eq_true rfl) ?_
                                    exact W.iret (v := nI (kp (keepB ac (upd si lc (nI an) lc)) (gaF (selB fr to of dy st) dy q).1 0 (if pg < (gaF (selB fr to of dy st) dy q).2 then pg else (gaF (selB fr to of dy st) dy q).2)).length) hx hb hr (fun t9 ht9 hW9 => ⟨⟨nI (kp (keepB ac (upd si lc (nI an) lc)) (gaF (selB fr to of dy st) dy q).1 0 (if pg < (gaF (selB fr to of dy st) dy q).2 then pg else (gaF (selB fr to of dy st) dy q).2)).length, _, rfl, Or.inr ⟨⟨⟨j_1, hj_1, rfl⟩, pw_3, ⟨pw_5, pw_7, c_9⟩, pw_10, pw_12, hpos, hlt⟩, j_1, u_17, u_20, hj_1, rfl, w_17.2, w_20.2, rfl, rfl⟩, ⟨by rw [ht9]; exact hE, va_K.moved hW9.alike hK⟩⟩, hS.F ht9⟩) hS.2.2 d_M_list_247
                                  · skip
                                    refine lv_bipush (v := (-4)) hx hb d_M_list_165 (by decide) ?_
                                    refine W.widen (k := 0) (n := 0) (Nat.le_of_ble_eq_true rfl) (Nat.le_of_ble_eq_true rfl) ?_
                                    exact W.iret (v := (-4)) hx hb hr (fun t9 ht9 hW9 => ⟨⟨(-4), _, rfl, Or.inl ⟨Or.inr (Or.inr (Or.inr (Or.inr (Or.inr (Or.inr ⟨⟨j_1, hj_1, rfl⟩, pw_3, ⟨pw_5, pw_7, c_9⟩, pw_10, pw_12, hpos, (by have := (nI_eq (a := lc) (b := 30) (by omega) (by decide)).mp c_16; omega), rfl⟩))))), rfl⟩, ⟨by rw [ht9]; exact hE, va_K.moved hW9.alike hK⟩⟩, hS.F ht9⟩) hS.2.2 d_M_list_167
                                · skip
                                  exact absurd c_15 (by decide)
                              · skip
                                have hzer : (gaF (selB fr to of dy st) dy q).2 = 0 := by rcases Nat.eq_zero_or_pos (gaF (selB fr to of dy st) dy q).2 with y | y; exact y; exact absurd ((gaF_any (selB fr to of dy st) dy q).mp y) hany
                                refine lv_iload hx hb d_M_list_148 (lv_at hl 0 rfl) ?_
                                refine lv_if_ne (tgt := 156) hx hb d_M_list_150 (by decide) (fun c_22 => ?_) (fun c_22 => ?_)
                                · skip
                                  exact absurd c_22 (by decide)
                                · skip
                                  refine lv_bipush (v := (-14)) hx hb d_M_list_153 (by decide) ?_
                                  refine W.widen (k := 0) (n := 0) (Nat.le_of_ble_eq_true rfl) (Nat.le_of_ble_eq_true rfl) ?_
                                  exact W.iret (v := (-14)) hx hb hr (fun t9 ht9 hW9 => ⟨⟨(-14), _, rfl, Or.inl ⟨Or.inr (Or.inr (Or.inr (Or.inr (Or.inr (Or.inl ⟨⟨j_1, hj_1, rfl⟩, pw_3, ⟨pw_5, pw_7, c_9⟩, pw_10, pw_12, hzer, rfl⟩))))), rfl⟩, ⟨by rw [ht9]; exact hE, va_K.moved hW9.alike hK⟩⟩, hS.F ht9⟩) hS.2.2 d_M_list_155
                            · skip
                              have hq : q < n := by rcases Nat.lt_or_ge q n with y | y; exact y; exact absurd (nI_le y (by omega)) c_14
                              refine lv_iload hx hb d_M_list_97 (lv_at hl 0 rfl) ?_
                              refine lv_if_ne (tgt := 135) hx hb d_M_list_99 (by decide) (fun c_23 => ?_) (fun c_23 => ?_)
                              · skip
                                refine lv_iconst (v := 1) hx hb d_M_list_135 (by decide) ?_
                                refine lv_goto (tgt := 140) hx hb d_M_list_136 (by decide) ?_
                                refine lv_istore (lv' := [(7, .int 1), (8, .int (nI q)), (0, .ref (b 40)), (1, .int (nI j_1)), (2, .int f), (3, .int fr), (4, .int to), (5, .int of), (6, .int t)]) hx hb d_M_list_140 hl (by decide) rfl (fun ls hl => ?_)
                                refine lv_iinc (v := nI (q + 1)) (lv' := [(8, .int (nI (q + 1))), (7, .int 1), (0, .ref (b 40)), (1, .int (nI j_1)), (2, .int f), (3, .int fr), (4, .int to), (5, .int of), (6, .int t)]) hx hb d_M_list_142 hl (k := 1) rfl (nI_1 q) (by decide) rfl (fun ls hl => ?_)
                                refine lv_goto (tgt := 88) hx hb d_M_list_145 (by decide) ?_
                                have bi0 : n9 + (q + 1) = n + 1 := by omega
                                have bi1 : (q + 1) ≤ n := by omega
                                have bi2 : tells (1 : Int32) (∃ i, i < (q + 1) ∧ (selB fr to of dy st) i = true) := Or.inl ⟨rfl, by rcases i2 with ⟨_, i, hi, hs⟩ | ⟨e, _⟩; exact ⟨i, by omega, hs⟩; exact absurd e c_23⟩
                                exact ih (q + 1, (1 : Int32)) _ _ _ ⟨bi0, bi1, bi2, hE, hS, lv_sub hl [1, 0, 2, 3, 4, 5, 6, 7, 8] rfl⟩
                              · skip
                                refine lv_aload_n hx hb d_M_list_102 rfl (lv_at hl 2 rfl) ?_
                                refine fr_get (ci := 5) (Cn := hR_5) (T := hF_5) (N := 34) hx hb hT hi_5 hown hK hE (0, 40) rfl rfl rfl 7 (by decide) (hT _ kw_481) (fun _ h9 => h9) rfl d_M_list_103 ?_
                                refine lv_iload hx hb d_M_list_106 (lv_at hl 1 rfl) ?_
                                refine fr_iald hx hb hK hE (0, 47) 0 rfl m7 rfl q (rfl) (by omega) (by decide) d_M_list_108 ?_
                                refine lv_iload_n hx hb d_M_list_109 rfl (lv_at hl 5 rfl) ?_
                                refine lv_iload hx hb d_M_list_110 (lv_at hl 6 rfl) ?_
                                refine fr_calli (va_runS (As := [.int (dy q), .int fr, .int to]) (rest := []) ⟨hx, hb, hml, hown, hts⟩ (c_M_in l hE (dy q) fr to) (va_cwS 3 hts (hw_goodS kw_585 kw_586 kw_26 kw_587) rfl rfl rfl (by decide +kernel) ⟨Nat.le_of_ble_eq_true rfl, Nat.le_of_ble_eq_true rfl⟩) ⟨fr_blind, fr_pre hE hK⟩ rfl rfl hl.1 rfl (lv_room (Nat.le_of_ble_eq_true rfl)) d_M_list_112 ⟨Nat.le_of_ble_eq_true rfl, Nat.le_of_ble_eq_true rfl⟩) hS (fun r_24 u_24 H locs w_24 hE hS => ?_)
                                rcases w_24 with ⟨rfl, pw_24⟩ | ⟨rfl, pw_24⟩
                                · skip
                                  refine lv_if_eq (tgt := 139) hx hb d_M_list_115 (by decide) (fun c_25 => ?_) (fun c_25 => ?_)
                                  · skip
                                    exact absurd c_25 (by decide)
                                  · skip
                                    refine lv_iload hx hb d_M_list_118 (lv_at hl 7 rfl) ?_
                                    refine lv_if_lt (tgt := 135) hx hb d_M_list_120 (by decide) (fun c_26 => ?_) (fun c_26 => ?_)
                                    · skip
                                      refine lv_iconst (v := 1) hx hb d_M_list_135 (by decide) ?_
                                      refine lv_goto (tgt := 140) hx hb d_M_list_136 (by decide) ?_
                                      refine lv_istore (lv' := [(7, .int 1), (8, .int (nI q)), (0, .ref (b 40)), (1, .int (nI j_1)), (2, .int f), (3, .int fr), (4, .int to), (5, .int of), (6, .int t)]) hx hb d_M_list_140 hl (by decide) rfl (fun ls hl => ?_)
                                      refine lv_iinc (v := nI (q + 1)) (lv' := [(8, .int (nI (q + 1))), (7, .int 1), (0, .ref (b 40)), (1, .int (nI j_1)), (2, .int f), (3, .int fr), (4, .int to), (5, .int of), (6, .int t)]) hx hb d_M_list_142 hl (k := 1) rfl (nI_1 q) (by decide) rfl (fun ls hl => ?_)
                                      refine lv_goto (tgt := 88) hx hb d_M_list_145 (by decide) ?_
                                      have bi0 : n9 + (q + 1) = n + 1 := by omega
                                      have bi1 : (q + 1) ≤ n := by omega
                                      have bi2 : tells (1 : Int32) (∃ i, i < (q + 1) ∧ (selB fr to of dy st) i = true) := Or.inl ⟨rfl, q, by omega, selB_yes pw_24.1 pw_24.2 (Or.inl c_26)⟩
                                      exact ih (q + 1, (1 : Int32)) _ _ _ ⟨bi0, bi1, bi2, hE, hS, lv_sub hl [1, 0, 2, 3, 4, 5, 6, 7, 8] rfl⟩
                                    · skip
                                      refine lv_aload_n hx hb d_M_list_123 rfl (lv_at hl 2 rfl) ?_
                                      refine fr_get (ci := 5) (Cn := hR_5) (T := hF_5) (N := 34) hx hb hT hi_5 hown hK hE (0, 40) rfl rfl rfl 6 (by decide) (hT _ kw_480) (fun _ h9 => h9) rfl d_M_list_124 ?_
                                      refine lv_iload hx hb d_M_list_127 (lv_at hl 1 rfl) ?_
                                      refine fr_iald hx hb hK hE (0, 46) 0 rfl m6 rfl q (rfl) (by omega) (by decide) d_M_list_129 ?_
                                      refine lv_iload hx hb d_M_list_130 (lv_at hl 7 rfl) ?_
                                      refine lv_icmp_ne (tgt := 139) hx hb d_M_list_132 (by decide) (fun c_27 => ?_) (fun c_27 => ?_)
                                      · skip
                                        refine lv_iconst (v := 0) hx hb d_M_list_139 (by decide) ?_
                                        refine lv_istore (lv' := [(7, .int 0), (8, .int (nI q)), (0, .ref (b 40)), (1, .int (nI j_1)), (2, .int f), (3, .int fr), (4, .int to), (5, .int of), (6, .int t)]) hx hb d_M_list_140 hl (by decide) rfl (fun ls hl => ?_)
                                        refine lv_iinc (v := nI (q + 1)) (lv' := [(8, .int (nI (q + 1))), (7, .int 0), (0, .ref (b 40)), (1, .int (nI j_1)), (2, .int f), (3, .int fr), (4, .int to), (5, .int of), (6, .int t)]) hx hb d_M_list_142 hl (k := 1) rfl (nI_1 q) (by decide) rfl (fun ls hl => ?_)
                                        refine lv_goto (tgt := 88) hx hb d_M_list_145 (by decide) ?_
                                        have ns : (selB fr to of dy st) q = false := selB_n3 c_26 c_27
                                        have bi0 : n9 + (q + 1) = n + 1 := by omega
                                        have bi1 : (q + 1) ≤ n := by omega
                                        have bi2 : tells (0 : Int32) (∃ i, i < (q + 1) ∧ (selB fr to of dy st) i = true) := Or.inr ⟨rfl, fun ⟨i, hi, hs⟩ => by rcases i2 with ⟨e, _⟩ | ⟨_, hn⟩; exact absurd (c_23) (by rw [e]; decide); rcases Nat.lt_or_ge i q with y | y; exact hn ⟨i, y, hs⟩; rw [show i = q by omega, ns] at hs; exact absurd hs (by decide)⟩
                                        exact ih (q + 1, (0 : Int32)) _ _ _ ⟨bi0, bi1, bi2, hE, hS, lv_sub hl [1, 0, 2, 3, 4, 5, 6, 7, 8] rfl⟩
                                      · skip
                                        refine lv_iconst (v := 1) hx hb d_M_list_135 (by decide) ?_
                                        refine lv_goto (tgt := 140) hx hb d_M_list_136 (by decide) ?_
                                        refine lv_istore (lv' := [(7, .int 1), (8, .int (nI q)), (0, .ref (b 40)), (1, .int (nI j_1)), (2, .int f), (3, .int fr), (4, .int to), (5, .int of), (6, .int t)]) hx hb d_M_list_140 hl (by decide) rfl (fun ls hl => ?_)
                                        refine lv_iinc (v := nI (q + 1)) (lv' := [(8, .int (nI (q + 1))), (7, .int 1), (0, .ref (b 40)), (1, .int (nI j_1)), (2, .int f), (3, .int fr), (4, .int to), (5, .int of), (6, .int t)]) hx hb d_M_list_142 hl (k := 1) rfl (nI_1 q) (by decide) rfl (fun ls hl => ?_)
                                        refine lv_goto (tgt := 88) hx hb d_M_list_145 (by decide) ?_
                                        have bi0 : n9 + (q + 1) = n + 1 := by omega
                                        have bi1 : (q + 1) ≤ n := by omega
                                        have bi2 : tells (1 : Int32) (∃ i, i < (q + 1) ∧ (selB fr to of dy st) i = true) := Or.inl ⟨rfl, q, by omega, selB_yes pw_24.1 pw_24.2 (Or.inr c_27)⟩
                                        exact ih (q + 1, (1 : Int32)) _ _ _ ⟨bi0, bi1, bi2, hE, hS, lv_sub hl [1, 0, 2, 3, 4, 5, 6, 7, 8] rfl⟩
                                · skip
                                  refine lv_if_eq (tgt := 139) hx hb d_M_list_115 (by decide) (fun c_28 => ?_) (fun c_28 => ?_)
                                  · skip
                                    refine lv_iconst (v := 0) hx hb d_M_list_139 (by decide) ?_
                                    refine lv_istore (lv' := [(7, .int 0), (8, .int (nI q)), (0, .ref (b 40)), (1, .int (nI j_1)), (2, .int f), (3, .int fr), (4, .int to), (5, .int of), (6, .int t)]) hx hb d_M_list_140 hl (by decide) rfl (fun ls hl => ?_)
                                    refine lv_iinc (v := nI (q + 1)) (lv' := [(8, .int (nI (q + 1))), (7, .int 0), (0, .ref (b 40)), (1, .int (nI j_1)), (2, .int f), (3, .int fr), (4, .int to), (5, .int of), (6, .int t)]) hx hb d_M_list_142 hl (k := 1) rfl (nI_1 q) (by decide) rfl (fun ls hl => ?_)
                                    refine lv_goto (tgt := 88) hx hb d_M_list_145 (by decide) ?_
                                    have ns : (selB fr to of dy st) q = false := by by_cases y1 : fr ≤ dy q; exact selB_n2 (fun y2 => pw_24 ⟨y1, y2⟩); exact selB_n1 y1
                                    have bi0 : n9 + (q + 1) = n + 1 := by omega
                                    have bi1 : (q + 1) ≤ n := by omega
                                    have bi2 : tells (0 : Int32) (∃ i, i < (q + 1) ∧ (selB fr to of dy st) i = true) := Or.inr ⟨rfl, fun ⟨i, hi, hs⟩ => by rcases i2 with ⟨e, _⟩ | ⟨_, hn⟩; exact absurd (c_23) (by rw [e]; decide); rcases Nat.lt_or_ge i q with y | y; exact hn ⟨i, y, hs⟩; rw [show i = q by omega, ns] at hs; exact absurd hs (by decide)⟩
                                    exact ih (q + 1, (0 : Int32)) _ _ _ ⟨bi0, bi1, bi2, hE, hS, lv_sub hl [1, 0, 2, 3, 4, 5, 6, 7, 8] rfl⟩
                                  · skip
                                    exact absurd c_28 (by decide)
                          · skip
                            exact absurd c_13 (by decide)
                        · skip
                          replace pw_12 := fun q => pw_12 ((in_okSet).mpr q)
                          refine lv_if_ne (tgt := 82) hx hb d_M_list_76 (by decide) (fun c_29 => ?_) (fun c_29 => ?_)
                          · skip
                            exact absurd c_29 (by decide)
                          · skip
                            refine lv_bipush (v := (-13)) hx hb d_M_list_79 (by decide) ?_
                            refine W.widen (k := 0) (n := 0) (Nat.le_of_ble_eq_true rfl) (Nat.le_of_ble_eq_true rfl) ?_
                            exact W.iret (v := (-13)) hx hb hr (fun t9 ht9 hW9 => ⟨⟨(-13), _, rfl, Or.inl ⟨Or.inr (Or.inr (Or.inr (Or.inr (Or.inl ⟨⟨j_1, hj_1, rfl⟩, pw_3, ⟨pw_5, pw_7, c_9⟩, pw_10, pw_12, rfl⟩)))), rfl⟩, ⟨by rw [ht9]; exact hE, va_K.moved hW9.alike hK⟩⟩, hS.F ht9⟩) hS.2.2 d_M_list_81
                      · skip
                        exact absurd c_11 (by decide)
                    · skip
                      refine lv_if_ne (tgt := 68) hx hb d_M_list_62 (by decide) (fun c_30 => ?_) (fun c_30 => ?_)
                      · skip
                        exact absurd c_30 (by decide)
                      · skip
                        refine lv_bipush (v := (-12)) hx hb d_M_list_65 (by decide) ?_
                        refine W.widen (k := 0) (n := 0) (Nat.le_of_ble_eq_true rfl) (Nat.le_of_ble_eq_true rfl) ?_
                        exact W.iret (v := (-12)) hx hb hr (fun t9 ht9 hW9 => ⟨⟨(-12), _, rfl, Or.inl ⟨Or.inr (Or.inr (Or.inr (Or.inl ⟨⟨j_1, hj_1, rfl⟩, pw_3, ⟨pw_5, pw_7, c_9⟩, pw_10, rfl⟩))), rfl⟩, ⟨by rw [ht9]; exact hE, va_K.moved hW9.alike hK⟩⟩, hS.F ht9⟩) hS.2.2 d_M_list_67
                  · skip
                    refine lv_bipush (v := (-11)) hx hb d_M_list_54 (by decide) ?_
                    refine W.widen (k := 0) (n := 0) (Nat.le_of_ble_eq_true rfl) (Nat.le_of_ble_eq_true rfl) ?_
                    exact W.iret (v := (-11)) hx hb hr (fun t9 ht9 hW9 => ⟨⟨(-11), _, rfl, Or.inl ⟨Or.inr (Or.inr (Or.inl ⟨⟨j_1, hj_1, rfl⟩, pw_3, fun y => c_9 y.2.2, rfl⟩)), rfl⟩, ⟨by rw [ht9]; exact hE, va_K.moved hW9.alike hK⟩⟩, hS.F ht9⟩) hS.2.2 d_M_list_56
              · skip
                refine lv_if_eq (tgt := 54) hx hb d_M_list_45 (by decide) (fun c_31 => ?_) (fun c_31 => ?_)
                · skip
                  refine lv_bipush (v := (-11)) hx hb d_M_list_54 (by decide) ?_
                  refine W.widen (k := 0) (n := 0) (Nat.le_of_ble_eq_true rfl) (Nat.le_of_ble_eq_true rfl) ?_
                  exact W.iret (v := (-11)) hx hb hr (fun t9 ht9 hW9 => ⟨⟨(-11), _, rfl, Or.inl ⟨Or.inr (Or.inr (Or.inl ⟨⟨j_1, hj_1, rfl⟩, pw_3, fun y => pw_7 y.2.1, rfl⟩)), rfl⟩, ⟨by rw [ht9]; exact hE, va_K.moved hW9.alike hK⟩⟩, hS.F ht9⟩) hS.2.2 d_M_list_56
                · skip
                  exact absurd c_31 (by decide)
          · skip
            refine lv_if_eq (tgt := 54) hx hb d_M_list_36 (by decide) (fun c_32 => ?_) (fun c_32 => ?_)
            · skip
              refine lv_bipush (v := (-11)) hx hb d_M_list_54 (by decide) ?_
              refine W.widen (k := 0) (n := 0) (Nat.le_of_ble_eq_true rfl) (Nat.le_of_ble_eq_true rfl) ?_
              exact W.iret (v := (-11)) hx hb hr (fun t9 ht9 hW9 => ⟨⟨(-11), _, rfl, Or.inl ⟨Or.inr (Or.inr (Or.inl ⟨⟨j_1, hj_1, rfl⟩, pw_3, fun y => pw_5 y.1, rfl⟩)), rfl⟩, ⟨by rw [ht9]; exact hE, va_K.moved hW9.alike hK⟩⟩, hS.F ht9⟩) hS.2.2 d_M_list_56
            · skip
              exact absurd c_32 (by decide)
        · skip
          exact absurd c_4 (by decide)
      · skip
        replace pw_3 := fun q => pw_3 ((in0 (m := 1000000001) (by decide) (by decide)).mpr q)
        refine lv_if_ne (tgt := 31) hx hb d_M_list_25 (by decide) (fun c_33 => ?_) (fun c_33 => ?_)
        · skip
          exact absurd c_33 (by decide)
        · skip
          refine lv_bipush (v := (-2)) hx hb d_M_list_28 (by decide) ?_
          refine W.widen (k := 0) (n := 0) (Nat.le_of_ble_eq_true rfl) (Nat.le_of_ble_eq_true rfl) ?_
          exact W.iret (v := (-2)) hx hb hr (fun t9 ht9 hW9 => ⟨⟨(-2), _, rfl, Or.inl ⟨Or.inr (Or.inl ⟨⟨j_1, hj_1, rfl⟩, pw_3, rfl⟩), rfl⟩, ⟨by rw [ht9]; exact hE, va_K.moved hW9.alike hK⟩⟩, hS.F ht9⟩) hS.2.2 d_M_list_30
    · skip
      exact absurd c_2 (by decide)
  · skip
    replace pw_1 := fun q => pw_1 ((in0 (m := 10) (by decide) (by decide)).mpr q)
    refine lv_if_ne (tgt := 17) hx hb d_M_list_12 (by decide) (fun c_34 => ?_) (fun c_34 => ?_)
    · skip
      exact absurd c_34 (by decide)
    · skip
      refine lv_iconst (v := (-1)) hx hb d_M_list_15 (by decide) ?_
      refine W.widen (k := 0) (n := 0) (Nat.le_of_ble_eq_true rfl) (Nat.le_of_ble_eq_true rfl) ?_
      exact W.iret (v := (-1)) hx hb hr (fun t9 ht9 hW9 => ⟨⟨(-1), _, rfl, Or.inl ⟨Or.inl ⟨pw_1, rfl⟩, rfl⟩, ⟨by rw [ht9]; exact hE, va_K.moved hW9.alike hK⟩⟩, hS.F ht9⟩) hS.2.2 d_M_list_16
end
section
/-- what the reference knows of a token: its page Q, of list L; if it leads nowhere yet: where its page begins -/
def mTok (pg rw j Q L : Nat) (tp pl le pf mn li : Nat → Int32) : Prop := Q < 4600 ∧ L < 30 ∧ tp j = nI Q ∧ pl Q = nI L ∧ (¬ le j < 0 → inN (le j) 4600) ∧ (le j < 0 → ∃ (F mL : Nat) (g : Nat → Nat), pf Q = nI F ∧ mn L = nI mL ∧ mL ≤ 150 ∧ F + pg ≤ mL ∧ rw + (mL - (F + pg)) ≤ 4500 ∧ ∀ k, k < mL → li (150 * L + k) = nI (g k) ∧ g k < 150)
set_option maxHeartbeats 4000000 in
set_option maxRecDepth 100000 in
theorem c_M_resume (l : Launch) {D : va_G} {z : Nat} {b : Nat → Nat} {C : fr_C} {H9 : Heap} (h9 : fr_W D hCl z b C H9) {cI cZ cJ cP cO : ClassId} {th : Int32} {pg gr lf an n lc ps rw tk po : Nat} {dy : Nat → Int32} {dl : Nat → Int32} {ac : Nat → Int32} {mn : Nat → Int32} {si : Nat → Int32} {ol : Nat → Int32} {li : Nat → Int32} {pl : Nat → Int32} {pf : Nat → Int32} {pr : Nat → Int32} {pa : Nat → Int32} {pt : Nat → Int32} {rr : Nat → Int32} {rd : Nat → Int32} {rg : Nat → Int32} {tp : Nat → Int32} {md : Nat → Int32} {le : Nat → Int32} {aw : Nat → Int32} {cs : Nat → Int32} (m0 : C (0, 40) = some (.inr (5, fM b th pg gr lf an n lc ps rw tk po))) (m7 : C (0, 47) = some (.inl (cI, 150, .inl dy))) (m8 : C (0, 48) = some (.inl (cZ, 150, .inl dl))) (m9 : C (0, 49) = some (.inl (cI, 150, .inl ac))) (m12 : C (0, 52) = some (.inl (cI, 30, .inl mn))) (m13 : C (0, 53) = some (.inl (cI, 30, .inl si))) (m15 : C (0, 55) = some (.inl (cI, 30, .inl ol))) (m16 : C (0, 56) = some (.inl (cI, 4500, .inl li))) (m18 : C (0, 58) = some (.inl (cI, 4600, .inl pl))) (m19 : C (0, 59) = some (.inl (cI, 4600, .inl pf))) (m20 : C (0, 60) = some (.inl (cI, 4600, .inl pr))) (m21 : C (0, 61) = some (.inl (cI, 4600, .inl pa))) (m22 : C (0, 62) = some (.inl (cI, 4600, .inl pt))) (m24 : C (0, 64) = some (.inl (cI, 4500, .inl rr))) (m25 : C (0, 65) = some (.inl (cI, 4500, .inl rd))) (m26 : C (0, 66) = some (.inl (cZ, 4500, .inl rg))) (m28 : C (0, 68) = some (.inl (cI, 4600, .inl tp))) (m29 : C (0, 69) = some (.inl (cI, 4600, .inl md))) (m30 : C (0, 70) = some (.inl (cI, 4600, .inl le))) (m31 : C (0, 71) = some (.inl (cI, 10, .inl aw))) (m32 : C (0, 72) = some (.inl (cI, 10, .inl cs))) (hps : ps < 4600) (htk : tk < 4600) (hpg : pg ≤ 50) (hdl : ∀ j, vp_nar .boolean (dl j) = dl j) (htok : ∀ j, j < tk → ∃ Q L : Nat, mTok pg rw j Q L tp pl le pf mn li) (h tok t : Int32) : Met l y_M_resume w_M_resume ({ frames := 3, cells := 0, slots := 0, locals := 70 }) (va_Pc [.ref (b 40), .int h, .int tok, .int t] (fr_G D hCl (hTy cI cZ cJ cP cO) z b C)) (va_Qi (fun (r : Int32) (u : fr_C) => (((¬ inN h 10 ∧ r = -1) ∨ (inN h 10 ∧ ¬ inN t 1000000001 ∧ r = -2) ∨ (inN h 10 ∧ inN t 1000000001 ∧ ¬ inN tok tk ∧ r = -15) ∨ (∃ hh j Q L : Nat, hh < 10 ∧ h = nI hh ∧ inN t 1000000001 ∧ j < tk ∧ tok = nI j ∧ mTok pg rw j Q L tp pl le pf mn li ∧ (¬ ol L = h ∨ ¬ t - md j ≤ nI lf) ∧ r = -15)) ∧ u = fr_up C (0, 40) (.inr (5, fM b 0 pg gr lf an n lc ps rw tk po))) ∨ (∃ hh j Q L : Nat, hh < 10 ∧ h = nI hh ∧ inN t 1000000001 ∧ j < tk ∧ tok = nI j ∧ mTok pg rw j Q L tp pl le pf mn li ∧ ol L = h ∧ t - md j ≤ nI lf ∧ ((∃ R : Nat, R < 4600 ∧ le j = nI R ∧ r = pr R ∧ u = mAns (fr_up C (0, 40) (.inr (5, fM b 0 pg gr lf an n lc ps rw tk po))) cI aw cs pr hh R) ∨ (le j < 0 ∧ ∃ (F mL : Nat) (g : Nat → Nat) (Y : fr_C × (Nat → Int32) × (Nat → Int32) × (Nat → Int32)) (le' : Nat → Int32), pf Q = nI F ∧ mn L = nI mL ∧ mL ≤ 150 ∧ F + pg ≤ mL ∧ (∀ k, k < mL → li (150 * L + k) = nI (g k) ∧ g k < 150) ∧ mPage (fr_up C (0, 40) (.inr (5, fM b 0 pg gr lf an n lc ps rw tk po))) Y.1 cI cZ b 0 pg gr lf an n lc ps rw tk po pl pf pr pa pt rr rd rg tp md le dy dl L (F + pg) t ((if F + pg + pg < mL then F + pg + pg else mL) - (F + pg)) (kp (keepB ac (si L)) g (F + pg) ((if F + pg + pg < mL then F + pg + pg else mL) - (F + pg))) (F + pg + ((if F + pg + pg < mL then F + pg + pg else mL) - (F + pg)) < mL) Y.2.1 Y.2.2.1 Y.2.2.2 ∧ ((F + pg + ((if F + pg + pg < mL then F + pg + pg else mL) - (F + pg)) < mL ∧ le' = upd (upd le tk (-1)) j (nI ps)) ∨ (¬ F + pg + ((if F + pg + pg < mL then F + pg + pg else mL) - (F + pg)) < mL ∧ le' = upd le j (nI ps))) ∧ r = nI (kp (keepB ac (si L)) g (F + pg) ((if F + pg + pg < mL then F + pg + pg else mL) - (F + pg))).length ∧ u = mAns (fr_up Y.1 (0, 70) (.inl (cI, 4600, .inl le'))) cI aw cs (upd pr ps (nI (kp (keepB ac (si L)) g (F + pg) ((if F + pg + pg < mL then F + pg + pg else mL) - (F + pg))).length)) hh ps)))) (fun u t => fr_G D hCl (hTy cI cZ cJ cP cO) z ((fun _ => b) u) ((fun u => u) u) t) (fr_A z)) 0 0 (fr_A z) := by
  refine Met.ofW (cc := b_M_resume) (maxL := 5) (ret := (some .int)) (by decide) rfl ?_
  intro p e s m args below meth c s₁ B hml hv
  obtain ⟨rfl, hE, hK⟩ := hv
  have hx := B.exec
  have hb := B.bytes
  have hr := B.returns
  have hts := atoms_spec (ws := w_M_resume) B.pre
  have hT : ∀ w ∈ hw_tbl, w.before _ s = true := fun w h => hts w (List.mem_cons_of_mem _ h)
  have hown : s.vm.findClass "HarvestStepsModel" = some m.cls := findClass_of_methodNamed B.named
  have hlocks := B.notSynchronized
  have hS : va_S (fr_A z) s.heap s.heap [] := va_S.rf
  have hl := lv_entry ([.ref (b 40), .int h, .int tok, .int t]) (n := 5) (Nat.le_of_ble_eq_true rfl)
  rw [lg_entry_eq]
  generalize (lg_sl ([.ref (b 40), .int h, .int tok, .int t]) ++ List.replicate (5 - (lg_sl ([.ref (b 40), .int h, .int tok, .int t])).length) Slot.unset).toArray = ls at hl ⊢
  have hl : lv_has ls 5 [(0, .ref (b 40)), (1, .int h), (2, .int tok), (3, .int t)] := hl
  refine lv_aload_n hx hb d_M_resume_0 rfl (lv_at hl 0 rfl) ?_
  refine lv_iconst (v := 0) hx hb d_M_resume_1 (by decide) ?_
  refine fr_put (ci := 5) (v := .int 0) (ty := .int) (Cn := hR_5) (T := hF_5) (N := 34) hx hb hT hi_5 hy_5 ho_5 hn_5 hown hK hE hS (0, 40) rfl m0 rfl 0 (by decide) (hT _ kw_474) (fun _ h9 => h9) rfl (by decide +kernel) rfl rfl (Nat.le_of_ble_eq_true rfl) d_M_resume_2 (fun H locs hE hS => ?_)
  refine lv_iload_n hx hb d_M_resume_5 rfl (lv_at hl 1 rfl) ?_
  refine lv_iconst (v := 0) hx hb d_M_resume_6 (by decide) ?_
  refine lv_bipush (v := 9) hx hb d_M_resume_7 (by decide) ?_
  refine fr_calli (va_runS (As := [.int h, .int 0, .int 9]) (rest := []) ⟨hx, hb, hml, hown, hts⟩ (c_M_in l hE h 0 9) (va_cwS 3 hts (hw_goodS kw_585 kw_586 kw_26 kw_587) rfl rfl rfl (by decide +kernel) ⟨Nat.le_of_ble_eq_true rfl, Nat.le_of_ble_eq_true rfl⟩) ⟨fr_blind, fr_pre hE hK⟩ rfl rfl hl.1 rfl (lv_room (Nat.le_of_ble_eq_true rfl)) d_M_resume_9 ⟨Nat.le_of_ble_eq_true rfl, Nat.le_of_ble_eq_true rfl⟩) hS (fun r_1 u_1 H locs w_1 hE hS => ?_)
  rcases w_1 with ⟨rfl, pw_1⟩ | ⟨rfl, pw_1⟩
  · skip
    replace pw_1 := (in0 (m := 10) (by decide) (by decide)).mp pw_1
    obtain ⟨j_1, hj_1, rfl⟩ := pw_1
    refine lv_if_ne (tgt := 17) hx hb d_M_resume_12 (by decide) (fun c_2 => ?_) (fun c_2 => ?_)
    · skip
      refine lv_iload_n hx hb d_M_resume_17 rfl (lv_at hl 3 rfl) ?_
      refine lv_iconst (v := 0) hx hb d_M_resume_18 (by decide) ?_
      refine lv_ldc (v := 1000000000) hx hb hown (hT _ kw_616) d_M_resume_19 ?_
      refine fr_calli (va_runS (As := [.int t, .int 0, .int 1000000000]) (rest := []) ⟨hx, hb, hml, hown, hts⟩ (c_M_in l hE t 0 1000000000) (va_cwS 3 hts (hw_goodS kw_585 kw_586 kw_26 kw_587) rfl rfl rfl (by decide +kernel) ⟨Nat.le_of_ble_eq_true rfl, Nat.le_of_ble_eq_true rfl⟩) ⟨fr_blind, fr_pre hE hK⟩ rfl rfl hl.1 rfl (lv_room (Nat.le_of_ble_eq_true rfl)) d_M_resume_21 ⟨Nat.le_of_ble_eq_true rfl, Nat.le_of_ble_eq_true rfl⟩) hS (fun r_3 u_3 H locs w_3 hE hS => ?_)
      rcases w_3 with ⟨rfl, pw_3⟩ | ⟨rfl, pw_3⟩
      · skip
        replace pw_3 := (in0 (m := 1000000001) (by decide) (by decide)).mp pw_3
        refine lv_if_ne (tgt := 30) hx hb d_M_resume_24 (by decide) (fun c_4 => ?_) (fun c_4 => ?_)
        · skip
          refine lv_iload_n hx hb d_M_resume_30 rfl (lv_at hl 2 rfl) ?_
          refine lv_iconst (v := 0) hx hb d_M_resume_31 (by decide) ?_
          refine lv_aload_n hx hb d_M_resume_32 rfl (lv_at hl 0 rfl) ?_
          refine fr_get (ci := 5) (Cn := hR_5) (T := hF_5) (N := 34) hx hb hT hi_5 hown hK hE (0, 40) rfl rfl rfl 27 (by decide) (hT _ kw_501) (fun _ h9 => h9) rfl d_M_resume_33 ?_
          refine lv_iconst (v := 1) hx hb d_M_resume_36 (by decide) ?_
          refine lv_isub hx hb d_M_resume_37 ?_
          refine fr_calli (va_runS (As := [.int tok, .int 0, .int ((nI tk) - 1)]) (rest := []) ⟨hx, hb, hml, hown, hts⟩ (c_M_in l hE tok 0 (nI tk - 1)) (va_cwS 3 hts (hw_goodS kw_585 kw_586 kw_26 kw_587) rfl rfl rfl (by decide +kernel) ⟨Nat.le_of_ble_eq_true rfl, Nat.le_of_ble_eq_true rfl⟩) ⟨fr_blind, fr_pre hE hK⟩ rfl rfl hl.1 rfl (lv_room (Nat.le_of_ble_eq_true rfl)) d_M_resume_38 ⟨Nat.le_of_ble_eq_true rfl, Nat.le_of_ble_eq_true rfl⟩) hS (fun r_5 u_5 H locs w_5 hE hS => ?_)
          rcases w_5 with ⟨rfl, pw_5⟩ | ⟨rfl, pw_5⟩
          · skip
            replace pw_5 := (in0 (m := tk) (nI_m1 (by omega)) (by omega)).mp pw_5
            obtain ⟨j_2, hj_2, rfl⟩ := pw_5
            obtain ⟨q_2, l_2, hT2⟩ := htok j_2 hj_2
            obtain ⟨hq_2, hl_2, e_2, e_3, hle, hle2⟩ := id hT2
            refine lv_if_ne (tgt := 47) hx hb d_M_resume_41 (by decide) (fun c_6 => ?_) (fun c_6 => ?_)
            · skip
              refine lv_aload_n hx hb d_M_resume_47 rfl (lv_at hl 0 rfl) ?_
              refine fr_get (ci := 5) (Cn := hR_5) (T := hF_5) (N := 34) hx hb hT hi_5 hown hK hE (0, 40) rfl rfl rfl 28 (by decide) (hT _ kw_502) (fun _ h9 => h9) rfl d_M_resume_48 ?_
              refine lv_iload_n hx hb d_M_resume_51 rfl (lv_at hl 2 rfl) ?_
              refine fr_iald hx hb hK hE (0, 68) 0 rfl m28 rfl j_2 (rfl) (by omega) (by decide) d_M_resume_52 ?_
              refine lv_topi (fun y_7 ey_7 => ?_)
              obtain rfl : y_7 = nI q_2 := ey_7.trans (e_2)
              refine lv_istore (lv' := [(4, .int (nI q_2)), (0, .ref (b 40)), (1, .int (nI j_1)), (2, .int (nI j_2)), (3, .int t)]) hx hb d_M_resume_53 hl (by decide) rfl (fun ls hl => ?_)
              refine lv_aload_n hx hb d_M_resume_55 rfl (lv_at hl 1 rfl) ?_
              refine fr_get (ci := 5) (Cn := hR_5) (T := hF_5) (N := 34) hx hb hT hi_5 hown hK hE (0, 40) rfl rfl rfl 15 (by decide) (hT _ kw_489) (fun _ h9 => h9) rfl d_M_resume_56 ?_
              refine lv_aload_n hx hb d_M_resume_59 rfl (lv_at hl 1 rfl) ?_
              refine fr_get (ci := 5) (Cn := hR_5) (T := hF_5) (N := 34) hx hb hT hi_5 hown hK hE (0, 40) rfl rfl rfl 18 (by decide) (hT _ kw_492) (fun _ h9 => h9) rfl d_M_resume_60 ?_
              refine lv_iload hx hb d_M_resume_63 (lv_at hl 0 rfl) ?_
              refine fr_iald hx hb hK hE (0, 58) 0 rfl m18 rfl q_2 (rfl) (by omega) (by decide) d_M_resume_65 ?_
              refine lv_topi (fun y_8 ey_8 => ?_)
              obtain rfl : y_8 = nI l_2 := ey_8.trans (e_3)
              refine fr_iald hx hb hK hE (0, 55) 0 rfl m15 rfl l_2 (rfl) (by omega) (by decide) d_M_resume_66 ?_
              refine lv_iload_n hx hb d_M_resume_67 rfl (lv_at hl 2 rfl) ?_
              refine lv_icmp_ne (tgt := 86) hx hb d_M_resume_68 (by decide) (fun c_9 => ?_) (fun c_9 => ?_)
              · skip
                refine lv_bipush (v := (-15)) hx hb d_M_resume_86 (by decide) ?_
                refine W.widen (k := 0) (n := 0) (Nat.le_of_ble_eq_true rfl) (Nat.le_of_ble_eq_true rfl) ?_
                exact W.iret (v := (-15)) hx hb hr (fun t9 ht9 hW9 => ⟨⟨(-15), _, rfl, Or.inl ⟨Or.inr (Or.inr (Or.inr ⟨j_1, j_2, q_2, l_2, hj_1, rfl, pw_3, hj_2, rfl, hT2, Or.inl c_9, rfl⟩)), rfl⟩, ⟨by rw [ht9]; exact hE, va_K.moved hW9.alike hK⟩⟩, hS.F ht9⟩) hS.2.2 d_M_resume_88
              · skip
                refine lv_iload_n hx hb d_M_resume_71 rfl (lv_at hl 4 rfl) ?_
                refine lv_aload_n hx hb d_M_resume_72 rfl (lv_at hl 1 rfl) ?_
                refine fr_get (ci := 5) (Cn := hR_5) (T := hF_5) (N := 34) hx hb hT hi_5 hown hK hE (0, 40) rfl rfl rfl 29 (by decide) (hT _ kw_503) (fun _ h9 => h9) rfl d_M_resume_73 ?_
                refine lv_iload_n hx hb d_M_resume_76 rfl (lv_at hl 3 rfl) ?_
                refine fr_iald hx hb hK hE (0, 69) 0 rfl m29 rfl j_2 (rfl) (by omega) (by decide) d_M_resume_77 ?_
                refine lv_isub hx hb d_M_resume_78 ?_
                refine lv_aload_n hx hb d_M_resume_79 rfl (lv_at hl 1 rfl) ?_
                refine fr_get (ci := 5) (Cn := hR_5) (T := hF_5) (N := 34) hx hb hT hi_5 hown hK hE (0, 40) rfl rfl rfl 3 (by decide) (hT _ kw_477) (fun _ h9 => h9) rfl d_M_resume_80 ?_
                refine lv_icmp_le (tgt := 89) hx hb d_M_resume_83 (by decide) (fun c_10 => ?_) (fun c_10 => ?_)
                · skip
                  refine lv_aload_n hx hb d_M_resume_89 rfl (lv_at hl 1 rfl) ?_
                  refine fr_get (ci := 5) (Cn := hR_5) (T := hF_5) (N := 34) hx hb hT hi_5 hown hK hE (0, 40) rfl rfl rfl 30 (by decide) (hT _ kw_504) (fun _ h9 => h9) rfl d_M_resume_90 ?_
                  refine lv_iload_n hx hb d_M_resume_93 rfl (lv_at hl 3 rfl) ?_
                  refine fr_iald hx hb hK hE (0, 70) 0 rfl m30 rfl j_2 (rfl) (by omega) (by decide) d_M_resume_94 ?_
                  refine lv_if_ge (tgt := 128) hx hb d_M_resume_95 (by decide) (fun c_11 => ?_) (fun c_11 => ?_)
                  · skip
                    obtain ⟨p_2, hp_2, e_4⟩ := hle (Int32.not_lt.mpr c_11)
                    refine lv_aload_n hx hb d_M_resume_128 rfl (lv_at hl 1 rfl) ?_
                    refine lv_iload_n hx hb d_M_resume_129 rfl (lv_at hl 2 rfl) ?_
                    refine lv_aload_n hx hb d_M_resume_130 rfl (lv_at hl 1 rfl) ?_
                    refine fr_get (ci := 5) (Cn := hR_5) (T := hF_5) (N := 34) hx hb hT hi_5 hown hK hE (0, 40) rfl rfl rfl 30 (by decide) (hT _ kw_504) (fun _ h9 => h9) rfl d_M_resume_131 ?_
                    refine lv_iload_n hx hb d_M_resume_134 rfl (lv_at hl 3 rfl) ?_
                    refine fr_iald hx hb hK hE (0, 70) 0 rfl m30 rfl j_2 (rfl) (by omega) (by decide) d_M_resume_135 ?_
                    refine lv_topi (fun y_12 ey_12 => ?_)
                    obtain rfl : y_12 = nI p_2 := ey_12.trans (e_4)
                    refine fr_calli (va_runV (As := [.int (nI j_1), .int (nI p_2)]) (rest := []) ⟨hx, hb, hml, hown, hts⟩ (c_M_answer l hE (pg := pg) (gr := gr) (lf := lf) (an := an) (n := n) (lc := lc) (ps := ps) (rw := rw) (tk := tk) (po := po) rfl m20 m31 m32 j_1 p_2 hj_1 hp_2) (cwV 2 hts (hw_goodV kw_629 kw_631 kw_19 kw_26 kw_632) rfl rfl rfl (by decide +kernel) ⟨Nat.le_of_ble_eq_true rfl, Nat.le_of_ble_eq_true rfl⟩) ⟨fr_blind, fr_recv hK hE (0, 40) rfl rfl (ci := 5) rfl, fr_pre hE hK⟩ rfl rfl hl.1 rfl (lv_room (Nat.le_of_ble_eq_true rfl)) d_M_resume_136 ⟨Nat.le_of_ble_eq_true rfl, Nat.le_of_ble_eq_true rfl⟩) hS (fun r_13 u_13 H locs w_13 hE hS => ?_)
                    obtain rfl := w_13
                    refine W.widen (k := 0) (n := 0) (Nat.le_of_ble_eq_true rfl) (Nat.le_of_ble_eq_true rfl) ?_
                    exact W.iret (v := pr p_2) hx hb hr (fun t9 ht9 hW9 => ⟨⟨pr p_2, _, rfl, Or.inr ⟨j_1, j_2, q_2, l_2, hj_1, rfl, pw_3, hj_2, rfl, hT2, c_9, c_10, Or.inl ⟨p_2, hp_2, e_4, rfl, rfl⟩⟩, ⟨by rw [ht9]; exact hE, va_K.moved hW9.alike hK⟩⟩, hS.F ht9⟩) hS.2.2 d_M_resume_139
                  · skip
                    have hneg : le j_2 < 0 := Int32.not_le.mp c_11
                    obtain ⟨f_2, m_2, g_2, e_5, e_6, hm_2, hf_2, hr_2, hg_2⟩ := hle2 hneg
                    refine lv_aload_n hx hb d_M_resume_98 rfl (lv_at hl 1 rfl) ?_
                    refine fr_get (ci := 5) (Cn := hR_5) (T := hF_5) (N := 34) hx hb hT hi_5 hown hK hE (0, 40) rfl rfl rfl 30 (by decide) (hT _ kw_504) (fun _ h9 => h9) rfl d_M_resume_99 ?_
                    refine lv_iload_n hx hb d_M_resume_102 rfl (lv_at hl 3 rfl) ?_
                    refine lv_aload_n hx hb d_M_resume_103 rfl (lv_at hl 1 rfl) ?_
                    refine lv_aload_n hx hb d_M_resume_104 rfl (lv_at hl 1 rfl) ?_
                    refine fr_get (ci := 5) (Cn := hR_5) (T := hF_5) (N := 34) hx hb hT hi_5 hown hK hE (0, 40) rfl rfl rfl 18 (by decide) (hT _ kw_492) (fun _ h9 => h9) rfl d_M_resume_105 ?_
                    refine lv_iload hx hb d_M_resume_108 (lv_at hl 0 rfl) ?_
                    refine fr_iald hx hb hK hE (0, 58) 0 rfl m18 rfl q_2 (rfl) (by omega) (by decide) d_M_resume_110 ?_
                    refine lv_topi (fun y_14 ey_14 => ?_)
                    obtain rfl : y_14 = nI l_2 := ey_14.trans (e_3)
                    refine lv_aload_n hx hb d_M_resume_111 rfl (lv_at hl 1 rfl) ?_
                    refine fr_get (ci := 5) (Cn := hR_5) (T := hF_5) (N := 34) hx hb hT hi_5 hown hK hE (0, 40) rfl rfl rfl 19 (by decide) (hT _ kw_493) (fun _ h9 => h9) rfl d_M_resume_112 ?_
                    refine lv_iload hx hb d_M_resume_115 (lv_at hl 0 rfl) ?_
                    refine fr_iald hx hb hK hE (0, 59) 0 rfl m19 rfl q_2 (rfl) (by omega) (by decide) d_M_resume_117 ?_
                    refine lv_topi (fun y_15 ey_15 => ?_)
                    obtain rfl : y_15 = nI f_2 := ey_15.trans (e_5)
                    refine lv_aload_n hx hb d_M_resume_118 rfl (lv_at hl 1 rfl) ?_
                    refine fr_get (ci := 5) (Cn := hR_5) (T := hF_5) (N := 34) hx hb hT hi_5 hown hK hE (0, 40) rfl rfl rfl 1 (by decide) (hT _ kw_475) (fun _ h9 => h9) rfl d_M_resume_119 ?_
                    refine lv_iadd hx hb d_M_resume_122 ?_
                    refine lv_topi (fun y_16 ey_16 => ?_)
                    obtain rfl : y_16 = nI (f_2 + pg) := ey_16.trans (nI_add _ _)
                    refine lv_iload_n hx hb d_M_resume_123 rfl (lv_at hl 4 rfl) ?_
                    refine fr_calli (va_runV (As := [.int (nI l_2), .int (nI (f_2 + pg)), .int t]) (rest := [.int (nI j_2), .ref (b 70)]) ⟨hx, hb, hml, hown, hts⟩ (c_M_makePage l hE (th := 0) (pg := pg) (gr := gr) (lf := lf) (an := an) (n := n) (lc := lc) (ps := ps) (rw := rw) (tk := tk) (po := po) rfl m7 m8 m9 m12 m13 m16 m18 m19 m20 m21 m22 m24 m25 m26 m28 m29 m30 l_2 (f_2 + pg) m_2 ((if f_2 + pg + pg < m_2 then f_2 + pg + pg else m_2) - (f_2 + pg)) t g_2 hl_2 hps htk hpg e_6 hm_2 hf_2 (by split <;> omega) (by split <;> omega) hdl hg_2) (cwV 3 hts (hw_goodV kw_625 kw_627 kw_18 kw_26 kw_628) rfl rfl rfl (by decide +kernel) ⟨Nat.le_of_ble_eq_true rfl, Nat.le_of_ble_eq_true rfl⟩) ⟨fr_blind, fr_recv hK hE (0, 40) rfl rfl (ci := 5) rfl, fr_pre hE hK⟩ rfl rfl hl.1 rfl (lv_room (Nat.le_of_ble_eq_true rfl)) d_M_resume_124 ⟨Nat.le_of_ble_eq_true rfl, Nat.le_of_ble_eq_true rfl⟩) hS (fun r_17 u_17 H locs w_17 hE hS => ?_)
                    obtain ⟨rfl, hPg⟩ := w_17
                    have z71 : u_17.1 (0, 71) = some (.inl (cI, 10, .inl aw)) := hPg.2.2.2.2.2.2.2.2.2.1.at (by decide) m31
                    have z72 : u_17.1 (0, 72) = some (.inl (cI, 10, .inl cs)) := hPg.2.2.2.2.2.2.2.2.2.1.at (by decide) m32
                    rcases id hPg.2.2.2.2.2.2.2.2.2.2 with ⟨htm, z40, -, -, -, z70⟩ | ⟨htm, z40, -, -, -, z70⟩
                    · skip
                      refine fr_iast hx hb hK hE hS (0, 70) 0 rfl z70 rfl j_2 (rfl) (by omega) (by decide) d_M_resume_127 (fun H locs hE hS => ?_)
                      refine lv_aload_n hx hb d_M_resume_128 rfl (lv_at hl 1 rfl) ?_
                      refine lv_iload_n hx hb d_M_resume_129 rfl (lv_at hl 2 rfl) ?_
                      refine lv_aload_n hx hb d_M_resume_130 rfl (lv_at hl 1 rfl) ?_
                      refine fr_get (ci := 5) (Cn := hR_5) (T := hF_5) (N := 34) hx hb hT hi_5 hown hK hE (0, 40) rfl z40 rfl 30 (by decide) (hT _ kw_504) (fun _ h9 => h9) rfl d_M_resume_131 ?_
                      refine lv_iload_n hx hb d_M_resume_134 rfl (lv_at hl 3 rfl) ?_
                      refine fr_iald hx hb hK hE (0, 70) 0 rfl rfl rfl j_2 (rfl) (by omega) (by decide) d_M_resume_135 ?_
                      refine lv_topi (fun y_18 ey_18 => ?_)
                      obtain rfl : y_18 = nI ps := ey_18.trans (pk_us)
                      refine fr_calli (va_runV (As := [.int (nI j_1), .int (nI ps)]) (rest := []) ⟨hx, hb, hml, hown, hts⟩ (c_M_answer l hE (th := 0) (pg := pg) (gr := gr) (lf := lf) (an := an) (n := n) (lc := lc) (ps := ps + 1) (rw := rw + (kp (keepB ac (si l_2)) g_2 (f_2 + pg) ((if f_2 + pg + pg < m_2 then f_2 + pg + pg else m_2) - (f_2 + pg))).length) (tk := tk + 1) (po := po + (((if f_2 + pg + pg < m_2 then f_2 + pg + pg else m_2) - (f_2 + pg)) - (kp (keepB ac (si l_2)) g_2 (f_2 + pg) ((if f_2 + pg + pg < m_2 then f_2 + pg + pg else m_2) - (f_2 + pg))).length)) z40 hPg.2.2.1 z71 z72 j_1 ps hj_1 hps) (cwV 2 hts (hw_goodV kw_629 kw_631 kw_19 kw_26 kw_632) rfl rfl rfl (by decide +kernel) ⟨Nat.le_of_ble_eq_true rfl, Nat.le_of_ble_eq_true rfl⟩) ⟨fr_blind, fr_recv hK hE (0, 40) rfl z40 (ci := 5) rfl, fr_pre hE hK⟩ rfl rfl hl.1 rfl (lv_room (Nat.le_of_ble_eq_true rfl)) d_M_resume_136 ⟨Nat.le_of_ble_eq_true rfl, Nat.le_of_ble_eq_true rfl⟩) hS (fun r_19 u_19 H locs w_19 hE hS => ?_)
                      obtain rfl : r_19 = nI (kp (keepB ac (si l_2)) g_2 (f_2 + pg) ((if f_2 + pg + pg < m_2 then f_2 + pg + pg else m_2) - (f_2 + pg))).length := w_19.trans pk_us
                      refine W.widen (k := 0) (n := 0) (Nat.le_of_ble_eq_true rfl) (Nat.le_of_ble_eq_true rfl) ?_
                      exact W.iret (v := nI (kp (keepB ac (si l_2)) g_2 (f_2 + pg) ((if f_2 + pg + pg < m_2 then f_2 + pg + pg else m_2) - (f_2 + pg))).length) hx hb hr (fun t9 ht9 hW9 => ⟨⟨nI (kp (keepB ac (si l_2)) g_2 (f_2 + pg) ((if f_2 + pg + pg < m_2 then f_2 + pg + pg else m_2) - (f_2 + pg))).length, _, rfl, Or.inr ⟨j_1, j_2, q_2, l_2, hj_1, rfl, pw_3, hj_2, rfl, hT2, c_9, c_10, Or.inr ⟨hneg, f_2, m_2, g_2, u_17, upd (upd le tk (-1)) j_2 (nI ps), e_5, e_6, hm_2, hf_2, hg_2, hPg, Or.inl ⟨htm, rfl⟩, rfl, rfl⟩⟩, ⟨by rw [ht9]; exact hE, va_K.moved hW9.alike hK⟩⟩, hS.F ht9⟩) hS.2.2 d_M_resume_139
                    · skip
                      refine fr_iast hx hb hK hE hS (0, 70) 0 rfl z70 rfl j_2 (rfl) (by omega) (by decide) d_M_resume_127 (fun H locs hE hS => ?_)
                      refine lv_aload_n hx hb d_M_resume_128 rfl (lv_at hl 1 rfl) ?_
                      refine lv_iload_n hx hb d_M_resume_129 rfl (lv_at hl 2 rfl) ?_
                      refine lv_aload_n hx hb d_M_resume_130 rfl (lv_at hl 1 rfl) ?_
                      refine fr_get (ci := 5) (Cn := hR_5) (T := hF_5) (N := 34) hx hb hT hi_5 hown hK hE (0, 40) rfl z40 rfl 30 (by decide) (hT _ kw_504) (fun _ h9 => h9) rfl d_M_resume_131 ?_
                      refine lv_iload_n hx hb d_M_resume_134 rfl (lv_at hl 3 rfl) ?_
                      refine fr_iald hx hb hK hE (0, 70) 0 rfl rfl rfl j_2 (rfl) (by omega) (by decide) d_M_resume_135 ?_
                      refine lv_topi (fun y_20 ey_20 => ?_)
                      obtain rfl : y_20 = nI ps := ey_20.trans (pk_us)
                      refine fr_calli (va_runV (As := [.int (nI j_1), .int (nI ps)]) (rest := []) ⟨hx, hb, hml, hown, hts⟩ (c_M_answer l hE (th := 0) (pg := pg) (gr := gr) (lf := lf) (an := an) (n := n) (lc := lc) (ps := ps + 1) (rw := rw + (kp (keepB ac (si l_2)) g_2 (f_2 + pg) ((if f_2 + pg + pg < m_2 then f_2 + pg + pg else m_2) - (f_2 + pg))).length) (tk := tk) (po := po + (((if f_2 + pg + pg < m_2 then f_2 + pg + pg else m_2) - (f_2 + pg)) - (kp (keepB ac (si l_2)) g_2 (f_2 + pg) ((if f_2 + pg + pg < m_2 then f_2 + pg + pg else m_2) - (f_2 + pg))).length)) z40 hPg.2.2.1 z71 z72 j_1 ps hj_1 hps) (cwV 2 hts (hw_goodV kw_629 kw_631 kw_19 kw_26 kw_632) rfl rfl rfl (by decide +kernel) ⟨Nat.le_of_ble_eq_true rfl, Nat.le_of_ble_eq_true rfl⟩) ⟨fr_blind, fr_recv hK hE (0, 40) rfl z40 (ci := 5) rfl, fr_pre hE hK⟩ rfl rfl hl.1 rfl (lv_room (Nat.le_of_ble_eq_true rfl)) d_M_resume_136 ⟨Nat.le_of_ble_eq_true rfl, Nat.le_of_ble_eq_true rfl⟩) hS (fun r_21 u_21 H locs w_21 hE hS => ?_)
                      obtain rfl : r_21 = nI (kp (keepB ac (si l_2)) g_2 (f_2 + pg) ((if f_2 + pg + pg < m_2 then f_2 + pg + pg else m_2) - (f_2 + pg))).length := w_21.trans pk_us
                      refine W.widen (k := 0) (n := 0) (Nat.le_of_ble_eq_true rfl) (Nat.le_of_ble_eq_true rfl) ?_
                      exact W.iret (v := nI (kp (keepB ac (si l_2)) g_2 (f_2 + pg) ((if f_2 + pg + pg < m_2 then f_2 + pg + pg else m_2) - (f_2 + pg))).length) hx hb hr (fun t9 ht9 hW9 => ⟨⟨nI (kp (keepB ac (si l_2)) g_2 (f_2 + pg) ((if f_2 + pg + pg < m_2 then f_2 + pg + pg else m_2) - (f_2 + pg))).length, _, rfl, Or.inr ⟨j_1, j_2, q_2, l_2, hj_1, rfl, pw_3, hj_2, rfl, hT2, c_9, c_10, Or.inr ⟨hneg, f_2, m_2, g_2, u_17, upd (le) j_2 (nI ps), e_5, e_6, hm_2, hf_2, hg_2, hPg, Or.inr ⟨htm, rfl⟩, rfl, rfl⟩⟩, ⟨by rw [ht9]; exact hE, va_K.moved hW9.alike hK⟩⟩, hS.F ht9⟩) hS.2.2 d_M_resume_139
                · skip
                  refine lv_bipush (v := (-15)) hx hb d_M_resume_86 (by decide) ?_
                  refine W.widen (k := 0) (n := 0) (Nat.le_of_ble_eq_true rfl) (Nat.le_of_ble_eq_true rfl) ?_
                  exact W.iret (v := (-15)) hx hb hr (fun t9 ht9 hW9 => ⟨⟨(-15), _, rfl, Or.inl ⟨Or.inr (Or.inr (Or.inr ⟨j_1, j_2, q_2, l_2, hj_1, rfl, pw_3, hj_2, rfl, hT2, Or.inr c_10, rfl⟩)), rfl⟩, ⟨by rw [ht9]; exact hE, va_K.moved hW9.alike hK⟩⟩, hS.F ht9⟩) hS.2.2 d_M_resume_88
            · skip
              exact absurd c_6 (by decide)
          · skip
            replace pw_5 := fun q => pw_5 ((in0 (m := tk) (nI_m1 (by omega)) (by omega)).mpr q)
            refine lv_if_ne (tgt := 47) hx hb d_M_resume_41 (by decide) (fun c_22 => ?_) (fun c_22 => ?_)
            · skip
              exact absurd c_22 (by decide)
            · skip
              refine lv_bipush (v := (-15)) hx hb d_M_resume_44 (by decide) ?_
              refine W.widen (k := 0) (n := 0) (Nat.le_of_ble_eq_true rfl) (Nat.le_of_ble_eq_true rfl) ?_
              exact W.iret (v := (-15)) hx hb hr (fun t9 ht9 hW9 => ⟨⟨(-15), _, rfl, Or.inl ⟨Or.inr (Or.inr (Or.inl ⟨⟨j_1, hj_1, rfl⟩, pw_3, pw_5, rfl⟩)), rfl⟩, ⟨by rw [ht9]; exact hE, va_K.moved hW9.alike hK⟩⟩, hS.F ht9⟩) hS.2.2 d_M_resume_46
        · skip
          exact absurd c_4 (by decide)
      · skip
        replace pw_3 := fun q => pw_3 ((in0 (m := 1000000001) (by decide) (by decide)).mpr q)
        refine lv_if_ne (tgt := 30) hx hb d_M_resume_24 (by decide) (fun c_23 => ?_) (fun c_23 => ?_)
        · skip
          exact absurd c_23 (by decide)
        · skip
          refine lv_bipush (v := (-2)) hx hb d_M_resume_27 (by decide) ?_
          refine W.widen (k := 0) (n := 0) (Nat.le_of_ble_eq_true rfl) (Nat.le_of_ble_eq_true rfl) ?_
          exact W.iret (v := (-2)) hx hb hr (fun t9 ht9 hW9 => ⟨⟨(-2), _, rfl, Or.inl ⟨Or.inr (Or.inl ⟨⟨j_1, hj_1, rfl⟩, pw_3, rfl⟩), rfl⟩, ⟨by rw [ht9]; exact hE, va_K.moved hW9.alike hK⟩⟩, hS.F ht9⟩) hS.2.2 d_M_resume_29
    · skip
      exact absurd c_2 (by decide)
  · skip
    replace pw_1 := fun q => pw_1 ((in0 (m := 10) (by decide) (by decide)).mpr q)
    refine lv_if_ne (tgt := 17) hx hb d_M_resume_12 (by decide) (fun c_24 => ?_) (fun c_24 => ?_)
    · skip
      exact absurd c_24 (by decide)
    · skip
      refine lv_iconst (v := (-1)) hx hb d_M_resume_15 (by decide) ?_
      refine W.widen (k := 0) (n := 0) (Nat.le_of_ble_eq_true rfl) (Nat.le_of_ble_eq_true rfl) ?_
      exact W.iret (v := (-1)) hx hb hr (fun t9 ht9 hW9 => ⟨⟨(-1), _, rfl, Or.inl ⟨Or.inl ⟨pw_1, rfl⟩, rfl⟩, ⟨by rw [ht9]; exact hE, va_K.moved hW9.alike hK⟩⟩, hS.F ht9⟩) hS.2.2 d_M_resume_16
end
section
theorem fr_cut {p : Program} {l : Launch} {e : Env} {R : Room} {s : State} {m : MethodId} {args : Array Value} {below : List Frame} {meth : Method} {c : Code} {H : Heap} {locs : List Loc} {cells slots : Nat} {Q : State → Prop} {g1 g2 : JFrame} (k : W p l e R s m args below meth c H locs cells slots Q g2) (h : W p l e R s m args below meth c H locs cells slots Q g2 → W p l e R s m args below meth c H locs cells slots Q g1) : W p l e R s m args below meth c H locs cells slots Q g1 := h k
theorem fr_ub_lt {b : Nat → Nat} {i a j : Nat} (h : j < i) : fr_ub b i a j = b j := fr_ub_ne (Nat.ne_of_lt h)
/-- the nearest number of lo .. hi -/
def clN (v : Int32) (lo hi : Nat) : Nat := if v < nI lo then lo else if nI hi < v then hi else v.toNatClampNeg
theorem clN_lo {v : Int32} {lo hi : Nat} (h : v < nI lo) : clN v lo hi = lo := if_pos h
theorem clN_hi {v : Int32} {lo hi : Nat} (h1 : ¬ v < nI lo) (h2 : nI hi < v) : clN v lo hi = hi := (if_neg h1).trans (if_pos h2)
theorem clN_in {v : Int32} {lo hi : Nat} (h1 : ¬ v < nI lo) (h2 : ¬ nI hi < v) : clN v lo hi = v.toNatClampNeg := (if_neg h1).trans (if_neg h2)
theorem nI_of_ge {v : Int32} {lo : Nat} (hlo : lo < 2 ^ 31) (h : ¬ v < nI lo) : v = nI v.toNatClampNeg ∧ lo ≤ v.toNatClampNeg ∧ v.toNatClampNeg < 2 ^ 31 := by
  have h0 : ¬ v < 0 := fun q => h (Int32.lt_iff_toInt_lt.mpr (by have := Int32.lt_iff_toInt_lt.mp q; rw [nI_toInt hlo]; have e : (0 : Int32).toInt = 0 := rfl; omega))
  obtain ⟨j, hj, rfl⟩ := nI_of h0
  rw [nI_clamp hj]
  refine ⟨rfl, ?_, hj⟩
  rcases Nat.lt_or_ge j lo with q | q
  · exact absurd (nI_lt q hlo) h
  · exact q
theorem clN_ge {v : Int32} {lo hi : Nat} (hlo : lo < 2 ^ 31) (hh : lo ≤ hi) : lo ≤ clN v lo hi := by
  unfold clN
  split
  · exact Nat.le_refl _
  · rename_i h
    split
    · exact hh
    · exact (nI_of_ge hlo h).2.1
theorem clN_le {v : Int32} {lo hi : Nat} (hhi : hi < 2 ^ 31) (hlo : lo < 2 ^ 31) (hh : lo ≤ hi) : clN v lo hi ≤ hi := by
  unfold clN
  split
  · exact hh
  · rename_i h
    split
    · exact Nat.le_refl _
    · rename_i h2
      obtain ⟨e, -, h3⟩ := nI_of_ge hlo h
      rcases Nat.lt_or_ge hi v.toNatClampNeg with q | q
      · exact absurd (by rw [e]; exact nI_lt q h3) h2
      · exact q
theorem clN_val {v : Int32} {lo hi : Nat} (hlo : lo < 2 ^ 31) (h1 : ¬ v < nI lo) (h2 : ¬ nI hi < v) : v = nI (clN v lo hi) := by
  rw [clN_in h1 h2]
  exact (nI_of_ge hlo h1).1
set_option maxHeartbeats 4000000 in
set_option maxRecDepth 100000 in
theorem c_M_init (l : Launch) {D : va_G} {z : Nat} {b : Nat → Nat} {C : fr_C} {H9 : Heap} (h9 : fr_W D hCl z b C H9) {cI cZ cJ cP cO : ClassId} (m0 : C (0, 40) = some (.inr (5, [.int 0, .int 0, .int 0, .int 0, .int 0, .int 0, .null, .null, .null, .null, .null, .int 0, .null, .null, .null, .null, .null, .int 0, .null, .null, .null, .null, .null, .int 0, .null, .null, .null, .int 0, .null, .null, .null, .null, .null, .int 0]))) (page grains secs : Int32) : Met l y_M_init w_M_init ({ frames := 1, cells := 23, slots := 55546, locals := 12 }) (va_Pc [.ref (b 40), .int page, .int grains, .int secs] (fr_G D hCl (hTy cI cZ cJ cP cO) z b C)) (va_Qv (fun (u : (Nat → Nat) × fr_C) => ∃ aw0 : Nat → Int32, (∀ j, j < 10 → aw0 j = -1) ∧ u.2 (0, 40) = some (.inr (5, fM u.1 0 (clN page 1 50) (clN grains 1 100) (clN secs 0 1000000) 0 0 0 0 0 0 0)) ∧ u.2 (0, 46) = some (.inl (cI, 150, .inl (fun _ => 0))) ∧ u.2 (0, 47) = some (.inl (cI, 150, .inl (fun _ => 0))) ∧ u.2 (0, 48) = some (.inl (cZ, 150, .inl (fun _ => 0))) ∧ u.2 (0, 49) = some (.inl (cI, 150, .inl (fun _ => 0))) ∧ u.2 (0, 50) = some (.inl (cZ, 6, .inl (fun _ => 0))) ∧ u.2 (0, 52) = some (.inl (cI, 30, .inl (fun _ => 0))) ∧ u.2 (0, 53) = some (.inl (cI, 30, .inl (fun _ => 0))) ∧ u.2 (0, 54) = some (.inl (cI, 30, .inl (fun _ => 0))) ∧ u.2 (0, 55) = some (.inl (cI, 30, .inl (fun _ => 0))) ∧ u.2 (0, 56) = some (.inl (cI, 4500, .inl (fun _ => 0))) ∧ u.2 (0, 58) = some (.inl (cI, 4600, .inl (fun _ => 0))) ∧ u.2 (0, 59) = some (.inl (cI, 4600, .inl (fun _ => 0))) ∧ u.2 (0, 60) = some (.inl (cI, 4600, .inl (fun _ => 0))) ∧ u.2 (0, 61) = some (.inl (cI, 4600, .inl (fun _ => 0))) ∧ u.2 (0, 62) = some (.inl (cI, 4600, .inl (fun _ => 0))) ∧ u.2 (0, 64) = some (.inl (cI, 4500, .inl (fun _ => 0))) ∧ u.2 (0, 65) = some (.inl (cI, 4500, .inl (fun _ => 0))) ∧ u.2 (0, 66) = some (.inl (cZ, 4500, .inl (fun _ => 0))) ∧ u.2 (0, 68) = some (.inl (cI, 4600, .inl (fun _ => 0))) ∧ u.2 (0, 69) = some (.inl (cI, 4600, .inl (fun _ => 0))) ∧ u.2 (0, 70) = some (.inl (cI, 4600, .inl (fun _ => 0))) ∧ u.2 (0, 71) = some (.inl (cI, 10, .inl aw0)) ∧ u.2 (0, 72) = some (.inl (cI, 10, .inl (fun _ => 0))) ∧ fr_ag [(0, 40), (0, 46), (0, 47), (0, 48), (0, 49), (0, 50), (0, 52), (0, 53), (0, 54), (0, 55), (0, 56), (0, 58), (0, 59), (0, 60), (0, 61), (0, 62), (0, 64), (0, 65), (0, 66), (0, 68), (0, 69), (0, 70), (0, 71), (0, 72)] u.2 C ∧ u.1 40 = b 40 ∧ ∀ i, i < 40 → u.1 i = b i) (fun u t => fr_G D hCl (hTy cI cZ cJ cP cO) z ((fun u => u.1) u) ((fun u => u.2) u) t) (fr_A z)) 23 55546 (fr_A z) := by
  refine Met.ofW (cc := b_M_init) (maxL := 5) (ret := none) (by decide) rfl ?_
  intro p e s m args below meth c s₁ B hml hv
  obtain ⟨rfl, hE, hK⟩ := hv
  have hx := B.exec
  have hb := B.bytes
  have hr := B.returns
  have hts := atoms_spec (ws := w_M_init) B.pre
  have hT : ∀ w ∈ hw_tbl, w.before _ s = true := fun w h => hts w (List.mem_cons_of_mem _ h)
  have hown : s.vm.findClass "HarvestStepsModel" = some m.cls := findClass_of_methodNamed B.named
  have hlocks := B.notSynchronized
  have hin : meth.name = "<init>" := (name_of_methodNamed B.named B.method).1
  have hS : va_S (fr_A z) s.heap s.heap [] := va_S.rf
  have hl := lv_entry ([.ref (b 40), .int page, .int grains, .int secs]) (n := 5) (Nat.le_of_ble_eq_true rfl)
  rw [lg_entry_eq]
  generalize (lg_sl ([.ref (b 40), .int page, .int grains, .int secs]) ++ List.replicate (5 - (lg_sl ([.ref (b 40), .int page, .int grains, .int secs])).length) Slot.unset).toArray = ls at hl ⊢
  have hl : lv_has ls 5 [(0, .ref (b 40)), (1, .int page), (2, .int grains), (3, .int secs)] := hl
  refine lv_aload_n hx hb d_M_init_0 rfl (lv_at hl 0 rfl) ?_
  refine W.objInit hx hb hown (hT _ kw_472) (hT _ kw_45) (hT _ kw_46) rfl (by rw [hml]; exact hl.1) rfl d_M_init_1 (Nat.le_of_ble_eq_true rfl) (Nat.le_of_ble_eq_true rfl) ?_
  refine W.eq (g2 := F0 m 4 ls []) rfl ?_
  refine lv_aload_n hx hb d_M_init_4 rfl (lv_at hl 0 rfl) ?_
  refine lv_sipush (v := 150) hx hb d_M_init_5 (by decide) ?_
  refine fr_newa (atype := .int) (ty := .int) (a0 := (150, .inl (fun _ => 0))) hx hb (hT _ kw_74) rfl hK hE hS 46 0 rfl 150 (fun _ => rfl) (by decide) (by decide) (by decide) (Nat.le_of_ble_eq_true rfl) (Nat.le_of_ble_eq_true rfl) d_M_init_8 (fun q46 H nq46 hE hS => ?_)
  refine W.widen (k := 1) (n := 150) (Nat.le_of_ble_eq_true rfl) (by omega) ?_
  refine fr_putF (ci := 5) (v := .ref q46) (ty := (.array .int)) (Cn := hR_5) (T := hF_5) (N := 34) hx hb hT hi_5 hy_5 ho_5 hn_5 hown hK hE hS (0, 40) rfl m0 rfl 6 (by decide) (hT _ kw_480) (fun _ h9 => h9) rfl hin rfl (by decide +kernel) rfl rfl (Nat.le_of_ble_eq_true rfl) d_M_init_10 (fun H locs hE hS => ?_)
  obtain ⟨b1, C1, hE, f0, f6, fag, fb40, fb⟩ : ∃ (b1 : Nat → Nat) (C1 : fr_C), fr_W D hCl z b1 C1 H ∧ C1 (0, 40) = some (.inr (5, [.int 0, .int 0, .int 0, .int 0, .int 0, .int 0, .ref (b1 46), .null, .null, .null, .null, .int 0, .null, .null, .null, .null, .null, .int 0, .null, .null, .null, .null, .null, .int 0, .null, .null, .null, .int 0, .null, .null, .null, .null, .null, .int 0])) ∧ C1 (0, 46) = some (.inl (cI, 150, .inl (fun _ => 0))) ∧ fr_ag [(0, 40), (0, 46), (0, 47), (0, 48), (0, 49), (0, 50), (0, 52), (0, 53), (0, 54), (0, 55), (0, 56), (0, 58), (0, 59), (0, 60), (0, 61), (0, 62), (0, 64), (0, 65), (0, 66), (0, 68), (0, 69), (0, 70), (0, 71), (0, 72)] C1 C ∧ b1 40 = b 40 ∧ ∀ i, i < 40 → b1 i = b i := ⟨_, _, hE, rfl, rfl, fr_ag.up (fr_ag.up (fr_ag.rf) (by decide)) (by decide), rfl, fun i hi => (fr_ub_lt (by omega)).trans (rfl)⟩
  replace hl : lv_has ls 5 [(0, .ref (b1 40)), (1, .int page), (2, .int grains), (3, .int secs)] := by rw [fb40]; exact hl
  have fbo := fb40
  refine lv_aload_n hx hb d_M_init_13 rfl (lv_at hl 0 rfl) ?_
  refine lv_sipush (v := 150) hx hb d_M_init_14 (by decide) ?_
  refine fr_newa (atype := .int) (ty := .int) (a0 := (150, .inl (fun _ => 0))) hx hb (hT _ kw_74) rfl hK hE hS 47 0 rfl 150 (fun _ => rfl) (by decide) (by decide) (by decide) (Nat.le_of_ble_eq_true rfl) (Nat.le_of_ble_eq_true rfl) d_M_init_17 (fun q47 H nq47 hE hS => ?_)
  refine W.widen (k := 2) (n := 300) (Nat.le_of_ble_eq_true rfl) (by omega) ?_
  refine fr_putF (ci := 5) (v := .ref q47) (ty := (.array .int)) (Cn := hR_5) (T := hF_5) (N := 34) hx hb hT hi_5 hy_5 ho_5 hn_5 hown hK hE hS (0, 40) rfl f0 rfl 7 (by decide) (hT _ kw_481) (fun _ h9 => h9) rfl hin rfl (by decide +kernel) rfl rfl (Nat.le_of_ble_eq_true rfl) d_M_init_19 (fun H locs hE hS => ?_)
  obtain ⟨b2, C2, hE, f0, f6, f7, fag, fb40, fb⟩ : ∃ (b2 : Nat → Nat) (C2 : fr_C), fr_W D hCl z b2 C2 H ∧ C2 (0, 40) = some (.inr (5, [.int 0, .int 0, .int 0, .int 0, .int 0, .int 0, .ref (b2 46), .ref (b2 47), .null, .null, .null, .int 0, .null, .null, .null, .null, .null, .int 0, .null, .null, .null, .null, .null, .int 0, .null, .null, .null, .int 0, .null, .null, .null, .null, .null, .int 0])) ∧ C2 (0, 46) = some (.inl (cI, 150, .inl (fun _ => 0))) ∧ C2 (0, 47) = some (.inl (cI, 150, .inl (fun _ => 0))) ∧ fr_ag [(0, 40), (0, 46), (0, 47), (0, 48), (0, 49), (0, 50), (0, 52), (0, 53), (0, 54), (0, 55), (0, 56), (0, 58), (0, 59), (0, 60), (0, 61), (0, 62), (0, 64), (0, 65), (0, 66), (0, 68), (0, 69), (0, 70), (0, 71), (0, 72)] C2 C ∧ b2 40 = b 40 ∧ ∀ i, i < 40 → b2 i = b i := ⟨_, _, hE, rfl, f6, rfl, fr_ag.up (fr_ag.up (fag) (by decide)) (by decide), fb40, fun i hi => (fr_ub_lt (by omega)).trans (fb i hi)⟩
  replace hl : lv_has ls 5 [(0, .ref (b2 40)), (1, .int page), (2, .int grains), (3, .int secs)] := by rw [fb40, ← fbo]; exact hl
  have fbo := fb40
  refine lv_aload_n hx hb d_M_init_22 rfl (lv_at hl 0 rfl) ?_
  refine lv_sipush (v := 150) hx hb d_M_init_23 (by decide) ?_
  refine fr_newa (atype := .boolean) (ty := .boolean) (a0 := (150, .inl (fun _ => 0))) hx hb (hT _ kw_73) rfl hK hE hS 48 1 rfl 150 (fun _ => rfl) (by decide) (by decide) (by decide) (Nat.le_of_ble_eq_true rfl) (Nat.le_of_ble_eq_true rfl) d_M_init_26 (fun q48 H nq48 hE hS => ?_)
  refine W.widen (k := 3) (n := 450) (Nat.le_of_ble_eq_true rfl) (by omega) ?_
  refine fr_putF (ci := 5) (v := .ref q48) (ty := (.array .boolean)) (Cn := hR_5) (T := hF_5) (N := 34) hx hb hT hi_5 hy_5 ho_5 hn_5 hown hK hE hS (0, 40) rfl f0 rfl 8 (by decide) (hT _ kw_482) (fun _ h9 => h9) rfl hin rfl (by decide +kernel) rfl rfl (Nat.le_of_ble_eq_true rfl) d_M_init_28 (fun H locs hE hS => ?_)
  obtain ⟨b3, C3, hE, f0, f6, f7, f8, fag, fb40, fb⟩ : ∃ (b3 : Nat → Nat) (C3 : fr_C), fr_W D hCl z b3 C3 H ∧ C3 (0, 40) = some (.inr (5, [.int 0, .int 0, .int 0, .int 0, .int 0, .int 0, .ref (b3 46), .ref (b3 47), .ref (b3 48), .null, .null, .int 0, .null, .null, .null, .null, .null, .int 0, .null, .null, .null, .null, .null, .int 0, .null, .null, .null, .int 0, .null, .null, .null, .null, .null, .int 0])) ∧ C3 (0, 46) = some (.inl (cI, 150, .inl (fun _ => 0))) ∧ C3 (0, 47) = some (.inl (cI, 150, .inl (fun _ => 0))) ∧ C3 (0, 48) = some (.inl (cZ, 150, .inl (fun _ => 0))) ∧ fr_ag [(0, 40), (0, 46), (0, 47), (0, 48), (0, 49), (0, 50), (0, 52), (0, 53), (0, 54), (0, 55), (0, 56), (0, 58), (0, 59), (0, 60), (0, 61), (0, 62), (0, 64), (0, 65), (0, 66), (0, 68), (0, 69), (0, 70), (0, 71), (0, 72)] C3 C ∧ b3 40 = b 40 ∧ ∀ i, i < 40 → b3 i = b i := ⟨_, _, hE, rfl, f6, f7, rfl, fr_ag.up (fr_ag.up (fag) (by decide)) (by decide), fb40, fun i hi => (fr_ub_lt (by omega)).trans (fb i hi)⟩
  replace hl : lv_has ls 5 [(0, .ref (b3 40)), (1, .int page), (2, .int grains), (3, .int secs)] := by rw [fb40, ← fbo]; exact hl
  have fbo := fb40
  refine lv_aload_n hx hb d_M_init_31 rfl (lv_at hl 0 rfl) ?_
  refine lv_sipush (v := 150) hx hb d_M_init_32 (by decide) ?_
  refine fr_newa (atype := .int) (ty := .int) (a0 := (150, .inl (fun _ => 0))) hx hb (hT _ kw_74) rfl hK hE hS 49 0 rfl 150 (fun _ => rfl) (by decide) (by decide) (by decide) (Nat.le_of_ble_eq_true rfl) (Nat.le_of_ble_eq_true rfl) d_M_init_35 (fun q49 H nq49 hE hS => ?_)
  refine W.widen (k := 4) (n := 600) (Nat.le_of_ble_eq_true rfl) (by omega) ?_
  refine fr_putF (ci := 5) (v := .ref q49) (ty := (.array .int)) (Cn := hR_5) (T := hF_5) (N := 34) hx hb hT hi_5 hy_5 ho_5 hn_5 hown hK hE hS (0, 40) rfl f0 rfl 9 (by decide) (hT _ kw_483) (fun _ h9 => h9) rfl hin rfl (by decide +kernel) rfl rfl (Nat.le_of_ble_eq_true rfl) d_M_init_37 (fun H locs hE hS => ?_)
  obtain ⟨b4, C4, hE, f0, f6, f7, f8, f9, fag, fb40, fb⟩ : ∃ (b4 : Nat → Nat) (C4 : fr_C), fr_W D hCl z b4 C4 H ∧ C4 (0, 40) = some (.inr (5, [.int 0, .int 0, .int 0, .int 0, .int 0, .int 0, .ref (b4 46), .ref (b4 47), .ref (b4 48), .ref (b4 49), .null, .int 0, .null, .null, .null, .null, .null, .int 0, .null, .null, .null, .null, .null, .int 0, .null, .null, .null, .int 0, .null, .null, .null, .null, .null, .int 0])) ∧ C4 (0, 46) = some (.inl (cI, 150, .inl (fun _ => 0))) ∧ C4 (0, 47) = some (.inl (cI, 150, .inl (fun _ => 0))) ∧ C4 (0, 48) = some (.inl (cZ, 150, .inl (fun _ => 0))) ∧ C4 (0, 49) = some (.inl (cI, 150, .inl (fun _ => 0))) ∧ fr_ag [(0, 40), (0, 46), (0, 47), (0, 48), (0, 49), (0, 50), (0, 52), (0, 53), (0, 54), (0, 55), (0, 56), (0, 58), (0, 59), (0, 60), (0, 61), (0, 62), (0, 64), (0, 65), (0, 66), (0, 68), (0, 69), (0, 70), (0, 71), (0, 72)] C4 C ∧ b4 40 = b 40 ∧ ∀ i, i < 40 → b4 i = b i := ⟨_, _, hE, rfl, f6, f7, f8, rfl, fr_ag.up (fr_ag.up (fag) (by decide)) (by decide), fb40, fun i hi => (fr_ub_lt (by omega)).trans (fb i hi)⟩
  replace hl : lv_has ls 5 [(0, .ref (b4 40)), (1, .int page), (2, .int grains), (3, .int secs)] := by rw [fb40, ← fbo]; exact hl
  have fbo := fb40
  refine lv_aload_n hx hb d_M_init_40 rfl (lv_at hl 0 rfl) ?_
  refine lv_bipush (v := 6) hx hb d_M_init_41 (by decide) ?_
  refine fr_newa (atype := .boolean) (ty := .boolean) (a0 := (6, .inl (fun _ => 0))) hx hb (hT _ kw_73) rfl hK hE hS 50 1 rfl 6 (fun _ => rfl) (by decide) (by decide) (by decide) (Nat.le_of_ble_eq_true rfl) (Nat.le_of_ble_eq_true rfl) d_M_init_43 (fun q50 H nq50 hE hS => ?_)
  refine W.widen (k := 5) (n := 606) (Nat.le_of_ble_eq_true rfl) (by omega) ?_
  refine fr_putF (ci := 5) (v := .ref q50) (ty := (.array .boolean)) (Cn := hR_5) (T := hF_5) (N := 34) hx hb hT hi_5 hy_5 ho_5 hn_5 hown hK hE hS (0, 40) rfl f0 rfl 10 (by decide) (hT _ kw_484) (fun _ h9 => h9) rfl hin rfl (by decide +kernel) rfl rfl (Nat.le_of_ble_eq_true rfl) d_M_init_45 (fun H locs hE hS => ?_)
  obtain ⟨b5, C5, hE, f0, f6, f7, f8, f9, f10, fag, fb40, fb⟩ : ∃ (b5 : Nat → Nat) (C5 : fr_C), fr_W D hCl z b5 C5 H ∧ C5 (0, 40) = some (.inr (5, [.int 0, .int 0, .int 0, .int 0, .int 0, .int 0, .ref (b5 46), .ref (b5 47), .ref (b5 48), .ref (b5 49), .ref (b5 50), .int 0, .null, .null, .null, .null, .null, .int 0, .null, .null, .null, .null, .null, .int 0, .null, .null, .null, .int 0, .null, .null, .null, .null, .null, .int 0])) ∧ C5 (0, 46) = some (.inl (cI, 150, .inl (fun _ => 0))) ∧ C5 (0, 47) = some (.inl (cI, 150, .inl (fun _ => 0))) ∧ C5 (0, 48) = some (.inl (cZ, 150, .inl (fun _ => 0))) ∧ C5 (0, 49) = some (.inl (cI, 150, .inl (fun _ => 0))) ∧ C5 (0, 50) = some (.inl (cZ, 6, .inl (fun _ => 0))) ∧ fr_ag [(0, 40), (0, 46), (0, 47), (0, 48), (0, 49), (0, 50), (0, 52), (0, 53), (0, 54), (0, 55), (0, 56), (0, 58), (0, 59), (0, 60), (0, 61), (0, 62), (0, 64), (0, 65), (0, 66), (0, 68), (0, 69), (0, 70), (0, 71), (0, 72)] C5 C ∧ b5 40 = b 40 ∧ ∀ i, i < 40 → b5 i = b i := ⟨_, _, hE, rfl, f6, f7, f8, f9, rfl, fr_ag.up (fr_ag.up (fag) (by decide)) (by decide), fb40, fun i hi => (fr_ub_lt (by omega)).trans (fb i hi)⟩
  replace hl : lv_has ls 5 [(0, .ref (b5 40)), (1, .int page), (2, .int grains), (3, .int secs)] := by rw [fb40, ← fbo]; exact hl
  have fbo := fb40
  refine lv_aload_n hx hb d_M_init_48 rfl (lv_at hl 0 rfl) ?_
  refine lv_bipush (v := 30) hx hb d_M_init_49 (by decide) ?_
  refine fr_newa (atype := .int) (ty := .int) (a0 := (30, .inl (fun _ => 0))) hx hb (hT _ kw_74) rfl hK hE hS 52 0 rfl 30 (fun _ => rfl) (by decide) (by decide) (by decide) (Nat.le_of_ble_eq_true rfl) (Nat.le_of_ble_eq_true rfl) d_M_init_51 (fun q52 H nq52 hE hS => ?_)
  refine W.widen (k := 6) (n := 636) (Nat.le_of_ble_eq_true rfl) (by omega) ?_
  refine fr_putF (ci := 5) (v := .ref q52) (ty := (.array .int)) (Cn := hR_5) (T := hF_5) (N := 34) hx hb hT hi_5 hy_5 ho_5 hn_5 hown hK hE hS (0, 40) rfl f0 rfl 12 (by decide) (hT _ kw_486) (fun _ h9 => h9) rfl hin rfl (by decide +kernel) rfl rfl (Nat.le_of_ble_eq_true rfl) d_M_init_53 (fun H locs hE hS => ?_)
  obtain ⟨b6, C6, hE, f0, f6, f7, f8, f9, f10, f12, fag, fb40, fb⟩ : ∃ (b6 : Nat → Nat) (C6 : fr_C), fr_W D hCl z b6 C6 H ∧ C6 (0, 40) = some (.inr (5, [.int 0, .int 0, .int 0, .int 0, .int 0, .int 0, .ref (b6 46), .ref (b6 47), .ref (b6 48), .ref (b6 49), .ref (b6 50), .int 0, .ref (b6 52), .null, .null, .null, .null, .int 0, .null, .null, .null, .null, .null, .int 0, .null, .null, .null, .int 0, .null, .null, .null, .null, .null, .int 0])) ∧ C6 (0, 46) = some (.inl (cI, 150, .inl (fun _ => 0))) ∧ C6 (0, 47) = some (.inl (cI, 150, .inl (fun _ => 0))) ∧ C6 (0, 48) = some (.inl (cZ, 150, .inl (fun _ => 0))) ∧ C6 (0, 49) = some (.inl (cI, 150, .inl (fun _ => 0))) ∧ C6 (0, 50) = some (.inl (cZ, 6, .inl (fun _ => 0))) ∧ C6 (0, 52) = some (.inl (cI, 30, .inl (fun _ => 0))) ∧ fr_ag [(0, 40), (0, 46), (0, 47), (0, 48), (0, 49), (0, 50), (0, 52), (0, 53), (0, 54), (0, 55), (0, 56), (0, 58), (0, 59), (0, 60), (0, 61), (0, 62), (0, 64), (0, 65), (0, 66), (0, 68), (0, 69), (0, 70), (0, 71), (0, 72)] C6 C ∧ b6 40 = b 40 ∧ ∀ i, i < 40 → b6 i = b i := ⟨_, _, hE, rfl, f6, f7, f8, f9, f10, rfl, fr_ag.up (fr_ag.up (fag) (by decide)) (by decide), fb40, fun i hi => (fr_ub_lt (by omega)).trans (fb i hi)⟩
  replace hl : lv_has ls 5 [(0, .ref (b6 40)), (1, .int page), (2, .int grains), (3, .int secs)] := by rw [fb40, ← fbo]; exact hl
  have fbo := fb40
  refine lv_aload_n hx hb d_M_init_56 rfl (lv_at hl 0 rfl) ?_
  refine lv_bipush (v := 30) hx hb d_M_init_57 (by decide) ?_
  refine fr_newa (atype := .int) (ty := .int) (a0 := (30, .inl (fun _ => 0))) hx hb (hT _ kw_74) rfl hK hE hS 53 0 rfl 30 (fun _ => rfl) (by decide) (by decide) (by decide) (Nat.le_of_ble_eq_true rfl) (Nat.le_of_ble_eq_true rfl) d_M_init_59 (fun q53 H nq53 hE hS => ?_)
  refine W.widen (k := 7) (n := 666) (Nat.le_of_ble_eq_true rfl) (by omega) ?_
  refine fr_putF (ci := 5) (v := .ref q53) (ty := (.array .int)) (Cn := hR_5) (T := hF_5) (N := 34) hx hb hT hi_5 hy_5 ho_5 hn_5 hown hK hE hS (0, 40) rfl f0 rfl 13 (by decide) (hT _ kw_487) (fun _ h9 => h9) rfl hin rfl (by decide +kernel) rfl rfl (Nat.le_of_ble_eq_true rfl) d_M_init_61 (fun H locs hE hS => ?_)
  obtain ⟨b7, C7, hE, f0, f6, f7, f8, f9, f10, f12, f13, fag, fb40, fb⟩ : ∃ (b7 : Nat → Nat) (C7 : fr_C), fr_W D hCl z b7 C7 H ∧ C7 (0, 40) = some (.inr (5, [.int 0, .int 0, .int 0, .int 0, .int 0, .int 0, .ref (b7 46), .ref (b7 47), .ref (b7 48), .ref (b7 49), .ref (b7 50), .int 0, .ref (b7 52), .ref (b7 53), .null, .null, .null, .int 0, .null, .null, .null, .null, .null, .int 0, .null, .null, .null, .int 0, .null, .null, .null, .null, .null, .int 0])) ∧ C7 (0, 46) = some (.inl (cI, 150, .inl (fun _ => 0))) ∧ C7 (0, 47) = some (.inl (cI, 150, .inl (fun _ => 0))) ∧ C7 (0, 48) = some (.inl (cZ, 150, .inl (fun _ => 0))) ∧ C7 (0, 49) = some (.inl (cI, 150, .inl (fun _ => 0))) ∧ C7 (0, 50) = some (.inl (cZ, 6, .inl (fun _ => 0))) ∧ C7 (0, 52) = some (.inl (cI, 30, .inl (fun _ => 0))) ∧ C7 (0, 53) = some (.inl (cI, 30, .inl (fun _ => 0))) ∧ fr_ag [(0, 40), (0, 46), (0, 47), (0, 48), (0, 49), (0, 50), (0, 52), (0, 53), (0, 54), (0, 55), (0, 56), (0, 58), (0, 59), (0, 60), (0, 61), (0, 62), (0, 64), (0, 65), (0, 66), (0, 68), (0, 69), (0, 70), (0, 71), (0, 72)] C7 C ∧ b7 40 = b 40 ∧ ∀ i, i < 40 → b7 i = b i := ⟨_, _, hE, rfl, f6, f7, f8, f9, f10, f12, rfl, fr_ag.up (fr_ag.up (fag) (by decide)) (by decide), fb40, fun i hi => (fr_ub_lt (by omega)).trans (fb i hi)⟩
  replace hl : lv_has ls 5 [(0, .ref (b7 40)), (1, .int page), (2, .int grains), (3, .int secs)] := by rw [fb40, ← fbo]; exact hl
  have fbo := fb40
  refine lv_aload_n hx hb d_M_init_64 rfl (lv_at hl 0 rfl) ?_
  refine lv_bipush (v := 30) hx hb d_M_init_65 (by decide) ?_
  refine fr_newa (atype := .int) (ty := .int) (a0 := (30, .inl (fun _ => 0))) hx hb (hT _ kw_74) rfl hK hE hS 54 0 rfl 30 (fun _ => rfl) (by decide) (by decide) (by decide) (Nat.le_of_ble_eq_true rfl) (Nat.le_of_ble_eq_true rfl) d_M_init_67 (fun q54 H nq54 hE hS => ?_)
  refine W.widen (k := 8) (n := 696) (Nat.le_of_ble_eq_true rfl) (by omega) ?_
  refine fr_putF (ci := 5) (v := .ref q54) (ty := (.array .int)) (Cn := hR_5) (T := hF_5) (N := 34) hx hb hT hi_5 hy_5 ho_5 hn_5 hown hK hE hS (0, 40) rfl f0 rfl 14 (by decide) (hT _ kw_488) (fun _ h9 => h9) rfl hin rfl (by decide +kernel) rfl rfl (Nat.le_of_ble_eq_true rfl) d_M_init_69 (fun H locs hE hS => ?_)
  obtain ⟨b8, C8, hE, f0, f6, f7, f8, f9, f10, f12, f13, f14, fag, fb40, fb⟩ : ∃ (b8 : Nat → Nat) (C8 : fr_C), fr_W D hCl z b8 C8 H ∧ C8 (0, 40) = some (.inr (5, [.int 0, .int 0, .int 0, .int 0, .int 0, .int 0, .ref (b8 46), .ref (b8 47), .ref (b8 48), .ref (b8 49), .ref (b8 50), .int 0, .ref (b8 52), .ref (b8 53), .ref (b8 54), .null, .null, .int 0, .null, .null, .null, .null, .null, .int 0, .null, .null, .null, .int 0, .null, .null, .null, .null, .null, .int 0])) ∧ C8 (0, 46) = some (.inl (cI, 150, .inl (fun _ => 0))) ∧ C8 (0, 47) = some (.inl (cI, 150, .inl (fun _ => 0))) ∧ C8 (0, 48) = some (.inl (cZ, 150, .inl (fun _ => 0))) ∧ C8 (0, 49) = some (.inl (cI, 150, .inl (fun _ => 0))) ∧ C8 (0, 50) = some (.inl (cZ, 6, .inl (fun _ => 0))) ∧ C8 (0, 52) = some (.inl (cI, 30, .inl (fun _ => 0))) ∧ C8 (0, 53) = some (.inl (cI, 30, .inl (fun _ => 0))) ∧ C8 (0, 54) = some (.inl (cI, 30, .inl (fun _ => 0))) ∧ fr_ag [(0, 40), (0, 46), (0, 47), (0, 48), (0, 49), (0, 50), (0, 52), (0, 53), (0, 54), (0, 55), (0, 56), (0, 58), (0, 59), (0, 60), (0, 61), (0, 62), (0, 64), (0, 65), (0, 66), (0, 68), (0, 69), (0, 70), (0, 71), (0, 72)] C8 C ∧ b8 40 = b 40 ∧ ∀ i, i < 40 → b8 i = b i := ⟨_, _, hE, rfl, f6, f7, f8, f9, f10, f12, f13, rfl, fr_ag.up (fr_ag.up (fag) (by decide)) (by decide), fb40, fun i hi => (fr_ub_lt (by omega)).trans (fb i hi)⟩
  replace hl : lv_has ls 5 [(0, .ref (b8 40)), (1, .int page), (2, .int grains), (3, .int secs)] := by rw [fb40, ← fbo]; exact hl
  have fbo := fb40
  refine lv_aload_n hx hb d_M_init_72 rfl (lv_at hl 0 rfl) ?_
  refine lv_bipush (v := 30) hx hb d_M_init_73 (by decide) ?_
  refine fr_newa (atype := .int) (ty := .int) (a0 := (30, .inl (fun _ => 0))) hx hb (hT _ kw_74) rfl hK hE hS 55 0 rfl 30 (fun _ => rfl) (by decide) (by decide) (by decide) (Nat.le_of_ble_eq_true rfl) (Nat.le_of_ble_eq_true rfl) d_M_init_75 (fun q55 H nq55 hE hS => ?_)
  refine W.widen (k := 9) (n := 726) (Nat.le_of_ble_eq_true rfl) (by omega) ?_
  refine fr_putF (ci := 5) (v := .ref q55) (ty := (.array .int)) (Cn := hR_5) (T := hF_5) (N := 34) hx hb hT hi_5 hy_5 ho_5 hn_5 hown hK hE hS (0, 40) rfl f0 rfl 15 (by decide) (hT _ kw_489) (fun _ h9 => h9) rfl hin rfl (by decide +kernel) rfl rfl (Nat.le_of_ble_eq_true rfl) d_M_init_77 (fun H locs hE hS => ?_)
  obtain ⟨b9, C9, hE, f0, f6, f7, f8, f9, f10, f12, f13, f14, f15, fag, fb40, fb⟩ : ∃ (b9 : Nat → Nat) (C9 : fr_C), fr_W D hCl z b9 C9 H ∧ C9 (0, 40) = some (.inr (5, [.int 0, .int 0, .int 0, .int 0, .int 0, .int 0, .ref (b9 46), .ref (b9 47), .ref (b9 48), .ref (b9 49), .ref (b9 50), .int 0, .ref (b9 52), .ref (b9 53), .ref (b9 54), .ref (b9 55), .null, .int 0, .null, .null, .null, .null, .null, .int 0, .null, .null, .null, .int 0, .null, .null, .null, .null, .null, .int 0])) ∧ C9 (0, 46) = some (.inl (cI, 150, .inl (fun _ => 0))) ∧ C9 (0, 47) = some (.inl (cI, 150, .inl (fun _ => 0))) ∧ C9 (0, 48) = some (.inl (cZ, 150, .inl (fun _ => 0))) ∧ C9 (0, 49) = some (.inl (cI, 150, .inl (fun _ => 0))) ∧ C9 (0, 50) = some (.inl (cZ, 6, .inl (fun _ => 0))) ∧ C9 (0, 52) = some (.inl (cI, 30, .inl (fun _ => 0))) ∧ C9 (0, 53) = some (.inl (cI, 30, .inl (fun _ => 0))) ∧ C9 (0, 54) = some (.inl (cI, 30, .inl (fun _ => 0))) ∧ C9 (0, 55) = some (.inl (cI, 30, .inl (fun _ => 0))) ∧ fr_ag [(0, 40), (0, 46), (0, 47), (0, 48), (0, 49), (0, 50), (0, 52), (0, 53), (0, 54), (0, 55), (0, 56), (0, 58), (0, 59), (0, 60), (0, 61), (0, 62), (0, 64), (0, 65), (0, 66), (0, 68), (0, 69), (0, 70), (0, 71), (0, 72)] C9 C ∧ b9 40 = b 40 ∧ ∀ i, i < 40 → b9 i = b i := ⟨_, _, hE, rfl, f6, f7, f8, f9, f10, f12, f13, f14, rfl, fr_ag.up (fr_ag.up (fag) (by decide)) (by decide), fb40, fun i hi => (fr_ub_lt (by omega)).trans (fb i hi)⟩
  replace hl : lv_has ls 5 [(0, .ref (b9 40)), (1, .int page), (2, .int grains), (3, .int secs)] := by rw [fb40, ← fbo]; exact hl
  have fbo := fb40
  refine lv_aload_n hx hb d_M_init_80 rfl (lv_at hl 0 rfl) ?_
  refine lv_sipush (v := 4500) hx hb d_M_init_81 (by decide) ?_
  refine fr_newa (atype := .int) (ty := .int) (a0 := (4500, .inl (fun _ => 0))) hx hb (hT _ kw_74) rfl hK hE hS 56 0 rfl 4500 (fun _ => rfl) (by decide) (by decide) (by decide) (Nat.le_of_ble_eq_true rfl) (Nat.le_of_ble_eq_true rfl) d_M_init_84 (fun q56 H nq56 hE hS => ?_)
  refine W.widen (k := 10) (n := 5226) (Nat.le_of_ble_eq_true rfl) (by omega) ?_
  refine fr_putF (ci := 5) (v := .ref q56) (ty := (.array .int)) (Cn := hR_5) (T := hF_5) (N := 34) hx hb hT hi_5 hy_5 ho_5 hn_5 hown hK hE hS (0, 40) rfl f0 rfl 16 (by decide) (hT _ kw_490) (fun _ h9 => h9) rfl hin rfl (by decide +kernel) rfl rfl (Nat.le_of_ble_eq_true rfl) d_M_init_86 (fun H locs hE hS => ?_)
  obtain ⟨b10, C10, hE, f0, f6, f7, f8, f9, f10, f12, f13, f14, f15, f16, fag, fb40, fb⟩ : ∃ (b10 : Nat → Nat) (C10 : fr_C), fr_W D hCl z b10 C10 H ∧ C10 (0, 40) = some (.inr (5, [.int 0, .int 0, .int 0, .int 0, .int 0, .int 0, .ref (b10 46), .ref (b10 47), .ref (b10 48), .ref (b10 49), .ref (b10 50), .int 0, .ref (b10 52), .ref (b10 53), .ref (b10 54), .ref (b10 55), .ref (b10 56), .int 0, .null, .null, .null, .null, .null, .int 0, .null, .null, .null, .int 0, .null, .null, .null, .null, .null, .int 0])) ∧ C10 (0, 46) = some (.inl (cI, 150, .inl (fun _ => 0))) ∧ C10 (0, 47) = some (.inl (cI, 150, .inl (fun _ => 0))) ∧ C10 (0, 48) = some (.inl (cZ, 150, .inl (fun _ => 0))) ∧ C10 (0, 49) = some (.inl (cI, 150, .inl (fun _ => 0))) ∧ C10 (0, 50) = some (.inl (cZ, 6, .inl (fun _ => 0))) ∧ C10 (0, 52) = some (.inl (cI, 30, .inl (fun _ => 0))) ∧ C10 (0, 53) = some (.inl (cI, 30, .inl (fun _ => 0))) ∧ C10 (0, 54) = some (.inl (cI, 30, .inl (fun _ => 0))) ∧ C10 (0, 55) = some (.inl (cI, 30, .inl (fun _ => 0))) ∧ C10 (0, 56) = some (.inl (cI, 4500, .inl (fun _ => 0))) ∧ fr_ag [(0, 40), (0, 46), (0, 47), (0, 48), (0, 49), (0, 50), (0, 52), (0, 53), (0, 54), (0, 55), (0, 56), (0, 58), (0, 59), (0, 60), (0, 61), (0, 62), (0, 64), (0, 65), (0, 66), (0, 68), (0, 69), (0, 70), (0, 71), (0, 72)] C10 C ∧ b10 40 = b 40 ∧ ∀ i, i < 40 → b10 i = b i := ⟨_, _, hE, rfl, f6, f7, f8, f9, f10, f12, f13, f14, f15, rfl, fr_ag.up (fr_ag.up (fag) (by decide)) (by decide), fb40, fun i hi => (fr_ub_lt (by omega)).trans (fb i hi)⟩
  replace hl : lv_has ls 5 [(0, .ref (b10 40)), (1, .int page), (2, .int grains), (3, .int secs)] := by rw [fb40, ← fbo]; exact hl
  have fbo := fb40
  refine lv_aload_n hx hb d_M_init_89 rfl (lv_at hl 0 rfl) ?_
  refine lv_sipush (v := 4600) hx hb d_M_init_90 (by decide) ?_
  refine fr_newa (atype := .int) (ty := .int) (a0 := (4600, .inl (fun _ => 0))) hx hb (hT _ kw_74) rfl hK hE hS 58 0 rfl 4600 (fun _ => rfl) (by decide) (by decide) (by decide) (Nat.le_of_ble_eq_true rfl) (Nat.le_of_ble_eq_true rfl) d_M_init_93 (fun q58 H nq58 hE hS => ?_)
  refine W.widen (k := 11) (n := 9826) (Nat.le_of_ble_eq_true rfl) (by omega) ?_
  refine fr_putF (ci := 5) (v := .ref q58) (ty := (.array .int)) (Cn := hR_5) (T := hF_5) (N := 34) hx hb hT hi_5 hy_5 ho_5 hn_5 hown hK hE hS (0, 40) rfl f0 rfl 18 (by decide) (hT _ kw_492) (fun _ h9 => h9) rfl hin rfl (by decide +kernel) rfl rfl (Nat.le_of_ble_eq_true rfl) d_M_init_95 (fun H locs hE hS => ?_)
  obtain ⟨b11, C11, hE, f0, f6, f7, f8, f9, f10, f12, f13, f14, f15, f16, f18, fag, fb40, fb⟩ : ∃ (b11 : Nat → Nat) (C11 : fr_C), fr_W D hCl z b11 C11 H ∧ C11 (0, 40) = some (.inr (5, [.int 0, .int 0, .int 0, .int 0, .int 0, .int 0, .ref (b11 46), .ref (b11 47), .ref (b11 48), .ref (b11 49), .ref (b11 50), .int 0, .ref (b11 52), .ref (b11 53), .ref (b11 54), .ref (b11 55), .ref (b11 56), .int 0, .ref (b11 58), .null, .null, .null, .null, .int 0, .null, .null, .null, .int 0, .null, .null, .null, .null, .null, .int 0])) ∧ C11 (0, 46) = some (.inl (cI, 150, .inl (fun _ => 0))) ∧ C11 (0, 47) = some (.inl (cI, 150, .inl (fun _ => 0))) ∧ C11 (0, 48) = some (.inl (cZ, 150, .inl (fun _ => 0))) ∧ C11 (0, 49) = some (.inl (cI, 150, .inl (fun _ => 0))) ∧ C11 (0, 50) = some (.inl (cZ, 6, .inl (fun _ => 0))) ∧ C11 (0, 52) = some (.inl (cI, 30, .inl (fun _ => 0))) ∧ C11 (0, 53) = some (.inl (cI, 30, .inl (fun _ => 0))) ∧ C11 (0, 54) = some (.inl (cI, 30, .inl (fun _ => 0))) ∧ C11 (0, 55) = some (.inl (cI, 30, .inl (fun _ => 0))) ∧ C11 (0, 56) = some (.inl (cI, 4500, .inl (fun _ => 0))) ∧ C11 (0, 58) = some (.inl (cI, 4600, .inl (fun _ => 0))) ∧ fr_ag [(0, 40), (0, 46), (0, 47), (0, 48), (0, 49), (0, 50), (0, 52), (0, 53), (0, 54), (0, 55), (0, 56), (0, 58), (0, 59), (0, 60), (0, 61), (0, 62), (0, 64), (0, 65), (0, 66), (0, 68), (0, 69), (0, 70), (0, 71), (0, 72)] C11 C ∧ b11 40 = b 40 ∧ ∀ i, i < 40 → b11 i = b i := ⟨_, _, hE, rfl, f6, f7, f8, f9, f10, f12, f13, f14, f15, f16, rfl, fr_ag.up (fr_ag.up (fag) (by decide)) (by decide), fb40, fun i hi => (fr_ub_lt (by omega)).trans (fb i hi)⟩
  replace hl : lv_has ls 5 [(0, .ref (b11 40)), (1, .int page), (2, .int grains), (3, .int secs)] := by rw [fb40, ← fbo]; exact hl
  have fbo := fb40
  refine lv_aload_n hx hb d_M_init_98 rfl (lv_at hl 0 rfl) ?_
  refine lv_sipush (v := 4600) hx hb d_M_init_99 (by decide) ?_
  refine fr_newa (atype := .int) (ty := .int) (a0 := (4600, .inl (fun _ => 0))) hx hb (hT _ kw_74) rfl hK hE hS 59 0 rfl 4600 (fun _ => rfl) (by decide) (by decide) (by decide) (Nat.le_of_ble_eq_true rfl) (Nat.le_of_ble_eq_true rfl) d_M_init_102 (fun q59 H nq59 hE hS => ?_)
  refine W.widen (k := 12) (n := 14426) (Nat.le_of_ble_eq_true rfl) (by omega) ?_
  refine fr_putF (ci := 5) (v := .ref q59) (ty := (.array .int)) (Cn := hR_5) (T := hF_5) (N := 34) hx hb hT hi_5 hy_5 ho_5 hn_5 hown hK hE hS (0, 40) rfl f0 rfl 19 (by decide) (hT _ kw_493) (fun _ h9 => h9) rfl hin rfl (by decide +kernel) rfl rfl (Nat.le_of_ble_eq_true rfl) d_M_init_104 (fun H locs hE hS => ?_)
  obtain ⟨b12, C12, hE, f0, f6, f7, f8, f9, f10, f12, f13, f14, f15, f16, f18, f19, fag, fb40, fb⟩ : ∃ (b12 : Nat → Nat) (C12 : fr_C), fr_W D hCl z b12 C12 H ∧ C12 (0, 40) = some (.inr (5, [.int 0, .int 0, .int 0, .int 0, .int 0, .int 0, .ref (b12 46), .ref (b12 47), .ref (b12 48), .ref (b12 49), .ref (b12 50), .int 0, .ref (b12 52), .ref (b12 53), .ref (b12 54), .ref (b12 55), .ref (b12 56), .int 0, .ref (b12 58), .ref (b12 59), .null, .null, .null, .int 0, .null, .null, .null, .int 0, .null, .null, .null, .null, .null, .int 0])) ∧ C12 (0, 46) = some (.inl (cI, 150, .inl (fun _ => 0))) ∧ C12 (0, 47) = some (.inl (cI, 150, .inl (fun _ => 0))) ∧ C12 (0, 48) = some (.inl (cZ, 150, .inl (fun _ => 0))) ∧ C12 (0, 49) = some (.inl (cI, 150, .inl (fun _ => 0))) ∧ C12 (0, 50) = some (.inl (cZ, 6, .inl (fun _ => 0))) ∧ C12 (0, 52) = some (.inl (cI, 30, .inl (fun _ => 0))) ∧ C12 (0, 53) = some (.inl (cI, 30, .inl (fun _ => 0))) ∧ C12 (0, 54) = some (.inl (cI, 30, .inl (fun _ => 0))) ∧ C12 (0, 55) = some (.inl (cI, 30, .inl (fun _ => 0))) ∧ C12 (0, 56) = some (.inl (cI, 4500, .inl (fun _ => 0))) ∧ C12 (0, 58) = some (.inl (cI, 4600, .inl (fun _ => 0))) ∧ C12 (0, 59) = some (.inl (cI, 4600, .inl (fun _ => 0))) ∧ fr_ag [(0, 40), (0, 46), (0, 47), (0, 48), (0, 49), (0, 50), (0, 52), (0, 53), (0, 54), (0, 55), (0, 56), (0, 58), (0, 59), (0, 60), (0, 61), (0, 62), (0, 64), (0, 65), (0, 66), (0, 68), (0, 69), (0, 70), (0, 71), (0, 72)] C12 C ∧ b12 40 = b 40 ∧ ∀ i, i < 40 → b12 i = b i := ⟨_, _, hE, rfl, f6, f7, f8, f9, f10, f12, f13, f14, f15, f16, f18, rfl, fr_ag.up (fr_ag.up (fag) (by decide)) (by decide), fb40, fun i hi => (fr_ub_lt (by omega)).trans (fb i hi)⟩
  replace hl : lv_has ls 5 [(0, .ref (b12 40)), (1, .int page), (2, .int grains), (3, .int secs)] := by rw [fb40, ← fbo]; exact hl
  have fbo := fb40
  refine lv_aload_n hx hb d_M_init_107 rfl (lv_at hl 0 rfl) ?_
  refine lv_sipush (v := 4600) hx hb d_M_init_108 (by decide) ?_
  refine fr_newa (atype := .int) (ty := .int) (a0 := (4600, .inl (fun _ => 0))) hx hb (hT _ kw_74) rfl hK hE hS 60 0 rfl 4600 (fun _ => rfl) (by decide) (by decide) (by decide) (Nat.le_of_ble_eq_true rfl) (Nat.le_of_ble_eq_true rfl) d_M_init_111 (fun q60 H nq60 hE hS => ?_)
  refine W.widen (k := 13) (n := 19026) (Nat.le_of_ble_eq_true rfl) (by omega) ?_
  refine fr_putF (ci := 5) (v := .ref q60) (ty := (.array .int)) (Cn := hR_5) (T := hF_5) (N := 34) hx hb hT hi_5 hy_5 ho_5 hn_5 hown hK hE hS (0, 40) rfl f0 rfl 20 (by decide) (hT _ kw_494) (fun _ h9 => h9) rfl hin rfl (by decide +kernel) rfl rfl (Nat.le_of_ble_eq_true rfl) d_M_init_113 (fun H locs hE hS => ?_)
  obtain ⟨b13, C13, hE, f0, f6, f7, f8, f9, f10, f12, f13, f14, f15, f16, f18, f19, f20, fag, fb40, fb⟩ : ∃ (b13 : Nat → Nat) (C13 : fr_C), fr_W D hCl z b13 C13 H ∧ C13 (0, 40) = some (.inr (5, [.int 0, .int 0, .int 0, .int 0, .int 0, .int 0, .ref (b13 46), .ref (b13 47), .ref (b13 48), .ref (b13 49), .ref (b13 50), .int 0, .ref (b13 52), .ref (b13 53), .ref (b13 54), .ref (b13 55), .ref (b13 56), .int 0, .ref (b13 58), .ref (b13 59), .ref (b13 60), .null, .null, .int 0, .null, .null, .null, .int 0, .null, .null, .null, .null, .null, .int 0])) ∧ C13 (0, 46) = some (.inl (cI, 150, .inl (fun _ => 0))) ∧ C13 (0, 47) = some (.inl (cI, 150, .inl (fun _ => 0))) ∧ C13 (0, 48) = some (.inl (cZ, 150, .inl (fun _ => 0))) ∧ C13 (0, 49) = some (.inl (cI, 150, .inl (fun _ => 0))) ∧ C13 (0, 50) = some (.inl (cZ, 6, .inl (fun _ => 0))) ∧ C13 (0, 52) = some (.inl (cI, 30, .inl (fun _ => 0))) ∧ C13 (0, 53) = some (.inl (cI, 30, .inl (fun _ => 0))) ∧ C13 (0, 54) = some (.inl (cI, 30, .inl (fun _ => 0))) ∧ C13 (0, 55) = some (.inl (cI, 30, .inl (fun _ => 0))) ∧ C13 (0, 56) = some (.inl (cI, 4500, .inl (fun _ => 0))) ∧ C13 (0, 58) = some (.inl (cI, 4600, .inl (fun _ => 0))) ∧ C13 (0, 59) = some (.inl (cI, 4600, .inl (fun _ => 0))) ∧ C13 (0, 60) = some (.inl (cI, 4600, .inl (fun _ => 0))) ∧ fr_ag [(0, 40), (0, 46), (0, 47), (0, 48), (0, 49), (0, 50), (0, 52), (0, 53), (0, 54), (0, 55), (0, 56), (0, 58), (0, 59), (0, 60), (0, 61), (0, 62), (0, 64), (0, 65), (0, 66), (0, 68), (0, 69), (0, 70), (0, 71), (0, 72)] C13 C ∧ b13 40 = b 40 ∧ ∀ i, i < 40 → b13 i = b i := ⟨_, _, hE, rfl, f6, f7, f8, f9, f10, f12, f13, f14, f15, f16, f18, f19, rfl, fr_ag.up (fr_ag.up (fag) (by decide)) (by decide), fb40, fun i hi => (fr_ub_lt (by omega)).trans (fb i hi)⟩
  replace hl : lv_has ls 5 [(0, .ref (b13 40)), (1, .int page), (2, .int grains), (3, .int secs)] := by rw [fb40, ← fbo]; exact hl
  have fbo := fb40
  refine lv_aload_n hx hb d_M_init_116 rfl (lv_at hl 0 rfl) ?_
  refine lv_sipush (v := 4600) hx hb d_M_init_117 (by decide) ?_
  refine fr_newa (atype := .int) (ty := .int) (a0 := (4600, .inl (fun _ => 0))) hx hb (hT _ kw_74) rfl hK hE hS 61 0 rfl 4600 (fun _ => rfl) (by decide) (by decide) (by decide) (Nat.le_of_ble_eq_true rfl) (Nat.le_of_ble_eq_true rfl) d_M_init_120 (fun q61 H nq61 hE hS => ?_)
  refine W.widen (k := 14) (n := 23626) (Nat.le_of_ble_eq_true rfl) (by omega) ?_
  refine fr_putF (ci := 5) (v := .ref q61) (ty := (.array .int)) (Cn := hR_5) (T := hF_5) (N := 34) hx hb hT hi_5 hy_5 ho_5 hn_5 hown hK hE hS (0, 40) rfl f0 rfl 21 (by decide) (hT _ kw_495) (fun _ h9 => h9) rfl hin rfl (by decide +kernel) rfl rfl (Nat.le_of_ble_eq_true rfl) d_M_init_122 (fun H locs hE hS => ?_)
  obtain ⟨b14, C14, hE, f0, f6, f7, f8, f9, f10, f12, f13, f14, f15, f16, f18, f19, f20, f21, fag, fb40, fb⟩ : ∃ (b14 : Nat → Nat) (C14 : fr_C), fr_W D hCl z b14 C14 H ∧ C14 (0, 40) = some (.inr (5, [.int 0, .int 0, .int 0, .int 0, .int 0, .int 0, .ref (b14 46), .ref (b14 47), .ref (b14 48), .ref (b14 49), .ref (b14 50), .int 0, .ref (b14 52), .ref (b14 53), .ref (b14 54), .ref (b14 55), .ref (b14 56), .int 0, .ref (b14 58), .ref (b14 59), .ref (b14 60), .ref (b14 61), .null, .int 0, .null, .null, .null, .int 0, .null, .null, .null, .null, .null, .int 0])) ∧ C14 (0, 46) = some (.inl (cI, 150, .inl (fun _ => 0))) ∧ C14 (0, 47) = some (.inl (cI, 150, .inl (fun _ => 0))) ∧ C14 (0, 48) = some (.inl (cZ, 150, .inl (fun _ => 0))) ∧ C14 (0, 49) = some (.inl (cI, 150, .inl (fun _ => 0))) ∧ C14 (0, 50) = some (.inl (cZ, 6, .inl (fun _ => 0))) ∧ C14 (0, 52) = some (.inl (cI, 30, .inl (fun _ => 0))) ∧ C14 (0, 53) = some (.inl (cI, 30, .inl (fun _ => 0))) ∧ C14 (0, 54) = some (.inl (cI, 30, .inl (fun _ => 0))) ∧ C14 (0, 55) = some (.inl (cI, 30, .inl (fun _ => 0))) ∧ C14 (0, 56) = some (.inl (cI, 4500, .inl (fun _ => 0))) ∧ C14 (0, 58) = some (.inl (cI, 4600, .inl (fun _ => 0))) ∧ C14 (0, 59) = some (.inl (cI, 4600, .inl (fun _ => 0))) ∧ C14 (0, 60) = some (.inl (cI, 4600, .inl (fun _ => 0))) ∧ C14 (0, 61) = some (.inl (cI, 4600, .inl (fun _ => 0))) ∧ fr_ag [(0, 40), (0, 46), (0, 47), (0, 48), (0, 49), (0, 50), (0, 52), (0, 53), (0, 54), (0, 55), (0, 56), (0, 58), (0, 59), (0, 60), (0, 61), (0, 62), (0, 64), (0, 65), (0, 66), (0, 68), (0, 69), (0, 70), (0, 71), (0, 72)] C14 C ∧ b14 40 = b 40 ∧ ∀ i, i < 40 → b14 i = b i := ⟨_, _, hE, rfl, f6, f7, f8, f9, f10, f12, f13, f14, f15, f16, f18, f19, f20, rfl, fr_ag.up (fr_ag.up (fag) (by decide)) (by decide), fb40, fun i hi => (fr_ub_lt (by omega)).trans (fb i hi)⟩
  replace hl : lv_has ls 5 [(0, .ref (b14 40)), (1, .int page), (2, .int grains), (3, .int secs)] := by rw [fb40, ← fbo]; exact hl
  have fbo := fb40
  refine lv_aload_n hx hb d_M_init_125 rfl (lv_at hl 0 rfl) ?_
  refine lv_sipush (v := 4600) hx hb d_M_init_126 (by decide) ?_
  refine fr_newa (atype := .int) (ty := .int) (a0 := (4600, .inl (fun _ => 0))) hx hb (hT _ kw_74) rfl hK hE hS 62 0 rfl 4600 (fun _ => rfl) (by decide) (by decide) (by decide) (Nat.le_of_ble_eq_true rfl) (Nat.le_of_ble_eq_true rfl) d_M_init_129 (fun q62 H nq62 hE hS => ?_)
  refine W.widen (k := 15) (n := 28226) (Nat.le_of_ble_eq_true rfl) (by omega) ?_
  refine fr_putF (ci := 5) (v := .ref q62) (ty := (.array .int)) (Cn := hR_5) (T := hF_5) (N := 34) hx hb hT hi_5 hy_5 ho_5 hn_5 hown hK hE hS (0, 40) rfl f0 rfl 22 (by decide) (hT _ kw_496) (fun _ h9 => h9) rfl hin rfl (by decide +kernel) rfl rfl (Nat.le_of_ble_eq_true rfl) d_M_init_131 (fun H locs hE hS => ?_)
  obtain ⟨b15, C15, hE, f0, f6, f7, f8, f9, f10, f12, f13, f14, f15, f16, f18, f19, f20, f21, f22, fag, fb40, fb⟩ : ∃ (b15 : Nat → Nat) (C15 : fr_C), fr_W D hCl z b15 C15 H ∧ C15 (0, 40) = some (.inr (5, [.int 0, .int 0, .int 0, .int 0, .int 0, .int 0, .ref (b15 46), .ref (b15 47), .ref (b15 48), .ref (b15 49), .ref (b15 50), .int 0, .ref (b15 52), .ref (b15 53), .ref (b15 54), .ref (b15 55), .ref (b15 56), .int 0, .ref (b15 58), .ref (b15 59), .ref (b15 60), .ref (b15 61), .ref (b15 62), .int 0, .null, .null, .null, .int 0, .null, .null, .null, .null, .null, .int 0])) ∧ C15 (0, 46) = some (.inl (cI, 150, .inl (fun _ => 0))) ∧ C15 (0, 47) = some (.inl (cI, 150, .inl (fun _ => 0))) ∧ C15 (0, 48) = some (.inl (cZ, 150, .inl (fun _ => 0))) ∧ C15 (0, 49) = some (.inl (cI, 150, .inl (fun _ => 0))) ∧ C15 (0, 50) = some (.inl (cZ, 6, .inl (fun _ => 0))) ∧ C15 (0, 52) = some (.inl (cI, 30, .inl (fun _ => 0))) ∧ C15 (0, 53) = some (.inl (cI, 30, .inl (fun _ => 0))) ∧ C15 (0, 54) = some (.inl (cI, 30, .inl (fun _ => 0))) ∧ C15 (0, 55) = some (.inl (cI, 30, .inl (fun _ => 0))) ∧ C15 (0, 56) = some (.inl (cI, 4500, .inl (fun _ => 0))) ∧ C15 (0, 58) = some (.inl (cI, 4600, .inl (fun _ => 0))) ∧ C15 (0, 59) = some (.inl (cI, 4600, .inl (fun _ => 0))) ∧ C15 (0, 60) = some (.inl (cI, 4600, .inl (fun _ => 0))) ∧ C15 (0, 61) = some (.inl (cI, 4600, .inl (fun _ => 0))) ∧ C15 (0, 62) = some (.inl (cI, 4600, .inl (fun _ => 0))) ∧ fr_ag [(0, 40), (0, 46), (0, 47), (0, 48), (0, 49), (0, 50), (0, 52), (0, 53), (0, 54), (0, 55), (0, 56), (0, 58), (0, 59), (0, 60), (0, 61), (0, 62), (0, 64), (0, 65), (0, 66), (0, 68), (0, 69), (0, 70), (0, 71), (0, 72)] C15 C ∧ b15 40 = b 40 ∧ ∀ i, i < 40 → b15 i = b i := ⟨_, _, hE, rfl, f6, f7, f8, f9, f10, f12, f13, f14, f15, f16, f18, f19, f20, f21, rfl, fr_ag.up (fr_ag.up (fag) (by decide)) (by decide), fb40, fun i hi => (fr_ub_lt (by omega)).trans (fb i hi)⟩
  replace hl : lv_has ls 5 [(0, .ref (b15 40)), (1, .int page), (2, .int grains), (3, .int secs)] := by rw [fb40, ← fbo]; exact hl
  have fbo := fb40
  refine lv_aload_n hx hb d_M_init_134 rfl (lv_at hl 0 rfl) ?_
  refine lv_sipush (v := 4500) hx hb d_M_init_135 (by decide) ?_
  refine fr_newa (atype := .int) (ty := .int) (a0 := (4500, .inl (fun _ => 0))) hx hb (hT _ kw_74) rfl hK hE hS 64 0 rfl 4500 (fun _ => rfl) (by decide) (by decide) (by decide) (Nat.le_of_ble_eq_true rfl) (Nat.le_of_ble_eq_true rfl) d_M_init_138 (fun q64 H nq64 hE hS => ?_)
  refine W.widen (k := 16) (n := 32726) (Nat.le_of_ble_eq_true rfl) (by omega) ?_
  refine fr_putF (ci := 5) (v := .ref q64) (ty := (.array .int)) (Cn := hR_5) (T := hF_5) (N := 34) hx hb hT hi_5 hy_5 ho_5 hn_5 hown hK hE hS (0, 40) rfl f0 rfl 24 (by decide) (hT _ kw_498) (fun _ h9 => h9) rfl hin rfl (by decide +kernel) rfl rfl (Nat.le_of_ble_eq_true rfl) d_M_init_140 (fun H locs hE hS => ?_)
  obtain ⟨b16, C16, hE, f0, f6, f7, f8, f9, f10, f12, f13, f14, f15, f16, f18, f19, f20, f21, f22, f24, fag, fb40, fb⟩ : ∃ (b16 : Nat → Nat) (C16 : fr_C), fr_W D hCl z b16 C16 H ∧ C16 (0, 40) = some (.inr (5, [.int 0, .int 0, .int 0, .int 0, .int 0, .int 0, .ref (b16 46), .ref (b16 47), .ref (b16 48), .ref (b16 49), .ref (b16 50), .int 0, .ref (b16 52), .ref (b16 53), .ref (b16 54), .ref (b16 55), .ref (b16 56), .int 0, .ref (b16 58), .ref (b16 59), .ref (b16 60), .ref (b16 61), .ref (b16 62), .int 0, .ref (b16 64), .null, .null, .int 0, .null, .null, .null, .null, .null, .int 0])) ∧ C16 (0, 46) = some (.inl (cI, 150, .inl (fun _ => 0))) ∧ C16 (0, 47) = some (.inl (cI, 150, .inl (fun _ => 0))) ∧ C16 (0, 48) = some (.inl (cZ, 150, .inl (fun _ => 0))) ∧ C16 (0, 49) = some (.inl (cI, 150, .inl (fun _ => 0))) ∧ C16 (0, 50) = some (.inl (cZ, 6, .inl (fun _ => 0))) ∧ C16 (0, 52) = some (.inl (cI, 30, .inl (fun _ => 0))) ∧ C16 (0, 53) = some (.inl (cI, 30, .inl (fun _ => 0))) ∧ C16 (0, 54) = some (.inl (cI, 30, .inl (fun _ => 0))) ∧ C16 (0, 55) = some (.inl (cI, 30, .inl (fun _ => 0))) ∧ C16 (0, 56) = some (.inl (cI, 4500, .inl (fun _ => 0))) ∧ C16 (0, 58) = some (.inl (cI, 4600, .inl (fun _ => 0))) ∧ C16 (0, 59) = some (.inl (cI, 4600, .inl (fun _ => 0))) ∧ C16 (0, 60) = some (.inl (cI, 4600, .inl (fun _ => 0))) ∧ C16 (0, 61) = some (.inl (cI, 4600, .inl (fun _ => 0))) ∧ C16 (0, 62) = some (.inl (cI, 4600, .inl (fun _ => 0))) ∧ C16 (0, 64) = some (.inl (cI, 4500, .inl (fun _ => 0))) ∧ fr_ag [(0, 40), (0, 46), (0, 47), (0, 48), (0, 49), (0, 50), (0, 52), (0, 53), (0, 54), (0, 55), (0, 56), (0, 58), (0, 59), (0, 60), (0, 61), (0, 62), (0, 64), (0, 65), (0, 66), (0, 68), (0, 69), (0, 70), (0, 71), (0, 72)] C16 C ∧ b16 40 = b 40 ∧ ∀ i, i < 40 → b16 i = b i := ⟨_, _, hE, rfl, f6, f7, f8, f9, f10, f12, f13, f14, f15, f16, f18, f19, f20, f21, f22, rfl, fr_ag.up (fr_ag.up (fag) (by decide)) (by decide), fb40, fun i hi => (fr_ub_lt (by omega)).trans (fb i hi)⟩
  replace hl : lv_has ls 5 [(0, .ref (b16 40)), (1, .int page), (2, .int grains), (3, .int secs)] := by rw [fb40, ← fbo]; exact hl
  have fbo := fb40
  refine lv_aload_n hx hb d_M_init_143 rfl (lv_at hl 0 rfl) ?_
  refine lv_sipush (v := 4500) hx hb d_M_init_144 (by decide) ?_
  refine fr_newa (atype := .int) (ty := .int) (a0 := (4500, .inl (fun _ => 0))) hx hb (hT _ kw_74) rfl hK hE hS 65 0 rfl 4500 (fun _ => rfl) (by decide) (by decide) (by decide) (Nat.le_of_ble_eq_true rfl) (Nat.le_of_ble_eq_true rfl) d_M_init_147 (fun q65 H nq65 hE hS => ?_)
  refine W.widen (k := 17) (n := 37226) (Nat.le_of_ble_eq_true rfl) (by omega) ?_
  refine fr_putF (ci := 5) (v := .ref q65) (ty := (.array .int)) (Cn := hR_5) (T := hF_5) (N := 34) hx hb hT hi_5 hy_5 ho_5 hn_5 hown hK hE hS (0, 40) rfl f0 rfl 25 (by decide) (hT _ kw_499) (fun _ h9 => h9) rfl hin rfl (by decide +kernel) rfl rfl (Nat.le_of_ble_eq_true rfl) d_M_init_149 (fun H locs hE hS => ?_)
  obtain ⟨b17, C17, hE, f0, f6, f7, f8, f9, f10, f12, f13, f14, f15, f16, f18, f19, f20, f21, f22, f24, f25, fag, fb40, fb⟩ : ∃ (b17 : Nat → Nat) (C17 : fr_C), fr_W D hCl z b17 C17 H ∧ C17 (0, 40) = some (.inr (5, [.int 0, .int 0, .int 0, .int 0, .int 0, .int 0, .ref (b17 46), .ref (b17 47), .ref (b17 48), .ref (b17 49), .ref (b17 50), .int 0, .ref (b17 52), .ref (b17 53), .ref (b17 54), .ref (b17 55), .ref (b17 56), .int 0, .ref (b17 58), .ref (b17 59), .ref (b17 60), .ref (b17 61), .ref (b17 62), .int 0, .ref (b17 64), .ref (b17 65), .null, .int 0, .null, .null, .null, .null, .null, .int 0])) ∧ C17 (0, 46) = some (.inl (cI, 150, .inl (fun _ => 0))) ∧ C17 (0, 47) = some (.inl (cI, 150, .inl (fun _ => 0))) ∧ C17 (0, 48) = some (.inl (cZ, 150, .inl (fun _ => 0))) ∧ C17 (0, 49) = some (.inl (cI, 150, .inl (fun _ => 0))) ∧ C17 (0, 50) = some (.inl (cZ, 6, .inl (fun _ => 0))) ∧ C17 (0, 52) = some (.inl (cI, 30, .inl (fun _ => 0))) ∧ C17 (0, 53) = some (.inl (cI, 30, .inl (fun _ => 0))) ∧ C17 (0, 54) = some (.inl (cI, 30, .inl (fun _ => 0))) ∧ C17 (0, 55) = some (.inl (cI, 30, .inl (fun _ => 0))) ∧ C17 (0, 56) = some (.inl (cI, 4500, .inl (fun _ => 0))) ∧ C17 (0, 58) = some (.inl (cI, 4600, .inl (fun _ => 0))) ∧ C17 (0, 59) = some (.inl (cI, 4600, .inl (fun _ => 0))) ∧ C17 (0, 60) = some (.inl (cI, 4600, .inl (fun _ => 0))) ∧ C17 (0, 61) = some (.inl (cI, 4600, .inl (fun _ => 0))) ∧ C17 (0, 62) = some (.inl (cI, 4600, .inl (fun _ => 0))) ∧ C17 (0, 64) = some (.inl (cI, 4500, .inl (fun _ => 0))) ∧ C17 (0, 65) = some (.inl (cI, 4500, .inl (fun _ => 0))) ∧ fr_ag [(0, 40), (0, 46), (0, 47), (0, 48), (0, 49), (0, 50), (0, 52), (0, 53), (0, 54), (0, 55), (0, 56), (0, 58), (0, 59), (0, 60), (0, 61), (0, 62), (0, 64), (0, 65), (0, 66), (0, 68), (0, 69), (0, 70), (0, 71), (0, 72)] C17 C ∧ b17 40 = b 40 ∧ ∀ i, i < 40 → b17 i = b i := ⟨_, _, hE, rfl, f6, f7, f8, f9, f10, f12, f13, f14, f15, f16, f18, f19, f20, f21, f22, f24, rfl, fr_ag.up (fr_ag.up (fag) (by decide)) (by decide), fb40, fun i hi => (fr_ub_lt (by omega)).trans (fb i hi)⟩
  replace hl : lv_has ls 5 [(0, .ref (b17 40)), (1, .int page), (2, .int grains), (3, .int secs)] := by rw [fb40, ← fbo]; exact hl
  have fbo := fb40
  refine lv_aload_n hx hb d_M_init_152 rfl (lv_at hl 0 rfl) ?_
  refine lv_sipush (v := 4500) hx hb d_M_init_153 (by decide) ?_
  refine fr_newa (atype := .boolean) (ty := .boolean) (a0 := (4500, .inl (fun _ => 0))) hx hb (hT _ kw_73) rfl hK hE hS 66 1 rfl 4500 (fun _ => rfl) (by decide) (by decide) (by decide) (Nat.le_of_ble_eq_true rfl) (Nat.le_of_ble_eq_true rfl) d_M_init_156 (fun q66 H nq66 hE hS => ?_)
  refine W.widen (k := 18) (n := 41726) (Nat.le_of_ble_eq_true rfl) (by omega) ?_
  refine fr_putF (ci := 5) (v := .ref q66) (ty := (.array .boolean)) (Cn := hR_5) (T := hF_5) (N := 34) hx hb hT hi_5 hy_5 ho_5 hn_5 hown hK hE hS (0, 40) rfl f0 rfl 26 (by decide) (hT _ kw_500) (fun _ h9 => h9) rfl hin rfl (by decide +kernel) rfl rfl (Nat.le_of_ble_eq_true rfl) d_M_init_158 (fun H locs hE hS => ?_)
  obtain ⟨b18, C18, hE, f0, f6, f7, f8, f9, f10, f12, f13, f14, f15, f16, f18, f19, f20, f21, f22, f24, f25, f26, fag, fb40, fb⟩ : ∃ (b18 : Nat → Nat) (C18 : fr_C), fr_W D hCl z b18 C18 H ∧ C18 (0, 40) = some (.inr (5, [.int 0, .int 0, .int 0, .int 0, .int 0, .int 0, .ref (b18 46), .ref (b18 47), .ref (b18 48), .ref (b18 49), .ref (b18 50), .int 0, .ref (b18 52), .ref (b18 53), .ref (b18 54), .ref (b18 55), .ref (b18 56), .int 0, .ref (b18 58), .ref (b18 59), .ref (b18 60), .ref (b18 61), .ref (b18 62), .int 0, .ref (b18 64), .ref (b18 65), .ref (b18 66), .int 0, .null, .null, .null, .null, .null, .int 0])) ∧ C18 (0, 46) = some (.inl (cI, 150, .inl (fun _ => 0))) ∧ C18 (0, 47) = some (.inl (cI, 150, .inl (fun _ => 0))) ∧ C18 (0, 48) = some (.inl (cZ, 150, .inl (fun _ => 0))) ∧ C18 (0, 49) = some (.inl (cI, 150, .inl (fun _ => 0))) ∧ C18 (0, 50) = some (.inl (cZ, 6, .inl (fun _ => 0))) ∧ C18 (0, 52) = some (.inl (cI, 30, .inl (fun _ => 0))) ∧ C18 (0, 53) = some (.inl (cI, 30, .inl (fun _ => 0))) ∧ C18 (0, 54) = some (.inl (cI, 30, .inl (fun _ => 0))) ∧ C18 (0, 55) = some (.inl (cI, 30, .inl (fun _ => 0))) ∧ C18 (0, 56) = some (.inl (cI, 4500, .inl (fun _ => 0))) ∧ C18 (0, 58) = some (.inl (cI, 4600, .inl (fun _ => 0))) ∧ C18 (0, 59) = some (.inl (cI, 4600, .inl (fun _ => 0))) ∧ C18 (0, 60) = some (.inl (cI, 4600, .inl (fun _ => 0))) ∧ C18 (0, 61) = some (.inl (cI, 4600, .inl (fun _ => 0))) ∧ C18 (0, 62) = some (.inl (cI, 4600, .inl (fun _ => 0))) ∧ C18 (0, 64) = some (.inl (cI, 4500, .inl (fun _ => 0))) ∧ C18 (0, 65) = some (.inl (cI, 4500, .inl (fun _ => 0))) ∧ C18 (0, 66) = some (.inl (cZ, 4500, .inl (fun _ => 0))) ∧ fr_ag [(0, 40), (0, 46), (0, 47), (0, 48), (0, 49), (0, 50), (0, 52), (0, 53), (0, 54), (0, 55), (0, 56), (0, 58), (0, 59), (0, 60), (0, 61), (0, 62), (0, 64), (0, 65), (0, 66), (0, 68), (0, 69), (0, 70), (0, 71), (0, 72)] C18 C ∧ b18 40 = b 40 ∧ ∀ i, i < 40 → b18 i = b i := ⟨_, _, hE, rfl, f6, f7, f8, f9, f10, f12, f13, f14, f15, f16, f18, f19, f20, f21, f22, f24, f25, rfl, fr_ag.up (fr_ag.up (fag) (by decide)) (by decide), fb40, fun i hi => (fr_ub_lt (by omega)).trans (fb i hi)⟩
  replace hl : lv_has ls 5 [(0, .ref (b18 40)), (1, .int page), (2, .int grains), (3, .int secs)] := by rw [fb40, ← fbo]; exact hl
  have fbo := fb40
  refine lv_aload_n hx hb d_M_init_161 rfl (lv_at hl 0 rfl) ?_
  refine lv_sipush (v := 4600) hx hb d_M_init_162 (by decide) ?_
  refine fr_newa (atype := .int) (ty := .int) (a0 := (4600, .inl (fun _ => 0))) hx hb (hT _ kw_74) rfl hK hE hS 68 0 rfl 4600 (fun _ => rfl) (by decide) (by decide) (by decide) (Nat.le_of_ble_eq_true rfl) (Nat.le_of_ble_eq_true rfl) d_M_init_165 (fun q68 H nq68 hE hS => ?_)
  refine W.widen (k := 19) (n := 46326) (Nat.le_of_ble_eq_true rfl) (by omega) ?_
  refine fr_putF (ci := 5) (v := .ref q68) (ty := (.array .int)) (Cn := hR_5) (T := hF_5) (N := 34) hx hb hT hi_5 hy_5 ho_5 hn_5 hown hK hE hS (0, 40) rfl f0 rfl 28 (by decide) (hT _ kw_502) (fun _ h9 => h9) rfl hin rfl (by decide +kernel) rfl rfl (Nat.le_of_ble_eq_true rfl) d_M_init_167 (fun H locs hE hS => ?_)
  obtain ⟨b19, C19, hE, f0, f6, f7, f8, f9, f10, f12, f13, f14, f15, f16, f18, f19, f20, f21, f22, f24, f25, f26, f28, fag, fb40, fb⟩ : ∃ (b19 : Nat → Nat) (C19 : fr_C), fr_W D hCl z b19 C19 H ∧ C19 (0, 40) = some (.inr (5, [.int 0, .int 0, .int 0, .int 0, .int 0, .int 0, .ref (b19 46), .ref (b19 47), .ref (b19 48), .ref (b19 49), .ref (b19 50), .int 0, .ref (b19 52), .ref (b19 53), .ref (b19 54), .ref (b19 55), .ref (b19 56), .int 0, .ref (b19 58), .ref (b19 59), .ref (b19 60), .ref (b19 61), .ref (b19 62), .int 0, .ref (b19 64), .ref (b19 65), .ref (b19 66), .int 0, .ref (b19 68), .null, .null, .null, .null, .int 0])) ∧ C19 (0, 46) = some (.inl (cI, 150, .inl (fun _ => 0))) ∧ C19 (0, 47) = some (.inl (cI, 150, .inl (fun _ => 0))) ∧ C19 (0, 48) = some (.inl (cZ, 150, .inl (fun _ => 0))) ∧ C19 (0, 49) = some (.inl (cI, 150, .inl (fun _ => 0))) ∧ C19 (0, 50) = some (.inl (cZ, 6, .inl (fun _ => 0))) ∧ C19 (0, 52) = some (.inl (cI, 30, .inl (fun _ => 0))) ∧ C19 (0, 53) = some (.inl (cI, 30, .inl (fun _ => 0))) ∧ C19 (0, 54) = some (.inl (cI, 30, .inl (fun _ => 0))) ∧ C19 (0, 55) = some (.inl (cI, 30, .inl (fun _ => 0))) ∧ C19 (0, 56) = some (.inl (cI, 4500, .inl (fun _ => 0))) ∧ C19 (0, 58) = some (.inl (cI, 4600, .inl (fun _ => 0))) ∧ C19 (0, 59) = some (.inl (cI, 4600, .inl (fun _ => 0))) ∧ C19 (0, 60) = some (.inl (cI, 4600, .inl (fun _ => 0))) ∧ C19 (0, 61) = some (.inl (cI, 4600, .inl (fun _ => 0))) ∧ C19 (0, 62) = some (.inl (cI, 4600, .inl (fun _ => 0))) ∧ C19 (0, 64) = some (.inl (cI, 4500, .inl (fun _ => 0))) ∧ C19 (0, 65) = some (.inl (cI, 4500, .inl (fun _ => 0))) ∧ C19 (0, 66) = some (.inl (cZ, 4500, .inl (fun _ => 0))) ∧ C19 (0, 68) = some (.inl (cI, 4600, .inl (fun _ => 0))) ∧ fr_ag [(0, 40), (0, 46), (0, 47), (0, 48), (0, 49), (0, 50), (0, 52), (0, 53), (0, 54), (0, 55), (0, 56), (0, 58), (0, 59), (0, 60), (0, 61), (0, 62), (0, 64), (0, 65), (0, 66), (0, 68), (0, 69), (0, 70), (0, 71), (0, 72)] C19 C ∧ b19 40 = b 40 ∧ ∀ i, i < 40 → b19 i = b i := ⟨_, _, hE, rfl, f6, f7, f8, f9, f10, f12, f13, f14, f15, f16, f18, f19, f20, f21, f22, f24, f25, f26, rfl, fr_ag.up (fr_ag.up (fag) (by decide)) (by decide), fb40, fun i hi => (fr_ub_lt (by omega)).trans (fb i hi)⟩
  replace hl : lv_has ls 5 [(0, .ref (b19 40)), (1, .int page), (2, .int grains), (3, .int secs)] := by rw [fb40, ← fbo]; exact hl
  have fbo := fb40
  refine lv_aload_n hx hb d_M_init_170 rfl (lv_at hl 0 rfl) ?_
  refine lv_sipush (v := 4600) hx hb d_M_init_171 (by decide) ?_
  refine fr_newa (atype := .int) (ty := .int) (a0 := (4600, .inl (fun _ => 0))) hx hb (hT _ kw_74) rfl hK hE hS 69 0 rfl 4600 (fun _ => rfl) (by decide) (by decide) (by decide) (Nat.le_of_ble_eq_true rfl) (Nat.le_of_ble_eq_true rfl) d_M_init_174 (fun q69 H nq69 hE hS => ?_)
  refine W.widen (k := 20) (n := 50926) (Nat.le_of_ble_eq_true rfl) (by omega) ?_
  refine fr_putF (ci := 5) (v := .ref q69) (ty := (.array .int)) (Cn := hR_5) (T := hF_5) (N := 34) hx hb hT hi_5 hy_5 ho_5 hn_5 hown hK hE hS (0, 40) rfl f0 rfl 29 (by decide) (hT _ kw_503) (fun _ h9 => h9) rfl hin rfl (by decide +kernel) rfl rfl (Nat.le_of_ble_eq_true rfl) d_M_init_176 (fun H locs hE hS => ?_)
  obtain ⟨b20, C20, hE, f0, f6, f7, f8, f9, f10, f12, f13, f14, f15, f16, f18, f19, f20, f21, f22, f24, f25, f26, f28, f29, fag, fb40, fb⟩ : ∃ (b20 : Nat → Nat) (C20 : fr_C), fr_W D hCl z b20 C20 H ∧ C20 (0, 40) = some (.inr (5, [.int 0, .int 0, .int 0, .int 0, .int 0, .int 0, .ref (b20 46), .ref (b20 47), .ref (b20 48), .ref (b20 49), .ref (b20 50), .int 0, .ref (b20 52), .ref (b20 53), .ref (b20 54), .ref (b20 55), .ref (b20 56), .int 0, .ref (b20 58), .ref (b20 59), .ref (b20 60), .ref (b20 61), .ref (b20 62), .int 0, .ref (b20 64), .ref (b20 65), .ref (b20 66), .int 0, .ref (b20 68), .ref (b20 69), .null, .null, .null, .int 0])) ∧ C20 (0, 46) = some (.inl (cI, 150, .inl (fun _ => 0))) ∧ C20 (0, 47) = some (.inl (cI, 150, .inl (fun _ => 0))) ∧ C20 (0, 48) = some (.inl (cZ, 150, .inl (fun _ => 0))) ∧ C20 (0, 49) = some (.inl (cI, 150, .inl (fun _ => 0))) ∧ C20 (0, 50) = some (.inl (cZ, 6, .inl (fun _ => 0))) ∧ C20 (0, 52) = some (.inl (cI, 30, .inl (fun _ => 0))) ∧ C20 (0, 53) = some (.inl (cI, 30, .inl (fun _ => 0))) ∧ C20 (0, 54) = some (.inl (cI, 30, .inl (fun _ => 0))) ∧ C20 (0, 55) = some (.inl (cI, 30, .inl (fun _ => 0))) ∧ C20 (0, 56) = some (.inl (cI, 4500, .inl (fun _ => 0))) ∧ C20 (0, 58) = some (.inl (cI, 4600, .inl (fun _ => 0))) ∧ C20 (0, 59) = some (.inl (cI, 4600, .inl (fun _ => 0))) ∧ C20 (0, 60) = some (.inl (cI, 4600, .inl (fun _ => 0))) ∧ C20 (0, 61) = some (.inl (cI, 4600, .inl (fun _ => 0))) ∧ C20 (0, 62) = some (.inl (cI, 4600, .inl (fun _ => 0))) ∧ C20 (0, 64) = some (.inl (cI, 4500, .inl (fun _ => 0))) ∧ C20 (0, 65) = some (.inl (cI, 4500, .inl (fun _ => 0))) ∧ C20 (0, 66) = some (.inl (cZ, 4500, .inl (fun _ => 0))) ∧ C20 (0, 68) = some (.inl (cI, 4600, .inl (fun _ => 0))) ∧ C20 (0, 69) = some (.inl (cI, 4600, .inl (fun _ => 0))) ∧ fr_ag [(0, 40), (0, 46), (0, 47), (0, 48), (0, 49), (0, 50), (0, 52), (0, 53), (0, 54), (0, 55), (0, 56), (0, 58), (0, 59), (0, 60), (0, 61), (0, 62), (0, 64), (0, 65), (0, 66), (0, 68), (0, 69), (0, 70), (0, 71), (0, 72)] C20 C ∧ b20 40 = b 40 ∧ ∀ i, i < 40 → b20 i = b i := ⟨_, _, hE, rfl, f6, f7, f8, f9, f10, f12, f13, f14, f15, f16, f18, f19, f20, f21, f22, f24, f25, f26, f28, rfl, fr_ag.up (fr_ag.up (fag) (by decide)) (by decide), fb40, fun i hi => (fr_ub_lt (by omega)).trans (fb i hi)⟩
  replace hl : lv_has ls 5 [(0, .ref (b20 40)), (1, .int page), (2, .int grains), (3, .int secs)] := by rw [fb40, ← fbo]; exact hl
  have fbo := fb40
  refine lv_aload_n hx hb d_M_init_179 rfl (lv_at hl 0 rfl) ?_
  refine lv_sipush (v := 4600) hx hb d_M_init_180 (by decide) ?_
  refine fr_newa (atype := .int) (ty := .int) (a0 := (4600, .inl (fun _ => 0))) hx hb (hT _ kw_74) rfl hK hE hS 70 0 rfl 4600 (fun _ => rfl) (by decide) (by decide) (by decide) (Nat.le_of_ble_eq_true rfl) (Nat.le_of_ble_eq_true rfl) d_M_init_183 (fun q70 H nq70 hE hS => ?_)
  refine W.widen (k := 21) (n := 55526) (Nat.le_of_ble_eq_true rfl) (by omega) ?_
  refine fr_putF (ci := 5) (v := .ref q70) (ty := (.array .int)) (Cn := hR_5) (T := hF_5) (N := 34) hx hb hT hi_5 hy_5 ho_5 hn_5 hown hK hE hS (0, 40) rfl f0 rfl 30 (by decide) (hT _ kw_504) (fun _ h9 => h9) rfl hin rfl (by decide +kernel) rfl rfl (Nat.le_of_ble_eq_true rfl) d_M_init_185 (fun H locs hE hS => ?_)
  obtain ⟨b21, C21, hE, f0, f6, f7, f8, f9, f10, f12, f13, f14, f15, f16, f18, f19, f20, f21, f22, f24, f25, f26, f28, f29, f30, fag, fb40, fb⟩ : ∃ (b21 : Nat → Nat) (C21 : fr_C), fr_W D hCl z b21 C21 H ∧ C21 (0, 40) = some (.inr (5, [.int 0, .int 0, .int 0, .int 0, .int 0, .int 0, .ref (b21 46), .ref (b21 47), .ref (b21 48), .ref (b21 49), .ref (b21 50), .int 0, .ref (b21 52), .ref (b21 53), .ref (b21 54), .ref (b21 55), .ref (b21 56), .int 0, .ref (b21 58), .ref (b21 59), .ref (b21 60), .ref (b21 61), .ref (b21 62), .int 0, .ref (b21 64), .ref (b21 65), .ref (b21 66), .int 0, .ref (b21 68), .ref (b21 69), .ref (b21 70), .null, .null, .int 0])) ∧ C21 (0, 46) = some (.inl (cI, 150, .inl (fun _ => 0))) ∧ C21 (0, 47) = some (.inl (cI, 150, .inl (fun _ => 0))) ∧ C21 (0, 48) = some (.inl (cZ, 150, .inl (fun _ => 0))) ∧ C21 (0, 49) = some (.inl (cI, 150, .inl (fun _ => 0))) ∧ C21 (0, 50) = some (.inl (cZ, 6, .inl (fun _ => 0))) ∧ C21 (0, 52) = some (.inl (cI, 30, .inl (fun _ => 0))) ∧ C21 (0, 53) = some (.inl (cI, 30, .inl (fun _ => 0))) ∧ C21 (0, 54) = some (.inl (cI, 30, .inl (fun _ => 0))) ∧ C21 (0, 55) = some (.inl (cI, 30, .inl (fun _ => 0))) ∧ C21 (0, 56) = some (.inl (cI, 4500, .inl (fun _ => 0))) ∧ C21 (0, 58) = some (.inl (cI, 4600, .inl (fun _ => 0))) ∧ C21 (0, 59) = some (.inl (cI, 4600, .inl (fun _ => 0))) ∧ C21 (0, 60) = some (.inl (cI, 4600, .inl (fun _ => 0))) ∧ C21 (0, 61) = some (.inl (cI, 4600, .inl (fun _ => 0))) ∧ C21 (0, 62) = some (.inl (cI, 4600, .inl (fun _ => 0))) ∧ C21 (0, 64) = some (.inl (cI, 4500, .inl (fun _ => 0))) ∧ C21 (0, 65) = some (.inl (cI, 4500, .inl (fun _ => 0))) ∧ C21 (0, 66) = some (.inl (cZ, 4500, .inl (fun _ => 0))) ∧ C21 (0, 68) = some (.inl (cI, 4600, .inl (fun _ => 0))) ∧ C21 (0, 69) = some (.inl (cI, 4600, .inl (fun _ => 0))) ∧ C21 (0, 70) = some (.inl (cI, 4600, .inl (fun _ => 0))) ∧ fr_ag [(0, 40), (0, 46), (0, 47), (0, 48), (0, 49), (0, 50), (0, 52), (0, 53), (0, 54), (0, 55), (0, 56), (0, 58), (0, 59), (0, 60), (0, 61), (0, 62), (0, 64), (0, 65), (0, 66), (0, 68), (0, 69), (0, 70), (0, 71), (0, 72)] C21 C ∧ b21 40 = b 40 ∧ ∀ i, i < 40 → b21 i = b i := ⟨_, _, hE, rfl, f6, f7, f8, f9, f10, f12, f13, f14, f15, f16, f18, f19, f20, f21, f22, f24, f25, f26, f28, f29, rfl, fr_ag.up (fr_ag.up (fag) (by decide)) (by decide), fb40, fun i hi => (fr_ub_lt (by omega)).trans (fb i hi)⟩
  replace hl : lv_has ls 5 [(0, .ref (b21 40)), (1, .int page), (2, .int grains), (3, .int secs)] := by rw [fb40, ← fbo]; exact hl
  have fbo := fb40
  refine lv_aload_n hx hb d_M_init_188 rfl (lv_at hl 0 rfl) ?_
  refine lv_bipush (v := 10) hx hb d_M_init_189 (by decide) ?_
  refine fr_newa (atype := .int) (ty := .int) (a0 := (10, .inl (fun _ => 0))) hx hb (hT _ kw_74) rfl hK hE hS 71 0 rfl 10 (fun _ => rfl) (by decide) (by decide) (by decide) (Nat.le_of_ble_eq_true rfl) (Nat.le_of_ble_eq_true rfl) d_M_init_191 (fun q71 H nq71 hE hS => ?_)
  refine W.widen (k := 22) (n := 55536) (Nat.le_of_ble_eq_true rfl) (by omega) ?_
  refine fr_putF (ci := 5) (v := .ref q71) (ty := (.array .int)) (Cn := hR_5) (T := hF_5) (N := 34) hx hb hT hi_5 hy_5 ho_5 hn_5 hown hK hE hS (0, 40) rfl f0 rfl 31 (by decide) (hT _ kw_505) (fun _ h9 => h9) rfl hin rfl (by decide +kernel) rfl rfl (Nat.le_of_ble_eq_true rfl) d_M_init_193 (fun H locs hE hS => ?_)
  obtain ⟨b22, C22, hE, f0, f6, f7, f8, f9, f10, f12, f13, f14, f15, f16, f18, f19, f20, f21, f22, f24, f25, f26, f28, f29, f30, f31, fag, fb40, fb⟩ : ∃ (b22 : Nat → Nat) (C22 : fr_C), fr_W D hCl z b22 C22 H ∧ C22 (0, 40) = some (.inr (5, [.int 0, .int 0, .int 0, .int 0, .int 0, .int 0, .ref (b22 46), .ref (b22 47), .ref (b22 48), .ref (b22 49), .ref (b22 50), .int 0, .ref (b22 52), .ref (b22 53), .ref (b22 54), .ref (b22 55), .ref (b22 56), .int 0, .ref (b22 58), .ref (b22 59), .ref (b22 60), .ref (b22 61), .ref (b22 62), .int 0, .ref (b22 64), .ref (b22 65), .ref (b22 66), .int 0, .ref (b22 68), .ref (b22 69), .ref (b22 70), .ref (b22 71), .null, .int 0])) ∧ C22 (0, 46) = some (.inl (cI, 150, .inl (fun _ => 0))) ∧ C22 (0, 47) = some (.inl (cI, 150, .inl (fun _ => 0))) ∧ C22 (0, 48) = some (.inl (cZ, 150, .inl (fun _ => 0))) ∧ C22 (0, 49) = some (.inl (cI, 150, .inl (fun _ => 0))) ∧ C22 (0, 50) = some (.inl (cZ, 6, .inl (fun _ => 0))) ∧ C22 (0, 52) = some (.inl (cI, 30, .inl (fun _ => 0))) ∧ C22 (0, 53) = some (.inl (cI, 30, .inl (fun _ => 0))) ∧ C22 (0, 54) = some (.inl (cI, 30, .inl (fun _ => 0))) ∧ C22 (0, 55) = some (.inl (cI, 30, .inl (fun _ => 0))) ∧ C22 (0, 56) = some (.inl (cI, 4500, .inl (fun _ => 0))) ∧ C22 (0, 58) = some (.inl (cI, 4600, .inl (fun _ => 0))) ∧ C22 (0, 59) = some (.inl (cI, 4600, .inl (fun _ => 0))) ∧ C22 (0, 60) = some (.inl (cI, 4600, .inl (fun _ => 0))) ∧ C22 (0, 61) = some (.inl (cI, 4600, .inl (fun _ => 0))) ∧ C22 (0, 62) = some (.inl (cI, 4600, .inl (fun _ => 0))) ∧ C22 (0, 64) = some (.inl (cI, 4500, .inl (fun _ => 0))) ∧ C22 (0, 65) = some (.inl (cI, 4500, .inl (fun _ => 0))) ∧ C22 (0, 66) = some (.inl (cZ, 4500, .inl (fun _ => 0))) ∧ C22 (0, 68) = some (.inl (cI, 4600, .inl (fun _ => 0))) ∧ C22 (0, 69) = some (.inl (cI, 4600, .inl (fun _ => 0))) ∧ C22 (0, 70) = some (.inl (cI, 4600, .inl (fun _ => 0))) ∧ C22 (0, 71) = some (.inl (cI, 10, .inl (fun _ => 0))) ∧ fr_ag [(0, 40), (0, 46), (0, 47), (0, 48), (0, 49), (0, 50), (0, 52), (0, 53), (0, 54), (0, 55), (0, 56), (0, 58), (0, 59), (0, 60), (0, 61), (0, 62), (0, 64), (0, 65), (0, 66), (0, 68), (0, 69), (0, 70), (0, 71), (0, 72)] C22 C ∧ b22 40 = b 40 ∧ ∀ i, i < 40 → b22 i = b i := ⟨_, _, hE, rfl, f6, f7, f8, f9, f10, f12, f13, f14, f15, f16, f18, f19, f20, f21, f22, f24, f25, f26, f28, f29, f30, rfl, fr_ag.up (fr_ag.up (fag) (by decide)) (by decide), fb40, fun i hi => (fr_ub_lt (by omega)).trans (fb i hi)⟩
  replace hl : lv_has ls 5 [(0, .ref (b22 40)), (1, .int page), (2, .int grains), (3, .int secs)] := by rw [fb40, ← fbo]; exact hl
  have fbo := fb40
  refine lv_aload_n hx hb d_M_init_196 rfl (lv_at hl 0 rfl) ?_
  refine lv_bipush (v := 10) hx hb d_M_init_197 (by decide) ?_
  refine fr_newa (atype := .int) (ty := .int) (a0 := (10, .inl (fun _ => 0))) hx hb (hT _ kw_74) rfl hK hE hS 72 0 rfl 10 (fun _ => rfl) (by decide) (by decide) (by decide) (Nat.le_of_ble_eq_true rfl) (Nat.le_of_ble_eq_true rfl) d_M_init_199 (fun q72 H nq72 hE hS => ?_)
  refine W.widen (k := 23) (n := 55546) (Nat.le_of_ble_eq_true rfl) (by omega) ?_
  refine fr_putF (ci := 5) (v := .ref q72) (ty := (.array .int)) (Cn := hR_5) (T := hF_5) (N := 34) hx hb hT hi_5 hy_5 ho_5 hn_5 hown hK hE hS (0, 40) rfl f0 rfl 32 (by decide) (hT _ kw_506) (fun _ h9 => h9) rfl hin rfl (by decide +kernel) rfl rfl (Nat.le_of_ble_eq_true rfl) d_M_init_201 (fun H locs hE hS => ?_)
  obtain ⟨b23, C23, hE, f0, f6, f7, f8, f9, f10, f12, f13, f14, f15, f16, f18, f19, f20, f21, f22, f24, f25, f26, f28, f29, f30, f31, f32, fag, fb40, fb⟩ : ∃ (b23 : Nat → Nat) (C23 : fr_C), fr_W D hCl z b23 C23 H ∧ C23 (0, 40) = some (.inr (5, [.int 0, .int 0, .int 0, .int 0, .int 0, .int 0, .ref (b23 46), .ref (b23 47), .ref (b23 48), .ref (b23 49), .ref (b23 50), .int 0, .ref (b23 52), .ref (b23 53), .ref (b23 54), .ref (b23 55), .ref (b23 56), .int 0, .ref (b23 58), .ref (b23 59), .ref (b23 60), .ref (b23 61), .ref (b23 62), .int 0, .ref (b23 64), .ref (b23 65), .ref (b23 66), .int 0, .ref (b23 68), .ref (b23 69), .ref (b23 70), .ref (b23 71), .ref (b23 72), .int 0])) ∧ C23 (0, 46) = some (.inl (cI, 150, .inl (fun _ => 0))) ∧ C23 (0, 47) = some (.inl (cI, 150, .inl (fun _ => 0))) ∧ C23 (0, 48) = some (.inl (cZ, 150, .inl (fun _ => 0))) ∧ C23 (0, 49) = some (.inl (cI, 150, .inl (fun _ => 0))) ∧ C23 (0, 50) = some (.inl (cZ, 6, .inl (fun _ => 0))) ∧ C23 (0, 52) = some (.inl (cI, 30, .inl (fun _ => 0))) ∧ C23 (0, 53) = some (.inl (cI, 30, .inl (fun _ => 0))) ∧ C23 (0, 54) = some (.inl (cI, 30, .inl (fun _ => 0))) ∧ C23 (0, 55) = some (.inl (cI, 30, .inl (fun _ => 0))) ∧ C23 (0, 56) = some (.inl (cI, 4500, .inl (fun _ => 0))) ∧ C23 (0, 58) = some (.inl (cI, 4600, .inl (fun _ => 0))) ∧ C23 (0, 59) = some (.inl (cI, 4600, .inl (fun _ => 0))) ∧ C23 (0, 60) = some (.inl (cI, 4600, .inl (fun _ => 0))) ∧ C23 (0, 61) = some (.inl (cI, 4600, .inl (fun _ => 0))) ∧ C23 (0, 62) = some (.inl (cI, 4600, .inl (fun _ => 0))) ∧ C23 (0, 64) = some (.inl (cI, 4500, .inl (fun _ => 0))) ∧ C23 (0, 65) = some (.inl (cI, 4500, .inl (fun _ => 0))) ∧ C23 (0, 66) = some (.inl (cZ, 4500, .inl (fun _ => 0))) ∧ C23 (0, 68) = some (.inl (cI, 4600, .inl (fun _ => 0))) ∧ C23 (0, 69) = some (.inl (cI, 4600, .inl (fun _ => 0))) ∧ C23 (0, 70) = some (.inl (cI, 4600, .inl (fun _ => 0))) ∧ C23 (0, 71) = some (.inl (cI, 10, .inl (fun _ => 0))) ∧ C23 (0, 72) = some (.inl (cI, 10, .inl (fun _ => 0))) ∧ fr_ag [(0, 40), (0, 46), (0, 47), (0, 48), (0, 49), (0, 50), (0, 52), (0, 53), (0, 54), (0, 55), (0, 56), (0, 58), (0, 59), (0, 60), (0, 61), (0, 62), (0, 64), (0, 65), (0, 66), (0, 68), (0, 69), (0, 70), (0, 71), (0, 72)] C23 C ∧ b23 40 = b 40 ∧ ∀ i, i < 40 → b23 i = b i := ⟨_, _, hE, rfl, f6, f7, f8, f9, f10, f12, f13, f14, f15, f16, f18, f19, f20, f21, f22, f24, f25, f26, f28, f29, f30, f31, rfl, fr_ag.up (fr_ag.up (fag) (by decide)) (by decide), fb40, fun i hi => (fr_ub_lt (by omega)).trans (fb i hi)⟩
  replace hl : lv_has ls 5 [(0, .ref (b23 40)), (1, .int page), (2, .int grains), (3, .int secs)] := by rw [fb40, ← fbo]; exact hl
  have fbo := fb40
  refine lv_aload_n hx hb d_M_init_204 rfl (lv_at hl 0 rfl) ?_
  refine fr_cut (g2 := F0 m 226 ls [.int (nI (clN page 1 50)), .ref (b23 40)]) ?_ (fun hk => ?_)
  rotate_left
  · skip
    refine lv_iload_n hx hb d_M_init_205 rfl (lv_at hl 1 rfl) ?_
    refine lv_iconst (v := 1) hx hb d_M_init_206 (by decide) ?_
    refine lv_icmp_ge (tgt := 214) hx hb d_M_init_207 (by decide) (fun c_1 => ?_) (fun c_1 => ?_)
    · skip
      refine lv_iload_n hx hb d_M_init_214 rfl (lv_at hl 1 rfl) ?_
      refine lv_bipush (v := 50) hx hb d_M_init_215 (by decide) ?_
      refine lv_icmp_le (tgt := 225) hx hb d_M_init_217 (by decide) (fun c_2 => ?_) (fun c_2 => ?_)
      · skip
        refine lv_iload_n hx hb d_M_init_225 rfl (lv_at hl 1 rfl) ?_
        refine lv_topi (fun y_3 ey_3 => ?_)
        obtain rfl : y_3 = nI (clN page 1 50) := ey_3.trans (clN_val (by decide) (Int32.not_lt.mpr c_1) (Int32.not_lt.mpr c_2))
        exact hk
      · skip
        refine lv_bipush (v := 50) hx hb d_M_init_220 (by decide) ?_
        refine lv_goto (tgt := 226) hx hb d_M_init_222 (by decide) ?_
        refine lv_topi (fun y_4 ey_4 => ?_)
        obtain rfl : y_4 = nI (clN page 1 50) := ey_4.trans (by rw [clN_hi (lo := 1) (hi := 50) (Int32.not_lt.mpr c_1) (Int32.not_le.mp c_2)]; rfl)
        exact hk
    · skip
      refine lv_iconst (v := 1) hx hb d_M_init_210 (by decide) ?_
      refine lv_goto (tgt := 226) hx hb d_M_init_211 (by decide) ?_
      refine lv_topi (fun y_5 ey_5 => ?_)
      obtain rfl : y_5 = nI (clN page 1 50) := ey_5.trans (by rw [clN_lo (lo := 1) (hi := 50) (Int32.not_le.mp c_1)]; rfl)
      exact hk
  refine fr_putF (ci := 5) (v := .int (nI (clN page 1 50))) (ty := .int) (Cn := hR_5) (T := hF_5) (N := 34) hx hb hT hi_5 hy_5 ho_5 hn_5 hown hK hE hS (0, 40) rfl f0 rfl 1 (by decide) (hT _ kw_475) (fun _ h9 => h9) rfl hin rfl (by decide +kernel) rfl rfl (Nat.le_of_ble_eq_true rfl) d_M_init_226 (fun H locs hE hS => ?_)
  refine lv_aload_n hx hb d_M_init_229 rfl (lv_at hl 0 rfl) ?_
  refine fr_cut (g2 := F0 m 251 ls [.int (nI (clN grains 1 100)), .ref (b23 40)]) ?_ (fun hk => ?_)
  rotate_left
  · skip
    refine lv_iload_n hx hb d_M_init_230 rfl (lv_at hl 2 rfl) ?_
    refine lv_iconst (v := 1) hx hb d_M_init_231 (by decide) ?_
    refine lv_icmp_ge (tgt := 239) hx hb d_M_init_232 (by decide) (fun c_6 => ?_) (fun c_6 => ?_)
    · skip
      refine lv_iload_n hx hb d_M_init_239 rfl (lv_at hl 2 rfl) ?_
      refine lv_bipush (v := 100) hx hb d_M_init_240 (by decide) ?_
      refine lv_icmp_le (tgt := 250) hx hb d_M_init_242 (by decide) (fun c_7 => ?_) (fun c_7 => ?_)
      · skip
        refine lv_iload_n hx hb d_M_init_250 rfl (lv_at hl 2 rfl) ?_
        refine lv_topi (fun y_8 ey_8 => ?_)
        obtain rfl : y_8 = nI (clN grains 1 100) := ey_8.trans (clN_val (by decide) (Int32.not_lt.mpr c_6) (Int32.not_lt.mpr c_7))
        exact hk
      · skip
        refine lv_bipush (v := 100) hx hb d_M_init_245 (by decide) ?_
        refine lv_goto (tgt := 251) hx hb d_M_init_247 (by decide) ?_
        refine lv_topi (fun y_9 ey_9 => ?_)
        obtain rfl : y_9 = nI (clN grains 1 100) := ey_9.trans (by rw [clN_hi (lo := 1) (hi := 100) (Int32.not_lt.mpr c_6) (Int32.not_le.mp c_7)]; rfl)
        exact hk
    · skip
      refine lv_iconst (v := 1) hx hb d_M_init_235 (by decide) ?_
      refine lv_goto (tgt := 251) hx hb d_M_init_236 (by decide) ?_
      refine lv_topi (fun y_10 ey_10 => ?_)
      obtain rfl : y_10 = nI (clN grains 1 100) := ey_10.trans (by rw [clN_lo (lo := 1) (hi := 100) (Int32.not_le.mp c_6)]; rfl)
      exact hk
  refine fr_putF (ci := 5) (v := .int (nI (clN grains 1 100))) (ty := .int) (Cn := hR_5) (T := hF_5) (N := 34) hx hb hT hi_5 hy_5 ho_5 hn_5 hown hK hE hS (0, 40) rfl rfl rfl 2 (by decide) (hT _ kw_476) (fun _ h9 => h9) rfl hin rfl (by decide +kernel) rfl rfl (Nat.le_of_ble_eq_true rfl) d_M_init_251 (fun H locs hE hS => ?_)
  refine lv_aload_n hx hb d_M_init_254 rfl (lv_at hl 0 rfl) ?_
  refine fr_cut (g2 := F0 m 275 ls [.int (nI (clN secs 0 1000000)), .ref (b23 40)]) ?_ (fun hk => ?_)
  rotate_left
  · skip
    refine lv_iload_n hx hb d_M_init_255 rfl (lv_at hl 3 rfl) ?_
    refine lv_if_ge (tgt := 263) hx hb d_M_init_256 (by decide) (fun c_11 => ?_) (fun c_11 => ?_)
    · skip
      refine lv_iload_n hx hb d_M_init_263 rfl (lv_at hl 3 rfl) ?_
      refine lv_ldc (v := 1000000) hx hb hown (hT _ kw_473) d_M_init_264 ?_
      refine lv_icmp_le (tgt := 274) hx hb d_M_init_266 (by decide) (fun c_12 => ?_) (fun c_12 => ?_)
      · skip
        refine lv_iload_n hx hb d_M_init_274 rfl (lv_at hl 3 rfl) ?_
        refine lv_topi (fun y_13 ey_13 => ?_)
        obtain rfl : y_13 = nI (clN secs 0 1000000) := ey_13.trans (clN_val (by decide) (Int32.not_lt.mpr c_11) (Int32.not_lt.mpr c_12))
        exact hk
      · skip
        refine lv_ldc (v := 1000000) hx hb hown (hT _ kw_473) d_M_init_269 ?_
        refine lv_goto (tgt := 275) hx hb d_M_init_271 (by decide) ?_
        refine lv_topi (fun y_14 ey_14 => ?_)
        obtain rfl : y_14 = nI (clN secs 0 1000000) := ey_14.trans (by rw [clN_hi (lo := 0) (hi := 1000000) (Int32.not_lt.mpr c_11) (Int32.not_le.mp c_12)]; rfl)
        exact hk
    · skip
      refine lv_iconst (v := 0) hx hb d_M_init_259 (by decide) ?_
      refine lv_goto (tgt := 275) hx hb d_M_init_260 (by decide) ?_
      refine lv_topi (fun y_15 ey_15 => ?_)
      obtain rfl : y_15 = nI (clN secs 0 1000000) := ey_15.trans (by rw [clN_lo (lo := 0) (hi := 1000000) (Int32.not_le.mp c_11)]; rfl)
      exact hk
  refine fr_putF (ci := 5) (v := .int (nI (clN secs 0 1000000))) (ty := .int) (Cn := hR_5) (T := hF_5) (N := 34) hx hb hT hi_5 hy_5 ho_5 hn_5 hown hK hE hS (0, 40) rfl rfl rfl 3 (by decide) (hT _ kw_477) (fun _ h9 => h9) rfl hin rfl (by decide +kernel) rfl rfl (Nat.le_of_ble_eq_true rfl) d_M_init_275 (fun H locs hE hS => ?_)
  refine lv_iconst (v := 0) hx hb d_M_init_278 (by decide) ?_
  refine lv_istore (lv' := [(4, .int 0), (0, .ref (b23 40)), (1, .int page), (2, .int grains), (3, .int secs)]) hx hb d_M_init_279 hl (by decide) rfl (fun ls hl => ?_)
  obtain ⟨b8, C8, hE, f0, f6, f7, f8, f9, f10, f12, f13, f14, f15, f16, f18, f19, f20, f21, f22, f24, f25, f26, f28, f29, f30, f31, f32, fag, fb40, fb⟩ : ∃ (b8 : Nat → Nat) (C8 : fr_C), fr_W D hCl z b8 C8 H ∧ C8 (0, 40) = some (.inr (5, fM b8 0 (clN page 1 50) (clN grains 1 100) (clN secs 0 1000000) 0 0 0 0 0 0 0)) ∧ C8 (0, 46) = some (.inl (cI, 150, .inl (fun _ => 0))) ∧ C8 (0, 47) = some (.inl (cI, 150, .inl (fun _ => 0))) ∧ C8 (0, 48) = some (.inl (cZ, 150, .inl (fun _ => 0))) ∧ C8 (0, 49) = some (.inl (cI, 150, .inl (fun _ => 0))) ∧ C8 (0, 50) = some (.inl (cZ, 6, .inl (fun _ => 0))) ∧ C8 (0, 52) = some (.inl (cI, 30, .inl (fun _ => 0))) ∧ C8 (0, 53) = some (.inl (cI, 30, .inl (fun _ => 0))) ∧ C8 (0, 54) = some (.inl (cI, 30, .inl (fun _ => 0))) ∧ C8 (0, 55) = some (.inl (cI, 30, .inl (fun _ => 0))) ∧ C8 (0, 56) = some (.inl (cI, 4500, .inl (fun _ => 0))) ∧ C8 (0, 58) = some (.inl (cI, 4600, .inl (fun _ => 0))) ∧ C8 (0, 59) = some (.inl (cI, 4600, .inl (fun _ => 0))) ∧ C8 (0, 60) = some (.inl (cI, 4600, .inl (fun _ => 0))) ∧ C8 (0, 61) = some (.inl (cI, 4600, .inl (fun _ => 0))) ∧ C8 (0, 62) = some (.inl (cI, 4600, .inl (fun _ => 0))) ∧ C8 (0, 64) = some (.inl (cI, 4500, .inl (fun _ => 0))) ∧ C8 (0, 65) = some (.inl (cI, 4500, .inl (fun _ => 0))) ∧ C8 (0, 66) = some (.inl (cZ, 4500, .inl (fun _ => 0))) ∧ C8 (0, 68) = some (.inl (cI, 4600, .inl (fun _ => 0))) ∧ C8 (0, 69) = some (.inl (cI, 4600, .inl (fun _ => 0))) ∧ C8 (0, 70) = some (.inl (cI, 4600, .inl (fun _ => 0))) ∧ C8 (0, 71) = some (.inl (cI, 10, .inl (fun _ => 0))) ∧ C8 (0, 72) = some (.inl (cI, 10, .inl (fun _ => 0))) ∧ fr_ag [(0, 40), (0, 46), (0, 47), (0, 48), (0, 49), (0, 50), (0, 52), (0, 53), (0, 54), (0, 55), (0, 56), (0, 58), (0, 59), (0, 60), (0, 61), (0, 62), (0, 64), (0, 65), (0, 66), (0, 68), (0, 69), (0, 70), (0, 71), (0, 72)] C8 C ∧ b8 40 = b 40 ∧ ∀ i, i < 40 → b8 i = b i := ⟨_, _, hE, rfl, f6, f7, f8, f9, f10, f12, f13, f14, f15, f16, f18, f19, f20, f21, f22, f24, f25, f26, f28, f29, f30, f31, f32, fr_ag.up (fr_ag.up (fr_ag.up fag (by decide)) (by decide)) (by decide), fb40, fb⟩
  replace hl : lv_has ls 5 [(4, .int 0), (0, .ref (b8 40)), (1, .int page), (2, .int grains), (3, .int secs)] := by rw [fb40, ← fbo]; exact hl
  refine W.widen (k := 23) (n := 55546) (Nat.le_of_ble_eq_true rfl) (Nat.le_of_ble_eq_true rfl) ?_
  have ai0 : 11 + 0 = 11 := rfl
  have ai1 : 0 ≤ 10 := by decide
  have ai2 : ∀ j, j < 0 → (fun _ : Nat => (0 : Int32)) j = -1 := fun j hj => absurd hj (Nat.not_lt_zero j)
  have ai3 : C8 (0, 71) = some (.inl (cI, 10, .inl (fun _ : Nat => (0 : Int32)))) := f31
  have ai4 : fr_ag [(0, 71)] C8 C8 := fr_ag.rf
  refine fr_loop (σ := Nat × (Nat → Int32) × fr_C) (fun n9 x H locs ls => (n9 + x.1 = 11) ∧ (x.1 ≤ 10) ∧ (∀ j, j < x.1 → x.2.1 j = -1) ∧ (x.2.2 (0, 71) = some (.inl (cI, 10, .inl x.2.1))) ∧ (fr_ag [(0, 71)] x.2.2 C8) ∧ fr_W D hCl z b8 (x.2.2) H ∧ va_S (fr_A z) s.heap H locs ∧ lv_has ls 5 [(4, .int (nI x.1)), (0, .ref (b8 40)), (1, .int page), (2, .int grains), (3, .int secs)]) (fun x H locs ls h => by obtain ⟨h1, h2, -⟩ := h; omega) (fun n9 x H locs ls hI ih => ?_) (11) (0, (fun _ : Nat => (0 : Int32)), C8) _ _ _ ⟨ai0, ai1, ai2, ai3, ai4, hE, hS, lv_sub hl [0, 1, 2, 3, 4] rfl⟩
  obtain ⟨q, aw1, C1⟩ := x
  obtain ⟨i0, i1, i2, i3, i4, hE, hS, hl⟩ := hI
  replace i0 : (n9 + 1) + q = 11 := i0
  replace i1 : q ≤ 10 := i1
  replace i2 : ∀ j, j < q → aw1 j = -1 := i2
  replace i3 : C1 (0, 71) = some (.inl (cI, 10, .inl aw1)) := i3
  replace i4 : fr_ag [(0, 71)] C1 C8 := i4
  replace hE : fr_W D hCl z b8 (C1) H := hE
  replace hl : lv_has ls 5 [(4, .int (nI q)), (0, .ref (b8 40)), (1, .int page), (2, .int grains), (3, .int secs)] := hl
  have k0 : C1 (0, 40) = some (.inr (5, fM b8 0 (clN page 1 50) (clN grains 1 100) (clN secs 0 1000000) 0 0 0 0 0 0 0)) := i4.at (by decide) f0
  refine lv_iload hx hb d_M_init_281 (lv_at hl 0 rfl) ?_
  refine lv_bipush (v := 10) hx hb d_M_init_283 (by decide) ?_
  refine lv_icmp_ge (tgt := 302) hx hb d_M_init_285 (by decide) (fun c_16 => ?_) (fun c_16 => ?_)
  · skip
    have hq : q = 10 := by rcases Nat.lt_or_ge q 10 with y | y; exact absurd c_16 (nI_ge y (by decide)); omega
    subst hq
    refine W.widen (k := 23) (n := 55546) (Nat.le_of_ble_eq_true rfl) (Nat.le_of_ble_eq_true rfl) ?_
    exact W.vret hx hb hr (fun t9 ht9 hW9 => ⟨⟨(b8, C1), rfl, ⟨aw1, i2, k0, i4.at (by decide) f6, i4.at (by decide) f7, i4.at (by decide) f8, i4.at (by decide) f9, i4.at (by decide) f10, i4.at (by decide) f12, i4.at (by decide) f13, i4.at (by decide) f14, i4.at (by decide) f15, i4.at (by decide) f16, i4.at (by decide) f18, i4.at (by decide) f19, i4.at (by decide) f20, i4.at (by decide) f21, i4.at (by decide) f22, i4.at (by decide) f24, i4.at (by decide) f25, i4.at (by decide) f26, i4.at (by decide) f28, i4.at (by decide) f29, i4.at (by decide) f30, i3, i4.at (by decide) f32, (i4.wider (by decide)).tr fag, fb40, fb⟩, ⟨by rw [ht9]; exact hE, va_K.moved hW9.alike hK⟩⟩, hS.F ht9⟩) hS.2.2 d_M_init_302
  · skip
    have hq : q < 10 := by rcases Nat.lt_or_ge q 10 with y | y; exact y; exact absurd (nI_le y (by omega)) c_16
    refine lv_aload_n hx hb d_M_init_288 rfl (lv_at hl 1 rfl) ?_
    refine fr_get (ci := 5) (Cn := hR_5) (T := hF_5) (N := 34) hx hb hT hi_5 hown hK hE (0, 40) rfl k0 rfl 31 (by decide) (hT _ kw_505) (fun _ h9 => h9) rfl d_M_init_289 ?_
    refine lv_iload hx hb d_M_init_292 (lv_at hl 0 rfl) ?_
    refine lv_iconst (v := (-1)) hx hb d_M_init_294 (by decide) ?_
    refine fr_iast hx hb hK hE hS (0, 71) 0 rfl i3 rfl q (rfl) (by omega) (by decide) d_M_init_295 (fun H locs hE hS => ?_)
    refine lv_iinc (v := nI (q + 1)) (lv' := [(4, .int (nI (q + 1))), (0, .ref (b8 40)), (1, .int page), (2, .int grains), (3, .int secs)]) hx hb d_M_init_296 hl (k := 0) rfl (nI_1 q) (by decide) rfl (fun ls hl => ?_)
    refine lv_goto (tgt := 281) hx hb d_M_init_299 (by decide) ?_
    have bi0 : n9 + (q + 1) = 11 := by omega
    have bi1 : (q + 1) ≤ 10 := by omega
    have bi2 : ∀ j, j < (q + 1) → (upd aw1 q (-1)) j = -1 := fun j hj => by rcases Nat.lt_or_ge j q with y | y; rw [pk_un (by omega)]; exact i2 j y; rw [show j = q by omega]; exact pk_us
    have bi3 : (fr_up C1 (0, 71) (.inl (cI, 10, .inl (upd aw1 q (-1))))) (0, 71) = some (.inl (cI, 10, .inl (upd aw1 q (-1)))) := rfl
    have bi4 : fr_ag [(0, 71)] (fr_up C1 (0, 71) (.inl (cI, 10, .inl (upd aw1 q (-1))))) C8 := i4.up (by decide)
    exact ih (q + 1, upd aw1 q (-1), fr_up C1 (0, 71) (.inl (cI, 10, .inl (upd aw1 q (-1))))) _ _ _ ⟨bi0, bi1, bi2, bi3, bi4, hE, hS, lv_sub hl [0, 1, 2, 3, 4] rfl⟩
end
section
theorem near_eq {v : Int32} {lo hi : Nat} (hlo : lo < 2 ^ 31) (hhi : hi < 2 ^ 31) (hh : lo ≤ hi) : (if nI lo < (if v < nI hi then v else nI hi) then (if v < nI hi then v else nI hi) else nI lo) = nI (clN v lo hi) := by
  by_cases h1 : v < nI lo
  · rw [clN_lo h1]
    have h2 : v < nI hi := Int32.lt_iff_toInt_lt.mpr (by have := Int32.lt_iff_toInt_lt.mp h1; rw [nI_toInt hlo] at this; rw [nI_toInt hhi]; omega)
    rw [if_pos h2, if_neg (fun q => Int32.lt_irrefl (Int32.lt_trans q h1))]
  · by_cases h2 : nI hi < v
    · rw [clN_hi h1 h2, if_neg (fun q => Int32.lt_irrefl (Int32.lt_trans q h2))]
      by_cases h3 : nI lo < nI hi
      · rw [if_pos h3]
      · rw [if_neg h3]
        have : lo = hi := by
          rcases Nat.lt_or_ge lo hi with q | q
          · exact absurd (nI_lt q hhi) h3
          · omega
        rw [this]
    · rw [← clN_val hlo h1 h2]
      by_cases h3 : v < nI hi
      · rw [if_pos h3]
        by_cases h4 : nI lo < v
        · rw [if_pos h4]
        · rw [if_neg h4]
          exact Int32.le_antisymm (Int32.not_lt.mp h1) (Int32.not_lt.mp h4)
      · rw [if_neg h3]
        have e : v = nI hi := Int32.le_antisymm (Int32.not_lt.mp h2) (Int32.not_lt.mp h3)
        by_cases h4 : nI lo < nI hi
        · rw [if_pos h4, e]
        · rw [if_neg h4]
          rw [e] at h1 ⊢
          exact Int32.le_antisymm (Int32.not_lt.mp h1) (Int32.not_lt.mp h4)
theorem fr_W.ne_pool {D : va_G} {cl : List vw_C} {z : Nat} {b : Nat → Nat} {C : fr_C} {H : Heap} {a i : Nat} {e1 e2 : va_E} (h : fr_W D cl z b C H) (h1 : C (1, a) = some e1) (h2 : C (0, i) = some e2) : a ≠ b i := by
  intro q
  have := h.2.2 _ _ _ _ h1 h2 q
  exact absurd (show (1 : Nat) = 0 from congrArg Prod.fst this) (by decide)
set_option maxHeartbeats 4000000 in
set_option maxRecDepth 100000 in
theorem c_X_nearest (l : Launch) {D : va_G} {z : Nat} {b : Nat → Nat} {C : fr_C} {H9 : Heap} (h9 : fr_W D hCl z b C H9) {cI cZ cJ cP cO : ClassId} (v : Int32) (lo hi : Nat) (hlo : lo < 2 ^ 31) (hhi : hi < 2 ^ 31) (hh : lo ≤ hi) : Met l y_X_nearest w_X_nearest ({ frames := 1, cells := 0, slots := 0, locals := 16 }) (va_Pc [.int v, .int (nI lo), .int (nI hi)] (fr_G D hCl (hTy cI cZ cJ cP cO) z b C)) (va_Qi (fun (r : Int32) (u : Unit) => r = nI (clN v lo hi)) (fun u t => fr_G D hCl (hTy cI cZ cJ cP cO) z ((fun _ => b) u) ((fun _ => C) u) t) (fr_A z)) 0 0 (fr_A z) := by
  refine Met.ofW (cc := b_X_nearest) (maxL := 3) (ret := (some .int)) (by decide) rfl ?_
  intro p e s m args below meth c s₁ B hml hv
  obtain ⟨rfl, hE, hK⟩ := hv
  have hx := B.exec
  have hb := B.bytes
  have hr := B.returns
  have hts := atoms_spec (ws := w_X_nearest) B.pre
  have hT : ∀ w ∈ hw_tbl, w.before _ s = true := fun w h => hts w (List.mem_cons_of_mem _ h)
  have hown : s.vm.findClass "HarvestSteps" = some m.cls := findClass_of_methodNamed B.named
  have hlocks := B.notSynchronized
  have hS : va_S (fr_A z) s.heap s.heap [] := va_S.rf
  have hl := lv_entry ([.int v, .int (nI lo), .int (nI hi)]) (n := 3) (Nat.le_of_ble_eq_true rfl)
  rw [lg_entry_eq]
  generalize (lg_sl ([.int v, .int (nI lo), .int (nI hi)]) ++ List.replicate (3 - (lg_sl ([.int v, .int (nI lo), .int (nI hi)])).length) Slot.unset).toArray = ls at hl ⊢
  have hl : lv_has ls 3 [(0, .int v), (1, .int (nI lo)), (2, .int (nI hi))] := hl
  refine lv_iload_n hx hb d_X_nearest_0 rfl (lv_at hl 1 rfl) ?_
  refine lv_iload_n hx hb d_X_nearest_1 rfl (lv_at hl 2 rfl) ?_
  refine lv_iload_n hx hb d_X_nearest_2 rfl (lv_at hl 0 rfl) ?_
  refine va_mmin hx hb (hml.trans hl.1.symm) hown (hT _ kw_80) (hT _ kw_81) (hT _ kw_25) (hT _ kw_82) (Nat.le_of_ble_eq_true rfl) (Nat.le_of_ble_eq_true rfl) (Nat.le_of_ble_eq_true rfl) (Nat.le_of_ble_eq_true rfl) d_X_nearest_3 ?_
  refine va_mmax hx hb (hml.trans hl.1.symm) hown (hT _ kw_83) (hT _ kw_84) (hT _ kw_25) (hT _ kw_85) (Nat.le_of_ble_eq_true rfl) (Nat.le_of_ble_eq_true rfl) (Nat.le_of_ble_eq_true rfl) (Nat.le_of_ble_eq_true rfl) d_X_nearest_6 ?_
  refine W.widen (k := 0) (n := 0) (Nat.le_of_ble_eq_true rfl) (Nat.le_of_ble_eq_true rfl) ?_
  exact W.iret (v := if (nI lo) < (if v < (nI hi) then v else (nI hi)) then (if v < (nI hi) then v else (nI hi)) else (nI lo)) hx hb hr (fun t9 ht9 hW9 => ⟨⟨if (nI lo) < (if v < (nI hi) then v else (nI hi)) then (if v < (nI hi) then v else (nI hi)) else (nI lo), (), rfl, near_eq hlo hhi hh, ⟨by rw [ht9]; exact hE, va_K.moved hW9.alike hK⟩⟩, hS.F ht9⟩) hS.2.2 d_X_nearest_9
set_option maxHeartbeats 4000000 in
set_option maxRecDepth 100000 in
theorem c_A_size (l : Launch) {D : va_G} {z : Nat} {b : Nat → Nat} {C : fr_C} {H9 : Heap} (h9 : fr_W D hCl z b C H9) {cI cZ cJ cP cO : ClassId} {mc : Int32} {dt tk : Nat} (h7 : C (0, 7) = some (.inr (4, [.ref dt, .int (nI tk), .int mc]))) : Met l y_A_size w_A_size ({ frames := 0, cells := 0, slots := 0, locals := 0 }) (va_Pc [.ref (b 7)] (fr_G D hCl (hTy cI cZ cJ cP cO) z b C)) (va_Qi (fun (r : Int32) (u : Unit) => r = nI tk) (fun u t => fr_G D hCl (hTy cI cZ cJ cP cO) z ((fun _ => b) u) ((fun _ => C) u) t) (fr_A z)) 0 0 (fr_A z) := by
  refine Met.ofW (cc := b_A_size) (maxL := 1) (ret := (some .int)) (by decide) rfl ?_
  intro p e s m args below meth c s₁ B hml hv
  obtain ⟨rfl, hE, hK⟩ := hv
  have hx := B.exec
  have hb := B.bytes
  have hr := B.returns
  have hts := atoms_spec (ws := w_A_size) B.pre
  have hT : ∀ w ∈ hw_tbl, w.before _ s = true := fun w h => hts w (List.mem_cons_of_mem _ h)
  have hown : s.vm.findClass "java/util/ArrayList" = some m.cls := findClass_of_methodNamed B.named
  have hlocks := B.notSynchronized
  have hS : va_S (fr_A z) s.heap s.heap [] := va_S.rf
  have hl := lv_entry ([.ref (b 7)]) (n := 1) (Nat.le_of_ble_eq_true rfl)
  rw [lg_entry_eq]
  generalize (lg_sl ([.ref (b 7)]) ++ List.replicate (1 - (lg_sl ([.ref (b 7)])).length) Slot.unset).toArray = ls at hl ⊢
  have hl : lv_has ls 1 [(0, .ref (b 7))] := hl
  refine lv_aload_n hx hb d_A_size_0 rfl (lv_at hl 0 rfl) ?_
  refine fr_get (ci := 4) (Cn := hR_4) (T := hF_4) (N := 3) hx hb hT hi_4 hown hK hE (0, 7) rfl h7 rfl 1 (by decide) (hT _ kw_62) (fun _ h9 => h9) rfl d_A_size_1 ?_
  refine W.widen (k := 0) (n := 0) (Nat.le_of_ble_eq_true rfl) (Nat.le_of_ble_eq_true rfl) ?_
  exact W.iret (v := nI tk) hx hb hr (fun t9 ht9 hW9 => ⟨⟨nI tk, (), rfl, rfl, ⟨by rw [ht9]; exact hE, va_K.moved hW9.alike hK⟩⟩, hS.F ht9⟩) hS.2.2 d_A_size_4
set_option maxHeartbeats 4000000 in
set_option maxRecDepth 100000 in
theorem c_X_isToken (l : Launch) {D : va_G} {z : Nat} {b : Nat → Nat} {C : fr_C} {H9 : Heap} (h9 : fr_W D hCl z b C H9) {cI cZ cJ cP cO : ClassId} {pg gr lf n an lc po : Nat}  (h0 : C (0, 0) = some (.inr (0, fX b pg gr lf n an lc po)))  {mc : Int32} {dt tk : Nat} (h7 : C (0, 7) = some (.inr (4, [.ref dt, .int (nI tk), .int mc]))) (htk : tk ≤ 4600) (v : Int32) : Met l y_X_isToken w_X_isToken ({ frames := 1, cells := 0, slots := 0, locals := 20 }) (va_Pc [.ref (b 0), .int v] (fr_G D hCl (hTy cI cZ cJ cP cO) z b C)) (va_Qi (fun (r : Int32) (u : Unit) => tells r (inN v tk)) (fun u t => fr_G D hCl (hTy cI cZ cJ cP cO) z ((fun _ => b) u) ((fun _ => C) u) t) (fr_A z)) 0 0 (fr_A z) := by
  refine Met.ofW (cc := b_X_isToken) (maxL := 2) (ret := (some .boolean)) (by decide) rfl ?_
  intro p e s m args below meth c s₁ B hml hv
  obtain ⟨rfl, hE, hK⟩ := hv
  have hx := B.exec
  have hb := B.bytes
  have hr := B.returns
  have hts := atoms_spec (ws := w_X_isToken) B.pre
  have hT : ∀ w ∈ hw_tbl, w.before _ s = true := fun w h => hts w (List.mem_cons_of_mem _ h)
  have hown : s.vm.findClass "HarvestSteps" = some m.cls := findClass_of_methodNamed B.named
  have hlocks := B.notSynchronized
  have hS : va_S (fr_A z) s.heap s.heap [] := va_S.rf
  have hl := lv_entry ([.ref (b 0), .int v]) (n := 2) (Nat.le_of_ble_eq_true rfl)
  rw [lg_entry_eq]
  generalize (lg_sl ([.ref (b 0), .int v]) ++ List.replicate (2 - (lg_sl ([.ref (b 0), .int v])).length) Slot.unset).toArray = ls at hl ⊢
  have hl : lv_has ls 2 [(0, .ref (b 0)), (1, .int v)] := hl
  refine lv_iload_n hx hb d_X_isToken_0 rfl (lv_at hl 1 rfl) ?_
  refine lv_if_lt (tgt := 19) hx hb d_X_isToken_1 (by decide) (fun c_1 => ?_) (fun c_1 => ?_)
  · skip
    refine lv_iconst (v := 0) hx hb d_X_isToken_19 (by decide) ?_
    refine W.widen (k := 0) (n := 0) (Nat.le_of_ble_eq_true rfl) (Nat.le_of_ble_eq_true rfl) ?_
    exact W.zret (v := 0) (ty := .boolean) hx hb hr rfl (fun t9 ht9 hW9 => ⟨⟨0, (), rfl, Or.inr ⟨rfl, inN_neg (by omega) c_1⟩, ⟨by rw [ht9]; exact hE, va_K.moved hW9.alike hK⟩⟩, hS.F ht9⟩) hS.2.2 d_X_isToken_20
  · skip
    refine lv_iload_n hx hb d_X_isToken_4 rfl (lv_at hl 1 rfl) ?_
    refine lv_aload_n hx hb d_X_isToken_5 rfl (lv_at hl 0 rfl) ?_
    refine fr_get (ci := 0) (Cn := hR_0) (T := hF_0) (N := 16) hx hb hT hi_0 hown hK hE (0, 0) rfl h0 rfl 12 (by decide) (hT _ kw_99) (fun _ h9 => h9) rfl d_X_isToken_6 ?_
    refine fr_calli (va_runV (As := []) (rest := [.int v]) ⟨hx, hb, hml, hown, hts⟩ (c_A_size l hE h7) (cwV 0 hts (hw_goodV kw_268 kw_269 kw_270 kw_24 kw_271) rfl rfl rfl (by decide +kernel) ⟨Nat.le_of_ble_eq_true rfl, Nat.le_of_ble_eq_true rfl⟩) ⟨fr_blind, fr_recv hK hE (0, 7) rfl h7 (ci := 4) rfl, fr_pre hE hK⟩ rfl rfl hl.1 rfl (lv_room (Nat.le_of_ble_eq_true rfl)) d_X_isToken_9 ⟨Nat.le_of_ble_eq_true rfl, Nat.le_of_ble_eq_true rfl⟩) hS (fun r_2 u_2 H locs w_2 hE hS => ?_)
    obtain rfl := w_2
    refine lv_icmp_ge (tgt := 19) hx hb d_X_isToken_12 (by decide) (fun c_3 => ?_) (fun c_3 => ?_)
    · skip
      refine lv_iconst (v := 0) hx hb d_X_isToken_19 (by decide) ?_
      refine W.widen (k := 0) (n := 0) (Nat.le_of_ble_eq_true rfl) (Nat.le_of_ble_eq_true rfl) ?_
      exact W.zret (v := 0) (ty := .boolean) hx hb hr rfl (fun t9 ht9 hW9 => ⟨⟨0, (), rfl, Or.inr ⟨rfl, inN_big (by omega) c_3⟩, ⟨by rw [ht9]; exact hE, va_K.moved hW9.alike hK⟩⟩, hS.F ht9⟩) hS.2.2 d_X_isToken_20
    · skip
      refine lv_iconst (v := 1) hx hb d_X_isToken_15 (by decide) ?_
      refine lv_goto (tgt := 20) hx hb d_X_isToken_16 (by decide) ?_
      refine W.widen (k := 0) (n := 0) (Nat.le_of_ble_eq_true rfl) (Nat.le_of_ble_eq_true rfl) ?_
      exact W.zret (v := 1) (ty := .boolean) hx hb hr rfl (fun t9 ht9 hW9 => ⟨⟨1, (), rfl, Or.inl ⟨rfl, inN_yes (by omega) c_1 c_3⟩, ⟨by rw [ht9]; exact hE, va_K.moved hW9.alike hK⟩⟩, hS.F ht9⟩) hS.2.2 d_X_isToken_20
set_option maxHeartbeats 4000000 in
set_option maxRecDepth 100000 in
theorem c_L_init (l : Launch) {D : va_G} {z : Nat} {b : Nat → Nat} {C : fr_C} {H9 : Heap} (h9 : fr_W D hCl z b C H9) {cI cZ cJ cP cO : ClassId} (h0 : C (0, 25) = some (.inr (1, [.int 0, .int 0, .int 0, .null]))) (h f ab : Int32) (a : Nat) : Met l y_L_init w_L_init ({ frames := 1, cells := 0, slots := 0, locals := 12 }) (va_Pc [.ref (b 25), .int h, .int f, .int ab, .ref a] (fr_G D hCl (hTy cI cZ cJ cP cO) z b C)) (va_Qv (fun (u : Unit) => True) (fun u t => fr_G D hCl (hTy cI cZ cJ cP cO) z ((fun _ => b) u) ((fun _ => fr_up C (0, 25) (.inr (1, [.int h, .int f, .int ab, .ref a]))) u) t) (fr_A z)) 0 0 (fr_A z) := by
  refine Met.ofW (cc := b_L_init) (maxL := 5) (ret := none) (by decide) rfl ?_
  intro p e s m args below meth c s₁ B hml hv
  obtain ⟨rfl, hE, hK⟩ := hv
  have hx := B.exec
  have hb := B.bytes
  have hr := B.returns
  have hts := atoms_spec (ws := w_L_init) B.pre
  have hT : ∀ w ∈ hw_tbl, w.before _ s = true := fun w h => hts w (List.mem_cons_of_mem _ h)
  have hown : s.vm.findClass "HarvestSteps$Listing" = some m.cls := findClass_of_methodNamed B.named
  have hlocks := B.notSynchronized
  have hin : meth.name = "<init>" := (name_of_methodNamed B.named B.method).1
  have hS : va_S (fr_A z) s.heap s.heap [] := va_S.rf
  have hl := lv_entry ([.ref (b 25), .int h, .int f, .int ab, .ref a]) (n := 5) (Nat.le_of_ble_eq_true rfl)
  rw [lg_entry_eq]
  generalize (lg_sl ([.ref (b 25), .int h, .int f, .int ab, .ref a]) ++ List.replicate (5 - (lg_sl ([.ref (b 25), .int h, .int f, .int ab, .ref a])).length) Slot.unset).toArray = ls at hl ⊢
  have hl : lv_has ls 5 [(0, .ref (b 25)), (1, .int h), (2, .int f), (3, .int ab), (4, .ref a)] := hl
  refine lv_aload_n hx hb d_L_init_0 rfl (lv_at hl 0 rfl) ?_
  refine W.objInit hx hb hown (hT _ kw_212) (hT _ kw_45) (hT _ kw_46) rfl (by rw [hml]; exact hl.1) rfl d_L_init_1 (Nat.le_of_ble_eq_true rfl) (Nat.le_of_ble_eq_true rfl) ?_
  refine W.eq (g2 := F0 m 4 ls []) rfl ?_
  refine lv_aload_n hx hb d_L_init_4 rfl (lv_at hl 0 rfl) ?_
  refine lv_iload_n hx hb d_L_init_5 rfl (lv_at hl 1 rfl) ?_
  refine fr_putF (ci := 1) (v := .int h) (ty := .int) (Cn := hR_1) (T := hF_1) (N := 4) hx hb hT hi_1 hy_1 ho_1 hn_1 hown hK hE hS (0, 25) rfl h0 rfl 0 (by decide) (hT _ kw_213) (fun _ h9 => h9) rfl hin rfl (by decide +kernel) rfl rfl (Nat.le_of_ble_eq_true rfl) d_L_init_6 (fun H locs hE hS => ?_)
  refine lv_aload_n hx hb d_L_init_9 rfl (lv_at hl 0 rfl) ?_
  refine lv_iload_n hx hb d_L_init_10 rfl (lv_at hl 2 rfl) ?_
  refine fr_putF (ci := 1) (v := .int f) (ty := .int) (Cn := hR_1) (T := hF_1) (N := 4) hx hb hT hi_1 hy_1 ho_1 hn_1 hown hK hE hS (0, 25) rfl rfl rfl 1 (by decide) (hT _ kw_215) (fun _ h9 => h9) rfl hin rfl (by decide +kernel) rfl rfl (Nat.le_of_ble_eq_true rfl) d_L_init_11 (fun H locs hE hS => ?_)
  refine lv_aload_n hx hb d_L_init_14 rfl (lv_at hl 0 rfl) ?_
  refine lv_iload_n hx hb d_L_init_15 rfl (lv_at hl 3 rfl) ?_
  refine fr_putF (ci := 1) (v := .int ab) (ty := .int) (Cn := hR_1) (T := hF_1) (N := 4) hx hb hT hi_1 hy_1 ho_1 hn_1 hown hK hE hS (0, 25) rfl rfl rfl 2 (by decide) (hT _ kw_217) (fun _ h9 => h9) rfl hin rfl (by decide +kernel) rfl rfl (Nat.le_of_ble_eq_true rfl) d_L_init_16 (fun H locs hE hS => ?_)
  refine lv_aload_n hx hb d_L_init_19 rfl (lv_at hl 0 rfl) ?_
  refine lv_aload hx hb d_L_init_20 (lv_at hl 4 rfl) ?_
  refine fr_putF (ci := 1) (v := .ref a) (ty := (.array .int)) (Cn := hR_1) (T := hF_1) (N := 4) hx hb hT hi_1 hy_1 ho_1 hn_1 hown hK hE hS (0, 25) rfl rfl rfl 3 (by decide) (hT _ kw_219) (fun _ h9 => h9) rfl hin rfl (by decide +kernel) rfl rfl (Nat.le_of_ble_eq_true rfl) d_L_init_22 (fun H locs hE hS => ?_)
  refine W.widen (k := 0) (n := 0) (Nat.le_of_ble_eq_true rfl) (Nat.le_of_ble_eq_true rfl) ?_
  rw [fr_up_up, fr_up_up, fr_up_up] at hE
  exact W.vret hx hb hr (fun t9 ht9 hW9 => ⟨⟨(), rfl, trivial, ⟨by rw [ht9]; exact hE, va_K.moved hW9.alike hK⟩⟩, hS.F ht9⟩) hS.2.2 d_L_init_25
set_option maxHeartbeats 4000000 in
set_option maxRecDepth 100000 in
theorem c_T_init (l : Launch) {D : va_G} {z : Nat} {b : Nat → Nat} {C : fr_C} {H9 : Heap} (h9 : fr_W D hCl z b C H9) {cI cZ cJ cP cO : ClassId} (h0 : C (0, 24) = some (.inr (3, [.null, .int 0, .int 0, .null]))) (lg : Nat) (bg md : Int32) : Met l y_T_init w_T_init ({ frames := 1, cells := 0, slots := 0, locals := 12 }) (va_Pc [.ref (b 24), .ref lg, .int bg, .int md] (fr_G D hCl (hTy cI cZ cJ cP cO) z b C)) (va_Qv (fun (u : Unit) => True) (fun u t => fr_G D hCl (hTy cI cZ cJ cP cO) z ((fun _ => b) u) ((fun _ => fr_up C (0, 24) (.inr (3, [.ref lg, .int bg, .int md, .null]))) u) t) (fr_A z)) 0 0 (fr_A z) := by
  refine Met.ofW (cc := b_T_init) (maxL := 4) (ret := none) (by decide) rfl ?_
  intro p e s m args below meth c s₁ B hml hv
  obtain ⟨rfl, hE, hK⟩ := hv
  have hx := B.exec
  have hb := B.bytes
  have hr := B.returns
  have hts := atoms_spec (ws := w_T_init) B.pre
  have hT : ∀ w ∈ hw_tbl, w.before _ s = true := fun w h => hts w (List.mem_cons_of_mem _ h)
  have hown : s.vm.findClass "HarvestSteps$Token" = some m.cls := findClass_of_methodNamed B.named
  have hlocks := B.notSynchronized
  have hin : meth.name = "<init>" := (name_of_methodNamed B.named B.method).1
  have hS : va_S (fr_A z) s.heap s.heap [] := va_S.rf
  have hl := lv_entry ([.ref (b 24), .ref lg, .int bg, .int md]) (n := 4) (Nat.le_of_ble_eq_true rfl)
  rw [lg_entry_eq]
  generalize (lg_sl ([.ref (b 24), .ref lg, .int bg, .int md]) ++ List.replicate (4 - (lg_sl ([.ref (b 24), .ref lg, .int bg, .int md])).length) Slot.unset).toArray = ls at hl ⊢
  have hl : lv_has ls 4 [(0, .ref (b 24)), (1, .ref lg), (2, .int bg), (3, .int md)] := hl
  refine lv_aload_n hx hb d_T_init_0 rfl (lv_at hl 0 rfl) ?_
  refine W.objInit hx hb hown (hT _ kw_277) (hT _ kw_45) (hT _ kw_46) rfl (by rw [hml]; exact hl.1) rfl d_T_init_1 (Nat.le_of_ble_eq_true rfl) (Nat.le_of_ble_eq_true rfl) ?_
  refine W.eq (g2 := F0 m 4 ls []) rfl ?_
  refine lv_aload_n hx hb d_T_init_4 rfl (lv_at hl 0 rfl) ?_
  refine lv_null hx hb d_T_init_5 ?_
  refine fr_put (ci := 3) (v := .null) (ty := (.object "HarvestSteps$Page")) (Cn := hR_3) (T := hF_3) (N := 4) hx hb hT hi_3 hy_3 ho_3 hn_3 hown hK hE hS (0, 24) rfl h0 rfl 3 (by decide) (hT _ kw_284) (fun _ h9 => h9) rfl (by decide +kernel) rfl rfl (Nat.le_of_ble_eq_true rfl) d_T_init_6 (fun H locs hE hS => ?_)
  refine lv_aload_n hx hb d_T_init_9 rfl (lv_at hl 0 rfl) ?_
  refine lv_aload_n hx hb d_T_init_10 rfl (lv_at hl 1 rfl) ?_
  refine fr_putF (ci := 3) (v := .ref lg) (ty := (.object "HarvestSteps$Listing")) (Cn := hR_3) (T := hF_3) (N := 4) hx hb hT hi_3 hy_3 ho_3 hn_3 hown hK hE hS (0, 24) rfl rfl rfl 0 (by decide) (hT _ kw_278) (fun _ h9 => h9) rfl hin rfl (by decide +kernel) rfl rfl (Nat.le_of_ble_eq_true rfl) d_T_init_11 (fun H locs hE hS => ?_)
  refine lv_aload_n hx hb d_T_init_14 rfl (lv_at hl 0 rfl) ?_
  refine lv_iload_n hx hb d_T_init_15 rfl (lv_at hl 2 rfl) ?_
  refine fr_putF (ci := 3) (v := .int bg) (ty := .int) (Cn := hR_3) (T := hF_3) (N := 4) hx hb hT hi_3 hy_3 ho_3 hn_3 hown hK hE hS (0, 24) rfl rfl rfl 1 (by decide) (hT _ kw_280) (fun _ h9 => h9) rfl hin rfl (by decide +kernel) rfl rfl (Nat.le_of_ble_eq_true rfl) d_T_init_16 (fun H locs hE hS => ?_)
  refine lv_aload_n hx hb d_T_init_19 rfl (lv_at hl 0 rfl) ?_
  refine lv_iload_n hx hb d_T_init_20 rfl (lv_at hl 3 rfl) ?_
  refine fr_putF (ci := 3) (v := .int md) (ty := .int) (Cn := hR_3) (T := hF_3) (N := 4) hx hb hT hi_3 hy_3 ho_3 hn_3 hown hK hE hS (0, 24) rfl rfl rfl 2 (by decide) (hT _ kw_282) (fun _ h9 => h9) rfl hin rfl (by decide +kernel) rfl rfl (Nat.le_of_ble_eq_true rfl) d_T_init_21 (fun H locs hE hS => ?_)
  refine W.widen (k := 0) (n := 0) (Nat.le_of_ble_eq_true rfl) (Nat.le_of_ble_eq_true rfl) ?_
  rw [fr_up_up, fr_up_up, fr_up_up] at hE
  exact W.vret hx hb hr (fun t9 ht9 hW9 => ⟨⟨(), rfl, trivial, ⟨by rw [ht9]; exact hE, va_K.moved hW9.alike hK⟩⟩, hS.F ht9⟩) hS.2.2 d_T_init_24
set_option maxHeartbeats 4000000 in
set_option maxRecDepth 100000 in
theorem c_P_init (l : Launch) {D : va_G} {z : Nat} {b : Nat → Nat} {C : fr_C} {H9 : Heap} (h9 : fr_W D hCl z b C H9) {cI cZ cJ cP cO : ClassId} (h0 : C (0, 20) = some (.inr (2, [.int 0, .null, .null, .null, .int 0, .int 0]))) (f : Int32) (rm : Nat) (hrm : rm ≤ 50) : Met l y_P_init w_P_init ({ frames := 1, cells := 3, slots := 150, locals := 12 }) (va_Pc [.ref (b 20), .int f, .int (nI rm)] (fr_G D hCl (hTy cI cZ cJ cP cO) z b C)) (va_Qv (fun (u : Nat × Nat × Nat × fr_C) => u.2.2.2 (0, 20) = some (.inr (2, [.int f, .ref u.1, .ref u.2.1, .ref u.2.2.1, .int 0, .int (-1)])) ∧ u.2.2.2 (0, 21) = some (.inl (cI, rm, .inl (fun _ => 0))) ∧ u.2.2.2 (0, 22) = some (.inl (cI, rm, .inl (fun _ => 0))) ∧ u.2.2.2 (0, 23) = some (.inl (cZ, rm, .inl (fun _ => 0))) ∧ fr_ag [(0, 20), (0, 21), (0, 22), (0, 23)] u.2.2.2 C) (fun u t => fr_G D hCl (hTy cI cZ cJ cP cO) z ((fun u => fr_ub (fr_ub (fr_ub b 21 u.1) 22 u.2.1) 23 u.2.2.1) u) ((fun u => u.2.2.2) u) t) (fr_A z)) 3 150 (fr_A z) := by
  refine Met.ofW (cc := b_P_init) (maxL := 3) (ret := none) (by decide) rfl ?_
  intro p e s m args below meth c s₁ B hml hv
  obtain ⟨rfl, hE, hK⟩ := hv
  have hx := B.exec
  have hb := B.bytes
  have hr := B.returns
  have hts := atoms_spec (ws := w_P_init) B.pre
  have hT : ∀ w ∈ hw_tbl, w.before _ s = true := fun w h => hts w (List.mem_cons_of_mem _ h)
  have hown : s.vm.findClass "HarvestSteps$Page" = some m.cls := findClass_of_methodNamed B.named
  have hlocks := B.notSynchronized
  have hin : meth.name = "<init>" := (name_of_methodNamed B.named B.method).1
  have hS : va_S (fr_A z) s.heap s.heap [] := va_S.rf
  have hl := lv_entry ([.ref (b 20), .int f, .int (nI rm)]) (n := 3) (Nat.le_of_ble_eq_true rfl)
  rw [lg_entry_eq]
  generalize (lg_sl ([.ref (b 20), .int f, .int (nI rm)]) ++ List.replicate (3 - (lg_sl ([.ref (b 20), .int f, .int (nI rm)])).length) Slot.unset).toArray = ls at hl ⊢
  have hl : lv_has ls 3 [(0, .ref (b 20)), (1, .int f), (2, .int (nI rm))] := hl
  refine lv_aload_n hx hb d_P_init_0 rfl (lv_at hl 0 rfl) ?_
  refine W.objInit hx hb hown (hT _ kw_238) (hT _ kw_45) (hT _ kw_46) rfl (by rw [hml]; exact hl.1) rfl d_P_init_1 (Nat.le_of_ble_eq_true rfl) (Nat.le_of_ble_eq_true rfl) ?_
  refine W.eq (g2 := F0 m 4 ls []) rfl ?_
  refine lv_aload_n hx hb d_P_init_4 rfl (lv_at hl 0 rfl) ?_
  refine lv_iconst (v := 0) hx hb d_P_init_5 (by decide) ?_
  refine fr_put (ci := 2) (v := .int 0) (ty := .int) (Cn := hR_2) (T := hF_2) (N := 6) hx hb hT hi_2 hy_2 ho_2 hn_2 hown hK hE hS (0, 20) rfl h0 rfl 4 (by decide) (hT _ kw_247) (fun _ h9 => h9) rfl (by decide +kernel) rfl rfl (Nat.le_of_ble_eq_true rfl) d_P_init_6 (fun H locs hE hS => ?_)
  refine lv_aload_n hx hb d_P_init_9 rfl (lv_at hl 0 rfl) ?_
  refine lv_iconst (v := (-1)) hx hb d_P_init_10 (by decide) ?_
  refine fr_put (ci := 2) (v := .int (-1)) (ty := .int) (Cn := hR_2) (T := hF_2) (N := 6) hx hb hT hi_2 hy_2 ho_2 hn_2 hown hK hE hS (0, 20) rfl rfl rfl 5 (by decide) (hT _ kw_249) (fun _ h9 => h9) rfl (by decide +kernel) rfl rfl (Nat.le_of_ble_eq_true rfl) d_P_init_11 (fun H locs hE hS => ?_)
  refine lv_aload_n hx hb d_P_init_14 rfl (lv_at hl 0 rfl) ?_
  refine lv_iload_n hx hb d_P_init_15 rfl (lv_at hl 1 rfl) ?_
  refine fr_putF (ci := 2) (v := .int f) (ty := .int) (Cn := hR_2) (T := hF_2) (N := 6) hx hb hT hi_2 hy_2 ho_2 hn_2 hown hK hE hS (0, 20) rfl rfl rfl 0 (by decide) (hT _ kw_239) (fun _ h9 => h9) rfl hin rfl (by decide +kernel) rfl rfl (Nat.le_of_ble_eq_true rfl) d_P_init_16 (fun H locs hE hS => ?_)
  refine lv_aload_n hx hb d_P_init_19 rfl (lv_at hl 0 rfl) ?_
  refine lv_iload_n hx hb d_P_init_20 rfl (lv_at hl 2 rfl) ?_
  refine fr_newa (atype := .int) (ty := .int) (a0 := (rm, .inl (fun _ => 0))) hx hb (hT _ kw_74) rfl hK hE hS 21 0 rfl rm (fun _ => rfl) (rfl) (by omega) (show rm * _ ≤ _ from Nat.le_trans (Nat.mul_le_mul_right _ hrm) (by decide)) (Nat.le_of_ble_eq_true rfl) (show 0 + rm ≤ 150 by omega) d_P_init_21 (fun q21 H nq21 hE hS => ?_)
  refine W.widen (k := 1) (n := 50) (Nat.le_of_ble_eq_true rfl) (by omega) ?_
  refine fr_putF (ci := 2) (v := .ref q21) (ty := (.array .int)) (Cn := hR_2) (T := hF_2) (N := 6) hx hb hT hi_2 hy_2 ho_2 hn_2 hown hK hE hS (0, 20) rfl rfl rfl 1 (by decide) (hT _ kw_241) (fun _ h9 => h9) rfl hin rfl (by decide +kernel) rfl rfl (Nat.le_of_ble_eq_true rfl) d_P_init_23 (fun H locs hE hS => ?_)
  refine lv_aload_n hx hb d_P_init_26 rfl (lv_at hl 0 rfl) ?_
  refine lv_iload_n hx hb d_P_init_27 rfl (lv_at hl 2 rfl) ?_
  refine fr_newa (atype := .int) (ty := .int) (a0 := (rm, .inl (fun _ => 0))) hx hb (hT _ kw_74) rfl hK hE hS 22 0 rfl rm (fun _ => rfl) (rfl) (by omega) (show rm * _ ≤ _ from Nat.le_trans (Nat.mul_le_mul_right _ hrm) (by decide)) (Nat.le_of_ble_eq_true rfl) (show 50 + rm ≤ 150 by omega) d_P_init_28 (fun q22 H nq22 hE hS => ?_)
  refine W.widen (k := 2) (n := 100) (Nat.le_of_ble_eq_true rfl) (by omega) ?_
  refine fr_putF (ci := 2) (v := .ref q22) (ty := (.array .int)) (Cn := hR_2) (T := hF_2) (N := 6) hx hb hT hi_2 hy_2 ho_2 hn_2 hown hK hE hS (0, 20) rfl rfl rfl 2 (by decide) (hT _ kw_243) (fun _ h9 => h9) rfl hin rfl (by decide +kernel) rfl rfl (Nat.le_of_ble_eq_true rfl) d_P_init_30 (fun H locs hE hS => ?_)
  refine lv_aload_n hx hb d_P_init_33 rfl (lv_at hl 0 rfl) ?_
  refine lv_iload_n hx hb d_P_init_34 rfl (lv_at hl 2 rfl) ?_
  refine fr_newa (atype := .boolean) (ty := .boolean) (a0 := (rm, .inl (fun _ => 0))) hx hb (hT _ kw_73) rfl hK hE hS 23 1 rfl rm (fun _ => rfl) (rfl) (by omega) (show rm * _ ≤ _ from Nat.le_trans (Nat.mul_le_mul_right _ hrm) (by decide)) (Nat.le_of_ble_eq_true rfl) (show 100 + rm ≤ 150 by omega) d_P_init_35 (fun q23 H nq23 hE hS => ?_)
  refine W.widen (k := 3) (n := 150) (Nat.le_of_ble_eq_true rfl) (by omega) ?_
  refine fr_putF (ci := 2) (v := .ref q23) (ty := (.array .boolean)) (Cn := hR_2) (T := hF_2) (N := 6) hx hb hT hi_2 hy_2 ho_2 hn_2 hown hK hE hS (0, 20) rfl rfl rfl 3 (by decide) (hT _ kw_245) (fun _ h9 => h9) rfl hin rfl (by decide +kernel) rfl rfl (Nat.le_of_ble_eq_true rfl) d_P_init_37 (fun H locs hE hS => ?_)
  refine W.widen (k := 3) (n := 150) (Nat.le_of_ble_eq_true rfl) (Nat.le_of_ble_eq_true rfl) ?_
  have hpost := hE.say (fun C9 => C9 (0, 20) = some (.inr (2, [.int f, .ref q21, .ref q22, .ref q23, .int 0, .int (-1)])) ∧ C9 (0, 21) = some (.inl (cI, rm, .inl (fun _ => 0))) ∧ C9 (0, 22) = some (.inl (cI, rm, .inl (fun _ => 0))) ∧ C9 (0, 23) = some (.inl (cZ, rm, .inl (fun _ => 0))) ∧ fr_ag [(0, 20), (0, 21), (0, 22), (0, 23)] C9 C) ⟨rfl, rfl, rfl, rfl, fr_ag.up (fr_ag.up (fr_ag.up (fr_ag.up (fr_ag.up (fr_ag.up (fr_ag.up (fr_ag.up (fr_ag.up (fr_ag.rf) (by decide)) (by decide)) (by decide)) (by decide)) (by decide)) (by decide)) (by decide)) (by decide)) (by decide)⟩
  exact W.vret hx hb hr (fun t9 ht9 hW9 => ⟨⟨(q21, q22, q23, _), rfl, hpost, ⟨by rw [ht9]; exact hE, va_K.moved hW9.alike hK⟩⟩, hS.F ht9⟩) hS.2.2 d_P_init_40
set_option maxHeartbeats 4000000 in
set_option maxRecDepth 100000 in
theorem c_P_keep (l : Launch) {D : va_G} {z : Nat} {b : Nat → Nat} {C : fr_C} {H9 : Heap} (h9 : fr_W D hCl z b C H9) {cI cZ cJ cP cO : ClassId} {f nt : Int32} {ct rm : Nat} {fn fd fz : Nat → Int32} (h0 : C (0, 20) = some (.inr (2, [.int f, .ref (b 21), .ref (b 22), .ref (b 23), .int (nI ct), .int nt]))) (h1 : C (0, 21) = some (.inl (cI, rm, .inl fn))) (h2 : C (0, 22) = some (.inl (cI, rm, .inl fd))) (h3 : C (0, 23) = some (.inl (cZ, rm, .inl fz))) (hct : ct < rm) (hrm : rm ≤ 50) (nu da x : Int32) (hxx : vp_nar .boolean x = x) : Met l y_P_keep w_P_keep ({ frames := 0, cells := 0, slots := 0, locals := 0 }) (va_Pc [.ref (b 20), .int nu, .int da, .int x] (fr_G D hCl (hTy cI cZ cJ cP cO) z b C)) (va_Qv (fun (u : Unit) => True) (fun u t => fr_G D hCl (hTy cI cZ cJ cP cO) z ((fun _ => b) u) ((fun _ => fr_up (fr_up (fr_up (fr_up C (0, 21) (.inl (cI, rm, .inl (upd fn ct nu)))) (0, 22) (.inl (cI, rm, .inl (upd fd ct da)))) (0, 23) (.inl (cZ, rm, .inl (upd fz ct x)))) (0, 20) (.inr (2, [.int f, .ref (b 21), .ref (b 22), .ref (b 23), .int (nI (ct + 1)), .int nt]))) u) t) (fr_A z)) 0 0 (fr_A z) := by
  refine Met.ofW (cc := b_P_keep) (maxL := 4) (ret := none) (by decide) rfl ?_
  intro p e s m args below meth c s₁ B hml hv
  obtain ⟨rfl, hE, hK⟩ := hv
  have hx := B.exec
  have hb := B.bytes
  have hr := B.returns
  have hts := atoms_spec (ws := w_P_keep) B.pre
  have hT : ∀ w ∈ hw_tbl, w.before _ s = true := fun w h => hts w (List.mem_cons_of_mem _ h)
  have hown : s.vm.findClass "HarvestSteps$Page" = some m.cls := findClass_of_methodNamed B.named
  have hlocks := B.notSynchronized
  have hS : va_S (fr_A z) s.heap s.heap [] := va_S.rf
  have hl := lv_entry ([.ref (b 20), .int nu, .int da, .int x]) (n := 4) (Nat.le_of_ble_eq_true rfl)
  rw [lg_entry_eq]
  generalize (lg_sl ([.ref (b 20), .int nu, .int da, .int x]) ++ List.replicate (4 - (lg_sl ([.ref (b 20), .int nu, .int da, .int x])).length) Slot.unset).toArray = ls at hl ⊢
  have hl : lv_has ls 4 [(0, .ref (b 20)), (1, .int nu), (2, .int da), (3, .int x)] := hl
  refine lv_aload_n hx hb d_P_keep_0 rfl (lv_at hl 0 rfl) ?_
  refine fr_get (ci := 2) (Cn := hR_2) (T := hF_2) (N := 6) hx hb hT hi_2 hown hK hE (0, 20) rfl h0 rfl 4 (by decide) (hT _ kw_247) (fun _ h9 => h9) rfl d_P_keep_1 ?_
  refine lv_aload_n hx hb d_P_keep_4 rfl (lv_at hl 0 rfl) ?_
  refine fr_get (ci := 2) (Cn := hR_2) (T := hF_2) (N := 6) hx hb hT hi_2 hown hK hE (0, 20) rfl h0 rfl 1 (by decide) (hT _ kw_241) (fun _ h9 => h9) rfl d_P_keep_5 ?_
  refine fr_alen hx hb hK hE (0, 21) 0 rfl h1 rfl d_P_keep_8 ?_
  refine lv_icmp_lt (tgt := 13) hx hb d_P_keep_9 (by decide) (fun c_1 => ?_) (fun c_1 => ?_)
  · skip
    refine lv_aload_n hx hb d_P_keep_13 rfl (lv_at hl 0 rfl) ?_
    refine fr_get (ci := 2) (Cn := hR_2) (T := hF_2) (N := 6) hx hb hT hi_2 hown hK hE (0, 20) rfl h0 rfl 1 (by decide) (hT _ kw_241) (fun _ h9 => h9) rfl d_P_keep_14 ?_
    refine lv_aload_n hx hb d_P_keep_17 rfl (lv_at hl 0 rfl) ?_
    refine fr_get (ci := 2) (Cn := hR_2) (T := hF_2) (N := 6) hx hb hT hi_2 hown hK hE (0, 20) rfl h0 rfl 4 (by decide) (hT _ kw_247) (fun _ h9 => h9) rfl d_P_keep_18 ?_
    refine lv_iload_n hx hb d_P_keep_21 rfl (lv_at hl 1 rfl) ?_
    refine fr_iast hx hb hK hE hS (0, 21) 0 rfl h1 rfl ct (rfl) (by omega) (by omega) d_P_keep_22 (fun H locs hE hS => ?_)
    refine lv_aload_n hx hb d_P_keep_23 rfl (lv_at hl 0 rfl) ?_
    refine fr_get (ci := 2) (Cn := hR_2) (T := hF_2) (N := 6) hx hb hT hi_2 hown hK hE (0, 20) rfl h0 rfl 2 (by decide) (hT _ kw_243) (fun _ h9 => h9) rfl d_P_keep_24 ?_
    refine lv_aload_n hx hb d_P_keep_27 rfl (lv_at hl 0 rfl) ?_
    refine fr_get (ci := 2) (Cn := hR_2) (T := hF_2) (N := 6) hx hb hT hi_2 hown hK hE (0, 20) rfl h0 rfl 4 (by decide) (hT _ kw_247) (fun _ h9 => h9) rfl d_P_keep_28 ?_
    refine lv_iload_n hx hb d_P_keep_31 rfl (lv_at hl 2 rfl) ?_
    refine fr_iast hx hb hK hE hS (0, 22) 0 rfl h2 rfl ct (rfl) (by omega) (by omega) d_P_keep_32 (fun H locs hE hS => ?_)
    refine lv_aload_n hx hb d_P_keep_33 rfl (lv_at hl 0 rfl) ?_
    refine fr_get (ci := 2) (Cn := hR_2) (T := hF_2) (N := 6) hx hb hT hi_2 hown hK hE (0, 20) rfl h0 rfl 3 (by decide) (hT _ kw_245) (fun _ h9 => h9) rfl d_P_keep_34 ?_
    refine lv_aload_n hx hb d_P_keep_37 rfl (lv_at hl 0 rfl) ?_
    refine fr_get (ci := 2) (Cn := hR_2) (T := hF_2) (N := 6) hx hb hT hi_2 hown hK hE (0, 20) rfl h0 rfl 4 (by decide) (hT _ kw_247) (fun _ h9 => h9) rfl d_P_keep_38 ?_
    refine lv_iload_n hx hb d_P_keep_41 rfl (lv_at hl 3 rfl) ?_
    refine fr_zast hx hb hK hE hS (0, 23) 1 rfl h3 rfl ct (rfl) (by omega) (by omega) x (hxx) d_P_keep_42 (fun H locs hE hS => ?_)
    refine lv_aload_n hx hb d_P_keep_43 rfl (lv_at hl 0 rfl) ?_
    refine lv_dup hx hb d_P_keep_44 rfl ?_
    refine fr_get (ci := 2) (Cn := hR_2) (T := hF_2) (N := 6) hx hb hT hi_2 hown hK hE (0, 20) rfl h0 rfl 4 (by decide) (hT _ kw_247) (fun _ h9 => h9) rfl d_P_keep_45 ?_
    refine lv_iconst (v := 1) hx hb d_P_keep_48 (by decide) ?_
    refine lv_iadd hx hb d_P_keep_49 ?_
    refine lv_topi (fun y_2 ey_2 => ?_)
    obtain rfl : y_2 = nI (ct + 1) := ey_2.trans (nI_1 ct)
    refine fr_put (ci := 2) (v := .int (nI (ct + 1))) (ty := .int) (Cn := hR_2) (T := hF_2) (N := 6) hx hb hT hi_2 hy_2 ho_2 hn_2 hown hK hE hS (0, 20) rfl h0 rfl 4 (by decide) (hT _ kw_247) (fun _ h9 => h9) rfl (by decide +kernel) rfl rfl (Nat.le_of_ble_eq_true rfl) d_P_keep_50 (fun H locs hE hS => ?_)
    refine W.widen (k := 0) (n := 0) (Nat.le_of_ble_eq_true rfl) (Nat.le_of_ble_eq_true rfl) ?_
    exact W.vret hx hb hr (fun t9 ht9 hW9 => ⟨⟨(), rfl, trivial, ⟨by rw [ht9]; exact hE, va_K.moved hW9.alike hK⟩⟩, hS.F ht9⟩) hS.2.2 d_P_keep_53
  · skip
    exact absurd c_1 (fun q9 => q9 (nI_lt hct (by omega)))
def xAns (C : fr_C) (cI cP : ClassId) (lp : Nat → Option Nat) (cs : Nat → Int32) (hh pg : Nat) (ct : Int32) : fr_C := fr_up (fr_up C (0, 8) (.inl (cP, 10, .inr (.inr (.inr (.inr (va_up lp hh (some pg)))))))) (0, 9) (.inl (cI, 10, .inl (upd cs hh (cs hh + ct))))
set_option maxHeartbeats 4000000 in
set_option maxRecDepth 100000 in
theorem c_X_answer (l : Launch) {D : va_G} {z : Nat} {b : Nat → Nat} {C : fr_C} {H9 : Heap} (h9 : fr_W D hCl z b C H9) {cI cZ cJ cP cO : ClassId} {pg gr lf n an lc po : Nat} {lp : Nat → Option Nat} {cs : Nat → Int32} (h0 : C (0, 0) = some (.inr (0, fX b pg gr lf n an lc po))) (h8 : C (0, 8) = some (.inl (cP, 10, .inr (.inr (.inr (.inr lp)))))) (h9a : C (0, 9) = some (.inl (cI, 10, .inl cs))) {fo ct nt : Int32} {pn pd pz : Nat} (pa : Nat) (hpa : C (1, pa) = some (.inr (2, [.int fo, .ref pn, .ref pd, .ref pz, .int ct, .int nt]))) (hh : Nat) (hhh : hh < 10) : Met l y_X_answer w_X_answer ({ frames := 0, cells := 0, slots := 0, locals := 0 }) (va_Pc [.ref (b 0), .int (nI hh), .ref pa] (fr_G D hCl (hTy cI cZ cJ cP cO) z b C)) (va_Qi (fun (r : Int32) (u : Unit) => r = ct) (fun u t => fr_G D hCl (hTy cI cZ cJ cP cO) z ((fun _ => b) u) ((fun _ => xAns C cI cP lp cs hh pa ct) u) t) (fr_A z)) 0 0 (fr_A z) := by
  refine Met.ofW (cc := b_X_answer) (maxL := 3) (ret := (some .int)) (by decide) rfl ?_
  intro p e s m args below meth c s₁ B hml hv
  obtain ⟨rfl, hE, hK⟩ := hv
  have hx := B.exec
  have hb := B.bytes
  have hr := B.returns
  have hts := atoms_spec (ws := w_X_answer) B.pre
  have hT : ∀ w ∈ hw_tbl, w.before _ s = true := fun w h => hts w (List.mem_cons_of_mem _ h)
  have hown : s.vm.findClass "HarvestSteps" = some m.cls := findClass_of_methodNamed B.named
  have hlocks := B.notSynchronized
  have hS : va_S (fr_A z) s.heap s.heap [] := va_S.rf
  have hl := lv_entry ([.ref (b 0), .int (nI hh), .ref pa]) (n := 3) (Nat.le_of_ble_eq_true rfl)
  rw [lg_entry_eq]
  generalize (lg_sl ([.ref (b 0), .int (nI hh), .ref pa]) ++ List.replicate (3 - (lg_sl ([.ref (b 0), .int (nI hh), .ref pa])).length) Slot.unset).toArray = ls at hl ⊢
  have hl : lv_has ls 3 [(0, .ref (b 0)), (1, .int (nI hh)), (2, .ref pa)] := hl
  refine lv_aload_n hx hb d_X_answer_0 rfl (lv_at hl 0 rfl) ?_
  refine fr_get (ci := 0) (Cn := hR_0) (T := hF_0) (N := 16) hx hb hT hi_0 hown hK hE (0, 0) rfl h0 rfl 13 (by decide) (hT _ kw_100) (fun _ h9 => h9) rfl d_X_answer_1 ?_
  refine lv_iload_n hx hb d_X_answer_4 rfl (lv_at hl 1 rfl) ?_
  refine lv_aload_n hx hb d_X_answer_5 rfl (lv_at hl 2 rfl) ?_
  refine fr_aast hx hb hK hE hS (0, 8) 3 rfl h8 rfl (1, pa) rfl hpa rfl hh (rfl) (by omega) (by decide) d_X_answer_6 (fun H locs hE hS => ?_)
  refine lv_aload_n hx hb d_X_answer_7 rfl (lv_at hl 0 rfl) ?_
  refine fr_get (ci := 0) (Cn := hR_0) (T := hF_0) (N := 16) hx hb hT hi_0 hown hK hE (0, 0) rfl h0 rfl 14 (by decide) (hT _ kw_101) (fun _ h9 => h9) rfl d_X_answer_8 ?_
  refine lv_iload_n hx hb d_X_answer_11 rfl (lv_at hl 1 rfl) ?_
  refine lv_dup2_11 hx hb d_X_answer_12 rfl rfl ?_
  refine fr_iald hx hb hK hE (0, 9) 0 rfl h9a rfl hh (rfl) (by omega) (by decide) d_X_answer_13 ?_
  refine lv_aload_n hx hb d_X_answer_14 rfl (lv_at hl 2 rfl) ?_
  refine fr_get (ci := 2) (Cn := hR_2) (T := hF_2) (N := 6) hx hb hT hi_2 hown hK hE (1, pa) rfl hpa rfl 4 (by decide) (hT _ kw_248) (fun _ h9 => h9) rfl d_X_answer_15 ?_
  refine lv_iadd hx hb d_X_answer_18 ?_
  refine fr_iast hx hb hK hE hS (0, 9) 0 rfl h9a rfl hh (rfl) (by omega) (by decide) d_X_answer_19 (fun H locs hE hS => ?_)
  refine lv_aload_n hx hb d_X_answer_20 rfl (lv_at hl 2 rfl) ?_
  refine fr_get (ci := 2) (Cn := hR_2) (T := hF_2) (N := 6) hx hb hT hi_2 hown hK hE (1, pa) rfl hpa rfl 4 (by decide) (hT _ kw_248) (fun _ h9 => h9) rfl d_X_answer_21 ?_
  refine W.widen (k := 0) (n := 0) (Nat.le_of_ble_eq_true rfl) (Nat.le_of_ble_eq_true rfl) ?_
  exact W.iret (v := ct) hx hb hr (fun t9 ht9 hW9 => ⟨⟨ct, (), rfl, rfl, ⟨by rw [ht9]; exact hE, va_K.moved hW9.alike hK⟩⟩, hS.F ht9⟩) hS.2.2 d_X_answer_24
set_option maxHeartbeats 4000000 in
set_option maxRecDepth 100000 in
theorem c_X_token (l : Launch) {D : va_G} {z : Nat} {b : Nat → Nat} {C : fr_C} {H9 : Heap} (h9 : fr_W D hCl z b C H9) {cI cZ cJ cP cO : ClassId} {pg gr lf n an lc po : Nat} {lp : Nat → Option Nat} (h0 : C (0, 0) = some (.inr (0, fX b pg gr lf n an lc po))) (h8 : C (0, 8) = some (.inl (cP, 10, .inr (.inr (.inr (.inr lp)))))) (hlp : ∀ j pa, j < 10 → lp j = some pa → ∃ (fo : Int32) (pn pd pz : Nat) (ct nt : Int32), C (1, pa) = some (.inr (2, [.int fo, .ref pn, .ref pd, .ref pz, .int ct, .int nt]))) (h : Int32) : Met l y_X_token w_X_token ({ frames := 1, cells := 0, slots := 0, locals := 20 }) (va_Pc [.ref (b 0), .int h] (fr_G D hCl (hTy cI cZ cJ cP cO) z b C)) (va_Qi (fun (r : Int32) (u : Unit) => (¬ inN h 10 ∧ r = -1) ∨ (∃ j : Nat, j < 10 ∧ h = nI j ∧ ((lp j = none ∧ r = -1) ∨ (∃ (pa : Nat) (fo : Int32) (pn pd pz : Nat) (ct nt : Int32), lp j = some pa ∧ C (1, pa) = some (.inr (2, [.int fo, .ref pn, .ref pd, .ref pz, .int ct, .int nt])) ∧ r = nt)))) (fun u t => fr_G D hCl (hTy cI cZ cJ cP cO) z ((fun _ => b) u) ((fun _ => C) u) t) (fr_A z)) 0 0 (fr_A z) := by
  refine Met.ofW (cc := b_X_token) (maxL := 3) (ret := (some .int)) (by decide) rfl ?_
  intro p e s m args below meth c s₁ B hml hv
  obtain ⟨rfl, hE, hK⟩ := hv
  have hx := B.exec
  have hb := B.bytes
  have hr := B.returns
  have hts := atoms_spec (ws := w_X_token) B.pre
  have hT : ∀ w ∈ hw_tbl, w.before _ s = true := fun w h => hts w (List.mem_cons_of_mem _ h)
  have hown : s.vm.findClass "HarvestSteps" = some m.cls := findClass_of_methodNamed B.named
  have hlocks := B.notSynchronized
  have hS : va_S (fr_A z) s.heap s.heap [] := va_S.rf
  have hl := lv_entry ([.ref (b 0), .int h]) (n := 3) (Nat.le_of_ble_eq_true rfl)
  rw [lg_entry_eq]
  generalize (lg_sl ([.ref (b 0), .int h]) ++ List.replicate (3 - (lg_sl ([.ref (b 0), .int h])).length) Slot.unset).toArray = ls at hl ⊢
  have hl : lv_has ls 3 [(0, .ref (b 0)), (1, .int h)] := hl
  refine lv_iload_n hx hb d_X_token_0 rfl (lv_at hl 1 rfl) ?_
  refine fr_calli (va_runS (As := [.int h]) (rest := []) ⟨hx, hb, hml, hown, hts⟩ (c_X_isHarvester l hE h) (va_cwS 1 hts (hw_goodS kw_174 kw_175 kw_21 kw_176) rfl rfl rfl (by decide +kernel) ⟨Nat.le_of_ble_eq_true rfl, Nat.le_of_ble_eq_true rfl⟩) ⟨fr_blind, fr_pre hE hK⟩ rfl rfl hl.1 rfl (lv_room (Nat.le_of_ble_eq_true rfl)) d_X_token_1 ⟨Nat.le_of_ble_eq_true rfl, Nat.le_of_ble_eq_true rfl⟩) hS (fun r_1 u_1 H locs w_1 hE hS => ?_)
  rcases w_1 with ⟨rfl, pw_1⟩ | ⟨rfl, pw_1⟩
  · skip
    obtain ⟨j_1, hj_1, rfl⟩ := pw_1
    refine lv_if_ne (tgt := 9) hx hb d_X_token_4 (by decide) (fun c_2 => ?_) (fun c_2 => ?_)
    · skip
      refine lv_aload_n hx hb d_X_token_9 rfl (lv_at hl 0 rfl) ?_
      refine fr_get (ci := 0) (Cn := hR_0) (T := hF_0) (N := 16) hx hb hT hi_0 hown hK hE (0, 0) rfl h0 rfl 13 (by decide) (hT _ kw_100) (fun _ h9 => h9) rfl d_X_token_10 ?_
      refine lv_iload_n hx hb d_X_token_13 rfl (lv_at hl 1 rfl) ?_
      refine fr_aald hx hb hK hE (0, 8) 3 rfl h8 rfl j_1 (rfl) (by omega) (by decide) d_X_token_14 ?_
      cases hv : lp j_1 with
      | none =>
        refine lv_astore_nN (lv' := [(2, .null), (0, .ref (b 0)), (1, .int (nI j_1))]) hx hb d_X_token_15 rfl hl (by decide) rfl (fun ls hl => ?_)
        refine lv_aload_nN hx hb d_X_token_16 rfl (lv_at hl 0 rfl) ?_
        refine lv_ifnonnullN hx hb d_X_token_17 ?_
        refine lv_iconst (v := (-1)) hx hb d_X_token_20 (by decide) ?_
        refine lv_goto (tgt := 28) hx hb d_X_token_21 (by decide) ?_
        refine W.widen (k := 0) (n := 0) (Nat.le_of_ble_eq_true rfl) (Nat.le_of_ble_eq_true rfl) ?_
        exact W.iret (v := (-1)) hx hb hr (fun t9 ht9 hW9 => ⟨⟨(-1), (), rfl, Or.inr ⟨j_1, hj_1, rfl, Or.inl ⟨hv, rfl⟩⟩, ⟨by rw [ht9]; exact hE, va_K.moved hW9.alike hK⟩⟩, hS.F ht9⟩) hS.2.2 d_X_token_28
      | some pa =>
        obtain ⟨fo, pn, pd, pz, ct, nt, hpa⟩ := hlp _ _ hj_1 hv
        refine lv_astore_n (lv' := [(2, .ref pa), (0, .ref (b 0)), (1, .int (nI j_1))]) hx hb d_X_token_15 rfl hl (by decide) rfl (fun ls hl => ?_)
        refine lv_aload_n hx hb d_X_token_16 rfl (lv_at hl 0 rfl) ?_
        refine lv_ifnonnull (tgt := 24) hx hb d_X_token_17 (by decide) ?_
        refine lv_aload_n hx hb d_X_token_24 rfl (lv_at hl 0 rfl) ?_
        refine fr_get (ci := 2) (Cn := hR_2) (T := hF_2) (N := 6) hx hb hT hi_2 hown hK hE (1, pa) rfl hpa rfl 5 (by decide) (hT _ kw_250) (fun _ h9 => h9) rfl d_X_token_25 ?_
        refine W.widen (k := 0) (n := 0) (Nat.le_of_ble_eq_true rfl) (Nat.le_of_ble_eq_true rfl) ?_
        exact W.iret (v := nt) hx hb hr (fun t9 ht9 hW9 => ⟨⟨nt, (), rfl, Or.inr ⟨j_1, hj_1, rfl, Or.inr ⟨pa, fo, pn, pd, pz, ct, nt, hv, hpa, rfl⟩⟩, ⟨by rw [ht9]; exact hE, va_K.moved hW9.alike hK⟩⟩, hS.F ht9⟩) hS.2.2 d_X_token_28
    · skip
      exact absurd c_2 (by decide)
  · skip
    refine lv_if_ne (tgt := 9) hx hb d_X_token_4 (by decide) (fun c_3 => ?_) (fun c_3 => ?_)
    · skip
      exact absurd c_3 (by decide)
    · skip
      refine lv_iconst (v := (-1)) hx hb d_X_token_7 (by decide) ?_
      refine W.widen (k := 0) (n := 0) (Nat.le_of_ble_eq_true rfl) (Nat.le_of_ble_eq_true rfl) ?_
      exact W.iret (v := (-1)) hx hb hr (fun t9 ht9 hW9 => ⟨⟨(-1), (), rfl, Or.inl ⟨pw_1, rfl⟩, ⟨by rw [ht9]; exact hE, va_K.moved hW9.alike hK⟩⟩, hS.F ht9⟩) hS.2.2 d_X_token_8
end
section
theorem kw_199 : Cond.sameMethod "[I" "java/lang/Object" "clone" "()Ljava/lang/Object;" ∈ hw_tbl := hw_in1 179 rfl rfl
theorem kw_200 : Cond.native ⟨"java/lang/Object", "clone", "()Ljava/lang/Object;"⟩ ∈ hw_tbl := hw_in1 180 rfl rfl
theorem kw_208 : Cond.native ⟨"java/lang/System", "arraycopy", "(Ljava/lang/Object;ILjava/lang/Object;II)V"⟩ ∈ hw_tbl := hw_in1 188 rfl rfl
theorem kw_324 : Cond.sameMethod "java/lang/Object" "java/lang/Object" "getClass" "()Ljava/lang/Class;" ∈ hw_tbl := hw_in2 64 rfl rfl
theorem kw_332 : Cond.native ⟨"java/lang/Object", "getClass", "()Ljava/lang/Class;"⟩ ∈ hw_tbl := hw_in2 72 rfl rfl
theorem kw_430 : Cond.sameMethod "java/lang/Throwable" "java/lang/Throwable" "fillInStackTrace" "()Ljava/lang/Throwable;" ∈ hw_tbl := hw_in2 170 rfl rfl
theorem kw_436 : Cond.native ⟨"java/lang/Throwable", "fillInStackTrace", "(I)Ljava/lang/Throwable;"⟩ ∈ hw_tbl := hw_in2 176 rfl rfl
theorem kw_662 : Cond.sameMethod "java/lang/Throwable" "java/lang/Throwable" "fillInStackTrace" "(I)Ljava/lang/Throwable;" ∈ hw_tbl := hw_in3 162 rfl rfl
theorem kw_664 : Cond.sameMethod "[Ljava/lang/Object;" "java/lang/Object" "getClass" "()Ljava/lang/Class;" ∈ hw_tbl := hw_in3 164 rfl rfl
/-- what stands outside of the world, and stays: the list's own empty row at e0, the object of the rows' kind at mi -/
def fr_X (z e0 mi : Nat) (U : State) (H : Heap) : Prop := va_Z "java/util/ArrayList" "DEFAULTCAPACITY_EMPTY_ELEMENTDATA" "[Ljava/lang/Object;" (.ref e0) (fr_A z) U H ∧ va_T (.object "java/lang/Object") e0 0 (fun _ => .null) (fr_A z) U H ∧ va_AO "java/lang/Object" U ∧ va_AO "HarvestSteps$Page" U ∧ va_Nw (.castable "HarvestSteps$Token" "java/lang/Object") U ∧ va_Nw (.castable "[I" "java/lang/Cloneable") U ∧ va_Mi "[Ljava/lang/Object;" mi U ∧ va_Dc U
theorem fr_X.kept {z e0 mi : Nat} {U : State} {H H1 : Heap} (h : fr_X z e0 mi U H) (hq : ∀ a : Nat, a < H.size → ¬ fr_A z a → H1[a]? = H[a]?) : fr_X z e0 mi U H1 := ⟨h.1.kept hq, h.2.1.kept hq, h.2.2⟩
theorem fr_X.warm {z e0 mi : Nat} {s U : State} {H : Heap} (hW : s.WarmedH U.vm) (h : fr_X z e0 mi s H) : fr_X z e0 mi U H := by
  obtain ⟨h1, h2, h3, h4, h5, h6, h7, h8⟩ := h
  exact ⟨h1.moved hW.alike, h2.moved hW.alike, h3.moved hW.alike, h4.moved hW.alike, h5.warmC hW, h6.warmC hW, h7.moved hW.alike, h8.moved hW.alike⟩
theorem fr_X.same {z e0 mi : Nat} {u U : State} {H : Heap} (hv : u.vm = U.vm) (h : fr_X z e0 mi u H) : fr_X z e0 mi U H := by
  have hA : u.vm.Alike U.vm := by rw [← hv]; exact Vm.Alike.refl u.vm
  obtain ⟨h1, h2, h3, h4, h5, h6, h7, h8⟩ := h
  exact ⟨h1.moved hA, h2.moved hA, h3.moved hA, h4.moved hA, h5.same rfl hv, h6.same rfl hv, h7.moved hA, h8.moved hA⟩
def fr_GX (e0 mi : Nat) (D : va_G) (cl : List vw_C) (tys : List (ClassId × FieldType)) (z : Nat) (b : Nat → Nat) (C : fr_C) (U : State) : Prop := fr_G D cl tys z b C U ∧ fr_X z e0 mi U U.heap
theorem fr_blindX {e0 mi : Nat} {av : List Value} {D : va_G} {cl : List vw_C} {tys : List (ClassId × FieldType)} {z : Nat} {b : Nat → Nat} {C : fr_C} : FrameBlind (va_Pc av (fr_GX e0 mi D cl tys z b C)) :=
  fun a U g mk q => ⟨q.1, ⟨q.2.1.1, va_K.moved (u := U) (U := U.calling g mk a) (Vm.Alike.refl U.vm) q.2.1.2⟩, fr_X.same (u := U) (U := U.calling g mk a) rfl q.2.2⟩
theorem fr_preX {e0 mi : Nat} {av : List Value} {D : va_G} {cl : List vw_C} {tys : List (ClassId × FieldType)} {z : Nat} {b : Nat → Nat} {C : fr_C} {H : Heap} {s : State} {locs : List Loc} (hE : fr_W D cl z b C H) (hK : va_K D cl tys s) (hX : fr_X z e0 mi s s.heap) (hS : va_S (fr_A z) s.heap H locs) : ∀ U : State, U.heap = H → s.WarmedH U.vm → va_Pc av (fr_GX e0 mi D cl tys z b C) av.toArray U :=
  fun U hU hW => ⟨rfl, ⟨by rw [hU]; exact hE, va_K.moved hW.alike hK⟩, by rw [hU]; exact (hX.kept hS.2.1).warm hW⟩
section FRE
variable {p : Program} {l : Launch} {e : Env} {R : Room} {s : State} {m : MethodId} {args : Array Value} {below : List Frame} {meth : Method} {c : Code} {H : Heap} {locs : List Loc} {cells slots : Nat} {Q : State → Prop}
variable {cc : ByteArray} {pc : Nat} {ls : Array Slot} {rest : List Value} {D : va_G} {cl : List vw_C} {a : Nat} {tys : List (ClassId × FieldType)} {H0 : Heap} {z : Nat} {b : Nat → Nat} {C : fr_C}
theorem fr_any {ci : Nat} {fs : List Value} {r9 : vw_C} {E : String} (hK : va_K D cl tys s) (hE : fr_W D cl z b C H) (r : Nat × Nat) (ha : fr_ad b r = a) (he : C r = some (.inr (ci, fs))) (hc : cl[ci]? = some r9) (hN : va_Nw (.castable r9.1 E) s) : va_Any E s H a := by
  subst ha
  refine va_rAny hK (hE.P he) (q0 := 0) rfl hc (fun comp c0 h1 h2 => ?_)
  obtain ⟨c1, t1, f1, f2, f3⟩ := Cond.castable_spec (va_Nw.use (A := #[]) rfl hN)
  cases h2.symm.trans f1
  cases h1.symm.trans f2
  exact f3
/-- a reference is stored, of any kind that the array takes -/
theorem fr_aastM (hexec : p.tables.exec = Jvm.exec) (hb : c.code = cc) (hK : va_K D cl tys s) (hE : fr_W D cl z b C H) (hS : va_S (fr_A z) H0 H locs) (r : Nat × Nat) (t0 : Nat) (ha : fr_ad b r = a) {cA : ClassId} {E : String} {n v : Nat} {f : Nat → Option Nat} (he : C r = some (.inl (cA, n, .inr (.inr (.inr (.inr f)))))) (ht : tys[t0]? = some (cA, .object E)) (hr : va_Any E s H v) {i : Int32} (j : Nat) (hi : i = nI j) (hj : j < n) (hn : n < 2 ^ 31) (hdg : decode cc pc = .ok (.aastore, 1))
    (kk : ∀ (H1 : Heap) (locs1 : List Loc), fr_W D cl z b (fr_up C r (.inl (cA, n, .inr (.inr (.inr (.inr (va_up f j (some v)))))))) H1 → va_S (fr_A z) H0 H1 locs1 → W p l e R s m args below meth c H1 locs1 cells slots Q (F0 m (pc + 1) ls rest)) : W p l e R s m args below meth c H locs cells slots Q (F0 m pc ls (.ref v :: .int i :: .ref a :: rest)) := by
  subst ha
  subst hi
  have hcl9 : (nI j).toNatClampNeg = j := nI_clamp (by omega)
  have hlt : (nI j).toNatClampNeg < n := by rw [hcl9]; exact hj
  have h0 : ¬ nI j < 0 := nI_pos (by omega)
  obtain ⟨cellV, g1, g3, ⟨kC, hkC⟩, hasg⟩ := hr
  obtain ⟨kA, comp, k1, k2, k3, -⟩ := (hK.2 t0 _ ht).2
  obtain ⟨kE, hkE, -⟩ := Vm.findClass_spec k3
  refine W.aast hexec hb (hE.2.1 r _ he).1 (fun q h => by cases h) (fun h => by cases h) k1 k2 rfl hkE ⟨h0, by show _ < (arrV _ _ _).slots.size; rw [arrV_size]; exact hlt⟩ g1 (fun q h => by rw [h] at g3; cases g3) hkC (hasg _ k3) rfl rfl hdg fun H1 e z oq => ?_
  refine kk H1 _ (hE.set he ?_ z oq) (fr_put_S hS z oq (hE.2.1 r _ he).2)
  show H1[fr_ad b r]? = some (vp_cell _ _)
  rw [e]
  rw [vp_cell_q, vp_cell_q, arrV_store, hcl9]
  congr 2
  funext q
  by_cases hq : q = j
  · subst hq
    simp [updV, va_up, va_rf]
  · simp [updV, va_up, hq]
/-- clone of an int array -/
theorem fr_clone (hexec : p.tables.exec = Jvm.exec) (hb : c.code = cc) (hml : c.maxLocals = ls.size) {own ad : String} {index : Nat} (hown : s.vm.findClass own = some m.cls)
    (hlink : (Cond.methodLink own index ⟨ad, "clone", "()Ljava/lang/Object;"⟩).before args s = true) (hsame : (Cond.sameMethod ad "java/lang/Object" "clone" "()Ljava/lang/Object;").before args s = true)
    (hnat : (Cond.native ⟨"java/lang/Object", "clone", "()Ljava/lang/Object;"⟩).before args s = true) (hinst : (Cond.instanceMethod ⟨"java/lang/Object", "clone", "()Ljava/lang/Object;"⟩).before args s = true)
    (hsel : (Cond.selects ad ⟨ad, "clone", "()Ljava/lang/Object;"⟩ ⟨"java/lang/Object", "clone", "()Ljava/lang/Object;"⟩).before args s = true) (hcl : va_Nw (.castable ad "java/lang/Cloneable") s)
    (hK : va_K D cl tys s) (hE : fr_W D cl z b C H) (hS : va_S (fr_A z) H0 H locs) (r : Nat × Nat) (i t0 : Nat) (ha : fr_ad b r = a) {cA : ClassId} {n : Nat} {f : Nat → Int32} (he : C r = some (.inl (cA, n, .inl f))) (ht : tys[t0]? = some (cA, .int))
    (hnm : s.vm.findClass ad = some cA)
    (hframes : 1 ≤ R.frames) (hlocals : (rest.map fun v => v.category).sum + 14 ≤ R.locals) (hcells : cells + 1 ≤ R.cells) (hslots : slots + n ≤ R.slots) (hdg : decode cc pc = .ok (.invokevirtual index, 3))
    (kk : ∀ (q : Nat) (H1 : Heap), C (1, q) = none → fr_W D cl z (fr_ub b i q) (fr_up C (0, i) (.inl (cA, n, .inl f))) H1 → va_S (fr_A z) H0 H1 locs →
      W p l e R s m args below meth c H1 locs (cells + 1) (slots + n) Q (F0 m (pc + 3) ls (.ref q :: rest))) : W p l e R s m args below meth c H locs cells slots Q (F0 m pc ls (.ref a :: rest)) := by
  subst ha
  have hsz : (vp_cell cA (n, .inl f)).slots.size = n := arrV_size _ _ _
  have hvm0 : (vp_cell cA (n, .inl f)).vm = .none := rfl
  have hcl0 : (vp_cell cA (n, .inl f)).cls = cA := rfl
  have hcellE : ({ cls := (vp_cell cA (n, .inl f)).cls, slots := (vp_cell cA (n, .inl f)).slots } : Cell) = vp_cell cA (n, .inl f) := rfl
  obtain ⟨c0, t0', f1, f2, f3⟩ := Cond.castable_spec (va_Nw.use (A := args) rfl hcl)
  cases hnm.symm.trans f1
  intro T hT X
  have hcellT : T.heap[fr_ad b r]? = some (vp_cell cA (n, .inl f)) := by rw [hT]; exact (hE.2.1 r _ he).1
  obtain ⟨-, kA, hkA, comp, hkind⟩ := State.isArrayOf_alike X.warmed.alike ((hK.2 t0 _ ht).1 0 (fun _ => .null))
  obtain ⟨-, kS, hkS, compS, hkindS⟩ := (hK.2 t0 _ ht).1 0 (fun _ => .null)
  obtain ⟨vm', X', st⟩ := X.cloneArray hexec hown hlink hsame hnat hinst hsel (a := fr_ad b r) (cell := vp_cell cA (n, .inl f)) hcellT (fun k h => by rw [hvm0] at h; cases h) (by rw [hvm0]; exact fun h => by cases h) (by rw [hcl0]; exact hnm) f2 (by rw [hcl0]; exact f3)
    (fun i v hv => by
      rw [hcl0]
      have hk' : T.vm.classes[cA]? = some kA := hkA
      have hfit : fits .int v = true := va_fit (ty := .int) (F := fun j => .int (f j)) (fun _ _ => rfl) i v hv
      simpa [State.fitsSlot, State.slotType?, hk', hkind] using hfit)
    (g := F0 m pc ls (.ref (fr_ad b r) :: rest)) rfl (by rw [hml]) rfl (by rw [hb]; exact hdg) hframes (by show 2 * 0 + _ + 14 ≤ _; omega) hcells (by rw [hsz]; exact hslots) (hloader := by rw [hcl0]; exact Vm.clonesLoader_of_array hkS hkindS)
  rw [hcellE, hsz] at X'
  generalize hH1 : H.push (vp_cell cA (n, .inl f)) = H1
  have z1 : H1.size = H.size + 1 := by rw [← hH1, Array.size_push]
  have e1 : H1[H.size]? = some (vp_cell cA (n, .inl f)) := by rw [← hH1, Array.getElem?_push_size]
  have o1 : ∀ q : Nat, q < H.size → H1[q]? = H[q]? := fun q hq => by rw [← hH1, Array.getElem?_push, if_neg (Nat.ne_of_lt hq)]
  obtain ⟨t, b1, b2⟩ := kk H.size H1 hE.fresh (hE.new i e1 (by omega) o1) (fr_new_S hS (by omega) o1)
    ((T.setVm vm').pushCell (vp_cell cA (n, .inl f))) (by rw [← hH1, ← hT]; rfl) X'
  refine ⟨t, st t ?_, b2⟩
  rw [hcellE, hT]
  exact b1
end FRE
end
section
set_option maxHeartbeats 4000000 in
set_option maxRecDepth 100000 in
theorem c_Ar_copyOf (l : Launch) {D : va_G} {z : Nat} {b : Nat → Nat} {C : fr_C} {H9 : Heap} (h9 : fr_W D hCl z b C H9) {cI cZ cJ cP cO : ClassId} {e0 mi : Nat} {od : Nat → Int32} (h6 : C (0, 6) = some (.inl (cI, 150, .inl od))) (k : Nat) (hk : k ≤ 150) : Met l y_Ar_copyOf w_Ar_copyOf ({ frames := 1, cells := 1, slots := 150, locals := 40 }) (va_Pc [.ref (b 6), .int (nI k)] (fr_GX e0 mi D hCl (hTy cI cZ cJ cP cO) z b C)) (va_Qq (fun (r : Option Nat) (u : Nat × (Nat → Int32)) => r = some u.1 ∧ ∀ j, j < k → u.2 j = od j) (fun u t => fr_G D hCl (hTy cI cZ cJ cP cO) z ((fun u => fr_ub b 26 u.1) u) ((fun u => fr_up C (0, 26) (.inl (cI, k, .inl u.2))) u) t) (fr_A z)) 1 150 (fr_A z) := by
  refine Met.ofW (cc := b_Ar_copyOf) (maxL := 3) (ret := (some (.array .int))) (by decide) rfl ?_
  intro p e s m args below meth c s₁ B hml hv
  obtain ⟨rfl, ⟨hE, hK⟩, hX⟩ := hv
  have hx := B.exec
  have hb := B.bytes
  have hr := B.returns
  have hts := atoms_spec (ws := w_Ar_copyOf) B.pre
  have hT : ∀ w ∈ hw_tbl, w.before _ s = true := fun w h => hts w (List.mem_cons_of_mem _ h)
  have hown : s.vm.findClass "java/util/Arrays" = some m.cls := findClass_of_methodNamed B.named
  have hlocks := B.notSynchronized
  have hS : va_S (fr_A z) s.heap s.heap [] := va_S.rf
  have hl := lv_entry ([.ref (b 6), .int (nI k)]) (n := 3) (Nat.le_of_ble_eq_true rfl)
  rw [lg_entry_eq]
  generalize (lg_sl ([.ref (b 6), .int (nI k)]) ++ List.replicate (3 - (lg_sl ([.ref (b 6), .int (nI k)])).length) Slot.unset).toArray = ls at hl ⊢
  have hl : lv_has ls 3 [(0, .ref (b 6)), (1, .int (nI k))] := hl
  refine lv_iload_n hx hb d_Ar_copyOf_0 rfl (lv_at hl 1 rfl) ?_
  refine lv_aload_n hx hb d_Ar_copyOf_1 rfl (lv_at hl 0 rfl) ?_
  refine fr_alen hx hb hK hE (0, 6) 0 rfl h6 rfl d_Ar_copyOf_2 ?_
  refine lv_icmp_ne (tgt := 14) hx hb d_Ar_copyOf_3 (by decide) (fun c_1 => ?_) (fun c_1 => ?_)
  · skip
    have hk9 : k < 150 := by rcases Nat.lt_or_ge k 150 with y | y; exact y; exact absurd (by rw [show k = 150 by omega]) c_1
    refine lv_iload_n hx hb d_Ar_copyOf_14 rfl (lv_at hl 1 rfl) ?_
    refine fr_newa (atype := .int) (ty := .int) (a0 := (k, .inl (fun _ => 0))) hx hb (hT _ kw_74) rfl hK hE hS 26 0 rfl k (fun _ => rfl) (rfl) (by omega) (show k * _ ≤ _ from Nat.le_trans (Nat.mul_le_mul_right _ hk) (by decide)) (Nat.le_of_ble_eq_true rfl) (show 0 + k ≤ 150 by omega) d_Ar_copyOf_15 (fun q26 H nq26 hE hS => ?_)
    refine W.widen (k := 1) (n := 150) (Nat.le_of_ble_eq_true rfl) (by omega) ?_
    refine lv_astore_n (lv' := [(2, .ref q26), (0, .ref (b 6)), (1, .int (nI k))]) hx hb d_Ar_copyOf_17 rfl hl (by decide) rfl (fun ls hl => ?_)
    refine lv_aload_n hx hb d_Ar_copyOf_18 rfl (lv_at hl 1 rfl) ?_
    refine lv_iconst (v := 0) hx hb d_Ar_copyOf_19 (by decide) ?_
    refine lv_aload_n hx hb d_Ar_copyOf_20 rfl (lv_at hl 0 rfl) ?_
    refine lv_iconst (v := 0) hx hb d_Ar_copyOf_21 (by decide) ?_
    refine lv_aload_n hx hb d_Ar_copyOf_22 rfl (lv_at hl 1 rfl) ?_
    refine fr_alen hx hb hK hE (0, 6) 0 rfl h6 rfl d_Ar_copyOf_23 ?_
    refine lv_iload_n hx hb d_Ar_copyOf_24 rfl (lv_at hl 2 rfl) ?_
    refine va_mmin hx hb (hml.trans hl.1.symm) hown (hT _ kw_205) (hT _ kw_81) (hT _ kw_25) (hT _ kw_82) (Nat.le_of_ble_eq_true rfl) (Nat.le_of_ble_eq_true rfl) (Nat.le_of_ble_eq_true rfl) (Nat.le_of_ble_eq_true rfl) d_Ar_copyOf_25 ?_
    refine lv_topi (fun y_2 ey_2 => ?_)
    obtain rfl : y_2 = nI k := ey_2.trans (if_pos (nI_lt (b := 150) (by omega) (by decide)))
    refine fr_copyi hx hb (hml.trans hl.1.symm) hown (hT _ kw_206) (hT _ kw_208) (hT _ kw_207) (hT _ kw_29) hK hE hS (0, 6) (0, 26) 0 0 rfl rfl h6 rfl rfl rfl rfl 0 0 k rfl rfl rfl (by omega) (by omega) (by decide) (by omega) (fun _ _ => rfl) (Nat.le_of_ble_eq_true rfl) (by decide) d_Ar_copyOf_28 (fun H locs hE hS => ?_)
    rw [fr_up_up] at hE
    refine lv_aload_n hx hb d_Ar_copyOf_31 rfl (lv_at hl 0 rfl) ?_
    refine W.widen (k := 1) (n := 150) (Nat.le_of_ble_eq_true rfl) (Nat.le_of_ble_eq_true rfl) ?_
    exact W.aret (v := .ref q26) hx hb hr (Or.inr ⟨_, rfl⟩) (va_rf_or (some q26)) (fun t9 ht9 hW9 => ⟨⟨(some q26), (q26, va_cpy od (fun _ => 0) 0 0 k), rfl, ⟨rfl, fun j hj => by show va_cpy od (fun _ => 0) 0 0 k j = od j; rw [pk_cpy_in (Nat.zero_le j) (by omega)]; exact congrArg od (by omega)⟩, ⟨by rw [ht9]; exact hE, va_K.moved hW9.alike hK⟩⟩, hS.F ht9⟩) hS.2.2 d_Ar_copyOf_32
  · skip
    obtain rfl : k = 150 := (nI_eq (by omega) (by decide)).mp c_1
    refine lv_aload_n hx hb d_Ar_copyOf_6 rfl (lv_at hl 0 rfl) ?_
    refine fr_clone hx hb (hml.trans hl.1.symm) hown (hT _ kw_198) (hT _ kw_199) (hT _ kw_200) (hT _ kw_201) (hT _ kw_202) hX.2.2.2.2.2.1 hK hE hS (0, 6) 26 0 rfl h6 rfl (va_nm_int (hK.2 0 _ rfl).2) (Nat.le_of_ble_eq_true rfl) (Nat.le_of_ble_eq_true rfl) (Nat.le_of_ble_eq_true rfl) (Nat.le_of_ble_eq_true rfl) d_Ar_copyOf_7 (fun q26 H nq26 hE hS => ?_)
    refine va_castA hx hb hown (hT _ kw_204) (hE.P (r := (0, 26)) rfl) 0 rfl (va_nm_int (hK.2 0 _ rfl).2) d_Ar_copyOf_10 ?_
    refine W.widen (k := 1) (n := 150) (Nat.le_of_ble_eq_true rfl) (Nat.le_of_ble_eq_true rfl) ?_
    exact W.aret (v := .ref q26) hx hb hr (Or.inr ⟨_, rfl⟩) (va_rf_or (some q26)) (fun t9 ht9 hW9 => ⟨⟨(some q26), (q26, od), rfl, ⟨rfl, fun _ _ => rfl⟩, ⟨by rw [ht9]; exact hE, va_K.moved hW9.alike hK⟩⟩, hS.F ht9⟩) hS.2.2 d_Ar_copyOf_13
set_option maxHeartbeats 4000000 in
set_option maxRecDepth 100000 in
theorem c_AC_init (l : Launch) {D : va_G} {z : Nat} {b : Nat → Nat} {C : fr_C} {H9 : Heap} (h9 : fr_W D hCl z b C H9) {cI cZ cJ cP cO : ClassId} (h7 : C (0, 7) = some (.inr (4, [.null, .int 0, .int 0]))) : Met l y_AC_init w_AC_init ({ frames := 1, cells := 0, slots := 0, locals := 12 }) (va_Pc [.ref (b 7)] (fr_G D hCl (hTy cI cZ cJ cP cO) z b C)) (va_Qv (fun (u : Unit) => True) (fun u t => fr_G D hCl (hTy cI cZ cJ cP cO) z ((fun _ => b) u) ((fun _ => C) u) t) (fr_A z)) 0 0 (fr_A z) := by
  refine Met.ofW (cc := b_AC_init) (maxL := 1) (ret := none) (by decide) rfl ?_
  intro p e s m args below meth c s₁ B hml hv
  obtain ⟨rfl, hE, hK⟩ := hv
  have hx := B.exec
  have hb := B.bytes
  have hr := B.returns
  have hts := atoms_spec (ws := w_AC_init) B.pre
  have hT : ∀ w ∈ hw_tbl, w.before _ s = true := fun w h => hts w (List.mem_cons_of_mem _ h)
  have hown : s.vm.findClass "java/util/AbstractCollection" = some m.cls := findClass_of_methodNamed B.named
  have hlocks := B.notSynchronized
  have hin : meth.name = "<init>" := (name_of_methodNamed B.named B.method).1
  have hS : va_S (fr_A z) s.heap s.heap [] := va_S.rf
  have hl := lv_entry ([.ref (b 7)]) (n := 1) (Nat.le_of_ble_eq_true rfl)
  rw [lg_entry_eq]
  generalize (lg_sl ([.ref (b 7)]) ++ List.replicate (1 - (lg_sl ([.ref (b 7)])).length) Slot.unset).toArray = ls at hl ⊢
  have hl : lv_has ls 1 [(0, .ref (b 7))] := hl
  refine lv_aload_n hx hb d_AC_init_0 rfl (lv_at hl 0 rfl) ?_
  refine W.objInit hx hb hown (hT _ kw_58) (hT _ kw_45) (hT _ kw_46) rfl (by rw [hml]; exact hl.1) rfl d_AC_init_1 (Nat.le_of_ble_eq_true rfl) (Nat.le_of_ble_eq_true rfl) ?_
  refine W.eq (g2 := F0 m 4 ls []) rfl ?_
  refine W.widen (k := 0) (n := 0) (Nat.le_of_ble_eq_true rfl) (Nat.le_of_ble_eq_true rfl) ?_
  exact W.vret hx hb hr (fun t9 ht9 hW9 => ⟨⟨(), rfl, trivial, ⟨by rw [ht9]; exact hE, va_K.moved hW9.alike hK⟩⟩, hS.F ht9⟩) hS.2.2 d_AC_init_4
set_option maxHeartbeats 4000000 in
set_option maxRecDepth 100000 in
theorem c_AL_init (l : Launch) {D : va_G} {z : Nat} {b : Nat → Nat} {C : fr_C} {H9 : Heap} (h9 : fr_W D hCl z b C H9) {cI cZ cJ cP cO : ClassId} (h7 : C (0, 7) = some (.inr (4, [.null, .int 0, .int 0]))) : Met l y_AL_init w_AL_init ({ frames := 2, cells := 0, slots := 0, locals := 32 }) (va_Pc [.ref (b 7)] (fr_G D hCl (hTy cI cZ cJ cP cO) z b C)) (va_Qv (fun (u : Unit) => True) (fun u t => fr_G D hCl (hTy cI cZ cJ cP cO) z ((fun _ => b) u) ((fun _ => C) u) t) (fr_A z)) 0 0 (fr_A z) := by
  refine Met.ofW (cc := b_AL_init) (maxL := 1) (ret := none) (by decide) rfl ?_
  intro p e s m args below meth c s₁ B hml hv
  obtain ⟨rfl, hE, hK⟩ := hv
  have hx := B.exec
  have hb := B.bytes
  have hr := B.returns
  have hts := atoms_spec (ws := w_AL_init) B.pre
  have hT : ∀ w ∈ hw_tbl, w.before _ s = true := fun w h => hts w (List.mem_cons_of_mem _ h)
  have hown : s.vm.findClass "java/util/AbstractList" = some m.cls := findClass_of_methodNamed B.named
  have hlocks := B.notSynchronized
  have hin : meth.name = "<init>" := (name_of_methodNamed B.named B.method).1
  have hS : va_S (fr_A z) s.heap s.heap [] := va_S.rf
  have hl := lv_entry ([.ref (b 7)]) (n := 1) (Nat.le_of_ble_eq_true rfl)
  rw [lg_entry_eq]
  generalize (lg_sl ([.ref (b 7)]) ++ List.replicate (1 - (lg_sl ([.ref (b 7)])).length) Slot.unset).toArray = ls at hl ⊢
  have hl : lv_has ls 1 [(0, .ref (b 7))] := hl
  refine lv_aload_n hx hb d_AL_init_0 rfl (lv_at hl 0 rfl) ?_
  refine fr_callv (va_runI (As := []) (rest := []) ⟨hx, hb, hml, hown, hts⟩ (c_AC_init l hE h7) (cwI 0 hts (hw_good kw_57) rfl rfl rfl (hT _ kw_22) (hT _ kw_55) (hT _ kw_56) rfl (by decide +kernel) ⟨Nat.le_of_ble_eq_true rfl, Nat.le_of_ble_eq_true rfl⟩) ⟨fr_blind, fr_pre hE hK⟩ rfl rfl hl.1 rfl (lv_room (Nat.le_of_ble_eq_true rfl)) d_AL_init_1 ⟨Nat.le_of_ble_eq_true rfl, Nat.le_of_ble_eq_true rfl⟩) hS (fun u_1 H locs w_1 hE hS => ?_)
  refine lv_aload_n hx hb d_AL_init_4 rfl (lv_at hl 0 rfl) ?_
  refine lv_iconst (v := 0) hx hb d_AL_init_5 (by decide) ?_
  refine fr_put (ci := 4) (v := .int 0) (ty := .int) (Cn := hR_4) (T := hF_4) (N := 3) hx hb hT hi_4 hy_4 ho_4 hn_4 hown hK hE hS (0, 7) rfl h7 rfl 2 (by decide) (hT _ kw_63) (fun _ h9 => h9) rfl (by decide +kernel) rfl rfl (Nat.le_of_ble_eq_true rfl) d_AL_init_6 (fun H locs hE hS => ?_)
  refine W.widen (k := 0) (n := 0) (Nat.le_of_ble_eq_true rfl) (Nat.le_of_ble_eq_true rfl) ?_
  rw [show ([Value.null, .int 0, .int 0].set 2 (.int 0)) = [.null, .int 0, .int 0] from rfl, fr_up_same h7] at hE
  exact W.vret hx hb hr (fun t9 ht9 hW9 => ⟨⟨(), rfl, trivial, ⟨by rw [ht9]; exact hE, va_K.moved hW9.alike hK⟩⟩, hS.F ht9⟩) hS.2.2 d_AL_init_9
set_option maxHeartbeats 4000000 in
set_option maxRecDepth 100000 in
theorem c_A_init (l : Launch) {D : va_G} {z : Nat} {b : Nat → Nat} {C : fr_C} {H9 : Heap} (h9 : fr_W D hCl z b C H9) {cI cZ cJ cP cO : ClassId} {e0 mi : Nat} (h7 : C (0, 7) = some (.inr (4, [.null, .int 0, .int 0]))) : Met l y_A_init w_A_init ({ frames := 3, cells := 0, slots := 0, locals := 52 }) (va_Pc [.ref (b 7)] (fr_GX e0 mi D hCl (hTy cI cZ cJ cP cO) z b C)) (va_Qv (fun (u : Unit) => True) (fun u t => fr_G D hCl (hTy cI cZ cJ cP cO) z ((fun _ => b) u) ((fun _ => fr_up C (0, 7) (.inr (4, [.ref e0, .int 0, .int 0]))) u) t) (fr_A z)) 0 0 (fr_A z) := by
  refine Met.ofW (cc := b_A_init) (maxL := 1) (ret := none) (by decide) rfl ?_
  intro p e s m args below meth c s₁ B hml hv
  obtain ⟨rfl, ⟨hE, hK⟩, hX⟩ := hv
  have hx := B.exec
  have hb := B.bytes
  have hr := B.returns
  have hts := atoms_spec (ws := w_A_init) B.pre
  have hT : ∀ w ∈ hw_tbl, w.before _ s = true := fun w h => hts w (List.mem_cons_of_mem _ h)
  have hown : s.vm.findClass "java/util/ArrayList" = some m.cls := findClass_of_methodNamed B.named
  have hlocks := B.notSynchronized
  have hin : meth.name = "<init>" := (name_of_methodNamed B.named B.method).1
  have hS : va_S (fr_A z) s.heap s.heap [] := va_S.rf
  have hl := lv_entry ([.ref (b 7)]) (n := 1) (Nat.le_of_ble_eq_true rfl)
  rw [lg_entry_eq]
  generalize (lg_sl ([.ref (b 7)]) ++ List.replicate (1 - (lg_sl ([.ref (b 7)])).length) Slot.unset).toArray = ls at hl ⊢
  have hl : lv_has ls 1 [(0, .ref (b 7))] := hl
  refine lv_aload_n hx hb d_A_init_0 rfl (lv_at hl 0 rfl) ?_
  refine fr_callv (va_runI (As := []) (rest := []) ⟨hx, hb, hml, hown, hts⟩ (c_AL_init l hE h7) (cwI 0 hts (hw_good kw_54) rfl rfl rfl (hT _ kw_23) (hT _ kw_52) (hT _ kw_53) rfl (by decide +kernel) ⟨Nat.le_of_ble_eq_true rfl, Nat.le_of_ble_eq_true rfl⟩) ⟨fr_blind, fr_pre hE hK⟩ rfl rfl hl.1 rfl (lv_room (Nat.le_of_ble_eq_true rfl)) d_A_init_1 ⟨Nat.le_of_ble_eq_true rfl, Nat.le_of_ble_eq_true rfl⟩) hS (fun u_1 H locs w_1 hE hS => ?_)
  refine lv_aload_n hx hb d_A_init_4 rfl (lv_at hl 0 rfl) ?_
  refine va_gets hx hb hX.1 hS hown (hT _ kw_59) (fun _ h9 => h9) d_A_init_5 ?_
  refine fr_put (ci := 4) (v := .ref e0) (ty := (.array (.object "java/lang/Object"))) (Cn := hR_4) (T := hF_4) (N := 3) hx hb hT hi_4 hy_4 ho_4 hn_4 hown hK hE hS (0, 7) rfl h7 rfl 0 (by decide) (hT _ kw_61) (fun _ h9 => h9) rfl (by decide +kernel) rfl rfl (Nat.le_of_ble_eq_true rfl) d_A_init_8 (fun H locs hE hS => ?_)
  refine W.widen (k := 0) (n := 0) (Nat.le_of_ble_eq_true rfl) (Nat.le_of_ble_eq_true rfl) ?_
  exact W.vret hx hb hr (fun t9 ht9 hW9 => ⟨⟨(), rfl, trivial, ⟨by rw [ht9]; exact hE, va_K.moved hW9.alike hK⟩⟩, hS.F ht9⟩) hS.2.2 d_A_init_11
set_option maxHeartbeats 4000000 in
set_option maxRecDepth 100000 in
theorem c_Pr_checkIndex (l : Launch) {D : va_G} {z : Nat} {b : Nat → Nat} {C : fr_C} {H9 : Heap} (h9 : fr_W D hCl z b C H9) {cI cZ cJ cP cO : ClassId} (j n : Nat) (hj : j < n) (hn : n < 2 ^ 31) : Met l y_Pr_checkIndex w_Pr_checkIndex ({ frames := 0, cells := 0, slots := 0, locals := 0 }) (va_Pc [.int (nI j), .int (nI n), .null] (fr_G D hCl (hTy cI cZ cJ cP cO) z b C)) (va_Qi (fun (r : Int32) (u : Unit) => r = nI j) (fun u t => fr_G D hCl (hTy cI cZ cJ cP cO) z ((fun _ => b) u) ((fun _ => C) u) t) (fr_A z)) 0 0 (fr_A z) := by
  refine Met.ofW (cc := b_Pr_checkIndex) (maxL := 3) (ret := (some .int)) (by decide) rfl ?_
  intro p e s m args below meth c s₁ B hml hv
  obtain ⟨rfl, hE, hK⟩ := hv
  have hx := B.exec
  have hb := B.bytes
  have hr := B.returns
  have hts := atoms_spec (ws := w_Pr_checkIndex) B.pre
  have hT : ∀ w ∈ hw_tbl, w.before _ s = true := fun w h => hts w (List.mem_cons_of_mem _ h)
  have hown : s.vm.findClass "jdk/internal/util/Preconditions" = some m.cls := findClass_of_methodNamed B.named
  have hlocks := B.notSynchronized
  have hS : va_S (fr_A z) s.heap s.heap [] := va_S.rf
  have hl := lv_entry ([.int (nI j), .int (nI n), .null]) (n := 3) (Nat.le_of_ble_eq_true rfl)
  rw [lg_entry_eq]
  generalize (lg_sl ([.int (nI j), .int (nI n), .null]) ++ List.replicate (3 - (lg_sl ([.int (nI j), .int (nI n), .null])).length) Slot.unset).toArray = ls at hl ⊢
  have hl : lv_has ls 3 [(0, .int (nI j)), (1, .int (nI n)), (2, .null)] := hl
  refine lv_iload_n hx hb d_Pr_checkIndex_0 rfl (lv_at hl 0 rfl) ?_
  refine lv_if_lt (tgt := 9) hx hb d_Pr_checkIndex_1 (by decide) (fun c_1 => ?_) (fun c_1 => ?_)
  · skip
    exact absurd c_1 (nI_pos (by omega))
  · skip
    refine lv_iload_n hx hb d_Pr_checkIndex_4 rfl (lv_at hl 0 rfl) ?_
    refine lv_iload_n hx hb d_Pr_checkIndex_5 rfl (lv_at hl 1 rfl) ?_
    refine lv_icmp_lt (tgt := 16) hx hb d_Pr_checkIndex_6 (by decide) (fun c_2 => ?_) (fun c_2 => ?_)
    · skip
      refine lv_iload_n hx hb d_Pr_checkIndex_16 rfl (lv_at hl 0 rfl) ?_
      refine W.widen (k := 0) (n := 0) (Nat.le_of_ble_eq_true rfl) (Nat.le_of_ble_eq_true rfl) ?_
      exact W.iret (v := nI j) hx hb hr (fun t9 ht9 hW9 => ⟨⟨nI j, (), rfl, rfl, ⟨by rw [ht9]; exact hE, va_K.moved hW9.alike hK⟩⟩, hS.F ht9⟩) hS.2.2 d_Pr_checkIndex_17
    · skip
      exact absurd c_2 (fun q9 => q9 (nI_lt hj hn))
set_option maxHeartbeats 4000000 in
set_option maxRecDepth 100000 in
theorem c_Ob_checkIndex (l : Launch) {D : va_G} {z : Nat} {b : Nat → Nat} {C : fr_C} {H9 : Heap} (h9 : fr_W D hCl z b C H9) {cI cZ cJ cP cO : ClassId} (j n : Nat) (hj : j < n) (hn : n < 2 ^ 31) : Met l y_Ob_checkIndex w_Ob_checkIndex ({ frames := 1, cells := 0, slots := 0, locals := 22 }) (va_Pc [.int (nI j), .int (nI n)] (fr_G D hCl (hTy cI cZ cJ cP cO) z b C)) (va_Qi (fun (r : Int32) (u : Unit) => r = nI j) (fun u t => fr_G D hCl (hTy cI cZ cJ cP cO) z ((fun _ => b) u) ((fun _ => C) u) t) (fr_A z)) 0 0 (fr_A z) := by
  refine Met.ofW (cc := b_Ob_checkIndex) (maxL := 2) (ret := (some .int)) (by decide) rfl ?_
  intro p e s m args below meth c s₁ B hml hv
  obtain ⟨rfl, hE, hK⟩ := hv
  have hx := B.exec
  have hb := B.bytes
  have hr := B.returns
  have hts := atoms_spec (ws := w_Ob_checkIndex) B.pre
  have hT : ∀ w ∈ hw_tbl, w.before _ s = true := fun w h => hts w (List.mem_cons_of_mem _ h)
  have hown : s.vm.findClass "java/util/Objects" = some m.cls := findClass_of_methodNamed B.named
  have hlocks := B.notSynchronized
  have hS : va_S (fr_A z) s.heap s.heap [] := va_S.rf
  have hl := lv_entry ([.int (nI j), .int (nI n)]) (n := 2) (Nat.le_of_ble_eq_true rfl)
  rw [lg_entry_eq]
  generalize (lg_sl ([.int (nI j), .int (nI n)]) ++ List.replicate (2 - (lg_sl ([.int (nI j), .int (nI n)])).length) Slot.unset).toArray = ls at hl ⊢
  have hl : lv_has ls 2 [(0, .int (nI j)), (1, .int (nI n))] := hl
  refine lv_iload_n hx hb d_Ob_checkIndex_0 rfl (lv_at hl 0 rfl) ?_
  refine lv_iload_n hx hb d_Ob_checkIndex_1 rfl (lv_at hl 1 rfl) ?_
  refine lv_null hx hb d_Ob_checkIndex_2 ?_
  refine fr_calli (va_runS (As := [.int (nI j), .int (nI n), .null]) (rest := []) ⟨hx, hb, hml, hown, hts⟩ (c_Pr_checkIndex l hE j n hj hn) (va_cwS 3 hts (hw_goodS kw_360 kw_361 kw_34 kw_362) rfl rfl rfl (by decide +kernel) ⟨Nat.le_of_ble_eq_true rfl, Nat.le_of_ble_eq_true rfl⟩) ⟨fr_blind, fr_pre hE hK⟩ rfl rfl hl.1 rfl (lv_room (Nat.le_of_ble_eq_true rfl)) d_Ob_checkIndex_3 ⟨Nat.le_of_ble_eq_true rfl, Nat.le_of_ble_eq_true rfl⟩) hS (fun r_1 u_1 H locs w_1 hE hS => ?_)
  obtain rfl := w_1
  refine W.widen (k := 0) (n := 0) (Nat.le_of_ble_eq_true rfl) (Nat.le_of_ble_eq_true rfl) ?_
  exact W.iret (v := nI j) hx hb hr (fun t9 ht9 hW9 => ⟨⟨nI j, (), rfl, rfl, ⟨by rw [ht9]; exact hE, va_K.moved hW9.alike hK⟩⟩, hS.F ht9⟩) hS.2.2 d_Ob_checkIndex_6
set_option maxHeartbeats 4000000 in
set_option maxRecDepth 100000 in
theorem c_A_elementData (l : Launch) {D : va_G} {z : Nat} {b : Nat → Nat} {C : fr_C} {H9 : Heap} (h9 : fr_W D hCl z b C H9) {cI cZ cJ cP cO : ClassId} {mc : Int32} {dt tk n0 : Nat} {f : Nat → Option Nat} (h7 : C (0, 7) = some (.inr (4, [.ref dt, .int (nI tk), .int mc]))) (hd : C (1, dt) = some (.inl (cO, n0, .inr (.inr (.inr (.inr f)))))) (j : Nat) (hj : j < n0) (hn : n0 < 2 ^ 31) : Met l y_A_elementData w_A_elementData ({ frames := 0, cells := 0, slots := 0, locals := 0 }) (va_Pc [.ref (b 7), .int (nI j)] (fr_G D hCl (hTy cI cZ cJ cP cO) z b C)) (va_Qq (fun (r : Option Nat) (u : Unit) => r = f j) (fun u t => fr_G D hCl (hTy cI cZ cJ cP cO) z ((fun _ => b) u) ((fun _ => C) u) t) (fr_A z)) 0 0 (fr_A z) := by
  refine Met.ofW (cc := b_A_elementData) (maxL := 2) (ret := (some (.object "java/lang/Object"))) (by decide) rfl ?_
  intro p e s m args below meth c s₁ B hml hv
  obtain ⟨rfl, hE, hK⟩ := hv
  have hx := B.exec
  have hb := B.bytes
  have hr := B.returns
  have hts := atoms_spec (ws := w_A_elementData) B.pre
  have hT : ∀ w ∈ hw_tbl, w.before _ s = true := fun w h => hts w (List.mem_cons_of_mem _ h)
  have hown : s.vm.findClass "java/util/ArrayList" = some m.cls := findClass_of_methodNamed B.named
  have hlocks := B.notSynchronized
  have hS : va_S (fr_A z) s.heap s.heap [] := va_S.rf
  have hl := lv_entry ([.ref (b 7), .int (nI j)]) (n := 2) (Nat.le_of_ble_eq_true rfl)
  rw [lg_entry_eq]
  generalize (lg_sl ([.ref (b 7), .int (nI j)]) ++ List.replicate (2 - (lg_sl ([.ref (b 7), .int (nI j)])).length) Slot.unset).toArray = ls at hl ⊢
  have hl : lv_has ls 2 [(0, .ref (b 7)), (1, .int (nI j))] := hl
  refine lv_aload_n hx hb d_A_elementData_0 rfl (lv_at hl 0 rfl) ?_
  refine fr_get (ci := 4) (Cn := hR_4) (T := hF_4) (N := 3) hx hb hT hi_4 hown hK hE (0, 7) rfl h7 rfl 0 (by decide) (hT _ kw_61) (fun _ h9 => h9) rfl d_A_elementData_1 ?_
  refine lv_iload_n hx hb d_A_elementData_4 rfl (lv_at hl 1 rfl) ?_
  refine fr_aald hx hb hK hE (1, dt) 4 rfl hd rfl j (rfl) (hj) (hn) d_A_elementData_5 ?_
  refine W.widen (k := 0) (n := 0) (Nat.le_of_ble_eq_true rfl) (Nat.le_of_ble_eq_true rfl) ?_
  exact W.aret (v := va_rf (f j)) hx hb hr (Or.inl ⟨_, rfl⟩) (va_rf_or (f j)) (fun t9 ht9 hW9 => ⟨⟨(f j), (), rfl, rfl, ⟨by rw [ht9]; exact hE, va_K.moved hW9.alike hK⟩⟩, hS.F ht9⟩) hS.2.2 d_A_elementData_6
set_option maxHeartbeats 4000000 in
set_option maxRecDepth 100000 in
theorem c_A_get (l : Launch) {D : va_G} {z : Nat} {b : Nat → Nat} {C : fr_C} {H9 : Heap} (h9 : fr_W D hCl z b C H9) {cI cZ cJ cP cO : ClassId} {mc : Int32} {dt tk n0 : Nat} {f : Nat → Option Nat} (h7 : C (0, 7) = some (.inr (4, [.ref dt, .int (nI tk), .int mc]))) (hd : C (1, dt) = some (.inl (cO, n0, .inr (.inr (.inr (.inr f)))))) (j : Nat) (hj : j < tk) (hkn : tk ≤ n0) (hn : n0 < 2 ^ 31) : Met l y_A_get w_A_get ({ frames := 2, cells := 0, slots := 0, locals := 43 }) (va_Pc [.ref (b 7), .int (nI j)] (fr_G D hCl (hTy cI cZ cJ cP cO) z b C)) (va_Qq (fun (r : Option Nat) (u : Unit) => r = f j) (fun u t => fr_G D hCl (hTy cI cZ cJ cP cO) z ((fun _ => b) u) ((fun _ => C) u) t) (fr_A z)) 0 0 (fr_A z) := by
  refine Met.ofW (cc := b_A_get) (maxL := 2) (ret := (some (.object "java/lang/Object"))) (by decide) rfl ?_
  intro p e s m args below meth c s₁ B hml hv
  obtain ⟨rfl, hE, hK⟩ := hv
  have hx := B.exec
  have hb := B.bytes
  have hr := B.returns
  have hts := atoms_spec (ws := w_A_get) B.pre
  have hT : ∀ w ∈ hw_tbl, w.before _ s = true := fun w h => hts w (List.mem_cons_of_mem _ h)
  have hown : s.vm.findClass "java/util/ArrayList" = some m.cls := findClass_of_methodNamed B.named
  have hlocks := B.notSynchronized
  have hS : va_S (fr_A z) s.heap s.heap [] := va_S.rf
  have hl := lv_entry ([.ref (b 7), .int (nI j)]) (n := 2) (Nat.le_of_ble_eq_true rfl)
  rw [lg_entry_eq]
  generalize (lg_sl ([.ref (b 7), .int (nI j)]) ++ List.replicate (2 - (lg_sl ([.ref (b 7), .int (nI j)])).length) Slot.unset).toArray = ls at hl ⊢
  have hl : lv_has ls 2 [(0, .ref (b 7)), (1, .int (nI j))] := hl
  refine lv_iload_n hx hb d_A_get_0 rfl (lv_at hl 1 rfl) ?_
  refine lv_aload_n hx hb d_A_get_1 rfl (lv_at hl 0 rfl) ?_
  refine fr_get (ci := 4) (Cn := hR_4) (T := hF_4) (N := 3) hx hb hT hi_4 hown hK hE (0, 7) rfl h7 rfl 1 (by decide) (hT _ kw_62) (fun _ h9 => h9) rfl d_A_get_2 ?_
  refine fr_calli (va_runS (As := [.int (nI j), .int (nI tk)]) (rest := []) ⟨hx, hb, hml, hown, hts⟩ (c_Ob_checkIndex l hE j tk hj (by omega)) (va_cwS 2 hts (hw_goodS kw_357 kw_358 kw_33 kw_359) rfl rfl rfl (by decide +kernel) ⟨Nat.le_of_ble_eq_true rfl, Nat.le_of_ble_eq_true rfl⟩) ⟨fr_blind, fr_pre hE hK⟩ rfl rfl hl.1 rfl (lv_room (Nat.le_of_ble_eq_true rfl)) d_A_get_5 ⟨Nat.le_of_ble_eq_true rfl, Nat.le_of_ble_eq_true rfl⟩) hS (fun r_1 u_1 H locs w_1 hE hS => ?_)
  refine lv_pop hx hb d_A_get_8 rfl ?_
  refine lv_aload_n hx hb d_A_get_9 rfl (lv_at hl 0 rfl) ?_
  refine lv_iload_n hx hb d_A_get_10 rfl (lv_at hl 1 rfl) ?_
  refine fr_callq (va_runV (As := [.int (nI j)]) (rest := []) ⟨hx, hb, hml, hown, hts⟩ (c_A_elementData l hE h7 hd j (by omega) hn) (cwV 1 hts (hw_goodV kw_363 kw_364 kw_365 kw_24 kw_366) rfl rfl rfl (by decide +kernel) ⟨Nat.le_of_ble_eq_true rfl, Nat.le_of_ble_eq_true rfl⟩) ⟨fr_blind, fr_recv hK hE (0, 7) rfl h7 (ci := 4) rfl, fr_pre hE hK⟩ rfl rfl hl.1 rfl (lv_room (Nat.le_of_ble_eq_true rfl)) d_A_get_11 ⟨Nat.le_of_ble_eq_true rfl, Nat.le_of_ble_eq_true rfl⟩) hS (fun r_2 u_2 H locs w_2 hE hS => ?_)
  obtain rfl := w_2
  refine W.widen (k := 0) (n := 0) (Nat.le_of_ble_eq_true rfl) (Nat.le_of_ble_eq_true rfl) ?_
  exact W.aret (v := va_rf (f j)) hx hb hr (Or.inl ⟨_, rfl⟩) (va_rf_or (f j)) (fun t9 ht9 hW9 => ⟨⟨(f j), (), rfl, rfl, ⟨by rw [ht9]; exact hE, va_K.moved hW9.alike hK⟩⟩, hS.F ht9⟩) hS.2.2 d_A_get_14
end
section
theorem newLen {n : Nat} (h2 : 2 ≤ n) (hn : n ≤ 100000) : nI n + (if nI 1 < nI (n / 2) then nI (n / 2) else nI 1) = nI (n + n / 2) := by
  by_cases c : 1 < n / 2
  · rw [if_pos (nI_lt c (by omega))]
    exact nI_add n (n / 2)
  · rw [if_neg (nI_nlt (by omega) (by decide))]
    have hd : n / 2 = 1 := by omega
    rw [hd]
    exact nI_add n 1
theorem shr1 {n : Nat} (hn : n < 2 ^ 31) : nI n >>> ((1 : Int32) &&& 31) = nI (n / 2) := by
  have k := pk_shrN (n := n) hn ((1 : Int32) &&& 31) 1 (by decide)
  rw [Nat.pow_one] at k
  exact k
set_option maxHeartbeats 4000000 in
set_option maxRecDepth 100000 in
theorem c_AS_newLength (l : Launch) {D : va_G} {z : Nat} {b : Nat → Nat} {C : fr_C} {H9 : Heap} (h9 : fr_W D hCl z b C H9) {cI cZ cJ cP cO : ClassId} (n : Nat) (h2 : 2 ≤ n) (hn : n ≤ 100000) : Met l y_AS_newLength w_AS_newLength ({ frames := 1, cells := 0, slots := 0, locals := 30 }) (va_Pc [.int (nI n), .int (nI 1), .int (nI (n / 2))] (fr_G D hCl (hTy cI cZ cJ cP cO) z b C)) (va_Qi (fun (r : Int32) (u : Unit) => r = nI (n + n / 2)) (fun u t => fr_G D hCl (hTy cI cZ cJ cP cO) z ((fun _ => b) u) ((fun _ => C) u) t) (fr_A z)) 0 0 (fr_A z) := by
  refine Met.ofW (cc := b_AS_newLength) (maxL := 4) (ret := (some .int)) (by decide) rfl ?_
  intro p e s m args below meth c s₁ B hml hv
  obtain ⟨rfl, hE, hK⟩ := hv
  have hx := B.exec
  have hb := B.bytes
  have hr := B.returns
  have hts := atoms_spec (ws := w_AS_newLength) B.pre
  have hT : ∀ w ∈ hw_tbl, w.before _ s = true := fun w h => hts w (List.mem_cons_of_mem _ h)
  have hown : s.vm.findClass "jdk/internal/util/ArraysSupport" = some m.cls := findClass_of_methodNamed B.named
  have hlocks := B.notSynchronized
  have hS : va_S (fr_A z) s.heap s.heap [] := va_S.rf
  have hl := lv_entry ([.int (nI n), .int (nI 1), .int (nI (n / 2))]) (n := 4) (Nat.le_of_ble_eq_true rfl)
  rw [lg_entry_eq]
  generalize (lg_sl ([.int (nI n), .int (nI 1), .int (nI (n / 2))]) ++ List.replicate (4 - (lg_sl ([.int (nI n), .int (nI 1), .int (nI (n / 2))])).length) Slot.unset).toArray = ls at hl ⊢
  have hl : lv_has ls 4 [(0, .int (nI n)), (1, .int (nI 1)), (2, .int (nI (n / 2)))] := hl
  refine lv_iload_n hx hb d_AS_newLength_0 rfl (lv_at hl 0 rfl) ?_
  refine lv_iload_n hx hb d_AS_newLength_1 rfl (lv_at hl 1 rfl) ?_
  refine lv_iload_n hx hb d_AS_newLength_2 rfl (lv_at hl 2 rfl) ?_
  refine va_mmax hx hb (hml.trans hl.1.symm) hown (hT _ kw_314) (hT _ kw_84) (hT _ kw_25) (hT _ kw_85) (Nat.le_of_ble_eq_true rfl) (Nat.le_of_ble_eq_true rfl) (Nat.le_of_ble_eq_true rfl) (Nat.le_of_ble_eq_true rfl) d_AS_newLength_3 ?_
  refine lv_iadd hx hb d_AS_newLength_6 ?_
  refine lv_topi (fun y_1 ey_1 => ?_)
  obtain rfl : y_1 = nI (n + n / 2) := ey_1.trans (newLen h2 hn)
  refine lv_istore_n (lv' := [(3, .int (nI (n + n / 2))), (0, .int (nI n)), (1, .int (nI 1)), (2, .int (nI (n / 2)))]) hx hb d_AS_newLength_7 rfl hl (by decide) rfl (fun ls hl => ?_)
  refine lv_iconst (v := 0) hx hb d_AS_newLength_8 (by decide) ?_
  refine lv_iload_n hx hb d_AS_newLength_9 rfl (lv_at hl 0 rfl) ?_
  refine lv_icmp_ge (tgt := 21) hx hb d_AS_newLength_10 (by decide) (fun c_2 => ?_) (fun c_2 => ?_)
  · skip
    exact absurd c_2 (fun y => nI_nle (n := n + n / 2) (by omega) (by omega) y)
  · skip
    refine lv_iload_n hx hb d_AS_newLength_13 rfl (lv_at hl 0 rfl) ?_
    refine lv_ldc (v := 2147483639) hx hb hown (hT _ kw_315) d_AS_newLength_14 ?_
    refine lv_icmp_gt (tgt := 21) hx hb d_AS_newLength_16 (by decide) (fun c_3 => ?_) (fun c_3 => ?_)
    · skip
      exact absurd c_3 (fun y => nI_nlt (a := 2147483639) (b := n + n / 2) (by omega) (by decide) y)
    · skip
      refine lv_iload_n hx hb d_AS_newLength_19 rfl (lv_at hl 0 rfl) ?_
      refine W.widen (k := 0) (n := 0) (Nat.le_of_ble_eq_true rfl) (Nat.le_of_ble_eq_true rfl) ?_
      exact W.iret (v := nI (n + n / 2)) hx hb hr (fun t9 ht9 hW9 => ⟨⟨nI (n + n / 2), (), rfl, rfl, ⟨by rw [ht9]; exact hE, va_K.moved hW9.alike hK⟩⟩, hS.F ht9⟩) hS.2.2 d_AS_newLength_20
set_option maxHeartbeats 4000000 in
set_option maxRecDepth 100000 in
theorem c_Ar_copyOfC (l : Launch) {D : va_G} {z : Nat} {b : Nat → Nat} {C : fr_C} {H9 : Heap} (h9 : fr_W D hCl z b C H9) {cI cZ cJ cP cO : ClassId} {e0 mi : Nat} {dt n0 : Nat} {f : Nat → Option Nat} (hd : C (1, dt) = some (.inl (cO, n0, .inr (.inr (.inr (.inr f)))))) (h2 : 2 ≤ n0) (hn : n0 ≤ 1500) (hel : ∀ i y, i < n0 → f i = some y → ∃ fs, C (1, y) = some (.inr (3, fs))) : Met l y_Ar_copyOfC w_Ar_copyOfC ({ frames := 1, cells := 1, slots := 2250, locals := 40 }) (va_Pc [.ref dt, .int (nI (n0 + n0 / 2)), .ref mi] (fr_GX e0 mi D hCl (hTy cI cZ cJ cP cO) z b C)) (va_Qq (fun (r : Option Nat) (u : Nat) => r = some u) (fun u t => fr_G D hCl (hTy cI cZ cJ cP cO) z ((fun u => fr_ub b 27 u) u) ((fun u => fr_up C (0, 27) (.inl (cO, n0 + n0 / 2, .inr (.inr (.inr (.inr (va_cpy f (fun _ => none) 0 0 n0))))))) u) t) (fr_A z)) 1 2250 (fr_A z) := by
  refine Met.ofW (cc := b_Ar_copyOfC) (maxL := 4) (ret := (some (.array (.object "java/lang/Object")))) (by decide) rfl ?_
  intro p e s m args below meth c s₁ B hml hv
  obtain ⟨rfl, ⟨hE, hK⟩, hX⟩ := hv
  have hx := B.exec
  have hb := B.bytes
  have hr := B.returns
  have hts := atoms_spec (ws := w_Ar_copyOfC) B.pre
  have hT : ∀ w ∈ hw_tbl, w.before _ s = true := fun w h => hts w (List.mem_cons_of_mem _ h)
  have hown : s.vm.findClass "java/util/Arrays" = some m.cls := findClass_of_methodNamed B.named
  have hlocks := B.notSynchronized
  have hS : va_S (fr_A z) s.heap s.heap [] := va_S.rf
  have hl := lv_entry ([.ref dt, .int (nI (n0 + n0 / 2)), .ref mi]) (n := 4) (Nat.le_of_ble_eq_true rfl)
  rw [lg_entry_eq]
  generalize (lg_sl ([.ref dt, .int (nI (n0 + n0 / 2)), .ref mi]) ++ List.replicate (4 - (lg_sl ([.ref dt, .int (nI (n0 + n0 / 2)), .ref mi])).length) Slot.unset).toArray = ls at hl ⊢
  have hl : lv_has ls 4 [(0, .ref dt), (1, .int (nI (n0 + n0 / 2))), (2, .ref mi)] := hl
  refine lv_aload_n hx hb d_Ar_copyOfC_0 rfl (lv_at hl 2 rfl) ?_
  refine va_ldcM hx hb hown (hT _ kw_336) hX.2.2.2.2.2.2.1 d_Ar_copyOfC_1 ?_
  refine lv_acmp_ne (rx := (some mi)) (ry := (some mi)) (tgt := 13) hx hb d_Ar_copyOfC_3 (by decide) (fun c_1 => ?_) (fun c_1 => ?_)
  · skip
    exact absurd c_1 (fun q9 => q9 rfl)
  · skip
    refine lv_iload_n hx hb d_Ar_copyOfC_6 rfl (lv_at hl 1 rfl) ?_
    refine fr_newq (Cn := "java/lang/Object") hx hb hown (hT _ kw_338) (va_AO.use hX.2.2.1) hK hE hS 27 4 rfl (n0 + n0 / 2) (rfl) (by omega) (by omega) (Nat.le_of_ble_eq_true rfl) (show 0 + (n0 + n0 / 2) ≤ 2250 by omega) d_Ar_copyOfC_7 (fun q27 H nq27 hE hS => ?_)
    refine W.widen (k := 1) (n := 2250) (Nat.le_of_ble_eq_true rfl) (by omega) ?_
    refine lv_goto (tgt := 24) hx hb d_Ar_copyOfC_10 (by decide) ?_
    refine lv_astore_n (lv' := [(3, .ref q27), (0, .ref dt), (1, .int (nI (n0 + n0 / 2))), (2, .ref mi)]) hx hb d_Ar_copyOfC_24 rfl hl (by decide) rfl (fun ls hl => ?_)
    refine lv_aload_n hx hb d_Ar_copyOfC_25 rfl (lv_at hl 1 rfl) ?_
    refine lv_iconst (v := 0) hx hb d_Ar_copyOfC_26 (by decide) ?_
    refine lv_aload_n hx hb d_Ar_copyOfC_27 rfl (lv_at hl 0 rfl) ?_
    refine lv_iconst (v := 0) hx hb d_Ar_copyOfC_28 (by decide) ?_
    refine lv_aload_n hx hb d_Ar_copyOfC_29 rfl (lv_at hl 1 rfl) ?_
    refine fr_alen hx hb hK hE (1, dt) 4 rfl hd rfl d_Ar_copyOfC_30 ?_
    refine lv_iload_n hx hb d_Ar_copyOfC_31 rfl (lv_at hl 2 rfl) ?_
    refine va_mmin hx hb (hml.trans hl.1.symm) hown (hT _ kw_205) (hT _ kw_81) (hT _ kw_25) (hT _ kw_82) (Nat.le_of_ble_eq_true rfl) (Nat.le_of_ble_eq_true rfl) (Nat.le_of_ble_eq_true rfl) (Nat.le_of_ble_eq_true rfl) d_Ar_copyOfC_32 ?_
    refine lv_topi (fun y_2 ey_2 => ?_)
    obtain rfl : y_2 = nI n0 := ey_2.trans (if_neg (nI_nlt (a := n0 + n0 / 2) (b := n0) (by omega) (by omega)))
    refine fr_copyq hx hb (hml.trans hl.1.symm) hown (hT _ kw_206) (hT _ kw_208) (hT _ kw_207) (hT _ kw_29) hK hE hS (1, dt) (0, 27) 4 4 rfl rfl hd rfl rfl rfl 0 0 n0 rfl rfl rfl (by omega) (by omega) (by omega) (by omega) (fun i hi y hy => by rw [Nat.zero_add] at hy; obtain ⟨fs, hfs⟩ := hel i y hi hy; exact fr_any (ci := 3) hK hE (1, y) rfl hfs rfl hX.2.2.2.2.1) (Nat.le_of_ble_eq_true rfl) (by decide) d_Ar_copyOfC_35 (fun H locs hE hS => ?_)
    rw [fr_up_up] at hE
    refine lv_aload_n hx hb d_Ar_copyOfC_38 rfl (lv_at hl 0 rfl) ?_
    refine W.widen (k := 1) (n := 2250) (Nat.le_of_ble_eq_true rfl) (Nat.le_of_ble_eq_true rfl) ?_
    exact W.aret (v := .ref q27) hx hb hr (Or.inr ⟨_, rfl⟩) (va_rf_or (some q27)) (fun t9 ht9 hW9 => ⟨⟨(some q27), q27, rfl, rfl, ⟨by rw [ht9]; exact hE, va_K.moved hW9.alike hK⟩⟩, hS.F ht9⟩) hS.2.2 d_Ar_copyOfC_39
set_option maxHeartbeats 4000000 in
set_option maxRecDepth 100000 in
theorem c_Ar_copyOfO (l : Launch) {D : va_G} {z : Nat} {b : Nat → Nat} {C : fr_C} {H9 : Heap} (h9 : fr_W D hCl z b C H9) {cI cZ cJ cP cO : ClassId} {e0 mi : Nat} {dt n0 : Nat} {f : Nat → Option Nat} (hd : C (1, dt) = some (.inl (cO, n0, .inr (.inr (.inr (.inr f)))))) (h2 : 2 ≤ n0) (hn : n0 ≤ 1500) (hel : ∀ i y, i < n0 → f i = some y → ∃ fs, C (1, y) = some (.inr (3, fs))) : Met l y_Ar_copyOfO w_Ar_copyOfO ({ frames := 2, cells := 1, slots := 2250, locals := 63 }) (va_Pc [.ref dt, .int (nI (n0 + n0 / 2))] (fr_GX e0 mi D hCl (hTy cI cZ cJ cP cO) z b C)) (va_Qq (fun (r : Option Nat) (u : Nat) => r = some u) (fun u t => fr_G D hCl (hTy cI cZ cJ cP cO) z ((fun u => fr_ub b 27 u) u) ((fun u => fr_up C (0, 27) (.inl (cO, n0 + n0 / 2, .inr (.inr (.inr (.inr (va_cpy f (fun _ => none) 0 0 n0))))))) u) t) (fr_A z)) 1 2250 (fr_A z) := by
  refine Met.ofW (cc := b_Ar_copyOfO) (maxL := 2) (ret := (some (.array (.object "java/lang/Object")))) (by decide) rfl ?_
  intro p e s m args below meth c s₁ B hml hv
  obtain ⟨rfl, ⟨hE, hK⟩, hX⟩ := hv
  have hx := B.exec
  have hb := B.bytes
  have hr := B.returns
  have hts := atoms_spec (ws := w_Ar_copyOfO) B.pre
  have hT : ∀ w ∈ hw_tbl, w.before _ s = true := fun w h => hts w (List.mem_cons_of_mem _ h)
  have hown : s.vm.findClass "java/util/Arrays" = some m.cls := findClass_of_methodNamed B.named
  have hlocks := B.notSynchronized
  have hS : va_S (fr_A z) s.heap s.heap [] := va_S.rf
  have hl := lv_entry ([.ref dt, .int (nI (n0 + n0 / 2))]) (n := 2) (Nat.le_of_ble_eq_true rfl)
  rw [lg_entry_eq]
  generalize (lg_sl ([.ref dt, .int (nI (n0 + n0 / 2))]) ++ List.replicate (2 - (lg_sl ([.ref dt, .int (nI (n0 + n0 / 2))])).length) Slot.unset).toArray = ls at hl ⊢
  have hl : lv_has ls 2 [(0, .ref dt), (1, .int (nI (n0 + n0 / 2)))] := hl
  refine lv_aload_n hx hb d_Ar_copyOfO_0 rfl (lv_at hl 0 rfl) ?_
  refine lv_iload_n hx hb d_Ar_copyOfO_1 rfl (lv_at hl 1 rfl) ?_
  refine lv_aload_n hx hb d_Ar_copyOfO_2 rfl (lv_at hl 0 rfl) ?_
  refine va_getC hx hb (hml.trans hl.1.symm) hown (hT _ kw_322) (va_Dc.use hX.2.2.2.2.2.2.2) (hT _ kw_665) (hT _ kw_323) (hT _ kw_332) hX.2.2.2.2.2.2.1 ⟨_, (hE.2.1 (1, dt) _ hd).1, rfl, va_nmO (hK.2 4 _ rfl).2 rfl⟩ (Nat.le_of_ble_eq_true rfl) (Nat.le_of_ble_eq_true rfl) d_Ar_copyOfO_3 ?_
  refine fr_callq (va_runS (As := [.ref dt, .int (nI (n0 + n0 / 2)), .ref mi]) (rest := []) ⟨hx, hb, hml, hown, hts⟩ (c_Ar_copyOfC l hE hd h2 hn hel) (va_cwS 3 hts (hw_goodS kw_333 kw_334 kw_28 kw_335) rfl rfl rfl (by decide +kernel) ⟨Nat.le_of_ble_eq_true rfl, Nat.le_of_ble_eq_true rfl⟩) ⟨fr_blindX, fr_preX hE hK hX hS⟩ rfl rfl hl.1 rfl (lv_room (Nat.le_of_ble_eq_true rfl)) d_Ar_copyOfO_6 ⟨Nat.le_of_ble_eq_true rfl, Nat.le_of_ble_eq_true rfl⟩) hS (fun r_1 u_1 H locs w_1 hE hS => ?_)
  obtain rfl := w_1
  refine W.widen (k := 1) (n := 2250) (Nat.le_of_ble_eq_true rfl) (Nat.le_of_ble_eq_true rfl) ?_
  exact W.aret (v := .ref u_1) hx hb hr (Or.inr ⟨_, rfl⟩) (va_rf_or (some u_1)) (fun t9 ht9 hW9 => ⟨⟨(some u_1), u_1, rfl, rfl, ⟨by rw [ht9]; exact hE, va_K.moved hW9.alike hK⟩⟩, hS.F ht9⟩) hS.2.2 d_Ar_copyOfO_9
set_option maxHeartbeats 4000000 in
set_option maxRecDepth 100000 in
theorem c_A_grow1 (l : Launch) {D : va_G} {z : Nat} {b : Nat → Nat} {C : fr_C} {H9 : Heap} (h9 : fr_W D hCl z b C H9) {cI cZ cJ cP cO : ClassId} {e0 mi : Nat} {dt n0 : Nat} {f : Nat → Option Nat} (hd : C (1, dt) = some (.inl (cO, n0, .inr (.inr (.inr (.inr f)))))) (h2 : 2 ≤ n0) (hn : n0 ≤ 1500) (hel : ∀ i y, i < n0 → f i = some y → ∃ fs, C (1, y) = some (.inr (3, fs))) {mc : Int32} {tk : Nat} (h7 : C (0, 7) = some (.inr (4, [.ref dt, .int (nI tk), .int mc]))) (htk : tk = n0) : Met l y_A_grow1 w_A_grow1 ({ frames := 3, cells := 1, slots := 2250, locals := 84 }) (va_Pc [.ref (b 7), .int (nI (n0 + 1))] (fr_GX e0 mi D hCl (hTy cI cZ cJ cP cO) z b C)) (va_Qq (fun (r : Option Nat) (u : Nat) => r = some u) (fun u t => fr_G D hCl (hTy cI cZ cJ cP cO) z ((fun u => fr_ub b 27 u) u) ((fun u => fr_up (fr_up C (0, 27) (.inl (cO, n0 + n0 / 2, .inr (.inr (.inr (.inr (va_cpy f (fun _ => none) 0 0 n0))))))) (0, 7) (.inr (4, [.ref u, .int (nI tk), .int mc]))) u) t) (fr_A z)) 1 2250 (fr_A z) := by
  refine Met.ofW (cc := b_A_grow1) (maxL := 4) (ret := (some (.array (.object "java/lang/Object")))) (by decide) rfl ?_
  intro p e s m args below meth c s₁ B hml hv
  obtain ⟨rfl, ⟨hE, hK⟩, hX⟩ := hv
  have hx := B.exec
  have hb := B.bytes
  have hr := B.returns
  have hts := atoms_spec (ws := w_A_grow1) B.pre
  have hT : ∀ w ∈ hw_tbl, w.before _ s = true := fun w h => hts w (List.mem_cons_of_mem _ h)
  have hown : s.vm.findClass "java/util/ArrayList" = some m.cls := findClass_of_methodNamed B.named
  have hlocks := B.notSynchronized
  have hS : va_S (fr_A z) s.heap s.heap [] := va_S.rf
  have hl := lv_entry ([.ref (b 7), .int (nI (n0 + 1))]) (n := 4) (Nat.le_of_ble_eq_true rfl)
  rw [lg_entry_eq]
  generalize (lg_sl ([.ref (b 7), .int (nI (n0 + 1))]) ++ List.replicate (4 - (lg_sl ([.ref (b 7), .int (nI (n0 + 1))])).length) Slot.unset).toArray = ls at hl ⊢
  have hl : lv_has ls 4 [(0, .ref (b 7)), (1, .int (nI (n0 + 1)))] := hl
  refine lv_aload_n hx hb d_A_grow1_0 rfl (lv_at hl 0 rfl) ?_
  refine fr_get (ci := 4) (Cn := hR_4) (T := hF_4) (N := 3) hx hb hT hi_4 hown hK hE (0, 7) rfl h7 rfl 0 (by decide) (hT _ kw_61) (fun _ h9 => h9) rfl d_A_grow1_1 ?_
  refine fr_alen hx hb hK hE (1, dt) 4 rfl hd rfl d_A_grow1_4 ?_
  refine lv_istore_n (lv' := [(2, .int (nI n0)), (0, .ref (b 7)), (1, .int (nI (n0 + 1)))]) hx hb d_A_grow1_5 rfl hl (by decide) rfl (fun ls hl => ?_)
  refine lv_iload_n hx hb d_A_grow1_6 rfl (lv_at hl 0 rfl) ?_
  refine lv_if_gt (tgt := 20) hx hb d_A_grow1_7 (by decide) (fun c_1 => ?_) (fun c_1 => ?_)
  · skip
    refine lv_iload_n hx hb d_A_grow1_20 rfl (lv_at hl 0 rfl) ?_
    refine lv_iload_n hx hb d_A_grow1_21 rfl (lv_at hl 2 rfl) ?_
    refine lv_iload_n hx hb d_A_grow1_22 rfl (lv_at hl 0 rfl) ?_
    refine lv_isub hx hb d_A_grow1_23 ?_
    refine lv_topi (fun y_2 ey_2 => ?_)
    obtain rfl : y_2 = nI 1 := ey_2.trans (by rw [pk_sub (by omega)]; exact congrArg nI (by omega))
    refine lv_iload_n hx hb d_A_grow1_24 rfl (lv_at hl 0 rfl) ?_
    refine lv_iconst (v := 1) hx hb d_A_grow1_25 (by decide) ?_
    refine lv_ishr hx hb d_A_grow1_26 ?_
    refine lv_topi (fun y_3 ey_3 => ?_)
    obtain rfl : y_3 = nI (n0 / 2) := ey_3.trans (shr1 (by omega))
    refine fr_calli (va_runS (As := [.int (nI n0), .int (nI 1), .int (nI (n0 / 2))]) (rest := []) ⟨hx, hb, hml, hown, hts⟩ (c_AS_newLength l hE n0 h2 (by omega)) (va_cwS 3 hts (hw_goodS kw_311 kw_312 kw_32 kw_313) rfl rfl rfl (by decide +kernel) ⟨Nat.le_of_ble_eq_true rfl, Nat.le_of_ble_eq_true rfl⟩) ⟨fr_blind, fr_pre hE hK⟩ rfl rfl hl.1 rfl (lv_room (Nat.le_of_ble_eq_true rfl)) d_A_grow1_27 ⟨Nat.le_of_ble_eq_true rfl, Nat.le_of_ble_eq_true rfl⟩) hS (fun r_4 u_4 H locs w_4 hE hS => ?_)
    obtain rfl := w_4
    refine lv_istore_n (lv' := [(3, .int (nI (n0 + n0 / 2))), (2, .int (nI n0)), (0, .ref (b 7)), (1, .int (nI (n0 + 1)))]) hx hb d_A_grow1_30 rfl hl (by decide) rfl (fun ls hl => ?_)
    refine lv_aload_n hx hb d_A_grow1_31 rfl (lv_at hl 2 rfl) ?_
    refine lv_aload_n hx hb d_A_grow1_32 rfl (lv_at hl 2 rfl) ?_
    refine fr_get (ci := 4) (Cn := hR_4) (T := hF_4) (N := 3) hx hb hT hi_4 hown hK hE (0, 7) rfl h7 rfl 0 (by decide) (hT _ kw_61) (fun _ h9 => h9) rfl d_A_grow1_33 ?_
    refine lv_iload_n hx hb d_A_grow1_36 rfl (lv_at hl 0 rfl) ?_
    refine fr_callq (va_runS (As := [.ref dt, .int (nI (n0 + n0 / 2))]) (rest := [.ref (b 7)]) ⟨hx, hb, hml, hown, hts⟩ (c_Ar_copyOfO l hE hd h2 hn hel) (va_cwS 2 hts (hw_goodS kw_319 kw_320 kw_28 kw_321) rfl rfl rfl (by decide +kernel) ⟨Nat.le_of_ble_eq_true rfl, Nat.le_of_ble_eq_true rfl⟩) ⟨fr_blindX, fr_preX hE hK hX hS⟩ rfl rfl hl.1 rfl (lv_room (Nat.le_of_ble_eq_true rfl)) d_A_grow1_37 ⟨Nat.le_of_ble_eq_true rfl, Nat.le_of_ble_eq_true rfl⟩) hS (fun r_5 u_5 H locs w_5 hE hS => ?_)
    obtain rfl := w_5
    refine lv_dup_x1 hx hb d_A_grow1_40 rfl rfl ?_
    refine fr_put (ci := 4) (v := .ref u_5) (ty := (.array (.object "java/lang/Object"))) (Cn := hR_4) (T := hF_4) (N := 3) hx hb hT hi_4 hy_4 ho_4 hn_4 hown hK hE hS (0, 7) rfl h7 rfl 0 (by decide) (hT _ kw_61) (fun _ h9 => h9) rfl (by decide +kernel) rfl rfl (Nat.le_of_ble_eq_true rfl) d_A_grow1_41 (fun H locs hE hS => ?_)
    refine W.widen (k := 1) (n := 2250) (Nat.le_of_ble_eq_true rfl) (Nat.le_of_ble_eq_true rfl) ?_
    exact W.aret (v := .ref u_5) hx hb hr (Or.inr ⟨_, rfl⟩) (va_rf_or (some u_5)) (fun t9 ht9 hW9 => ⟨⟨(some u_5), u_5, rfl, rfl, ⟨by rw [ht9]; exact hE, va_K.moved hW9.alike hK⟩⟩, hS.F ht9⟩) hS.2.2 d_A_grow1_44
  · skip
    exact absurd c_1 (fun q9 => q9 (nI_lt (a := 0) (by omega) (by omega)))
set_option maxHeartbeats 4000000 in
set_option maxRecDepth 100000 in
theorem c_A_grow1_0 (l : Launch) {D : va_G} {z : Nat} {b : Nat → Nat} {C : fr_C} {H9 : Heap} (h9 : fr_W D hCl z b C H9) {cI cZ cJ cP cO : ClassId} {e0 mi : Nat} {mc : Int32} (h7 : C (0, 7) = some (.inr (4, [.ref e0, .int (nI 0), .int mc]))) : Met l y_A_grow1 w_A_grow1 ({ frames := 3, cells := 1, slots := 2250, locals := 84 }) (va_Pc [.ref (b 7), .int (nI 1)] (fr_GX e0 mi D hCl (hTy cI cZ cJ cP cO) z b C)) (va_Qq (fun (r : Option Nat) (u : Nat) => r = some u) (fun u t => fr_G D hCl (hTy cI cZ cJ cP cO) z ((fun u => fr_ub b 27 u) u) ((fun u => fr_up (fr_up C (0, 27) (.inl (cO, 10, .inr (.inr (.inr (.inr (fun _ => none))))))) (0, 7) (.inr (4, [.ref u, .int (nI 0), .int mc]))) u) t) (fr_A z)) 1 2250 (fr_A z) := by
  refine Met.ofW (cc := b_A_grow1) (maxL := 4) (ret := (some (.array (.object "java/lang/Object")))) (by decide) rfl ?_
  intro p e s m args below meth c s₁ B hml hv
  obtain ⟨rfl, ⟨hE, hK⟩, hX⟩ := hv
  have hx := B.exec
  have hb := B.bytes
  have hr := B.returns
  have hts := atoms_spec (ws := w_A_grow1) B.pre
  have hT : ∀ w ∈ hw_tbl, w.before _ s = true := fun w h => hts w (List.mem_cons_of_mem _ h)
  have hown : s.vm.findClass "java/util/ArrayList" = some m.cls := findClass_of_methodNamed B.named
  have hlocks := B.notSynchronized
  have hS : va_S (fr_A z) s.heap s.heap [] := va_S.rf
  have hl := lv_entry ([.ref (b 7), .int (nI 1)]) (n := 4) (Nat.le_of_ble_eq_true rfl)
  rw [lg_entry_eq]
  generalize (lg_sl ([.ref (b 7), .int (nI 1)]) ++ List.replicate (4 - (lg_sl ([.ref (b 7), .int (nI 1)])).length) Slot.unset).toArray = ls at hl ⊢
  have hl : lv_has ls 4 [(0, .ref (b 7)), (1, .int (nI 1))] := hl
  refine lv_aload_n hx hb d_A_grow1_0 rfl (lv_at hl 0 rfl) ?_
  refine fr_get (ci := 4) (Cn := hR_4) (T := hF_4) (N := 3) hx hb hT hi_4 hown hK hE (0, 7) rfl h7 rfl 0 (by decide) (hT _ kw_61) (fun _ h9 => h9) rfl d_A_grow1_1 ?_
  refine va_tlen (v := 0) hx hb hX.2.1 hS rfl d_A_grow1_4 ?_
  refine lv_istore_n (lv' := [(2, .int 0), (0, .ref (b 7)), (1, .int (nI 1))]) hx hb d_A_grow1_5 rfl hl (by decide) rfl (fun ls hl => ?_)
  refine lv_iload_n hx hb d_A_grow1_6 rfl (lv_at hl 0 rfl) ?_
  refine lv_if_gt (tgt := 20) hx hb d_A_grow1_7 (by decide) (fun c_1 => ?_) (fun c_1 => ?_)
  · skip
    exact absurd c_1 (by decide)
  · skip
    refine lv_aload_n hx hb d_A_grow1_10 rfl (lv_at hl 1 rfl) ?_
    refine fr_get (ci := 4) (Cn := hR_4) (T := hF_4) (N := 3) hx hb hT hi_4 hown hK hE (0, 7) rfl h7 rfl 0 (by decide) (hT _ kw_61) (fun _ h9 => h9) rfl d_A_grow1_11 ?_
    refine va_gets hx hb hX.1 hS hown (hT _ kw_59) (fun _ h9 => h9) d_A_grow1_14 ?_
    refine lv_acmp_eq (rx := (some e0)) (ry := (some e0)) (tgt := 45) hx hb d_A_grow1_17 (by decide) (fun c_2 => ?_) (fun c_2 => ?_)
    · skip
      refine lv_aload_n hx hb d_A_grow1_45 rfl (lv_at hl 1 rfl) ?_
      refine lv_bipush (v := 10) hx hb d_A_grow1_46 (by decide) ?_
      refine lv_iload_n hx hb d_A_grow1_48 rfl (lv_at hl 2 rfl) ?_
      refine va_mmax hx hb (hml.trans hl.1.symm) hown (hT _ kw_339) (hT _ kw_84) (hT _ kw_25) (hT _ kw_85) (Nat.le_of_ble_eq_true rfl) (Nat.le_of_ble_eq_true rfl) (Nat.le_of_ble_eq_true rfl) (Nat.le_of_ble_eq_true rfl) d_A_grow1_49 ?_
      refine lv_topi (fun y_3 ey_3 => ?_)
      obtain rfl : y_3 = nI 10 := ey_3.trans (by decide)
      refine fr_newq (Cn := "java/lang/Object") hx hb hown (hT _ kw_340) (va_AO.use hX.2.2.1) hK hE hS 27 4 rfl 10 (rfl) (by decide) (by decide) (Nat.le_of_ble_eq_true rfl) (Nat.le_of_ble_eq_true rfl) d_A_grow1_52 (fun q27 H nq27 hE hS => ?_)
      refine W.widen (k := 1) (n := 2250) (Nat.le_of_ble_eq_true rfl) (by omega) ?_
      refine lv_dup_x1 hx hb d_A_grow1_55 rfl rfl ?_
      refine fr_put (ci := 4) (v := .ref q27) (ty := (.array (.object "java/lang/Object"))) (Cn := hR_4) (T := hF_4) (N := 3) hx hb hT hi_4 hy_4 ho_4 hn_4 hown hK hE hS (0, 7) rfl h7 rfl 0 (by decide) (hT _ kw_61) (fun _ h9 => h9) rfl (by decide +kernel) rfl rfl (Nat.le_of_ble_eq_true rfl) d_A_grow1_56 (fun H locs hE hS => ?_)
      refine W.widen (k := 1) (n := 2250) (Nat.le_of_ble_eq_true rfl) (Nat.le_of_ble_eq_true rfl) ?_
      exact W.aret (v := .ref q27) hx hb hr (Or.inr ⟨_, rfl⟩) (va_rf_or (some q27)) (fun t9 ht9 hW9 => ⟨⟨(some q27), q27, rfl, rfl, ⟨by rw [ht9]; exact hE, va_K.moved hW9.alike hK⟩⟩, hS.F ht9⟩) hS.2.2 d_A_grow1_59
    · skip
      exact absurd c_2 (fun q9 => q9 rfl)
set_option maxHeartbeats 4000000 in
set_option maxRecDepth 100000 in
theorem c_A_grow (l : Launch) {D : va_G} {z : Nat} {b : Nat → Nat} {C : fr_C} {H9 : Heap} (h9 : fr_W D hCl z b C H9) {cI cZ cJ cP cO : ClassId} {e0 mi : Nat} {dt n0 : Nat} {f : Nat → Option Nat} (hd : C (1, dt) = some (.inl (cO, n0, .inr (.inr (.inr (.inr f)))))) (h2 : 2 ≤ n0) (hn : n0 ≤ 1500) (hel : ∀ i y, i < n0 → f i = some y → ∃ fs, C (1, y) = some (.inr (3, fs))) {mc : Int32} {tk : Nat} (h7 : C (0, 7) = some (.inr (4, [.ref dt, .int (nI tk), .int mc]))) (htk : tk = n0) : Met l y_A_grow w_A_grow ({ frames := 4, cells := 1, slots := 2250, locals := 107 }) (va_Pc [.ref (b 7)] (fr_GX e0 mi D hCl (hTy cI cZ cJ cP cO) z b C)) (va_Qq (fun (r : Option Nat) (u : Nat) => r = some u) (fun u t => fr_G D hCl (hTy cI cZ cJ cP cO) z ((fun u => fr_ub b 27 u) u) ((fun u => fr_up (fr_up C (0, 27) (.inl (cO, n0 + n0 / 2, .inr (.inr (.inr (.inr (va_cpy f (fun _ => none) 0 0 n0))))))) (0, 7) (.inr (4, [.ref u, .int (nI tk), .int mc]))) u) t) (fr_A z)) 1 2250 (fr_A z) := by
  refine Met.ofW (cc := b_A_grow) (maxL := 1) (ret := (some (.array (.object "java/lang/Object")))) (by decide) rfl ?_
  intro p e s m args below meth c s₁ B hml hv
  obtain ⟨rfl, ⟨hE, hK⟩, hX⟩ := hv
  have hx := B.exec
  have hb := B.bytes
  have hr := B.returns
  have hts := atoms_spec (ws := w_A_grow) B.pre
  have hT : ∀ w ∈ hw_tbl, w.before _ s = true := fun w h => hts w (List.mem_cons_of_mem _ h)
  have hown : s.vm.findClass "java/util/ArrayList" = some m.cls := findClass_of_methodNamed B.named
  have hlocks := B.notSynchronized
  have hS : va_S (fr_A z) s.heap s.heap [] := va_S.rf
  have hl := lv_entry ([.ref (b 7)]) (n := 1) (Nat.le_of_ble_eq_true rfl)
  rw [lg_entry_eq]
  generalize (lg_sl ([.ref (b 7)]) ++ List.replicate (1 - (lg_sl ([.ref (b 7)])).length) Slot.unset).toArray = ls at hl ⊢
  have hl : lv_has ls 1 [(0, .ref (b 7))] := hl
  refine lv_aload_n hx hb d_A_grow_0 rfl (lv_at hl 0 rfl) ?_
  refine lv_aload_n hx hb d_A_grow_1 rfl (lv_at hl 0 rfl) ?_
  refine fr_get (ci := 4) (Cn := hR_4) (T := hF_4) (N := 3) hx hb hT hi_4 hown hK hE (0, 7) rfl h7 rfl 1 (by decide) (hT _ kw_62) (fun _ h9 => h9) rfl d_A_grow_2 ?_
  refine lv_iconst (v := 1) hx hb d_A_grow_5 (by decide) ?_
  refine lv_iadd hx hb d_A_grow_6 ?_
  refine lv_topi (fun y_1 ey_1 => ?_)
  obtain rfl : y_1 = nI (n0 + 1) := ey_1.trans (by rw [htk]; exact nI_1 n0)
  refine fr_callq (va_runV (As := [.int (nI (n0 + 1))]) (rest := []) ⟨hx, hb, hml, hown, hts⟩ (c_A_grow1 l hE hd h2 hn hel h7 htk) (cwV 1 hts (hw_goodV kw_307 kw_309 kw_9 kw_24 kw_310) rfl rfl rfl (by decide +kernel) ⟨Nat.le_of_ble_eq_true rfl, Nat.le_of_ble_eq_true rfl⟩) ⟨fr_blindX, fr_recv hK hE (0, 7) rfl h7 (ci := 4) rfl, fr_preX hE hK hX hS⟩ rfl rfl hl.1 rfl (lv_room (Nat.le_of_ble_eq_true rfl)) d_A_grow_7 ⟨Nat.le_of_ble_eq_true rfl, Nat.le_of_ble_eq_true rfl⟩) hS (fun r_2 u_2 H locs w_2 hE hS => ?_)
  obtain rfl := w_2
  refine W.widen (k := 1) (n := 2250) (Nat.le_of_ble_eq_true rfl) (Nat.le_of_ble_eq_true rfl) ?_
  exact W.aret (v := .ref u_2) hx hb hr (Or.inr ⟨_, rfl⟩) (va_rf_or (some u_2)) (fun t9 ht9 hW9 => ⟨⟨(some u_2), u_2, rfl, rfl, ⟨by rw [ht9]; exact hE, va_K.moved hW9.alike hK⟩⟩, hS.F ht9⟩) hS.2.2 d_A_grow_10
set_option maxHeartbeats 4000000 in
set_option maxRecDepth 100000 in
theorem c_A_grow_0 (l : Launch) {D : va_G} {z : Nat} {b : Nat → Nat} {C : fr_C} {H9 : Heap} (h9 : fr_W D hCl z b C H9) {cI cZ cJ cP cO : ClassId} {e0 mi : Nat} {mc : Int32} (h7 : C (0, 7) = some (.inr (4, [.ref e0, .int (nI 0), .int mc]))) : Met l y_A_grow w_A_grow ({ frames := 4, cells := 1, slots := 2250, locals := 107 }) (va_Pc [.ref (b 7)] (fr_GX e0 mi D hCl (hTy cI cZ cJ cP cO) z b C)) (va_Qq (fun (r : Option Nat) (u : Nat) => r = some u) (fun u t => fr_G D hCl (hTy cI cZ cJ cP cO) z ((fun u => fr_ub b 27 u) u) ((fun u => fr_up (fr_up C (0, 27) (.inl (cO, 10, .inr (.inr (.inr (.inr (fun _ => none))))))) (0, 7) (.inr (4, [.ref u, .int (nI 0), .int mc]))) u) t) (fr_A z)) 1 2250 (fr_A z) := by
  refine Met.ofW (cc := b_A_grow) (maxL := 1) (ret := (some (.array (.object "java/lang/Object")))) (by decide) rfl ?_
  intro p e s m args below meth c s₁ B hml hv
  obtain ⟨rfl, ⟨hE, hK⟩, hX⟩ := hv
  have hx := B.exec
  have hb := B.bytes
  have hr := B.returns
  have hts := atoms_spec (ws := w_A_grow) B.pre
  have hT : ∀ w ∈ hw_tbl, w.before _ s = true := fun w h => hts w (List.mem_cons_of_mem _ h)
  have hown : s.vm.findClass "java/util/ArrayList" = some m.cls := findClass_of_methodNamed B.named
  have hlocks := B.notSynchronized
  have hS : va_S (fr_A z) s.heap s.heap [] := va_S.rf
  have hl := lv_entry ([.ref (b 7)]) (n := 1) (Nat.le_of_ble_eq_true rfl)
  rw [lg_entry_eq]
  generalize (lg_sl ([.ref (b 7)]) ++ List.replicate (1 - (lg_sl ([.ref (b 7)])).length) Slot.unset).toArray = ls at hl ⊢
  have hl : lv_has ls 1 [(0, .ref (b 7))] := hl
  refine lv_aload_n hx hb d_A_grow_0 rfl (lv_at hl 0 rfl) ?_
  refine lv_aload_n hx hb d_A_grow_1 rfl (lv_at hl 0 rfl) ?_
  refine fr_get (ci := 4) (Cn := hR_4) (T := hF_4) (N := 3) hx hb hT hi_4 hown hK hE (0, 7) rfl h7 rfl 1 (by decide) (hT _ kw_62) (fun _ h9 => h9) rfl d_A_grow_2 ?_
  refine lv_iconst (v := 1) hx hb d_A_grow_5 (by decide) ?_
  refine lv_iadd hx hb d_A_grow_6 ?_
  refine lv_topi (fun y_1 ey_1 => ?_)
  obtain rfl : y_1 = nI 1 := ey_1.trans (nI_1 0)
  refine fr_callq (va_runV (As := [.int (nI 1)]) (rest := []) ⟨hx, hb, hml, hown, hts⟩ (c_A_grow1_0 l hE h7) (cwV 1 hts (hw_goodV kw_307 kw_309 kw_9 kw_24 kw_310) rfl rfl rfl (by decide +kernel) ⟨Nat.le_of_ble_eq_true rfl, Nat.le_of_ble_eq_true rfl⟩) ⟨fr_blindX, fr_recv hK hE (0, 7) rfl h7 (ci := 4) rfl, fr_preX hE hK hX hS⟩ rfl rfl hl.1 rfl (lv_room (Nat.le_of_ble_eq_true rfl)) d_A_grow_7 ⟨Nat.le_of_ble_eq_true rfl, Nat.le_of_ble_eq_true rfl⟩) hS (fun r_2 u_2 H locs w_2 hE hS => ?_)
  obtain rfl := w_2
  refine W.widen (k := 1) (n := 2250) (Nat.le_of_ble_eq_true rfl) (Nat.le_of_ble_eq_true rfl) ?_
  exact W.aret (v := .ref u_2) hx hb hr (Or.inr ⟨_, rfl⟩) (va_rf_or (some u_2)) (fun t9 ht9 hW9 => ⟨⟨(some u_2), u_2, rfl, rfl, ⟨by rw [ht9]; exact hE, va_K.moved hW9.alike hK⟩⟩, hS.F ht9⟩) hS.2.2 d_A_grow_10
end
section
theorem fr_ub_same (b : Nat → Nat) (i : Nat) : fr_ub b i (b i) = b := by
  funext j
  by_cases h : j = i
  · subst h
    exact fr_ub_self _ _ _
  · exact fr_ub_ne h
theorem fr_ag.rm {L : List (Nat × Nat)} {C' C : fr_C} {r : Nat × Nat} (h : fr_ag L C' C) (hr : r ∈ L) : fr_ag L (fr_rm C' r) C := fun x hx => (fr_rm_ne (fun q => hx (by rw [q]; exact hr))).trans (h x hx)
/-- what the list is after one more was put in -/
def addP (C C' : fr_C) (b b' : Nat → Nat) (cO : ClassId) (dt tk : Nat) (mc : Int32) (f : Nat → Option Nat) (a dt' n' : Nat) (f' : Nat → Option Nat) : Prop :=
  C' (0, 7) = some (.inr (4, [.ref dt', .int (nI (tk + 1)), .int mc])) ∧ C' (1, dt') = some (.inl (cO, n', .inr (.inr (.inr (.inr f'))))) ∧ tk + 1 ≤ n' ∧ 2 ≤ n' ∧ n' ≤ 1500 ∧ f' tk = some a ∧ (∀ i, i < tk → f' i = f i) ∧ (∀ i, tk < i → f' i = none) ∧ (dt' = dt ∨ C (1, dt') = none) ∧ fr_ag [(0, 7), (0, 27), (1, dt')] C' C ∧ ∃ q, b' = fr_ub b 27 q
/-- the list that holds tk: its own empty row, or a row of n0 places -/
def lsAt (C : fr_C) (cO : ClassId) (e0 dt tk n0 : Nat) (f : Nat → Option Nat) : Prop := (dt = e0 ∧ tk = 0) ∨ (C (1, dt) = some (.inl (cO, n0, .inr (.inr (.inr (.inr f))))) ∧ tk ≤ n0 ∧ 2 ≤ n0 ∧ n0 ≤ 1500 ∧ (∀ i y, i < n0 → f i = some y → ∃ fs, C (1, y) = some (.inr (3, fs))) ∧ ∀ i, tk ≤ i → f i = none)
set_option maxHeartbeats 4000000 in
set_option maxRecDepth 100000 in
theorem c_A_add3 (l : Launch) {D : va_G} {z : Nat} {b : Nat → Nat} {C : fr_C} {H9 : Heap} (h9 : fr_W D hCl z b C H9) {cI cZ cJ cP cO : ClassId} {e0 mi : Nat} {mc : Int32} {dt tk n0 : Nat} {f : Nat → Option Nat} (h7 : C (0, 7) = some (.inr (4, [.ref dt, .int (nI tk), .int mc]))) (hd : C (1, dt) = some (.inl (cO, n0, .inr (.inr (.inr (.inr f)))))) (h2 : 2 ≤ n0) (hn : n0 ≤ 1500) (hel : ∀ i y, i < n0 → f i = some y → ∃ fs, C (1, y) = some (.inr (3, fs))) (hno : ∀ i, tk ≤ i → f i = none) {tfs : List Value} (h24 : C (0, 24) = some (.inr (3, tfs))) (hlt : tk < n0) : Met l y_A_add3 w_A_add3 ({ frames := 5, cells := 1, slots := 2250, locals := 127 }) (va_Pc [.ref (b 7), .ref (b 24), .ref dt, .int (nI tk)] (fr_GX e0 mi D hCl (hTy cI cZ cJ cP cO) z b C)) (va_Qv (fun (u : (Nat → Nat) × fr_C × Nat × Nat × (Nat → Option Nat)) => addP C u.2.1 b u.1 cO dt tk mc f (b 24) u.2.2.1 u.2.2.2.1 u.2.2.2.2) (fun u t => fr_G D hCl (hTy cI cZ cJ cP cO) z ((fun u => u.1) u) ((fun u => u.2.1) u) t) (fr_A z)) 1 2250 (fr_A z) := by
  refine Met.ofW (cc := b_A_add3) (maxL := 4) (ret := none) (by decide) rfl ?_
  intro p e s m args below meth c s₁ B hml hv
  obtain ⟨rfl, ⟨hE, hK⟩, hX⟩ := hv
  have hx := B.exec
  have hb := B.bytes
  have hr := B.returns
  have hts := atoms_spec (ws := w_A_add3) B.pre
  have hT : ∀ w ∈ hw_tbl, w.before _ s = true := fun w h => hts w (List.mem_cons_of_mem _ h)
  have hown : s.vm.findClass "java/util/ArrayList" = some m.cls := findClass_of_methodNamed B.named
  have hlocks := B.notSynchronized
  have hS : va_S (fr_A z) s.heap s.heap [] := va_S.rf
  have hl := lv_entry ([.ref (b 7), .ref (b 24), .ref dt, .int (nI tk)]) (n := 4) (Nat.le_of_ble_eq_true rfl)
  rw [lg_entry_eq]
  generalize (lg_sl ([.ref (b 7), .ref (b 24), .ref dt, .int (nI tk)]) ++ List.replicate (4 - (lg_sl ([.ref (b 7), .ref (b 24), .ref dt, .int (nI tk)])).length) Slot.unset).toArray = ls at hl ⊢
  have hl : lv_has ls 4 [(0, .ref (b 7)), (1, .ref (b 24)), (2, .ref dt), (3, .int (nI tk))] := hl
  refine lv_iload_n hx hb d_A_add3_0 rfl (lv_at hl 3 rfl) ?_
  refine lv_aload_n hx hb d_A_add3_1 rfl (lv_at hl 2 rfl) ?_
  refine fr_alen hx hb hK hE (1, dt) 4 rfl hd rfl d_A_add3_2 ?_
  refine lv_icmp_ne (tgt := 11) hx hb d_A_add3_3 (by decide) (fun c_1 => ?_) (fun c_1 => ?_)
  · skip
    refine lv_aload_n hx hb d_A_add3_11 rfl (lv_at hl 2 rfl) ?_
    refine lv_iload_n hx hb d_A_add3_12 rfl (lv_at hl 3 rfl) ?_
    refine lv_aload_n hx hb d_A_add3_13 rfl (lv_at hl 1 rfl) ?_
    refine fr_aastM hx hb hK hE hS (1, dt) 4 rfl hd rfl (fr_any (ci := 3) hK hE (0, 24) rfl h24 rfl hX.2.2.2.2.1) tk rfl (hlt) (by omega) d_A_add3_14 (fun H locs hE hS => ?_)
    refine lv_aload_n hx hb d_A_add3_15 rfl (lv_at hl 0 rfl) ?_
    refine lv_iload_n hx hb d_A_add3_16 rfl (lv_at hl 3 rfl) ?_
    refine lv_iconst (v := 1) hx hb d_A_add3_17 (by decide) ?_
    refine lv_iadd hx hb d_A_add3_18 ?_
    refine lv_topi (fun y_2 ey_2 => ?_)
    obtain rfl : y_2 = nI (tk + 1) := ey_2.trans (nI_1 tk)
    refine fr_put (ci := 4) (v := .int (nI (tk + 1))) (ty := .int) (Cn := hR_4) (T := hF_4) (N := 3) hx hb hT hi_4 hy_4 ho_4 hn_4 hown hK hE hS (0, 7) rfl h7 rfl 1 (by decide) (hT _ kw_62) (fun _ h9 => h9) rfl (by decide +kernel) rfl rfl (Nat.le_of_ble_eq_true rfl) d_A_add3_19 (fun H locs hE hS => ?_)
    refine W.widen (k := 1) (n := 2250) (Nat.le_of_ble_eq_true rfl) (Nat.le_of_ble_eq_true rfl) ?_
    have hpost := hE.say (fun X => addP C X b b cO dt tk mc f (b 24) dt n0 (va_up f tk (some (b 24)))) ⟨rfl, fr_up_self _ _ _, by omega, h2, hn, va_up_self _ _ _, fun i hi => va_up_ne _ _ (by omega), fun i hi => (va_up_ne _ _ (by omega)).trans (hno i (by omega)), Or.inl rfl, (fr_ag.rf.up (r := (1, dt)) (List.Mem.tail _ (List.Mem.tail _ (List.Mem.head _)))).up (r := (0, 7)) (List.Mem.head _), b 27, (fr_ub_same b 27).symm⟩
    exact W.vret hx hb hr (fun t9 ht9 hW9 => ⟨⟨(b, _, dt, n0, va_up f tk (some (b 24))), rfl, hpost, ⟨by rw [ht9]; exact hE, va_K.moved hW9.alike hK⟩⟩, hS.F ht9⟩) hS.2.2 d_A_add3_22
  · skip
    exact absurd c_1 (fun y => absurd ((nI_eq (a := tk) (b := n0) (by omega) (by omega)).mp y) (by omega))
set_option maxHeartbeats 4000000 in
set_option maxRecDepth 100000 in
theorem c_A_add3_g (l : Launch) {D : va_G} {z : Nat} {b : Nat → Nat} {C : fr_C} {H9 : Heap} (h9 : fr_W D hCl z b C H9) {cI cZ cJ cP cO : ClassId} {e0 mi : Nat} {mc : Int32} {dt tk n0 : Nat} {f : Nat → Option Nat} (h7 : C (0, 7) = some (.inr (4, [.ref dt, .int (nI tk), .int mc]))) (hd : C (1, dt) = some (.inl (cO, n0, .inr (.inr (.inr (.inr f)))))) (h2 : 2 ≤ n0) (hn : n0 ≤ 1500) (hel : ∀ i y, i < n0 → f i = some y → ∃ fs, C (1, y) = some (.inr (3, fs))) (hno : ∀ i, tk ≤ i → f i = none) {tfs : List Value} (h24 : C (0, 24) = some (.inr (3, tfs))) (htk : tk = n0) (hsm : n0 < 1000) : Met l y_A_add3 w_A_add3 ({ frames := 5, cells := 1, slots := 2250, locals := 127 }) (va_Pc [.ref (b 7), .ref (b 24), .ref dt, .int (nI tk)] (fr_GX e0 mi D hCl (hTy cI cZ cJ cP cO) z b C)) (va_Qv (fun (u : (Nat → Nat) × fr_C × Nat × Nat × (Nat → Option Nat)) => addP C u.2.1 b u.1 cO dt tk mc f (b 24) u.2.2.1 u.2.2.2.1 u.2.2.2.2) (fun u t => fr_G D hCl (hTy cI cZ cJ cP cO) z ((fun u => u.1) u) ((fun u => u.2.1) u) t) (fr_A z)) 1 2250 (fr_A z) := by
  refine Met.ofW (cc := b_A_add3) (maxL := 4) (ret := none) (by decide) rfl ?_
  intro p e s m args below meth c s₁ B hml hv
  obtain ⟨rfl, ⟨hE, hK⟩, hX⟩ := hv
  have hx := B.exec
  have hb := B.bytes
  have hr := B.returns
  have hts := atoms_spec (ws := w_A_add3) B.pre
  have hT : ∀ w ∈ hw_tbl, w.before _ s = true := fun w h => hts w (List.mem_cons_of_mem _ h)
  have hown : s.vm.findClass "java/util/ArrayList" = some m.cls := findClass_of_methodNamed B.named
  have hlocks := B.notSynchronized
  have hS : va_S (fr_A z) s.heap s.heap [] := va_S.rf
  have hl := lv_entry ([.ref (b 7), .ref (b 24), .ref dt, .int (nI tk)]) (n := 4) (Nat.le_of_ble_eq_true rfl)
  rw [lg_entry_eq]
  generalize (lg_sl ([.ref (b 7), .ref (b 24), .ref dt, .int (nI tk)]) ++ List.replicate (4 - (lg_sl ([.ref (b 7), .ref (b 24), .ref dt, .int (nI tk)])).length) Slot.unset).toArray = ls at hl ⊢
  have hl : lv_has ls 4 [(0, .ref (b 7)), (1, .ref (b 24)), (2, .ref dt), (3, .int (nI tk))] := hl
  refine lv_iload_n hx hb d_A_add3_0 rfl (lv_at hl 3 rfl) ?_
  refine lv_aload_n hx hb d_A_add3_1 rfl (lv_at hl 2 rfl) ?_
  refine fr_alen hx hb hK hE (1, dt) 4 rfl hd rfl d_A_add3_2 ?_
  refine lv_icmp_ne (tgt := 11) hx hb d_A_add3_3 (by decide) (fun c_1 => ?_) (fun c_1 => ?_)
  · skip
    exact absurd c_1 (fun q9 => q9 (congrArg nI htk))
  · skip
    refine lv_aload_n hx hb d_A_add3_6 rfl (lv_at hl 0 rfl) ?_
    refine fr_callq (va_runV (As := []) (rest := []) ⟨hx, hb, hml, hown, hts⟩ (c_A_grow l hE hd h2 hn hel h7 htk) (cwV 0 hts (hw_goodV kw_303 kw_305 kw_8 kw_24 kw_306) rfl rfl rfl (by decide +kernel) ⟨Nat.le_of_ble_eq_true rfl, Nat.le_of_ble_eq_true rfl⟩) ⟨fr_blindX, fr_recv hK hE (0, 7) rfl h7 (ci := 4) rfl, fr_preX hE hK hX hS⟩ rfl rfl hl.1 rfl (lv_room (Nat.le_of_ble_eq_true rfl)) d_A_add3_7 ⟨Nat.le_of_ble_eq_true rfl, Nat.le_of_ble_eq_true rfl⟩) hS (fun r_2 u_2 H locs w_2 hE hS => ?_)
    obtain rfl := w_2
    refine lv_astore_n (lv' := [(2, .ref u_2), (0, .ref (b 7)), (1, .ref (b 24)), (3, .int (nI tk))]) hx hb d_A_add3_10 rfl hl (by decide) rfl (fun ls hl => ?_)
    refine lv_aload_n hx hb d_A_add3_11 rfl (lv_at hl 0 rfl) ?_
    refine lv_iload_n hx hb d_A_add3_12 rfl (lv_at hl 3 rfl) ?_
    refine lv_aload_n hx hb d_A_add3_13 rfl (lv_at hl 2 rfl) ?_
    refine fr_aastM hx hb hK hE hS (0, 27) 4 rfl rfl rfl (fr_any (ci := 3) hK hE (0, 24) rfl h24 rfl hX.2.2.2.2.1) tk rfl (by omega) (by omega) d_A_add3_14 (fun H locs hE hS => ?_)
    refine lv_aload_n hx hb d_A_add3_15 rfl (lv_at hl 1 rfl) ?_
    refine lv_iload_n hx hb d_A_add3_16 rfl (lv_at hl 3 rfl) ?_
    refine lv_iconst (v := 1) hx hb d_A_add3_17 (by decide) ?_
    refine lv_iadd hx hb d_A_add3_18 ?_
    refine lv_topi (fun y_3 ey_3 => ?_)
    obtain rfl : y_3 = nI (tk + 1) := ey_3.trans (nI_1 tk)
    refine fr_put (ci := 4) (v := .int (nI (tk + 1))) (ty := .int) (Cn := hR_4) (T := hF_4) (N := 3) hx hb hT hi_4 hy_4 ho_4 hn_4 hown hK hE hS (0, 7) rfl rfl rfl 1 (by decide) (hT _ kw_62) (fun _ h9 => h9) rfl (by decide +kernel) rfl rfl (Nat.le_of_ble_eq_true rfl) d_A_add3_19 (fun H locs hE hS => ?_)
    refine W.widen (k := 1) (n := 2250) (Nat.le_of_ble_eq_true rfl) (Nat.le_of_ble_eq_true rfl) ?_
    have hfr := hE.retire 27 rfl
    have nq : C (1, u_2) = none := by cases hc : C (1, u_2) with | none => rfl | some e9 => exact absurd rfl (hE.ne_pool (a := u_2) (i := 27) hc rfl)
    replace hE := hfr
    have hpost := hE.say (fun X => addP C X b (fr_ub b 27 u_2) cO dt tk mc f (b 24) u_2 (n0 + n0 / 2) (va_up (va_cpy f (fun _ => none) 0 0 n0) tk (some (b 24)))) ⟨rfl, fr_up_self _ _ _, by omega, by omega, by omega, va_up_self _ _ _, fun i hi => (va_up_ne _ _ (by omega)).trans (by rw [pk_cpy_in (Nat.zero_le i) (by omega)]; exact congrArg f (by omega)), fun i hi => (va_up_ne _ _ (by omega)).trans (pk_cpy_out (by omega)), Or.inr nq, ((((((fr_ag.rf.up (r := (0, 27)) (by simp)).up (r := (0, 7)) (by simp)).up (r := (0, 27)) (by simp)).up (r := (0, 7)) (by simp)).rm (r := (0, 27)) (by simp)).up (r := (1, u_2)) (by simp)), u_2, rfl⟩
    exact W.vret hx hb hr (fun t9 ht9 hW9 => ⟨⟨(fr_ub b 27 u_2, _, u_2, n0 + n0 / 2, va_up (va_cpy f (fun _ => none) 0 0 n0) tk (some (b 24))), rfl, hpost, ⟨by rw [ht9]; exact hE, va_K.moved hW9.alike hK⟩⟩, hS.F ht9⟩) hS.2.2 d_A_add3_22
set_option maxHeartbeats 4000000 in
set_option maxRecDepth 100000 in
theorem c_A_add3_0 (l : Launch) {D : va_G} {z : Nat} {b : Nat → Nat} {C : fr_C} {H9 : Heap} (h9 : fr_W D hCl z b C H9) {cI cZ cJ cP cO : ClassId} {e0 mi : Nat} {mc : Int32} {f : Nat → Option Nat} (h7 : C (0, 7) = some (.inr (4, [.ref e0, .int (nI 0), .int mc]))) {tfs : List Value} (h24 : C (0, 24) = some (.inr (3, tfs))) : Met l y_A_add3 w_A_add3 ({ frames := 5, cells := 1, slots := 2250, locals := 127 }) (va_Pc [.ref (b 7), .ref (b 24), .ref e0, .int (nI 0)] (fr_GX e0 mi D hCl (hTy cI cZ cJ cP cO) z b C)) (va_Qv (fun (u : (Nat → Nat) × fr_C × Nat × Nat × (Nat → Option Nat)) => addP C u.2.1 b u.1 cO e0 0 mc f (b 24) u.2.2.1 u.2.2.2.1 u.2.2.2.2) (fun u t => fr_G D hCl (hTy cI cZ cJ cP cO) z ((fun u => u.1) u) ((fun u => u.2.1) u) t) (fr_A z)) 1 2250 (fr_A z) := by
  refine Met.ofW (cc := b_A_add3) (maxL := 4) (ret := none) (by decide) rfl ?_
  intro p e s m args below meth c s₁ B hml hv
  obtain ⟨rfl, ⟨hE, hK⟩, hX⟩ := hv
  have hx := B.exec
  have hb := B.bytes
  have hr := B.returns
  have hts := atoms_spec (ws := w_A_add3) B.pre
  have hT : ∀ w ∈ hw_tbl, w.before _ s = true := fun w h => hts w (List.mem_cons_of_mem _ h)
  have hown : s.vm.findClass "java/util/ArrayList" = some m.cls := findClass_of_methodNamed B.named
  have hlocks := B.notSynchronized
  have hS : va_S (fr_A z) s.heap s.heap [] := va_S.rf
  have hl := lv_entry ([.ref (b 7), .ref (b 24), .ref e0, .int (nI 0)]) (n := 4) (Nat.le_of_ble_eq_true rfl)
  rw [lg_entry_eq]
  generalize (lg_sl ([.ref (b 7), .ref (b 24), .ref e0, .int (nI 0)]) ++ List.replicate (4 - (lg_sl ([.ref (b 7), .ref (b 24), .ref e0, .int (nI 0)])).length) Slot.unset).toArray = ls at hl ⊢
  have hl : lv_has ls 4 [(0, .ref (b 7)), (1, .ref (b 24)), (2, .ref e0), (3, .int (nI 0))] := hl
  refine lv_iload_n hx hb d_A_add3_0 rfl (lv_at hl 3 rfl) ?_
  refine lv_aload_n hx hb d_A_add3_1 rfl (lv_at hl 2 rfl) ?_
  refine va_tlen (v := 0) hx hb hX.2.1 hS rfl d_A_add3_2 ?_
  refine lv_icmp_ne (tgt := 11) hx hb d_A_add3_3 (by decide) (fun c_1 => ?_) (fun c_1 => ?_)
  · skip
    exact absurd c_1 (fun q9 => q9 rfl)
  · skip
    refine lv_aload_n hx hb d_A_add3_6 rfl (lv_at hl 0 rfl) ?_
    refine fr_callq (va_runV (As := []) (rest := []) ⟨hx, hb, hml, hown, hts⟩ (c_A_grow_0 l hE h7) (cwV 0 hts (hw_goodV kw_303 kw_305 kw_8 kw_24 kw_306) rfl rfl rfl (by decide +kernel) ⟨Nat.le_of_ble_eq_true rfl, Nat.le_of_ble_eq_true rfl⟩) ⟨fr_blindX, fr_recv hK hE (0, 7) rfl h7 (ci := 4) rfl, fr_preX hE hK hX hS⟩ rfl rfl hl.1 rfl (lv_room (Nat.le_of_ble_eq_true rfl)) d_A_add3_7 ⟨Nat.le_of_ble_eq_true rfl, Nat.le_of_ble_eq_true rfl⟩) hS (fun r_2 u_2 H locs w_2 hE hS => ?_)
    obtain rfl := w_2
    refine lv_astore_n (lv' := [(2, .ref u_2), (0, .ref (b 7)), (1, .ref (b 24)), (3, .int (nI 0))]) hx hb d_A_add3_10 rfl hl (by decide) rfl (fun ls hl => ?_)
    refine lv_aload_n hx hb d_A_add3_11 rfl (lv_at hl 0 rfl) ?_
    refine lv_iload_n hx hb d_A_add3_12 rfl (lv_at hl 3 rfl) ?_
    refine lv_aload_n hx hb d_A_add3_13 rfl (lv_at hl 2 rfl) ?_
    refine fr_aastM hx hb hK hE hS (0, 27) 4 rfl rfl rfl (fr_any (ci := 3) hK hE (0, 24) rfl h24 rfl hX.2.2.2.2.1) 0 rfl (by decide) (by decide) d_A_add3_14 (fun H locs hE hS => ?_)
    refine lv_aload_n hx hb d_A_add3_15 rfl (lv_at hl 1 rfl) ?_
    refine lv_iload_n hx hb d_A_add3_16 rfl (lv_at hl 3 rfl) ?_
    refine lv_iconst (v := 1) hx hb d_A_add3_17 (by decide) ?_
    refine lv_iadd hx hb d_A_add3_18 ?_
    refine lv_topi (fun y_3 ey_3 => ?_)
    obtain rfl : y_3 = nI 1 := ey_3.trans (nI_1 0)
    refine fr_put (ci := 4) (v := .int (nI 1)) (ty := .int) (Cn := hR_4) (T := hF_4) (N := 3) hx hb hT hi_4 hy_4 ho_4 hn_4 hown hK hE hS (0, 7) rfl rfl rfl 1 (by decide) (hT _ kw_62) (fun _ h9 => h9) rfl (by decide +kernel) rfl rfl (Nat.le_of_ble_eq_true rfl) d_A_add3_19 (fun H locs hE hS => ?_)
    refine W.widen (k := 1) (n := 2250) (Nat.le_of_ble_eq_true rfl) (Nat.le_of_ble_eq_true rfl) ?_
    have hfr := hE.retire 27 rfl
    have nq : C (1, u_2) = none := by cases hc : C (1, u_2) with | none => rfl | some e9 => exact absurd rfl (hE.ne_pool (a := u_2) (i := 27) hc rfl)
    replace hE := hfr
    have hpost := hE.say (fun X => addP C X b (fr_ub b 27 u_2) cO e0 0 mc f (b 24) u_2 (10) (va_up (fun _ => none) 0 (some (b 24)))) ⟨rfl, fr_up_self _ _ _, by omega, by decide, by decide, va_up_self _ _ _, fun i hi => (va_up_ne _ _ (by omega)).trans (absurd hi (Nat.not_lt_zero i)), fun i hi => (va_up_ne _ _ (by omega)).trans (rfl), Or.inr nq, ((((((fr_ag.rf.up (r := (0, 27)) (by simp)).up (r := (0, 7)) (by simp)).up (r := (0, 27)) (by simp)).up (r := (0, 7)) (by simp)).rm (r := (0, 27)) (by simp)).up (r := (1, u_2)) (by simp)), u_2, rfl⟩
    exact W.vret hx hb hr (fun t9 ht9 hW9 => ⟨⟨(fr_ub b 27 u_2, _, u_2, 10, va_up (fun _ => none) 0 (some (b 24))), rfl, hpost, ⟨by rw [ht9]; exact hE, va_K.moved hW9.alike hK⟩⟩, hS.F ht9⟩) hS.2.2 d_A_add3_22
set_option maxHeartbeats 4000000 in
set_option maxRecDepth 100000 in
theorem c_A_add (l : Launch) {D : va_G} {z : Nat} {b : Nat → Nat} {C : fr_C} {H9 : Heap} (h9 : fr_W D hCl z b C H9) {cI cZ cJ cP cO : ClassId} {e0 mi : Nat} {mc : Int32} {dt tk n0 : Nat} {f : Nat → Option Nat} (h7 : C (0, 7) = some (.inr (4, [.ref dt, .int (nI tk), .int mc]))) (hls : lsAt C cO e0 dt tk n0 f) (hsm : tk < 1000) {tfs : List Value} (h24 : C (0, 24) = some (.inr (3, tfs))) : Met l y_A_add w_A_add ({ frames := 6, cells := 1, slots := 2250, locals := 150 }) (va_Pc [.ref (b 7), .ref (b 24)] (fr_GX e0 mi D hCl (hTy cI cZ cJ cP cO) z b C)) (va_Qi (fun (r : Int32) (u : (Nat → Nat) × fr_C × Nat × Nat × (Nat → Option Nat)) => r = 1 ∧ addP C u.2.1 b u.1 cO dt tk (mc + 1) f (b 24) u.2.2.1 u.2.2.2.1 u.2.2.2.2) (fun u t => fr_G D hCl (hTy cI cZ cJ cP cO) z ((fun u => u.1) u) ((fun u => u.2.1) u) t) (fr_A z)) 1 2250 (fr_A z) := by
  refine Met.ofW (cc := b_A_add) (maxL := 2) (ret := (some .boolean)) (by decide) rfl ?_
  intro p e s m args below meth c s₁ B hml hv
  obtain ⟨rfl, ⟨hE, hK⟩, hX⟩ := hv
  have hx := B.exec
  have hb := B.bytes
  have hr := B.returns
  have hts := atoms_spec (ws := w_A_add) B.pre
  have hT : ∀ w ∈ hw_tbl, w.before _ s = true := fun w h => hts w (List.mem_cons_of_mem _ h)
  have hown : s.vm.findClass "java/util/ArrayList" = some m.cls := findClass_of_methodNamed B.named
  have hlocks := B.notSynchronized
  have hS : va_S (fr_A z) s.heap s.heap [] := va_S.rf
  have hl := lv_entry ([.ref (b 7), .ref (b 24)]) (n := 2) (Nat.le_of_ble_eq_true rfl)
  rw [lg_entry_eq]
  generalize (lg_sl ([.ref (b 7), .ref (b 24)]) ++ List.replicate (2 - (lg_sl ([.ref (b 7), .ref (b 24)])).length) Slot.unset).toArray = ls at hl ⊢
  have hl : lv_has ls 2 [(0, .ref (b 7)), (1, .ref (b 24))] := hl
  refine lv_aload_n hx hb d_A_add_0 rfl (lv_at hl 0 rfl) ?_
  refine lv_dup hx hb d_A_add_1 rfl ?_
  refine fr_get (ci := 4) (Cn := hR_4) (T := hF_4) (N := 3) hx hb hT hi_4 hown hK hE (0, 7) rfl h7 rfl 2 (by decide) (hT _ kw_64) (fun x9 h9 => u_same (hT _ kw_65) x9 h9) rfl d_A_add_2 ?_
  refine lv_iconst (v := 1) hx hb d_A_add_5 (by decide) ?_
  refine lv_iadd hx hb d_A_add_6 ?_
  refine fr_put (ci := 4) (v := .int (mc + 1)) (ty := .int) (Cn := hR_4) (T := hF_4) (N := 3) hx hb hT hi_4 hy_4 ho_4 hn_4 hown hK hE hS (0, 7) rfl h7 rfl 2 (by decide) (hT _ kw_64) (fun x9 h9 => u_same (hT _ kw_65) x9 h9) rfl (by decide +kernel) rfl rfl (Nat.le_of_ble_eq_true rfl) d_A_add_7 (fun H locs hE hS => ?_)
  refine lv_aload_n hx hb d_A_add_10 rfl (lv_at hl 0 rfl) ?_
  refine lv_aload_n hx hb d_A_add_11 rfl (lv_at hl 1 rfl) ?_
  refine lv_aload_n hx hb d_A_add_12 rfl (lv_at hl 0 rfl) ?_
  refine fr_get (ci := 4) (Cn := hR_4) (T := hF_4) (N := 3) hx hb hT hi_4 hown hK hE (0, 7) rfl rfl rfl 0 (by decide) (hT _ kw_61) (fun _ h9 => h9) rfl d_A_add_13 ?_
  refine lv_aload_n hx hb d_A_add_16 rfl (lv_at hl 0 rfl) ?_
  refine fr_get (ci := 4) (Cn := hR_4) (T := hF_4) (N := 3) hx hb hT hi_4 hown hK hE (0, 7) rfl rfl rfl 1 (by decide) (hT _ kw_62) (fun _ h9 => h9) rfl d_A_add_17 ?_
  rcases hls with ⟨rfl, rfl⟩ | ⟨hd, hk0, h2, hn, hel, hno⟩
  · skip
    refine fr_callv (va_runV (As := [.ref (b 24), .ref dt, .int (nI 0)]) (rest := []) ⟨hx, hb, hml, hown, hts⟩ (c_A_add3_0 l hE (f := f) rfl h24) (cwV 3 hts (hw_goodV kw_299 kw_301 kw_7 kw_24 kw_302) rfl rfl rfl (by decide +kernel) ⟨Nat.le_of_ble_eq_true rfl, Nat.le_of_ble_eq_true rfl⟩) ⟨fr_blindX, fr_recv hK hE (0, 7) rfl rfl (ci := 4) rfl, fr_preX hE hK hX hS⟩ rfl rfl hl.1 rfl (lv_room (Nat.le_of_ble_eq_true rfl)) d_A_add_20 ⟨Nat.le_of_ble_eq_true rfl, Nat.le_of_ble_eq_true rfl⟩) hS (fun u_1 H locs w_1 hE hS => ?_)
    refine lv_iconst (v := 1) hx hb d_A_add_23 (by decide) ?_
    refine W.widen (k := 1) (n := 2250) (Nat.le_of_ble_eq_true rfl) (Nat.le_of_ble_eq_true rfl) ?_
    exact W.zret (v := 1) (ty := .boolean) hx hb hr rfl (fun t9 ht9 hW9 => ⟨⟨1, u_1, rfl, (by obtain ⟨y1, y2, y3, y4, y5, y6, y7, y8, y9, yA, yB⟩ := w_1; exact ⟨rfl, y1, y2, y3, y4, y5, y6, y7, y8, y9, (yA.tr (fr_ag.rf.up (r := (0, 7)) (by simp))), yB⟩), ⟨by rw [ht9]; exact hE, va_K.moved hW9.alike hK⟩⟩, hS.F ht9⟩) hS.2.2 d_A_add_24
  rcases Nat.lt_or_ge tk n0 with hlt | hge
  · skip
    refine fr_callv (va_runV (As := [.ref (b 24), .ref dt, .int (nI tk)]) (rest := []) ⟨hx, hb, hml, hown, hts⟩ (c_A_add3 l hE rfl hd h2 hn hel hno h24 hlt) (cwV 3 hts (hw_goodV kw_299 kw_301 kw_7 kw_24 kw_302) rfl rfl rfl (by decide +kernel) ⟨Nat.le_of_ble_eq_true rfl, Nat.le_of_ble_eq_true rfl⟩) ⟨fr_blindX, fr_recv hK hE (0, 7) rfl rfl (ci := 4) rfl, fr_preX hE hK hX hS⟩ rfl rfl hl.1 rfl (lv_room (Nat.le_of_ble_eq_true rfl)) d_A_add_20 ⟨Nat.le_of_ble_eq_true rfl, Nat.le_of_ble_eq_true rfl⟩) hS (fun u_2 H locs w_2 hE hS => ?_)
    refine lv_iconst (v := 1) hx hb d_A_add_23 (by decide) ?_
    refine W.widen (k := 1) (n := 2250) (Nat.le_of_ble_eq_true rfl) (Nat.le_of_ble_eq_true rfl) ?_
    exact W.zret (v := 1) (ty := .boolean) hx hb hr rfl (fun t9 ht9 hW9 => ⟨⟨1, u_2, rfl, (by obtain ⟨y1, y2, y3, y4, y5, y6, y7, y8, y9, yA, yB⟩ := w_2; exact ⟨rfl, y1, y2, y3, y4, y5, y6, y7, y8, y9, (yA.tr (fr_ag.rf.up (r := (0, 7)) (by simp))), yB⟩), ⟨by rw [ht9]; exact hE, va_K.moved hW9.alike hK⟩⟩, hS.F ht9⟩) hS.2.2 d_A_add_24
  · skip
    refine fr_callv (va_runV (As := [.ref (b 24), .ref dt, .int (nI tk)]) (rest := []) ⟨hx, hb, hml, hown, hts⟩ (c_A_add3_g l hE rfl hd h2 hn hel hno h24 (by omega) (by omega)) (cwV 3 hts (hw_goodV kw_299 kw_301 kw_7 kw_24 kw_302) rfl rfl rfl (by decide +kernel) ⟨Nat.le_of_ble_eq_true rfl, Nat.le_of_ble_eq_true rfl⟩) ⟨fr_blindX, fr_recv hK hE (0, 7) rfl rfl (ci := 4) rfl, fr_preX hE hK hX hS⟩ rfl rfl hl.1 rfl (lv_room (Nat.le_of_ble_eq_true rfl)) d_A_add_20 ⟨Nat.le_of_ble_eq_true rfl, Nat.le_of_ble_eq_true rfl⟩) hS (fun u_3 H locs w_3 hE hS => ?_)
    refine lv_iconst (v := 1) hx hb d_A_add_23 (by decide) ?_
    refine W.widen (k := 1) (n := 2250) (Nat.le_of_ble_eq_true rfl) (Nat.le_of_ble_eq_true rfl) ?_
    exact W.zret (v := 1) (ty := .boolean) hx hb hr rfl (fun t9 ht9 hW9 => ⟨⟨1, u_3, rfl, (by obtain ⟨y1, y2, y3, y4, y5, y6, y7, y8, y9, yA, yB⟩ := w_3; exact ⟨rfl, y1, y2, y3, y4, y5, y6, y7, y8, y9, (yA.tr (fr_ag.rf.up (r := (0, 7)) (by simp))), yB⟩), ⟨by rw [ht9]; exact hE, va_K.moved hW9.alike hK⟩⟩, hS.F ht9⟩) hS.2.2 d_A_add_24
end
section
theorem fr_W.ret1 {D : va_G} {cl : List vw_C} {z : Nat} {b : Nat → Nat} {C : fr_C} {H : Heap} (i : Nat) {e : va_E} (h : fr_W D cl z b C H) (he : C (0, i) = some e) : ∃ C' : fr_C, fr_W D cl z b C' H ∧ C' (1, b i) = some e ∧ (∀ a e', C (1, a) = some e' → C' (1, a) = some e') ∧ (∀ j, j ≠ i → C' (0, j) = C (0, j)) ∧ C (1, b i) = none := by
  refine ⟨_, h.retire i he, fr_up_self _ _ _, fun a e' ha => ?_, fun j hj => ?_, ?_⟩
  · rw [fr_up_ne (fun q => h.ne_pool ha he (congrArg Prod.snd q)), fr_rm_ne (fun q => absurd (show (1 : Nat) = 0 from congrArg Prod.fst q) (by decide))]
    exact ha
  · rw [fr_up_ne (fun q => absurd (show (0 : Nat) = 1 from congrArg Prod.fst q) (by decide)), fr_rm_ne (fun q => hj (congrArg Prod.snd q))]
  · cases hc : C (1, b i) with
    | none => rfl
    | some e9 => exact absurd rfl (h.ne_pool hc he)
/-- what makePage does: a page at pa, of m places from F on, K of them kept; tm: there is more behind it, and a token leads there -/
def xPage (C C' : fr_C) (b b' : Nat → Nat) (cI cZ cO : ClassId) (pg gr lf n an lc po : Nat) (fo : Int32) (lg F m : Nat) (t : Int32) (K : List Nat) (tm : Prop) (dy dl : Nat → Int32) (mc : Int32) (dt tk n0 : Nat) (f : Nat → Option Nat) (pa : Nat) : Prop :=
  ∃ (pn pd pz : Nat) (nt : Int32) (fn fd fz : Nat → Int32), C' (1, pa) = some (.inr (2, [.int fo, .ref pn, .ref pd, .ref pz, .int (nI K.length), .int nt])) ∧ C' (1, pn) = some (.inl (cI, m, .inl fn)) ∧ C' (1, pd) = some (.inl (cI, m, .inl fd)) ∧ C' (1, pz) = some (.inl (cZ, m, .inl fz)) ∧ rowsOf K 0 dy dl (fun _ => 0) (fun _ => 0) (fun _ => 0) fn fd fz ∧ K.length ≤ m ∧
  C' (0, 0) = some (.inr (0, fX b pg gr lf n an lc (po + (m - K.length)))) ∧ (∀ a e, C (1, a) = some e → a ≠ dt → C' (1, a) = some e) ∧ (∀ i, i ≠ 0 → i ≠ 7 → i < 20 ∨ 28 ≤ i → C' (0, i) = C (0, i)) ∧ (∀ i, i < 20 ∨ 28 ≤ i → b' i = b i) ∧ C (1, pa) = none ∧
  ((tm ∧ nt = nI tk ∧ ∃ (ta dt' n' : Nat) (f' : Nat → Option Nat), C' (1, ta) = some (.inr (3, [.ref lg, .int (nI (F + m)), .int t, .null])) ∧ C' (0, 7) = some (.inr (4, [.ref dt', .int (nI (tk + 1)), .int (mc + 1)])) ∧ C' (1, dt') = some (.inl (cO, n', .inr (.inr (.inr (.inr f'))))) ∧ tk + 1 ≤ n' ∧ 2 ≤ n' ∧ n' ≤ 1500 ∧ f' tk = some ta ∧ (∀ i, i < tk → f' i = f i) ∧ (∀ i, tk < i → f' i = none) ∧ (dt' = dt ∨ C (1, dt') = none) ∧ C (1, ta) = none) ∨
   (¬ tm ∧ nt = -1 ∧ C' (0, 7) = some (.inr (4, [.ref dt, .int (nI tk), .int mc])) ∧ ∀ e, C (1, dt) = some e → C' (1, dt) = some e))
set_option maxHeartbeats 4000000 in
set_option maxRecDepth 100000 in
theorem c_X_makePage (l : Launch) {D : va_G} {z : Nat} {b : Nat → Nat} {C : fr_C} {H9 : Heap} (h9 : fr_W D hCl z b C H9) {cI cZ cJ cP cO : ClassId} {e0 mi : Nat} {pg gr lf n an lc po : Nat} {dy : Nat → Int32} {dl : Nat → Int32} {ac : Nat → Int32} (h0 : C (0, 0) = some (.inr (0, fX b pg gr lf n an lc po))) (h3 : C (0, 3) = some (.inl (cI, 150, .inl dy))) (h4 : C (0, 4) = some (.inl (cZ, 150, .inl dl))) (h5 : C (0, 5) = some (.inl (cI, 150, .inl ac))) {hv fo ab mc : Int32} {lg nm dt tk n0 mL : Nat} {fnm : Nat → Int32} {f : Nat → Option Nat} (hlg : C (1, lg) = some (.inr (1, [.int hv, .int fo, .int ab, .ref nm]))) (hnm : C (1, nm) = some (.inl (cI, mL, .inl fnm))) (h7 : C (0, 7) = some (.inr (4, [.ref dt, .int (nI tk), .int mc]))) (hls : lsAt C cO e0 dt tk n0 f) (F mq : Nat) (t : Int32) (g : Nat → Nat) (htk : tk < 1000) (hpg : pg ≤ 50) (hmL2 : mL ≤ 150) (hF : F ≤ mL) (hm : F + mq = if F + pg < mL then F + pg else mL) (hdl : ∀ j, vp_nar .boolean (dl j) = dl j) (hgg : ∀ k, k < mL → fnm k = nI (g k) ∧ g k < 150) : Met l y_X_makePage w_X_makePage ({ frames := 7, cells := 6, slots := 2410, locals := 171 }) (va_Pc [.ref (b 0), .ref lg, .int (nI F), .int t] (fr_GX e0 mi D hCl (hTy cI cZ cJ cP cO) z b C)) (va_Qq (fun (r : Option Nat) (u : (Nat → Nat) × fr_C) => ∃ pa, r = some pa ∧ xPage C u.2 b u.1 cI cZ cO pg gr lf n an lc po fo lg F mq t (kp (keepB ac ab) g F mq) (F + mq < mL) dy dl mc dt tk n0 f pa) (fun u t => fr_G D hCl (hTy cI cZ cJ cP cO) z ((fun u => u.1) u) ((fun u => u.2) u) t) (fr_A z)) 6 2410 (fr_A z) := by
  refine Met.ofW (cc := b_X_makePage) (maxL := 8) (ret := (some (.object "HarvestSteps$Page"))) (by decide) rfl ?_
  intro p e s m args below meth c s₁ B hml hv
  obtain ⟨rfl, ⟨hE, hK⟩, hX⟩ := hv
  have hx := B.exec
  have hb := B.bytes
  have hr := B.returns
  have hts := atoms_spec (ws := w_X_makePage) B.pre
  have hT : ∀ w ∈ hw_tbl, w.before _ s = true := fun w h => hts w (List.mem_cons_of_mem _ h)
  have hown : s.vm.findClass "HarvestSteps" = some m.cls := findClass_of_methodNamed B.named
  have hlocks := B.notSynchronized
  have hS : va_S (fr_A z) s.heap s.heap [] := va_S.rf
  have hl := lv_entry ([.ref (b 0), .ref lg, .int (nI F), .int t]) (n := 8) (Nat.le_of_ble_eq_true rfl)
  rw [lg_entry_eq]
  generalize (lg_sl ([.ref (b 0), .ref lg, .int (nI F), .int t]) ++ List.replicate (8 - (lg_sl ([.ref (b 0), .ref lg, .int (nI F), .int t])).length) Slot.unset).toArray = ls at hl ⊢
  have hl : lv_has ls 8 [(0, .ref (b 0)), (1, .ref lg), (2, .int (nI F)), (3, .int t)] := hl
  have hmb : F + mq ≤ mL ∧ mq ≤ pg := by split at hm <;> omega
  obtain ⟨hmb1, hmb2⟩ := hmb
  refine lv_iload_n hx hb d_X_makePage_0 rfl (lv_at hl 2 rfl) ?_
  refine lv_aload_n hx hb d_X_makePage_1 rfl (lv_at hl 0 rfl) ?_
  refine fr_get (ci := 0) (Cn := hR_0) (T := hF_0) (N := 16) hx hb hT hi_0 hown hK hE (0, 0) rfl h0 rfl 0 (by decide) (hT _ kw_87) (fun _ h9 => h9) rfl d_X_makePage_2 ?_
  refine lv_iadd hx hb d_X_makePage_5 ?_
  refine lv_topi (fun y_1 ey_1 => ?_)
  obtain rfl : y_1 = nI (F + pg) := ey_1.trans (nI_add F pg)
  refine lv_aload_n hx hb d_X_makePage_6 rfl (lv_at hl 1 rfl) ?_
  refine fr_get (ci := 1) (Cn := hR_1) (T := hF_1) (N := 4) hx hb hT hi_1 hown hK hE (1, lg) rfl hlg rfl 3 (by decide) (hT _ kw_220) (fun _ h9 => h9) rfl d_X_makePage_7 ?_
  refine fr_alen hx hb hK hE (1, nm) 0 rfl hnm rfl d_X_makePage_10 ?_
  refine va_mmin hx hb (hml.trans hl.1.symm) hown (hT _ kw_80) (hT _ kw_81) (hT _ kw_25) (hT _ kw_82) (Nat.le_of_ble_eq_true rfl) (Nat.le_of_ble_eq_true rfl) (Nat.le_of_ble_eq_true rfl) (Nat.le_of_ble_eq_true rfl) d_X_makePage_11 ?_
  refine lv_topi (fun y_2 ey_2 => ?_)
  obtain rfl : y_2 = nI (F + mq) := ey_2.trans (by split at hm; rw [hm, if_neg (nI_nlt (by omega) (by omega))]; rename_i hc9; rw [hm]; by_cases y : mL < F + pg; rw [if_pos (nI_lt y (by omega))]; rw [if_neg (nI_nlt (by omega) (by omega)), show F + pg = mL by omega])
  refine lv_istore (lv' := [(4, .int (nI (F + mq))), (0, .ref (b 0)), (1, .ref lg), (2, .int (nI F)), (3, .int t)]) hx hb d_X_makePage_14 hl (by decide) rfl (fun ls hl => ?_)
  refine fr_new (ci := 2) (fs := [.int 0, .null, .null, .null, .int 0, .int 0]) (Cn := hR_2) (T := hF_2) (N := 6) hx hb hT hi_2 hy_2 ho_2 hown (hT _ kw_75) (hT _ kw_234) (hT _ kw_30) hK hE hS 20 rfl (fun j hj => by rcases (show j = 0 ∨ j = 1 ∨ j = 2 ∨ j = 3 ∨ j = 4 ∨ j = 5 by omega) with rfl | rfl | rfl | rfl | rfl | rfl <;> rfl) (Nat.le_of_ble_eq_true rfl) (Nat.le_of_ble_eq_true rfl) d_X_makePage_16 (fun q20 H nq20 hE hS => ?_)
  refine W.widen (k := 1) (n := 6) (Nat.le_of_ble_eq_true rfl) (Nat.le_of_ble_eq_true rfl) ?_
  refine lv_dup hx hb d_X_makePage_19 rfl ?_
  refine lv_aload_n hx hb d_X_makePage_20 rfl (lv_at hl 2 rfl) ?_
  refine fr_get (ci := 1) (Cn := hR_1) (T := hF_1) (N := 4) hx hb hT hi_1 hown hK hE (1, lg) rfl hlg rfl 1 (by decide) (hT _ kw_216) (fun _ h9 => h9) rfl d_X_makePage_21 ?_
  refine lv_iconst (v := 0) hx hb d_X_makePage_24 (by decide) ?_
  refine lv_iload hx hb d_X_makePage_25 (lv_at hl 0 rfl) ?_
  refine lv_iload_n hx hb d_X_makePage_27 rfl (lv_at hl 3 rfl) ?_
  refine lv_isub hx hb d_X_makePage_28 ?_
  refine lv_topi (fun y_3 ey_3 => ?_)
  obtain rfl : y_3 = nI mq := ey_3.trans (by rw [pk_sub (by omega)]; exact congrArg nI (by omega))
  refine va_mmax hx hb (hml.trans hl.1.symm) hown (hT _ kw_83) (hT _ kw_84) (hT _ kw_25) (hT _ kw_85) (Nat.le_of_ble_eq_true rfl) (Nat.le_of_ble_eq_true rfl) (Nat.le_of_ble_eq_true rfl) (Nat.le_of_ble_eq_true rfl) d_X_makePage_29 ?_
  refine lv_topi (fun y_4 ey_4 => ?_)
  obtain rfl : y_4 = nI mq := ey_4.trans (by rcases Nat.eq_zero_or_pos mq with y | y; rw [y]; rfl; exact if_pos (nI_lt (a := 0) y (by omega)))
  refine fr_callv (va_runI (As := [.int fo, .int (nI mq)]) (rest := [.ref q20]) ⟨hx, hb, hml, hown, hts⟩ (c_P_init l hE rfl fo mq (by omega)) (cwI 2 hts (hw_good kw_237) rfl rfl rfl (hT _ kw_30) (hT _ kw_235) (hT _ kw_236) rfl (by decide +kernel) ⟨Nat.le_of_ble_eq_true rfl, Nat.le_of_ble_eq_true rfl⟩) ⟨fr_blind, fr_pre hE hK⟩ rfl rfl hl.1 rfl (lv_room (Nat.le_of_ble_eq_true rfl)) d_X_makePage_32 ⟨Nat.le_of_ble_eq_true rfl, Nat.le_of_ble_eq_true rfl⟩) hS (fun u_5 H locs w_5 hE hS => ?_)
  obtain ⟨v1, v2, v3, Cp⟩ := u_5
  obtain ⟨pg20, pg21, pg22, pg23, pag⟩ := w_5
  replace hE : fr_W D hCl z (fr_ub (fr_ub (fr_ub (fr_ub b 20 q20) 21 v1) 22 v2) 23 v3) Cp H := hE
  replace pg20 : Cp (0, 20) = some (.inr (2, [.int fo, .ref v1, .ref v2, .ref v3, .int 0, .int (-1)])) := pg20
  replace pg21 : Cp (0, 21) = some (.inl (cI, mq, .inl (fun _ => 0))) := pg21
  replace pg22 : Cp (0, 22) = some (.inl (cI, mq, .inl (fun _ => 0))) := pg22
  replace pg23 : Cp (0, 23) = some (.inl (cZ, mq, .inl (fun _ => 0))) := pg23
  replace pag : fr_ag [(0, 20), (0, 21), (0, 22), (0, 23)] Cp (fr_up C (0, 20) (.inr (2, [.int 0, .null, .null, .null, .int 0, .int 0]))) := pag
  refine lv_astore (lv' := [(5, .ref q20), (4, .int (nI (F + mq))), (0, .ref (b 0)), (1, .ref lg), (2, .int (nI F)), (3, .int t)]) hx hb d_X_makePage_35 hl (by decide) rfl (fun ls hl => ?_)
  refine lv_iload_n hx hb d_X_makePage_37 rfl (lv_at hl 4 rfl) ?_
  refine lv_istore (lv' := [(6, .int (nI F)), (5, .ref q20), (4, .int (nI (F + mq))), (0, .ref (b 0)), (1, .ref lg), (2, .int (nI F)), (3, .int t)]) hx hb d_X_makePage_38 hl (by decide) rfl (fun ls hl => ?_)
  refine W.widen (k := 4) (n := 156) (Nat.le_of_ble_eq_true rfl) (Nat.le_of_ble_eq_true rfl) ?_
  have ai0 : (mq + 1) + 0 = mq + 1 := by omega
  have ai1 : 0 ≤ mq := Nat.zero_le mq
  have ai2 : ([] : List Nat) = kp (keepB ac ab) g F 0 := rfl
  have ai3 : 0 = ([] : List Nat).length := rfl
  have ai4 : 0 + 0 = 0 := rfl
  have ai5 : Cp (0, 0) = some (.inr (0, fX b pg gr lf n an lc (po + 0))) := pag.at (by decide) h0
  have ai6 : Cp (0, 20) = some (.inr (2, [.int fo, .ref v1, .ref v2, .ref v3, .int (nI 0), .int (-1)])) := pg20
  have ai7 : Cp (0, 21) = some (.inl (cI, mq, .inl (fun _ : Nat => (0 : Int32)))) := pg21
  have ai8 : Cp (0, 22) = some (.inl (cI, mq, .inl (fun _ : Nat => (0 : Int32)))) := pg22
  have ai9 : Cp (0, 23) = some (.inl (cZ, mq, .inl (fun _ : Nat => (0 : Int32)))) := pg23
  have aiA : rowsOf ([] : List Nat) 0 dy dl (fun _ => 0) (fun _ => 0) (fun _ => 0) (fun _ : Nat => (0 : Int32)) (fun _ : Nat => (0 : Int32)) (fun _ : Nat => (0 : Int32)) := rowsOf_0
  have aiB : fr_ag [(0, 0), (0, 20), (0, 21), (0, 22), (0, 23)] Cp C := (pag.wider (by decide)).tr (fr_ag.rf.up (by decide))
  refine fr_loop (σ := Nat × Nat × Nat × List Nat × fr_C × (Nat → Int32) × (Nat → Int32) × (Nat → Int32)) (fun n9 x H locs ls => (n9 + x.1 = mq + 1) ∧ (x.1 ≤ mq) ∧ (x.2.2.2.1 = kp (keepB ac ab) g F x.1) ∧ (x.2.1 = x.2.2.2.1.length) ∧ (x.2.1 + x.2.2.1 = x.1) ∧ (x.2.2.2.2.1 (0, 0) = some (.inr (0, fX b pg gr lf n an lc (po + x.2.2.1)))) ∧ (x.2.2.2.2.1 (0, 20) = some (.inr (2, [.int fo, .ref v1, .ref v2, .ref v3, .int (nI x.2.1), .int (-1)]))) ∧ (x.2.2.2.2.1 (0, 21) = some (.inl (cI, mq, .inl x.2.2.2.2.2.1))) ∧ (x.2.2.2.2.1 (0, 22) = some (.inl (cI, mq, .inl x.2.2.2.2.2.2.1))) ∧ (x.2.2.2.2.1 (0, 23) = some (.inl (cZ, mq, .inl x.2.2.2.2.2.2.2))) ∧ (rowsOf x.2.2.2.1 0 dy dl (fun _ => 0) (fun _ => 0) (fun _ => 0) x.2.2.2.2.2.1 x.2.2.2.2.2.2.1 x.2.2.2.2.2.2.2) ∧ (fr_ag [(0, 0), (0, 20), (0, 21), (0, 22), (0, 23)] x.2.2.2.2.1 C) ∧ fr_W D hCl z (fr_ub (fr_ub (fr_ub (fr_ub b 20 q20) 21 v1) 22 v2) 23 v3) (x.2.2.2.2.1) H ∧ va_S (fr_A z) s.heap H locs ∧ lv_has ls 8 [(4, .int (nI (F + mq))), (5, .ref q20), (6, .int (nI (F + x.1))), (0, .ref (b 0)), (1, .ref lg), (2, .int (nI F)), (3, .int t)]) (fun x H locs ls h => by obtain ⟨h1, h2, -⟩ := h; omega) (fun n9 x H locs ls hI ih => ?_) (mq + 1) (0, 0, 0, ([] : List Nat), Cp, (fun _ : Nat => (0 : Int32)), (fun _ : Nat => (0 : Int32)), (fun _ : Nat => (0 : Int32))) _ _ _ ⟨ai0, ai1, ai2, ai3, ai4, ai5, ai6, ai7, ai8, ai9, aiA, aiB, hE, hS, lv_sub hl [2, 1, 0, 3, 4, 5, 6] rfl⟩
  obtain ⟨m1, A, B, K1, C1, fn1, fd1, fz1⟩ := x
  obtain ⟨i0, i1, i2, i3, i4, i5, i6, i7, i8, i9, iA, iB, hE, hS, hl⟩ := hI
  replace i0 : (n9 + 1) + m1 = mq + 1 := i0
  replace i1 : m1 ≤ mq := i1
  replace i2 : K1 = kp (keepB ac ab) g F m1 := i2
  replace i3 : A = K1.length := i3
  replace i4 : A + B = m1 := i4
  replace i5 : C1 (0, 0) = some (.inr (0, fX b pg gr lf n an lc (po + B))) := i5
  replace i6 : C1 (0, 20) = some (.inr (2, [.int fo, .ref v1, .ref v2, .ref v3, .int (nI A), .int (-1)])) := i6
  replace i7 : C1 (0, 21) = some (.inl (cI, mq, .inl fn1)) := i7
  replace i8 : C1 (0, 22) = some (.inl (cI, mq, .inl fd1)) := i8
  replace i9 : C1 (0, 23) = some (.inl (cZ, mq, .inl fz1)) := i9
  replace iA : rowsOf K1 0 dy dl (fun _ => 0) (fun _ => 0) (fun _ => 0) fn1 fd1 fz1 := iA
  replace iB : fr_ag [(0, 0), (0, 20), (0, 21), (0, 22), (0, 23)] C1 C := iB
  replace hE : fr_W D hCl z (fr_ub (fr_ub (fr_ub (fr_ub b 20 q20) 21 v1) 22 v2) 23 v3) (C1) H := hE
  replace hl : lv_has ls 8 [(4, .int (nI (F + mq))), (5, .ref q20), (6, .int (nI (F + m1))), (0, .ref (b 0)), (1, .ref lg), (2, .int (nI F)), (3, .int t)] := hl
  have k3 : C1 (0, 3) = some (.inl (cI, 150, .inl dy)) := iB.at (by decide) h3
  have k4 : C1 (0, 4) = some (.inl (cZ, 150, .inl dl)) := iB.at (by decide) h4
  have k5 : C1 (0, 5) = some (.inl (cI, 150, .inl ac)) := iB.at (by decide) h5
  have k7 : C1 (0, 7) = some (.inr (4, [.ref dt, .int (nI tk), .int mc])) := iB.at (by decide) h7
  have klg : C1 (1, lg) = some (.inr (1, [.int hv, .int fo, .int ab, .ref nm])) := iB.at (by simp) hlg
  have knm : C1 (1, nm) = some (.inl (cI, mL, .inl fnm)) := iB.at (by simp) hnm
  refine lv_iload hx hb d_X_makePage_40 (lv_at hl 2 rfl) ?_
  refine lv_iload hx hb d_X_makePage_42 (lv_at hl 0 rfl) ?_
  refine lv_icmp_ge (tgt := 110) hx hb d_X_makePage_44 (by decide) (fun c_6 => ?_) (fun c_6 => ?_)
  · skip
    have hmm : m1 = mq := by rcases Nat.lt_or_ge m1 mq with y | y; exact absurd c_6 (nI_ge (by omega) (by omega)); omega
    subst hmm
    refine lv_iload hx hb d_X_makePage_110 (lv_at hl 0 rfl) ?_
    refine lv_aload_n hx hb d_X_makePage_112 rfl (lv_at hl 4 rfl) ?_
    refine fr_get (ci := 1) (Cn := hR_1) (T := hF_1) (N := 4) hx hb hT hi_1 hown hK hE (1, lg) rfl klg rfl 3 (by decide) (hT _ kw_220) (fun _ h9 => h9) rfl d_X_makePage_113 ?_
    refine fr_alen hx hb hK hE (1, nm) 0 rfl knm rfl d_X_makePage_116 ?_
    refine lv_icmp_ge (tgt := 151) hx hb d_X_makePage_117 (by decide) (fun c_7 => ?_) (fun c_7 => ?_)
    · skip
      refine lv_aload hx hb d_X_makePage_151 (lv_at hl 1 rfl) ?_
      refine W.widen (k := 6) (n := 2410) (Nat.le_of_ble_eq_true rfl) (Nat.le_of_ble_eq_true rfl) ?_
      have htm : ¬ F + m1 < mL := fun y => absurd c_7 (nI_ge y (by omega))
      have hpool : ∀ a, C1 (1, a) = C (1, a) := fun a => iB (1, a) (by simp)
      obtain ⟨D1, hE, r1, s1, t1, u1⟩ := hE.ret1 20 i6
      obtain ⟨D2, hE, r2, s2, t2, u2⟩ := hE.ret1 21 ((t1 21 (by decide)).trans i7)
      obtain ⟨D3, hE, r3, s3, t3, u3⟩ := hE.ret1 22 ((t2 22 (by decide)).trans ((t1 22 (by decide)).trans i8))
      obtain ⟨D4, hE, r4, s4, t4, u4⟩ := hE.ret1 23 ((t3 23 (by decide)).trans ((t2 23 (by decide)).trans ((t1 23 (by decide)).trans i9)))
      have hfx : ∀ i, i < 20 ∨ 28 ≤ i → D4 (0, i) = C1 (0, i) := fun i h => ((t4 i (by omega)).trans ((t3 i (by omega)).trans ((t2 i (by omega)).trans (t1 i (by omega)))))
      have hpl : ∀ a e, C1 (1, a) = some e → D4 (1, a) = some e := fun a e y => s4 _ _ (s3 _ _ (s2 _ _ (s1 _ _ y)))
      have hpost : xPage C D4 b (fr_ub (fr_ub (fr_ub (fr_ub b 20 q20) 21 v1) 22 v2) 23 v3) cI cZ cO pg gr lf n an lc po fo lg F m1 t (kp (keepB ac ab) g F m1) (F + m1 < mL) dy dl mc dt tk n0 f q20 := ⟨v1, v2, v3, -1, fn1, fd1, fz1, (by rw [← i2, ← i3]; exact s4 _ _ (s3 _ _ (s2 _ _ r1))), s4 _ _ (s3 _ _ r2), s4 _ _ r3, r4, (by rw [← i2]; exact iA), (by rw [← i2, ← i3]; omega), (by rw [← i2, ← i3, show m1 - A = B by omega]; exact (hfx 0 (by decide)).trans i5), fun a e y _ => hpl a e ((hpool a).trans y), fun i h1 h2 h3 => (hfx i h3).trans (iB (0, i) (by simp; omega)), fun i h => (fr_ub_ne (by omega)).trans ((fr_ub_ne (by omega)).trans ((fr_ub_ne (by omega)).trans (fr_ub_ne (by omega)))), (hpool q20).symm.trans u1, Or.inr ⟨htm, rfl, (hfx 7 (by decide)).trans k7, fun e y => hpl dt e ((hpool dt).trans y)⟩⟩
      exact W.aret (v := .ref q20) hx hb hr (Or.inl ⟨_, rfl⟩) (va_rf_or (some q20)) (fun t9 ht9 hW9 => ⟨⟨(some q20), ((fr_ub (fr_ub (fr_ub (fr_ub b 20 q20) 21 v1) 22 v2) 23 v3), D4), rfl, ⟨q20, rfl, hpost⟩, ⟨by rw [ht9]; exact hE, va_K.moved hW9.alike hK⟩⟩, hS.F ht9⟩) hS.2.2 d_X_makePage_153
    · skip
      refine lv_aload hx hb d_X_makePage_120 (lv_at hl 1 rfl) ?_
      refine lv_aload_n hx hb d_X_makePage_122 rfl (lv_at hl 3 rfl) ?_
      refine fr_get (ci := 0) (Cn := hR_0) (T := hF_0) (N := 16) hx hb hT hi_0 hown hK hE (0, 0) rfl i5 rfl 12 (by decide) (hT _ kw_99) (fun _ h9 => h9) rfl d_X_makePage_123 ?_
      refine fr_calli (va_runV (As := []) (rest := [.ref q20]) ⟨hx, hb, hml, hown, hts⟩ (c_A_size l hE k7) (cwV 0 hts (hw_goodV kw_268 kw_269 kw_270 kw_24 kw_271) rfl rfl rfl (by decide +kernel) ⟨Nat.le_of_ble_eq_true rfl, Nat.le_of_ble_eq_true rfl⟩) ⟨fr_blind, fr_recv hK hE (0, 7) rfl k7 (ci := 4) rfl, fr_pre hE hK⟩ rfl rfl hl.1 rfl (lv_room (Nat.le_of_ble_eq_true rfl)) d_X_makePage_126 ⟨Nat.le_of_ble_eq_true rfl, Nat.le_of_ble_eq_true rfl⟩) hS (fun r_8 u_8 H locs w_8 hE hS => ?_)
      obtain rfl := w_8
      refine fr_put (ci := 2) (v := .int (nI tk)) (ty := .int) (Cn := hR_2) (T := hF_2) (N := 6) hx hb hT hi_2 hy_2 ho_2 hn_2 hown hK hE hS (0, 20) rfl i6 rfl 5 (by decide) (hT _ kw_250) (fun _ h9 => h9) rfl (by decide +kernel) rfl rfl (Nat.le_of_ble_eq_true rfl) d_X_makePage_129 (fun H locs hE hS => ?_)
      refine lv_aload_n hx hb d_X_makePage_132 rfl (lv_at hl 3 rfl) ?_
      refine fr_get (ci := 0) (Cn := hR_0) (T := hF_0) (N := 16) hx hb hT hi_0 hown hK hE (0, 0) rfl i5 rfl 12 (by decide) (hT _ kw_99) (fun _ h9 => h9) rfl d_X_makePage_133 ?_
      refine fr_new (ci := 3) (fs := [.null, .int 0, .int 0, .null]) (Cn := hR_3) (T := hF_3) (N := 4) hx hb hT hi_3 hy_3 ho_3 hown (hT _ kw_272) (hT _ kw_273) (hT _ kw_31) hK hE hS 24 rfl (fun j hj => by rcases (show j = 0 ∨ j = 1 ∨ j = 2 ∨ j = 3 by omega) with rfl | rfl | rfl | rfl <;> rfl) (Nat.le_of_ble_eq_true rfl) (Nat.le_of_ble_eq_true rfl) d_X_makePage_136 (fun q24 H nq24 hE hS => ?_)
      refine W.widen (k := 5) (n := 160) (Nat.le_of_ble_eq_true rfl) (Nat.le_of_ble_eq_true rfl) ?_
      refine lv_dup hx hb d_X_makePage_139 rfl ?_
      refine lv_aload_n hx hb d_X_makePage_140 rfl (lv_at hl 4 rfl) ?_
      refine lv_iload hx hb d_X_makePage_141 (lv_at hl 0 rfl) ?_
      refine lv_iload_n hx hb d_X_makePage_143 rfl (lv_at hl 6 rfl) ?_
      refine fr_callv (va_runI (As := [.ref lg, .int (nI (F + m1)), .int t]) (rest := [.ref q24, .ref (b 7)]) ⟨hx, hb, hml, hown, hts⟩ (c_T_init l hE rfl lg (nI (F + m1)) t) (cwI 3 hts (hw_good kw_276) rfl rfl rfl (hT _ kw_31) (hT _ kw_274) (hT _ kw_275) rfl (by decide +kernel) ⟨Nat.le_of_ble_eq_true rfl, Nat.le_of_ble_eq_true rfl⟩) ⟨fr_blind, fr_pre hE hK⟩ rfl rfl hl.1 rfl (lv_room (Nat.le_of_ble_eq_true rfl)) d_X_makePage_144 ⟨Nat.le_of_ble_eq_true rfl, Nat.le_of_ble_eq_true rfl⟩) hS (fun u_9 H locs w_9 hE hS => ?_)
      rw [fr_up_up] at hE
      have hpool : ∀ a, C1 (1, a) = C (1, a) := fun a => iB (1, a) (by simp)
      have hls9 := hE.say (fun X => lsAt X cO e0 dt tk n0 f) (by rcases hls with y | ⟨y1, y2, y3, y4, y5, y6⟩; exact Or.inl y; exact Or.inr ⟨(hpool dt).trans y1, y2, y3, y4, fun i y hi hy => by obtain ⟨fs, hfs⟩ := y5 i y hi hy; exact ⟨fs, (hpool y).trans hfs⟩, y6⟩)
      refine fr_calli (va_runV (As := [.ref q24]) (rest := []) ⟨hx, hb, hml, hown, hts⟩ (c_A_add l hE (dt := dt) (tk := tk) (n0 := n0) (f := f) (mc := mc) k7 hls9 (by omega) rfl) (cwV 1 hts (hw_goodV kw_295 kw_296 kw_297 kw_24 kw_298) rfl rfl rfl (by decide +kernel) ⟨Nat.le_of_ble_eq_true rfl, Nat.le_of_ble_eq_true rfl⟩) ⟨fr_blindX, fr_recv hK hE (0, 7) rfl k7 (ci := 4) rfl, fr_preX hE hK hX hS⟩ rfl rfl hl.1 rfl (lv_room (Nat.le_of_ble_eq_true rfl)) d_X_makePage_147 ⟨Nat.le_of_ble_eq_true rfl, Nat.le_of_ble_eq_true rfl⟩) hS (fun r_10 u_10 H locs w_10 hE hS => ?_)
      obtain ⟨b9, C9, dt9, n9, f9⟩ := u_10
      obtain ⟨rfl, y1, y2, y3, y4, y5, y6, y7, y8, y9, yA, q27, yB⟩ := w_10
      replace yB : b9 = fr_ub _ 27 q27 := yB
      subst yB
      refine lv_pop hx hb d_X_makePage_150 rfl ?_
      refine lv_aload hx hb d_X_makePage_151 (lv_at hl 1 rfl) ?_
      refine W.widen (k := 6) (n := 2410) (Nat.le_of_ble_eq_true rfl) (Nat.le_of_ble_eq_true rfl) ?_
      have htm : F + m1 < mL := by rcases Nat.lt_or_ge (F + m1) mL with y | y; exact y; exact absurd (nI_le y (by omega)) c_7
      have yag : fr_ag [(0, 7), (0, 27), (1, dt9)] C9 (fr_up (fr_up C1 (0, 20) (.inr (2, [.int fo, .ref v1, .ref v2, .ref v3, .int (nI A), .int (nI tk)]))) (0, 24) (.inr (3, [.ref lg, .int (nI (F + m1)), .int t, .null]))) := yA
      have j20 : C9 (0, 20) = some (.inr (2, [.int fo, .ref v1, .ref v2, .ref v3, .int (nI A), .int (nI tk)])) := yag.at (by simp) rfl
      have j21 : C9 (0, 21) = some (.inl (cI, m1, .inl fn1)) := yag.at (by simp) i7
      have j22 : C9 (0, 22) = some (.inl (cI, m1, .inl fd1)) := yag.at (by simp) i8
      have j23 : C9 (0, 23) = some (.inl (cZ, m1, .inl fz1)) := yag.at (by simp) i9
      have j24 : C9 (0, 24) = some (.inr (3, [.ref lg, .int (nI (F + m1)), .int t, .null])) := yag.at (by simp) rfl
      obtain ⟨D1, hE, r1, s1, t1, u1⟩ := hE.ret1 20 j20
      obtain ⟨D2, hE, r2, s2, t2, u2⟩ := hE.ret1 21 ((t1 21 (by decide)).trans j21)
      obtain ⟨D3, hE, r3, s3, t3, u3⟩ := hE.ret1 22 ((t2 22 (by decide)).trans ((t1 22 (by decide)).trans j22))
      obtain ⟨D4, hE, r4, s4, t4, u4⟩ := hE.ret1 23 ((t3 23 (by decide)).trans ((t2 23 (by decide)).trans ((t1 23 (by decide)).trans j23)))
      obtain ⟨D5, hE, r5, s5, t5, u5⟩ := hE.ret1 24 ((t4 24 (by decide)).trans ((t3 24 (by decide)).trans ((t2 24 (by decide)).trans ((t1 24 (by decide)).trans j24))))
      have hfx : ∀ i, i < 20 ∨ 28 ≤ i → D5 (0, i) = C9 (0, i) := fun i h => ((t5 i (by omega)).trans ((t4 i (by omega)).trans ((t3 i (by omega)).trans ((t2 i (by omega)).trans (t1 i (by omega))))))
      have hpl : ∀ a e, C9 (1, a) = some e → D5 (1, a) = some e := fun a e y => s5 _ _ (s4 _ _ (s3 _ _ (s2 _ _ (s1 _ _ y))))
      have hold : ∀ a, a ≠ dt9 → C9 (1, a) = C (1, a) := fun a h => (yag (1, a) (by simpa using h)).trans (hpool a)
      have hnew : ∀ a, C9 (1, a) = none → C (1, a) = none := fun a h => by by_cases y : a = dt9; subst y; exact absurd (y2.symm.trans h) (by simp); exact (hold a y).symm.trans h
      have hpost : xPage C D5 b (fr_ub (fr_ub (fr_ub (fr_ub (fr_ub (fr_ub b 20 q20) 21 v1) 22 v2) 23 v3) 24 q24) 27 q27) cI cZ cO pg gr lf n an lc po fo lg F m1 t (kp (keepB ac ab) g F m1) (F + m1 < mL) dy dl mc dt tk n0 f q20 := ⟨v1, v2, v3, nI tk, fn1, fd1, fz1, (by rw [← i2, ← i3]; exact s5 _ _ (s4 _ _ (s3 _ _ (s2 _ _ r1)))), s5 _ _ (s4 _ _ (s3 _ _ r2)), s5 _ _ (s4 _ _ r3), s5 _ _ r4, (by rw [← i2]; exact iA), (by rw [← i2, ← i3]; omega), (by rw [← i2, ← i3, show m1 - A = B by omega]; exact (hfx 0 (by decide)).trans (yag.at (by simp) i5)), (fun a e y ha => hpl a e ((hold a (fun q => by rcases y9 with h9 | h9; exact ha (q.trans h9); rw [← q] at h9; exact absurd (show C (1, a) = none from (hpool a).symm.trans h9) (by rw [y]; simp))).trans y)), fun i h1 h2 h3 => (hfx i h3).trans ((yag (0, i) (by simp; omega)).trans ((fr_up_ne (by simp; omega)).trans ((fr_up_ne (by simp; omega)).trans (iB (0, i) (by simp; omega))))), fun i h => (fr_ub_ne (by omega)).trans ((fr_ub_ne (by omega)).trans ((fr_ub_ne (by omega)).trans ((fr_ub_ne (by omega)).trans ((fr_ub_ne (by omega)).trans (fr_ub_ne (by omega)))))), hnew q20 u1, Or.inl ⟨htm, rfl, q24, dt9, n9, f9, r5, (hfx 7 (by decide)).trans y1, hpl _ _ y2, y3, y4, y5, y6, y7, y8, y9.elim Or.inl (fun h => Or.inr ((hpool dt9).symm.trans h)), hnew q24 (by have y := u5; cases hc : C9 (1, q24) with | none => rfl | some e9 => exact absurd ((s4 _ _ (s3 _ _ (s2 _ _ (s1 _ _ hc)))).symm.trans y) (by simp))⟩⟩
      exact W.aret (v := .ref q20) hx hb hr (Or.inl ⟨_, rfl⟩) (va_rf_or (some q20)) (fun t9 ht9 hW9 => ⟨⟨(some q20), ((fr_ub (fr_ub (fr_ub (fr_ub (fr_ub (fr_ub b 20 q20) 21 v1) 22 v2) 23 v3) 24 q24) 27 q27), D5), rfl, ⟨q20, rfl, hpost⟩, ⟨by rw [ht9]; exact hE, va_K.moved hW9.alike hK⟩⟩, hS.F ht9⟩) hS.2.2 d_X_makePage_153
  · skip
    have hm1 : m1 < mq := by rcases Nat.lt_or_ge m1 mq with y | y; exact y; exact absurd (nI_le (by omega) (by omega)) c_6
    have hgk := hgg (F + m1) (by omega)
    refine lv_aload_n hx hb d_X_makePage_47 rfl (lv_at hl 4 rfl) ?_
    refine fr_get (ci := 1) (Cn := hR_1) (T := hF_1) (N := 4) hx hb hT hi_1 hown hK hE (1, lg) rfl klg rfl 3 (by decide) (hT _ kw_220) (fun _ h9 => h9) rfl d_X_makePage_48 ?_
    refine lv_iload hx hb d_X_makePage_51 (lv_at hl 2 rfl) ?_
    refine fr_iald hx hb hK hE (1, nm) 0 rfl knm rfl (F + m1) (rfl) (by omega) (by omega) d_X_makePage_53 ?_
    refine lv_istore (lv' := [(7, .int (fnm (F + m1))), (4, .int (nI (F + mq))), (5, .ref q20), (6, .int (nI (F + m1))), (0, .ref (b 0)), (1, .ref lg), (2, .int (nI F)), (3, .int t)]) hx hb d_X_makePage_54 hl (by decide) rfl (fun ls hl => ?_)
    refine lv_aload_n hx hb d_X_makePage_56 rfl (lv_at hl 4 rfl) ?_
    refine fr_get (ci := 0) (Cn := hR_0) (T := hF_0) (N := 16) hx hb hT hi_0 hown hK hE (0, 0) rfl i5 rfl 7 (by decide) (hT _ kw_94) (fun _ h9 => h9) rfl d_X_makePage_57 ?_
    refine lv_iload hx hb d_X_makePage_60 (lv_at hl 0 rfl) ?_
    refine fr_iald hx hb hK hE (0, 5) 0 rfl k5 rfl (g (F + m1)) (hgk.1) (hgk.2) (by decide) d_X_makePage_62 ?_
    refine lv_aload_n hx hb d_X_makePage_63 rfl (lv_at hl 5 rfl) ?_
    refine fr_get (ci := 1) (Cn := hR_1) (T := hF_1) (N := 4) hx hb hT hi_1 hown hK hE (1, lg) rfl klg rfl 2 (by decide) (hT _ kw_218) (fun _ h9 => h9) rfl d_X_makePage_64 ?_
    refine lv_icmp_le (tgt := 83) hx hb d_X_makePage_67 (by decide) (fun c_11 => ?_) (fun c_11 => ?_)
    · skip
      refine lv_aload hx hb d_X_makePage_83 (lv_at hl 2 rfl) ?_
      refine lv_iload hx hb d_X_makePage_85 (lv_at hl 0 rfl) ?_
      refine lv_aload_n hx hb d_X_makePage_87 rfl (lv_at hl 4 rfl) ?_
      refine fr_get (ci := 0) (Cn := hR_0) (T := hF_0) (N := 16) hx hb hT hi_0 hown hK hE (0, 0) rfl i5 rfl 5 (by decide) (hT _ kw_92) (fun _ h9 => h9) rfl d_X_makePage_88 ?_
      refine lv_iload hx hb d_X_makePage_91 (lv_at hl 0 rfl) ?_
      refine fr_iald hx hb hK hE (0, 3) 0 rfl k3 rfl (g (F + m1)) (hgk.1) (hgk.2) (by decide) d_X_makePage_93 ?_
      refine lv_aload_n hx hb d_X_makePage_94 rfl (lv_at hl 4 rfl) ?_
      refine fr_get (ci := 0) (Cn := hR_0) (T := hF_0) (N := 16) hx hb hT hi_0 hown hK hE (0, 0) rfl i5 rfl 6 (by decide) (hT _ kw_93) (fun _ h9 => h9) rfl d_X_makePage_95 ?_
      refine lv_iload hx hb d_X_makePage_98 (lv_at hl 0 rfl) ?_
      refine fr_zald hx hb hK hE (0, 4) 1 rfl k4 rfl (g (F + m1)) (hgk.1) (hgk.2) (by decide) d_X_makePage_100 ?_
      refine fr_callv (va_runV (As := [.int (fnm (F + m1)), .int (dy (g (F + m1))), .int (dl (g (F + m1)))]) (rest := []) ⟨hx, hb, hml, hown, hts⟩ (c_P_keep l hE i6 i7 i8 i9 (by omega) (by omega) (fnm (F + m1)) (dy (g (F + m1))) (dl (g (F + m1))) (hdl _)) (cwV 3 hts (hw_goodV kw_264 kw_265 kw_266 kw_30 kw_267) rfl rfl rfl (by decide +kernel) ⟨Nat.le_of_ble_eq_true rfl, Nat.le_of_ble_eq_true rfl⟩) ⟨fr_blind, fr_recv hK hE (0, 20) rfl i6 (ci := 2) rfl, fr_pre hE hK⟩ rfl rfl hl.1 rfl (lv_room (Nat.le_of_ble_eq_true rfl)) d_X_makePage_101 ⟨Nat.le_of_ble_eq_true rfl, Nat.le_of_ble_eq_true rfl⟩) hS (fun u_12 H locs w_12 hE hS => ?_)
      refine lv_iinc (v := nI (F + (m1 + 1))) (lv' := [(6, .int (nI (F + (m1 + 1)))), (7, .int (fnm (F + m1))), (4, .int (nI (F + mq))), (5, .ref q20), (0, .ref (b 0)), (1, .ref lg), (2, .int (nI F)), (3, .int t)]) hx hb d_X_makePage_104 hl (k := 3) rfl ((nI_1 _).trans (congrArg nI (by omega))) (by decide) rfl (fun ls hl => ?_)
      refine lv_goto (tgt := 40) hx hb d_X_makePage_107 (by decide) ?_
      have ys : (keepB ac ab) (g (F + m1)) = true := decide_eq_true c_11
      have bi0 : n9 + (m1 + 1) = mq + 1 := by omega
      have bi1 : (m1 + 1) ≤ mq := by omega
      have bi2 : (K1 ++ [g (F + m1)]) = kp (keepB ac ab) g F (m1 + 1) := by rw [kp_yes ys, i2]
      have bi3 : (A + 1) = (K1 ++ [g (F + m1)]).length := by rw [List.length_append, ← i3]; rfl
      have bi4 : (A + 1) + B = (m1 + 1) := by omega
      have bi5 : (fr_up (fr_up (fr_up (fr_up C1 (0, 21) (.inl (cI, mq, .inl (upd fn1 A (fnm (F + m1)))))) (0, 22) (.inl (cI, mq, .inl (upd fd1 A (dy (g (F + m1))))))) (0, 23) (.inl (cZ, mq, .inl (upd fz1 A (dl (g (F + m1))))))) (0, 20) (.inr (2, [.int fo, .ref v1, .ref v2, .ref v3, .int (nI (A + 1)), .int (-1)]))) (0, 0) = some (.inr (0, fX b pg gr lf n an lc (po + B))) := i5
      have bi6 : (fr_up (fr_up (fr_up (fr_up C1 (0, 21) (.inl (cI, mq, .inl (upd fn1 A (fnm (F + m1)))))) (0, 22) (.inl (cI, mq, .inl (upd fd1 A (dy (g (F + m1))))))) (0, 23) (.inl (cZ, mq, .inl (upd fz1 A (dl (g (F + m1))))))) (0, 20) (.inr (2, [.int fo, .ref v1, .ref v2, .ref v3, .int (nI (A + 1)), .int (-1)]))) (0, 20) = some (.inr (2, [.int fo, .ref v1, .ref v2, .ref v3, .int (nI (A + 1)), .int (-1)])) := rfl
      have bi7 : (fr_up (fr_up (fr_up (fr_up C1 (0, 21) (.inl (cI, mq, .inl (upd fn1 A (fnm (F + m1)))))) (0, 22) (.inl (cI, mq, .inl (upd fd1 A (dy (g (F + m1))))))) (0, 23) (.inl (cZ, mq, .inl (upd fz1 A (dl (g (F + m1))))))) (0, 20) (.inr (2, [.int fo, .ref v1, .ref v2, .ref v3, .int (nI (A + 1)), .int (-1)]))) (0, 21) = some (.inl (cI, mq, .inl (upd fn1 A (fnm (F + m1))))) := rfl
      have bi8 : (fr_up (fr_up (fr_up (fr_up C1 (0, 21) (.inl (cI, mq, .inl (upd fn1 A (fnm (F + m1)))))) (0, 22) (.inl (cI, mq, .inl (upd fd1 A (dy (g (F + m1))))))) (0, 23) (.inl (cZ, mq, .inl (upd fz1 A (dl (g (F + m1))))))) (0, 20) (.inr (2, [.int fo, .ref v1, .ref v2, .ref v3, .int (nI (A + 1)), .int (-1)]))) (0, 22) = some (.inl (cI, mq, .inl (upd fd1 A (dy (g (F + m1)))))) := rfl
      have bi9 : (fr_up (fr_up (fr_up (fr_up C1 (0, 21) (.inl (cI, mq, .inl (upd fn1 A (fnm (F + m1)))))) (0, 22) (.inl (cI, mq, .inl (upd fd1 A (dy (g (F + m1))))))) (0, 23) (.inl (cZ, mq, .inl (upd fz1 A (dl (g (F + m1))))))) (0, 20) (.inr (2, [.int fo, .ref v1, .ref v2, .ref v3, .int (nI (A + 1)), .int (-1)]))) (0, 23) = some (.inl (cZ, mq, .inl (upd fz1 A (dl (g (F + m1)))))) := rfl
      have biA : rowsOf (K1 ++ [g (F + m1)]) 0 dy dl (fun _ => 0) (fun _ => 0) (fun _ => 0) (upd fn1 A (fnm (F + m1))) (upd fd1 A (dy (g (F + m1)))) (upd fz1 A (dl (g (F + m1)))) := by have := rowsOf_add (w := 0) (dy := dy) (dl := dl) i3 hgk.1 iA; rw [Nat.zero_add] at this; exact this
      have biB : fr_ag [(0, 0), (0, 20), (0, 21), (0, 22), (0, 23)] (fr_up (fr_up (fr_up (fr_up C1 (0, 21) (.inl (cI, mq, .inl (upd fn1 A (fnm (F + m1)))))) (0, 22) (.inl (cI, mq, .inl (upd fd1 A (dy (g (F + m1))))))) (0, 23) (.inl (cZ, mq, .inl (upd fz1 A (dl (g (F + m1))))))) (0, 20) (.inr (2, [.int fo, .ref v1, .ref v2, .ref v3, .int (nI (A + 1)), .int (-1)]))) C := (((iB.up (by decide)).up (by decide)).up (by decide)).up (by decide)
      exact ih (m1 + 1, A + 1, B, K1 ++ [g (F + m1)], fr_up (fr_up (fr_up (fr_up C1 (0, 21) (.inl (cI, mq, .inl (upd fn1 A (fnm (F + m1)))))) (0, 22) (.inl (cI, mq, .inl (upd fd1 A (dy (g (F + m1))))))) (0, 23) (.inl (cZ, mq, .inl (upd fz1 A (dl (g (F + m1))))))) (0, 20) (.inr (2, [.int fo, .ref v1, .ref v2, .ref v3, .int (nI (A + 1)), .int (-1)])), upd fn1 A (fnm (F + m1)), upd fd1 A (dy (g (F + m1))), upd fz1 A (dl (g (F + m1)))) _ _ _ ⟨bi0, bi1, bi2, bi3, bi4, bi5, bi6, bi7, bi8, bi9, biA, biB, hE, hS, lv_sub hl [2, 3, 0, 4, 5, 6, 7] rfl⟩
    · skip
      refine lv_aload_n hx hb d_X_makePage_70 rfl (lv_at hl 4 rfl) ?_
      refine lv_dup hx hb d_X_makePage_71 rfl ?_
      refine fr_get (ci := 0) (Cn := hR_0) (T := hF_0) (N := 16) hx hb hT hi_0 hown hK hE (0, 0) rfl i5 rfl 15 (by decide) (hT _ kw_102) (fun _ h9 => h9) rfl d_X_makePage_72 ?_
      refine lv_iconst (v := 1) hx hb d_X_makePage_75 (by decide) ?_
      refine lv_iadd hx hb d_X_makePage_76 ?_
      refine lv_topi (fun y_13 ey_13 => ?_)
      obtain rfl : y_13 = nI (po + (B + 1)) := ey_13.trans ((nI_1 _).trans (congrArg nI (by omega)))
      refine fr_put (ci := 0) (v := .int (nI (po + (B + 1)))) (ty := .int) (Cn := hR_0) (T := hF_0) (N := 16) hx hb hT hi_0 hy_0 ho_0 hn_0 hown hK hE hS (0, 0) rfl i5 rfl 15 (by decide) (hT _ kw_102) (fun _ h9 => h9) rfl (by decide +kernel) rfl rfl (Nat.le_of_ble_eq_true rfl) d_X_makePage_77 (fun H locs hE hS => ?_)
      refine lv_goto (tgt := 104) hx hb d_X_makePage_80 (by decide) ?_
      refine lv_iinc (v := nI (F + (m1 + 1))) (lv' := [(6, .int (nI (F + (m1 + 1)))), (7, .int (fnm (F + m1))), (4, .int (nI (F + mq))), (5, .ref q20), (0, .ref (b 0)), (1, .ref lg), (2, .int (nI F)), (3, .int t)]) hx hb d_X_makePage_104 hl (k := 3) rfl ((nI_1 _).trans (congrArg nI (by omega))) (by decide) rfl (fun ls hl => ?_)
      refine lv_goto (tgt := 40) hx hb d_X_makePage_107 (by decide) ?_
      have ns : (keepB ac ab) (g (F + m1)) = false := decide_eq_false c_11
      have bi0 : n9 + (m1 + 1) = mq + 1 := by omega
      have bi1 : (m1 + 1) ≤ mq := by omega
      have bi2 : K1 = kp (keepB ac ab) g F (m1 + 1) := i2.trans (kp_no ns).symm
      have bi3 : A = K1.length := i3
      have bi4 : A + (B + 1) = (m1 + 1) := by omega
      have bi5 : (fr_up C1 (0, 0) (.inr (0, fX b pg gr lf n an lc (po + (B + 1))))) (0, 0) = some (.inr (0, fX b pg gr lf n an lc (po + (B + 1)))) := rfl
      have bi6 : (fr_up C1 (0, 0) (.inr (0, fX b pg gr lf n an lc (po + (B + 1))))) (0, 20) = some (.inr (2, [.int fo, .ref v1, .ref v2, .ref v3, .int (nI A), .int (-1)])) := i6
      have bi7 : (fr_up C1 (0, 0) (.inr (0, fX b pg gr lf n an lc (po + (B + 1))))) (0, 21) = some (.inl (cI, mq, .inl fn1)) := i7
      have bi8 : (fr_up C1 (0, 0) (.inr (0, fX b pg gr lf n an lc (po + (B + 1))))) (0, 22) = some (.inl (cI, mq, .inl fd1)) := i8
      have bi9 : (fr_up C1 (0, 0) (.inr (0, fX b pg gr lf n an lc (po + (B + 1))))) (0, 23) = some (.inl (cZ, mq, .inl fz1)) := i9
      have biA : rowsOf K1 0 dy dl (fun _ => 0) (fun _ => 0) (fun _ => 0) fn1 fd1 fz1 := iA
      have biB : fr_ag [(0, 0), (0, 20), (0, 21), (0, 22), (0, 23)] (fr_up C1 (0, 0) (.inr (0, fX b pg gr lf n an lc (po + (B + 1))))) C := iB.up (by decide)
      exact ih (m1 + 1, A, B + 1, K1, fr_up C1 (0, 0) (.inr (0, fX b pg gr lf n an lc (po + (B + 1)))), fn1, fd1, fz1) _ _ _ ⟨bi0, bi1, bi2, bi3, bi4, bi5, bi6, bi7, bi8, bi9, biA, biB, hE, hS, lv_sub hl [2, 3, 0, 4, 5, 6, 7] rfl⟩
end
