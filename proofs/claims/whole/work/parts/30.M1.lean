/-- the fields of the reference -/
def fM (b : Nat → Nat) (th : Int32) (pg gr lf an n lc ps rw tk po : Nat) : List Value := [.int th, .int (nI pg), .int (nI gr), .int (nI lf), .int (nI an), .int (nI n), .ref (b 46), .ref (b 47), .ref (b 48), .ref (b 49), .ref (b 50), .int (nI lc), .ref (b 52), .ref (b 53), .ref (b 54), .ref (b 55), .ref (b 56), .int (nI ps), .ref (b 58), .ref (b 59), .ref (b 60), .ref (b 61), .ref (b 62), .int (nI rw), .ref (b 64), .ref (b 65), .ref (b 66), .int (nI tk), .ref (b 68), .ref (b 69), .ref (b 70), .ref (b 71), .ref (b 72), .int (nI po)]
theorem in0 {v hi : Int32} {m : Nat} (h1 : hi.toInt = (m : Int) - 1) (h2 : m < 2 ^ 31) : (0 ≤ v ∧ v ≤ hi) ↔ inN v m := by
  constructor
  · rintro ⟨a, c⟩
    refine inN_yes h2 (Int32.not_lt.mpr a) (fun q => ?_)
    have e1 := Int32.le_iff_toInt_le.mp c
    have e2 := Int32.le_iff_toInt_le.mp q
    rw [nI_toInt h2] at e2
    omega
  · rintro ⟨j, hj, rfl⟩
    refine ⟨nI_pos' (by omega), Int32.le_iff_toInt_le.mpr ?_⟩
    rw [nI_toInt (by omega)]
    omega
theorem nI_m1 {n : Nat} (h : n < 2 ^ 30) : (nI n - 1).toInt = (n : Int) - 1 := pk_sub_toInt (b := 1) h (by decide)
/-- what the reference's act does -/
def mAct (b : Nat → Nat) (C : fr_C) (cI cZ : ClassId) (th : Int32) (pg gr lf an n lc ps rw tk po : Nat) (ac dy dl : Nat → Int32) (j : Nat) (day x : Int32) : fr_C :=
  fr_up (fr_up (fr_up (fr_up C (0, 40) (.inr (5, fM b th pg gr lf (an + 1) n lc ps rw tk po))) (0, 47) (.inl (cI, 150, .inl (upd dy j day)))) (0, 48) (.inl (cZ, 150, .inl (upd dl j x)))) (0, 49) (.inl (cI, 150, .inl (upd ac j (nI (an + 1)))))
/-- what the reference's record does, where it is not refused -/
def mRec (b : Nat → Nat) (C : fr_C) (cI cZ : ClassId) (pg gr lf an n lc ps rw tk po : Nat) (st ac dy dl : Nat → Int32) (set day : Int32) : fr_C :=
  fr_up (mAct b (fr_up (fr_up C (0, 40) (.inr (5, fM b 0 pg gr lf an n lc ps rw tk po))) (0, 46) (.inl (cI, 150, .inl (upd st n set)))) cI cZ 0 pg gr lf an n lc ps rw tk po ac dy dl n day 0) (0, 40) (.inr (5, fM b 0 pg gr lf (an + 1) (n + 1) lc ps rw tk po))
set_option maxHeartbeats 4000000 in
set_option maxRecDepth 100000 in
theorem c_M_in (l : Launch) {D : va_G} {z : Nat} {b : Nat → Nat} {C : fr_C} {H9 : Heap} (h9 : fr_W D hCl z b C H9) {cI cZ cJ cP cO : ClassId} (v lo hi : Int32) : Met l y_M_in w_M_in ({ frames := 0, cells := 0, slots := 0, locals := 0 }) (va_Pc [.int v, .int lo, .int hi] (fr_G D hCl (hTy cI cZ cJ cP cO) z b C)) (va_Qi (fun (r : Int32) (u : Unit) => tells r (lo ≤ v ∧ v ≤ hi)) (fun u t => fr_G D hCl (hTy cI cZ cJ cP cO) z ((fun _ => b) u) ((fun _ => C) u) t) (fr_A z)) 0 0 (fr_A z) := by
  refine Met.ofW (cc := b_M_in) (maxL := 3) (ret := (some .boolean)) (by decide) rfl ?_
  intro p e s m args below meth c s₁ B hml hv
  obtain ⟨rfl, hE, hK⟩ := hv
  have hx := B.exec
  have hb := B.bytes
  have hr := B.returns
  have hts := atoms_spec (ws := w_M_in) B.pre
  have hT : ∀ w ∈ hw_tbl, w.before _ s = true := fun w h => hts w (List.mem_cons_of_mem _ h)
  have hown : s.vm.findClass "HarvestStepsModel" = some m.cls := findClass_of_methodNamed B.named
  have hlocks := B.notSynchronized
  have hS : va_S (fr_A z) s.heap s.heap [] := va_S.rf
  have hl := lv_entry ([.int v, .int lo, .int hi]) (n := 3) (Nat.le_of_ble_eq_true rfl)
  rw [lg_entry_eq]
  generalize (lg_sl ([.int v, .int lo, .int hi]) ++ List.replicate (3 - (lg_sl ([.int v, .int lo, .int hi])).length) Slot.unset).toArray = ls at hl ⊢
  have hl : lv_has ls 3 [(0, .int v), (1, .int lo), (2, .int hi)] := hl
  refine lv_iload_n hx hb d_M_in_0 rfl (lv_at hl 0 rfl) ?_
  refine lv_iload_n hx hb d_M_in_1 rfl (lv_at hl 1 rfl) ?_
  refine lv_icmp_lt (tgt := 14) hx hb d_M_in_2 (by decide) (fun c_1 => ?_) (fun c_1 => ?_)
  · skip
    refine lv_iconst (v := 0) hx hb d_M_in_14 (by decide) ?_
    refine W.widen (k := 0) (n := 0) (Nat.le_of_ble_eq_true rfl) (Nat.le_of_ble_eq_true rfl) ?_
    exact W.zret (v := 0) (ty := .boolean) hx hb hr rfl (fun t9 ht9 hW9 => ⟨⟨0, (), rfl, Or.inr ⟨rfl, fun q => Int32.not_lt.mpr q.1 c_1⟩, ⟨by rw [ht9]; exact hE, va_K.moved hW9.alike hK⟩⟩, hS.F ht9⟩) hS.2.2 d_M_in_15
  · skip
    refine lv_iload_n hx hb d_M_in_5 rfl (lv_at hl 0 rfl) ?_
    refine lv_iload_n hx hb d_M_in_6 rfl (lv_at hl 2 rfl) ?_
    refine lv_icmp_gt (tgt := 14) hx hb d_M_in_7 (by decide) (fun c_2 => ?_) (fun c_2 => ?_)
    · skip
      refine lv_iconst (v := 0) hx hb d_M_in_14 (by decide) ?_
      refine W.widen (k := 0) (n := 0) (Nat.le_of_ble_eq_true rfl) (Nat.le_of_ble_eq_true rfl) ?_
      exact W.zret (v := 0) (ty := .boolean) hx hb hr rfl (fun t9 ht9 hW9 => ⟨⟨0, (), rfl, Or.inr ⟨rfl, fun q => Int32.not_lt.mpr q.2 c_2⟩, ⟨by rw [ht9]; exact hE, va_K.moved hW9.alike hK⟩⟩, hS.F ht9⟩) hS.2.2 d_M_in_15
    · skip
      refine lv_iconst (v := 1) hx hb d_M_in_10 (by decide) ?_
      refine lv_goto (tgt := 15) hx hb d_M_in_11 (by decide) ?_
      refine W.widen (k := 0) (n := 0) (Nat.le_of_ble_eq_true rfl) (Nat.le_of_ble_eq_true rfl) ?_
      exact W.zret (v := 1) (ty := .boolean) hx hb hr rfl (fun t9 ht9 hW9 => ⟨⟨1, (), rfl, Or.inl ⟨rfl, Int32.not_lt.mp c_1, Int32.not_lt.mp c_2⟩, ⟨by rw [ht9]; exact hE, va_K.moved hW9.alike hK⟩⟩, hS.F ht9⟩) hS.2.2 d_M_in_15
set_option maxHeartbeats 4000000 in
set_option maxRecDepth 100000 in
theorem c_M_isDay (l : Launch) {D : va_G} {z : Nat} {b : Nat → Nat} {C : fr_C} {H9 : Heap} (h9 : fr_W D hCl z b C H9) {cI cZ cJ cP cO : ClassId} {th : Int32} {pg gr lf an n lc ps rw tk po : Nat}  (m0 : C (0, 40) = some (.inr (5, fM b th pg gr lf an n lc ps rw tk po)))  (hg : 1 ≤ gr ∧ gr ≤ 100) (v : Int32) : Met l y_M_isDay w_M_isDay ({ frames := 1, cells := 0, slots := 0, locals := 22 }) (va_Pc [.ref (b 40), .int v] (fr_G D hCl (hTy cI cZ cJ cP cO) z b C)) (va_Qi (fun (r : Int32) (u : Unit) => tells r (okDay gr v)) (fun u t => fr_G D hCl (hTy cI cZ cJ cP cO) z ((fun _ => b) u) ((fun _ => C) u) t) (fr_A z)) 0 0 (fr_A z) := by
  refine Met.ofW (cc := b_M_isDay) (maxL := 2) (ret := (some .boolean)) (by decide) rfl ?_
  intro p e s m args below meth c s₁ B hml hv
  obtain ⟨rfl, hE, hK⟩ := hv
  have hx := B.exec
  have hb := B.bytes
  have hr := B.returns
  have hts := atoms_spec (ws := w_M_isDay) B.pre
  have hT : ∀ w ∈ hw_tbl, w.before _ s = true := fun w h => hts w (List.mem_cons_of_mem _ h)
  have hown : s.vm.findClass "HarvestStepsModel" = some m.cls := findClass_of_methodNamed B.named
  have hlocks := B.notSynchronized
  have hS : va_S (fr_A z) s.heap s.heap [] := va_S.rf
  have hl := lv_entry ([.ref (b 40), .int v]) (n := 2) (Nat.le_of_ble_eq_true rfl)
  rw [lg_entry_eq]
  generalize (lg_sl ([.ref (b 40), .int v]) ++ List.replicate (2 - (lg_sl ([.ref (b 40), .int v])).length) Slot.unset).toArray = ls at hl ⊢
  have hl : lv_has ls 2 [(0, .ref (b 40)), (1, .int v)] := hl
  refine lv_iload_n hx hb d_M_isDay_0 rfl (lv_at hl 1 rfl) ?_
  refine lv_iconst (v := 0) hx hb d_M_isDay_1 (by decide) ?_
  refine lv_ldc (v := 1000000) hx hb hown (hT _ kw_473) d_M_isDay_2 ?_
  refine fr_calli (va_runS (As := [.int v, .int 0, .int 1000000]) (rest := []) ⟨hx, hb, hml, hown, hts⟩ (c_M_in l hE v 0 1000000) (va_cwS 3 hts (hw_goodS kw_585 kw_586 kw_26 kw_587) rfl rfl rfl (by decide +kernel) ⟨Nat.le_of_ble_eq_true rfl, Nat.le_of_ble_eq_true rfl⟩) ⟨fr_blind, fr_pre hE hK⟩ rfl rfl hl.1 rfl (lv_room (Nat.le_of_ble_eq_true rfl)) d_M_isDay_4 ⟨Nat.le_of_ble_eq_true rfl, Nat.le_of_ble_eq_true rfl⟩) hS (fun r_1 u_1 H locs w_1 hE hS => ?_)
  rcases w_1 with ⟨rfl, pw_1⟩ | ⟨rfl, pw_1⟩
  · skip
    replace pw_1 := (in0 (m := 1000001) (by decide) (by decide)).mp pw_1
    obtain ⟨j_1, hj_1, rfl⟩ := pw_1
    refine lv_if_eq (tgt := 23) hx hb d_M_isDay_7 (by decide) (fun c_2 => ?_) (fun c_2 => ?_)
    · skip
      exact absurd c_2 (by decide)
    · skip
      refine lv_iload_n hx hb d_M_isDay_10 rfl (lv_at hl 1 rfl) ?_
      refine lv_aload_n hx hb d_M_isDay_11 rfl (lv_at hl 0 rfl) ?_
      refine fr_get (ci := 5) (Cn := hR_5) (T := hF_5) (N := 34) hx hb hT hi_5 hown hK hE (0, 40) rfl m0 rfl 2 (by decide) (hT _ kw_476) (fun _ h9 => h9) rfl d_M_isDay_12 ?_
      refine lv_irem hx hb d_M_isDay_15 (nI_ne0 (by omega) (by omega)) ?_
      refine lv_topi (fun y_3 ey_3 => ?_)
      obtain rfl : y_3 = nI (j_1 % gr) := ey_3.trans (pk_rem (by omega) (by omega) (by omega))
      refine lv_if_ne (tgt := 23) hx hb d_M_isDay_16 (by decide) (fun c_4 => ?_) (fun c_4 => ?_)
      · skip
        refine lv_iconst (v := 0) hx hb d_M_isDay_23 (by decide) ?_
        refine W.widen (k := 0) (n := 0) (Nat.le_of_ble_eq_true rfl) (Nat.le_of_ble_eq_true rfl) ?_
        exact W.zret (v := 0) (ty := .boolean) hx hb hr rfl (fun t9 ht9 hW9 => ⟨⟨0, (), rfl, Or.inr ⟨rfl, okDay_no (by omega) c_4⟩, ⟨by rw [ht9]; exact hE, va_K.moved hW9.alike hK⟩⟩, hS.F ht9⟩) hS.2.2 d_M_isDay_24
      · skip
        refine lv_iconst (v := 1) hx hb d_M_isDay_19 (by decide) ?_
        refine lv_goto (tgt := 24) hx hb d_M_isDay_20 (by decide) ?_
        refine W.widen (k := 0) (n := 0) (Nat.le_of_ble_eq_true rfl) (Nat.le_of_ble_eq_true rfl) ?_
        exact W.zret (v := 1) (ty := .boolean) hx hb hr rfl (fun t9 ht9 hW9 => ⟨⟨1, (), rfl, Or.inl ⟨rfl, j_1, by omega, rfl, by have := (nI_eq (a := j_1 % gr) (b := 0) (by have := Nat.mod_lt j_1 (show 0 < gr by omega); omega) (by decide)).mp (by rw [nI_0]; exact c_4); omega⟩, ⟨by rw [ht9]; exact hE, va_K.moved hW9.alike hK⟩⟩, hS.F ht9⟩) hS.2.2 d_M_isDay_24
  · skip
    replace pw_1 := fun q => pw_1 ((in0 (m := 1000001) (by decide) (by decide)).mpr q)
    refine lv_if_eq (tgt := 23) hx hb d_M_isDay_7 (by decide) (fun c_5 => ?_) (fun c_5 => ?_)
    · skip
      refine lv_iconst (v := 0) hx hb d_M_isDay_23 (by decide) ?_
      refine W.widen (k := 0) (n := 0) (Nat.le_of_ble_eq_true rfl) (Nat.le_of_ble_eq_true rfl) ?_
      exact W.zret (v := 0) (ty := .boolean) hx hb hr rfl (fun t9 ht9 hW9 => ⟨⟨0, (), rfl, Or.inr ⟨rfl, fun q => pw_1 (okDay_in q)⟩, ⟨by rw [ht9]; exact hE, va_K.moved hW9.alike hK⟩⟩, hS.F ht9⟩) hS.2.2 d_M_isDay_24
    · skip
      exact absurd c_5 (by decide)
set_option maxHeartbeats 4000000 in
set_option maxRecDepth 100000 in
theorem c_M_isRecord (l : Launch) {D : va_G} {z : Nat} {b : Nat → Nat} {C : fr_C} {H9 : Heap} (h9 : fr_W D hCl z b C H9) {cI cZ cJ cP cO : ClassId} {th : Int32} {pg gr lf an n lc ps rw tk po : Nat}  (m0 : C (0, 40) = some (.inr (5, fM b th pg gr lf an n lc ps rw tk po)))  (hn : n ≤ 150) (v : Int32) : Met l y_M_isRecord w_M_isRecord ({ frames := 1, cells := 0, slots := 0, locals := 22 }) (va_Pc [.ref (b 40), .int v] (fr_G D hCl (hTy cI cZ cJ cP cO) z b C)) (va_Qi (fun (r : Int32) (u : Unit) => tells r (inN v n)) (fun u t => fr_G D hCl (hTy cI cZ cJ cP cO) z ((fun _ => b) u) ((fun _ => C) u) t) (fr_A z)) 0 0 (fr_A z) := by
  refine Met.ofW (cc := b_M_isRecord) (maxL := 2) (ret := (some .boolean)) (by decide) rfl ?_
  intro p e s m args below meth c s₁ B hml hv
  obtain ⟨rfl, hE, hK⟩ := hv
  have hx := B.exec
  have hb := B.bytes
  have hr := B.returns
  have hts := atoms_spec (ws := w_M_isRecord) B.pre
  have hT : ∀ w ∈ hw_tbl, w.before _ s = true := fun w h => hts w (List.mem_cons_of_mem _ h)
  have hown : s.vm.findClass "HarvestStepsModel" = some m.cls := findClass_of_methodNamed B.named
  have hlocks := B.notSynchronized
  have hS : va_S (fr_A z) s.heap s.heap [] := va_S.rf
  have hl := lv_entry ([.ref (b 40), .int v]) (n := 2) (Nat.le_of_ble_eq_true rfl)
  rw [lg_entry_eq]
  generalize (lg_sl ([.ref (b 40), .int v]) ++ List.replicate (2 - (lg_sl ([.ref (b 40), .int v])).length) Slot.unset).toArray = ls at hl ⊢
  have hl : lv_has ls 2 [(0, .ref (b 40)), (1, .int v)] := hl
  refine lv_iload_n hx hb d_M_isRecord_0 rfl (lv_at hl 1 rfl) ?_
  refine lv_iconst (v := 0) hx hb d_M_isRecord_1 (by decide) ?_
  refine lv_aload_n hx hb d_M_isRecord_2 rfl (lv_at hl 0 rfl) ?_
  refine fr_get (ci := 5) (Cn := hR_5) (T := hF_5) (N := 34) hx hb hT hi_5 hown hK hE (0, 40) rfl m0 rfl 5 (by decide) (hT _ kw_479) (fun _ h9 => h9) rfl d_M_isRecord_3 ?_
  refine lv_iconst (v := 1) hx hb d_M_isRecord_6 (by decide) ?_
  refine lv_isub hx hb d_M_isRecord_7 ?_
  refine fr_calli (va_runS (As := [.int v, .int 0, .int ((nI n) - 1)]) (rest := []) ⟨hx, hb, hml, hown, hts⟩ (c_M_in l hE v 0 (nI n - 1)) (va_cwS 3 hts (hw_goodS kw_585 kw_586 kw_26 kw_587) rfl rfl rfl (by decide +kernel) ⟨Nat.le_of_ble_eq_true rfl, Nat.le_of_ble_eq_true rfl⟩) ⟨fr_blind, fr_pre hE hK⟩ rfl rfl hl.1 rfl (lv_room (Nat.le_of_ble_eq_true rfl)) d_M_isRecord_8 ⟨Nat.le_of_ble_eq_true rfl, Nat.le_of_ble_eq_true rfl⟩) hS (fun r_1 u_1 H locs w_1 hE hS => ?_)
  rcases w_1 with ⟨rfl, pw_1⟩ | ⟨rfl, pw_1⟩
  · skip
    replace pw_1 := (in0 (m := n) (nI_m1 (by omega)) (by omega)).mp pw_1
    refine W.widen (k := 0) (n := 0) (Nat.le_of_ble_eq_true rfl) (Nat.le_of_ble_eq_true rfl) ?_
    exact W.zret (v := 1) (ty := .boolean) hx hb hr rfl (fun t9 ht9 hW9 => ⟨⟨1, (), rfl, Or.inl ⟨rfl, pw_1⟩, ⟨by rw [ht9]; exact hE, va_K.moved hW9.alike hK⟩⟩, hS.F ht9⟩) hS.2.2 d_M_isRecord_11
  · skip
    replace pw_1 := fun q => pw_1 ((in0 (m := n) (nI_m1 (by omega)) (by omega)).mpr q)
    refine W.widen (k := 0) (n := 0) (Nat.le_of_ble_eq_true rfl) (Nat.le_of_ble_eq_true rfl) ?_
    exact W.zret (v := 0) (ty := .boolean) hx hb hr rfl (fun t9 ht9 hW9 => ⟨⟨0, (), rfl, Or.inr ⟨rfl, pw_1⟩, ⟨by rw [ht9]; exact hE, va_K.moved hW9.alike hK⟩⟩, hS.F ht9⟩) hS.2.2 d_M_isRecord_11
set_option maxHeartbeats 4000000 in
set_option maxRecDepth 100000 in
theorem c_M_isHeld (l : Launch) {D : va_G} {z : Nat} {b : Nat → Nat} {C : fr_C} {H9 : Heap} (h9 : fr_W D hCl z b C H9) {cI cZ cJ cP cO : ClassId} {th : Int32} {pg gr lf an n lc ps rw tk po : Nat} {hd : Nat → Int32} (m0 : C (0, 40) = some (.inr (5, fM b th pg gr lf an n lc ps rw tk po))) (m10 : C (0, 50) = some (.inl (cZ, 6, .inl hd))) (f : Int32) : Met l y_M_isHeld w_M_isHeld ({ frames := 1, cells := 0, slots := 0, locals := 22 }) (va_Pc [.ref (b 40), .int f] (fr_G D hCl (hTy cI cZ cJ cP cO) z b C)) (va_Qi (fun (r : Int32) (u : Unit) => tells r (isHeldP hd f)) (fun u t => fr_G D hCl (hTy cI cZ cJ cP cO) z ((fun _ => b) u) ((fun _ => C) u) t) (fr_A z)) 0 0 (fr_A z) := by
  refine Met.ofW (cc := b_M_isHeld) (maxL := 2) (ret := (some .boolean)) (by decide) rfl ?_
  intro p e s m args below meth c s₁ B hml hv
  obtain ⟨rfl, hE, hK⟩ := hv
  have hx := B.exec
  have hb := B.bytes
  have hr := B.returns
  have hts := atoms_spec (ws := w_M_isHeld) B.pre
  have hT : ∀ w ∈ hw_tbl, w.before _ s = true := fun w h => hts w (List.mem_cons_of_mem _ h)
  have hown : s.vm.findClass "HarvestStepsModel" = some m.cls := findClass_of_methodNamed B.named
  have hlocks := B.notSynchronized
  have hS : va_S (fr_A z) s.heap s.heap [] := va_S.rf
  have hl := lv_entry ([.ref (b 40), .int f]) (n := 2) (Nat.le_of_ble_eq_true rfl)
  rw [lg_entry_eq]
  generalize (lg_sl ([.ref (b 40), .int f]) ++ List.replicate (2 - (lg_sl ([.ref (b 40), .int f])).length) Slot.unset).toArray = ls at hl ⊢
  have hl : lv_has ls 2 [(0, .ref (b 40)), (1, .int f)] := hl
  refine lv_iload_n hx hb d_M_isHeld_0 rfl (lv_at hl 1 rfl) ?_
  refine lv_iconst (v := 0) hx hb d_M_isHeld_1 (by decide) ?_
  refine lv_iconst (v := 5) hx hb d_M_isHeld_2 (by decide) ?_
  refine fr_calli (va_runS (As := [.int f, .int 0, .int 5]) (rest := []) ⟨hx, hb, hml, hown, hts⟩ (c_M_in l hE f 0 5) (va_cwS 3 hts (hw_goodS kw_585 kw_586 kw_26 kw_587) rfl rfl rfl (by decide +kernel) ⟨Nat.le_of_ble_eq_true rfl, Nat.le_of_ble_eq_true rfl⟩) ⟨fr_blind, fr_pre hE hK⟩ rfl rfl hl.1 rfl (lv_room (Nat.le_of_ble_eq_true rfl)) d_M_isHeld_3 ⟨Nat.le_of_ble_eq_true rfl, Nat.le_of_ble_eq_true rfl⟩) hS (fun r_1 u_1 H locs w_1 hE hS => ?_)
  rcases w_1 with ⟨rfl, pw_1⟩ | ⟨rfl, pw_1⟩
  · skip
    replace pw_1 := (in0 (m := 6) (by decide) (by decide)).mp pw_1
    obtain ⟨j_1, hj_1, rfl⟩ := pw_1
    refine lv_if_eq (tgt := 22) hx hb d_M_isHeld_6 (by decide) (fun c_2 => ?_) (fun c_2 => ?_)
    · skip
      exact absurd c_2 (by decide)
    · skip
      refine lv_aload_n hx hb d_M_isHeld_9 rfl (lv_at hl 0 rfl) ?_
      refine fr_get (ci := 5) (Cn := hR_5) (T := hF_5) (N := 34) hx hb hT hi_5 hown hK hE (0, 40) rfl m0 rfl 10 (by decide) (hT _ kw_484) (fun _ h9 => h9) rfl d_M_isHeld_10 ?_
      refine lv_iload_n hx hb d_M_isHeld_13 rfl (lv_at hl 1 rfl) ?_
      refine fr_zald hx hb hK hE (0, 50) 1 rfl m10 rfl j_1 (rfl) (hj_1) (by decide) d_M_isHeld_14 ?_
      refine lv_if_eq (tgt := 22) hx hb d_M_isHeld_15 (by decide) (fun c_3 => ?_) (fun c_3 => ?_)
      · skip
        refine lv_iconst (v := 0) hx hb d_M_isHeld_22 (by decide) ?_
        refine W.widen (k := 0) (n := 0) (Nat.le_of_ble_eq_true rfl) (Nat.le_of_ble_eq_true rfl) ?_
        exact W.zret (v := 0) (ty := .boolean) hx hb hr rfl (fun t9 ht9 hW9 => ⟨⟨0, (), rfl, Or.inr ⟨rfl, not_isHeldP hj_1 c_3⟩, ⟨by rw [ht9]; exact hE, va_K.moved hW9.alike hK⟩⟩, hS.F ht9⟩) hS.2.2 d_M_isHeld_23
      · skip
        refine lv_iconst (v := 1) hx hb d_M_isHeld_18 (by decide) ?_
        refine lv_goto (tgt := 23) hx hb d_M_isHeld_19 (by decide) ?_
        refine W.widen (k := 0) (n := 0) (Nat.le_of_ble_eq_true rfl) (Nat.le_of_ble_eq_true rfl) ?_
        exact W.zret (v := 1) (ty := .boolean) hx hb hr rfl (fun t9 ht9 hW9 => ⟨⟨1, (), rfl, Or.inl ⟨rfl, j_1, hj_1, rfl, c_3⟩, ⟨by rw [ht9]; exact hE, va_K.moved hW9.alike hK⟩⟩, hS.F ht9⟩) hS.2.2 d_M_isHeld_23
  · skip
    replace pw_1 := fun q => pw_1 ((in0 (m := 6) (by decide) (by decide)).mpr q)
    refine lv_if_eq (tgt := 22) hx hb d_M_isHeld_6 (by decide) (fun c_4 => ?_) (fun c_4 => ?_)
    · skip
      refine lv_iconst (v := 0) hx hb d_M_isHeld_22 (by decide) ?_
      refine W.widen (k := 0) (n := 0) (Nat.le_of_ble_eq_true rfl) (Nat.le_of_ble_eq_true rfl) ?_
      exact W.zret (v := 0) (ty := .boolean) hx hb hr rfl (fun t9 ht9 hW9 => ⟨⟨0, (), rfl, Or.inr ⟨rfl, fun q => pw_1 (by obtain ⟨j, h1, h2, -⟩ := q; exact ⟨j, h1, h2⟩)⟩, ⟨by rw [ht9]; exact hE, va_K.moved hW9.alike hK⟩⟩, hS.F ht9⟩) hS.2.2 d_M_isHeld_23
    · skip
      exact absurd c_4 (by decide)
set_option maxHeartbeats 4000000 in
set_option maxRecDepth 100000 in
theorem c_M_act (l : Launch) {D : va_G} {z : Nat} {b : Nat → Nat} {C : fr_C} {H9 : Heap} (h9 : fr_W D hCl z b C H9) {cI cZ cJ cP cO : ClassId} {th : Int32} {pg gr lf an n lc ps rw tk po : Nat} {dy : Nat → Int32} {dl : Nat → Int32} {ac : Nat → Int32} (m0 : C (0, 40) = some (.inr (5, fM b th pg gr lf an n lc ps rw tk po))) (m7 : C (0, 47) = some (.inl (cI, 150, .inl dy))) (m8 : C (0, 48) = some (.inl (cZ, 150, .inl dl))) (m9 : C (0, 49) = some (.inl (cI, 150, .inl ac))) (j : Nat) (hj : j < 150) (day x : Int32) (hxx : vp_nar .boolean x = x) : Met l y_M_act w_M_act ({ frames := 0, cells := 0, slots := 0, locals := 0 }) (va_Pc [.ref (b 40), .int (nI j), .int day, .int x] (fr_G D hCl (hTy cI cZ cJ cP cO) z b C)) (va_Qv (fun (u : Unit) => True) (fun u t => fr_G D hCl (hTy cI cZ cJ cP cO) z ((fun _ => b) u) ((fun _ => mAct b C cI cZ th pg gr lf an n lc ps rw tk po ac dy dl j day x) u) t) (fr_A z)) 0 0 (fr_A z) := by
  refine Met.ofW (cc := b_M_act) (maxL := 4) (ret := none) (by decide) rfl ?_
  intro p e s m args below meth c s₁ B hml hv
  obtain ⟨rfl, hE, hK⟩ := hv
  have hx := B.exec
  have hb := B.bytes
  have hr := B.returns
  have hts := atoms_spec (ws := w_M_act) B.pre
  have hT : ∀ w ∈ hw_tbl, w.before _ s = true := fun w h => hts w (List.mem_cons_of_mem _ h)
  have hown : s.vm.findClass "HarvestStepsModel" = some m.cls := findClass_of_methodNamed B.named
  have hlocks := B.notSynchronized
  have hS : va_S (fr_A z) s.heap s.heap [] := va_S.rf
  have hl := lv_entry ([.ref (b 40), .int (nI j), .int day, .int x]) (n := 4) (Nat.le_of_ble_eq_true rfl)
  rw [lg_entry_eq]
  generalize (lg_sl ([.ref (b 40), .int (nI j), .int day, .int x]) ++ List.replicate (4 - (lg_sl ([.ref (b 40), .int (nI j), .int day, .int x])).length) Slot.unset).toArray = ls at hl ⊢
  have hl : lv_has ls 4 [(0, .ref (b 40)), (1, .int (nI j)), (2, .int day), (3, .int x)] := hl
  refine lv_aload_n hx hb d_M_act_0 rfl (lv_at hl 0 rfl) ?_
  refine lv_dup hx hb d_M_act_1 rfl ?_
  refine fr_get (ci := 5) (Cn := hR_5) (T := hF_5) (N := 34) hx hb hT hi_5 hown hK hE (0, 40) rfl m0 rfl 4 (by decide) (hT _ kw_478) (fun _ h9 => h9) rfl d_M_act_2 ?_
  refine lv_iconst (v := 1) hx hb d_M_act_5 (by decide) ?_
  refine lv_iadd hx hb d_M_act_6 ?_
  refine lv_topi (fun y_1 ey_1 => ?_)
  obtain rfl : y_1 = nI (an + 1) := ey_1.trans (nI_1 an)
  refine fr_put (ci := 5) (v := .int (nI (an + 1))) (ty := .int) (Cn := hR_5) (T := hF_5) (N := 34) hx hb hT hi_5 hy_5 ho_5 hn_5 hown hK hE hS (0, 40) rfl m0 rfl 4 (by decide) (hT _ kw_478) (fun _ h9 => h9) rfl (by decide +kernel) rfl rfl (Nat.le_of_ble_eq_true rfl) d_M_act_7 (fun H locs hE hS => ?_)
  refine lv_aload_n hx hb d_M_act_10 rfl (lv_at hl 0 rfl) ?_
  refine fr_get (ci := 5) (Cn := hR_5) (T := hF_5) (N := 34) hx hb hT hi_5 hown hK hE (0, 40) rfl rfl rfl 7 (by decide) (hT _ kw_481) (fun _ h9 => h9) rfl d_M_act_11 ?_
  refine lv_iload_n hx hb d_M_act_14 rfl (lv_at hl 1 rfl) ?_
  refine lv_iload_n hx hb d_M_act_15 rfl (lv_at hl 2 rfl) ?_
  refine fr_iast hx hb hK hE hS (0, 47) 0 rfl m7 rfl j (rfl) (hj) (by decide) d_M_act_16 (fun H locs hE hS => ?_)
  refine lv_aload_n hx hb d_M_act_17 rfl (lv_at hl 0 rfl) ?_
  refine fr_get (ci := 5) (Cn := hR_5) (T := hF_5) (N := 34) hx hb hT hi_5 hown hK hE (0, 40) rfl rfl rfl 8 (by decide) (hT _ kw_482) (fun _ h9 => h9) rfl d_M_act_18 ?_
  refine lv_iload_n hx hb d_M_act_21 rfl (lv_at hl 1 rfl) ?_
  refine lv_iload_n hx hb d_M_act_22 rfl (lv_at hl 3 rfl) ?_
  refine fr_zast hx hb hK hE hS (0, 48) 1 rfl m8 rfl j (rfl) (hj) (by decide) x (hxx) d_M_act_23 (fun H locs hE hS => ?_)
  refine lv_aload_n hx hb d_M_act_24 rfl (lv_at hl 0 rfl) ?_
  refine fr_get (ci := 5) (Cn := hR_5) (T := hF_5) (N := 34) hx hb hT hi_5 hown hK hE (0, 40) rfl rfl rfl 9 (by decide) (hT _ kw_483) (fun _ h9 => h9) rfl d_M_act_25 ?_
  refine lv_iload_n hx hb d_M_act_28 rfl (lv_at hl 1 rfl) ?_
  refine lv_aload_n hx hb d_M_act_29 rfl (lv_at hl 0 rfl) ?_
  refine fr_get (ci := 5) (Cn := hR_5) (T := hF_5) (N := 34) hx hb hT hi_5 hown hK hE (0, 40) rfl rfl rfl 4 (by decide) (hT _ kw_478) (fun _ h9 => h9) rfl d_M_act_30 ?_
  refine fr_iast hx hb hK hE hS (0, 49) 0 rfl m9 rfl j (rfl) (hj) (by decide) d_M_act_33 (fun H locs hE hS => ?_)
  refine W.widen (k := 0) (n := 0) (Nat.le_of_ble_eq_true rfl) (Nat.le_of_ble_eq_true rfl) ?_
  exact W.vret hx hb hr (fun t9 ht9 hW9 => ⟨⟨(), rfl, trivial, ⟨by rw [ht9]; exact hE, va_K.moved hW9.alike hK⟩⟩, hS.F ht9⟩) hS.2.2 d_M_act_34
set_option maxHeartbeats 4000000 in
set_option maxRecDepth 100000 in
theorem c_M_record (l : Launch) {D : va_G} {z : Nat} {b : Nat → Nat} {C : fr_C} {H9 : Heap} (h9 : fr_W D hCl z b C H9) {cI cZ cJ cP cO : ClassId} {th : Int32} {pg gr lf an n lc ps rw tk po : Nat} {st : Nat → Int32} {dy : Nat → Int32} {dl : Nat → Int32} {ac : Nat → Int32} (m0 : C (0, 40) = some (.inr (5, fM b th pg gr lf an n lc ps rw tk po))) (m6 : C (0, 46) = some (.inl (cI, 150, .inl st))) (m7 : C (0, 47) = some (.inl (cI, 150, .inl dy))) (m8 : C (0, 48) = some (.inl (cZ, 150, .inl dl))) (m9 : C (0, 49) = some (.inl (cI, 150, .inl ac))) (hn : n ≤ 150) (hg : 1 ≤ gr ∧ gr ≤ 100) (set day : Int32) : Met l y_M_record w_M_record ({ frames := 2, cells := 0, slots := 0, locals := 44 }) (va_Pc [.ref (b 40), .int set, .int day] (fr_G D hCl (hTy cI cZ cJ cP cO) z b C)) (va_Qi (fun (r : Int32) (u : fr_C) => (¬ (inN set 10 ∧ okDay gr day) ∧ r = -2 ∧ u = fr_up C (0, 40) (.inr (5, fM b 0 pg gr lf an n lc ps rw tk po))) ∨ ((inN set 10 ∧ okDay gr day) ∧ 150 ≤ n ∧ r = -4 ∧ u = fr_up C (0, 40) (.inr (5, fM b 0 pg gr lf an n lc ps rw tk po))) ∨ ((inN set 10 ∧ okDay gr day) ∧ n < 150 ∧ r = nI n ∧ u = mRec b C cI cZ pg gr lf an n lc ps rw tk po st ac dy dl set day)) (fun u t => fr_G D hCl (hTy cI cZ cJ cP cO) z ((fun _ => b) u) ((fun u => u) u) t) (fr_A z)) 0 0 (fr_A z) := by
  refine Met.ofW (cc := b_M_record) (maxL := 3) (ret := (some .int)) (by decide) rfl ?_
  intro p e s m args below meth c s₁ B hml hv
  obtain ⟨rfl, hE, hK⟩ := hv
  have hx := B.exec
  have hb := B.bytes
  have hr := B.returns
  have hts := atoms_spec (ws := w_M_record) B.pre
  have hT : ∀ w ∈ hw_tbl, w.before _ s = true := fun w h => hts w (List.mem_cons_of_mem _ h)
  have hown : s.vm.findClass "HarvestStepsModel" = some m.cls := findClass_of_methodNamed B.named
  have hlocks := B.notSynchronized
  have hS : va_S (fr_A z) s.heap s.heap [] := va_S.rf
  have hl := lv_entry ([.ref (b 40), .int set, .int day]) (n := 3) (Nat.le_of_ble_eq_true rfl)
  rw [lg_entry_eq]
  generalize (lg_sl ([.ref (b 40), .int set, .int day]) ++ List.replicate (3 - (lg_sl ([.ref (b 40), .int set, .int day])).length) Slot.unset).toArray = ls at hl ⊢
  have hl : lv_has ls 3 [(0, .ref (b 40)), (1, .int set), (2, .int day)] := hl
  refine lv_aload_n hx hb d_M_record_0 rfl (lv_at hl 0 rfl) ?_
  refine lv_iconst (v := 0) hx hb d_M_record_1 (by decide) ?_
  refine fr_put (ci := 5) (v := .int 0) (ty := .int) (Cn := hR_5) (T := hF_5) (N := 34) hx hb hT hi_5 hy_5 ho_5 hn_5 hown hK hE hS (0, 40) rfl m0 rfl 0 (by decide) (hT _ kw_474) (fun _ h9 => h9) rfl (by decide +kernel) rfl rfl (Nat.le_of_ble_eq_true rfl) d_M_record_2 (fun H locs hE hS => ?_)
  refine lv_iload_n hx hb d_M_record_5 rfl (lv_at hl 1 rfl) ?_
  refine lv_iconst (v := 0) hx hb d_M_record_6 (by decide) ?_
  refine lv_bipush (v := 9) hx hb d_M_record_7 (by decide) ?_
  refine fr_calli (va_runS (As := [.int set, .int 0, .int 9]) (rest := []) ⟨hx, hb, hml, hown, hts⟩ (c_M_in l hE set 0 9) (va_cwS 3 hts (hw_goodS kw_585 kw_586 kw_26 kw_587) rfl rfl rfl (by decide +kernel) ⟨Nat.le_of_ble_eq_true rfl, Nat.le_of_ble_eq_true rfl⟩) ⟨fr_blind, fr_pre hE hK⟩ rfl rfl hl.1 rfl (lv_room (Nat.le_of_ble_eq_true rfl)) d_M_record_9 ⟨Nat.le_of_ble_eq_true rfl, Nat.le_of_ble_eq_true rfl⟩) hS (fun r_1 u_1 H locs w_1 hE hS => ?_)
  rcases w_1 with ⟨rfl, pw_1⟩ | ⟨rfl, pw_1⟩
  · skip
    replace pw_1 := (in0 (m := 10) (by decide) (by decide)).mp pw_1
    refine lv_if_eq (tgt := 23) hx hb d_M_record_12 (by decide) (fun c_2 => ?_) (fun c_2 => ?_)
    · skip
      exact absurd c_2 (by decide)
    · skip
      refine lv_aload_n hx hb d_M_record_15 rfl (lv_at hl 0 rfl) ?_
      refine lv_iload_n hx hb d_M_record_16 rfl (lv_at hl 2 rfl) ?_
      refine fr_calli (va_runV (As := [.int day]) (rest := []) ⟨hx, hb, hml, hown, hts⟩ (c_M_isDay l hE (pg := pg) (gr := gr) (lf := lf) (an := an) (n := n) (lc := lc) (ps := ps) (rw := rw) (tk := tk) (po := po) rfl hg day) (cwV 1 hts (hw_goodV kw_588 kw_590 kw_13 kw_26 kw_591) rfl rfl rfl (by decide +kernel) ⟨Nat.le_of_ble_eq_true rfl, Nat.le_of_ble_eq_true rfl⟩) ⟨fr_blind, fr_recv hK hE (0, 40) rfl rfl (ci := 5) rfl, fr_pre hE hK⟩ rfl rfl hl.1 rfl (lv_room (Nat.le_of_ble_eq_true rfl)) d_M_record_17 ⟨Nat.le_of_ble_eq_true rfl, Nat.le_of_ble_eq_true rfl⟩) hS (fun r_3 u_3 H locs w_3 hE hS => ?_)
      rcases w_3 with ⟨rfl, pw_3⟩ | ⟨rfl, pw_3⟩
      · skip
        refine lv_if_ne (tgt := 26) hx hb d_M_record_20 (by decide) (fun c_4 => ?_) (fun c_4 => ?_)
        · skip
          refine lv_aload_n hx hb d_M_record_26 rfl (lv_at hl 0 rfl) ?_
          refine fr_get (ci := 5) (Cn := hR_5) (T := hF_5) (N := 34) hx hb hT hi_5 hown hK hE (0, 40) rfl rfl rfl 5 (by decide) (hT _ kw_479) (fun _ h9 => h9) rfl d_M_record_27 ?_
          refine lv_sipush (v := 150) hx hb d_M_record_30 (by decide) ?_
          refine lv_icmp_ne (tgt := 39) hx hb d_M_record_33 (by decide) (fun c_5 => ?_) (fun c_5 => ?_)
          · skip
            have k_c_5 : n < 150 := by rcases Nat.lt_or_ge n 150 with q | q; exact q; exact absurd (by rw [show n = 150 by omega]; rfl) c_5
            refine lv_aload_n hx hb d_M_record_39 rfl (lv_at hl 0 rfl) ?_
            refine fr_get (ci := 5) (Cn := hR_5) (T := hF_5) (N := 34) hx hb hT hi_5 hown hK hE (0, 40) rfl rfl rfl 6 (by decide) (hT _ kw_480) (fun _ h9 => h9) rfl d_M_record_40 ?_
            refine lv_aload_n hx hb d_M_record_43 rfl (lv_at hl 0 rfl) ?_
            refine fr_get (ci := 5) (Cn := hR_5) (T := hF_5) (N := 34) hx hb hT hi_5 hown hK hE (0, 40) rfl rfl rfl 5 (by decide) (hT _ kw_479) (fun _ h9 => h9) rfl d_M_record_44 ?_
            refine lv_iload_n hx hb d_M_record_47 rfl (lv_at hl 1 rfl) ?_
            refine fr_iast hx hb hK hE hS (0, 46) 0 rfl m6 rfl n (rfl) (k_c_5) (by decide) d_M_record_48 (fun H locs hE hS => ?_)
            refine lv_aload_n hx hb d_M_record_49 rfl (lv_at hl 0 rfl) ?_
            refine lv_aload_n hx hb d_M_record_50 rfl (lv_at hl 0 rfl) ?_
            refine fr_get (ci := 5) (Cn := hR_5) (T := hF_5) (N := 34) hx hb hT hi_5 hown hK hE (0, 40) rfl rfl rfl 5 (by decide) (hT _ kw_479) (fun _ h9 => h9) rfl d_M_record_51 ?_
            refine lv_iload_n hx hb d_M_record_54 rfl (lv_at hl 2 rfl) ?_
            refine lv_iconst (v := 0) hx hb d_M_record_55 (by decide) ?_
            refine fr_callv (va_runV (As := [.int (nI n), .int day, .int 0]) (rest := []) ⟨hx, hb, hml, hown, hts⟩ (c_M_act l hE (pg := pg) (gr := gr) (lf := lf) (an := an) (n := n) (lc := lc) (ps := ps) (rw := rw) (tk := tk) (po := po) rfl m7 m8 m9 n k_c_5 day 0 (by decide)) (cwV 3 hts (hw_goodV kw_592 kw_594 kw_14 kw_26 kw_595) rfl rfl rfl (by decide +kernel) ⟨Nat.le_of_ble_eq_true rfl, Nat.le_of_ble_eq_true rfl⟩) ⟨fr_blind, fr_recv hK hE (0, 40) rfl rfl (ci := 5) rfl, fr_pre hE hK⟩ rfl rfl hl.1 rfl (lv_room (Nat.le_of_ble_eq_true rfl)) d_M_record_56 ⟨Nat.le_of_ble_eq_true rfl, Nat.le_of_ble_eq_true rfl⟩) hS (fun u_6 H locs w_6 hE hS => ?_)
            refine lv_aload_n hx hb d_M_record_59 rfl (lv_at hl 0 rfl) ?_
            refine lv_dup hx hb d_M_record_60 rfl ?_
            refine fr_get (ci := 5) (Cn := hR_5) (T := hF_5) (N := 34) hx hb hT hi_5 hown hK hE (0, 40) rfl rfl rfl 5 (by decide) (hT _ kw_479) (fun _ h9 => h9) rfl d_M_record_61 ?_
            refine lv_iconst (v := 1) hx hb d_M_record_64 (by decide) ?_
            refine lv_iadd hx hb d_M_record_65 ?_
            refine lv_topi (fun y_7 ey_7 => ?_)
            obtain rfl : y_7 = nI (n + 1) := ey_7.trans (nI_1 n)
            refine fr_put (ci := 5) (v := .int (nI (n + 1))) (ty := .int) (Cn := hR_5) (T := hF_5) (N := 34) hx hb hT hi_5 hy_5 ho_5 hn_5 hown hK hE hS (0, 40) rfl rfl rfl 5 (by decide) (hT _ kw_479) (fun _ h9 => h9) rfl (by decide +kernel) rfl rfl (Nat.le_of_ble_eq_true rfl) d_M_record_66 (fun H locs hE hS => ?_)
            refine lv_aload_n hx hb d_M_record_69 rfl (lv_at hl 0 rfl) ?_
            refine fr_get (ci := 5) (Cn := hR_5) (T := hF_5) (N := 34) hx hb hT hi_5 hown hK hE (0, 40) rfl rfl rfl 5 (by decide) (hT _ kw_479) (fun _ h9 => h9) rfl d_M_record_70 ?_
            refine lv_iconst (v := 1) hx hb d_M_record_73 (by decide) ?_
            refine lv_isub hx hb d_M_record_74 ?_
            refine lv_topi (fun y_8 ey_8 => ?_)
            obtain rfl : y_8 = nI n := ey_8.trans (nI_pred n)
            refine W.widen (k := 0) (n := 0) (Nat.le_of_ble_eq_true rfl) (Nat.le_of_ble_eq_true rfl) ?_
            exact W.iret (v := nI n) hx hb hr (fun t9 ht9 hW9 => ⟨⟨nI n, _, rfl, Or.inr (Or.inr ⟨⟨pw_1, pw_3⟩, k_c_5, rfl, rfl⟩), ⟨by rw [ht9]; exact hE, va_K.moved hW9.alike hK⟩⟩, hS.F ht9⟩) hS.2.2 d_M_record_75
          · skip
            refine lv_bipush (v := (-4)) hx hb d_M_record_36 (by decide) ?_
            refine W.widen (k := 0) (n := 0) (Nat.le_of_ble_eq_true rfl) (Nat.le_of_ble_eq_true rfl) ?_
            exact W.iret (v := (-4)) hx hb hr (fun t9 ht9 hW9 => ⟨⟨(-4), _, rfl, Or.inr (Or.inl ⟨⟨pw_1, pw_3⟩, by have := (nI_eq (a := n) (b := 150) (by omega) (by decide)).mp c_5; omega, rfl, rfl⟩), ⟨by rw [ht9]; exact hE, va_K.moved hW9.alike hK⟩⟩, hS.F ht9⟩) hS.2.2 d_M_record_38
        · skip
          exact absurd c_4 (by decide)
      · skip
        refine lv_if_ne (tgt := 26) hx hb d_M_record_20 (by decide) (fun c_9 => ?_) (fun c_9 => ?_)
        · skip
          exact absurd c_9 (by decide)
        · skip
          refine lv_bipush (v := (-2)) hx hb d_M_record_23 (by decide) ?_
          refine W.widen (k := 0) (n := 0) (Nat.le_of_ble_eq_true rfl) (Nat.le_of_ble_eq_true rfl) ?_
          exact W.iret (v := (-2)) hx hb hr (fun t9 ht9 hW9 => ⟨⟨(-2), _, rfl, Or.inl ⟨fun q => pw_3 q.2, rfl, rfl⟩, ⟨by rw [ht9]; exact hE, va_K.moved hW9.alike hK⟩⟩, hS.F ht9⟩) hS.2.2 d_M_record_25
  · skip
    replace pw_1 := fun q => pw_1 ((in0 (m := 10) (by decide) (by decide)).mpr q)
    refine lv_if_eq (tgt := 23) hx hb d_M_record_12 (by decide) (fun c_10 => ?_) (fun c_10 => ?_)
    · skip
      refine lv_bipush (v := (-2)) hx hb d_M_record_23 (by decide) ?_
      refine W.widen (k := 0) (n := 0) (Nat.le_of_ble_eq_true rfl) (Nat.le_of_ble_eq_true rfl) ?_
      exact W.iret (v := (-2)) hx hb hr (fun t9 ht9 hW9 => ⟨⟨(-2), _, rfl, Or.inl ⟨fun q => pw_1 q.1, rfl, rfl⟩, ⟨by rw [ht9]; exact hE, va_K.moved hW9.alike hK⟩⟩, hS.F ht9⟩) hS.2.2 d_M_record_25
    · skip
      exact absurd c_10 (by decide)
set_option maxHeartbeats 4000000 in
set_option maxRecDepth 100000 in
theorem c_M_change (l : Launch) {D : va_G} {z : Nat} {b : Nat → Nat} {C : fr_C} {H9 : Heap} (h9 : fr_W D hCl z b C H9) {cI cZ cJ cP cO : ClassId} {th : Int32} {pg gr lf an n lc ps rw tk po : Nat} {dy : Nat → Int32} {dl : Nat → Int32} {ac : Nat → Int32} (m0 : C (0, 40) = some (.inr (5, fM b th pg gr lf an n lc ps rw tk po))) (m7 : C (0, 47) = some (.inl (cI, 150, .inl dy))) (m8 : C (0, 48) = some (.inl (cZ, 150, .inl dl))) (m9 : C (0, 49) = some (.inl (cI, 150, .inl ac))) (hn : n ≤ 150) (hg : 1 ≤ gr ∧ gr ≤ 100) (rc day : Int32) : Met l y_M_change w_M_change ({ frames := 2, cells := 0, slots := 0, locals := 44 }) (va_Pc [.ref (b 40), .int rc, .int day] (fr_G D hCl (hTy cI cZ cJ cP cO) z b C)) (va_Qi (fun (r : Int32) (u : fr_C) => (¬ inN rc n ∧ r = -1 ∧ u = fr_up C (0, 40) (.inr (5, fM b 0 pg gr lf an n lc ps rw tk po))) ∨ (inN rc n ∧ ¬ okDay gr day ∧ r = -2 ∧ u = fr_up C (0, 40) (.inr (5, fM b 0 pg gr lf an n lc ps rw tk po))) ∨ (∃ j : Nat, j < n ∧ rc = nI j ∧ okDay gr day ∧ (((day < dy j) ∧ r = -3 ∧ u = fr_up C (0, 40) (.inr (5, fM b 0 pg gr lf an n lc ps rw tk po))) ∨ (¬ (day < dy j) ∧ r = 1 ∧ u = mAct b (fr_up C (0, 40) (.inr (5, fM b 0 pg gr lf an n lc ps rw tk po))) cI cZ 0 pg gr lf an n lc ps rw tk po ac dy dl j day 0)))) (fun u t => fr_G D hCl (hTy cI cZ cJ cP cO) z ((fun _ => b) u) ((fun u => u) u) t) (fr_A z)) 0 0 (fr_A z) := by
  refine Met.ofW (cc := b_M_change) (maxL := 3) (ret := (some .int)) (by decide) rfl ?_
  intro p e s m args below meth c s₁ B hml hv
  obtain ⟨rfl, hE, hK⟩ := hv
  have hx := B.exec
  have hb := B.bytes
  have hr := B.returns
  have hts := atoms_spec (ws := w_M_change) B.pre
  have hT : ∀ w ∈ hw_tbl, w.before _ s = true := fun w h => hts w (List.mem_cons_of_mem _ h)
  have hown : s.vm.findClass "HarvestStepsModel" = some m.cls := findClass_of_methodNamed B.named
  have hlocks := B.notSynchronized
  have hS : va_S (fr_A z) s.heap s.heap [] := va_S.rf
  have hl := lv_entry ([.ref (b 40), .int rc, .int day]) (n := 3) (Nat.le_of_ble_eq_true rfl)
  rw [lg_entry_eq]
  generalize (lg_sl ([.ref (b 40), .int rc, .int day]) ++ List.replicate (3 - (lg_sl ([.ref (b 40), .int rc, .int day])).length) Slot.unset).toArray = ls at hl ⊢
  have hl : lv_has ls 3 [(0, .ref (b 40)), (1, .int rc), (2, .int day)] := hl
  refine lv_aload_n hx hb d_M_change_0 rfl (lv_at hl 0 rfl) ?_
  refine lv_iconst (v := 0) hx hb d_M_change_1 (by decide) ?_
  refine fr_put (ci := 5) (v := .int 0) (ty := .int) (Cn := hR_5) (T := hF_5) (N := 34) hx hb hT hi_5 hy_5 ho_5 hn_5 hown hK hE hS (0, 40) rfl m0 rfl 0 (by decide) (hT _ kw_474) (fun _ h9 => h9) rfl (by decide +kernel) rfl rfl (Nat.le_of_ble_eq_true rfl) d_M_change_2 (fun H locs hE hS => ?_)
  refine lv_aload_n hx hb d_M_change_5 rfl (lv_at hl 0 rfl) ?_
  refine lv_iload_n hx hb d_M_change_6 rfl (lv_at hl 1 rfl) ?_
  refine fr_calli (va_runV (As := [.int rc]) (rest := []) ⟨hx, hb, hml, hown, hts⟩ (c_M_isRecord l hE (pg := pg) (gr := gr) (lf := lf) (an := an) (n := n) (lc := lc) (ps := ps) (rw := rw) (tk := tk) (po := po) rfl hn rc) (cwV 1 hts (hw_goodV kw_600 kw_602 kw_15 kw_26 kw_603) rfl rfl rfl (by decide +kernel) ⟨Nat.le_of_ble_eq_true rfl, Nat.le_of_ble_eq_true rfl⟩) ⟨fr_blind, fr_recv hK hE (0, 40) rfl rfl (ci := 5) rfl, fr_pre hE hK⟩ rfl rfl hl.1 rfl (lv_room (Nat.le_of_ble_eq_true rfl)) d_M_change_7 ⟨Nat.le_of_ble_eq_true rfl, Nat.le_of_ble_eq_true rfl⟩) hS (fun r_1 u_1 H locs w_1 hE hS => ?_)
  rcases w_1 with ⟨rfl, pw_1⟩ | ⟨rfl, pw_1⟩
  · skip
    obtain ⟨j_1, hj_1, rfl⟩ := pw_1
    refine lv_if_ne (tgt := 15) hx hb d_M_change_10 (by decide) (fun c_2 => ?_) (fun c_2 => ?_)
    · skip
      refine lv_aload_n hx hb d_M_change_15 rfl (lv_at hl 0 rfl) ?_
      refine lv_iload_n hx hb d_M_change_16 rfl (lv_at hl 2 rfl) ?_
      refine fr_calli (va_runV (As := [.int day]) (rest := []) ⟨hx, hb, hml, hown, hts⟩ (c_M_isDay l hE (pg := pg) (gr := gr) (lf := lf) (an := an) (n := n) (lc := lc) (ps := ps) (rw := rw) (tk := tk) (po := po) rfl hg day) (cwV 1 hts (hw_goodV kw_588 kw_590 kw_13 kw_26 kw_591) rfl rfl rfl (by decide +kernel) ⟨Nat.le_of_ble_eq_true rfl, Nat.le_of_ble_eq_true rfl⟩) ⟨fr_blind, fr_recv hK hE (0, 40) rfl rfl (ci := 5) rfl, fr_pre hE hK⟩ rfl rfl hl.1 rfl (lv_room (Nat.le_of_ble_eq_true rfl)) d_M_change_17 ⟨Nat.le_of_ble_eq_true rfl, Nat.le_of_ble_eq_true rfl⟩) hS (fun r_3 u_3 H locs w_3 hE hS => ?_)
      rcases w_3 with ⟨rfl, pw_3⟩ | ⟨rfl, pw_3⟩
      · skip
        refine lv_if_ne (tgt := 26) hx hb d_M_change_20 (by decide) (fun c_4 => ?_) (fun c_4 => ?_)
        · skip
          refine lv_iload_n hx hb d_M_change_26 rfl (lv_at hl 2 rfl) ?_
          refine lv_aload_n hx hb d_M_change_27 rfl (lv_at hl 0 rfl) ?_
          refine fr_get (ci := 5) (Cn := hR_5) (T := hF_5) (N := 34) hx hb hT hi_5 hown hK hE (0, 40) rfl rfl rfl 7 (by decide) (hT _ kw_481) (fun _ h9 => h9) rfl d_M_change_28 ?_
          refine lv_iload_n hx hb d_M_change_31 rfl (lv_at hl 1 rfl) ?_
          refine fr_iald hx hb hK hE (0, 47) 0 rfl m7 rfl j_1 (rfl) (by omega) (by decide) d_M_change_32 ?_
          refine lv_icmp_ge (tgt := 39) hx hb d_M_change_33 (by decide) (fun c_5 => ?_) (fun c_5 => ?_)
          · skip
            refine lv_aload_n hx hb d_M_change_39 rfl (lv_at hl 0 rfl) ?_
            refine lv_iload_n hx hb d_M_change_40 rfl (lv_at hl 1 rfl) ?_
            refine lv_iload_n hx hb d_M_change_41 rfl (lv_at hl 2 rfl) ?_
            refine lv_iconst (v := 0) hx hb d_M_change_42 (by decide) ?_
            refine fr_callv (va_runV (As := [.int (nI j_1), .int day, .int 0]) (rest := []) ⟨hx, hb, hml, hown, hts⟩ (c_M_act l hE (pg := pg) (gr := gr) (lf := lf) (an := an) (n := n) (lc := lc) (ps := ps) (rw := rw) (tk := tk) (po := po) rfl m7 m8 m9 j_1 (by omega) day 0 (by decide)) (cwV 3 hts (hw_goodV kw_592 kw_594 kw_14 kw_26 kw_595) rfl rfl rfl (by decide +kernel) ⟨Nat.le_of_ble_eq_true rfl, Nat.le_of_ble_eq_true rfl⟩) ⟨fr_blind, fr_recv hK hE (0, 40) rfl rfl (ci := 5) rfl, fr_pre hE hK⟩ rfl rfl hl.1 rfl (lv_room (Nat.le_of_ble_eq_true rfl)) d_M_change_43 ⟨Nat.le_of_ble_eq_true rfl, Nat.le_of_ble_eq_true rfl⟩) hS (fun u_6 H locs w_6 hE hS => ?_)
            refine lv_iconst (v := 1) hx hb d_M_change_46 (by decide) ?_
            refine W.widen (k := 0) (n := 0) (Nat.le_of_ble_eq_true rfl) (Nat.le_of_ble_eq_true rfl) ?_
            exact W.iret (v := 1) hx hb hr (fun t9 ht9 hW9 => ⟨⟨1, _, rfl, Or.inr (Or.inr ⟨j_1, hj_1, rfl, pw_3, Or.inr ⟨Int32.not_lt.mpr c_5, rfl, rfl⟩⟩), ⟨by rw [ht9]; exact hE, va_K.moved hW9.alike hK⟩⟩, hS.F ht9⟩) hS.2.2 d_M_change_47
          · skip
            refine lv_bipush (v := (-3)) hx hb d_M_change_36 (by decide) ?_
            refine W.widen (k := 0) (n := 0) (Nat.le_of_ble_eq_true rfl) (Nat.le_of_ble_eq_true rfl) ?_
            exact W.iret (v := (-3)) hx hb hr (fun t9 ht9 hW9 => ⟨⟨(-3), _, rfl, Or.inr (Or.inr ⟨j_1, hj_1, rfl, pw_3, Or.inl ⟨Int32.not_le.mp c_5, rfl, rfl⟩⟩), ⟨by rw [ht9]; exact hE, va_K.moved hW9.alike hK⟩⟩, hS.F ht9⟩) hS.2.2 d_M_change_38
        · skip
          exact absurd c_4 (by decide)
      · skip
        refine lv_if_ne (tgt := 26) hx hb d_M_change_20 (by decide) (fun c_7 => ?_) (fun c_7 => ?_)
        · skip
          exact absurd c_7 (by decide)
        · skip
          refine lv_bipush (v := (-2)) hx hb d_M_change_23 (by decide) ?_
          refine W.widen (k := 0) (n := 0) (Nat.le_of_ble_eq_true rfl) (Nat.le_of_ble_eq_true rfl) ?_
          exact W.iret (v := (-2)) hx hb hr (fun t9 ht9 hW9 => ⟨⟨(-2), _, rfl, Or.inr (Or.inl ⟨⟨j_1, hj_1, rfl⟩, pw_3, rfl, rfl⟩), ⟨by rw [ht9]; exact hE, va_K.moved hW9.alike hK⟩⟩, hS.F ht9⟩) hS.2.2 d_M_change_25
    · skip
      exact absurd c_2 (by decide)
  · skip
    refine lv_if_ne (tgt := 15) hx hb d_M_change_10 (by decide) (fun c_8 => ?_) (fun c_8 => ?_)
    · skip
      exact absurd c_8 (by decide)
    · skip
      refine lv_iconst (v := (-1)) hx hb d_M_change_13 (by decide) ?_
      refine W.widen (k := 0) (n := 0) (Nat.le_of_ble_eq_true rfl) (Nat.le_of_ble_eq_true rfl) ?_
      exact W.iret (v := (-1)) hx hb hr (fun t9 ht9 hW9 => ⟨⟨(-1), _, rfl, Or.inl ⟨pw_1, rfl, rfl⟩, ⟨by rw [ht9]; exact hE, va_K.moved hW9.alike hK⟩⟩, hS.F ht9⟩) hS.2.2 d_M_change_14
set_option maxHeartbeats 4000000 in
set_option maxRecDepth 100000 in
theorem c_M_delete (l : Launch) {D : va_G} {z : Nat} {b : Nat → Nat} {C : fr_C} {H9 : Heap} (h9 : fr_W D hCl z b C H9) {cI cZ cJ cP cO : ClassId} {th : Int32} {pg gr lf an n lc ps rw tk po : Nat} {dy : Nat → Int32} {dl : Nat → Int32} {ac : Nat → Int32} (m0 : C (0, 40) = some (.inr (5, fM b th pg gr lf an n lc ps rw tk po))) (m7 : C (0, 47) = some (.inl (cI, 150, .inl dy))) (m8 : C (0, 48) = some (.inl (cZ, 150, .inl dl))) (m9 : C (0, 49) = some (.inl (cI, 150, .inl ac))) (hn : n ≤ 150) (hg : 1 ≤ gr ∧ gr ≤ 100) (rc day : Int32) : Met l y_M_delete w_M_delete ({ frames := 2, cells := 0, slots := 0, locals := 44 }) (va_Pc [.ref (b 40), .int rc, .int day] (fr_G D hCl (hTy cI cZ cJ cP cO) z b C)) (va_Qi (fun (r : Int32) (u : fr_C) => (¬ inN rc n ∧ r = -1 ∧ u = fr_up C (0, 40) (.inr (5, fM b 0 pg gr lf an n lc ps rw tk po))) ∨ (inN rc n ∧ ¬ okDay gr day ∧ r = -2 ∧ u = fr_up C (0, 40) (.inr (5, fM b 0 pg gr lf an n lc ps rw tk po))) ∨ (∃ j : Nat, j < n ∧ rc = nI j ∧ okDay gr day ∧ (((¬ dl j = 0 ∨ day < dy j) ∧ r = -3 ∧ u = fr_up C (0, 40) (.inr (5, fM b 0 pg gr lf an n lc ps rw tk po))) ∨ (¬ (¬ dl j = 0 ∨ day < dy j) ∧ r = 1 ∧ u = mAct b (fr_up C (0, 40) (.inr (5, fM b 0 pg gr lf an n lc ps rw tk po))) cI cZ 0 pg gr lf an n lc ps rw tk po ac dy dl j day 1)))) (fun u t => fr_G D hCl (hTy cI cZ cJ cP cO) z ((fun _ => b) u) ((fun u => u) u) t) (fr_A z)) 0 0 (fr_A z) := by
  refine Met.ofW (cc := b_M_delete) (maxL := 3) (ret := (some .int)) (by decide) rfl ?_
  intro p e s m args below meth c s₁ B hml hv
  obtain ⟨rfl, hE, hK⟩ := hv
  have hx := B.exec
  have hb := B.bytes
  have hr := B.returns
  have hts := atoms_spec (ws := w_M_delete) B.pre
  have hT : ∀ w ∈ hw_tbl, w.before _ s = true := fun w h => hts w (List.mem_cons_of_mem _ h)
  have hown : s.vm.findClass "HarvestStepsModel" = some m.cls := findClass_of_methodNamed B.named
  have hlocks := B.notSynchronized
  have hS : va_S (fr_A z) s.heap s.heap [] := va_S.rf
  have hl := lv_entry ([.ref (b 40), .int rc, .int day]) (n := 3) (Nat.le_of_ble_eq_true rfl)
  rw [lg_entry_eq]
  generalize (lg_sl ([.ref (b 40), .int rc, .int day]) ++ List.replicate (3 - (lg_sl ([.ref (b 40), .int rc, .int day])).length) Slot.unset).toArray = ls at hl ⊢
  have hl : lv_has ls 3 [(0, .ref (b 40)), (1, .int rc), (2, .int day)] := hl
  refine lv_aload_n hx hb d_M_delete_0 rfl (lv_at hl 0 rfl) ?_
  refine lv_iconst (v := 0) hx hb d_M_delete_1 (by decide) ?_
  refine fr_put (ci := 5) (v := .int 0) (ty := .int) (Cn := hR_5) (T := hF_5) (N := 34) hx hb hT hi_5 hy_5 ho_5 hn_5 hown hK hE hS (0, 40) rfl m0 rfl 0 (by decide) (hT _ kw_474) (fun _ h9 => h9) rfl (by decide +kernel) rfl rfl (Nat.le_of_ble_eq_true rfl) d_M_delete_2 (fun H locs hE hS => ?_)
  refine lv_aload_n hx hb d_M_delete_5 rfl (lv_at hl 0 rfl) ?_
  refine lv_iload_n hx hb d_M_delete_6 rfl (lv_at hl 1 rfl) ?_
  refine fr_calli (va_runV (As := [.int rc]) (rest := []) ⟨hx, hb, hml, hown, hts⟩ (c_M_isRecord l hE (pg := pg) (gr := gr) (lf := lf) (an := an) (n := n) (lc := lc) (ps := ps) (rw := rw) (tk := tk) (po := po) rfl hn rc) (cwV 1 hts (hw_goodV kw_600 kw_602 kw_15 kw_26 kw_603) rfl rfl rfl (by decide +kernel) ⟨Nat.le_of_ble_eq_true rfl, Nat.le_of_ble_eq_true rfl⟩) ⟨fr_blind, fr_recv hK hE (0, 40) rfl rfl (ci := 5) rfl, fr_pre hE hK⟩ rfl rfl hl.1 rfl (lv_room (Nat.le_of_ble_eq_true rfl)) d_M_delete_7 ⟨Nat.le_of_ble_eq_true rfl, Nat.le_of_ble_eq_true rfl⟩) hS (fun r_1 u_1 H locs w_1 hE hS => ?_)
  rcases w_1 with ⟨rfl, pw_1⟩ | ⟨rfl, pw_1⟩
  · skip
    obtain ⟨j_1, hj_1, rfl⟩ := pw_1
    refine lv_if_ne (tgt := 15) hx hb d_M_delete_10 (by decide) (fun c_2 => ?_) (fun c_2 => ?_)
    · skip
      refine lv_aload_n hx hb d_M_delete_15 rfl (lv_at hl 0 rfl) ?_
      refine lv_iload_n hx hb d_M_delete_16 rfl (lv_at hl 2 rfl) ?_
      refine fr_calli (va_runV (As := [.int day]) (rest := []) ⟨hx, hb, hml, hown, hts⟩ (c_M_isDay l hE (pg := pg) (gr := gr) (lf := lf) (an := an) (n := n) (lc := lc) (ps := ps) (rw := rw) (tk := tk) (po := po) rfl hg day) (cwV 1 hts (hw_goodV kw_588 kw_590 kw_13 kw_26 kw_591) rfl rfl rfl (by decide +kernel) ⟨Nat.le_of_ble_eq_true rfl, Nat.le_of_ble_eq_true rfl⟩) ⟨fr_blind, fr_recv hK hE (0, 40) rfl rfl (ci := 5) rfl, fr_pre hE hK⟩ rfl rfl hl.1 rfl (lv_room (Nat.le_of_ble_eq_true rfl)) d_M_delete_17 ⟨Nat.le_of_ble_eq_true rfl, Nat.le_of_ble_eq_true rfl⟩) hS (fun r_3 u_3 H locs w_3 hE hS => ?_)
      rcases w_3 with ⟨rfl, pw_3⟩ | ⟨rfl, pw_3⟩
      · skip
        refine lv_if_ne (tgt := 26) hx hb d_M_delete_20 (by decide) (fun c_4 => ?_) (fun c_4 => ?_)
        · skip
          refine lv_aload_n hx hb d_M_delete_26 rfl (lv_at hl 0 rfl) ?_
          refine fr_get (ci := 5) (Cn := hR_5) (T := hF_5) (N := 34) hx hb hT hi_5 hown hK hE (0, 40) rfl rfl rfl 8 (by decide) (hT _ kw_482) (fun _ h9 => h9) rfl d_M_delete_27 ?_
          refine lv_iload_n hx hb d_M_delete_30 rfl (lv_at hl 1 rfl) ?_
          refine fr_zald hx hb hK hE (0, 48) 1 rfl m8 rfl j_1 (rfl) (by omega) (by decide) d_M_delete_31 ?_
          refine lv_if_ne (tgt := 45) hx hb d_M_delete_32 (by decide) (fun c_5 => ?_) (fun c_5 => ?_)
          · skip
            refine lv_bipush (v := (-3)) hx hb d_M_delete_45 (by decide) ?_
            refine W.widen (k := 0) (n := 0) (Nat.le_of_ble_eq_true rfl) (Nat.le_of_ble_eq_true rfl) ?_
            exact W.iret (v := (-3)) hx hb hr (fun t9 ht9 hW9 => ⟨⟨(-3), _, rfl, Or.inr (Or.inr ⟨j_1, hj_1, rfl, pw_3, Or.inl ⟨Or.inl c_5, rfl, rfl⟩⟩), ⟨by rw [ht9]; exact hE, va_K.moved hW9.alike hK⟩⟩, hS.F ht9⟩) hS.2.2 d_M_delete_47
          · skip
            refine lv_iload_n hx hb d_M_delete_35 rfl (lv_at hl 2 rfl) ?_
            refine lv_aload_n hx hb d_M_delete_36 rfl (lv_at hl 0 rfl) ?_
            refine fr_get (ci := 5) (Cn := hR_5) (T := hF_5) (N := 34) hx hb hT hi_5 hown hK hE (0, 40) rfl rfl rfl 7 (by decide) (hT _ kw_481) (fun _ h9 => h9) rfl d_M_delete_37 ?_
            refine lv_iload_n hx hb d_M_delete_40 rfl (lv_at hl 1 rfl) ?_
            refine fr_iald hx hb hK hE (0, 47) 0 rfl m7 rfl j_1 (rfl) (by omega) (by decide) d_M_delete_41 ?_
            refine lv_icmp_ge (tgt := 48) hx hb d_M_delete_42 (by decide) (fun c_6 => ?_) (fun c_6 => ?_)
            · skip
              refine lv_aload_n hx hb d_M_delete_48 rfl (lv_at hl 0 rfl) ?_
              refine lv_iload_n hx hb d_M_delete_49 rfl (lv_at hl 1 rfl) ?_
              refine lv_iload_n hx hb d_M_delete_50 rfl (lv_at hl 2 rfl) ?_
              refine lv_iconst (v := 1) hx hb d_M_delete_51 (by decide) ?_
              refine fr_callv (va_runV (As := [.int (nI j_1), .int day, .int 1]) (rest := []) ⟨hx, hb, hml, hown, hts⟩ (c_M_act l hE (pg := pg) (gr := gr) (lf := lf) (an := an) (n := n) (lc := lc) (ps := ps) (rw := rw) (tk := tk) (po := po) rfl m7 m8 m9 j_1 (by omega) day 1 (by decide)) (cwV 3 hts (hw_goodV kw_592 kw_594 kw_14 kw_26 kw_595) rfl rfl rfl (by decide +kernel) ⟨Nat.le_of_ble_eq_true rfl, Nat.le_of_ble_eq_true rfl⟩) ⟨fr_blind, fr_recv hK hE (0, 40) rfl rfl (ci := 5) rfl, fr_pre hE hK⟩ rfl rfl hl.1 rfl (lv_room (Nat.le_of_ble_eq_true rfl)) d_M_delete_52 ⟨Nat.le_of_ble_eq_true rfl, Nat.le_of_ble_eq_true rfl⟩) hS (fun u_7 H locs w_7 hE hS => ?_)
              refine lv_iconst (v := 1) hx hb d_M_delete_55 (by decide) ?_
              refine W.widen (k := 0) (n := 0) (Nat.le_of_ble_eq_true rfl) (Nat.le_of_ble_eq_true rfl) ?_
              exact W.iret (v := 1) hx hb hr (fun t9 ht9 hW9 => ⟨⟨1, _, rfl, Or.inr (Or.inr ⟨j_1, hj_1, rfl, pw_3, Or.inr ⟨fun q => q.elim (fun q => q c_5) (Int32.not_lt.mpr c_6), rfl, rfl⟩⟩), ⟨by rw [ht9]; exact hE, va_K.moved hW9.alike hK⟩⟩, hS.F ht9⟩) hS.2.2 d_M_delete_56
            · skip
              refine lv_bipush (v := (-3)) hx hb d_M_delete_45 (by decide) ?_
              refine W.widen (k := 0) (n := 0) (Nat.le_of_ble_eq_true rfl) (Nat.le_of_ble_eq_true rfl) ?_
              exact W.iret (v := (-3)) hx hb hr (fun t9 ht9 hW9 => ⟨⟨(-3), _, rfl, Or.inr (Or.inr ⟨j_1, hj_1, rfl, pw_3, Or.inl ⟨Or.inr (Int32.not_le.mp c_6), rfl, rfl⟩⟩), ⟨by rw [ht9]; exact hE, va_K.moved hW9.alike hK⟩⟩, hS.F ht9⟩) hS.2.2 d_M_delete_47
        · skip
          exact absurd c_4 (by decide)
      · skip
        refine lv_if_ne (tgt := 26) hx hb d_M_delete_20 (by decide) (fun c_8 => ?_) (fun c_8 => ?_)
        · skip
          exact absurd c_8 (by decide)
        · skip
          refine lv_bipush (v := (-2)) hx hb d_M_delete_23 (by decide) ?_
          refine W.widen (k := 0) (n := 0) (Nat.le_of_ble_eq_true rfl) (Nat.le_of_ble_eq_true rfl) ?_
          exact W.iret (v := (-2)) hx hb hr (fun t9 ht9 hW9 => ⟨⟨(-2), _, rfl, Or.inr (Or.inl ⟨⟨j_1, hj_1, rfl⟩, pw_3, rfl, rfl⟩), ⟨by rw [ht9]; exact hE, va_K.moved hW9.alike hK⟩⟩, hS.F ht9⟩) hS.2.2 d_M_delete_25
    · skip
      exact absurd c_2 (by decide)
  · skip
    refine lv_if_ne (tgt := 15) hx hb d_M_delete_10 (by decide) (fun c_9 => ?_) (fun c_9 => ?_)
    · skip
      exact absurd c_9 (by decide)
    · skip
      refine lv_iconst (v := (-1)) hx hb d_M_delete_13 (by decide) ?_
      refine W.widen (k := 0) (n := 0) (Nat.le_of_ble_eq_true rfl) (Nat.le_of_ble_eq_true rfl) ?_
      exact W.iret (v := (-1)) hx hb hr (fun t9 ht9 hW9 => ⟨⟨(-1), _, rfl, Or.inl ⟨pw_1, rfl, rfl⟩, ⟨by rw [ht9]; exact hE, va_K.moved hW9.alike hK⟩⟩, hS.F ht9⟩) hS.2.2 d_M_delete_14
set_option maxHeartbeats 4000000 in
set_option maxRecDepth 100000 in
theorem c_M_form (l : Launch) {D : va_G} {z : Nat} {b : Nat → Nat} {C : fr_C} {H9 : Heap} (h9 : fr_W D hCl z b C H9) {cI cZ cJ cP cO : ClassId} {th : Int32} {pg gr lf an n lc ps rw tk po : Nat} {hd : Nat → Int32} (m0 : C (0, 40) = some (.inr (5, fM b th pg gr lf an n lc ps rw tk po))) (m10 : C (0, 50) = some (.inl (cZ, 6, .inl hd))) (f x : Int32) (hxx : vp_nar .boolean x = x) : Met l y_M_form w_M_form ({ frames := 1, cells := 0, slots := 0, locals := 22 }) (va_Pc [.ref (b 40), .int f, .int x] (fr_G D hCl (hTy cI cZ cJ cP cO) z b C)) (va_Qi (fun (r : Int32) (u : fr_C) => (¬ inN f 6 ∧ r = -2 ∧ u = fr_up C (0, 40) (.inr (5, fM b 0 pg gr lf an n lc ps rw tk po))) ∨ (∃ j : Nat, j < 6 ∧ f = nI j ∧ r = 1 ∧ u = fr_up (fr_up C (0, 40) (.inr (5, fM b 0 pg gr lf an n lc ps rw tk po))) (0, 50) (.inl (cZ, 6, .inl (upd hd j x))))) (fun u t => fr_G D hCl (hTy cI cZ cJ cP cO) z ((fun _ => b) u) ((fun u => u) u) t) (fr_A z)) 0 0 (fr_A z) := by
  refine Met.ofW (cc := b_M_form) (maxL := 3) (ret := (some .int)) (by decide) rfl ?_
  intro p e s m args below meth c s₁ B hml hv
  obtain ⟨rfl, hE, hK⟩ := hv
  have hx := B.exec
  have hb := B.bytes
  have hr := B.returns
  have hts := atoms_spec (ws := w_M_form) B.pre
  have hT : ∀ w ∈ hw_tbl, w.before _ s = true := fun w h => hts w (List.mem_cons_of_mem _ h)
  have hown : s.vm.findClass "HarvestStepsModel" = some m.cls := findClass_of_methodNamed B.named
  have hlocks := B.notSynchronized
  have hS : va_S (fr_A z) s.heap s.heap [] := va_S.rf
  have hl := lv_entry ([.ref (b 40), .int f, .int x]) (n := 3) (Nat.le_of_ble_eq_true rfl)
  rw [lg_entry_eq]
  generalize (lg_sl ([.ref (b 40), .int f, .int x]) ++ List.replicate (3 - (lg_sl ([.ref (b 40), .int f, .int x])).length) Slot.unset).toArray = ls at hl ⊢
  have hl : lv_has ls 3 [(0, .ref (b 40)), (1, .int f), (2, .int x)] := hl
  refine lv_aload_n hx hb d_M_form_0 rfl (lv_at hl 0 rfl) ?_
  refine lv_iconst (v := 0) hx hb d_M_form_1 (by decide) ?_
  refine fr_put (ci := 5) (v := .int 0) (ty := .int) (Cn := hR_5) (T := hF_5) (N := 34) hx hb hT hi_5 hy_5 ho_5 hn_5 hown hK hE hS (0, 40) rfl m0 rfl 0 (by decide) (hT _ kw_474) (fun _ h9 => h9) rfl (by decide +kernel) rfl rfl (Nat.le_of_ble_eq_true rfl) d_M_form_2 (fun H locs hE hS => ?_)
  refine lv_iload_n hx hb d_M_form_5 rfl (lv_at hl 1 rfl) ?_
  refine lv_iconst (v := 0) hx hb d_M_form_6 (by decide) ?_
  refine lv_iconst (v := 5) hx hb d_M_form_7 (by decide) ?_
  refine fr_calli (va_runS (As := [.int f, .int 0, .int 5]) (rest := []) ⟨hx, hb, hml, hown, hts⟩ (c_M_in l hE f 0 5) (va_cwS 3 hts (hw_goodS kw_585 kw_586 kw_26 kw_587) rfl rfl rfl (by decide +kernel) ⟨Nat.le_of_ble_eq_true rfl, Nat.le_of_ble_eq_true rfl⟩) ⟨fr_blind, fr_pre hE hK⟩ rfl rfl hl.1 rfl (lv_room (Nat.le_of_ble_eq_true rfl)) d_M_form_8 ⟨Nat.le_of_ble_eq_true rfl, Nat.le_of_ble_eq_true rfl⟩) hS (fun r_1 u_1 H locs w_1 hE hS => ?_)
  rcases w_1 with ⟨rfl, pw_1⟩ | ⟨rfl, pw_1⟩
  · skip
    replace pw_1 := (in0 (m := 6) (by decide) (by decide)).mp pw_1
    obtain ⟨j_1, hj_1, rfl⟩ := pw_1
    refine lv_if_ne (tgt := 17) hx hb d_M_form_11 (by decide) (fun c_2 => ?_) (fun c_2 => ?_)
    · skip
      refine lv_aload_n hx hb d_M_form_17 rfl (lv_at hl 0 rfl) ?_
      refine fr_get (ci := 5) (Cn := hR_5) (T := hF_5) (N := 34) hx hb hT hi_5 hown hK hE (0, 40) rfl rfl rfl 10 (by decide) (hT _ kw_484) (fun _ h9 => h9) rfl d_M_form_18 ?_
      refine lv_iload_n hx hb d_M_form_21 rfl (lv_at hl 1 rfl) ?_
      refine lv_iload_n hx hb d_M_form_22 rfl (lv_at hl 2 rfl) ?_
      refine fr_zast hx hb hK hE hS (0, 50) 1 rfl m10 rfl j_1 (rfl) (hj_1) (by decide) x (hxx) d_M_form_23 (fun H locs hE hS => ?_)
      refine lv_iconst (v := 1) hx hb d_M_form_24 (by decide) ?_
      refine W.widen (k := 0) (n := 0) (Nat.le_of_ble_eq_true rfl) (Nat.le_of_ble_eq_true rfl) ?_
      exact W.iret (v := 1) hx hb hr (fun t9 ht9 hW9 => ⟨⟨1, _, rfl, Or.inr ⟨j_1, hj_1, rfl, rfl, rfl⟩, ⟨by rw [ht9]; exact hE, va_K.moved hW9.alike hK⟩⟩, hS.F ht9⟩) hS.2.2 d_M_form_25
    · skip
      exact absurd c_2 (by decide)
  · skip
    replace pw_1 := fun q => pw_1 ((in0 (m := 6) (by decide) (by decide)).mpr q)
    refine lv_if_ne (tgt := 17) hx hb d_M_form_11 (by decide) (fun c_3 => ?_) (fun c_3 => ?_)
    · skip
      exact absurd c_3 (by decide)
    · skip
      refine lv_bipush (v := (-2)) hx hb d_M_form_14 (by decide) ?_
      refine W.widen (k := 0) (n := 0) (Nat.le_of_ble_eq_true rfl) (Nat.le_of_ble_eq_true rfl) ?_
      exact W.iret (v := (-2)) hx hb hr (fun t9 ht9 hW9 => ⟨⟨(-2), _, rfl, Or.inl ⟨pw_1, rfl, rfl⟩, ⟨by rw [ht9]; exact hE, va_K.moved hW9.alike hK⟩⟩, hS.F ht9⟩) hS.2.2 d_M_form_16
set_option maxHeartbeats 4000000 in
set_option maxRecDepth 100000 in
theorem c_M_get (l : Launch) {D : va_G} {z : Nat} {b : Nat → Nat} {C : fr_C} {H9 : Heap} (h9 : fr_W D hCl z b C H9) {cI cZ cJ cP cO : ClassId} {th : Int32} {pg gr lf an n lc ps rw tk po : Nat} {dy : Nat → Int32} {dl : Nat → Int32} {hd : Nat → Int32} (m0 : C (0, 40) = some (.inr (5, fM b th pg gr lf an n lc ps rw tk po))) (m7 : C (0, 47) = some (.inl (cI, 150, .inl dy))) (m8 : C (0, 48) = some (.inl (cZ, 150, .inl dl))) (m10 : C (0, 50) = some (.inl (cZ, 6, .inl hd))) (hn : n ≤ 150) (rc f : Int32) : Met l y_M_get w_M_get ({ frames := 2, cells := 0, slots := 0, locals := 44 }) (va_Pc [.ref (b 40), .int rc, .int f] (fr_G D hCl (hTy cI cZ cJ cP cO) z b C)) (va_Qi (fun (r : Int32) (u : Unit) => (¬ isHeldP hd f ∧ r = -12) ∨ (isHeldP hd f ∧ ¬ inN rc n ∧ r = -16) ∨ (isHeldP hd f ∧ ∃ j : Nat, j < n ∧ rc = nI j ∧ r = if dl j = 0 then dy j else -20 - dy j)) (fun u t => fr_G D hCl (hTy cI cZ cJ cP cO) z ((fun _ => b) u) ((fun _ => fr_up C (0, 40) (.inr (5, fM b 0 pg gr lf an n lc ps rw tk po))) u) t) (fr_A z)) 0 0 (fr_A z) := by
  refine Met.ofW (cc := b_M_get) (maxL := 3) (ret := (some .int)) (by decide) rfl ?_
  intro p e s m args below meth c s₁ B hml hv
  obtain ⟨rfl, hE, hK⟩ := hv
  have hx := B.exec
  have hb := B.bytes
  have hr := B.returns
  have hts := atoms_spec (ws := w_M_get) B.pre
  have hT : ∀ w ∈ hw_tbl, w.before _ s = true := fun w h => hts w (List.mem_cons_of_mem _ h)
  have hown : s.vm.findClass "HarvestStepsModel" = some m.cls := findClass_of_methodNamed B.named
  have hlocks := B.notSynchronized
  have hS : va_S (fr_A z) s.heap s.heap [] := va_S.rf
  have hl := lv_entry ([.ref (b 40), .int rc, .int f]) (n := 3) (Nat.le_of_ble_eq_true rfl)
  rw [lg_entry_eq]
  generalize (lg_sl ([.ref (b 40), .int rc, .int f]) ++ List.replicate (3 - (lg_sl ([.ref (b 40), .int rc, .int f])).length) Slot.unset).toArray = ls at hl ⊢
  have hl : lv_has ls 3 [(0, .ref (b 40)), (1, .int rc), (2, .int f)] := hl
  refine lv_aload_n hx hb d_M_get_0 rfl (lv_at hl 0 rfl) ?_
  refine lv_iconst (v := 0) hx hb d_M_get_1 (by decide) ?_
  refine fr_put (ci := 5) (v := .int 0) (ty := .int) (Cn := hR_5) (T := hF_5) (N := 34) hx hb hT hi_5 hy_5 ho_5 hn_5 hown hK hE hS (0, 40) rfl m0 rfl 0 (by decide) (hT _ kw_474) (fun _ h9 => h9) rfl (by decide +kernel) rfl rfl (Nat.le_of_ble_eq_true rfl) d_M_get_2 (fun H locs hE hS => ?_)
  refine lv_aload_n hx hb d_M_get_5 rfl (lv_at hl 0 rfl) ?_
  refine lv_iload_n hx hb d_M_get_6 rfl (lv_at hl 2 rfl) ?_
  refine fr_calli (va_runV (As := [.int f]) (rest := []) ⟨hx, hb, hml, hown, hts⟩ (c_M_isHeld l hE (pg := pg) (gr := gr) (lf := lf) (an := an) (n := n) (lc := lc) (ps := ps) (rw := rw) (tk := tk) (po := po) rfl m10 f) (cwV 1 hts (hw_goodV kw_617 kw_619 kw_16 kw_26 kw_620) rfl rfl rfl (by decide +kernel) ⟨Nat.le_of_ble_eq_true rfl, Nat.le_of_ble_eq_true rfl⟩) ⟨fr_blind, fr_recv hK hE (0, 40) rfl rfl (ci := 5) rfl, fr_pre hE hK⟩ rfl rfl hl.1 rfl (lv_room (Nat.le_of_ble_eq_true rfl)) d_M_get_7 ⟨Nat.le_of_ble_eq_true rfl, Nat.le_of_ble_eq_true rfl⟩) hS (fun r_1 u_1 H locs w_1 hE hS => ?_)
  rcases w_1 with ⟨rfl, pw_1⟩ | ⟨rfl, pw_1⟩
  · skip
    refine lv_if_ne (tgt := 16) hx hb d_M_get_10 (by decide) (fun c_2 => ?_) (fun c_2 => ?_)
    · skip
      refine lv_aload_n hx hb d_M_get_16 rfl (lv_at hl 0 rfl) ?_
      refine lv_iload_n hx hb d_M_get_17 rfl (lv_at hl 1 rfl) ?_
      refine fr_calli (va_runV (As := [.int rc]) (rest := []) ⟨hx, hb, hml, hown, hts⟩ (c_M_isRecord l hE (pg := pg) (gr := gr) (lf := lf) (an := an) (n := n) (lc := lc) (ps := ps) (rw := rw) (tk := tk) (po := po) rfl hn rc) (cwV 1 hts (hw_goodV kw_600 kw_602 kw_15 kw_26 kw_603) rfl rfl rfl (by decide +kernel) ⟨Nat.le_of_ble_eq_true rfl, Nat.le_of_ble_eq_true rfl⟩) ⟨fr_blind, fr_recv hK hE (0, 40) rfl rfl (ci := 5) rfl, fr_pre hE hK⟩ rfl rfl hl.1 rfl (lv_room (Nat.le_of_ble_eq_true rfl)) d_M_get_18 ⟨Nat.le_of_ble_eq_true rfl, Nat.le_of_ble_eq_true rfl⟩) hS (fun r_3 u_3 H locs w_3 hE hS => ?_)
      rcases w_3 with ⟨rfl, pw_3⟩ | ⟨rfl, pw_3⟩
      · skip
        obtain ⟨j_1, hj_1, rfl⟩ := pw_3
        refine lv_if_ne (tgt := 27) hx hb d_M_get_21 (by decide) (fun c_4 => ?_) (fun c_4 => ?_)
        · skip
          refine lv_aload_n hx hb d_M_get_27 rfl (lv_at hl 0 rfl) ?_
          refine fr_get (ci := 5) (Cn := hR_5) (T := hF_5) (N := 34) hx hb hT hi_5 hown hK hE (0, 40) rfl rfl rfl 8 (by decide) (hT _ kw_482) (fun _ h9 => h9) rfl d_M_get_28 ?_
          refine lv_iload_n hx hb d_M_get_31 rfl (lv_at hl 1 rfl) ?_
          refine fr_zald hx hb hK hE (0, 48) 1 rfl m8 rfl j_1 (rfl) (by omega) (by decide) d_M_get_32 ?_
          refine lv_if_eq (tgt := 48) hx hb d_M_get_33 (by decide) (fun c_5 => ?_) (fun c_5 => ?_)
          · skip
            refine lv_aload_n hx hb d_M_get_48 rfl (lv_at hl 0 rfl) ?_
            refine fr_get (ci := 5) (Cn := hR_5) (T := hF_5) (N := 34) hx hb hT hi_5 hown hK hE (0, 40) rfl rfl rfl 7 (by decide) (hT _ kw_481) (fun _ h9 => h9) rfl d_M_get_49 ?_
            refine lv_iload_n hx hb d_M_get_52 rfl (lv_at hl 1 rfl) ?_
            refine fr_iald hx hb hK hE (0, 47) 0 rfl m7 rfl j_1 (rfl) (by omega) (by decide) d_M_get_53 ?_
            refine W.widen (k := 0) (n := 0) (Nat.le_of_ble_eq_true rfl) (Nat.le_of_ble_eq_true rfl) ?_
            exact W.iret (v := dy j_1) hx hb hr (fun t9 ht9 hW9 => ⟨⟨dy j_1, (), rfl, Or.inr (Or.inr ⟨pw_1, j_1, hj_1, rfl, by rw [if_pos c_5]⟩), ⟨by rw [ht9]; exact hE, va_K.moved hW9.alike hK⟩⟩, hS.F ht9⟩) hS.2.2 d_M_get_54
          · skip
            refine lv_bipush (v := (-20)) hx hb d_M_get_36 (by decide) ?_
            refine lv_aload_n hx hb d_M_get_38 rfl (lv_at hl 0 rfl) ?_
            refine fr_get (ci := 5) (Cn := hR_5) (T := hF_5) (N := 34) hx hb hT hi_5 hown hK hE (0, 40) rfl rfl rfl 7 (by decide) (hT _ kw_481) (fun _ h9 => h9) rfl d_M_get_39 ?_
            refine lv_iload_n hx hb d_M_get_42 rfl (lv_at hl 1 rfl) ?_
            refine fr_iald hx hb hK hE (0, 47) 0 rfl m7 rfl j_1 (rfl) (by omega) (by decide) d_M_get_43 ?_
            refine lv_isub hx hb d_M_get_44 ?_
            refine lv_goto (tgt := 54) hx hb d_M_get_45 (by decide) ?_
            refine W.widen (k := 0) (n := 0) (Nat.le_of_ble_eq_true rfl) (Nat.le_of_ble_eq_true rfl) ?_
            exact W.iret (v := (-20) - (dy j_1)) hx hb hr (fun t9 ht9 hW9 => ⟨⟨(-20) - (dy j_1), (), rfl, Or.inr (Or.inr ⟨pw_1, j_1, hj_1, rfl, by rw [if_neg c_5]⟩), ⟨by rw [ht9]; exact hE, va_K.moved hW9.alike hK⟩⟩, hS.F ht9⟩) hS.2.2 d_M_get_54
        · skip
          exact absurd c_4 (by decide)
      · skip
        refine lv_if_ne (tgt := 27) hx hb d_M_get_21 (by decide) (fun c_6 => ?_) (fun c_6 => ?_)
        · skip
          exact absurd c_6 (by decide)
        · skip
          refine lv_bipush (v := (-16)) hx hb d_M_get_24 (by decide) ?_
          refine W.widen (k := 0) (n := 0) (Nat.le_of_ble_eq_true rfl) (Nat.le_of_ble_eq_true rfl) ?_
          exact W.iret (v := (-16)) hx hb hr (fun t9 ht9 hW9 => ⟨⟨(-16), (), rfl, Or.inr (Or.inl ⟨pw_1, pw_3, rfl⟩), ⟨by rw [ht9]; exact hE, va_K.moved hW9.alike hK⟩⟩, hS.F ht9⟩) hS.2.2 d_M_get_26
    · skip
      exact absurd c_2 (by decide)
  · skip
    refine lv_if_ne (tgt := 16) hx hb d_M_get_10 (by decide) (fun c_7 => ?_) (fun c_7 => ?_)
    · skip
      exact absurd c_7 (by decide)
    · skip
      refine lv_bipush (v := (-12)) hx hb d_M_get_13 (by decide) ?_
      refine W.widen (k := 0) (n := 0) (Nat.le_of_ble_eq_true rfl) (Nat.le_of_ble_eq_true rfl) ?_
      exact W.iret (v := (-12)) hx hb hr (fun t9 ht9 hW9 => ⟨⟨(-12), (), rfl, Or.inl ⟨pw_1, rfl⟩, ⟨by rw [ht9]; exact hE, va_K.moved hW9.alike hK⟩⟩, hS.F ht9⟩) hS.2.2 d_M_get_15
set_option maxHeartbeats 4000000 in
set_option maxRecDepth 100000 in
theorem c_M_counted (l : Launch) {D : va_G} {z : Nat} {b : Nat → Nat} {C : fr_C} {H9 : Heap} (h9 : fr_W D hCl z b C H9) {cI cZ cJ cP cO : ClassId} {th : Int32} {pg gr lf an n lc ps rw tk po : Nat} {cs : Nat → Int32} (m0 : C (0, 40) = some (.inr (5, fM b th pg gr lf an n lc ps rw tk po))) (m32 : C (0, 72) = some (.inl (cI, 10, .inl cs))) (h : Int32) : Met l y_M_counted w_M_counted ({ frames := 1, cells := 0, slots := 0, locals := 22 }) (va_Pc [.ref (b 40), .int h] (fr_G D hCl (hTy cI cZ cJ cP cO) z b C)) (va_Qi (fun (r : Int32) (u : Unit) => (¬ inN h 10 ∧ r = -1) ∨ (∃ j : Nat, j < 10 ∧ h = nI j ∧ r = cs j)) (fun u t => fr_G D hCl (hTy cI cZ cJ cP cO) z ((fun _ => b) u) ((fun _ => fr_up C (0, 40) (.inr (5, fM b 0 pg gr lf an n lc ps rw tk po))) u) t) (fr_A z)) 0 0 (fr_A z) := by
  refine Met.ofW (cc := b_M_counted) (maxL := 2) (ret := (some .int)) (by decide) rfl ?_
  intro p e s m args below meth c s₁ B hml hv
  obtain ⟨rfl, hE, hK⟩ := hv
  have hx := B.exec
  have hb := B.bytes
  have hr := B.returns
  have hts := atoms_spec (ws := w_M_counted) B.pre
  have hT : ∀ w ∈ hw_tbl, w.before _ s = true := fun w h => hts w (List.mem_cons_of_mem _ h)
  have hown : s.vm.findClass "HarvestStepsModel" = some m.cls := findClass_of_methodNamed B.named
  have hlocks := B.notSynchronized
  have hS : va_S (fr_A z) s.heap s.heap [] := va_S.rf
  have hl := lv_entry ([.ref (b 40), .int h]) (n := 2) (Nat.le_of_ble_eq_true rfl)
  rw [lg_entry_eq]
  generalize (lg_sl ([.ref (b 40), .int h]) ++ List.replicate (2 - (lg_sl ([.ref (b 40), .int h])).length) Slot.unset).toArray = ls at hl ⊢
  have hl : lv_has ls 2 [(0, .ref (b 40)), (1, .int h)] := hl
  refine lv_aload_n hx hb d_M_counted_0 rfl (lv_at hl 0 rfl) ?_
  refine lv_iconst (v := 0) hx hb d_M_counted_1 (by decide) ?_
  refine fr_put (ci := 5) (v := .int 0) (ty := .int) (Cn := hR_5) (T := hF_5) (N := 34) hx hb hT hi_5 hy_5 ho_5 hn_5 hown hK hE hS (0, 40) rfl m0 rfl 0 (by decide) (hT _ kw_474) (fun _ h9 => h9) rfl (by decide +kernel) rfl rfl (Nat.le_of_ble_eq_true rfl) d_M_counted_2 (fun H locs hE hS => ?_)
  refine lv_iload_n hx hb d_M_counted_5 rfl (lv_at hl 1 rfl) ?_
  refine lv_iconst (v := 0) hx hb d_M_counted_6 (by decide) ?_
  refine lv_bipush (v := 9) hx hb d_M_counted_7 (by decide) ?_
  refine fr_calli (va_runS (As := [.int h, .int 0, .int 9]) (rest := []) ⟨hx, hb, hml, hown, hts⟩ (c_M_in l hE h 0 9) (va_cwS 3 hts (hw_goodS kw_585 kw_586 kw_26 kw_587) rfl rfl rfl (by decide +kernel) ⟨Nat.le_of_ble_eq_true rfl, Nat.le_of_ble_eq_true rfl⟩) ⟨fr_blind, fr_pre hE hK⟩ rfl rfl hl.1 rfl (lv_room (Nat.le_of_ble_eq_true rfl)) d_M_counted_9 ⟨Nat.le_of_ble_eq_true rfl, Nat.le_of_ble_eq_true rfl⟩) hS (fun r_1 u_1 H locs w_1 hE hS => ?_)
  rcases w_1 with ⟨rfl, pw_1⟩ | ⟨rfl, pw_1⟩
  · skip
    replace pw_1 := (in0 (m := 10) (by decide) (by decide)).mp pw_1
    obtain ⟨j_1, hj_1, rfl⟩ := pw_1
    refine lv_if_eq (tgt := 24) hx hb d_M_counted_12 (by decide) (fun c_2 => ?_) (fun c_2 => ?_)
    · skip
      exact absurd c_2 (by decide)
    · skip
      refine lv_aload_n hx hb d_M_counted_15 rfl (lv_at hl 0 rfl) ?_
      refine fr_get (ci := 5) (Cn := hR_5) (T := hF_5) (N := 34) hx hb hT hi_5 hown hK hE (0, 40) rfl rfl rfl 32 (by decide) (hT _ kw_506) (fun _ h9 => h9) rfl d_M_counted_16 ?_
      refine lv_iload_n hx hb d_M_counted_19 rfl (lv_at hl 1 rfl) ?_
      refine fr_iald hx hb hK hE (0, 72) 0 rfl m32 rfl j_1 (rfl) (hj_1) (by decide) d_M_counted_20 ?_
      refine lv_goto (tgt := 25) hx hb d_M_counted_21 (by decide) ?_
      refine W.widen (k := 0) (n := 0) (Nat.le_of_ble_eq_true rfl) (Nat.le_of_ble_eq_true rfl) ?_
      exact W.iret (v := cs j_1) hx hb hr (fun t9 ht9 hW9 => ⟨⟨cs j_1, (), rfl, Or.inr ⟨j_1, hj_1, rfl, rfl⟩, ⟨by rw [ht9]; exact hE, va_K.moved hW9.alike hK⟩⟩, hS.F ht9⟩) hS.2.2 d_M_counted_25
  · skip
    replace pw_1 := fun q => pw_1 ((in0 (m := 10) (by decide) (by decide)).mpr q)
    refine lv_if_eq (tgt := 24) hx hb d_M_counted_12 (by decide) (fun c_3 => ?_) (fun c_3 => ?_)
    · skip
      refine lv_iconst (v := (-1)) hx hb d_M_counted_24 (by decide) ?_
      refine W.widen (k := 0) (n := 0) (Nat.le_of_ble_eq_true rfl) (Nat.le_of_ble_eq_true rfl) ?_
      exact W.iret (v := (-1)) hx hb hr (fun t9 ht9 hW9 => ⟨⟨(-1), (), rfl, Or.inl ⟨pw_1, rfl⟩, ⟨by rw [ht9]; exact hE, va_K.moved hW9.alike hK⟩⟩, hS.F ht9⟩) hS.2.2 d_M_counted_25
    · skip
      exact absurd c_3 (by decide)
set_option maxHeartbeats 4000000 in
set_option maxRecDepth 100000 in
theorem c_M_passed (l : Launch) {D : va_G} {z : Nat} {b : Nat → Nat} {C : fr_C} {H9 : Heap} (h9 : fr_W D hCl z b C H9) {cI cZ cJ cP cO : ClassId} {th : Int32} {pg gr lf an n lc ps rw tk po : Nat}  (m0 : C (0, 40) = some (.inr (5, fM b th pg gr lf an n lc ps rw tk po)))   : Met l y_M_passed w_M_passed ({ frames := 0, cells := 0, slots := 0, locals := 0 }) (va_Pc [.ref (b 40)] (fr_G D hCl (hTy cI cZ cJ cP cO) z b C)) (va_Qi (fun (r : Int32) (u : Unit) => r = nI po) (fun u t => fr_G D hCl (hTy cI cZ cJ cP cO) z ((fun _ => b) u) ((fun _ => fr_up C (0, 40) (.inr (5, fM b 0 pg gr lf an n lc ps rw tk po))) u) t) (fr_A z)) 0 0 (fr_A z) := by
  refine Met.ofW (cc := b_M_passed) (maxL := 1) (ret := (some .int)) (by decide) rfl ?_
  intro p e s m args below meth c s₁ B hml hv
  obtain ⟨rfl, hE, hK⟩ := hv
  have hx := B.exec
  have hb := B.bytes
  have hr := B.returns
  have hts := atoms_spec (ws := w_M_passed) B.pre
  have hT : ∀ w ∈ hw_tbl, w.before _ s = true := fun w h => hts w (List.mem_cons_of_mem _ h)
  have hown : s.vm.findClass "HarvestStepsModel" = some m.cls := findClass_of_methodNamed B.named
  have hlocks := B.notSynchronized
  have hS : va_S (fr_A z) s.heap s.heap [] := va_S.rf
  have hl := lv_entry ([.ref (b 40)]) (n := 1) (Nat.le_of_ble_eq_true rfl)
  rw [lg_entry_eq]
  generalize (lg_sl ([.ref (b 40)]) ++ List.replicate (1 - (lg_sl ([.ref (b 40)])).length) Slot.unset).toArray = ls at hl ⊢
  have hl : lv_has ls 1 [(0, .ref (b 40))] := hl
  refine lv_aload_n hx hb d_M_passed_0 rfl (lv_at hl 0 rfl) ?_
  refine lv_iconst (v := 0) hx hb d_M_passed_1 (by decide) ?_
  refine fr_put (ci := 5) (v := .int 0) (ty := .int) (Cn := hR_5) (T := hF_5) (N := 34) hx hb hT hi_5 hy_5 ho_5 hn_5 hown hK hE hS (0, 40) rfl m0 rfl 0 (by decide) (hT _ kw_474) (fun _ h9 => h9) rfl (by decide +kernel) rfl rfl (Nat.le_of_ble_eq_true rfl) d_M_passed_2 (fun H locs hE hS => ?_)
  refine lv_aload_n hx hb d_M_passed_5 rfl (lv_at hl 0 rfl) ?_
  refine fr_get (ci := 5) (Cn := hR_5) (T := hF_5) (N := 34) hx hb hT hi_5 hown hK hE (0, 40) rfl rfl rfl 33 (by decide) (hT _ kw_507) (fun _ h9 => h9) rfl d_M_passed_6 ?_
  refine W.widen (k := 0) (n := 0) (Nat.le_of_ble_eq_true rfl) (Nat.le_of_ble_eq_true rfl) ?_
  exact W.iret (v := nI po) hx hb hr (fun t9 ht9 hW9 => ⟨⟨nI po, (), rfl, rfl, ⟨by rw [ht9]; exact hE, va_K.moved hW9.alike hK⟩⟩, hS.F ht9⟩) hS.2.2 d_M_passed_9
set_option maxHeartbeats 4000000 in
set_option maxRecDepth 100000 in
theorem c_M_thrown (l : Launch) {D : va_G} {z : Nat} {b : Nat → Nat} {C : fr_C} {H9 : Heap} (h9 : fr_W D hCl z b C H9) {cI cZ cJ cP cO : ClassId} {th : Int32} {pg gr lf an n lc ps rw tk po : Nat}  (m0 : C (0, 40) = some (.inr (5, fM b th pg gr lf an n lc ps rw tk po)))   : Met l y_M_thrown w_M_thrown ({ frames := 0, cells := 0, slots := 0, locals := 0 }) (va_Pc [.ref (b 40)] (fr_G D hCl (hTy cI cZ cJ cP cO) z b C)) (va_Qi (fun (r : Int32) (u : Unit) => r = th) (fun u t => fr_G D hCl (hTy cI cZ cJ cP cO) z ((fun _ => b) u) ((fun _ => C) u) t) (fr_A z)) 0 0 (fr_A z) := by
  refine Met.ofW (cc := b_M_thrown) (maxL := 1) (ret := (some .int)) (by decide) rfl ?_
  intro p e s m args below meth c s₁ B hml hv
  obtain ⟨rfl, hE, hK⟩ := hv
  have hx := B.exec
  have hb := B.bytes
  have hr := B.returns
  have hts := atoms_spec (ws := w_M_thrown) B.pre
  have hT : ∀ w ∈ hw_tbl, w.before _ s = true := fun w h => hts w (List.mem_cons_of_mem _ h)
  have hown : s.vm.findClass "HarvestStepsModel" = some m.cls := findClass_of_methodNamed B.named
  have hlocks := B.notSynchronized
  have hS : va_S (fr_A z) s.heap s.heap [] := va_S.rf
  have hl := lv_entry ([.ref (b 40)]) (n := 1) (Nat.le_of_ble_eq_true rfl)
  rw [lg_entry_eq]
  generalize (lg_sl ([.ref (b 40)]) ++ List.replicate (1 - (lg_sl ([.ref (b 40)])).length) Slot.unset).toArray = ls at hl ⊢
  have hl : lv_has ls 1 [(0, .ref (b 40))] := hl
  refine lv_aload_n hx hb d_M_thrown_0 rfl (lv_at hl 0 rfl) ?_
  refine fr_get (ci := 5) (Cn := hR_5) (T := hF_5) (N := 34) hx hb hT hi_5 hown hK hE (0, 40) rfl m0 rfl 0 (by decide) (hT _ kw_474) (fun _ h9 => h9) rfl d_M_thrown_1 ?_
  refine W.widen (k := 0) (n := 0) (Nat.le_of_ble_eq_true rfl) (Nat.le_of_ble_eq_true rfl) ?_
  exact W.iret (v := th) hx hb hr (fun t9 ht9 hW9 => ⟨⟨th, (), rfl, rfl, ⟨by rw [ht9]; exact hE, va_K.moved hW9.alike hK⟩⟩, hS.F ht9⟩) hS.2.2 d_M_thrown_4
