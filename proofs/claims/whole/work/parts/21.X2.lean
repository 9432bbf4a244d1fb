/-- the fields of the object under check -/
def fX (b : Nat → Nat) (pg gr lf n an lc po : Nat) : List Value := [.int (nI pg), .int (nI gr), .int (nI lf), .ref (b 1), .ref (b 2), .ref (b 3), .ref (b 4), .ref (b 5), .int (nI n), .int (nI an), .ref (b 6), .int (nI lc), .ref (b 7), .ref (b 8), .ref (b 9), .int (nI po)]
def isHeldP (hd : Nat → Int32) (f : Int32) : Prop := ∃ j : Nat, j < 6 ∧ f = nI j ∧ ¬ hd j = 0
theorem not_isHeldP {hd : Nat → Int32} {j : Nat} (hj : j < 6) (h : hd j = 0) : ¬ isHeldP hd (nI j) := by
  rintro ⟨i, hi, e, h1⟩
  have := (nI_eq (by omega) (by omega)).mp e
  subst this
  exact h1 h
theorem okDay_no {g : Nat} {d : Nat} (hd : d ≤ 1000000) (h : ¬ nI (d % g) = 0) : ¬ okDay g (nI d) := by
  rintro ⟨i, hi, e, h1⟩
  have := (nI_eq (by omega) (by omega)).mp e
  subst this
  rw [h1] at h
  exact h nI_0
theorem okDay_in {g : Nat} {v : Int32} (h : okDay g v) : inN v 1000001 := by
  obtain ⟨d, h1, h2, -⟩ := h
  exact ⟨d, by omega, h2⟩
/-- what act does -/
def xAct (b : Nat → Nat) (C : fr_C) (cI cZ : ClassId) (pg gr lf n an lc po : Nat) (ac dy dl : Nat → Int32) (j : Nat) (day x : Int32) : fr_C :=
  fr_up (fr_up (fr_up (fr_up C (0, 0) (.inr (0, fX b pg gr lf n (an + 1) lc po))) (0, 5) (.inl (cI, 150, .inl (upd ac j (nI (an + 1)))))) (0, 3) (.inl (cI, 150, .inl (upd dy j day)))) (0, 4) (.inl (cZ, 150, .inl (upd dl j x)))
set_option maxHeartbeats 4000000 in
set_option maxRecDepth 100000 in
theorem c_X_isRecord (l : Launch) {D : va_G} {z : Nat} {b : Nat → Nat} {C : fr_C} {H9 : Heap} (h9 : fr_W D hCl z b C H9) {cI cZ cJ cP cO : ClassId} {pg gr lf n an lc po : Nat}  (h0 : C (0, 0) = some (.inr (0, fX b pg gr lf n an lc po)))  (hn : n ≤ 150) (v : Int32) : Met l y_X_isRecord w_X_isRecord ({ frames := 0, cells := 0, slots := 0, locals := 0 }) (va_Pc [.ref (b 0), .int v] (fr_G D hCl (hTy cI cZ cJ cP cO) z b C)) (va_Qi (fun (r : Int32) (u : Unit) => tells r (inN v n)) (fun u t => fr_G D hCl (hTy cI cZ cJ cP cO) z ((fun _ => b) u) ((fun _ => C) u) t) (fr_A z)) 0 0 (fr_A z) := by
  refine Met.ofW (cc := b_X_isRecord) (maxL := 2) (ret := (some .boolean)) (by decide) rfl ?_
  intro p e s m args below meth c s₁ B hml hv
  obtain ⟨rfl, hE, hK⟩ := hv
  have hx := B.exec
  have hb := B.bytes
  have hr := B.returns
  have hts := atoms_spec (ws := w_X_isRecord) B.pre
  have hT : ∀ w ∈ hw_tbl, w.before _ s = true := fun w h => hts w (List.mem_cons_of_mem _ h)
  have hown : s.vm.findClass "HarvestSteps" = some m.cls := findClass_of_methodNamed B.named
  have hlocks := B.notSynchronized
  have hS : va_S (fr_A z) s.heap s.heap [] := va_S.rf
  have hl := lv_entry ([.ref (b 0), .int v]) (n := 2) (Nat.le_of_ble_eq_true rfl)
  rw [lg_entry_eq]
  generalize (lg_sl ([.ref (b 0), .int v]) ++ List.replicate (2 - (lg_sl ([.ref (b 0), .int v])).length) Slot.unset).toArray = ls at hl ⊢
  have hl : lv_has ls 2 [(0, .ref (b 0)), (1, .int v)] := hl
  refine lv_iload_n hx hb d_X_isRecord_0 rfl (lv_at hl 1 rfl) ?_
  refine lv_if_lt (tgt := 16) hx hb d_X_isRecord_1 (by decide) (fun c_1 => ?_) (fun c_1 => ?_)
  · skip
    refine lv_iconst (v := 0) hx hb d_X_isRecord_16 (by decide) ?_
    refine W.widen (k := 0) (n := 0) (Nat.le_of_ble_eq_true rfl) (Nat.le_of_ble_eq_true rfl) ?_
    exact W.zret (v := 0) (ty := .boolean) hx hb hr rfl (fun t9 ht9 hW9 => ⟨⟨0, (), rfl, Or.inr ⟨rfl, inN_neg (by omega) c_1⟩, ⟨by rw [ht9]; exact hE, va_K.moved hW9.alike hK⟩⟩, hS.F ht9⟩) hS.2.2 d_X_isRecord_17
  · skip
    refine lv_iload_n hx hb d_X_isRecord_4 rfl (lv_at hl 1 rfl) ?_
    refine lv_aload_n hx hb d_X_isRecord_5 rfl (lv_at hl 0 rfl) ?_
    refine fr_get (ci := 0) (Cn := hR_0) (T := hF_0) (N := 16) hx hb hT hi_0 hown hK hE (0, 0) rfl h0 rfl 8 (by decide) (hT _ kw_95) (fun _ h9 => h9) rfl d_X_isRecord_6 ?_
    refine lv_icmp_ge (tgt := 16) hx hb d_X_isRecord_9 (by decide) (fun c_2 => ?_) (fun c_2 => ?_)
    · skip
      refine lv_iconst (v := 0) hx hb d_X_isRecord_16 (by decide) ?_
      refine W.widen (k := 0) (n := 0) (Nat.le_of_ble_eq_true rfl) (Nat.le_of_ble_eq_true rfl) ?_
      exact W.zret (v := 0) (ty := .boolean) hx hb hr rfl (fun t9 ht9 hW9 => ⟨⟨0, (), rfl, Or.inr ⟨rfl, inN_big (by omega) c_2⟩, ⟨by rw [ht9]; exact hE, va_K.moved hW9.alike hK⟩⟩, hS.F ht9⟩) hS.2.2 d_X_isRecord_17
    · skip
      refine lv_iconst (v := 1) hx hb d_X_isRecord_12 (by decide) ?_
      refine lv_goto (tgt := 17) hx hb d_X_isRecord_13 (by decide) ?_
      refine W.widen (k := 0) (n := 0) (Nat.le_of_ble_eq_true rfl) (Nat.le_of_ble_eq_true rfl) ?_
      exact W.zret (v := 1) (ty := .boolean) hx hb hr rfl (fun t9 ht9 hW9 => ⟨⟨1, (), rfl, Or.inl ⟨rfl, inN_yes (by omega) c_1 c_2⟩, ⟨by rw [ht9]; exact hE, va_K.moved hW9.alike hK⟩⟩, hS.F ht9⟩) hS.2.2 d_X_isRecord_17
set_option maxHeartbeats 4000000 in
set_option maxRecDepth 100000 in
theorem c_X_canBeDay (l : Launch) {D : va_G} {z : Nat} {b : Nat → Nat} {C : fr_C} {H9 : Heap} (h9 : fr_W D hCl z b C H9) {cI cZ cJ cP cO : ClassId} {pg gr lf n an lc po : Nat}  (h0 : C (0, 0) = some (.inr (0, fX b pg gr lf n an lc po)))  (hg : 1 ≤ gr ∧ gr ≤ 100) (v : Int32) : Met l y_X_canBeDay w_X_canBeDay ({ frames := 0, cells := 0, slots := 0, locals := 0 }) (va_Pc [.ref (b 0), .int v] (fr_G D hCl (hTy cI cZ cJ cP cO) z b C)) (va_Qi (fun (r : Int32) (u : Unit) => tells r (okDay gr v)) (fun u t => fr_G D hCl (hTy cI cZ cJ cP cO) z ((fun _ => b) u) ((fun _ => C) u) t) (fr_A z)) 0 0 (fr_A z) := by
  refine Met.ofW (cc := b_X_canBeDay) (maxL := 2) (ret := (some .boolean)) (by decide) rfl ?_
  intro p e s m args below meth c s₁ B hml hv
  obtain ⟨rfl, hE, hK⟩ := hv
  have hx := B.exec
  have hb := B.bytes
  have hr := B.returns
  have hts := atoms_spec (ws := w_X_canBeDay) B.pre
  have hT : ∀ w ∈ hw_tbl, w.before _ s = true := fun w h => hts w (List.mem_cons_of_mem _ h)
  have hown : s.vm.findClass "HarvestSteps" = some m.cls := findClass_of_methodNamed B.named
  have hlocks := B.notSynchronized
  have hS : va_S (fr_A z) s.heap s.heap [] := va_S.rf
  have hl := lv_entry ([.ref (b 0), .int v]) (n := 2) (Nat.le_of_ble_eq_true rfl)
  rw [lg_entry_eq]
  generalize (lg_sl ([.ref (b 0), .int v]) ++ List.replicate (2 - (lg_sl ([.ref (b 0), .int v])).length) Slot.unset).toArray = ls at hl ⊢
  have hl : lv_has ls 2 [(0, .ref (b 0)), (1, .int v)] := hl
  refine lv_iload_n hx hb d_X_canBeDay_0 rfl (lv_at hl 1 rfl) ?_
  refine lv_if_lt (tgt := 30) hx hb d_X_canBeDay_1 (by decide) (fun c_1 => ?_) (fun c_1 => ?_)
  · skip
    refine lv_iconst (v := 0) hx hb d_X_canBeDay_30 (by decide) ?_
    refine W.widen (k := 0) (n := 0) (Nat.le_of_ble_eq_true rfl) (Nat.le_of_ble_eq_true rfl) ?_
    exact W.zret (v := 0) (ty := .boolean) hx hb hr rfl (fun t9 ht9 hW9 => ⟨⟨0, (), rfl, Or.inr ⟨rfl, fun q => inN_neg (n := 1000001) (by decide) c_1 (okDay_in q)⟩, ⟨by rw [ht9]; exact hE, va_K.moved hW9.alike hK⟩⟩, hS.F ht9⟩) hS.2.2 d_X_canBeDay_31
  · skip
    refine lv_iload_n hx hb d_X_canBeDay_4 rfl (lv_at hl 1 rfl) ?_
    refine lv_ldc (v := 1000000) hx hb hown (hT _ kw_86) d_X_canBeDay_5 ?_
    refine lv_icmp_gt (tgt := 30) hx hb d_X_canBeDay_7 (by decide) (fun c_2 => ?_) (fun c_2 => ?_)
    · skip
      refine lv_iconst (v := 0) hx hb d_X_canBeDay_30 (by decide) ?_
      refine W.widen (k := 0) (n := 0) (Nat.le_of_ble_eq_true rfl) (Nat.le_of_ble_eq_true rfl) ?_
      exact W.zret (v := 0) (ty := .boolean) hx hb hr rfl (fun t9 ht9 hW9 => ⟨⟨0, (), rfl, Or.inr ⟨rfl, fun q => inN_big (n := 1000001) (by decide) (Int32.le_iff_toInt_le.mpr (by have := Int32.lt_iff_toInt_lt.mp c_2; rw [nI_toInt (by decide)]; have e9 : (1000000 : Int32).toInt = 1000000 := rfl; omega)) (okDay_in q)⟩, ⟨by rw [ht9]; exact hE, va_K.moved hW9.alike hK⟩⟩, hS.F ht9⟩) hS.2.2 d_X_canBeDay_31
    · skip
      obtain ⟨j_1, hj_1, rfl⟩ : inN v 1000001 := inN_yes (n := 1000001) (by decide) c_1 (fun q => c_2 (Int32.lt_iff_toInt_lt.mpr (by have := Int32.le_iff_toInt_le.mp q; rw [nI_toInt (by decide)] at this; show (1000000 : Int) < v.toInt; omega)))
      refine lv_aload_n hx hb d_X_canBeDay_10 rfl (lv_at hl 0 rfl) ?_
      refine fr_get (ci := 0) (Cn := hR_0) (T := hF_0) (N := 16) hx hb hT hi_0 hown hK hE (0, 0) rfl h0 rfl 1 (by decide) (hT _ kw_88) (fun _ h9 => h9) rfl d_X_canBeDay_11 ?_
      refine lv_if_le (tgt := 30) hx hb d_X_canBeDay_14 (by decide) (fun c_3 => ?_) (fun c_3 => ?_)
      · skip
        exact absurd c_3 (nI_nle (by omega) (by omega))
      · skip
        refine lv_iload_n hx hb d_X_canBeDay_17 rfl (lv_at hl 1 rfl) ?_
        refine lv_aload_n hx hb d_X_canBeDay_18 rfl (lv_at hl 0 rfl) ?_
        refine fr_get (ci := 0) (Cn := hR_0) (T := hF_0) (N := 16) hx hb hT hi_0 hown hK hE (0, 0) rfl h0 rfl 1 (by decide) (hT _ kw_88) (fun _ h9 => h9) rfl d_X_canBeDay_19 ?_
        refine lv_irem hx hb d_X_canBeDay_22 (nI_ne0 (by omega) (by omega)) ?_
        refine lv_topi (fun y_4 ey_4 => ?_)
        obtain rfl : y_4 = nI (j_1 % gr) := ey_4.trans (pk_rem (by omega) (by omega) (by omega))
        refine lv_if_ne (tgt := 30) hx hb d_X_canBeDay_23 (by decide) (fun c_5 => ?_) (fun c_5 => ?_)
        · skip
          refine lv_iconst (v := 0) hx hb d_X_canBeDay_30 (by decide) ?_
          refine W.widen (k := 0) (n := 0) (Nat.le_of_ble_eq_true rfl) (Nat.le_of_ble_eq_true rfl) ?_
          exact W.zret (v := 0) (ty := .boolean) hx hb hr rfl (fun t9 ht9 hW9 => ⟨⟨0, (), rfl, Or.inr ⟨rfl, okDay_no (by omega) c_5⟩, ⟨by rw [ht9]; exact hE, va_K.moved hW9.alike hK⟩⟩, hS.F ht9⟩) hS.2.2 d_X_canBeDay_31
        · skip
          refine lv_iconst (v := 1) hx hb d_X_canBeDay_26 (by decide) ?_
          refine lv_goto (tgt := 31) hx hb d_X_canBeDay_27 (by decide) ?_
          refine W.widen (k := 0) (n := 0) (Nat.le_of_ble_eq_true rfl) (Nat.le_of_ble_eq_true rfl) ?_
          exact W.zret (v := 1) (ty := .boolean) hx hb hr rfl (fun t9 ht9 hW9 => ⟨⟨1, (), rfl, Or.inl ⟨rfl, j_1, by omega, rfl, by have := (nI_eq (a := j_1 % gr) (b := 0) (by have := Nat.mod_lt j_1 (show 0 < gr by omega); omega) (by decide)).mp (by rw [nI_0]; exact c_5); omega⟩, ⟨by rw [ht9]; exact hE, va_K.moved hW9.alike hK⟩⟩, hS.F ht9⟩) hS.2.2 d_X_canBeDay_31
set_option maxHeartbeats 4000000 in
set_option maxRecDepth 100000 in
theorem c_X_isHeld (l : Launch) {D : va_G} {z : Nat} {b : Nat → Nat} {C : fr_C} {H9 : Heap} (h9 : fr_W D hCl z b C H9) {cI cZ cJ cP cO : ClassId} {pg gr lf n an lc po : Nat} {hd : Nat → Int32} (h0 : C (0, 0) = some (.inr (0, fX b pg gr lf n an lc po))) (h1 : C (0, 1) = some (.inl (cZ, 6, .inl hd))) (f : Int32) : Met l y_X_isHeld w_X_isHeld ({ frames := 1, cells := 0, slots := 0, locals := 20 }) (va_Pc [.ref (b 0), .int f] (fr_G D hCl (hTy cI cZ cJ cP cO) z b C)) (va_Qi (fun (r : Int32) (u : Unit) => tells r (isHeldP hd f)) (fun u t => fr_G D hCl (hTy cI cZ cJ cP cO) z ((fun _ => b) u) ((fun _ => C) u) t) (fr_A z)) 0 0 (fr_A z) := by
  refine Met.ofW (cc := b_X_isHeld) (maxL := 2) (ret := (some .boolean)) (by decide) rfl ?_
  intro p e s m args below meth c s₁ B hml hv
  obtain ⟨rfl, hE, hK⟩ := hv
  have hx := B.exec
  have hb := B.bytes
  have hr := B.returns
  have hts := atoms_spec (ws := w_X_isHeld) B.pre
  have hT : ∀ w ∈ hw_tbl, w.before _ s = true := fun w h => hts w (List.mem_cons_of_mem _ h)
  have hown : s.vm.findClass "HarvestSteps" = some m.cls := findClass_of_methodNamed B.named
  have hlocks := B.notSynchronized
  have hS : va_S (fr_A z) s.heap s.heap [] := va_S.rf
  have hl := lv_entry ([.ref (b 0), .int f]) (n := 2) (Nat.le_of_ble_eq_true rfl)
  rw [lg_entry_eq]
  generalize (lg_sl ([.ref (b 0), .int f]) ++ List.replicate (2 - (lg_sl ([.ref (b 0), .int f])).length) Slot.unset).toArray = ls at hl ⊢
  have hl : lv_has ls 2 [(0, .ref (b 0)), (1, .int f)] := hl
  refine lv_iload_n hx hb d_X_isHeld_0 rfl (lv_at hl 1 rfl) ?_
  refine fr_calli (va_runS (As := [.int f]) (rest := []) ⟨hx, hb, hml, hown, hts⟩ (c_X_isForm l hE f) (va_cwS 1 hts (hw_goodS kw_167 kw_168 kw_21 kw_169) rfl rfl rfl (by decide +kernel) ⟨Nat.le_of_ble_eq_true rfl, Nat.le_of_ble_eq_true rfl⟩) ⟨fr_blind, fr_pre hE hK⟩ rfl rfl hl.1 rfl (lv_room (Nat.le_of_ble_eq_true rfl)) d_X_isHeld_1 ⟨Nat.le_of_ble_eq_true rfl, Nat.le_of_ble_eq_true rfl⟩) hS (fun r_1 u_1 H locs w_1 hE hS => ?_)
  rcases w_1 with ⟨rfl, pw_1⟩ | ⟨rfl, pw_1⟩
  · skip
    obtain ⟨j_1, hj_1, rfl⟩ := pw_1
    refine lv_if_eq (tgt := 20) hx hb d_X_isHeld_4 (by decide) (fun c_2 => ?_) (fun c_2 => ?_)
    · skip
      exact absurd c_2 (by decide)
    · skip
      refine lv_aload_n hx hb d_X_isHeld_7 rfl (lv_at hl 0 rfl) ?_
      refine fr_get (ci := 0) (Cn := hR_0) (T := hF_0) (N := 16) hx hb hT hi_0 hown hK hE (0, 0) rfl h0 rfl 3 (by decide) (hT _ kw_90) (fun _ h9 => h9) rfl d_X_isHeld_8 ?_
      refine lv_iload_n hx hb d_X_isHeld_11 rfl (lv_at hl 1 rfl) ?_
      refine fr_zald hx hb hK hE (0, 1) 1 rfl h1 rfl j_1 (rfl) (hj_1) (by decide) d_X_isHeld_12 ?_
      refine lv_if_eq (tgt := 20) hx hb d_X_isHeld_13 (by decide) (fun c_3 => ?_) (fun c_3 => ?_)
      · skip
        refine lv_iconst (v := 0) hx hb d_X_isHeld_20 (by decide) ?_
        refine W.widen (k := 0) (n := 0) (Nat.le_of_ble_eq_true rfl) (Nat.le_of_ble_eq_true rfl) ?_
        exact W.zret (v := 0) (ty := .boolean) hx hb hr rfl (fun t9 ht9 hW9 => ⟨⟨0, (), rfl, Or.inr ⟨rfl, not_isHeldP hj_1 c_3⟩, ⟨by rw [ht9]; exact hE, va_K.moved hW9.alike hK⟩⟩, hS.F ht9⟩) hS.2.2 d_X_isHeld_21
      · skip
        refine lv_iconst (v := 1) hx hb d_X_isHeld_16 (by decide) ?_
        refine lv_goto (tgt := 21) hx hb d_X_isHeld_17 (by decide) ?_
        refine W.widen (k := 0) (n := 0) (Nat.le_of_ble_eq_true rfl) (Nat.le_of_ble_eq_true rfl) ?_
        exact W.zret (v := 1) (ty := .boolean) hx hb hr rfl (fun t9 ht9 hW9 => ⟨⟨1, (), rfl, Or.inl ⟨rfl, j_1, hj_1, rfl, c_3⟩, ⟨by rw [ht9]; exact hE, va_K.moved hW9.alike hK⟩⟩, hS.F ht9⟩) hS.2.2 d_X_isHeld_21
  · skip
    refine lv_if_eq (tgt := 20) hx hb d_X_isHeld_4 (by decide) (fun c_4 => ?_) (fun c_4 => ?_)
    · skip
      refine lv_iconst (v := 0) hx hb d_X_isHeld_20 (by decide) ?_
      refine W.widen (k := 0) (n := 0) (Nat.le_of_ble_eq_true rfl) (Nat.le_of_ble_eq_true rfl) ?_
      exact W.zret (v := 0) (ty := .boolean) hx hb hr rfl (fun t9 ht9 hW9 => ⟨⟨0, (), rfl, Or.inr ⟨rfl, fun q => pw_1 (by obtain ⟨j, h1, h2, -⟩ := q; exact ⟨j, h1, h2⟩)⟩, ⟨by rw [ht9]; exact hE, va_K.moved hW9.alike hK⟩⟩, hS.F ht9⟩) hS.2.2 d_X_isHeld_21
    · skip
      exact absurd c_4 (by decide)
set_option maxHeartbeats 4000000 in
set_option maxRecDepth 100000 in
theorem c_X_act (l : Launch) {D : va_G} {z : Nat} {b : Nat → Nat} {C : fr_C} {H9 : Heap} (h9 : fr_W D hCl z b C H9) {cI cZ cJ cP cO : ClassId} {pg gr lf n an lc po : Nat} {dy : Nat → Int32} {dl : Nat → Int32} {ac : Nat → Int32} (h0 : C (0, 0) = some (.inr (0, fX b pg gr lf n an lc po))) (h3 : C (0, 3) = some (.inl (cI, 150, .inl dy))) (h4 : C (0, 4) = some (.inl (cZ, 150, .inl dl))) (h5 : C (0, 5) = some (.inl (cI, 150, .inl ac))) (j : Nat) (hj : j < 150) (day x : Int32) (hxx : vp_nar .boolean x = x) : Met l y_X_act w_X_act ({ frames := 0, cells := 0, slots := 0, locals := 0 }) (va_Pc [.ref (b 0), .int (nI j), .int day, .int x] (fr_G D hCl (hTy cI cZ cJ cP cO) z b C)) (va_Qv (fun (u : Unit) => True) (fun u t => fr_G D hCl (hTy cI cZ cJ cP cO) z ((fun _ => b) u) ((fun _ => xAct b C cI cZ pg gr lf n an lc po ac dy dl j day x) u) t) (fr_A z)) 0 0 (fr_A z) := by
  refine Met.ofW (cc := b_X_act) (maxL := 4) (ret := none) (by decide) rfl ?_
  intro p e s m args below meth c s₁ B hml hv
  obtain ⟨rfl, hE, hK⟩ := hv
  have hx := B.exec
  have hb := B.bytes
  have hr := B.returns
  have hts := atoms_spec (ws := w_X_act) B.pre
  have hT : ∀ w ∈ hw_tbl, w.before _ s = true := fun w h => hts w (List.mem_cons_of_mem _ h)
  have hown : s.vm.findClass "HarvestSteps" = some m.cls := findClass_of_methodNamed B.named
  have hlocks := B.notSynchronized
  have hS : va_S (fr_A z) s.heap s.heap [] := va_S.rf
  have hl := lv_entry ([.ref (b 0), .int (nI j), .int day, .int x]) (n := 4) (Nat.le_of_ble_eq_true rfl)
  rw [lg_entry_eq]
  generalize (lg_sl ([.ref (b 0), .int (nI j), .int day, .int x]) ++ List.replicate (4 - (lg_sl ([.ref (b 0), .int (nI j), .int day, .int x])).length) Slot.unset).toArray = ls at hl ⊢
  have hl : lv_has ls 4 [(0, .ref (b 0)), (1, .int (nI j)), (2, .int day), (3, .int x)] := hl
  refine lv_aload_n hx hb d_X_act_0 rfl (lv_at hl 0 rfl) ?_
  refine lv_dup hx hb d_X_act_1 rfl ?_
  refine fr_get (ci := 0) (Cn := hR_0) (T := hF_0) (N := 16) hx hb hT hi_0 hown hK hE (0, 0) rfl h0 rfl 9 (by decide) (hT _ kw_96) (fun _ h9 => h9) rfl d_X_act_2 ?_
  refine lv_iconst (v := 1) hx hb d_X_act_5 (by decide) ?_
  refine lv_iadd hx hb d_X_act_6 ?_
  refine lv_topi (fun y_1 ey_1 => ?_)
  obtain rfl : y_1 = nI (an + 1) := ey_1.trans (nI_1 an)
  refine fr_put (ci := 0) (v := .int (nI (an + 1))) (ty := .int) (Cn := hR_0) (T := hF_0) (N := 16) hx hb hT hi_0 hy_0 ho_0 hn_0 hown hK hE hS (0, 0) rfl h0 rfl 9 (by decide) (hT _ kw_96) (fun _ h9 => h9) rfl (by decide +kernel) rfl rfl (Nat.le_of_ble_eq_true rfl) d_X_act_7 (fun H locs hE hS => ?_)
  refine lv_aload_n hx hb d_X_act_10 rfl (lv_at hl 0 rfl) ?_
  refine fr_get (ci := 0) (Cn := hR_0) (T := hF_0) (N := 16) hx hb hT hi_0 hown hK hE (0, 0) rfl rfl rfl 7 (by decide) (hT _ kw_94) (fun _ h9 => h9) rfl d_X_act_11 ?_
  refine lv_iload_n hx hb d_X_act_14 rfl (lv_at hl 1 rfl) ?_
  refine lv_aload_n hx hb d_X_act_15 rfl (lv_at hl 0 rfl) ?_
  refine fr_get (ci := 0) (Cn := hR_0) (T := hF_0) (N := 16) hx hb hT hi_0 hown hK hE (0, 0) rfl rfl rfl 9 (by decide) (hT _ kw_96) (fun _ h9 => h9) rfl d_X_act_16 ?_
  refine fr_iast hx hb hK hE hS (0, 5) 0 rfl h5 rfl j (rfl) (hj) (by decide) d_X_act_19 (fun H locs hE hS => ?_)
  refine lv_aload_n hx hb d_X_act_20 rfl (lv_at hl 0 rfl) ?_
  refine fr_get (ci := 0) (Cn := hR_0) (T := hF_0) (N := 16) hx hb hT hi_0 hown hK hE (0, 0) rfl rfl rfl 5 (by decide) (hT _ kw_92) (fun _ h9 => h9) rfl d_X_act_21 ?_
  refine lv_iload_n hx hb d_X_act_24 rfl (lv_at hl 1 rfl) ?_
  refine lv_iload_n hx hb d_X_act_25 rfl (lv_at hl 2 rfl) ?_
  refine fr_iast hx hb hK hE hS (0, 3) 0 rfl h3 rfl j (rfl) (hj) (by decide) d_X_act_26 (fun H locs hE hS => ?_)
  refine lv_aload_n hx hb d_X_act_27 rfl (lv_at hl 0 rfl) ?_
  refine fr_get (ci := 0) (Cn := hR_0) (T := hF_0) (N := 16) hx hb hT hi_0 hown hK hE (0, 0) rfl rfl rfl 6 (by decide) (hT _ kw_93) (fun _ h9 => h9) rfl d_X_act_28 ?_
  refine lv_iload_n hx hb d_X_act_31 rfl (lv_at hl 1 rfl) ?_
  refine lv_iload_n hx hb d_X_act_32 rfl (lv_at hl 3 rfl) ?_
  refine fr_zast hx hb hK hE hS (0, 4) 1 rfl h4 rfl j (rfl) (hj) (by decide) x (hxx) d_X_act_33 (fun H locs hE hS => ?_)
  refine W.widen (k := 0) (n := 0) (Nat.le_of_ble_eq_true rfl) (Nat.le_of_ble_eq_true rfl) ?_
  exact W.vret hx hb hr (fun t9 ht9 hW9 => ⟨⟨(), rfl, trivial, ⟨by rw [ht9]; exact hE, va_K.moved hW9.alike hK⟩⟩, hS.F ht9⟩) hS.2.2 d_X_act_34
