theorem near_eq {v : Int32} {lo hi : Nat} (hlo : lo < 2 ^ 31) (hhi : hi < 2 ^ 31) (hh : lo ≤ hi) : (if nI lo < (if v < nI hi then v else nI hi) then (if v < nI hi then v else nI hi) else nI lo) = nI (clN v lo hi) := by
  by_cases h1 : v < nI lo
  · rw [clN_lo h1]
    have h2 : v < nI hi := Int32.lt_iff_toInt_lt.mpr (by have := Int32.lt_iff_toInt_lt.mp h1; rw [nI_toInt hlo] at this; rw [nI_toInt hhi]; omega)
    rw [if_pos h2, if_neg (fun q => Int32.lt_irrefl (Int32.lt_trans q h1))]
  · by_cases h2 : nI hi < v
    · rw [clN_hi h1 h2, if_neg (fun q => Int32.lt_irrefl (Int32.lt_trans q h2))]
      by_cases h3 : nI lo < nI hi
      · rw [if_pos h3]
      · rw [if_neg h3]
        have : lo = hi := by
          rcases Nat.lt_or_ge lo hi with q | q
          · exact absurd (nI_lt q hhi) h3
          · omega
        rw [this]
    · rw [← clN_val hlo h1 h2]
      by_cases h3 : v < nI hi
      · rw [if_pos h3]
        by_cases h4 : nI lo < v
        · rw [if_pos h4]
        · rw [if_neg h4]
          exact Int32.le_antisymm (Int32.not_lt.mp h1) (Int32.not_lt.mp h4)
      · rw [if_neg h3]
        have e : v = nI hi := Int32.le_antisymm (Int32.not_lt.mp h2) (Int32.not_lt.mp h3)
        by_cases h4 : nI lo < nI hi
        · rw [if_pos h4, e]
        · rw [if_neg h4]
          rw [e] at h1 ⊢
          exact Int32.le_antisymm (Int32.not_lt.mp h1) (Int32.not_lt.mp h4)
theorem fr_W.ne_pool {D : va_G} {cl : List vw_C} {z : Nat} {b : Nat → Nat} {C : fr_C} {H : Heap} {a i : Nat} {e1 e2 : va_E} (h : fr_W D cl z b C H) (h1 : C (1, a) = some e1) (h2 : C (0, i) = some e2) : a ≠ b i := by
  intro q
  have := h.2.2 _ _ _ _ h1 h2 q
  exact absurd (show (1 : Nat) = 0 from congrArg Prod.fst this) (by decide)
set_option maxHeartbeats 4000000 in
set_option maxRecDepth 100000 in
theorem c_X_nearest (l : Launch) {D : va_G} {z : Nat} {b : Nat → Nat} {C : fr_C} {H9 : Heap} (h9 : fr_W D hCl z b C H9) {cI cZ cJ cP cO : ClassId} (v : Int32) (lo hi : Nat) (hlo : lo < 2 ^ 31) (hhi : hi < 2 ^ 31) (hh : lo ≤ hi) : Met l y_X_nearest w_X_nearest ({ frames := 1, cells := 0, slots := 0, locals := 16 }) (va_Pc [.int v, .int (nI lo), .int (nI hi)] (fr_G D hCl (hTy cI cZ cJ cP cO) z b C)) (va_Qi (fun (r : Int32) (u : Unit) => r = nI (clN v lo hi)) (fun u t => fr_G D hCl (hTy cI cZ cJ cP cO) z ((fun _ => b) u) ((fun _ => C) u) t) (fr_A z)) 0 0 (fr_A z) := by
  refine Met.ofW (cc := b_X_nearest) (maxL := 3) (ret := (some .int)) (by decide) rfl ?_
  intro p e s m args below meth c s₁ B hml hv
  obtain ⟨rfl, hE, hK⟩ := hv
  have hx := B.exec
  have hb := B.bytes
  have hr := B.returns
  have hts := atoms_spec (ws := w_X_nearest) B.pre
  have hT : ∀ w ∈ hw_tbl, w.before _ s = true := fun w h => hts w (List.mem_cons_of_mem _ h)
  have hown : s.vm.findClass "HarvestSteps" = some m.cls := findClass_of_methodNamed B.named
  have hlocks := B.notSynchronized
  have hS : va_S (fr_A z) s.heap s.heap [] := va_S.rf
  have hl := lv_entry ([.int v, .int (nI lo), .int (nI hi)]) (n := 3) (Nat.le_of_ble_eq_true rfl)
  rw [lg_entry_eq]
  generalize (lg_sl ([.int v, .int (nI lo), .int (nI hi)]) ++ List.replicate (3 - (lg_sl ([.int v, .int (nI lo), .int (nI hi)])).length) Slot.unset).toArray = ls at hl ⊢
  have hl : lv_has ls 3 [(0, .int v), (1, .int (nI lo)), (2, .int (nI hi))] := hl
  refine lv_iload_n hx hb d_X_nearest_0 rfl (lv_at hl 1 rfl) ?_
  refine lv_iload_n hx hb d_X_nearest_1 rfl (lv_at hl 2 rfl) ?_
  refine lv_iload_n hx hb d_X_nearest_2 rfl (lv_at hl 0 rfl) ?_
  refine va_mmin hx hb (hml.trans hl.1.symm) hown (hT _ kw_80) (hT _ kw_81) (hT _ kw_25) (hT _ kw_82) (Nat.le_of_ble_eq_true rfl) (Nat.le_of_ble_eq_true rfl) (Nat.le_of_ble_eq_true rfl) (Nat.le_of_ble_eq_true rfl) d_X_nearest_3 ?_
  refine va_mmax hx hb (hml.trans hl.1.symm) hown (hT _ kw_83) (hT _ kw_84) (hT _ kw_25) (hT _ kw_85) (Nat.le_of_ble_eq_true rfl) (Nat.le_of_ble_eq_true rfl) (Nat.le_of_ble_eq_true rfl) (Nat.le_of_ble_eq_true rfl) d_X_nearest_6 ?_
  refine W.widen (k := 0) (n := 0) (Nat.le_of_ble_eq_true rfl) (Nat.le_of_ble_eq_true rfl) ?_
  exact W.iret (v := if (nI lo) < (if v < (nI hi) then v else (nI hi)) then (if v < (nI hi) then v else (nI hi)) else (nI lo)) hx hb hr (fun t9 ht9 hW9 => ⟨⟨if (nI lo) < (if v < (nI hi) then v else (nI hi)) then (if v < (nI hi) then v else (nI hi)) else (nI lo), (), rfl, near_eq hlo hhi hh, ⟨by rw [ht9]; exact hE, va_K.moved hW9.alike hK⟩⟩, hS.F ht9⟩) hS.2.2 d_X_nearest_9
set_option maxHeartbeats 4000000 in
set_option maxRecDepth 100000 in
theorem c_A_size (l : Launch) {D : va_G} {z : Nat} {b : Nat → Nat} {C : fr_C} {H9 : Heap} (h9 : fr_W D hCl z b C H9) {cI cZ cJ cP cO : ClassId} {mc : Int32} {dt tk : Nat} (h7 : C (0, 7) = some (.inr (4, [.ref dt, .int (nI tk), .int mc]))) : Met l y_A_size w_A_size ({ frames := 0, cells := 0, slots := 0, locals := 0 }) (va_Pc [.ref (b 7)] (fr_G D hCl (hTy cI cZ cJ cP cO) z b C)) (va_Qi (fun (r : Int32) (u : Unit) => r = nI tk) (fun u t => fr_G D hCl (hTy cI cZ cJ cP cO) z ((fun _ => b) u) ((fun _ => C) u) t) (fr_A z)) 0 0 (fr_A z) := by
  refine Met.ofW (cc := b_A_size) (maxL := 1) (ret := (some .int)) (by decide) rfl ?_
  intro p e s m args below meth c s₁ B hml hv
  obtain ⟨rfl, hE, hK⟩ := hv
  have hx := B.exec
  have hb := B.bytes
  have hr := B.returns
  have hts := atoms_spec (ws := w_A_size) B.pre
  have hT : ∀ w ∈ hw_tbl, w.before _ s = true := fun w h => hts w (List.mem_cons_of_mem _ h)
  have hown : s.vm.findClass "java/util/ArrayList" = some m.cls := findClass_of_methodNamed B.named
  have hlocks := B.notSynchronized
  have hS : va_S (fr_A z) s.heap s.heap [] := va_S.rf
  have hl := lv_entry ([.ref (b 7)]) (n := 1) (Nat.le_of_ble_eq_true rfl)
  rw [lg_entry_eq]
  generalize (lg_sl ([.ref (b 7)]) ++ List.replicate (1 - (lg_sl ([.ref (b 7)])).length) Slot.unset).toArray = ls at hl ⊢
  have hl : lv_has ls 1 [(0, .ref (b 7))] := hl
  refine lv_aload_n hx hb d_A_size_0 rfl (lv_at hl 0 rfl) ?_
  refine fr_get (ci := 4) (Cn := hR_4) (T := hF_4) (N := 3) hx hb hT hi_4 hown hK hE (0, 7) rfl h7 rfl 1 (by decide) (hT _ kw_62) (fun _ h9 => h9) rfl d_A_size_1 ?_
  refine W.widen (k := 0) (n := 0) (Nat.le_of_ble_eq_true rfl) (Nat.le_of_ble_eq_true rfl) ?_
  exact W.iret (v := nI tk) hx hb hr (fun t9 ht9 hW9 => ⟨⟨nI tk, (), rfl, rfl, ⟨by rw [ht9]; exact hE, va_K.moved hW9.alike hK⟩⟩, hS.F ht9⟩) hS.2.2 d_A_size_4
set_option maxHeartbeats 4000000 in
set_option maxRecDepth 100000 in
theorem c_X_isToken (l : Launch) {D : va_G} {z : Nat} {b : Nat → Nat} {C : fr_C} {H9 : Heap} (h9 : fr_W D hCl z b C H9) {cI cZ cJ cP cO : ClassId} {pg gr lf n an lc po : Nat}  (h0 : C (0, 0) = some (.inr (0, fX b pg gr lf n an lc po)))  {mc : Int32} {dt tk : Nat} (h7 : C (0, 7) = some (.inr (4, [.ref dt, .int (nI tk), .int mc]))) (htk : tk ≤ 4600) (v : Int32) : Met l y_X_isToken w_X_isToken ({ frames := 1, cells := 0, slots := 0, locals := 20 }) (va_Pc [.ref (b 0), .int v] (fr_G D hCl (hTy cI cZ cJ cP cO) z b C)) (va_Qi (fun (r : Int32) (u : Unit) => tells r (inN v tk)) (fun u t => fr_G D hCl (hTy cI cZ cJ cP cO) z ((fun _ => b) u) ((fun _ => C) u) t) (fr_A z)) 0 0 (fr_A z) := by
  refine Met.ofW (cc := b_X_isToken) (maxL := 2) (ret := (some .boolean)) (by decide) rfl ?_
  intro p e s m args below meth c s₁ B hml hv
  obtain ⟨rfl, hE, hK⟩ := hv
  have hx := B.exec
  have hb := B.bytes
  have hr := B.returns
  have hts := atoms_spec (ws := w_X_isToken) B.pre
  have hT : ∀ w ∈ hw_tbl, w.before _ s = true := fun w h => hts w (List.mem_cons_of_mem _ h)
  have hown : s.vm.findClass "HarvestSteps" = some m.cls := findClass_of_methodNamed B.named
  have hlocks := B.notSynchronized
  have hS : va_S (fr_A z) s.heap s.heap [] := va_S.rf
  have hl := lv_entry ([.ref (b 0), .int v]) (n := 2) (Nat.le_of_ble_eq_true rfl)
  rw [lg_entry_eq]
  generalize (lg_sl ([.ref (b 0), .int v]) ++ List.replicate (2 - (lg_sl ([.ref (b 0), .int v])).length) Slot.unset).toArray = ls at hl ⊢
  have hl : lv_has ls 2 [(0, .ref (b 0)), (1, .int v)] := hl
  refine lv_iload_n hx hb d_X_isToken_0 rfl (lv_at hl 1 rfl) ?_
  refine lv_if_lt (tgt := 19) hx hb d_X_isToken_1 (by decide) (fun c_1 => ?_) (fun c_1 => ?_)
  · skip
    refine lv_iconst (v := 0) hx hb d_X_isToken_19 (by decide) ?_
    refine W.widen (k := 0) (n := 0) (Nat.le_of_ble_eq_true rfl) (Nat.le_of_ble_eq_true rfl) ?_
    exact W.zret (v := 0) (ty := .boolean) hx hb hr rfl (fun t9 ht9 hW9 => ⟨⟨0, (), rfl, Or.inr ⟨rfl, inN_neg (by omega) c_1⟩, ⟨by rw [ht9]; exact hE, va_K.moved hW9.alike hK⟩⟩, hS.F ht9⟩) hS.2.2 d_X_isToken_20
  · skip
    refine lv_iload_n hx hb d_X_isToken_4 rfl (lv_at hl 1 rfl) ?_
    refine lv_aload_n hx hb d_X_isToken_5 rfl (lv_at hl 0 rfl) ?_
    refine fr_get (ci := 0) (Cn := hR_0) (T := hF_0) (N := 16) hx hb hT hi_0 hown hK hE (0, 0) rfl h0 rfl 12 (by decide) (hT _ kw_99) (fun _ h9 => h9) rfl d_X_isToken_6 ?_
    refine fr_calli (va_runV (As := []) (rest := [.int v]) ⟨hx, hb, hml, hown, hts⟩ (c_A_size l hE h7) (cwV 0 hts (hw_goodV kw_268 kw_269 kw_270 kw_24 kw_271) rfl rfl rfl (by decide +kernel) ⟨Nat.le_of_ble_eq_true rfl, Nat.le_of_ble_eq_true rfl⟩) ⟨fr_blind, fr_recv hK hE (0, 7) rfl h7 (ci := 4) rfl, fr_pre hE hK⟩ rfl rfl hl.1 rfl (lv_room (Nat.le_of_ble_eq_true rfl)) d_X_isToken_9 ⟨Nat.le_of_ble_eq_true rfl, Nat.le_of_ble_eq_true rfl⟩) hS (fun r_2 u_2 H locs w_2 hE hS => ?_)
    obtain rfl := w_2
    refine lv_icmp_ge (tgt := 19) hx hb d_X_isToken_12 (by decide) (fun c_3 => ?_) (fun c_3 => ?_)
    · skip
      refine lv_iconst (v := 0) hx hb d_X_isToken_19 (by decide) ?_
      refine W.widen (k := 0) (n := 0) (Nat.le_of_ble_eq_true rfl) (Nat.le_of_ble_eq_true rfl) ?_
      exact W.zret (v := 0) (ty := .boolean) hx hb hr rfl (fun t9 ht9 hW9 => ⟨⟨0, (), rfl, Or.inr ⟨rfl, inN_big (by omega) c_3⟩, ⟨by rw [ht9]; exact hE, va_K.moved hW9.alike hK⟩⟩, hS.F ht9⟩) hS.2.2 d_X_isToken_20
    · skip
      refine lv_iconst (v := 1) hx hb d_X_isToken_15 (by decide) ?_
      refine lv_goto (tgt := 20) hx hb d_X_isToken_16 (by decide) ?_
      refine W.widen (k := 0) (n := 0) (Nat.le_of_ble_eq_true rfl) (Nat.le_of_ble_eq_true rfl) ?_
      exact W.zret (v := 1) (ty := .boolean) hx hb hr rfl (fun t9 ht9 hW9 => ⟨⟨1, (), rfl, Or.inl ⟨rfl, inN_yes (by omega) c_1 c_3⟩, ⟨by rw [ht9]; exact hE, va_K.moved hW9.alike hK⟩⟩, hS.F ht9⟩) hS.2.2 d_X_isToken_20
set_option maxHeartbeats 4000000 in
set_option maxRecDepth 100000 in
theorem c_L_init (l : Launch) {D : va_G} {z : Nat} {b : Nat → Nat} {C : fr_C} {H9 : Heap} (h9 : fr_W D hCl z b C H9) {cI cZ cJ cP cO : ClassId} (h0 : C (0, 25) = some (.inr (1, [.int 0, .int 0, .int 0, .null]))) (h f ab : Int32) (a : Nat) : Met l y_L_init w_L_init ({ frames := 1, cells := 0, slots := 0, locals := 12 }) (va_Pc [.ref (b 25), .int h, .int f, .int ab, .ref a] (fr_G D hCl (hTy cI cZ cJ cP cO) z b C)) (va_Qv (fun (u : Unit) => True) (fun u t => fr_G D hCl (hTy cI cZ cJ cP cO) z ((fun _ => b) u) ((fun _ => fr_up C (0, 25) (.inr (1, [.int h, .int f, .int ab, .ref a]))) u) t) (fr_A z)) 0 0 (fr_A z) := by
  refine Met.ofW (cc := b_L_init) (maxL := 5) (ret := none) (by decide) rfl ?_
  intro p e s m args below meth c s₁ B hml hv
  obtain ⟨rfl, hE, hK⟩ := hv
  have hx := B.exec
  have hb := B.bytes
  have hr := B.returns
  have hts := atoms_spec (ws := w_L_init) B.pre
  have hT : ∀ w ∈ hw_tbl, w.before _ s = true := fun w h => hts w (List.mem_cons_of_mem _ h)
  have hown : s.vm.findClass "HarvestSteps$Listing" = some m.cls := findClass_of_methodNamed B.named
  have hlocks := B.notSynchronized
  have hin : meth.name = "<init>" := (name_of_methodNamed B.named B.method).1
  have hS : va_S (fr_A z) s.heap s.heap [] := va_S.rf
  have hl := lv_entry ([.ref (b 25), .int h, .int f, .int ab, .ref a]) (n := 5) (Nat.le_of_ble_eq_true rfl)
  rw [lg_entry_eq]
  generalize (lg_sl ([.ref (b 25), .int h, .int f, .int ab, .ref a]) ++ List.replicate (5 - (lg_sl ([.ref (b 25), .int h, .int f, .int ab, .ref a])).length) Slot.unset).toArray = ls at hl ⊢
  have hl : lv_has ls 5 [(0, .ref (b 25)), (1, .int h), (2, .int f), (3, .int ab), (4, .ref a)] := hl
  refine lv_aload_n hx hb d_L_init_0 rfl (lv_at hl 0 rfl) ?_
  refine W.objInit hx hb hown (hT _ kw_212) (hT _ kw_45) (hT _ kw_46) rfl (by rw [hml]; exact hl.1) rfl d_L_init_1 (Nat.le_of_ble_eq_true rfl) (Nat.le_of_ble_eq_true rfl) ?_
  refine W.eq (g2 := F0 m 4 ls []) rfl ?_
  refine lv_aload_n hx hb d_L_init_4 rfl (lv_at hl 0 rfl) ?_
  refine lv_iload_n hx hb d_L_init_5 rfl (lv_at hl 1 rfl) ?_
  refine fr_putF (ci := 1) (v := .int h) (ty := .int) (Cn := hR_1) (T := hF_1) (N := 4) hx hb hT hi_1 hy_1 ho_1 hn_1 hown hK hE hS (0, 25) rfl h0 rfl 0 (by decide) (hT _ kw_213) (fun _ h9 => h9) rfl hin rfl (by decide +kernel) rfl rfl (Nat.le_of_ble_eq_true rfl) d_L_init_6 (fun H locs hE hS => ?_)
  refine lv_aload_n hx hb d_L_init_9 rfl (lv_at hl 0 rfl) ?_
  refine lv_iload_n hx hb d_L_init_10 rfl (lv_at hl 2 rfl) ?_
  refine fr_putF (ci := 1) (v := .int f) (ty := .int) (Cn := hR_1) (T := hF_1) (N := 4) hx hb hT hi_1 hy_1 ho_1 hn_1 hown hK hE hS (0, 25) rfl rfl rfl 1 (by decide) (hT _ kw_215) (fun _ h9 => h9) rfl hin rfl (by decide +kernel) rfl rfl (Nat.le_of_ble_eq_true rfl) d_L_init_11 (fun H locs hE hS => ?_)
  refine lv_aload_n hx hb d_L_init_14 rfl (lv_at hl 0 rfl) ?_
  refine lv_iload_n hx hb d_L_init_15 rfl (lv_at hl 3 rfl) ?_
  refine fr_putF (ci := 1) (v := .int ab) (ty := .int) (Cn := hR_1) (T := hF_1) (N := 4) hx hb hT hi_1 hy_1 ho_1 hn_1 hown hK hE hS (0, 25) rfl rfl rfl 2 (by decide) (hT _ kw_217) (fun _ h9 => h9) rfl hin rfl (by decide +kernel) rfl rfl (Nat.le_of_ble_eq_true rfl) d_L_init_16 (fun H locs hE hS => ?_)
  refine lv_aload_n hx hb d_L_init_19 rfl (lv_at hl 0 rfl) ?_
  refine lv_aload hx hb d_L_init_20 (lv_at hl 4 rfl) ?_
  refine fr_putF (ci := 1) (v := .ref a) (ty := (.array .int)) (Cn := hR_1) (T := hF_1) (N := 4) hx hb hT hi_1 hy_1 ho_1 hn_1 hown hK hE hS (0, 25) rfl rfl rfl 3 (by decide) (hT _ kw_219) (fun _ h9 => h9) rfl hin rfl (by decide +kernel) rfl rfl (Nat.le_of_ble_eq_true rfl) d_L_init_22 (fun H locs hE hS => ?_)
  refine W.widen (k := 0) (n := 0) (Nat.le_of_ble_eq_true rfl) (Nat.le_of_ble_eq_true rfl) ?_
  rw [fr_up_up, fr_up_up, fr_up_up] at hE
  exact W.vret hx hb hr (fun t9 ht9 hW9 => ⟨⟨(), rfl, trivial, ⟨by rw [ht9]; exact hE, va_K.moved hW9.alike hK⟩⟩, hS.F ht9⟩) hS.2.2 d_L_init_25
set_option maxHeartbeats 4000000 in
set_option maxRecDepth 100000 in
theorem c_T_init (l : Launch) {D : va_G} {z : Nat} {b : Nat → Nat} {C : fr_C} {H9 : Heap} (h9 : fr_W D hCl z b C H9) {cI cZ cJ cP cO : ClassId} (h0 : C (0, 24) = some (.inr (3, [.null, .int 0, .int 0, .null]))) (lg : Nat) (bg md : Int32) : Met l y_T_init w_T_init ({ frames := 1, cells := 0, slots := 0, locals := 12 }) (va_Pc [.ref (b 24), .ref lg, .int bg, .int md] (fr_G D hCl (hTy cI cZ cJ cP cO) z b C)) (va_Qv (fun (u : Unit) => True) (fun u t => fr_G D hCl (hTy cI cZ cJ cP cO) z ((fun _ => b) u) ((fun _ => fr_up C (0, 24) (.inr (3, [.ref lg, .int bg, .int md, .null]))) u) t) (fr_A z)) 0 0 (fr_A z) := by
  refine Met.ofW (cc := b_T_init) (maxL := 4) (ret := none) (by decide) rfl ?_
  intro p e s m args below meth c s₁ B hml hv
  obtain ⟨rfl, hE, hK⟩ := hv
  have hx := B.exec
  have hb := B.bytes
  have hr := B.returns
  have hts := atoms_spec (ws := w_T_init) B.pre
  have hT : ∀ w ∈ hw_tbl, w.before _ s = true := fun w h => hts w (List.mem_cons_of_mem _ h)
  have hown : s.vm.findClass "HarvestSteps$Token" = some m.cls := findClass_of_methodNamed B.named
  have hlocks := B.notSynchronized
  have hin : meth.name = "<init>" := (name_of_methodNamed B.named B.method).1
  have hS : va_S (fr_A z) s.heap s.heap [] := va_S.rf
  have hl := lv_entry ([.ref (b 24), .ref lg, .int bg, .int md]) (n := 4) (Nat.le_of_ble_eq_true rfl)
  rw [lg_entry_eq]
  generalize (lg_sl ([.ref (b 24), .ref lg, .int bg, .int md]) ++ List.replicate (4 - (lg_sl ([.ref (b 24), .ref lg, .int bg, .int md])).length) Slot.unset).toArray = ls at hl ⊢
  have hl : lv_has ls 4 [(0, .ref (b 24)), (1, .ref lg), (2, .int bg), (3, .int md)] := hl
  refine lv_aload_n hx hb d_T_init_0 rfl (lv_at hl 0 rfl) ?_
  refine W.objInit hx hb hown (hT _ kw_277) (hT _ kw_45) (hT _ kw_46) rfl (by rw [hml]; exact hl.1) rfl d_T_init_1 (Nat.le_of_ble_eq_true rfl) (Nat.le_of_ble_eq_true rfl) ?_
  refine W.eq (g2 := F0 m 4 ls []) rfl ?_
  refine lv_aload_n hx hb d_T_init_4 rfl (lv_at hl 0 rfl) ?_
  refine lv_null hx hb d_T_init_5 ?_
  refine fr_put (ci := 3) (v := .null) (ty := (.object "HarvestSteps$Page")) (Cn := hR_3) (T := hF_3) (N := 4) hx hb hT hi_3 hy_3 ho_3 hn_3 hown hK hE hS (0, 24) rfl h0 rfl 3 (by decide) (hT _ kw_284) (fun _ h9 => h9) rfl (by decide +kernel) rfl rfl (Nat.le_of_ble_eq_true rfl) d_T_init_6 (fun H locs hE hS => ?_)
  refine lv_aload_n hx hb d_T_init_9 rfl (lv_at hl 0 rfl) ?_
  refine lv_aload_n hx hb d_T_init_10 rfl (lv_at hl 1 rfl) ?_
  refine fr_putF (ci := 3) (v := .ref lg) (ty := (.object "HarvestSteps$Listing")) (Cn := hR_3) (T := hF_3) (N := 4) hx hb hT hi_3 hy_3 ho_3 hn_3 hown hK hE hS (0, 24) rfl rfl rfl 0 (by decide) (hT _ kw_278) (fun _ h9 => h9) rfl hin rfl (by decide +kernel) rfl rfl (Nat.le_of_ble_eq_true rfl) d_T_init_11 (fun H locs hE hS => ?_)
  refine lv_aload_n hx hb d_T_init_14 rfl (lv_at hl 0 rfl) ?_
  refine lv_iload_n hx hb d_T_init_15 rfl (lv_at hl 2 rfl) ?_
  refine fr_putF (ci := 3) (v := .int bg) (ty := .int) (Cn := hR_3) (T := hF_3) (N := 4) hx hb hT hi_3 hy_3 ho_3 hn_3 hown hK hE hS (0, 24) rfl rfl rfl 1 (by decide) (hT _ kw_280) (fun _ h9 => h9) rfl hin rfl (by decide +kernel) rfl rfl (Nat.le_of_ble_eq_true rfl) d_T_init_16 (fun H locs hE hS => ?_)
  refine lv_aload_n hx hb d_T_init_19 rfl (lv_at hl 0 rfl) ?_
  refine lv_iload_n hx hb d_T_init_20 rfl (lv_at hl 3 rfl) ?_
  refine fr_putF (ci := 3) (v := .int md) (ty := .int) (Cn := hR_3) (T := hF_3) (N := 4) hx hb hT hi_3 hy_3 ho_3 hn_3 hown hK hE hS (0, 24) rfl rfl rfl 2 (by decide) (hT _ kw_282) (fun _ h9 => h9) rfl hin rfl (by decide +kernel) rfl rfl (Nat.le_of_ble_eq_true rfl) d_T_init_21 (fun H locs hE hS => ?_)
  refine W.widen (k := 0) (n := 0) (Nat.le_of_ble_eq_true rfl) (Nat.le_of_ble_eq_true rfl) ?_
  rw [fr_up_up, fr_up_up, fr_up_up] at hE
  exact W.vret hx hb hr (fun t9 ht9 hW9 => ⟨⟨(), rfl, trivial, ⟨by rw [ht9]; exact hE, va_K.moved hW9.alike hK⟩⟩, hS.F ht9⟩) hS.2.2 d_T_init_24
set_option maxHeartbeats 4000000 in
set_option maxRecDepth 100000 in
theorem c_P_init (l : Launch) {D : va_G} {z : Nat} {b : Nat → Nat} {C : fr_C} {H9 : Heap} (h9 : fr_W D hCl z b C H9) {cI cZ cJ cP cO : ClassId} (h0 : C (0, 20) = some (.inr (2, [.int 0, .null, .null, .null, .int 0, .int 0]))) (f : Int32) (rm : Nat) (hrm : rm ≤ 50) : Met l y_P_init w_P_init ({ frames := 1, cells := 3, slots := 150, locals := 12 }) (va_Pc [.ref (b 20), .int f, .int (nI rm)] (fr_G D hCl (hTy cI cZ cJ cP cO) z b C)) (va_Qv (fun (u : Nat × Nat × Nat × fr_C) => u.2.2.2 (0, 20) = some (.inr (2, [.int f, .ref u.1, .ref u.2.1, .ref u.2.2.1, .int 0, .int (-1)])) ∧ u.2.2.2 (0, 21) = some (.inl (cI, rm, .inl (fun _ => 0))) ∧ u.2.2.2 (0, 22) = some (.inl (cI, rm, .inl (fun _ => 0))) ∧ u.2.2.2 (0, 23) = some (.inl (cZ, rm, .inl (fun _ => 0))) ∧ fr_ag [(0, 20), (0, 21), (0, 22), (0, 23)] u.2.2.2 C) (fun u t => fr_G D hCl (hTy cI cZ cJ cP cO) z ((fun u => fr_ub (fr_ub (fr_ub b 21 u.1) 22 u.2.1) 23 u.2.2.1) u) ((fun u => u.2.2.2) u) t) (fr_A z)) 3 150 (fr_A z) := by
  refine Met.ofW (cc := b_P_init) (maxL := 3) (ret := none) (by decide) rfl ?_
  intro p e s m args below meth c s₁ B hml hv
  obtain ⟨rfl, hE, hK⟩ := hv
  have hx := B.exec
  have hb := B.bytes
  have hr := B.returns
  have hts := atoms_spec (ws := w_P_init) B.pre
  have hT : ∀ w ∈ hw_tbl, w.before _ s = true := fun w h => hts w (List.mem_cons_of_mem _ h)
  have hown : s.vm.findClass "HarvestSteps$Page" = some m.cls := findClass_of_methodNamed B.named
  have hlocks := B.notSynchronized
  have hin : meth.name = "<init>" := (name_of_methodNamed B.named B.method).1
  have hS : va_S (fr_A z) s.heap s.heap [] := va_S.rf
  have hl := lv_entry ([.ref (b 20), .int f, .int (nI rm)]) (n := 3) (Nat.le_of_ble_eq_true rfl)
  rw [lg_entry_eq]
  generalize (lg_sl ([.ref (b 20), .int f, .int (nI rm)]) ++ List.replicate (3 - (lg_sl ([.ref (b 20), .int f, .int (nI rm)])).length) Slot.unset).toArray = ls at hl ⊢
  have hl : lv_has ls 3 [(0, .ref (b 20)), (1, .int f), (2, .int (nI rm))] := hl
  refine lv_aload_n hx hb d_P_init_0 rfl (lv_at hl 0 rfl) ?_
  refine W.objInit hx hb hown (hT _ kw_238) (hT _ kw_45) (hT _ kw_46) rfl (by rw [hml]; exact hl.1) rfl d_P_init_1 (Nat.le_of_ble_eq_true rfl) (Nat.le_of_ble_eq_true rfl) ?_
  refine W.eq (g2 := F0 m 4 ls []) rfl ?_
  refine lv_aload_n hx hb d_P_init_4 rfl (lv_at hl 0 rfl) ?_
  refine lv_iconst (v := 0) hx hb d_P_init_5 (by decide) ?_
  refine fr_put (ci := 2) (v := .int 0) (ty := .int) (Cn := hR_2) (T := hF_2) (N := 6) hx hb hT hi_2 hy_2 ho_2 hn_2 hown hK hE hS (0, 20) rfl h0 rfl 4 (by decide) (hT _ kw_247) (fun _ h9 => h9) rfl (by decide +kernel) rfl rfl (Nat.le_of_ble_eq_true rfl) d_P_init_6 (fun H locs hE hS => ?_)
  refine lv_aload_n hx hb d_P_init_9 rfl (lv_at hl 0 rfl) ?_
  refine lv_iconst (v := (-1)) hx hb d_P_init_10 (by decide) ?_
  refine fr_put (ci := 2) (v := .int (-1)) (ty := .int) (Cn := hR_2) (T := hF_2) (N := 6) hx hb hT hi_2 hy_2 ho_2 hn_2 hown hK hE hS (0, 20) rfl rfl rfl 5 (by decide) (hT _ kw_249) (fun _ h9 => h9) rfl (by decide +kernel) rfl rfl (Nat.le_of_ble_eq_true rfl) d_P_init_11 (fun H locs hE hS => ?_)
  refine lv_aload_n hx hb d_P_init_14 rfl (lv_at hl 0 rfl) ?_
  refine lv_iload_n hx hb d_P_init_15 rfl (lv_at hl 1 rfl) ?_
  refine fr_putF (ci := 2) (v := .int f) (ty := .int) (Cn := hR_2) (T := hF_2) (N := 6) hx hb hT hi_2 hy_2 ho_2 hn_2 hown hK hE hS (0, 20) rfl rfl rfl 0 (by decide) (hT _ kw_239) (fun _ h9 => h9) rfl hin rfl (by decide +kernel) rfl rfl (Nat.le_of_ble_eq_true rfl) d_P_init_16 (fun H locs hE hS => ?_)
  refine lv_aload_n hx hb d_P_init_19 rfl (lv_at hl 0 rfl) ?_
  refine lv_iload_n hx hb d_P_init_20 rfl (lv_at hl 2 rfl) ?_
  refine fr_newa (atype := .int) (ty := .int) (a0 := (rm, .inl (fun _ => 0))) hx hb (hT _ kw_74) rfl hK hE hS 21 0 rfl rm (fun _ => rfl) (rfl) (by omega) (show rm * _ ≤ _ from Nat.le_trans (Nat.mul_le_mul_right _ hrm) (by decide)) (Nat.le_of_ble_eq_true rfl) (show 0 + rm ≤ 150 by omega) d_P_init_21 (fun q21 H nq21 hE hS => ?_)
  refine W.widen (k := 1) (n := 50) (Nat.le_of_ble_eq_true rfl) (by omega) ?_
  refine fr_putF (ci := 2) (v := .ref q21) (ty := (.array .int)) (Cn := hR_2) (T := hF_2) (N := 6) hx hb hT hi_2 hy_2 ho_2 hn_2 hown hK hE hS (0, 20) rfl rfl rfl 1 (by decide) (hT _ kw_241) (fun _ h9 => h9) rfl hin rfl (by decide +kernel) rfl rfl (Nat.le_of_ble_eq_true rfl) d_P_init_23 (fun H locs hE hS => ?_)
  refine lv_aload_n hx hb d_P_init_26 rfl (lv_at hl 0 rfl) ?_
  refine lv_iload_n hx hb d_P_init_27 rfl (lv_at hl 2 rfl) ?_
  refine fr_newa (atype := .int) (ty := .int) (a0 := (rm, .inl (fun _ => 0))) hx hb (hT _ kw_74) rfl hK hE hS 22 0 rfl rm (fun _ => rfl) (rfl) (by omega) (show rm * _ ≤ _ from Nat.le_trans (Nat.mul_le_mul_right _ hrm) (by decide)) (Nat.le_of_ble_eq_true rfl) (show 50 + rm ≤ 150 by omega) d_P_init_28 (fun q22 H nq22 hE hS => ?_)
  refine W.widen (k := 2) (n := 100) (Nat.le_of_ble_eq_true rfl) (by omega) ?_
  refine fr_putF (ci := 2) (v := .ref q22) (ty := (.array .int)) (Cn := hR_2) (T := hF_2) (N := 6) hx hb hT hi_2 hy_2 ho_2 hn_2 hown hK hE hS (0, 20) rfl rfl rfl 2 (by decide) (hT _ kw_243) (fun _ h9 => h9) rfl hin rfl (by decide +kernel) rfl rfl (Nat.le_of_ble_eq_true rfl) d_P_init_30 (fun H locs hE hS => ?_)
  refine lv_aload_n hx hb d_P_init_33 rfl (lv_at hl 0 rfl) ?_
  refine lv_iload_n hx hb d_P_init_34 rfl (lv_at hl 2 rfl) ?_
  refine fr_newa (atype := .boolean) (ty := .boolean) (a0 := (rm, .inl (fun _ => 0))) hx hb (hT _ kw_73) rfl hK hE hS 23 1 rfl rm (fun _ => rfl) (rfl) (by omega) (show rm * _ ≤ _ from Nat.le_trans (Nat.mul_le_mul_right _ hrm) (by decide)) (Nat.le_of_ble_eq_true rfl) (show 100 + rm ≤ 150 by omega) d_P_init_35 (fun q23 H nq23 hE hS => ?_)
  refine W.widen (k := 3) (n := 150) (Nat.le_of_ble_eq_true rfl) (by omega) ?_
  refine fr_putF (ci := 2) (v := .ref q23) (ty := (.array .boolean)) (Cn := hR_2) (T := hF_2) (N := 6) hx hb hT hi_2 hy_2 ho_2 hn_2 hown hK hE hS (0, 20) rfl rfl rfl 3 (by decide) (hT _ kw_245) (fun _ h9 => h9) rfl hin rfl (by decide +kernel) rfl rfl (Nat.le_of_ble_eq_true rfl) d_P_init_37 (fun H locs hE hS => ?_)
  refine W.widen (k := 3) (n := 150) (Nat.le_of_ble_eq_true rfl) (Nat.le_of_ble_eq_true rfl) ?_
  have hpost := hE.say (fun C9 => C9 (0, 20) = some (.inr (2, [.int f, .ref q21, .ref q22, .ref q23, .int 0, .int (-1)])) ∧ C9 (0, 21) = some (.inl (cI, rm, .inl (fun _ => 0))) ∧ C9 (0, 22) = some (.inl (cI, rm, .inl (fun _ => 0))) ∧ C9 (0, 23) = some (.inl (cZ, rm, .inl (fun _ => 0))) ∧ fr_ag [(0, 20), (0, 21), (0, 22), (0, 23)] C9 C) ⟨rfl, rfl, rfl, rfl, fr_ag.up (fr_ag.up (fr_ag.up (fr_ag.up (fr_ag.up (fr_ag.up (fr_ag.up (fr_ag.up (fr_ag.up (fr_ag.rf) (by decide)) (by decide)) (by decide)) (by decide)) (by decide)) (by decide)) (by decide)) (by decide)) (by decide)⟩
  exact W.vret hx hb hr (fun t9 ht9 hW9 => ⟨⟨(q21, q22, q23, _), rfl, hpost, ⟨by rw [ht9]; exact hE, va_K.moved hW9.alike hK⟩⟩, hS.F ht9⟩) hS.2.2 d_P_init_40
set_option maxHeartbeats 4000000 in
set_option maxRecDepth 100000 in
theorem c_P_keep (l : Launch) {D : va_G} {z : Nat} {b : Nat → Nat} {C : fr_C} {H9 : Heap} (h9 : fr_W D hCl z b C H9) {cI cZ cJ cP cO : ClassId} {f nt : Int32} {ct rm : Nat} {fn fd fz : Nat → Int32} (h0 : C (0, 20) = some (.inr (2, [.int f, .ref (b 21), .ref (b 22), .ref (b 23), .int (nI ct), .int nt]))) (h1 : C (0, 21) = some (.inl (cI, rm, .inl fn))) (h2 : C (0, 22) = some (.inl (cI, rm, .inl fd))) (h3 : C (0, 23) = some (.inl (cZ, rm, .inl fz))) (hct : ct < rm) (hrm : rm ≤ 50) (nu da x : Int32) (hxx : vp_nar .boolean x = x) : Met l y_P_keep w_P_keep ({ frames := 0, cells := 0, slots := 0, locals := 0 }) (va_Pc [.ref (b 20), .int nu, .int da, .int x] (fr_G D hCl (hTy cI cZ cJ cP cO) z b C)) (va_Qv (fun (u : Unit) => True) (fun u t => fr_G D hCl (hTy cI cZ cJ cP cO) z ((fun _ => b) u) ((fun _ => fr_up (fr_up (fr_up (fr_up C (0, 21) (.inl (cI, rm, .inl (upd fn ct nu)))) (0, 22) (.inl (cI, rm, .inl (upd fd ct da)))) (0, 23) (.inl (cZ, rm, .inl (upd fz ct x)))) (0, 20) (.inr (2, [.int f, .ref (b 21), .ref (b 22), .ref (b 23), .int (nI (ct + 1)), .int nt]))) u) t) (fr_A z)) 0 0 (fr_A z) := by
  refine Met.ofW (cc := b_P_keep) (maxL := 4) (ret := none) (by decide) rfl ?_
  intro p e s m args below meth c s₁ B hml hv
  obtain ⟨rfl, hE, hK⟩ := hv
  have hx := B.exec
  have hb := B.bytes
  have hr := B.returns
  have hts := atoms_spec (ws := w_P_keep) B.pre
  have hT : ∀ w ∈ hw_tbl, w.before _ s = true := fun w h => hts w (List.mem_cons_of_mem _ h)
  have hown : s.vm.findClass "HarvestSteps$Page" = some m.cls := findClass_of_methodNamed B.named
  have hlocks := B.notSynchronized
  have hS : va_S (fr_A z) s.heap s.heap [] := va_S.rf
  have hl := lv_entry ([.ref (b 20), .int nu, .int da, .int x]) (n := 4) (Nat.le_of_ble_eq_true rfl)
  rw [lg_entry_eq]
  generalize (lg_sl ([.ref (b 20), .int nu, .int da, .int x]) ++ List.replicate (4 - (lg_sl ([.ref (b 20), .int nu, .int da, .int x])).length) Slot.unset).toArray = ls at hl ⊢
  have hl : lv_has ls 4 [(0, .ref (b 20)), (1, .int nu), (2, .int da), (3, .int x)] := hl
  refine lv_aload_n hx hb d_P_keep_0 rfl (lv_at hl 0 rfl) ?_
  refine fr_get (ci := 2) (Cn := hR_2) (T := hF_2) (N := 6) hx hb hT hi_2 hown hK hE (0, 20) rfl h0 rfl 4 (by decide) (hT _ kw_247) (fun _ h9 => h9) rfl d_P_keep_1 ?_
  refine lv_aload_n hx hb d_P_keep_4 rfl (lv_at hl 0 rfl) ?_
  refine fr_get (ci := 2) (Cn := hR_2) (T := hF_2) (N := 6) hx hb hT hi_2 hown hK hE (0, 20) rfl h0 rfl 1 (by decide) (hT _ kw_241) (fun _ h9 => h9) rfl d_P_keep_5 ?_
  refine fr_alen hx hb hK hE (0, 21) 0 rfl h1 rfl d_P_keep_8 ?_
  refine lv_icmp_lt (tgt := 13) hx hb d_P_keep_9 (by decide) (fun c_1 => ?_) (fun c_1 => ?_)
  · skip
    refine lv_aload_n hx hb d_P_keep_13 rfl (lv_at hl 0 rfl) ?_
    refine fr_get (ci := 2) (Cn := hR_2) (T := hF_2) (N := 6) hx hb hT hi_2 hown hK hE (0, 20) rfl h0 rfl 1 (by decide) (hT _ kw_241) (fun _ h9 => h9) rfl d_P_keep_14 ?_
    refine lv_aload_n hx hb d_P_keep_17 rfl (lv_at hl 0 rfl) ?_
    refine fr_get (ci := 2) (Cn := hR_2) (T := hF_2) (N := 6) hx hb hT hi_2 hown hK hE (0, 20) rfl h0 rfl 4 (by decide) (hT _ kw_247) (fun _ h9 => h9) rfl d_P_keep_18 ?_
    refine lv_iload_n hx hb d_P_keep_21 rfl (lv_at hl 1 rfl) ?_
    refine fr_iast hx hb hK hE hS (0, 21) 0 rfl h1 rfl ct (rfl) (by omega) (by omega) d_P_keep_22 (fun H locs hE hS => ?_)
    refine lv_aload_n hx hb d_P_keep_23 rfl (lv_at hl 0 rfl) ?_
    refine fr_get (ci := 2) (Cn := hR_2) (T := hF_2) (N := 6) hx hb hT hi_2 hown hK hE (0, 20) rfl h0 rfl 2 (by decide) (hT _ kw_243) (fun _ h9 => h9) rfl d_P_keep_24 ?_
    refine lv_aload_n hx hb d_P_keep_27 rfl (lv_at hl 0 rfl) ?_
    refine fr_get (ci := 2) (Cn := hR_2) (T := hF_2) (N := 6) hx hb hT hi_2 hown hK hE (0, 20) rfl h0 rfl 4 (by decide) (hT _ kw_247) (fun _ h9 => h9) rfl d_P_keep_28 ?_
    refine lv_iload_n hx hb d_P_keep_31 rfl (lv_at hl 2 rfl) ?_
    refine fr_iast hx hb hK hE hS (0, 22) 0 rfl h2 rfl ct (rfl) (by omega) (by omega) d_P_keep_32 (fun H locs hE hS => ?_)
    refine lv_aload_n hx hb d_P_keep_33 rfl (lv_at hl 0 rfl) ?_
    refine fr_get (ci := 2) (Cn := hR_2) (T := hF_2) (N := 6) hx hb hT hi_2 hown hK hE (0, 20) rfl h0 rfl 3 (by decide) (hT _ kw_245) (fun _ h9 => h9) rfl d_P_keep_34 ?_
    refine lv_aload_n hx hb d_P_keep_37 rfl (lv_at hl 0 rfl) ?_
    refine fr_get (ci := 2) (Cn := hR_2) (T := hF_2) (N := 6) hx hb hT hi_2 hown hK hE (0, 20) rfl h0 rfl 4 (by decide) (hT _ kw_247) (fun _ h9 => h9) rfl d_P_keep_38 ?_
    refine lv_iload_n hx hb d_P_keep_41 rfl (lv_at hl 3 rfl) ?_
    refine fr_zast hx hb hK hE hS (0, 23) 1 rfl h3 rfl ct (rfl) (by omega) (by omega) x (hxx) d_P_keep_42 (fun H locs hE hS => ?_)
    refine lv_aload_n hx hb d_P_keep_43 rfl (lv_at hl 0 rfl) ?_
    refine lv_dup hx hb d_P_keep_44 rfl ?_
    refine fr_get (ci := 2) (Cn := hR_2) (T := hF_2) (N := 6) hx hb hT hi_2 hown hK hE (0, 20) rfl h0 rfl 4 (by decide) (hT _ kw_247) (fun _ h9 => h9) rfl d_P_keep_45 ?_
    refine lv_iconst (v := 1) hx hb d_P_keep_48 (by decide) ?_
    refine lv_iadd hx hb d_P_keep_49 ?_
    refine lv_topi (fun y_2 ey_2 => ?_)
    obtain rfl : y_2 = nI (ct + 1) := ey_2.trans (nI_1 ct)
    refine fr_put (ci := 2) (v := .int (nI (ct + 1))) (ty := .int) (Cn := hR_2) (T := hF_2) (N := 6) hx hb hT hi_2 hy_2 ho_2 hn_2 hown hK hE hS (0, 20) rfl h0 rfl 4 (by decide) (hT _ kw_247) (fun _ h9 => h9) rfl (by decide +kernel) rfl rfl (Nat.le_of_ble_eq_true rfl) d_P_keep_50 (fun H locs hE hS => ?_)
    refine W.widen (k := 0) (n := 0) (Nat.le_of_ble_eq_true rfl) (Nat.le_of_ble_eq_true rfl) ?_
    exact W.vret hx hb hr (fun t9 ht9 hW9 => ⟨⟨(), rfl, trivial, ⟨by rw [ht9]; exact hE, va_K.moved hW9.alike hK⟩⟩, hS.F ht9⟩) hS.2.2 d_P_keep_53
  · skip
    exact absurd c_1 (fun q9 => q9 (nI_lt hct (by omega)))
def xAns (C : fr_C) (cI cP : ClassId) (lp : Nat → Option Nat) (cs : Nat → Int32) (hh pg : Nat) (ct : Int32) : fr_C := fr_up (fr_up C (0, 8) (.inl (cP, 10, .inr (.inr (.inr (.inr (va_up lp hh (some pg)))))))) (0, 9) (.inl (cI, 10, .inl (upd cs hh (cs hh + ct))))
set_option maxHeartbeats 4000000 in
set_option maxRecDepth 100000 in
theorem c_X_answer (l : Launch) {D : va_G} {z : Nat} {b : Nat → Nat} {C : fr_C} {H9 : Heap} (h9 : fr_W D hCl z b C H9) {cI cZ cJ cP cO : ClassId} {pg gr lf n an lc po : Nat} {lp : Nat → Option Nat} {cs : Nat → Int32} (h0 : C (0, 0) = some (.inr (0, fX b pg gr lf n an lc po))) (h8 : C (0, 8) = some (.inl (cP, 10, .inr (.inr (.inr (.inr lp)))))) (h9a : C (0, 9) = some (.inl (cI, 10, .inl cs))) {fo ct nt : Int32} {pn pd pz : Nat} (pa : Nat) (hpa : C (1, pa) = some (.inr (2, [.int fo, .ref pn, .ref pd, .ref pz, .int ct, .int nt]))) (hh : Nat) (hhh : hh < 10) : Met l y_X_answer w_X_answer ({ frames := 0, cells := 0, slots := 0, locals := 0 }) (va_Pc [.ref (b 0), .int (nI hh), .ref pa] (fr_G D hCl (hTy cI cZ cJ cP cO) z b C)) (va_Qi (fun (r : Int32) (u : Unit) => r = ct) (fun u t => fr_G D hCl (hTy cI cZ cJ cP cO) z ((fun _ => b) u) ((fun _ => xAns C cI cP lp cs hh pa ct) u) t) (fr_A z)) 0 0 (fr_A z) := by
  refine Met.ofW (cc := b_X_answer) (maxL := 3) (ret := (some .int)) (by decide) rfl ?_
  intro p e s m args below meth c s₁ B hml hv
  obtain ⟨rfl, hE, hK⟩ := hv
  have hx := B.exec
  have hb := B.bytes
  have hr := B.returns
  have hts := atoms_spec (ws := w_X_answer) B.pre
  have hT : ∀ w ∈ hw_tbl, w.before _ s = true := fun w h => hts w (List.mem_cons_of_mem _ h)
  have hown : s.vm.findClass "HarvestSteps" = some m.cls := findClass_of_methodNamed B.named
  have hlocks := B.notSynchronized
  have hS : va_S (fr_A z) s.heap s.heap [] := va_S.rf
  have hl := lv_entry ([.ref (b 0), .int (nI hh), .ref pa]) (n := 3) (Nat.le_of_ble_eq_true rfl)
  rw [lg_entry_eq]
  generalize (lg_sl ([.ref (b 0), .int (nI hh), .ref pa]) ++ List.replicate (3 - (lg_sl ([.ref (b 0), .int (nI hh), .ref pa])).length) Slot.unset).toArray = ls at hl ⊢
  have hl : lv_has ls 3 [(0, .ref (b 0)), (1, .int (nI hh)), (2, .ref pa)] := hl
  refine lv_aload_n hx hb d_X_answer_0 rfl (lv_at hl 0 rfl) ?_
  refine fr_get (ci := 0) (Cn := hR_0) (T := hF_0) (N := 16) hx hb hT hi_0 hown hK hE (0, 0) rfl h0 rfl 13 (by decide) (hT _ kw_100) (fun _ h9 => h9) rfl d_X_answer_1 ?_
  refine lv_iload_n hx hb d_X_answer_4 rfl (lv_at hl 1 rfl) ?_
  refine lv_aload_n hx hb d_X_answer_5 rfl (lv_at hl 2 rfl) ?_
  refine fr_aast hx hb hK hE hS (0, 8) 3 rfl h8 rfl (1, pa) rfl hpa rfl hh (rfl) (by omega) (by decide) d_X_answer_6 (fun H locs hE hS => ?_)
  refine lv_aload_n hx hb d_X_answer_7 rfl (lv_at hl 0 rfl) ?_
  refine fr_get (ci := 0) (Cn := hR_0) (T := hF_0) (N := 16) hx hb hT hi_0 hown hK hE (0, 0) rfl h0 rfl 14 (by decide) (hT _ kw_101) (fun _ h9 => h9) rfl d_X_answer_8 ?_
  refine lv_iload_n hx hb d_X_answer_11 rfl (lv_at hl 1 rfl) ?_
  refine lv_dup2_11 hx hb d_X_answer_12 rfl rfl ?_
  refine fr_iald hx hb hK hE (0, 9) 0 rfl h9a rfl hh (rfl) (by omega) (by decide) d_X_answer_13 ?_
  refine lv_aload_n hx hb d_X_answer_14 rfl (lv_at hl 2 rfl) ?_
  refine fr_get (ci := 2) (Cn := hR_2) (T := hF_2) (N := 6) hx hb hT hi_2 hown hK hE (1, pa) rfl hpa rfl 4 (by decide) (hT _ kw_248) (fun _ h9 => h9) rfl d_X_answer_15 ?_
  refine lv_iadd hx hb d_X_answer_18 ?_
  refine fr_iast hx hb hK hE hS (0, 9) 0 rfl h9a rfl hh (rfl) (by omega) (by decide) d_X_answer_19 (fun H locs hE hS => ?_)
  refine lv_aload_n hx hb d_X_answer_20 rfl (lv_at hl 2 rfl) ?_
  refine fr_get (ci := 2) (Cn := hR_2) (T := hF_2) (N := 6) hx hb hT hi_2 hown hK hE (1, pa) rfl hpa rfl 4 (by decide) (hT _ kw_248) (fun _ h9 => h9) rfl d_X_answer_21 ?_
  refine W.widen (k := 0) (n := 0) (Nat.le_of_ble_eq_true rfl) (Nat.le_of_ble_eq_true rfl) ?_
  exact W.iret (v := ct) hx hb hr (fun t9 ht9 hW9 => ⟨⟨ct, (), rfl, rfl, ⟨by rw [ht9]; exact hE, va_K.moved hW9.alike hK⟩⟩, hS.F ht9⟩) hS.2.2 d_X_answer_24
set_option maxHeartbeats 4000000 in
set_option maxRecDepth 100000 in
theorem c_X_token (l : Launch) {D : va_G} {z : Nat} {b : Nat → Nat} {C : fr_C} {H9 : Heap} (h9 : fr_W D hCl z b C H9) {cI cZ cJ cP cO : ClassId} {pg gr lf n an lc po : Nat} {lp : Nat → Option Nat} (h0 : C (0, 0) = some (.inr (0, fX b pg gr lf n an lc po))) (h8 : C (0, 8) = some (.inl (cP, 10, .inr (.inr (.inr (.inr lp)))))) (hlp : ∀ j pa, j < 10 → lp j = some pa → ∃ (fo : Int32) (pn pd pz : Nat) (ct nt : Int32), C (1, pa) = some (.inr (2, [.int fo, .ref pn, .ref pd, .ref pz, .int ct, .int nt]))) (h : Int32) : Met l y_X_token w_X_token ({ frames := 1, cells := 0, slots := 0, locals := 20 }) (va_Pc [.ref (b 0), .int h] (fr_G D hCl (hTy cI cZ cJ cP cO) z b C)) (va_Qi (fun (r : Int32) (u : Unit) => (¬ inN h 10 ∧ r = -1) ∨ (∃ j : Nat, j < 10 ∧ h = nI j ∧ ((lp j = none ∧ r = -1) ∨ (∃ (pa : Nat) (fo : Int32) (pn pd pz : Nat) (ct nt : Int32), lp j = some pa ∧ C (1, pa) = some (.inr (2, [.int fo, .ref pn, .ref pd, .ref pz, .int ct, .int nt])) ∧ r = nt)))) (fun u t => fr_G D hCl (hTy cI cZ cJ cP cO) z ((fun _ => b) u) ((fun _ => C) u) t) (fr_A z)) 0 0 (fr_A z) := by
  refine Met.ofW (cc := b_X_token) (maxL := 3) (ret := (some .int)) (by decide) rfl ?_
  intro p e s m args below meth c s₁ B hml hv
  obtain ⟨rfl, hE, hK⟩ := hv
  have hx := B.exec
  have hb := B.bytes
  have hr := B.returns
  have hts := atoms_spec (ws := w_X_token) B.pre
  have hT : ∀ w ∈ hw_tbl, w.before _ s = true := fun w h => hts w (List.mem_cons_of_mem _ h)
  have hown : s.vm.findClass "HarvestSteps" = some m.cls := findClass_of_methodNamed B.named
  have hlocks := B.notSynchronized
  have hS : va_S (fr_A z) s.heap s.heap [] := va_S.rf
  have hl := lv_entry ([.ref (b 0), .int h]) (n := 3) (Nat.le_of_ble_eq_true rfl)
  rw [lg_entry_eq]
  generalize (lg_sl ([.ref (b 0), .int h]) ++ List.replicate (3 - (lg_sl ([.ref (b 0), .int h])).length) Slot.unset).toArray = ls at hl ⊢
  have hl : lv_has ls 3 [(0, .ref (b 0)), (1, .int h)] := hl
  refine lv_iload_n hx hb d_X_token_0 rfl (lv_at hl 1 rfl) ?_
  refine fr_calli (va_runS (As := [.int h]) (rest := []) ⟨hx, hb, hml, hown, hts⟩ (c_X_isHarvester l hE h) (va_cwS 1 hts (hw_goodS kw_174 kw_175 kw_21 kw_176) rfl rfl rfl (by decide +kernel) ⟨Nat.le_of_ble_eq_true rfl, Nat.le_of_ble_eq_true rfl⟩) ⟨fr_blind, fr_pre hE hK⟩ rfl rfl hl.1 rfl (lv_room (Nat.le_of_ble_eq_true rfl)) d_X_token_1 ⟨Nat.le_of_ble_eq_true rfl, Nat.le_of_ble_eq_true rfl⟩) hS (fun r_1 u_1 H locs w_1 hE hS => ?_)
  rcases w_1 with ⟨rfl, pw_1⟩ | ⟨rfl, pw_1⟩
  · skip
    obtain ⟨j_1, hj_1, rfl⟩ := pw_1
    refine lv_if_ne (tgt := 9) hx hb d_X_token_4 (by decide) (fun c_2 => ?_) (fun c_2 => ?_)
    · skip
      refine lv_aload_n hx hb d_X_token_9 rfl (lv_at hl 0 rfl) ?_
      refine fr_get (ci := 0) (Cn := hR_0) (T := hF_0) (N := 16) hx hb hT hi_0 hown hK hE (0, 0) rfl h0 rfl 13 (by decide) (hT _ kw_100) (fun _ h9 => h9) rfl d_X_token_10 ?_
      refine lv_iload_n hx hb d_X_token_13 rfl (lv_at hl 1 rfl) ?_
      refine fr_aald hx hb hK hE (0, 8) 3 rfl h8 rfl j_1 (rfl) (by omega) (by decide) d_X_token_14 ?_
      cases hv : lp j_1 with
      | none =>
        refine lv_astore_nN (lv' := [(2, .null), (0, .ref (b 0)), (1, .int (nI j_1))]) hx hb d_X_token_15 rfl hl (by decide) rfl (fun ls hl => ?_)
        refine lv_aload_nN hx hb d_X_token_16 rfl (lv_at hl 0 rfl) ?_
        refine lv_ifnonnullN hx hb d_X_token_17 ?_
        refine lv_iconst (v := (-1)) hx hb d_X_token_20 (by decide) ?_
        refine lv_goto (tgt := 28) hx hb d_X_token_21 (by decide) ?_
        refine W.widen (k := 0) (n := 0) (Nat.le_of_ble_eq_true rfl) (Nat.le_of_ble_eq_true rfl) ?_
        exact W.iret (v := (-1)) hx hb hr (fun t9 ht9 hW9 => ⟨⟨(-1), (), rfl, Or.inr ⟨j_1, hj_1, rfl, Or.inl ⟨hv, rfl⟩⟩, ⟨by rw [ht9]; exact hE, va_K.moved hW9.alike hK⟩⟩, hS.F ht9⟩) hS.2.2 d_X_token_28
      | some pa =>
        obtain ⟨fo, pn, pd, pz, ct, nt, hpa⟩ := hlp _ _ hj_1 hv
        refine lv_astore_n (lv' := [(2, .ref pa), (0, .ref (b 0)), (1, .int (nI j_1))]) hx hb d_X_token_15 rfl hl (by decide) rfl (fun ls hl => ?_)
        refine lv_aload_n hx hb d_X_token_16 rfl (lv_at hl 0 rfl) ?_
        refine lv_ifnonnull (tgt := 24) hx hb d_X_token_17 (by decide) ?_
        refine lv_aload_n hx hb d_X_token_24 rfl (lv_at hl 0 rfl) ?_
        refine fr_get (ci := 2) (Cn := hR_2) (T := hF_2) (N := 6) hx hb hT hi_2 hown hK hE (1, pa) rfl hpa rfl 5 (by decide) (hT _ kw_250) (fun _ h9 => h9) rfl d_X_token_25 ?_
        refine W.widen (k := 0) (n := 0) (Nat.le_of_ble_eq_true rfl) (Nat.le_of_ble_eq_true rfl) ?_
        exact W.iret (v := nt) hx hb hr (fun t9 ht9 hW9 => ⟨⟨nt, (), rfl, Or.inr ⟨j_1, hj_1, rfl, Or.inr ⟨pa, fo, pn, pd, pz, ct, nt, hv, hpa, rfl⟩⟩, ⟨by rw [ht9]; exact hE, va_K.moved hW9.alike hK⟩⟩, hS.F ht9⟩) hS.2.2 d_X_token_28
    · skip
      exact absurd c_2 (by decide)
  · skip
    refine lv_if_ne (tgt := 9) hx hb d_X_token_4 (by decide) (fun c_3 => ?_) (fun c_3 => ?_)
    · skip
      exact absurd c_3 (by decide)
    · skip
      refine lv_iconst (v := (-1)) hx hb d_X_token_7 (by decide) ?_
      refine W.widen (k := 0) (n := 0) (Nat.le_of_ble_eq_true rfl) (Nat.le_of_ble_eq_true rfl) ?_
      exact W.iret (v := (-1)) hx hb hr (fun t9 ht9 hW9 => ⟨⟨(-1), (), rfl, Or.inl ⟨pw_1, rfl⟩, ⟨by rw [ht9]; exact hE, va_K.moved hW9.alike hK⟩⟩, hS.F ht9⟩) hS.2.2 d_X_token_8
