theorem psF_0 {dy : Nat → Int32} {x : Nat} {L : Nat → Nat} {t : Nat} (h : nI t ≤ 0) (ht : t < 2 ^ 31) : psF dy x L t = t := by
  have : t = 0 := by
    rcases Nat.eq_zero_or_pos t with q | q
    · exact q
    · exact absurd h (nI_nle q ht)
  subst this
  rfl
theorem psF_s {dy : Nat → Int32} {x : Nat} {L : Nat → Nat} {m : Nat} (h : dy (L m) ≤ dy x) : psF dy x L (m + 1) = m + 1 := by
  unfold psF
  rw [if_neg (Int32.not_lt.mpr h)]
theorem psF_n {dy : Nat → Int32} {x : Nat} {L : Nat → Nat} {m : Nat} (h : ¬ dy (L m) ≤ dy x) : psF dy x L (m + 1) = psF dy x L m := by
  conv => lhs; unfold psF
  rw [if_pos (Int32.not_le.mp h)]
theorem ins_fin {dy : Nat → Int32} {x : Nat} {L : Nat → Nat} {k t off : Nat} {od : Nat → Int32} (hp : psF dy x L k = t) (htk : t ≤ k) (h1 : ∀ j, j < t → od (off + j) = nI (L j)) (h2 : ∀ j, t ≤ j → j < k → od (off + (j + 1)) = nI (L j)) : ∀ j, j < k + 1 → upd od (off + t) (nI x) (off + j) = nI (insF dy x L k j) := by
  intro j hj
  unfold insF
  rw [hp]
  rcases Nat.lt_trichotomy j t with q | q | q
  · rw [if_pos q, pk_un (by omega)]
    exact h1 j q
  · subst q
    rw [if_neg (Nat.lt_irrefl _), if_pos rfl]
    exact pk_us
  · rw [if_neg (by omega), if_neg (by omega), pk_un (by omega)]
    have := h2 (j - 1) (by omega) (by omega)
    rwa [show j - 1 + 1 = j by omega] at this
theorem nI_pos_of {t : Nat} (h : ¬ nI t ≤ 0) : ∃ m, t = m + 1 := by
  cases t with
  | zero => exact absurd (by rw [nI_0]; exact Int32.le_refl 0) h
  | succ m => exact ⟨m, rfl⟩
set_option maxHeartbeats 4000000 in
set_option maxRecDepth 100000 in
theorem c_X_insertByDay (l : Launch) {D : va_G} {z : Nat} {b : Nat → Nat} {C : fr_C} {H9 : Heap} (h9 : fr_W D hCl z b C H9) {cI cZ cJ cP cO : ClassId} {pg gr lf n an lc po : Nat} {dy : Nat → Int32} {od : Nat → Int32} (h0 : C (0, 0) = some (.inr (0, fX b pg gr lf n an lc po))) (h3 : C (0, 3) = some (.inl (cI, 150, .inl dy))) (h6 : C (0, 6) = some (.inl (cI, 150, .inl od))) (L : Nat → Nat) (x1 k : Nat) (hx1 : x1 < 150) (hk : k < 150) (hL : ∀ j, j < k → od j = nI (L j) ∧ L j < 150) : Met l y_X_insertByDay w_X_insertByDay ({ frames := 0, cells := 0, slots := 0, locals := 0 }) (va_Pc [.ref (b 0), .int (nI x1), .int (nI k)] (fr_G D hCl (hTy cI cZ cJ cP cO) z b C)) (va_Qv (fun (u : Nat → Int32) => ∀ j, j < k + 1 → u j = nI (insF dy x1 L k j)) (fun u t => fr_G D hCl (hTy cI cZ cJ cP cO) z ((fun _ => b) u) ((fun u => fr_up C (0, 6) (.inl (cI, 150, .inl u))) u) t) (fr_A z)) 0 0 (fr_A z) := by
  refine Met.ofW (cc := b_X_insertByDay) (maxL := 4) (ret := none) (by decide) rfl ?_
  intro p e s m args below meth c s₁ B hml hv
  obtain ⟨rfl, hE, hK⟩ := hv
  have hx := B.exec
  have hb := B.bytes
  have hr := B.returns
  have hts := atoms_spec (ws := w_X_insertByDay) B.pre
  have hT : ∀ w ∈ hw_tbl, w.before _ s = true := fun w h => hts w (List.mem_cons_of_mem _ h)
  have hown : s.vm.findClass "HarvestSteps" = some m.cls := findClass_of_methodNamed B.named
  have hlocks := B.notSynchronized
  have hS : va_S (fr_A z) s.heap s.heap [] := va_S.rf
  have hl := lv_entry ([.ref (b 0), .int (nI x1), .int (nI k)]) (n := 4) (Nat.le_of_ble_eq_true rfl)
  rw [lg_entry_eq]
  generalize (lg_sl ([.ref (b 0), .int (nI x1), .int (nI k)]) ++ List.replicate (4 - (lg_sl ([.ref (b 0), .int (nI x1), .int (nI k)])).length) Slot.unset).toArray = ls at hl ⊢
  have hl : lv_has ls 4 [(0, .ref (b 0)), (1, .int (nI x1)), (2, .int (nI k))] := hl
  refine lv_iload_n hx hb d_X_insertByDay_0 rfl (lv_at hl 2 rfl) ?_
  refine lv_istore_n (lv' := [(3, .int (nI k)), (0, .ref (b 0)), (1, .int (nI x1)), (2, .int (nI k))]) hx hb d_X_insertByDay_1 rfl hl (by decide) rfl (fun ls hl => ?_)
  rw [← fr_up_same h6] at hE
  refine W.widen (k := 0) (n := 0) (Nat.le_of_ble_eq_true rfl) (Nat.le_of_ble_eq_true rfl) ?_
  have ai0 : (k + 1) = k + 1 := rfl
  have ai1 : k ≤ k := Nat.le_refl k
  have ai2 : ∀ j, j < k → od j = nI (L j) := fun j hj => (hL j hj).1
  have ai3 : ∀ j, k ≤ j → j < k → od (j + 1) = nI (L j) := fun j h1 h2 => absurd h2 (by omega)
  have ai4 : psF dy x1 L k = psF dy x1 L k := rfl
  refine fr_loop (σ := Nat × (Nat → Int32)) (fun n9 x H locs ls => (n9 = x.1 + 1) ∧ (x.1 ≤ k) ∧ (∀ j, j < x.1 → x.2 j = nI (L j)) ∧ (∀ j, x.1 ≤ j → j < k → x.2 (j + 1) = nI (L j)) ∧ (psF dy x1 L k = psF dy x1 L x.1) ∧ fr_W D hCl z b (fr_up C (0, 6) (.inl (cI, 150, .inl x.2))) H ∧ va_S (fr_A z) s.heap H locs ∧ lv_has ls 4 [(3, .int (nI x.1)), (0, .ref (b 0)), (1, .int (nI x1)), (2, .int (nI k))]) (fun x H locs ls h => by obtain ⟨h1, h2, -⟩ := h; omega) (fun n9 x H locs ls hI ih => ?_) (k + 1) (k, od) _ _ _ ⟨ai0, ai1, ai2, ai3, ai4, hE, hS, lv_sub hl [0, 1, 2, 3] rfl⟩
  obtain ⟨t, od1⟩ := x
  obtain ⟨i0, i1, i2, i3, i4, hE, hS, hl⟩ := hI
  replace i0 : (n9 + 1) = t + 1 := i0
  replace i1 : t ≤ k := i1
  replace i2 : ∀ j, j < t → od1 j = nI (L j) := i2
  replace i3 : ∀ j, t ≤ j → j < k → od1 (j + 1) = nI (L j) := i3
  replace i4 : psF dy x1 L k = psF dy x1 L t := i4
  replace hE : fr_W D hCl z b (fr_up C (0, 6) (.inl (cI, 150, .inl od1))) H := hE
  replace hl : lv_has ls 4 [(3, .int (nI t)), (0, .ref (b 0)), (1, .int (nI x1)), (2, .int (nI k))] := hl
  refine lv_iload_n hx hb d_X_insertByDay_2 rfl (lv_at hl 0 rfl) ?_
  refine lv_if_le (tgt := 48) hx hb d_X_insertByDay_3 (by decide) (fun c_1 => ?_) (fun c_1 => ?_)
  · skip
    refine lv_aload_n hx hb d_X_insertByDay_48 rfl (lv_at hl 1 rfl) ?_
    refine fr_get (ci := 0) (Cn := hR_0) (T := hF_0) (N := 16) hx hb hT hi_0 hown hK hE (0, 0) rfl h0 rfl 10 (by decide) (hT _ kw_97) (fun _ h9 => h9) rfl d_X_insertByDay_49 ?_
    refine lv_iload_n hx hb d_X_insertByDay_52 rfl (lv_at hl 0 rfl) ?_
    refine lv_iload_n hx hb d_X_insertByDay_53 rfl (lv_at hl 2 rfl) ?_
    refine fr_iast hx hb hK hE hS (0, 6) 0 rfl rfl rfl t (rfl) (by omega) (by decide) d_X_insertByDay_54 (fun H locs hE hS => ?_)
    rw [fr_up_up] at hE
    refine W.widen (k := 0) (n := 0) (Nat.le_of_ble_eq_true rfl) (Nat.le_of_ble_eq_true rfl) ?_
    exact W.vret hx hb hr (fun t9 ht9 hW9 => ⟨⟨upd od1 (t) (nI x1), rfl, (fun j hj => by have := ins_fin (off := 0) (od := od1) (t := t) (i4.trans (psF_0 c_1 (by omega))) (by omega) (fun j hj => by rw [Nat.zero_add]; exact i2 j hj) (fun j h1 h2 => by rw [Nat.zero_add]; exact i3 j h1 h2) j hj; rw [Nat.zero_add, Nat.zero_add] at this; exact this), ⟨by rw [ht9]; exact hE, va_K.moved hW9.alike hK⟩⟩, hS.F ht9⟩) hS.2.2 d_X_insertByDay_55
  · skip
    obtain ⟨m_1, rfl⟩ := nI_pos_of c_1
    have hm_1 := i2 m_1 (by omega)
    have hm_2 := (hL m_1 (by omega)).2
    refine lv_aload_n hx hb d_X_insertByDay_6 rfl (lv_at hl 1 rfl) ?_
    refine fr_get (ci := 0) (Cn := hR_0) (T := hF_0) (N := 16) hx hb hT hi_0 hown hK hE (0, 0) rfl h0 rfl 5 (by decide) (hT _ kw_92) (fun _ h9 => h9) rfl d_X_insertByDay_7 ?_
    refine lv_aload_n hx hb d_X_insertByDay_10 rfl (lv_at hl 1 rfl) ?_
    refine fr_get (ci := 0) (Cn := hR_0) (T := hF_0) (N := 16) hx hb hT hi_0 hown hK hE (0, 0) rfl h0 rfl 10 (by decide) (hT _ kw_97) (fun _ h9 => h9) rfl d_X_insertByDay_11 ?_
    refine lv_iload_n hx hb d_X_insertByDay_14 rfl (lv_at hl 0 rfl) ?_
    refine lv_iconst (v := 1) hx hb d_X_insertByDay_15 (by decide) ?_
    refine lv_isub hx hb d_X_insertByDay_16 ?_
    refine lv_topi (fun y_2 ey_2 => ?_)
    obtain rfl : y_2 = nI m_1 := ey_2.trans (nI_pred m_1)
    refine fr_iald hx hb hK hE (0, 6) 0 rfl rfl rfl m_1 (rfl) (by omega) (by decide) d_X_insertByDay_17 ?_
    refine fr_iald hx hb hK hE (0, 3) 0 rfl h3 rfl (L m_1) (hm_1) (hm_2) (by decide) d_X_insertByDay_18 ?_
    refine lv_aload_n hx hb d_X_insertByDay_19 rfl (lv_at hl 1 rfl) ?_
    refine fr_get (ci := 0) (Cn := hR_0) (T := hF_0) (N := 16) hx hb hT hi_0 hown hK hE (0, 0) rfl h0 rfl 5 (by decide) (hT _ kw_92) (fun _ h9 => h9) rfl d_X_insertByDay_20 ?_
    refine lv_iload_n hx hb d_X_insertByDay_23 rfl (lv_at hl 2 rfl) ?_
    refine fr_iald hx hb hK hE (0, 3) 0 rfl h3 rfl x1 (rfl) (hx1) (by decide) d_X_insertByDay_24 ?_
    refine lv_icmp_le (tgt := 48) hx hb d_X_insertByDay_25 (by decide) (fun c_3 => ?_) (fun c_3 => ?_)
    · skip
      refine lv_aload_n hx hb d_X_insertByDay_48 rfl (lv_at hl 1 rfl) ?_
      refine fr_get (ci := 0) (Cn := hR_0) (T := hF_0) (N := 16) hx hb hT hi_0 hown hK hE (0, 0) rfl h0 rfl 10 (by decide) (hT _ kw_97) (fun _ h9 => h9) rfl d_X_insertByDay_49 ?_
      refine lv_iload_n hx hb d_X_insertByDay_52 rfl (lv_at hl 0 rfl) ?_
      refine lv_iload_n hx hb d_X_insertByDay_53 rfl (lv_at hl 2 rfl) ?_
      refine fr_iast hx hb hK hE hS (0, 6) 0 rfl rfl rfl (m_1 + 1) (rfl) (by omega) (by decide) d_X_insertByDay_54 (fun H locs hE hS => ?_)
      rw [fr_up_up] at hE
      refine W.widen (k := 0) (n := 0) (Nat.le_of_ble_eq_true rfl) (Nat.le_of_ble_eq_true rfl) ?_
      exact W.vret hx hb hr (fun t9 ht9 hW9 => ⟨⟨upd od1 (m_1 + 1) (nI x1), rfl, (fun j hj => by have := ins_fin (off := 0) (od := od1) (t := m_1 + 1) (i4.trans (psF_s c_3)) (by omega) (fun j hj => by rw [Nat.zero_add]; exact i2 j hj) (fun j h1 h2 => by rw [Nat.zero_add]; exact i3 j h1 h2) j hj; rw [Nat.zero_add, Nat.zero_add] at this; exact this), ⟨by rw [ht9]; exact hE, va_K.moved hW9.alike hK⟩⟩, hS.F ht9⟩) hS.2.2 d_X_insertByDay_55
    · skip
      refine lv_aload_n hx hb d_X_insertByDay_28 rfl (lv_at hl 1 rfl) ?_
      refine fr_get (ci := 0) (Cn := hR_0) (T := hF_0) (N := 16) hx hb hT hi_0 hown hK hE (0, 0) rfl h0 rfl 10 (by decide) (hT _ kw_97) (fun _ h9 => h9) rfl d_X_insertByDay_29 ?_
      refine lv_iload_n hx hb d_X_insertByDay_32 rfl (lv_at hl 0 rfl) ?_
      refine lv_aload_n hx hb d_X_insertByDay_33 rfl (lv_at hl 1 rfl) ?_
      refine fr_get (ci := 0) (Cn := hR_0) (T := hF_0) (N := 16) hx hb hT hi_0 hown hK hE (0, 0) rfl h0 rfl 10 (by decide) (hT _ kw_97) (fun _ h9 => h9) rfl d_X_insertByDay_34 ?_
      refine lv_iload_n hx hb d_X_insertByDay_37 rfl (lv_at hl 0 rfl) ?_
      refine lv_iconst (v := 1) hx hb d_X_insertByDay_38 (by decide) ?_
      refine lv_isub hx hb d_X_insertByDay_39 ?_
      refine lv_topi (fun y_4 ey_4 => ?_)
      obtain rfl : y_4 = nI m_1 := ey_4.trans (nI_pred m_1)
      refine fr_iald hx hb hK hE (0, 6) 0 rfl rfl rfl m_1 (rfl) (by omega) (by decide) d_X_insertByDay_40 ?_
      refine fr_iast hx hb hK hE hS (0, 6) 0 rfl rfl rfl (m_1 + 1) (rfl) (by omega) (by decide) d_X_insertByDay_41 (fun H locs hE hS => ?_)
      refine lv_iinc (v := nI m_1) (lv' := [(3, .int (nI m_1)), (0, .ref (b 0)), (1, .int (nI x1)), (2, .int (nI k))]) hx hb d_X_insertByDay_42 hl (k := 0) rfl (pk_m1 m_1) (by decide) rfl (fun ls hl => ?_)
      refine lv_goto (tgt := 2) hx hb d_X_insertByDay_45 (by decide) ?_
      rw [fr_up_up, hm_1] at hE
      have bi0 : n9 = m_1 + 1 := by omega
      have bi1 : m_1 ≤ k := by omega
      have bi2 : ∀ j, j < m_1 → (upd od1 (m_1 + 1) (nI (L m_1))) j = nI (L j) := fun j hj => by rw [pk_un (by omega)]; exact i2 j (by omega)
      have bi3 : ∀ j, m_1 ≤ j → j < k → (upd od1 (m_1 + 1) (nI (L m_1))) (j + 1) = nI (L j) := fun j h1 h2 => by rcases Nat.lt_or_ge m_1 j with q | q; rw [pk_un (by omega)]; exact i3 j (by omega) h2; rw [show j = m_1 by omega]; exact pk_us
      have bi4 : psF dy x1 L k = psF dy x1 L m_1 := i4.trans (psF_n c_3)
      exact ih (m_1, upd od1 (m_1 + 1) (nI (L m_1))) _ _ _ ⟨bi0, bi1, bi2, bi3, bi4, hE, hS, lv_sub hl [0, 1, 2, 3] rfl⟩
