theorem gaF_no {sel : Nat → Bool} {dy : Nat → Int32} {r : Nat} (h : sel r = false) : gaF sel dy (r + 1) = gaF sel dy r := by
  conv => lhs; unfold gaF
  rw [if_neg (by rw [h]; decide)]
theorem gaF_yes {sel : Nat → Bool} {dy : Nat → Int32} {r : Nat} (h : sel r = true) : gaF sel dy (r + 1) = (insF dy r (gaF sel dy r).1 (gaF sel dy r).2, (gaF sel dy r).2 + 1) := by
  conv => lhs; unfold gaF
  rw [if_pos h]
theorem selB_yes {fr to of : Int32} {dy st : Nat → Int32} {r : Nat} (h1 : fr ≤ dy r) (h2 : dy r ≤ to) (h3 : of < 0 ∨ st r = of) : selB fr to of dy st r = true := by
  unfold selB
  rcases h3 with h3 | h3 <;> simp [h1, h2, h3]
theorem selB_n1 {fr to of : Int32} {dy st : Nat → Int32} {r : Nat} (h1 : ¬ fr ≤ dy r) : selB fr to of dy st r = false := by
  unfold selB
  simp [h1]
theorem selB_n2 {fr to of : Int32} {dy st : Nat → Int32} {r : Nat} (h1 : ¬ dy r ≤ to) : selB fr to of dy st r = false := by
  unfold selB
  simp [h1]
theorem selB_n3 {fr to of : Int32} {dy st : Nat → Int32} {r : Nat} (h1 : ¬ of < 0) (h2 : ¬ st r = of) : selB fr to of dy st r = false := by
  unfold selB
  simp [h1, h2]
/-- what stands for a set, or for all -/
def okSet (of : Int32) : Prop := of = -1 ∨ inN of 10
theorem okSet_neg {of : Int32} (h : okSet of) (h1 : ¬ of = -1) : ¬ of < 0 := by
  rcases h with h | ⟨j, hj, rfl⟩
  · exact absurd h h1
  · exact nI_pos (by omega)
theorem m1_neg : (-1 : Int32) < 0 := by decide
set_option maxHeartbeats 4000000 in
set_option maxRecDepth 100000 in
theorem c_X_sortSpan (l : Launch) {D : va_G} {z : Nat} {b : Nat → Nat} {C : fr_C} {H9 : Heap} (h9 : fr_W D hCl z b C H9) {cI cZ cJ cP cO : ClassId} {pg gr lf n an lc po : Nat} {st : Nat → Int32} {dy : Nat → Int32} {od : Nat → Int32} (h0 : C (0, 0) = some (.inr (0, fX b pg gr lf n an lc po))) (h2 : C (0, 2) = some (.inl (cI, 150, .inl st))) (h3 : C (0, 3) = some (.inl (cI, 150, .inl dy))) (h6 : C (0, 6) = some (.inl (cI, 150, .inl od))) (hn : n ≤ 150) (fr to of : Int32) (hof : okSet of) : Met l y_X_sortSpan w_X_sortSpan ({ frames := 1, cells := 0, slots := 0, locals := 23 }) (va_Pc [.ref (b 0), .int fr, .int to, .int of] (fr_G D hCl (hTy cI cZ cJ cP cO) z b C)) (va_Qi (fun (r : Int32) (u : Nat → Int32) => r = nI (gaF (selB fr to of dy st) dy n).2 ∧ ∀ j, j < (gaF (selB fr to of dy st) dy n).2 → u j = nI ((gaF (selB fr to of dy st) dy n).1 j)) (fun u t => fr_G D hCl (hTy cI cZ cJ cP cO) z ((fun _ => b) u) ((fun u => fr_up C (0, 6) (.inl (cI, 150, .inl u))) u) t) (fr_A z)) 0 0 (fr_A z) := by
  refine Met.ofW (cc := b_X_sortSpan) (maxL := 7) (ret := (some .int)) (by decide) rfl ?_
  intro p e s m args below meth c s₁ B hml hv
  obtain ⟨rfl, hE, hK⟩ := hv
  have hx := B.exec
  have hb := B.bytes
  have hr := B.returns
  have hts := atoms_spec (ws := w_X_sortSpan) B.pre
  have hT : ∀ w ∈ hw_tbl, w.before _ s = true := fun w h => hts w (List.mem_cons_of_mem _ h)
  have hown : s.vm.findClass "HarvestSteps" = some m.cls := findClass_of_methodNamed B.named
  have hlocks := B.notSynchronized
  have hS : va_S (fr_A z) s.heap s.heap [] := va_S.rf
  have hl := lv_entry ([.ref (b 0), .int fr, .int to, .int of]) (n := 7) (Nat.le_of_ble_eq_true rfl)
  rw [lg_entry_eq]
  generalize (lg_sl ([.ref (b 0), .int fr, .int to, .int of]) ++ List.replicate (7 - (lg_sl ([.ref (b 0), .int fr, .int to, .int of])).length) Slot.unset).toArray = ls at hl ⊢
  have hl : lv_has ls 7 [(0, .ref (b 0)), (1, .int fr), (2, .int to), (3, .int of)] := hl
  refine lv_iconst (v := 0) hx hb d_X_sortSpan_0 (by decide) ?_
  refine lv_istore (lv' := [(4, .int 0), (0, .ref (b 0)), (1, .int fr), (2, .int to), (3, .int of)]) hx hb d_X_sortSpan_1 hl (by decide) rfl (fun ls hl => ?_)
  refine lv_iconst (v := 0) hx hb d_X_sortSpan_3 (by decide) ?_
  refine lv_istore (lv' := [(5, .int 0), (4, .int 0), (0, .ref (b 0)), (1, .int fr), (2, .int to), (3, .int of)]) hx hb d_X_sortSpan_4 hl (by decide) rfl (fun ls hl => ?_)
  rw [← fr_up_same h6] at hE
  refine W.widen (k := 0) (n := 0) (Nat.le_of_ble_eq_true rfl) (Nat.le_of_ble_eq_true rfl) ?_
  have ai0 : (n + 1) + 0 = n + 1 := rfl
  have ai1 : 0 ≤ n := Nat.zero_le n
  have ai2 : 0 = (gaF (selB fr to of dy st) dy 0).2 := rfl
  have ai3 : ∀ j, j < 0 → od j = nI ((gaF (selB fr to of dy st) dy 0).1 j) := fun j hj => absurd hj (Nat.not_lt_zero j)
  refine fr_loop (σ := Nat × Nat × (Nat → Int32)) (fun n9 x H locs ls => (n9 + x.1 = n + 1) ∧ (x.1 ≤ n) ∧ (x.2.1 = (gaF (selB fr to of dy st) dy x.1).2) ∧ (∀ j, j < x.2.1 → x.2.2 j = nI ((gaF (selB fr to of dy st) dy x.1).1 j)) ∧ fr_W D hCl z b (fr_up C (0, 6) (.inl (cI, 150, .inl x.2.2))) H ∧ va_S (fr_A z) s.heap H locs ∧ lv_has ls 7 [(4, .int (nI x.2.1)), (5, .int (nI x.1)), (0, .ref (b 0)), (1, .int fr), (2, .int to), (3, .int of)]) (fun x H locs ls h => by obtain ⟨h1, h2, -⟩ := h; omega) (fun n9 x H locs ls hI ih => ?_) (n + 1) (0, 0, od) _ _ _ ⟨ai0, ai1, ai2, ai3, hE, hS, lv_sub hl [1, 0, 2, 3, 4, 5] rfl⟩
  obtain ⟨q, k, od1⟩ := x
  obtain ⟨i0, i1, i2, i3, hE, hS, hl⟩ := hI
  replace i0 : (n9 + 1) + q = n + 1 := i0
  replace i1 : q ≤ n := i1
  replace i2 : k = (gaF (selB fr to of dy st) dy q).2 := i2
  replace i3 : ∀ j, j < k → od1 j = nI ((gaF (selB fr to of dy st) dy q).1 j) := i3
  replace hE : fr_W D hCl z b (fr_up C (0, 6) (.inl (cI, 150, .inl od1))) H := hE
  replace hl : lv_has ls 7 [(4, .int (nI k)), (5, .int (nI q)), (0, .ref (b 0)), (1, .int fr), (2, .int to), (3, .int of)] := hl
  refine lv_iload hx hb d_X_sortSpan_6 (lv_at hl 1 rfl) ?_
  refine lv_aload_n hx hb d_X_sortSpan_8 rfl (lv_at hl 2 rfl) ?_
  refine fr_get (ci := 0) (Cn := hR_0) (T := hF_0) (N := 16) hx hb hT hi_0 hown hK hE (0, 0) rfl h0 rfl 8 (by decide) (hT _ kw_95) (fun _ h9 => h9) rfl d_X_sortSpan_9 ?_
  refine lv_icmp_ge (tgt := 82) hx hb d_X_sortSpan_12 (by decide) (fun c_1 => ?_) (fun c_1 => ?_)
  · skip
    have hqn : q = n := by rcases Nat.lt_or_ge q n with y | y; exact absurd c_1 (nI_ge y (by omega)); omega
    subst hqn
    refine lv_iload hx hb d_X_sortSpan_82 (lv_at hl 0 rfl) ?_
    refine W.widen (k := 0) (n := 0) (Nat.le_of_ble_eq_true rfl) (Nat.le_of_ble_eq_true rfl) ?_
    exact W.iret (v := nI k) hx hb hr (fun t9 ht9 hW9 => ⟨⟨nI k, od1, rfl, ⟨by rw [i2], by rw [← i2]; exact i3⟩, ⟨by rw [ht9]; exact hE, va_K.moved hW9.alike hK⟩⟩, hS.F ht9⟩) hS.2.2 d_X_sortSpan_84
  · skip
    have hq : q < n := by rcases Nat.lt_or_ge q n with y | y; exact y; exact absurd (nI_le y (by omega)) c_1
    have hkq : k ≤ q := by rw [i2]; exact gaF_le (selB fr to of dy st) dy q
    refine lv_aload_n hx hb d_X_sortSpan_15 rfl (lv_at hl 2 rfl) ?_
    refine fr_get (ci := 0) (Cn := hR_0) (T := hF_0) (N := 16) hx hb hT hi_0 hown hK hE (0, 0) rfl h0 rfl 5 (by decide) (hT _ kw_92) (fun _ h9 => h9) rfl d_X_sortSpan_16 ?_
    refine lv_iload hx hb d_X_sortSpan_19 (lv_at hl 1 rfl) ?_
    refine fr_iald hx hb hK hE (0, 3) 0 rfl h3 rfl q (rfl) (by omega) (by decide) d_X_sortSpan_21 ?_
    refine lv_iload_n hx hb d_X_sortSpan_22 rfl (lv_at hl 3 rfl) ?_
    refine lv_icmp_lt (tgt := 41) hx hb d_X_sortSpan_23 (by decide) (fun c_2 => ?_) (fun c_2 => ?_)
    · skip
      refine lv_iconst (v := 0) hx hb d_X_sortSpan_41 (by decide) ?_
      refine lv_istore (lv' := [(6, .int 0), (4, .int (nI k)), (5, .int (nI q)), (0, .ref (b 0)), (1, .int fr), (2, .int to), (3, .int of)]) hx hb d_X_sortSpan_42 hl (by decide) rfl (fun ls hl => ?_)
      refine lv_iload hx hb d_X_sortSpan_44 (lv_at hl 0 rfl) ?_
      refine lv_if_eq (tgt := 76) hx hb d_X_sortSpan_46 (by decide) (fun c_3 => ?_) (fun c_3 => ?_)
      · skip
        refine lv_iinc (v := nI (q + 1)) (lv' := [(5, .int (nI (q + 1))), (6, .int 0), (4, .int (nI k)), (0, .ref (b 0)), (1, .int fr), (2, .int to), (3, .int of)]) hx hb d_X_sortSpan_76 hl (k := 2) rfl (nI_1 q) (by decide) rfl (fun ls hl => ?_)
        refine lv_goto (tgt := 6) hx hb d_X_sortSpan_79 (by decide) ?_
        have ns : (selB fr to of dy st) q = false := selB_n1 (Int32.not_le.mpr c_2)
        have bi0 : n9 + (q + 1) = n + 1 := by omega
        have bi1 : (q + 1) ≤ n := by omega
        have bi2 : k = (gaF (selB fr to of dy st) dy (q + 1)).2 := by rw [gaF_no ns, i2]
        have bi3 : ∀ j, j < k → od1 j = nI ((gaF (selB fr to of dy st) dy (q + 1)).1 j) := fun j hj => by rw [gaF_no ns]; exact i3 j hj
        exact ih (q + 1, k, od1) _ _ _ ⟨bi0, bi1, bi2, bi3, hE, hS, lv_sub hl [2, 0, 3, 4, 5, 6] rfl⟩
      · skip
        exact absurd c_3 (by decide)
    · skip
      refine lv_aload_n hx hb d_X_sortSpan_26 rfl (lv_at hl 2 rfl) ?_
      refine fr_get (ci := 0) (Cn := hR_0) (T := hF_0) (N := 16) hx hb hT hi_0 hown hK hE (0, 0) rfl h0 rfl 5 (by decide) (hT _ kw_92) (fun _ h9 => h9) rfl d_X_sortSpan_27 ?_
      refine lv_iload hx hb d_X_sortSpan_30 (lv_at hl 1 rfl) ?_
      refine fr_iald hx hb hK hE (0, 3) 0 rfl h3 rfl q (rfl) (by omega) (by decide) d_X_sortSpan_32 ?_
      refine lv_iload_n hx hb d_X_sortSpan_33 rfl (lv_at hl 4 rfl) ?_
      refine lv_icmp_gt (tgt := 41) hx hb d_X_sortSpan_34 (by decide) (fun c_4 => ?_) (fun c_4 => ?_)
      · skip
        refine lv_iconst (v := 0) hx hb d_X_sortSpan_41 (by decide) ?_
        refine lv_istore (lv' := [(6, .int 0), (4, .int (nI k)), (5, .int (nI q)), (0, .ref (b 0)), (1, .int fr), (2, .int to), (3, .int of)]) hx hb d_X_sortSpan_42 hl (by decide) rfl (fun ls hl => ?_)
        refine lv_iload hx hb d_X_sortSpan_44 (lv_at hl 0 rfl) ?_
        refine lv_if_eq (tgt := 76) hx hb d_X_sortSpan_46 (by decide) (fun c_5 => ?_) (fun c_5 => ?_)
        · skip
          refine lv_iinc (v := nI (q + 1)) (lv' := [(5, .int (nI (q + 1))), (6, .int 0), (4, .int (nI k)), (0, .ref (b 0)), (1, .int fr), (2, .int to), (3, .int of)]) hx hb d_X_sortSpan_76 hl (k := 2) rfl (nI_1 q) (by decide) rfl (fun ls hl => ?_)
          refine lv_goto (tgt := 6) hx hb d_X_sortSpan_79 (by decide) ?_
          have ns : (selB fr to of dy st) q = false := selB_n2 (Int32.not_le.mpr c_4)
          have bi0 : n9 + (q + 1) = n + 1 := by omega
          have bi1 : (q + 1) ≤ n := by omega
          have bi2 : k = (gaF (selB fr to of dy st) dy (q + 1)).2 := by rw [gaF_no ns, i2]
          have bi3 : ∀ j, j < k → od1 j = nI ((gaF (selB fr to of dy st) dy (q + 1)).1 j) := fun j hj => by rw [gaF_no ns]; exact i3 j hj
          exact ih (q + 1, k, od1) _ _ _ ⟨bi0, bi1, bi2, bi3, hE, hS, lv_sub hl [2, 0, 3, 4, 5, 6] rfl⟩
        · skip
          exact absurd c_5 (by decide)
      · skip
        refine lv_iconst (v := 1) hx hb d_X_sortSpan_37 (by decide) ?_
        refine lv_goto (tgt := 42) hx hb d_X_sortSpan_38 (by decide) ?_
        refine lv_istore (lv' := [(6, .int 1), (4, .int (nI k)), (5, .int (nI q)), (0, .ref (b 0)), (1, .int fr), (2, .int to), (3, .int of)]) hx hb d_X_sortSpan_42 hl (by decide) rfl (fun ls hl => ?_)
        refine lv_iload hx hb d_X_sortSpan_44 (lv_at hl 0 rfl) ?_
        refine lv_if_eq (tgt := 76) hx hb d_X_sortSpan_46 (by decide) (fun c_6 => ?_) (fun c_6 => ?_)
        · skip
          exact absurd c_6 (by decide)
        · skip
          refine lv_iload_n hx hb d_X_sortSpan_49 rfl (lv_at hl 6 rfl) ?_
          refine lv_iconst (v := (-1)) hx hb d_X_sortSpan_50 (by decide) ?_
          refine lv_icmp_eq (tgt := 65) hx hb d_X_sortSpan_51 (by decide) (fun c_7 => ?_) (fun c_7 => ?_)
          · skip
            refine lv_aload_n hx hb d_X_sortSpan_65 rfl (lv_at hl 3 rfl) ?_
            refine lv_iload hx hb d_X_sortSpan_66 (lv_at hl 2 rfl) ?_
            refine lv_iload hx hb d_X_sortSpan_68 (lv_at hl 1 rfl) ?_
            refine fr_callv (va_runV (As := [.int (nI q), .int (nI k)]) (rest := []) ⟨hx, hb, hml, hown, hts⟩ (c_X_insertByDay l hE (pg := pg) (gr := gr) (lf := lf) (n := n) (an := an) (lc := lc) (po := po) h0 h3 rfl (gaF (selB fr to of dy st) dy q).1 q k (by omega) (by omega) (fun j hj => ⟨i3 j hj, by have := gaF_lt (selB fr to of dy st) dy q j (by omega); omega⟩)) (cwV 2 hts (hw_goodV kw_189 kw_191 kw_5 kw_21 kw_192) rfl rfl rfl (by decide +kernel) ⟨Nat.le_of_ble_eq_true rfl, Nat.le_of_ble_eq_true rfl⟩) ⟨fr_blind, fr_recv hK hE (0, 0) rfl h0 (ci := 0) rfl, fr_pre hE hK⟩ rfl rfl hl.1 rfl (lv_room (Nat.le_of_ble_eq_true rfl)) d_X_sortSpan_70 ⟨Nat.le_of_ble_eq_true rfl, Nat.le_of_ble_eq_true rfl⟩) hS (fun u_8 H locs w_8 hE hS => ?_)
            rw [fr_up_up] at hE
            refine lv_iinc (v := nI (k + 1)) (lv' := [(4, .int (nI (k + 1))), (6, .int 1), (5, .int (nI q)), (0, .ref (b 0)), (1, .int fr), (2, .int to), (3, .int of)]) hx hb d_X_sortSpan_73 hl (k := 1) rfl (nI_1 k) (by decide) rfl (fun ls hl => ?_)
            refine lv_iinc (v := nI (q + 1)) (lv' := [(5, .int (nI (q + 1))), (4, .int (nI (k + 1))), (6, .int 1), (0, .ref (b 0)), (1, .int fr), (2, .int to), (3, .int of)]) hx hb d_X_sortSpan_76 hl (k := 2) rfl (nI_1 q) (by decide) rfl (fun ls hl => ?_)
            refine lv_goto (tgt := 6) hx hb d_X_sortSpan_79 (by decide) ?_
            have ys : (selB fr to of dy st) q = true := selB_yes (Int32.not_lt.mp c_2) (Int32.not_lt.mp c_4) (Or.inl (by rw [c_7]; exact m1_neg))
            have bi0 : n9 + (q + 1) = n + 1 := by omega
            have bi1 : (q + 1) ≤ n := by omega
            have bi2 : (k + 1) = (gaF (selB fr to of dy st) dy (q + 1)).2 := by rw [gaF_yes ys, i2]
            have bi3 : ∀ j, j < (k + 1) → u_8 j = nI ((gaF (selB fr to of dy st) dy (q + 1)).1 j) := fun j hj => by rw [gaF_yes ys]; exact (w_8 j hj).trans (by rw [i2])
            exact ih (q + 1, k + 1, u_8) _ _ _ ⟨bi0, bi1, bi2, bi3, hE, hS, lv_sub hl [1, 0, 3, 4, 5, 6] rfl⟩
          · skip
            refine lv_aload_n hx hb d_X_sortSpan_54 rfl (lv_at hl 3 rfl) ?_
            refine fr_get (ci := 0) (Cn := hR_0) (T := hF_0) (N := 16) hx hb hT hi_0 hown hK hE (0, 0) rfl h0 rfl 4 (by decide) (hT _ kw_91) (fun _ h9 => h9) rfl d_X_sortSpan_55 ?_
            refine lv_iload hx hb d_X_sortSpan_58 (lv_at hl 2 rfl) ?_
            refine fr_iald hx hb hK hE (0, 2) 0 rfl h2 rfl q (rfl) (by omega) (by decide) d_X_sortSpan_60 ?_
            refine lv_iload_n hx hb d_X_sortSpan_61 rfl (lv_at hl 6 rfl) ?_
            refine lv_icmp_ne (tgt := 76) hx hb d_X_sortSpan_62 (by decide) (fun c_9 => ?_) (fun c_9 => ?_)
            · skip
              refine lv_iinc (v := nI (q + 1)) (lv' := [(5, .int (nI (q + 1))), (6, .int 1), (4, .int (nI k)), (0, .ref (b 0)), (1, .int fr), (2, .int to), (3, .int of)]) hx hb d_X_sortSpan_76 hl (k := 2) rfl (nI_1 q) (by decide) rfl (fun ls hl => ?_)
              refine lv_goto (tgt := 6) hx hb d_X_sortSpan_79 (by decide) ?_
              have ns : (selB fr to of dy st) q = false := selB_n3 (okSet_neg hof c_7) c_9
              have bi0 : n9 + (q + 1) = n + 1 := by omega
              have bi1 : (q + 1) ≤ n := by omega
              have bi2 : k = (gaF (selB fr to of dy st) dy (q + 1)).2 := by rw [gaF_no ns, i2]
              have bi3 : ∀ j, j < k → od1 j = nI ((gaF (selB fr to of dy st) dy (q + 1)).1 j) := fun j hj => by rw [gaF_no ns]; exact i3 j hj
              exact ih (q + 1, k, od1) _ _ _ ⟨bi0, bi1, bi2, bi3, hE, hS, lv_sub hl [2, 0, 3, 4, 5, 6] rfl⟩
            · skip
              refine lv_aload_n hx hb d_X_sortSpan_65 rfl (lv_at hl 3 rfl) ?_
              refine lv_iload hx hb d_X_sortSpan_66 (lv_at hl 2 rfl) ?_
              refine lv_iload hx hb d_X_sortSpan_68 (lv_at hl 1 rfl) ?_
              refine fr_callv (va_runV (As := [.int (nI q), .int (nI k)]) (rest := []) ⟨hx, hb, hml, hown, hts⟩ (c_X_insertByDay l hE (pg := pg) (gr := gr) (lf := lf) (n := n) (an := an) (lc := lc) (po := po) h0 h3 rfl (gaF (selB fr to of dy st) dy q).1 q k (by omega) (by omega) (fun j hj => ⟨i3 j hj, by have := gaF_lt (selB fr to of dy st) dy q j (by omega); omega⟩)) (cwV 2 hts (hw_goodV kw_189 kw_191 kw_5 kw_21 kw_192) rfl rfl rfl (by decide +kernel) ⟨Nat.le_of_ble_eq_true rfl, Nat.le_of_ble_eq_true rfl⟩) ⟨fr_blind, fr_recv hK hE (0, 0) rfl h0 (ci := 0) rfl, fr_pre hE hK⟩ rfl rfl hl.1 rfl (lv_room (Nat.le_of_ble_eq_true rfl)) d_X_sortSpan_70 ⟨Nat.le_of_ble_eq_true rfl, Nat.le_of_ble_eq_true rfl⟩) hS (fun u_10 H locs w_10 hE hS => ?_)
              rw [fr_up_up] at hE
              refine lv_iinc (v := nI (k + 1)) (lv' := [(4, .int (nI (k + 1))), (6, .int 1), (5, .int (nI q)), (0, .ref (b 0)), (1, .int fr), (2, .int to), (3, .int of)]) hx hb d_X_sortSpan_73 hl (k := 1) rfl (nI_1 k) (by decide) rfl (fun ls hl => ?_)
              refine lv_iinc (v := nI (q + 1)) (lv' := [(5, .int (nI (q + 1))), (4, .int (nI (k + 1))), (6, .int 1), (0, .ref (b 0)), (1, .int fr), (2, .int to), (3, .int of)]) hx hb d_X_sortSpan_76 hl (k := 2) rfl (nI_1 q) (by decide) rfl (fun ls hl => ?_)
              refine lv_goto (tgt := 6) hx hb d_X_sortSpan_79 (by decide) ?_
              have ys : (selB fr to of dy st) q = true := selB_yes (Int32.not_lt.mp c_2) (Int32.not_lt.mp c_4) (Or.inr c_9)
              have bi0 : n9 + (q + 1) = n + 1 := by omega
              have bi1 : (q + 1) ≤ n := by omega
              have bi2 : (k + 1) = (gaF (selB fr to of dy st) dy (q + 1)).2 := by rw [gaF_yes ys, i2]
              have bi3 : ∀ j, j < (k + 1) → u_10 j = nI ((gaF (selB fr to of dy st) dy (q + 1)).1 j) := fun j hj => by rw [gaF_yes ys]; exact (w_10 j hj).trans (by rw [i2])
              exact ih (q + 1, k + 1, u_10) _ _ _ ⟨bi0, bi1, bi2, bi3, hE, hS, lv_sub hl [1, 0, 3, 4, 5, 6] rfl⟩
