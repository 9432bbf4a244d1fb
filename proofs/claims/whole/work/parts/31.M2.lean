set_option maxHeartbeats 4000000 in
set_option maxRecDepth 100000 in
theorem c_M_gather (l : Launch) {D : va_G} {z : Nat} {b : Nat → Nat} {C : fr_C} {H9 : Heap} (h9 : fr_W D hCl z b C H9) {cI cZ cJ cP cO : ClassId} {th : Int32} {pg gr lf an n lc ps rw tk po : Nat} {st : Nat → Int32} {dy : Nat → Int32} {li : Nat → Int32} (m0 : C (0, 40) = some (.inr (5, fM b th pg gr lf an n lc ps rw tk po))) (m6 : C (0, 46) = some (.inl (cI, 150, .inl st))) (m7 : C (0, 47) = some (.inl (cI, 150, .inl dy))) (m16 : C (0, 56) = some (.inl (cI, 4500, .inl li))) (hn : n ≤ 150) (hlc : lc < 30) (fr to of : Int32) : Met l y_M_gather w_M_gather ({ frames := 1, cells := 0, slots := 0, locals := 22 }) (va_Pc [.ref (b 40), .int fr, .int to, .int of] (fr_G D hCl (hTy cI cZ cJ cP cO) z b C)) (va_Qi (fun (r : Int32) (u : Nat → Int32) => r = nI (gaF (selB fr to of dy st) dy n).2 ∧ (∀ j, j < (gaF (selB fr to of dy st) dy n).2 → u (150 * lc + j) = nI ((gaF (selB fr to of dy st) dy n).1 j)) ∧ ∀ i, i < 150 * lc → u i = li i) (fun u t => fr_G D hCl (hTy cI cZ cJ cP cO) z ((fun _ => b) u) ((fun u => fr_up C (0, 56) (.inl (cI, 4500, .inl u))) u) t) (fr_A z)) 0 0 (fr_A z) := by
  refine Met.ofW (cc := b_M_gather) (maxL := 8) (ret := (some .int)) (by decide) rfl ?_
  intro p e s m args below meth c s₁ B hml hv
  obtain ⟨rfl, hE, hK⟩ := hv
  have hx := B.exec
  have hb := B.bytes
  have hr := B.returns
  have hts := atoms_spec (ws := w_M_gather) B.pre
  have hT : ∀ w ∈ hw_tbl, w.before _ s = true := fun w h => hts w (List.mem_cons_of_mem _ h)
  have hown : s.vm.findClass "HarvestStepsModel" = some m.cls := findClass_of_methodNamed B.named
  have hlocks := B.notSynchronized
  have hS : va_S (fr_A z) s.heap s.heap [] := va_S.rf
  have hl := lv_entry ([.ref (b 40), .int fr, .int to, .int of]) (n := 8) (Nat.le_of_ble_eq_true rfl)
  rw [lg_entry_eq]
  generalize (lg_sl ([.ref (b 40), .int fr, .int to, .int of]) ++ List.replicate (8 - (lg_sl ([.ref (b 40), .int fr, .int to, .int of])).length) Slot.unset).toArray = ls at hl ⊢
  have hl : lv_has ls 8 [(0, .ref (b 40)), (1, .int fr), (2, .int to), (3, .int of)] := hl
  refine lv_sipush (v := 150) hx hb d_M_gather_0 (by decide) ?_
  refine lv_aload_n hx hb d_M_gather_3 rfl (lv_at hl 0 rfl) ?_
  refine fr_get (ci := 5) (Cn := hR_5) (T := hF_5) (N := 34) hx hb hT hi_5 hown hK hE (0, 40) rfl m0 rfl 11 (by decide) (hT _ kw_485) (fun _ h9 => h9) rfl d_M_gather_4 ?_
  refine lv_imul hx hb d_M_gather_7 ?_
  refine lv_topi (fun y_1 ey_1 => ?_)
  obtain rfl : y_1 = nI (150 * lc) := ey_1.trans (pk_mul 150 lc)
  refine lv_istore (lv' := [(4, .int (nI (150 * lc))), (0, .ref (b 40)), (1, .int fr), (2, .int to), (3, .int of)]) hx hb d_M_gather_8 hl (by decide) rfl (fun ls hl => ?_)
  refine lv_iconst (v := 0) hx hb d_M_gather_10 (by decide) ?_
  refine lv_istore (lv' := [(5, .int 0), (4, .int (nI (150 * lc))), (0, .ref (b 40)), (1, .int fr), (2, .int to), (3, .int of)]) hx hb d_M_gather_11 hl (by decide) rfl (fun ls hl => ?_)
  refine lv_iconst (v := 0) hx hb d_M_gather_13 (by decide) ?_
  refine lv_istore (lv' := [(6, .int 0), (5, .int 0), (4, .int (nI (150 * lc))), (0, .ref (b 40)), (1, .int fr), (2, .int to), (3, .int of)]) hx hb d_M_gather_14 hl (by decide) rfl (fun ls hl => ?_)
  rw [← fr_up_same m16] at hE
  refine W.widen (k := 0) (n := 0) (Nat.le_of_ble_eq_true rfl) (Nat.le_of_ble_eq_true rfl) ?_
  have ai0 : (n + 1) + 0 = n + 1 := rfl
  have ai1 : 0 ≤ n := Nat.zero_le n
  have ai2 : 0 = (gaF (selB fr to of dy st) dy 0).2 := rfl
  have ai3 : ∀ j, j < 0 → li (150 * lc + j) = nI ((gaF (selB fr to of dy st) dy 0).1 j) := fun j hj => absurd hj (Nat.not_lt_zero j)
  have ai4 : ∀ i, i < 150 * lc → li i = li i := fun _ _ => rfl
  refine fr_loop (σ := Nat × Nat × (Nat → Int32)) (fun n9 x H locs ls => (n9 + x.1 = n + 1) ∧ (x.1 ≤ n) ∧ (x.2.1 = (gaF (selB fr to of dy st) dy x.1).2) ∧ (∀ j, j < x.2.1 → x.2.2 (150 * lc + j) = nI ((gaF (selB fr to of dy st) dy x.1).1 j)) ∧ (∀ i, i < 150 * lc → x.2.2 i = li i) ∧ fr_W D hCl z b (fr_up C (0, 56) (.inl (cI, 4500, .inl x.2.2))) H ∧ va_S (fr_A z) s.heap H locs ∧ lv_has ls 8 [(4, .int (nI (150 * lc))), (5, .int (nI x.2.1)), (6, .int (nI x.1)), (0, .ref (b 40)), (1, .int fr), (2, .int to), (3, .int of)]) (fun x H locs ls h => by obtain ⟨h1, h2, -⟩ := h; omega) (fun n9 x H locs ls hI ih => ?_) (n + 1) (0, 0, li) _ _ _ ⟨ai0, ai1, ai2, ai3, ai4, hE, hS, lv_sub hl [2, 1, 0, 3, 4, 5, 6] rfl⟩
  obtain ⟨q, k, li1⟩ := x
  obtain ⟨i0, i1, i2, i3, i4, hE, hS, hl⟩ := hI
  replace i0 : (n9 + 1) + q = n + 1 := i0
  replace i1 : q ≤ n := i1
  replace i2 : k = (gaF (selB fr to of dy st) dy q).2 := i2
  replace i3 : ∀ j, j < k → li1 (150 * lc + j) = nI ((gaF (selB fr to of dy st) dy q).1 j) := i3
  replace i4 : ∀ i, i < 150 * lc → li1 i = li i := i4
  replace hE : fr_W D hCl z b (fr_up C (0, 56) (.inl (cI, 4500, .inl li1))) H := hE
  replace hl : lv_has ls 8 [(4, .int (nI (150 * lc))), (5, .int (nI k)), (6, .int (nI q)), (0, .ref (b 40)), (1, .int fr), (2, .int to), (3, .int of)] := hl
  refine lv_iload hx hb d_M_gather_16 (lv_at hl 2 rfl) ?_
  refine lv_aload_n hx hb d_M_gather_18 rfl (lv_at hl 3 rfl) ?_
  refine fr_get (ci := 5) (Cn := hR_5) (T := hF_5) (N := 34) hx hb hT hi_5 hown hK hE (0, 40) rfl m0 rfl 5 (by decide) (hT _ kw_479) (fun _ h9 => h9) rfl d_M_gather_19 ?_
  refine lv_icmp_ge (tgt := 136) hx hb d_M_gather_22 (by decide) (fun c_2 => ?_) (fun c_2 => ?_)
  · skip
    have hqn : q = n := by rcases Nat.lt_or_ge q n with y | y; exact absurd c_2 (nI_ge y (by omega)); omega
    subst hqn
    refine lv_iload hx hb d_M_gather_136 (lv_at hl 1 rfl) ?_
    refine W.widen (k := 0) (n := 0) (Nat.le_of_ble_eq_true rfl) (Nat.le_of_ble_eq_true rfl) ?_
    exact W.iret (v := nI k) hx hb hr (fun t9 ht9 hW9 => ⟨⟨nI k, li1, rfl, ⟨by rw [i2], by rw [← i2]; exact i3, i4⟩, ⟨by rw [ht9]; exact hE, va_K.moved hW9.alike hK⟩⟩, hS.F ht9⟩) hS.2.2 d_M_gather_138
  · skip
    have hq : q < n := by rcases Nat.lt_or_ge q n with y | y; exact y; exact absurd (nI_le y (by omega)) c_2
    have hkq : k ≤ q := by rw [i2]; exact gaF_le (selB fr to of dy st) dy q
    have hL : ∀ j, j < k → (gaF (selB fr to of dy st) dy q).1 j < 150 := fun j hj => by have := gaF_lt (selB fr to of dy st) dy q j (by omega); omega
    refine lv_aload_n hx hb d_M_gather_25 rfl (lv_at hl 3 rfl) ?_
    refine fr_get (ci := 5) (Cn := hR_5) (T := hF_5) (N := 34) hx hb hT hi_5 hown hK hE (0, 40) rfl m0 rfl 7 (by decide) (hT _ kw_481) (fun _ h9 => h9) rfl d_M_gather_26 ?_
    refine lv_iload hx hb d_M_gather_29 (lv_at hl 2 rfl) ?_
    refine fr_iald hx hb hK hE (0, 47) 0 rfl m7 rfl q (rfl) (by omega) (by decide) d_M_gather_31 ?_
    refine lv_iload_n hx hb d_M_gather_32 rfl (lv_at hl 4 rfl) ?_
    refine lv_iload_n hx hb d_M_gather_33 rfl (lv_at hl 5 rfl) ?_
    refine fr_calli (va_runS (As := [.int (dy q), .int fr, .int to]) (rest := []) ⟨hx, hb, hml, hown, hts⟩ (c_M_in l hE (dy q) fr to) (va_cwS 3 hts (hw_goodS kw_585 kw_586 kw_26 kw_587) rfl rfl rfl (by decide +kernel) ⟨Nat.le_of_ble_eq_true rfl, Nat.le_of_ble_eq_true rfl⟩) ⟨fr_blind, fr_pre hE hK⟩ rfl rfl hl.1 rfl (lv_room (Nat.le_of_ble_eq_true rfl)) d_M_gather_34 ⟨Nat.le_of_ble_eq_true rfl, Nat.le_of_ble_eq_true rfl⟩) hS (fun r_3 u_3 H locs w_3 hE hS => ?_)
    rcases w_3 with ⟨rfl, pw_3⟩ | ⟨rfl, pw_3⟩
    · skip
      refine lv_if_eq (tgt := 130) hx hb d_M_gather_37 (by decide) (fun c_4 => ?_) (fun c_4 => ?_)
      · skip
        exact absurd c_4 (by decide)
      · skip
        refine lv_iload_n hx hb d_M_gather_40 rfl (lv_at hl 6 rfl) ?_
        refine lv_if_lt (tgt := 58) hx hb d_M_gather_41 (by decide) (fun c_5 => ?_) (fun c_5 => ?_)
        · skip
          have ys : (selB fr to of dy st) q = true := selB_yes pw_3.1 pw_3.2 (Or.inl c_5)
          refine lv_iload hx hb d_M_gather_58 (lv_at hl 0 rfl) ?_
          refine lv_iload hx hb d_M_gather_60 (lv_at hl 1 rfl) ?_
          refine lv_iadd hx hb d_M_gather_62 ?_
          refine lv_topi (fun y_6 ey_6 => ?_)
          obtain rfl : y_6 = nI (150 * lc + k) := ey_6.trans (nI_add _ _)
          refine lv_istore (lv' := [(7, .int (nI (150 * lc + k))), (4, .int (nI (150 * lc))), (5, .int (nI k)), (6, .int (nI q)), (0, .ref (b 40)), (1, .int fr), (2, .int to), (3, .int of)]) hx hb d_M_gather_63 hl (by decide) rfl (fun ls hl => ?_)
          refine W.widen (k := 0) (n := 0) (Nat.le_of_ble_eq_true rfl) (Nat.le_of_ble_eq_true rfl) ?_
          have ae0 : (k + 1) = k + 1 := rfl
          have ae1 : k ≤ k := Nat.le_refl k
          have ae2 : ∀ j, j < k → li1 (150 * lc + j) = nI ((gaF (selB fr to of dy st) dy q).1 j) := i3
          have ae3 : ∀ j, k ≤ j → j < k → li1 (150 * lc + (j + 1)) = nI ((gaF (selB fr to of dy st) dy q).1 j) := fun j h1 h2 => absurd h2 (by omega)
          have ae4 : psF dy q (gaF (selB fr to of dy st) dy q).1 k = psF dy q (gaF (selB fr to of dy st) dy q).1 k := rfl
          have ae5 : ∀ i, i < 150 * lc → li1 i = li i := i4
          refine fr_loop (σ := Nat × (Nat → Int32)) (fun n9a x H locs ls => (n9a = x.1 + 1) ∧ (x.1 ≤ k) ∧ (∀ j, j < x.1 → x.2 (150 * lc + j) = nI ((gaF (selB fr to of dy st) dy q).1 j)) ∧ (∀ j, x.1 ≤ j → j < k → x.2 (150 * lc + (j + 1)) = nI ((gaF (selB fr to of dy st) dy q).1 j)) ∧ (psF dy q (gaF (selB fr to of dy st) dy q).1 k = psF dy q (gaF (selB fr to of dy st) dy q).1 x.1) ∧ (∀ i, i < 150 * lc → x.2 i = li i) ∧ fr_W D hCl z b (fr_up C (0, 56) (.inl (cI, 4500, .inl x.2))) H ∧ va_S (fr_A z) s.heap H locs ∧ lv_has ls 8 [(7, .int (nI (150 * lc + x.1))), (4, .int (nI (150 * lc))), (5, .int (nI k)), (6, .int (nI q)), (0, .ref (b 40)), (1, .int fr), (2, .int to), (3, .int of)]) (fun x H locs ls h => by obtain ⟨h1, h2, -⟩ := h; omega) (fun n9a x H locs ls hI iha => ?_) (k + 1) (k, li1) _ _ _ ⟨ae0, ae1, ae2, ae3, ae4, ae5, hE, hS, lv_sub hl [0, 1, 2, 3, 4, 5, 6, 7] rfl⟩
          obtain ⟨t, li2⟩ := x
          obtain ⟨e0, e1, e2, e3, e4, e5, hE, hS, hl⟩ := hI
          replace e0 : (n9a + 1) = t + 1 := e0
          replace e1 : t ≤ k := e1
          replace e2 : ∀ j, j < t → li2 (150 * lc + j) = nI ((gaF (selB fr to of dy st) dy q).1 j) := e2
          replace e3 : ∀ j, t ≤ j → j < k → li2 (150 * lc + (j + 1)) = nI ((gaF (selB fr to of dy st) dy q).1 j) := e3
          replace e4 : psF dy q (gaF (selB fr to of dy st) dy q).1 k = psF dy q (gaF (selB fr to of dy st) dy q).1 t := e4
          replace e5 : ∀ i, i < 150 * lc → li2 i = li i := e5
          replace hE : fr_W D hCl z b (fr_up C (0, 56) (.inl (cI, 4500, .inl li2))) H := hE
          replace hl : lv_has ls 8 [(7, .int (nI (150 * lc + t))), (4, .int (nI (150 * lc))), (5, .int (nI k)), (6, .int (nI q)), (0, .ref (b 40)), (1, .int fr), (2, .int to), (3, .int of)] := hl
          refine lv_iload hx hb d_M_gather_65 (lv_at hl 0 rfl) ?_
          refine lv_iload hx hb d_M_gather_67 (lv_at hl 1 rfl) ?_
          refine lv_icmp_le (tgt := 118) hx hb d_M_gather_69 (by decide) (fun c_7 => ?_) (fun c_7 => ?_)
          · skip
            have ht0 : t = 0 := by have := (nI_leI (by omega) (by omega)).mp c_7; omega
            have yfin := ins_fin (off := 150 * lc) (od := li2) (t := t) (e4.trans (by rw [ht0]; rfl)) (by omega) e2 e3
            refine lv_aload_n hx hb d_M_gather_118 rfl (lv_at hl 4 rfl) ?_
            refine fr_get (ci := 5) (Cn := hR_5) (T := hF_5) (N := 34) hx hb hT hi_5 hown hK hE (0, 40) rfl m0 rfl 16 (by decide) (hT _ kw_490) (fun _ h9 => h9) rfl d_M_gather_119 ?_
            refine lv_iload hx hb d_M_gather_122 (lv_at hl 0 rfl) ?_
            refine lv_iload hx hb d_M_gather_124 (lv_at hl 3 rfl) ?_
            refine fr_iast hx hb hK hE hS (0, 56) 0 rfl rfl rfl (150 * lc + t) (rfl) (by omega) (by decide) d_M_gather_126 (fun H locs hE hS => ?_)
            rw [fr_up_up] at hE
            refine lv_iinc (v := nI (k + 1)) (lv' := [(5, .int (nI (k + 1))), (7, .int (nI (150 * lc + t))), (4, .int (nI (150 * lc))), (6, .int (nI q)), (0, .ref (b 40)), (1, .int fr), (2, .int to), (3, .int of)]) hx hb d_M_gather_127 hl (k := 2) rfl (nI_1 k) (by decide) rfl (fun ls hl => ?_)
            refine lv_iinc (v := nI (q + 1)) (lv' := [(6, .int (nI (q + 1))), (5, .int (nI (k + 1))), (7, .int (nI (150 * lc + t))), (4, .int (nI (150 * lc))), (0, .ref (b 40)), (1, .int fr), (2, .int to), (3, .int of)]) hx hb d_M_gather_130 hl (k := 3) rfl (nI_1 q) (by decide) rfl (fun ls hl => ?_)
            refine lv_goto (tgt := 16) hx hb d_M_gather_133 (by decide) ?_
            have bi0 : n9 + (q + 1) = n + 1 := by omega
            have bi1 : (q + 1) ≤ n := by omega
            have bi2 : (k + 1) = (gaF (selB fr to of dy st) dy (q + 1)).2 := by rw [gaF_yes ys, i2]
            have bi3 : ∀ j, j < (k + 1) → (upd li2 (150 * lc + t) (nI q)) (150 * lc + j) = nI ((gaF (selB fr to of dy st) dy (q + 1)).1 j) := fun j hj => by rw [gaF_yes ys]; exact (yfin j hj).trans (by rw [i2])
            have bi4 : ∀ i, i < 150 * lc → (upd li2 (150 * lc + t) (nI q)) i = li i := fun i hi => by rw [pk_un (by omega)]; exact e5 i hi
            exact ih (q + 1, k + 1, upd li2 (150 * lc + t) (nI q)) _ _ _ ⟨bi0, bi1, bi2, bi3, bi4, hE, hS, lv_sub hl [3, 1, 0, 4, 5, 6, 7] rfl⟩
          · skip
            obtain ⟨m_1, rfl⟩ : ∃ m, t = m + 1 := by cases t with | zero => exact absurd (nI_le (by omega) (by omega)) c_7 | succ m => exact ⟨m, rfl⟩
            have hm_1 := e2 m_1 (by omega)
            have hm_2 := hL m_1 (by omega)
            refine lv_aload_n hx hb d_M_gather_72 rfl (lv_at hl 4 rfl) ?_
            refine fr_get (ci := 5) (Cn := hR_5) (T := hF_5) (N := 34) hx hb hT hi_5 hown hK hE (0, 40) rfl m0 rfl 7 (by decide) (hT _ kw_481) (fun _ h9 => h9) rfl d_M_gather_73 ?_
            refine lv_aload_n hx hb d_M_gather_76 rfl (lv_at hl 4 rfl) ?_
            refine fr_get (ci := 5) (Cn := hR_5) (T := hF_5) (N := 34) hx hb hT hi_5 hown hK hE (0, 40) rfl m0 rfl 16 (by decide) (hT _ kw_490) (fun _ h9 => h9) rfl d_M_gather_77 ?_
            refine lv_iload hx hb d_M_gather_80 (lv_at hl 0 rfl) ?_
            refine lv_iconst (v := 1) hx hb d_M_gather_82 (by decide) ?_
            refine lv_isub hx hb d_M_gather_83 ?_
            refine lv_topi (fun y_8 ey_8 => ?_)
            obtain rfl : y_8 = nI (150 * lc + m_1) := ey_8.trans (by rw [show 150 * lc + (m_1 + 1) = (150 * lc + m_1) + 1 by omega]; exact nI_pred _)
            refine fr_iald hx hb hK hE (0, 56) 0 rfl rfl rfl (150 * lc + m_1) (rfl) (by omega) (by decide) d_M_gather_84 ?_
            refine fr_iald hx hb hK hE (0, 47) 0 rfl m7 rfl ((gaF (selB fr to of dy st) dy q).1 m_1) (hm_1) (hm_2) (by decide) d_M_gather_85 ?_
            refine lv_aload_n hx hb d_M_gather_86 rfl (lv_at hl 4 rfl) ?_
            refine fr_get (ci := 5) (Cn := hR_5) (T := hF_5) (N := 34) hx hb hT hi_5 hown hK hE (0, 40) rfl m0 rfl 7 (by decide) (hT _ kw_481) (fun _ h9 => h9) rfl d_M_gather_87 ?_
            refine lv_iload hx hb d_M_gather_90 (lv_at hl 3 rfl) ?_
            refine fr_iald hx hb hK hE (0, 47) 0 rfl m7 rfl q (rfl) (by omega) (by decide) d_M_gather_92 ?_
            refine lv_icmp_le (tgt := 118) hx hb d_M_gather_93 (by decide) (fun c_9 => ?_) (fun c_9 => ?_)
            · skip
              have yfin := ins_fin (off := 150 * lc) (od := li2) (t := (m_1 + 1)) (e4.trans (psF_s c_9)) (by omega) e2 e3
              refine lv_aload_n hx hb d_M_gather_118 rfl (lv_at hl 4 rfl) ?_
              refine fr_get (ci := 5) (Cn := hR_5) (T := hF_5) (N := 34) hx hb hT hi_5 hown hK hE (0, 40) rfl m0 rfl 16 (by decide) (hT _ kw_490) (fun _ h9 => h9) rfl d_M_gather_119 ?_
              refine lv_iload hx hb d_M_gather_122 (lv_at hl 0 rfl) ?_
              refine lv_iload hx hb d_M_gather_124 (lv_at hl 3 rfl) ?_
              refine fr_iast hx hb hK hE hS (0, 56) 0 rfl rfl rfl (150 * lc + (m_1 + 1)) (rfl) (by omega) (by decide) d_M_gather_126 (fun H locs hE hS => ?_)
              rw [fr_up_up] at hE
              refine lv_iinc (v := nI (k + 1)) (lv' := [(5, .int (nI (k + 1))), (7, .int (nI (150 * lc + (m_1 + 1)))), (4, .int (nI (150 * lc))), (6, .int (nI q)), (0, .ref (b 40)), (1, .int fr), (2, .int to), (3, .int of)]) hx hb d_M_gather_127 hl (k := 2) rfl (nI_1 k) (by decide) rfl (fun ls hl => ?_)
              refine lv_iinc (v := nI (q + 1)) (lv' := [(6, .int (nI (q + 1))), (5, .int (nI (k + 1))), (7, .int (nI (150 * lc + (m_1 + 1)))), (4, .int (nI (150 * lc))), (0, .ref (b 40)), (1, .int fr), (2, .int to), (3, .int of)]) hx hb d_M_gather_130 hl (k := 3) rfl (nI_1 q) (by decide) rfl (fun ls hl => ?_)
              refine lv_goto (tgt := 16) hx hb d_M_gather_133 (by decide) ?_
              have bi0 : n9 + (q + 1) = n + 1 := by omega
              have bi1 : (q + 1) ≤ n := by omega
              have bi2 : (k + 1) = (gaF (selB fr to of dy st) dy (q + 1)).2 := by rw [gaF_yes ys, i2]
              have bi3 : ∀ j, j < (k + 1) → (upd li2 (150 * lc + (m_1 + 1)) (nI q)) (150 * lc + j) = nI ((gaF (selB fr to of dy st) dy (q + 1)).1 j) := fun j hj => by rw [gaF_yes ys]; exact (yfin j hj).trans (by rw [i2])
              have bi4 : ∀ i, i < 150 * lc → (upd li2 (150 * lc + (m_1 + 1)) (nI q)) i = li i := fun i hi => by rw [pk_un (by omega)]; exact e5 i hi
              exact ih (q + 1, k + 1, upd li2 (150 * lc + (m_1 + 1)) (nI q)) _ _ _ ⟨bi0, bi1, bi2, bi3, bi4, hE, hS, lv_sub hl [3, 1, 0, 4, 5, 6, 7] rfl⟩
            · skip
              refine lv_aload_n hx hb d_M_gather_96 rfl (lv_at hl 4 rfl) ?_
              refine fr_get (ci := 5) (Cn := hR_5) (T := hF_5) (N := 34) hx hb hT hi_5 hown hK hE (0, 40) rfl m0 rfl 16 (by decide) (hT _ kw_490) (fun _ h9 => h9) rfl d_M_gather_97 ?_
              refine lv_iload hx hb d_M_gather_100 (lv_at hl 0 rfl) ?_
              refine lv_aload_n hx hb d_M_gather_102 rfl (lv_at hl 4 rfl) ?_
              refine fr_get (ci := 5) (Cn := hR_5) (T := hF_5) (N := 34) hx hb hT hi_5 hown hK hE (0, 40) rfl m0 rfl 16 (by decide) (hT _ kw_490) (fun _ h9 => h9) rfl d_M_gather_103 ?_
              refine lv_iload hx hb d_M_gather_106 (lv_at hl 0 rfl) ?_
              refine lv_iconst (v := 1) hx hb d_M_gather_108 (by decide) ?_
              refine lv_isub hx hb d_M_gather_109 ?_
              refine lv_topi (fun y_10 ey_10 => ?_)
              obtain rfl : y_10 = nI (150 * lc + m_1) := ey_10.trans (by rw [show 150 * lc + (m_1 + 1) = (150 * lc + m_1) + 1 by omega]; exact nI_pred _)
              refine fr_iald hx hb hK hE (0, 56) 0 rfl rfl rfl (150 * lc + m_1) (rfl) (by omega) (by decide) d_M_gather_110 ?_
              refine fr_iast hx hb hK hE hS (0, 56) 0 rfl rfl rfl (150 * lc + (m_1 + 1)) (rfl) (by omega) (by decide) d_M_gather_111 (fun H locs hE hS => ?_)
              refine lv_iinc (v := nI (150 * lc + m_1)) (lv' := [(7, .int (nI (150 * lc + m_1))), (4, .int (nI (150 * lc))), (5, .int (nI k)), (6, .int (nI q)), (0, .ref (b 40)), (1, .int fr), (2, .int to), (3, .int of)]) hx hb d_M_gather_112 hl (k := 0) rfl (by rw [show 150 * lc + (m_1 + 1) = (150 * lc + m_1) + 1 by omega]; exact pk_m1 _) (by decide) rfl (fun ls hl => ?_)
              refine lv_goto (tgt := 65) hx hb d_M_gather_115 (by decide) ?_
              rw [fr_up_up, hm_1] at hE
              have be0 : n9a = m_1 + 1 := by omega
              have be1 : m_1 ≤ k := by omega
              have be2 : ∀ j, j < m_1 → (upd li2 (150 * lc + (m_1 + 1)) (nI ((gaF (selB fr to of dy st) dy q).1 m_1))) (150 * lc + j) = nI ((gaF (selB fr to of dy st) dy q).1 j) := fun j hj => by rw [pk_un (by omega)]; exact e2 j (by omega)
              have be3 : ∀ j, m_1 ≤ j → j < k → (upd li2 (150 * lc + (m_1 + 1)) (nI ((gaF (selB fr to of dy st) dy q).1 m_1))) (150 * lc + (j + 1)) = nI ((gaF (selB fr to of dy st) dy q).1 j) := fun j h1 h2 => by rcases Nat.lt_or_ge m_1 j with y | y; rw [pk_un (by omega)]; exact e3 j (by omega) h2; rw [show j = m_1 by omega]; exact pk_us
              have be4 : psF dy q (gaF (selB fr to of dy st) dy q).1 k = psF dy q (gaF (selB fr to of dy st) dy q).1 m_1 := e4.trans (psF_n c_9)
              have be5 : ∀ i, i < 150 * lc → (upd li2 (150 * lc + (m_1 + 1)) (nI ((gaF (selB fr to of dy st) dy q).1 m_1))) i = li i := fun i hi => by rw [pk_un (by omega)]; exact e5 i hi
              exact iha (m_1, upd li2 (150 * lc + (m_1 + 1)) (nI ((gaF (selB fr to of dy st) dy q).1 m_1))) _ _ _ ⟨be0, be1, be2, be3, be4, be5, hE, hS, lv_sub hl [0, 1, 2, 3, 4, 5, 6, 7] rfl⟩
        · skip
          refine lv_aload_n hx hb d_M_gather_44 rfl (lv_at hl 3 rfl) ?_
          refine fr_get (ci := 5) (Cn := hR_5) (T := hF_5) (N := 34) hx hb hT hi_5 hown hK hE (0, 40) rfl m0 rfl 6 (by decide) (hT _ kw_480) (fun _ h9 => h9) rfl d_M_gather_45 ?_
          refine lv_iload hx hb d_M_gather_48 (lv_at hl 2 rfl) ?_
          refine fr_iald hx hb hK hE (0, 46) 0 rfl m6 rfl q (rfl) (by omega) (by decide) d_M_gather_50 ?_
          refine lv_iload_n hx hb d_M_gather_51 rfl (lv_at hl 6 rfl) ?_
          refine lv_icmp_eq (tgt := 58) hx hb d_M_gather_52 (by decide) (fun c_11 => ?_) (fun c_11 => ?_)
          · skip
            have ys : (selB fr to of dy st) q = true := selB_yes pw_3.1 pw_3.2 (Or.inr c_11)
            refine lv_iload hx hb d_M_gather_58 (lv_at hl 0 rfl) ?_
            refine lv_iload hx hb d_M_gather_60 (lv_at hl 1 rfl) ?_
            refine lv_iadd hx hb d_M_gather_62 ?_
            refine lv_topi (fun y_12 ey_12 => ?_)
            obtain rfl : y_12 = nI (150 * lc + k) := ey_12.trans (nI_add _ _)
            refine lv_istore (lv' := [(7, .int (nI (150 * lc + k))), (4, .int (nI (150 * lc))), (5, .int (nI k)), (6, .int (nI q)), (0, .ref (b 40)), (1, .int fr), (2, .int to), (3, .int of)]) hx hb d_M_gather_63 hl (by decide) rfl (fun ls hl => ?_)
            refine W.widen (k := 0) (n := 0) (Nat.le_of_ble_eq_true rfl) (Nat.le_of_ble_eq_true rfl) ?_
            have ae0 : (k + 1) = k + 1 := rfl
            have ae1 : k ≤ k := Nat.le_refl k
            have ae2 : ∀ j, j < k → li1 (150 * lc + j) = nI ((gaF (selB fr to of dy st) dy q).1 j) := i3
            have ae3 : ∀ j, k ≤ j → j < k → li1 (150 * lc + (j + 1)) = nI ((gaF (selB fr to of dy st) dy q).1 j) := fun j h1 h2 => absurd h2 (by omega)
            have ae4 : psF dy q (gaF (selB fr to of dy st) dy q).1 k = psF dy q (gaF (selB fr to of dy st) dy q).1 k := rfl
            have ae5 : ∀ i, i < 150 * lc → li1 i = li i := i4
            refine fr_loop (σ := Nat × (Nat → Int32)) (fun n9a x H locs ls => (n9a = x.1 + 1) ∧ (x.1 ≤ k) ∧ (∀ j, j < x.1 → x.2 (150 * lc + j) = nI ((gaF (selB fr to of dy st) dy q).1 j)) ∧ (∀ j, x.1 ≤ j → j < k → x.2 (150 * lc + (j + 1)) = nI ((gaF (selB fr to of dy st) dy q).1 j)) ∧ (psF dy q (gaF (selB fr to of dy st) dy q).1 k = psF dy q (gaF (selB fr to of dy st) dy q).1 x.1) ∧ (∀ i, i < 150 * lc → x.2 i = li i) ∧ fr_W D hCl z b (fr_up C (0, 56) (.inl (cI, 4500, .inl x.2))) H ∧ va_S (fr_A z) s.heap H locs ∧ lv_has ls 8 [(7, .int (nI (150 * lc + x.1))), (4, .int (nI (150 * lc))), (5, .int (nI k)), (6, .int (nI q)), (0, .ref (b 40)), (1, .int fr), (2, .int to), (3, .int of)]) (fun x H locs ls h => by obtain ⟨h1, h2, -⟩ := h; omega) (fun n9a x H locs ls hI iha => ?_) (k + 1) (k, li1) _ _ _ ⟨ae0, ae1, ae2, ae3, ae4, ae5, hE, hS, lv_sub hl [0, 1, 2, 3, 4, 5, 6, 7] rfl⟩
            obtain ⟨t, li2⟩ := x
            obtain ⟨e0, e1, e2, e3, e4, e5, hE, hS, hl⟩ := hI
            replace e0 : (n9a + 1) = t + 1 := e0
            replace e1 : t ≤ k := e1
            replace e2 : ∀ j, j < t → li2 (150 * lc + j) = nI ((gaF (selB fr to of dy st) dy q).1 j) := e2
            replace e3 : ∀ j, t ≤ j → j < k → li2 (150 * lc + (j + 1)) = nI ((gaF (selB fr to of dy st) dy q).1 j) := e3
            replace e4 : psF dy q (gaF (selB fr to of dy st) dy q).1 k = psF dy q (gaF (selB fr to of dy st) dy q).1 t := e4
            replace e5 : ∀ i, i < 150 * lc → li2 i = li i := e5
            replace hE : fr_W D hCl z b (fr_up C (0, 56) (.inl (cI, 4500, .inl li2))) H := hE
            replace hl : lv_has ls 8 [(7, .int (nI (150 * lc + t))), (4, .int (nI (150 * lc))), (5, .int (nI k)), (6, .int (nI q)), (0, .ref (b 40)), (1, .int fr), (2, .int to), (3, .int of)] := hl
            refine lv_iload hx hb d_M_gather_65 (lv_at hl 0 rfl) ?_
            refine lv_iload hx hb d_M_gather_67 (lv_at hl 1 rfl) ?_
            refine lv_icmp_le (tgt := 118) hx hb d_M_gather_69 (by decide) (fun c_13 => ?_) (fun c_13 => ?_)
            · skip
              have ht0 : t = 0 := by have := (nI_leI (by omega) (by omega)).mp c_13; omega
              have yfin := ins_fin (off := 150 * lc) (od := li2) (t := t) (e4.trans (by rw [ht0]; rfl)) (by omega) e2 e3
              refine lv_aload_n hx hb d_M_gather_118 rfl (lv_at hl 4 rfl) ?_
              refine fr_get (ci := 5) (Cn := hR_5) (T := hF_5) (N := 34) hx hb hT hi_5 hown hK hE (0, 40) rfl m0 rfl 16 (by decide) (hT _ kw_490) (fun _ h9 => h9) rfl d_M_gather_119 ?_
              refine lv_iload hx hb d_M_gather_122 (lv_at hl 0 rfl) ?_
              refine lv_iload hx hb d_M_gather_124 (lv_at hl 3 rfl) ?_
              refine fr_iast hx hb hK hE hS (0, 56) 0 rfl rfl rfl (150 * lc + t) (rfl) (by omega) (by decide) d_M_gather_126 (fun H locs hE hS => ?_)
              rw [fr_up_up] at hE
              refine lv_iinc (v := nI (k + 1)) (lv' := [(5, .int (nI (k + 1))), (7, .int (nI (150 * lc + t))), (4, .int (nI (150 * lc))), (6, .int (nI q)), (0, .ref (b 40)), (1, .int fr), (2, .int to), (3, .int of)]) hx hb d_M_gather_127 hl (k := 2) rfl (nI_1 k) (by decide) rfl (fun ls hl => ?_)
              refine lv_iinc (v := nI (q + 1)) (lv' := [(6, .int (nI (q + 1))), (5, .int (nI (k + 1))), (7, .int (nI (150 * lc + t))), (4, .int (nI (150 * lc))), (0, .ref (b 40)), (1, .int fr), (2, .int to), (3, .int of)]) hx hb d_M_gather_130 hl (k := 3) rfl (nI_1 q) (by decide) rfl (fun ls hl => ?_)
              refine lv_goto (tgt := 16) hx hb d_M_gather_133 (by decide) ?_
              have bi0 : n9 + (q + 1) = n + 1 := by omega
              have bi1 : (q + 1) ≤ n := by omega
              have bi2 : (k + 1) = (gaF (selB fr to of dy st) dy (q + 1)).2 := by rw [gaF_yes ys, i2]
              have bi3 : ∀ j, j < (k + 1) → (upd li2 (150 * lc + t) (nI q)) (150 * lc + j) = nI ((gaF (selB fr to of dy st) dy (q + 1)).1 j) := fun j hj => by rw [gaF_yes ys]; exact (yfin j hj).trans (by rw [i2])
              have bi4 : ∀ i, i < 150 * lc → (upd li2 (150 * lc + t) (nI q)) i = li i := fun i hi => by rw [pk_un (by omega)]; exact e5 i hi
              exact ih (q + 1, k + 1, upd li2 (150 * lc + t) (nI q)) _ _ _ ⟨bi0, bi1, bi2, bi3, bi4, hE, hS, lv_sub hl [3, 1, 0, 4, 5, 6, 7] rfl⟩
            · skip
              obtain ⟨m_1, rfl⟩ : ∃ m, t = m + 1 := by cases t with | zero => exact absurd (nI_le (by omega) (by omega)) c_13 | succ m => exact ⟨m, rfl⟩
              have hm_1 := e2 m_1 (by omega)
              have hm_2 := hL m_1 (by omega)
              refine lv_aload_n hx hb d_M_gather_72 rfl (lv_at hl 4 rfl) ?_
              refine fr_get (ci := 5) (Cn := hR_5) (T := hF_5) (N := 34) hx hb hT hi_5 hown hK hE (0, 40) rfl m0 rfl 7 (by decide) (hT _ kw_481) (fun _ h9 => h9) rfl d_M_gather_73 ?_
              refine lv_aload_n hx hb d_M_gather_76 rfl (lv_at hl 4 rfl) ?_
              refine fr_get (ci := 5) (Cn := hR_5) (T := hF_5) (N := 34) hx hb hT hi_5 hown hK hE (0, 40) rfl m0 rfl 16 (by decide) (hT _ kw_490) (fun _ h9 => h9) rfl d_M_gather_77 ?_
              refine lv_iload hx hb d_M_gather_80 (lv_at hl 0 rfl) ?_
              refine lv_iconst (v := 1) hx hb d_M_gather_82 (by decide) ?_
              refine lv_isub hx hb d_M_gather_83 ?_
              refine lv_topi (fun y_14 ey_14 => ?_)
              obtain rfl : y_14 = nI (150 * lc + m_1) := ey_14.trans (by rw [show 150 * lc + (m_1 + 1) = (150 * lc + m_1) + 1 by omega]; exact nI_pred _)
              refine fr_iald hx hb hK hE (0, 56) 0 rfl rfl rfl (150 * lc + m_1) (rfl) (by omega) (by decide) d_M_gather_84 ?_
              refine fr_iald hx hb hK hE (0, 47) 0 rfl m7 rfl ((gaF (selB fr to of dy st) dy q).1 m_1) (hm_1) (hm_2) (by decide) d_M_gather_85 ?_
              refine lv_aload_n hx hb d_M_gather_86 rfl (lv_at hl 4 rfl) ?_
              refine fr_get (ci := 5) (Cn := hR_5) (T := hF_5) (N := 34) hx hb hT hi_5 hown hK hE (0, 40) rfl m0 rfl 7 (by decide) (hT _ kw_481) (fun _ h9 => h9) rfl d_M_gather_87 ?_
              refine lv_iload hx hb d_M_gather_90 (lv_at hl 3 rfl) ?_
              refine fr_iald hx hb hK hE (0, 47) 0 rfl m7 rfl q (rfl) (by omega) (by decide) d_M_gather_92 ?_
              refine lv_icmp_le (tgt := 118) hx hb d_M_gather_93 (by decide) (fun c_15 => ?_) (fun c_15 => ?_)
              · skip
                have yfin := ins_fin (off := 150 * lc) (od := li2) (t := (m_1 + 1)) (e4.trans (psF_s c_15)) (by omega) e2 e3
                refine lv_aload_n hx hb d_M_gather_118 rfl (lv_at hl 4 rfl) ?_
                refine fr_get (ci := 5) (Cn := hR_5) (T := hF_5) (N := 34) hx hb hT hi_5 hown hK hE (0, 40) rfl m0 rfl 16 (by decide) (hT _ kw_490) (fun _ h9 => h9) rfl d_M_gather_119 ?_
                refine lv_iload hx hb d_M_gather_122 (lv_at hl 0 rfl) ?_
                refine lv_iload hx hb d_M_gather_124 (lv_at hl 3 rfl) ?_
                refine fr_iast hx hb hK hE hS (0, 56) 0 rfl rfl rfl (150 * lc + (m_1 + 1)) (rfl) (by omega) (by decide) d_M_gather_126 (fun H locs hE hS => ?_)
                rw [fr_up_up] at hE
                refine lv_iinc (v := nI (k + 1)) (lv' := [(5, .int (nI (k + 1))), (7, .int (nI (150 * lc + (m_1 + 1)))), (4, .int (nI (150 * lc))), (6, .int (nI q)), (0, .ref (b 40)), (1, .int fr), (2, .int to), (3, .int of)]) hx hb d_M_gather_127 hl (k := 2) rfl (nI_1 k) (by decide) rfl (fun ls hl => ?_)
                refine lv_iinc (v := nI (q + 1)) (lv' := [(6, .int (nI (q + 1))), (5, .int (nI (k + 1))), (7, .int (nI (150 * lc + (m_1 + 1)))), (4, .int (nI (150 * lc))), (0, .ref (b 40)), (1, .int fr), (2, .int to), (3, .int of)]) hx hb d_M_gather_130 hl (k := 3) rfl (nI_1 q) (by decide) rfl (fun ls hl => ?_)
                refine lv_goto (tgt := 16) hx hb d_M_gather_133 (by decide) ?_
                have bi0 : n9 + (q + 1) = n + 1 := by omega
                have bi1 : (q + 1) ≤ n := by omega
                have bi2 : (k + 1) = (gaF (selB fr to of dy st) dy (q + 1)).2 := by rw [gaF_yes ys, i2]
                have bi3 : ∀ j, j < (k + 1) → (upd li2 (150 * lc + (m_1 + 1)) (nI q)) (150 * lc + j) = nI ((gaF (selB fr to of dy st) dy (q + 1)).1 j) := fun j hj => by rw [gaF_yes ys]; exact (yfin j hj).trans (by rw [i2])
                have bi4 : ∀ i, i < 150 * lc → (upd li2 (150 * lc + (m_1 + 1)) (nI q)) i = li i := fun i hi => by rw [pk_un (by omega)]; exact e5 i hi
                exact ih (q + 1, k + 1, upd li2 (150 * lc + (m_1 + 1)) (nI q)) _ _ _ ⟨bi0, bi1, bi2, bi3, bi4, hE, hS, lv_sub hl [3, 1, 0, 4, 5, 6, 7] rfl⟩
              · skip
                refine lv_aload_n hx hb d_M_gather_96 rfl (lv_at hl 4 rfl) ?_
                refine fr_get (ci := 5) (Cn := hR_5) (T := hF_5) (N := 34) hx hb hT hi_5 hown hK hE (0, 40) rfl m0 rfl 16 (by decide) (hT _ kw_490) (fun _ h9 => h9) rfl d_M_gather_97 ?_
                refine lv_iload hx hb d_M_gather_100 (lv_at hl 0 rfl) ?_
                refine lv_aload_n hx hb d_M_gather_102 rfl (lv_at hl 4 rfl) ?_
                refine fr_get (ci := 5) (Cn := hR_5) (T := hF_5) (N := 34) hx hb hT hi_5 hown hK hE (0, 40) rfl m0 rfl 16 (by decide) (hT _ kw_490) (fun _ h9 => h9) rfl d_M_gather_103 ?_
                refine lv_iload hx hb d_M_gather_106 (lv_at hl 0 rfl) ?_
                refine lv_iconst (v := 1) hx hb d_M_gather_108 (by decide) ?_
                refine lv_isub hx hb d_M_gather_109 ?_
                refine lv_topi (fun y_16 ey_16 => ?_)
                obtain rfl : y_16 = nI (150 * lc + m_1) := ey_16.trans (by rw [show 150 * lc + (m_1 + 1) = (150 * lc + m_1) + 1 by omega]; exact nI_pred _)
                refine fr_iald hx hb hK hE (0, 56) 0 rfl rfl rfl (150 * lc + m_1) (rfl) (by omega) (by decide) d_M_gather_110 ?_
                refine fr_iast hx hb hK hE hS (0, 56) 0 rfl rfl rfl (150 * lc + (m_1 + 1)) (rfl) (by omega) (by decide) d_M_gather_111 (fun H locs hE hS => ?_)
                refine lv_iinc (v := nI (150 * lc + m_1)) (lv' := [(7, .int (nI (150 * lc + m_1))), (4, .int (nI (150 * lc))), (5, .int (nI k)), (6, .int (nI q)), (0, .ref (b 40)), (1, .int fr), (2, .int to), (3, .int of)]) hx hb d_M_gather_112 hl (k := 0) rfl (by rw [show 150 * lc + (m_1 + 1) = (150 * lc + m_1) + 1 by omega]; exact pk_m1 _) (by decide) rfl (fun ls hl => ?_)
                refine lv_goto (tgt := 65) hx hb d_M_gather_115 (by decide) ?_
                rw [fr_up_up, hm_1] at hE
                have be0 : n9a = m_1 + 1 := by omega
                have be1 : m_1 ≤ k := by omega
                have be2 : ∀ j, j < m_1 → (upd li2 (150 * lc + (m_1 + 1)) (nI ((gaF (selB fr to of dy st) dy q).1 m_1))) (150 * lc + j) = nI ((gaF (selB fr to of dy st) dy q).1 j) := fun j hj => by rw [pk_un (by omega)]; exact e2 j (by omega)
                have be3 : ∀ j, m_1 ≤ j → j < k → (upd li2 (150 * lc + (m_1 + 1)) (nI ((gaF (selB fr to of dy st) dy q).1 m_1))) (150 * lc + (j + 1)) = nI ((gaF (selB fr to of dy st) dy q).1 j) := fun j h1 h2 => by rcases Nat.lt_or_ge m_1 j with y | y; rw [pk_un (by omega)]; exact e3 j (by omega) h2; rw [show j = m_1 by omega]; exact pk_us
                have be4 : psF dy q (gaF (selB fr to of dy st) dy q).1 k = psF dy q (gaF (selB fr to of dy st) dy q).1 m_1 := e4.trans (psF_n c_15)
                have be5 : ∀ i, i < 150 * lc → (upd li2 (150 * lc + (m_1 + 1)) (nI ((gaF (selB fr to of dy st) dy q).1 m_1))) i = li i := fun i hi => by rw [pk_un (by omega)]; exact e5 i hi
                exact iha (m_1, upd li2 (150 * lc + (m_1 + 1)) (nI ((gaF (selB fr to of dy st) dy q).1 m_1))) _ _ _ ⟨be0, be1, be2, be3, be4, be5, hE, hS, lv_sub hl [0, 1, 2, 3, 4, 5, 6, 7] rfl⟩
          · skip
            refine lv_goto (tgt := 130) hx hb d_M_gather_55 (by decide) ?_
            refine lv_iinc (v := nI (q + 1)) (lv' := [(6, .int (nI (q + 1))), (4, .int (nI (150 * lc))), (5, .int (nI k)), (0, .ref (b 40)), (1, .int fr), (2, .int to), (3, .int of)]) hx hb d_M_gather_130 hl (k := 2) rfl (nI_1 q) (by decide) rfl (fun ls hl => ?_)
            refine lv_goto (tgt := 16) hx hb d_M_gather_133 (by decide) ?_
            have ns : (selB fr to of dy st) q = false := selB_n3 c_5 c_11
            have bi0 : n9 + (q + 1) = n + 1 := by omega
            have bi1 : (q + 1) ≤ n := by omega
            have bi2 : k = (gaF (selB fr to of dy st) dy (q + 1)).2 := by rw [gaF_no ns, i2]
            have bi3 : ∀ j, j < k → li1 (150 * lc + j) = nI ((gaF (selB fr to of dy st) dy (q + 1)).1 j) := fun j hj => by rw [gaF_no ns]; exact i3 j hj
            have bi4 : ∀ i, i < 150 * lc → li1 i = li i := i4
            exact ih (q + 1, k, li1) _ _ _ ⟨bi0, bi1, bi2, bi3, bi4, hE, hS, lv_sub hl [1, 2, 0, 3, 4, 5, 6] rfl⟩
    · skip
      refine lv_if_eq (tgt := 130) hx hb d_M_gather_37 (by decide) (fun c_17 => ?_) (fun c_17 => ?_)
      · skip
        refine lv_iinc (v := nI (q + 1)) (lv' := [(6, .int (nI (q + 1))), (4, .int (nI (150 * lc))), (5, .int (nI k)), (0, .ref (b 40)), (1, .int fr), (2, .int to), (3, .int of)]) hx hb d_M_gather_130 hl (k := 2) rfl (nI_1 q) (by decide) rfl (fun ls hl => ?_)
        refine lv_goto (tgt := 16) hx hb d_M_gather_133 (by decide) ?_
        have ns : (selB fr to of dy st) q = false := by by_cases y1 : fr ≤ dy q; exact selB_n2 (fun y2 => pw_3 ⟨y1, y2⟩); exact selB_n1 y1
        have bi0 : n9 + (q + 1) = n + 1 := by omega
        have bi1 : (q + 1) ≤ n := by omega
        have bi2 : k = (gaF (selB fr to of dy st) dy (q + 1)).2 := by rw [gaF_no ns, i2]
        have bi3 : ∀ j, j < k → li1 (150 * lc + j) = nI ((gaF (selB fr to of dy st) dy (q + 1)).1 j) := fun j hj => by rw [gaF_no ns]; exact i3 j hj
        have bi4 : ∀ i, i < 150 * lc → li1 i = li i := i4
        exact ih (q + 1, k, li1) _ _ _ ⟨bi0, bi1, bi2, bi3, bi4, hE, hS, lv_sub hl [1, 2, 0, 3, 4, 5, 6] rfl⟩
      · skip
        exact absurd c_17 (by decide)
