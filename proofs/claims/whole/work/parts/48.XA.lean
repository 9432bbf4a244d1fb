set_option maxHeartbeats 4000000 in
set_option maxRecDepth 100000 in
theorem c_X_init (l : Launch) {D : va_G} {z : Nat} {b : Nat → Nat} {C : fr_C} {H9 : Heap} (h9 : fr_W D hCl z b C H9) {cI cZ cJ cP cO : ClassId} {e0 mi : Nat} (h0 : C (0, 0) = some (.inr (0, [.int 0, .int 0, .int 0, .null, .null, .null, .null, .null, .int 0, .int 0, .null, .int 0, .null, .null, .null, .int 0]))) (page grains secs : Int32) : Met l y_X_init w_X_init ({ frames := 4, cells := 9, slots := 779, locals := 72 }) (va_Pc [.ref (b 0), .int page, .int grains, .int secs] (fr_GX e0 mi D hCl (hTy cI cZ cJ cP cO) z b C)) (va_Qv (fun (u : (Nat → Nat) × fr_C) => u.2 (0, 0) = some (.inr (0, fX u.1 (clN page 1 50) (clN grains 1 100) (clN secs 0 1000000) 0 0 0 0)) ∧ u.2 (0, 1) = some (.inl (cZ, 6, .inl (fun _ => 0))) ∧ u.2 (0, 2) = some (.inl (cI, 150, .inl (fun _ => 0))) ∧ u.2 (0, 3) = some (.inl (cI, 150, .inl (fun _ => 0))) ∧ u.2 (0, 4) = some (.inl (cZ, 150, .inl (fun _ => 0))) ∧ u.2 (0, 5) = some (.inl (cI, 150, .inl (fun _ => 0))) ∧ u.2 (0, 6) = some (.inl (cI, 150, .inl (fun _ => 0))) ∧ u.2 (0, 7) = some (.inr (4, [.ref e0, .int 0, .int 0])) ∧ u.2 (0, 8) = some (.inl (cP, 10, .inr (.inr (.inr (.inr (fun _ => none)))))) ∧ u.2 (0, 9) = some (.inl (cI, 10, .inl (fun _ => 0))) ∧ fr_ag [(0, 0), (0, 1), (0, 2), (0, 3), (0, 4), (0, 5), (0, 6), (0, 7), (0, 8), (0, 9)] u.2 C ∧ u.1 0 = b 0 ∧ ∀ i, 10 ≤ i → u.1 i = b i) (fun u t => fr_G D hCl (hTy cI cZ cJ cP cO) z ((fun u => u.1) u) ((fun u => u.2) u) t) (fr_A z)) 9 779 (fr_A z) := by
  refine Met.ofW (cc := b_X_init) (maxL := 4) (ret := none) (by decide) rfl ?_
  intro p e s m args below meth c s₁ B hml hv
  obtain ⟨rfl, ⟨hE, hK⟩, hX⟩ := hv
  have hx := B.exec
  have hb := B.bytes
  have hr := B.returns
  have hts := atoms_spec (ws := w_X_init) B.pre
  have hT : ∀ w ∈ hw_tbl, w.before _ s = true := fun w h => hts w (List.mem_cons_of_mem _ h)
  have hown : s.vm.findClass "HarvestSteps" = some m.cls := findClass_of_methodNamed B.named
  have hlocks := B.notSynchronized
  have hin : meth.name = "<init>" := (name_of_methodNamed B.named B.method).1
  have hS : va_S (fr_A z) s.heap s.heap [] := va_S.rf
  have hl := lv_entry ([.ref (b 0), .int page, .int grains, .int secs]) (n := 4) (Nat.le_of_ble_eq_true rfl)
  rw [lg_entry_eq]
  generalize (lg_sl ([.ref (b 0), .int page, .int grains, .int secs]) ++ List.replicate (4 - (lg_sl ([.ref (b 0), .int page, .int grains, .int secs])).length) Slot.unset).toArray = ls at hl ⊢
  have hl : lv_has ls 4 [(0, .ref (b 0)), (1, .int page), (2, .int grains), (3, .int secs)] := hl
  refine lv_aload_n hx hb d_X_init_0 rfl (lv_at hl 0 rfl) ?_
  refine W.objInit hx hb hown (hT _ kw_44) (hT _ kw_45) (hT _ kw_46) rfl (by rw [hml]; exact hl.1) rfl d_X_init_1 (Nat.le_of_ble_eq_true rfl) (Nat.le_of_ble_eq_true rfl) ?_
  refine W.eq (g2 := F0 m 4 ls []) rfl ?_
  refine lv_aload_n hx hb d_X_init_4 rfl (lv_at hl 0 rfl) ?_
  refine lv_bipush (v := 6) hx hb d_X_init_5 (by decide) ?_
  refine fr_newa (atype := .boolean) (ty := .boolean) (a0 := (6, .inl (fun _ => 0))) hx hb (hT _ kw_73) rfl hK hE hS 1 1 rfl 6 (fun _ => rfl) (by decide) (by decide) (by decide) (Nat.le_of_ble_eq_true rfl) (Nat.le_of_ble_eq_true rfl) d_X_init_7 (fun q1 H nq1 hE hS => ?_)
  refine W.widen (k := 1) (n := 6) (Nat.le_of_ble_eq_true rfl) (by omega) ?_
  refine fr_putF (ci := 0) (v := .ref q1) (ty := (.array .boolean)) (Cn := hR_0) (T := hF_0) (N := 16) hx hb hT hi_0 hy_0 ho_0 hn_0 hown hK hE hS (0, 0) rfl h0 rfl 3 (by decide) (hT _ kw_90) (fun _ h9 => h9) rfl hin rfl (by decide +kernel) rfl rfl (Nat.le_of_ble_eq_true rfl) d_X_init_9 (fun H locs hE hS => ?_)
  obtain ⟨b1, C1, hE, f0, f1, fag, fb0, fb⟩ : ∃ (b1 : Nat → Nat) (C1 : fr_C), fr_W D hCl z b1 C1 H ∧ C1 (0, 0) = some (.inr (0, [.int 0, .int 0, .int 0, .ref (b1 1), .null, .null, .null, .null, .int 0, .int 0, .null, .int 0, .null, .null, .null, .int 0])) ∧ C1 (0, 1) = some (.inl (cZ, 6, .inl (fun _ => 0))) ∧ fr_ag [(0, 0), (0, 1), (0, 2), (0, 3), (0, 4), (0, 5), (0, 6), (0, 7), (0, 8), (0, 9)] C1 C ∧ b1 0 = b 0 ∧ ∀ i, 10 ≤ i → b1 i = b i := ⟨_, _, hE, rfl, rfl, fr_ag.up (fr_ag.up (fr_ag.rf) (by decide)) (by decide), rfl, fun i hi => (fr_ub_ne (by omega)).trans (rfl)⟩
  replace hl : lv_has ls 4 [(0, .ref (b1 0)), (1, .int page), (2, .int grains), (3, .int secs)] := by rw [fb0]; exact hl
  have fbo := fb0
  refine lv_aload_n hx hb d_X_init_12 rfl (lv_at hl 0 rfl) ?_
  refine lv_sipush (v := 150) hx hb d_X_init_13 (by decide) ?_
  refine fr_newa (atype := .int) (ty := .int) (a0 := (150, .inl (fun _ => 0))) hx hb (hT _ kw_74) rfl hK hE hS 2 0 rfl 150 (fun _ => rfl) (by decide) (by decide) (by decide) (Nat.le_of_ble_eq_true rfl) (Nat.le_of_ble_eq_true rfl) d_X_init_16 (fun q2 H nq2 hE hS => ?_)
  refine W.widen (k := 2) (n := 156) (Nat.le_of_ble_eq_true rfl) (by omega) ?_
  refine fr_putF (ci := 0) (v := .ref q2) (ty := (.array .int)) (Cn := hR_0) (T := hF_0) (N := 16) hx hb hT hi_0 hy_0 ho_0 hn_0 hown hK hE hS (0, 0) rfl f0 rfl 4 (by decide) (hT _ kw_91) (fun _ h9 => h9) rfl hin rfl (by decide +kernel) rfl rfl (Nat.le_of_ble_eq_true rfl) d_X_init_18 (fun H locs hE hS => ?_)
  obtain ⟨b2, C2, hE, f0, f1, f2, fag, fb0, fb⟩ : ∃ (b2 : Nat → Nat) (C2 : fr_C), fr_W D hCl z b2 C2 H ∧ C2 (0, 0) = some (.inr (0, [.int 0, .int 0, .int 0, .ref (b2 1), .ref (b2 2), .null, .null, .null, .int 0, .int 0, .null, .int 0, .null, .null, .null, .int 0])) ∧ C2 (0, 1) = some (.inl (cZ, 6, .inl (fun _ => 0))) ∧ C2 (0, 2) = some (.inl (cI, 150, .inl (fun _ => 0))) ∧ fr_ag [(0, 0), (0, 1), (0, 2), (0, 3), (0, 4), (0, 5), (0, 6), (0, 7), (0, 8), (0, 9)] C2 C ∧ b2 0 = b 0 ∧ ∀ i, 10 ≤ i → b2 i = b i := ⟨_, _, hE, rfl, f1, rfl, fr_ag.up (fr_ag.up (fag) (by decide)) (by decide), fb0, fun i hi => (fr_ub_ne (by omega)).trans (fb i hi)⟩
  replace hl : lv_has ls 4 [(0, .ref (b2 0)), (1, .int page), (2, .int grains), (3, .int secs)] := by rw [fb0, ← fbo]; exact hl
  have fbo := fb0
  refine lv_aload_n hx hb d_X_init_21 rfl (lv_at hl 0 rfl) ?_
  refine lv_sipush (v := 150) hx hb d_X_init_22 (by decide) ?_
  refine fr_newa (atype := .int) (ty := .int) (a0 := (150, .inl (fun _ => 0))) hx hb (hT _ kw_74) rfl hK hE hS 3 0 rfl 150 (fun _ => rfl) (by decide) (by decide) (by decide) (Nat.le_of_ble_eq_true rfl) (Nat.le_of_ble_eq_true rfl) d_X_init_25 (fun q3 H nq3 hE hS => ?_)
  refine W.widen (k := 3) (n := 306) (Nat.le_of_ble_eq_true rfl) (by omega) ?_
  refine fr_putF (ci := 0) (v := .ref q3) (ty := (.array .int)) (Cn := hR_0) (T := hF_0) (N := 16) hx hb hT hi_0 hy_0 ho_0 hn_0 hown hK hE hS (0, 0) rfl f0 rfl 5 (by decide) (hT _ kw_92) (fun _ h9 => h9) rfl hin rfl (by decide +kernel) rfl rfl (Nat.le_of_ble_eq_true rfl) d_X_init_27 (fun H locs hE hS => ?_)
  obtain ⟨b3, C3, hE, f0, f1, f2, f3, fag, fb0, fb⟩ : ∃ (b3 : Nat → Nat) (C3 : fr_C), fr_W D hCl z b3 C3 H ∧ C3 (0, 0) = some (.inr (0, [.int 0, .int 0, .int 0, .ref (b3 1), .ref (b3 2), .ref (b3 3), .null, .null, .int 0, .int 0, .null, .int 0, .null, .null, .null, .int 0])) ∧ C3 (0, 1) = some (.inl (cZ, 6, .inl (fun _ => 0))) ∧ C3 (0, 2) = some (.inl (cI, 150, .inl (fun _ => 0))) ∧ C3 (0, 3) = some (.inl (cI, 150, .inl (fun _ => 0))) ∧ fr_ag [(0, 0), (0, 1), (0, 2), (0, 3), (0, 4), (0, 5), (0, 6), (0, 7), (0, 8), (0, 9)] C3 C ∧ b3 0 = b 0 ∧ ∀ i, 10 ≤ i → b3 i = b i := ⟨_, _, hE, rfl, f1, f2, rfl, fr_ag.up (fr_ag.up (fag) (by decide)) (by decide), fb0, fun i hi => (fr_ub_ne (by omega)).trans (fb i hi)⟩
  replace hl : lv_has ls 4 [(0, .ref (b3 0)), (1, .int page), (2, .int grains), (3, .int secs)] := by rw [fb0, ← fbo]; exact hl
  have fbo := fb0
  refine lv_aload_n hx hb d_X_init_30 rfl (lv_at hl 0 rfl) ?_
  refine lv_sipush (v := 150) hx hb d_X_init_31 (by decide) ?_
  refine fr_newa (atype := .boolean) (ty := .boolean) (a0 := (150, .inl (fun _ => 0))) hx hb (hT _ kw_73) rfl hK hE hS 4 1 rfl 150 (fun _ => rfl) (by decide) (by decide) (by decide) (Nat.le_of_ble_eq_true rfl) (Nat.le_of_ble_eq_true rfl) d_X_init_34 (fun q4 H nq4 hE hS => ?_)
  refine W.widen (k := 4) (n := 456) (Nat.le_of_ble_eq_true rfl) (by omega) ?_
  refine fr_putF (ci := 0) (v := .ref q4) (ty := (.array .boolean)) (Cn := hR_0) (T := hF_0) (N := 16) hx hb hT hi_0 hy_0 ho_0 hn_0 hown hK hE hS (0, 0) rfl f0 rfl 6 (by decide) (hT _ kw_93) (fun _ h9 => h9) rfl hin rfl (by decide +kernel) rfl rfl (Nat.le_of_ble_eq_true rfl) d_X_init_36 (fun H locs hE hS => ?_)
  obtain ⟨b4, C4, hE, f0, f1, f2, f3, f4, fag, fb0, fb⟩ : ∃ (b4 : Nat → Nat) (C4 : fr_C), fr_W D hCl z b4 C4 H ∧ C4 (0, 0) = some (.inr (0, [.int 0, .int 0, .int 0, .ref (b4 1), .ref (b4 2), .ref (b4 3), .ref (b4 4), .null, .int 0, .int 0, .null, .int 0, .null, .null, .null, .int 0])) ∧ C4 (0, 1) = some (.inl (cZ, 6, .inl (fun _ => 0))) ∧ C4 (0, 2) = some (.inl (cI, 150, .inl (fun _ => 0))) ∧ C4 (0, 3) = some (.inl (cI, 150, .inl (fun _ => 0))) ∧ C4 (0, 4) = some (.inl (cZ, 150, .inl (fun _ => 0))) ∧ fr_ag [(0, 0), (0, 1), (0, 2), (0, 3), (0, 4), (0, 5), (0, 6), (0, 7), (0, 8), (0, 9)] C4 C ∧ b4 0 = b 0 ∧ ∀ i, 10 ≤ i → b4 i = b i := ⟨_, _, hE, rfl, f1, f2, f3, rfl, fr_ag.up (fr_ag.up (fag) (by decide)) (by decide), fb0, fun i hi => (fr_ub_ne (by omega)).trans (fb i hi)⟩
  replace hl : lv_has ls 4 [(0, .ref (b4 0)), (1, .int page), (2, .int grains), (3, .int secs)] := by rw [fb0, ← fbo]; exact hl
  have fbo := fb0
  refine lv_aload_n hx hb d_X_init_39 rfl (lv_at hl 0 rfl) ?_
  refine lv_sipush (v := 150) hx hb d_X_init_40 (by decide) ?_
  refine fr_newa (atype := .int) (ty := .int) (a0 := (150, .inl (fun _ => 0))) hx hb (hT _ kw_74) rfl hK hE hS 5 0 rfl 150 (fun _ => rfl) (by decide) (by decide) (by decide) (Nat.le_of_ble_eq_true rfl) (Nat.le_of_ble_eq_true rfl) d_X_init_43 (fun q5 H nq5 hE hS => ?_)
  refine W.widen (k := 5) (n := 606) (Nat.le_of_ble_eq_true rfl) (by omega) ?_
  refine fr_putF (ci := 0) (v := .ref q5) (ty := (.array .int)) (Cn := hR_0) (T := hF_0) (N := 16) hx hb hT hi_0 hy_0 ho_0 hn_0 hown hK hE hS (0, 0) rfl f0 rfl 7 (by decide) (hT _ kw_94) (fun _ h9 => h9) rfl hin rfl (by decide +kernel) rfl rfl (Nat.le_of_ble_eq_true rfl) d_X_init_45 (fun H locs hE hS => ?_)
  obtain ⟨b5, C5, hE, f0, f1, f2, f3, f4, f5, fag, fb0, fb⟩ : ∃ (b5 : Nat → Nat) (C5 : fr_C), fr_W D hCl z b5 C5 H ∧ C5 (0, 0) = some (.inr (0, [.int 0, .int 0, .int 0, .ref (b5 1), .ref (b5 2), .ref (b5 3), .ref (b5 4), .ref (b5 5), .int 0, .int 0, .null, .int 0, .null, .null, .null, .int 0])) ∧ C5 (0, 1) = some (.inl (cZ, 6, .inl (fun _ => 0))) ∧ C5 (0, 2) = some (.inl (cI, 150, .inl (fun _ => 0))) ∧ C5 (0, 3) = some (.inl (cI, 150, .inl (fun _ => 0))) ∧ C5 (0, 4) = some (.inl (cZ, 150, .inl (fun _ => 0))) ∧ C5 (0, 5) = some (.inl (cI, 150, .inl (fun _ => 0))) ∧ fr_ag [(0, 0), (0, 1), (0, 2), (0, 3), (0, 4), (0, 5), (0, 6), (0, 7), (0, 8), (0, 9)] C5 C ∧ b5 0 = b 0 ∧ ∀ i, 10 ≤ i → b5 i = b i := ⟨_, _, hE, rfl, f1, f2, f3, f4, rfl, fr_ag.up (fr_ag.up (fag) (by decide)) (by decide), fb0, fun i hi => (fr_ub_ne (by omega)).trans (fb i hi)⟩
  replace hl : lv_has ls 4 [(0, .ref (b5 0)), (1, .int page), (2, .int grains), (3, .int secs)] := by rw [fb0, ← fbo]; exact hl
  have fbo := fb0
  refine lv_aload_n hx hb d_X_init_48 rfl (lv_at hl 0 rfl) ?_
  refine lv_iconst (v := 0) hx hb d_X_init_49 (by decide) ?_
  refine fr_put (ci := 0) (v := .int 0) (ty := .int) (Cn := hR_0) (T := hF_0) (N := 16) hx hb hT hi_0 hy_0 ho_0 hn_0 hown hK hE hS (0, 0) rfl f0 rfl 8 (by decide) (hT _ kw_95) (fun _ h9 => h9) rfl (by decide +kernel) rfl rfl (Nat.le_of_ble_eq_true rfl) d_X_init_50 (fun H locs hE hS => ?_)
  refine lv_aload_n hx hb d_X_init_53 rfl (lv_at hl 0 rfl) ?_
  refine lv_iconst (v := 0) hx hb d_X_init_54 (by decide) ?_
  refine fr_put (ci := 0) (v := .int 0) (ty := .int) (Cn := hR_0) (T := hF_0) (N := 16) hx hb hT hi_0 hy_0 ho_0 hn_0 hown hK hE hS (0, 0) rfl rfl rfl 9 (by decide) (hT _ kw_96) (fun _ h9 => h9) rfl (by decide +kernel) rfl rfl (Nat.le_of_ble_eq_true rfl) d_X_init_55 (fun H locs hE hS => ?_)
  refine lv_aload_n hx hb d_X_init_58 rfl (lv_at hl 0 rfl) ?_
  refine lv_sipush (v := 150) hx hb d_X_init_59 (by decide) ?_
  refine fr_newa (atype := .int) (ty := .int) (a0 := (150, .inl (fun _ => 0))) hx hb (hT _ kw_74) rfl hK hE hS 6 0 rfl 150 (fun _ => rfl) (by decide) (by decide) (by decide) (Nat.le_of_ble_eq_true rfl) (Nat.le_of_ble_eq_true rfl) d_X_init_62 (fun q6 H nq6 hE hS => ?_)
  refine W.widen (k := 6) (n := 756) (Nat.le_of_ble_eq_true rfl) (by omega) ?_
  refine fr_putF (ci := 0) (v := .ref q6) (ty := (.array .int)) (Cn := hR_0) (T := hF_0) (N := 16) hx hb hT hi_0 hy_0 ho_0 hn_0 hown hK hE hS (0, 0) rfl rfl rfl 10 (by decide) (hT _ kw_97) (fun _ h9 => h9) rfl hin rfl (by decide +kernel) rfl rfl (Nat.le_of_ble_eq_true rfl) d_X_init_64 (fun H locs hE hS => ?_)
  obtain ⟨b6, C6, hE, f0, f1, f2, f3, f4, f5, f6, fag, fb0, fb⟩ : ∃ (b6 : Nat → Nat) (C6 : fr_C), fr_W D hCl z b6 C6 H ∧ C6 (0, 0) = some (.inr (0, [.int 0, .int 0, .int 0, .ref (b6 1), .ref (b6 2), .ref (b6 3), .ref (b6 4), .ref (b6 5), .int 0, .int 0, .ref (b6 6), .int 0, .null, .null, .null, .int 0])) ∧ C6 (0, 1) = some (.inl (cZ, 6, .inl (fun _ => 0))) ∧ C6 (0, 2) = some (.inl (cI, 150, .inl (fun _ => 0))) ∧ C6 (0, 3) = some (.inl (cI, 150, .inl (fun _ => 0))) ∧ C6 (0, 4) = some (.inl (cZ, 150, .inl (fun _ => 0))) ∧ C6 (0, 5) = some (.inl (cI, 150, .inl (fun _ => 0))) ∧ C6 (0, 6) = some (.inl (cI, 150, .inl (fun _ => 0))) ∧ fr_ag [(0, 0), (0, 1), (0, 2), (0, 3), (0, 4), (0, 5), (0, 6), (0, 7), (0, 8), (0, 9)] C6 C ∧ b6 0 = b 0 ∧ ∀ i, 10 ≤ i → b6 i = b i := ⟨_, _, hE, rfl, f1, f2, f3, f4, f5, rfl, fr_ag.up (fr_ag.up (fr_ag.up (fr_ag.up (fag) (by decide)) (by decide)) (by decide)) (by decide), fb0, fun i hi => (fr_ub_ne (by omega)).trans (fb i hi)⟩
  replace hl : lv_has ls 4 [(0, .ref (b6 0)), (1, .int page), (2, .int grains), (3, .int secs)] := by rw [fb0, ← fbo]; exact hl
  have fbo := fb0
  refine lv_aload_n hx hb d_X_init_67 rfl (lv_at hl 0 rfl) ?_
  refine lv_iconst (v := 0) hx hb d_X_init_68 (by decide) ?_
  refine fr_put (ci := 0) (v := .int 0) (ty := .int) (Cn := hR_0) (T := hF_0) (N := 16) hx hb hT hi_0 hy_0 ho_0 hn_0 hown hK hE hS (0, 0) rfl f0 rfl 11 (by decide) (hT _ kw_98) (fun _ h9 => h9) rfl (by decide +kernel) rfl rfl (Nat.le_of_ble_eq_true rfl) d_X_init_69 (fun H locs hE hS => ?_)
  refine lv_aload_n hx hb d_X_init_72 rfl (lv_at hl 0 rfl) ?_
  refine fr_new (ci := 4) (fs := [.null, .int 0, .int 0]) (Cn := hR_4) (T := hF_4) (N := 3) hx hb hT hi_4 hy_4 ho_4 hown (hT _ kw_47) (hT _ kw_48) (hT _ kw_24) hK hE hS 7 rfl (fun j hj => by rcases (show j = 0 ∨ j = 1 ∨ j = 2 by omega) with rfl | rfl | rfl <;> rfl) (Nat.le_of_ble_eq_true rfl) (Nat.le_of_ble_eq_true rfl) d_X_init_73 (fun q7 H nq7 hE hS => ?_)
  refine W.widen (k := 7) (n := 759) (Nat.le_of_ble_eq_true rfl) (Nat.le_of_ble_eq_true rfl) ?_
  refine lv_dup hx hb d_X_init_76 rfl ?_
  refine fr_callv (va_runI (As := []) (rest := [.ref q7, .ref (b6 0)]) ⟨hx, hb, hml, hown, hts⟩ (c_A_init l hE rfl) (cwI 0 hts (hw_good kw_51) rfl rfl rfl (hT _ kw_24) (hT _ kw_49) (hT _ kw_50) rfl (by decide +kernel) ⟨Nat.le_of_ble_eq_true rfl, Nat.le_of_ble_eq_true rfl⟩) ⟨fr_blindX, fr_preX hE hK hX hS⟩ rfl rfl hl.1 rfl (lv_room (Nat.le_of_ble_eq_true rfl)) d_X_init_77 ⟨Nat.le_of_ble_eq_true rfl, Nat.le_of_ble_eq_true rfl⟩) hS (fun u_1 H locs w_1 hE hS => ?_)
  rw [fr_up_up] at hE
  refine fr_putF (ci := 0) (v := .ref q7) (ty := (.object "java/util/ArrayList")) (Cn := hR_0) (T := hF_0) (N := 16) hx hb hT hi_0 hy_0 ho_0 hn_0 hown hK hE hS (0, 0) rfl rfl rfl 12 (by decide) (hT _ kw_99) (fun _ h9 => h9) rfl hin rfl (by decide +kernel) rfl rfl (Nat.le_of_ble_eq_true rfl) d_X_init_80 (fun H locs hE hS => ?_)
  obtain ⟨b7, C7, hE, f0, f1, f2, f3, f4, f5, f6, f7, fag, fb0, fb⟩ : ∃ (b7 : Nat → Nat) (C7 : fr_C), fr_W D hCl z b7 C7 H ∧ C7 (0, 0) = some (.inr (0, [.int 0, .int 0, .int 0, .ref (b7 1), .ref (b7 2), .ref (b7 3), .ref (b7 4), .ref (b7 5), .int 0, .int 0, .ref (b7 6), .int 0, .ref (b7 7), .null, .null, .int 0])) ∧ C7 (0, 1) = some (.inl (cZ, 6, .inl (fun _ => 0))) ∧ C7 (0, 2) = some (.inl (cI, 150, .inl (fun _ => 0))) ∧ C7 (0, 3) = some (.inl (cI, 150, .inl (fun _ => 0))) ∧ C7 (0, 4) = some (.inl (cZ, 150, .inl (fun _ => 0))) ∧ C7 (0, 5) = some (.inl (cI, 150, .inl (fun _ => 0))) ∧ C7 (0, 6) = some (.inl (cI, 150, .inl (fun _ => 0))) ∧ C7 (0, 7) = some (.inr (4, [.ref e0, .int 0, .int 0])) ∧ fr_ag [(0, 0), (0, 1), (0, 2), (0, 3), (0, 4), (0, 5), (0, 6), (0, 7), (0, 8), (0, 9)] C7 C ∧ b7 0 = b 0 ∧ ∀ i, 10 ≤ i → b7 i = b i := ⟨_, _, hE, rfl, f1, f2, f3, f4, f5, f6, rfl, fr_ag.up (fr_ag.up (fr_ag.up (fag) (by decide)) (by decide)) (by decide), fb0, fun i hi => (fr_ub_ne (by omega)).trans (fb i hi)⟩
  replace hl : lv_has ls 4 [(0, .ref (b7 0)), (1, .int page), (2, .int grains), (3, .int secs)] := by rw [fb0, ← fbo]; exact hl
  have fbo := fb0
  refine lv_aload_n hx hb d_X_init_83 rfl (lv_at hl 0 rfl) ?_
  refine lv_bipush (v := 10) hx hb d_X_init_84 (by decide) ?_
  refine fr_newq (Cn := "HarvestSteps$Page") hx hb hown (hT _ kw_75) (va_AO.use hX.2.2.2.1) hK hE hS 8 3 rfl 10 (by decide) (by decide) (by decide) (Nat.le_of_ble_eq_true rfl) (Nat.le_of_ble_eq_true rfl) d_X_init_86 (fun q8 H nq8 hE hS => ?_)
  refine W.widen (k := 8) (n := 769) (Nat.le_of_ble_eq_true rfl) (by omega) ?_
  refine fr_putF (ci := 0) (v := .ref q8) (ty := (.array (.object "HarvestSteps$Page"))) (Cn := hR_0) (T := hF_0) (N := 16) hx hb hT hi_0 hy_0 ho_0 hn_0 hown hK hE hS (0, 0) rfl f0 rfl 13 (by decide) (hT _ kw_100) (fun _ h9 => h9) rfl hin rfl (by decide +kernel) rfl rfl (Nat.le_of_ble_eq_true rfl) d_X_init_89 (fun H locs hE hS => ?_)
  obtain ⟨b8, C8, hE, f0, f1, f2, f3, f4, f5, f6, f7, f8, fag, fb0, fb⟩ : ∃ (b8 : Nat → Nat) (C8 : fr_C), fr_W D hCl z b8 C8 H ∧ C8 (0, 0) = some (.inr (0, [.int 0, .int 0, .int 0, .ref (b8 1), .ref (b8 2), .ref (b8 3), .ref (b8 4), .ref (b8 5), .int 0, .int 0, .ref (b8 6), .int 0, .ref (b8 7), .ref (b8 8), .null, .int 0])) ∧ C8 (0, 1) = some (.inl (cZ, 6, .inl (fun _ => 0))) ∧ C8 (0, 2) = some (.inl (cI, 150, .inl (fun _ => 0))) ∧ C8 (0, 3) = some (.inl (cI, 150, .inl (fun _ => 0))) ∧ C8 (0, 4) = some (.inl (cZ, 150, .inl (fun _ => 0))) ∧ C8 (0, 5) = some (.inl (cI, 150, .inl (fun _ => 0))) ∧ C8 (0, 6) = some (.inl (cI, 150, .inl (fun _ => 0))) ∧ C8 (0, 7) = some (.inr (4, [.ref e0, .int 0, .int 0])) ∧ C8 (0, 8) = some (.inl (cP, 10, .inr (.inr (.inr (.inr (fun _ => none)))))) ∧ fr_ag [(0, 0), (0, 1), (0, 2), (0, 3), (0, 4), (0, 5), (0, 6), (0, 7), (0, 8), (0, 9)] C8 C ∧ b8 0 = b 0 ∧ ∀ i, 10 ≤ i → b8 i = b i := ⟨_, _, hE, rfl, f1, f2, f3, f4, f5, f6, f7, rfl, fr_ag.up (fr_ag.up (fag) (by decide)) (by decide), fb0, fun i hi => (fr_ub_ne (by omega)).trans (fb i hi)⟩
  replace hl : lv_has ls 4 [(0, .ref (b8 0)), (1, .int page), (2, .int grains), (3, .int secs)] := by rw [fb0, ← fbo]; exact hl
  have fbo := fb0
  refine lv_aload_n hx hb d_X_init_92 rfl (lv_at hl 0 rfl) ?_
  refine lv_bipush (v := 10) hx hb d_X_init_93 (by decide) ?_
  refine fr_newa (atype := .int) (ty := .int) (a0 := (10, .inl (fun _ => 0))) hx hb (hT _ kw_74) rfl hK hE hS 9 0 rfl 10 (fun _ => rfl) (by decide) (by decide) (by decide) (Nat.le_of_ble_eq_true rfl) (Nat.le_of_ble_eq_true rfl) d_X_init_95 (fun q9 H nq9 hE hS => ?_)
  refine W.widen (k := 9) (n := 779) (Nat.le_of_ble_eq_true rfl) (by omega) ?_
  refine fr_putF (ci := 0) (v := .ref q9) (ty := (.array .int)) (Cn := hR_0) (T := hF_0) (N := 16) hx hb hT hi_0 hy_0 ho_0 hn_0 hown hK hE hS (0, 0) rfl f0 rfl 14 (by decide) (hT _ kw_101) (fun _ h9 => h9) rfl hin rfl (by decide +kernel) rfl rfl (Nat.le_of_ble_eq_true rfl) d_X_init_97 (fun H locs hE hS => ?_)
  refine lv_aload_n hx hb d_X_init_100 rfl (lv_at hl 0 rfl) ?_
  refine lv_iconst (v := 0) hx hb d_X_init_101 (by decide) ?_
  refine fr_put (ci := 0) (v := .int 0) (ty := .int) (Cn := hR_0) (T := hF_0) (N := 16) hx hb hT hi_0 hy_0 ho_0 hn_0 hown hK hE hS (0, 0) rfl rfl rfl 15 (by decide) (hT _ kw_102) (fun _ h9 => h9) rfl (by decide +kernel) rfl rfl (Nat.le_of_ble_eq_true rfl) d_X_init_102 (fun H locs hE hS => ?_)
  obtain ⟨b9, C9, hE, f0, f1, f2, f3, f4, f5, f6, f7, f8, f9, fag, fb0, fb⟩ : ∃ (b9 : Nat → Nat) (C9 : fr_C), fr_W D hCl z b9 C9 H ∧ C9 (0, 0) = some (.inr (0, [.int 0, .int 0, .int 0, .ref (b9 1), .ref (b9 2), .ref (b9 3), .ref (b9 4), .ref (b9 5), .int 0, .int 0, .ref (b9 6), .int 0, .ref (b9 7), .ref (b9 8), .ref (b9 9), .int 0])) ∧ C9 (0, 1) = some (.inl (cZ, 6, .inl (fun _ => 0))) ∧ C9 (0, 2) = some (.inl (cI, 150, .inl (fun _ => 0))) ∧ C9 (0, 3) = some (.inl (cI, 150, .inl (fun _ => 0))) ∧ C9 (0, 4) = some (.inl (cZ, 150, .inl (fun _ => 0))) ∧ C9 (0, 5) = some (.inl (cI, 150, .inl (fun _ => 0))) ∧ C9 (0, 6) = some (.inl (cI, 150, .inl (fun _ => 0))) ∧ C9 (0, 7) = some (.inr (4, [.ref e0, .int 0, .int 0])) ∧ C9 (0, 8) = some (.inl (cP, 10, .inr (.inr (.inr (.inr (fun _ => none)))))) ∧ C9 (0, 9) = some (.inl (cI, 10, .inl (fun _ => 0))) ∧ fr_ag [(0, 0), (0, 1), (0, 2), (0, 3), (0, 4), (0, 5), (0, 6), (0, 7), (0, 8), (0, 9)] C9 C ∧ b9 0 = b 0 ∧ ∀ i, 10 ≤ i → b9 i = b i := ⟨_, _, hE, rfl, f1, f2, f3, f4, f5, f6, f7, f8, rfl, fr_ag.up (fr_ag.up (fr_ag.up (fag) (by decide)) (by decide)) (by decide), fb0, fun i hi => (fr_ub_ne (by omega)).trans (fb i hi)⟩
  replace hl : lv_has ls 4 [(0, .ref (b9 0)), (1, .int page), (2, .int grains), (3, .int secs)] := by rw [fb0, ← fbo]; exact hl
  have fbo := fb0
  refine lv_aload_n hx hb d_X_init_105 rfl (lv_at hl 0 rfl) ?_
  refine lv_iload_n hx hb d_X_init_106 rfl (lv_at hl 1 rfl) ?_
  refine lv_iconst (v := 1) hx hb d_X_init_107 (by decide) ?_
  refine lv_bipush (v := 50) hx hb d_X_init_108 (by decide) ?_
  refine fr_calli (va_runS (As := [.int page, .int 1, .int 50]) (rest := [.ref (b9 0)]) ⟨hx, hb, hml, hown, hts⟩ (c_X_nearest l hE page 1 50 (by decide) (by decide) (by decide)) (va_cwS 3 hts (hw_goodS kw_77 kw_78 kw_21 kw_79) rfl rfl rfl (by decide +kernel) ⟨Nat.le_of_ble_eq_true rfl, Nat.le_of_ble_eq_true rfl⟩) ⟨fr_blind, fr_pre hE hK⟩ rfl rfl hl.1 rfl (lv_room (Nat.le_of_ble_eq_true rfl)) d_X_init_110 ⟨Nat.le_of_ble_eq_true rfl, Nat.le_of_ble_eq_true rfl⟩) hS (fun r_2 u_2 H locs w_2 hE hS => ?_)
  obtain rfl := w_2
  refine fr_putF (ci := 0) (v := .int (nI (clN page 1 50))) (ty := .int) (Cn := hR_0) (T := hF_0) (N := 16) hx hb hT hi_0 hy_0 ho_0 hn_0 hown hK hE hS (0, 0) rfl f0 rfl 0 (by decide) (hT _ kw_87) (fun _ h9 => h9) rfl hin rfl (by decide +kernel) rfl rfl (Nat.le_of_ble_eq_true rfl) d_X_init_113 (fun H locs hE hS => ?_)
  refine lv_aload_n hx hb d_X_init_116 rfl (lv_at hl 0 rfl) ?_
  refine lv_iload_n hx hb d_X_init_117 rfl (lv_at hl 2 rfl) ?_
  refine lv_iconst (v := 1) hx hb d_X_init_118 (by decide) ?_
  refine lv_bipush (v := 100) hx hb d_X_init_119 (by decide) ?_
  refine fr_calli (va_runS (As := [.int grains, .int 1, .int 100]) (rest := [.ref (b9 0)]) ⟨hx, hb, hml, hown, hts⟩ (c_X_nearest l hE grains 1 100 (by decide) (by decide) (by decide)) (va_cwS 3 hts (hw_goodS kw_77 kw_78 kw_21 kw_79) rfl rfl rfl (by decide +kernel) ⟨Nat.le_of_ble_eq_true rfl, Nat.le_of_ble_eq_true rfl⟩) ⟨fr_blind, fr_pre hE hK⟩ rfl rfl hl.1 rfl (lv_room (Nat.le_of_ble_eq_true rfl)) d_X_init_121 ⟨Nat.le_of_ble_eq_true rfl, Nat.le_of_ble_eq_true rfl⟩) hS (fun r_3 u_3 H locs w_3 hE hS => ?_)
  obtain rfl := w_3
  refine fr_putF (ci := 0) (v := .int (nI (clN grains 1 100))) (ty := .int) (Cn := hR_0) (T := hF_0) (N := 16) hx hb hT hi_0 hy_0 ho_0 hn_0 hown hK hE hS (0, 0) rfl rfl rfl 1 (by decide) (hT _ kw_88) (fun _ h9 => h9) rfl hin rfl (by decide +kernel) rfl rfl (Nat.le_of_ble_eq_true rfl) d_X_init_124 (fun H locs hE hS => ?_)
  refine lv_aload_n hx hb d_X_init_127 rfl (lv_at hl 0 rfl) ?_
  refine lv_iload_n hx hb d_X_init_128 rfl (lv_at hl 3 rfl) ?_
  refine lv_iconst (v := 0) hx hb d_X_init_129 (by decide) ?_
  refine lv_ldc (v := 1000000) hx hb hown (hT _ kw_86) d_X_init_130 ?_
  refine fr_calli (va_runS (As := [.int secs, .int 0, .int 1000000]) (rest := [.ref (b9 0)]) ⟨hx, hb, hml, hown, hts⟩ (c_X_nearest l hE secs 0 1000000 (by decide) (by decide) (by decide)) (va_cwS 3 hts (hw_goodS kw_77 kw_78 kw_21 kw_79) rfl rfl rfl (by decide +kernel) ⟨Nat.le_of_ble_eq_true rfl, Nat.le_of_ble_eq_true rfl⟩) ⟨fr_blind, fr_pre hE hK⟩ rfl rfl hl.1 rfl (lv_room (Nat.le_of_ble_eq_true rfl)) d_X_init_132 ⟨Nat.le_of_ble_eq_true rfl, Nat.le_of_ble_eq_true rfl⟩) hS (fun r_4 u_4 H locs w_4 hE hS => ?_)
  obtain rfl := w_4
  refine fr_putF (ci := 0) (v := .int (nI (clN secs 0 1000000))) (ty := .int) (Cn := hR_0) (T := hF_0) (N := 16) hx hb hT hi_0 hy_0 ho_0 hn_0 hown hK hE hS (0, 0) rfl rfl rfl 2 (by decide) (hT _ kw_89) (fun _ h9 => h9) rfl hin rfl (by decide +kernel) rfl rfl (Nat.le_of_ble_eq_true rfl) d_X_init_135 (fun H locs hE hS => ?_)
  refine W.widen (k := 9) (n := 779) (Nat.le_of_ble_eq_true rfl) (Nat.le_of_ble_eq_true rfl) ?_
  rw [fr_up_up, fr_up_up] at hE
  have hpost := hE.say (fun X => X (0, 0) = some (.inr (0, fX b9 (clN page 1 50) (clN grains 1 100) (clN secs 0 1000000) 0 0 0 0)) ∧ X (0, 1) = some (.inl (cZ, 6, .inl (fun _ => 0))) ∧ X (0, 2) = some (.inl (cI, 150, .inl (fun _ => 0))) ∧ X (0, 3) = some (.inl (cI, 150, .inl (fun _ => 0))) ∧ X (0, 4) = some (.inl (cZ, 150, .inl (fun _ => 0))) ∧ X (0, 5) = some (.inl (cI, 150, .inl (fun _ => 0))) ∧ X (0, 6) = some (.inl (cI, 150, .inl (fun _ => 0))) ∧ X (0, 7) = some (.inr (4, [.ref e0, .int 0, .int 0])) ∧ X (0, 8) = some (.inl (cP, 10, .inr (.inr (.inr (.inr (fun _ => none)))))) ∧ X (0, 9) = some (.inl (cI, 10, .inl (fun _ => 0))) ∧ fr_ag [(0, 0), (0, 1), (0, 2), (0, 3), (0, 4), (0, 5), (0, 6), (0, 7), (0, 8), (0, 9)] X C ∧ b9 0 = b 0 ∧ ∀ i, 10 ≤ i → b9 i = b i) ⟨rfl, f1, f2, f3, f4, f5, f6, f7, f8, f9, fag.up (by decide), fb0, fb⟩
  exact W.vret hx hb hr (fun t9 ht9 hW9 => ⟨⟨(b9, _), rfl, hpost, ⟨by rw [ht9]; exact hE, va_K.moved hW9.alike hK⟩⟩, hS.F ht9⟩) hS.2.2 d_X_init_138
