/-! THE WORLD BY ROLES. A role (0, i) is a cell under a fixed name, at the address b i; a role (1, a) is the cell at the address a. C says what each cell holds; z: all of them were made since the law began. -/
abbrev fr_C : Type := Nat × Nat → Option va_E
def fr_eq (x r : Nat × Nat) : Bool := Nat.beq x.1 r.1 && Nat.beq x.2 r.2
def fr_up (C : fr_C) (r : Nat × Nat) (e : va_E) : fr_C := fun x => bif fr_eq x r then some e else C x
def fr_rm (C : fr_C) (r : Nat × Nat) : fr_C := fun x => bif fr_eq x r then none else C x
def fr_ub (b : Nat → Nat) (i a : Nat) : Nat → Nat := fun j => bif Nat.beq j i then a else b j
def fr_ad (b : Nat → Nat) (r : Nat × Nat) : Nat := bif Nat.beq r.1 0 then b r.2 else r.2
def fr_A (z : Nat) : Nat → Prop := fun q => z ≤ q
theorem fr_eq_iff {x r : Nat × Nat} : fr_eq x r = true ↔ x = r := by
  obtain ⟨x1, x2⟩ := x
  obtain ⟨r1, r2⟩ := r
  simp [fr_eq, Bool.and_eq_true, Nat.beq_eq]
theorem fr_eq_ne {x r : Nat × Nat} (h : x ≠ r) : fr_eq x r = false := by
  cases h2 : fr_eq x r with
  | true => exact absurd (fr_eq_iff.mp h2) h
  | false => rfl
theorem fr_up_self (C : fr_C) (r : Nat × Nat) (e : va_E) : fr_up C r e r = some e := by
  have h : fr_eq r r = true := fr_eq_iff.mpr rfl
  unfold fr_up
  rw [h]
  rfl
theorem fr_up_ne {C : fr_C} {r x : Nat × Nat} {e : va_E} (h : x ≠ r) : fr_up C r e x = C x := by
  unfold fr_up
  rw [fr_eq_ne h]
  rfl
theorem fr_rm_self (C : fr_C) (r : Nat × Nat) : fr_rm C r r = none := by
  have h : fr_eq r r = true := fr_eq_iff.mpr rfl
  unfold fr_rm
  rw [h]
  rfl
theorem fr_rm_ne {C : fr_C} {r x : Nat × Nat} (h : x ≠ r) : fr_rm C r x = C x := by
  unfold fr_rm
  rw [fr_eq_ne h]
  rfl
theorem fr_ub_self (b : Nat → Nat) (i a : Nat) : fr_ub b i a i = a := by
  have h : Nat.beq i i = true := Nat.beq_refl i
  unfold fr_ub
  rw [h]
  rfl
theorem fr_ub_ne {b : Nat → Nat} {i a j : Nat} (h : j ≠ i) : fr_ub b i a j = b j := by
  have h1 : Nat.beq j i = false := by
    cases h2 : Nat.beq j i with
    | true => exact absurd (Nat.eq_of_beq_eq_true h2) h
    | false => rfl
  unfold fr_ub
  rw [h1]
  rfl
theorem fr_ad_0 (b : Nat → Nat) (i : Nat) : fr_ad b (0, i) = b i := rfl
theorem fr_ad_1 (b : Nat → Nat) (a : Nat) : fr_ad b (1, a) = a := rfl
theorem fr_ad_ub {b : Nat → Nat} {i a : Nat} {x : Nat × Nat} (h : x ≠ (0, i)) : fr_ad (fr_ub b i a) x = fr_ad b x := by
  obtain ⟨x1, x2⟩ := x
  by_cases h0 : x1 = 0
  · subst h0
    show fr_ub b i a x2 = b x2
    exact fr_ub_ne (fun q => h (by rw [q]))
  · have h1 : Nat.beq x1 0 = false := by
      cases h2 : Nat.beq x1 0 with
      | true => exact absurd (Nat.eq_of_beq_eq_true h2) h0
      | false => rfl
    unfold fr_ad
    rw [h1]
    rfl
def fr_W (D : va_G) (cl : List vw_C) (z : Nat) (b : Nat → Nat) (C : fr_C) (H : Heap) : Prop :=
  z ≤ H.size ∧ (∀ r e, C r = some e → va_at D cl (fr_ad b r, e) H ∧ z ≤ fr_ad b r) ∧ ∀ r r' e e', C r = some e → C r' = some e' → fr_ad b r = fr_ad b r' → r = r'
theorem fr_W.P {D : va_G} {cl : List vw_C} {z : Nat} {b : Nat → Nat} {C : fr_C} {H : Heap} (h : fr_W D cl z b C H) {r : Nat × Nat} {e : va_E} (he : C r = some e) : va_P D cl [(fr_ad b r, e)] H := by
  intro k q hk
  match k, hk with
  | 0, hk => cases hk; exact (h.2.1 r e he).1
  | k + 1, hk => simp at hk
theorem fr_W.lt {D : va_G} {cl : List vw_C} {z : Nat} {b : Nat → Nat} {C : fr_C} {H : Heap} (h : fr_W D cl z b C H) {r : Nat × Nat} {e : va_E} (he : C r = some e) : fr_ad b r < H.size := (h.2.1 r e he).1.lt
/-- a cell is written -/
theorem fr_W.set {D : va_G} {cl : List vw_C} {z : Nat} {b : Nat → Nat} {C : fr_C} {H H1 : Heap} {r : Nat × Nat} {e0 e : va_E} (h : fr_W D cl z b C H) (he : C r = some e0) (h1 : va_at D cl (fr_ad b r, e) H1) (hz : H1.size = H.size) (oq : ∀ q : Nat, q ≠ fr_ad b r → H1[q]? = H[q]?) : fr_W D cl z b (fr_up C r e) H1 := by
  refine ⟨by rw [hz]; exact h.1, fun x y hx => ?_, fun x y ex ey hx hy hxy => ?_⟩
  · by_cases hr : x = r
    · subst hr
      rw [fr_up_self] at hx
      cases hx
      exact ⟨h1, (h.2.1 _ _ he).2⟩
    · rw [fr_up_ne hr] at hx
      exact ⟨(h.2.1 x y hx).1.kept (oq _ (fun q => hr (h.2.2 _ _ _ _ hx he q))), (h.2.1 x y hx).2⟩
  · have key : ∀ w ew, fr_up C r e w = some ew → ∃ e', C w = some e' := by
      intro w ew hw
      by_cases hr : w = r
      · subst hr
        exact ⟨_, he⟩
      · rw [fr_up_ne hr] at hw
        exact ⟨_, hw⟩
    obtain ⟨e1, g1⟩ := key x ex hx
    obtain ⟨e2, g2⟩ := key y ey hy
    exact h.2.2 x y e1 e2 g1 g2 hxy
/-- a cell is made, under the name i -/
theorem fr_W.new {D : va_G} {cl : List vw_C} {z : Nat} {b : Nat → Nat} {C : fr_C} {H H1 : Heap} (i : Nat) {e : va_E} (h : fr_W D cl z b C H) (h1 : va_at D cl (H.size, e) H1) (hz : H.size ≤ H1.size) (oq : ∀ q : Nat, q < H.size → H1[q]? = H[q]?) : fr_W D cl z (fr_ub b i H.size) (fr_up C (0, i) e) H1 := by
  have hs : fr_ad (fr_ub b i H.size) (0, i) = H.size := fr_ub_self b i H.size
  refine ⟨Nat.le_trans h.1 hz, fun x y hx => ?_, fun x y ex ey hx hy hxy => ?_⟩
  · by_cases hr : x = (0, i)
    · subst hr
      rw [fr_up_self] at hx
      cases hx
      rw [hs]
      exact ⟨h1, h.1⟩
    · rw [fr_up_ne hr] at hx
      rw [fr_ad_ub hr]
      exact ⟨(h.2.1 x y hx).1.kept (oq _ (h.lt hx)), (h.2.1 x y hx).2⟩
  · by_cases hr : x = (0, i)
    · by_cases hq : y = (0, i)
      · rw [hr, hq]
      · rw [fr_up_ne hq] at hy
        rw [hr, hs, fr_ad_ub hq] at hxy
        have := h.lt hy
        omega
    · rw [fr_up_ne hr] at hx
      by_cases hq : y = (0, i)
      · rw [hq, hs, fr_ad_ub hr] at hxy
        have := h.lt hx
        omega
      · rw [fr_up_ne hq] at hy
        rw [fr_ad_ub hr, fr_ad_ub hq] at hxy
        exact h.2.2 x y ex ey hx hy hxy
/-- a named cell goes into the pool, under its address -/
theorem fr_W.retire {D : va_G} {cl : List vw_C} {z : Nat} {b : Nat → Nat} {C : fr_C} {H : Heap} (i : Nat) {e : va_E} (h : fr_W D cl z b C H) (he : C (0, i) = some e) : fr_W D cl z b (fr_up (fr_rm C (0, i)) (1, b i) e) H := by
  have hn : ∀ x y, x ≠ (1, b i) → fr_up (fr_rm C (0, i)) (1, b i) e x = some y → C x = some y ∧ x ≠ (0, i) := by
    intro x y hx hy
    rw [fr_up_ne hx] at hy
    by_cases hr : x = (0, i)
    · rw [hr, fr_rm_self] at hy
      cases hy
    · rw [fr_rm_ne hr] at hy
      exact ⟨hy, hr⟩
  refine ⟨h.1, fun x y hx => ?_, fun x y ex ey hx hy hxy => ?_⟩
  · by_cases hr : x = (1, b i)
    · subst hr
      rw [fr_up_self] at hx
      cases hx
      exact (show va_at D cl (fr_ad b (1, b i), e) H ∧ z ≤ fr_ad b (1, b i) from h.2.1 (0, i) _ he)
    · exact h.2.1 x y (hn x y hr hx).1
  · by_cases hr : x = (1, b i)
    · by_cases hq : y = (1, b i)
      · rw [hr, hq]
      · obtain ⟨g1, g2⟩ := hn y ey hq hy
        rw [hr] at hxy
        exact absurd (h.2.2 _ _ _ _ he g1 hxy).symm g2
    · obtain ⟨g1, g2⟩ := hn x ex hr hx
      by_cases hq : y = (1, b i)
      · rw [hq] at hxy
        exact absurd (h.2.2 _ _ _ _ g1 he hxy) g2
      · exact h.2.2 x y ex ey g1 (hn y ey hq hy).1 hxy
/-- cells may be forgotten, and contents named otherwise -/
theorem fr_W.less {D : va_G} {cl : List vw_C} {z : Nat} {b : Nat → Nat} {C C' : fr_C} {H : Heap} (h : fr_W D cl z b C H) (hC : ∀ r e, C' r = some e → C r = some e) : fr_W D cl z b C' H :=
  ⟨h.1, fun r e hr => h.2.1 r e (hC r e hr), fun r r' e e' h1 h2 h3 => h.2.2 r r' e e' (hC _ _ h1) (hC _ _ h2) h3⟩
/-- a fresh address is no pool cell's -/
theorem fr_W.fresh {D : va_G} {cl : List vw_C} {z : Nat} {b : Nat → Nat} {C : fr_C} {H : Heap} (h : fr_W D cl z b C H) : C (1, H.size) = none := by
  cases hc : C (1, H.size) with
  | none => rfl
  | some e => exact absurd (h.lt hc) (by rw [fr_ad_1]; omega)
def fr_G (D : va_G) (cl : List vw_C) (tys : List (ClassId × FieldType)) (z : Nat) (b : Nat → Nat) (C : fr_C) (U : State) : Prop := fr_W D cl z b C U.heap ∧ va_K D cl tys U
theorem fr_blind {av : List Value} {D : va_G} {cl : List vw_C} {tys : List (ClassId × FieldType)} {z : Nat} {b : Nat → Nat} {C : fr_C} : FrameBlind (va_Pc av (fr_G D cl tys z b C)) :=
  fun a U g mk q => ⟨q.1, q.2.1, va_K.moved (u := U) (U := U.calling g mk a) (Vm.Alike.refl U.vm) q.2.2⟩
theorem fr_pre {av : List Value} {D : va_G} {cl : List vw_C} {tys : List (ClassId × FieldType)} {z : Nat} {b : Nat → Nat} {C : fr_C} {H : Heap} {s : State} (hE : fr_W D cl z b C H) (hK : va_K D cl tys s) : ∀ U : State, U.heap = H → s.WarmedH U.vm → va_Pc av (fr_G D cl tys z b C) av.toArray U :=
  fun U hU hW => ⟨rfl, by rw [hU]; exact hE, va_K.moved hW.alike hK⟩
theorem fr_put_S {z : Nat} {H0 H H1 : Heap} {locs : List Loc} {a k : Nat} (h : va_S (fr_A z) H0 H locs) (hz : H1.size = H.size) (oq : ∀ q : Nat, q ≠ a → H1[q]? = H[q]?) (ha : z ≤ a) : va_S (fr_A z) H0 H1 (locs ++ [⟨a, k⟩]) := h.put hz oq ha
theorem fr_new_S {z : Nat} {H0 H H1 : Heap} {locs : List Loc} (h : va_S (fr_A z) H0 H locs) (hz : H.size ≤ H1.size) (oq : ∀ q : Nat, q < H.size → H1[q]? = H[q]?) : va_S (fr_A z) H0 H1 locs :=
  ⟨Nat.le_trans h.1 hz, fun x h1 h2 => (oq x (Nat.lt_of_lt_of_le h1 h.1)).trans (h.2.1 x h1 h2), h.2.2⟩
theorem fr_recv {s : State} {H : Heap} {D : va_G} {cl : List vw_C} {z : Nat} {b : Nat → Nat} {C : fr_C} {a ci : Nat} {q : vw_C} {fs : List Value} {tys : List (ClassId × FieldType)} (hK : va_K D cl tys s) (hE : fr_W D cl z b C H) (r : Nat × Nat) (ha : fr_ad b r = a) (he : C r = some (.inr (ci, fs))) (hc : cl[ci]? = some q) : ∃ cell : Cell, H[a]? = some cell ∧ cell.vm.isStatics = false ∧ s.vm.findClass q.1 = some cell.cls := by
  subst ha
  exact va_recv hK (hE.P he) hc (q0 := 0) rfl
section FRW
variable {p : Program} {l : Launch} {e : Env} {R : Room} {s : State} {m : MethodId} {args : Array Value} {below : List Frame} {meth : Method} {c : Code} {H : Heap} {locs : List Loc} {cells slots : Nat} {Q : State → Prop}
variable {cc : ByteArray} {pc : Nat} {ls : Array Slot} {rest : List Value} {D : va_G} {cl : List vw_C} {a : Nat} {tys : List (ClassId × FieldType)} {H0 : Heap} {z : Nat} {b : Nat → Nat} {C : fr_C}
theorem fr_get (hexec : p.tables.exec = Jvm.exec) (hb : c.code = cc) {own ref Cn : String} {T : u_T} {N ci index : Nat} {Ts : List Cond} (hts : ∀ w ∈ Ts, w.before args s = true) (hin : ∀ w ∈ u_ws Cn T N, w ∈ Ts) (hown : s.vm.findClass own = some m.cls) (hK : va_K D cl tys s) (hE : fr_W D cl z b C H) (r : Nat × Nat) (ha : fr_ad b r = a) {fs : List Value} (he : C r = some (.inr (ci, fs))) (hc : cl[ci]? = some (Cn, T, N)) (k : Nat) (hk : k < N) (hlink : (Cond.fieldLink own index ref (T k).2.1 (T k).2.2.1).before args s = true) (hsame : ∀ x, s.fieldFound? (T k).1 (T k).2.1 (T k).2.2.1 = some x → s.fieldFound? ref (T k).2.1 (T k).2.2.1 = some x) {v : Value} (hv : fs[k]? = some v) (hdg : decode cc pc = .ok (.getfield index, 3))
    (kk : W p l e R s m args below meth c H locs cells slots Q (F0 m (pc + 3) ls (v :: rest))) : W p l e R s m args below meth c H locs cells slots Q (F0 m pc ls (.ref a :: rest)) := by
  subst ha
  exact va_get hexec hb hts hin hown hK (hE.P he) 0 rfl hc k hk hlink hsame hv hdg kk
theorem fr_put (hexec : p.tables.exec = Jvm.exec) (hb : c.code = cc) {own ref Cn : String} {T : u_T} {N ci index : Nat} {Ts : List Cond} (hts : ∀ w ∈ Ts, w.before args s = true) (hin : ∀ w ∈ u_ws Cn T N, w ∈ Ts) (ty0 : Nat → FieldType) (hty : ∀ k, k < N → parseFieldDescriptor (T k).2.2.1 = some (ty0 k)) (hnm : ∀ a, a < N → ∀ b, b < N → a ≠ b → (T a).2.1 ≠ (T b).2.1) (hown : s.vm.findClass own = some m.cls) (hK : va_K D cl tys s) (hE : fr_W D cl z b C H) (hS0 : va_S (fr_A z) H0 H locs) (r : Nat × Nat) (ha : fr_ad b r = a) {fs : List Value} (he : C r = some (.inr (ci, fs))) (hc : cl[ci]? = some (Cn, T, N)) (k : Nat) (hk : k < N) (hlink : (Cond.fieldLink own index ref (T k).2.1 (T k).2.2.1).before args s = true) (hsame : ∀ x, s.fieldFound? (T k).1 (T k).2.1 (T k).2.2.1 = some x → s.fieldFound? ref (T k).2.1 (T k).2.2.1 = some x) (hfin : (T k).2.2.2 = false) {ty : FieldType} {v : Value} (hd : parseFieldDescriptor (T k).2.2.1 = some ty) (hn : narrow ty v = v) (hfit : fits ty v = true) (hl : k < fs.length)
    (hdg : decode cc pc = .ok (.putfield index, 3)) (kk : ∀ (H1 : Heap) (locs1 : List Loc), fr_W D cl z b (fr_up C r (.inr (ci, fs.set k v))) H1 → va_S (fr_A z) H0 H1 locs1 → W p l e R s m args below meth c H1 locs1 cells slots Q (F0 m (pc + 3) ls rest)) : W p l e R s m args below meth c H locs cells slots Q (F0 m pc ls (v :: .ref a :: rest)) := by
  subst ha
  have hap := va_apart (own := own) hts hin ty0 hty hnm hK hc
  obtain ⟨⟨r9, h1, cell, q1, q2, q3, q4⟩, hz9⟩ := hE.2.1 r _ he
  have hr : r9 = (Cn, T, N) := Option.some.inj (h1.symm.trans hc)
  subst hr
  obtain ⟨hS, hfc, kC, hkC, hkind⟩ := hK.1 ci _ hc
  obtain ⟨cf, kf, fi, f, hi, hsl⟩ := hS k hk
  have hlay := hts _ (hin _ (u_in_lay hk))
  unfold u_lay at hlay
  rw [if_neg (by rw [hfin]; decide)] at hlay
  have hst := (u_facts hfc hkC (u_lays hts hin hk) hi).1
  have h6 := u_store hfc hkC hkind hlay hi hd hn hfit
  refine W.putK hexec hb (f := f) ⟨hown, hlink, ⟨_, _, _, hsame _ hi⟩, hst⟩ (by rw [q2]; exact h6) q1 q3 (by rw [hsl]; exact k2_hasslot (q4 k hk)) rfl rfl hdg fun H' e1 e2 e3 => ?_
  rw [hsl] at e1 ⊢
  exact kk H' _ (hE.set he ⟨_, hc, t_OB.to (V := updV (vp_V fs) k v) ⟨_, e1, q2, q3, t_set q4 hap hk v⟩ (fun j _ => vp_updV_set hl v j)⟩ e2 e3) (fr_put_S hS0 e2 e3 hz9)
theorem fr_putF (hexec : p.tables.exec = Jvm.exec) (hb : c.code = cc) {own ref Cn : String} {T : u_T} {N ci index : Nat} {Ts : List Cond} (hts : ∀ w ∈ Ts, w.before args s = true) (hin : ∀ w ∈ u_ws Cn T N, w ∈ Ts) (ty0 : Nat → FieldType) (hty : ∀ k, k < N → parseFieldDescriptor (T k).2.2.1 = some (ty0 k)) (hnm : ∀ a, a < N → ∀ b, b < N → a ≠ b → (T a).2.1 ≠ (T b).2.1) (hown : s.vm.findClass own = some m.cls) (hK : va_K D cl tys s) (hE : fr_W D cl z b C H) (hS0 : va_S (fr_A z) H0 H locs) (r : Nat × Nat) (ha : fr_ad b r = a) {fs : List Value} (he : C r = some (.inr (ci, fs))) (hc : cl[ci]? = some (Cn, T, N)) (k : Nat) (hk : k < N) (hlink : (Cond.fieldLink own index ref (T k).2.1 (T k).2.2.1).before args s = true) (hsame : ∀ x, s.fieldFound? (T k).1 (T k).2.1 (T k).2.2.1 = some x → s.fieldFound? ref (T k).2.1 (T k).2.2.1 = some x) (hfin : (T k).2.2.2 = true) (hin2 : meth.name = "<init>") (hdecl : (T k).1 = own) {ty : FieldType} {v : Value} (hd : parseFieldDescriptor (T k).2.2.1 = some ty) (hn : narrow ty v = v) (hfit : fits ty v = true) (hl : k < fs.length)
    (hdg : decode cc pc = .ok (.putfield index, 3)) (kk : ∀ (H1 : Heap) (locs1 : List Loc), fr_W D cl z b (fr_up C r (.inr (ci, fs.set k v))) H1 → va_S (fr_A z) H0 H1 locs1 → W p l e R s m args below meth c H1 locs1 cells slots Q (F0 m (pc + 3) ls rest)) : W p l e R s m args below meth c H locs cells slots Q (F0 m pc ls (v :: .ref a :: rest)) := by
  subst ha
  have hap := va_apart (own := own) hts hin ty0 hty hnm hK hc
  obtain ⟨⟨r9, h1, cell, q1, q2, q3, q4⟩, hz9⟩ := hE.2.1 r _ he
  have hr : r9 = (Cn, T, N) := Option.some.inj (h1.symm.trans hc)
  subst hr
  obtain ⟨hS, hfc, kC, hkC, hkind⟩ := hK.1 ci _ hc
  obtain ⟨cf, kf, fi, f, hi, hsl⟩ := hS k hk
  have hlay := hts _ (hin _ (u_in_lay hk))
  unfold u_lay at hlay
  rw [if_pos hfin] at hlay
  have hst := (u_facts hfc hkC (u_lays hts hin hk) hi).1
  have hcf : m.cls = cf := by
    obtain ⟨_, _, c', _, _, _, -, -, hf', -, -, -, hown2, -⟩ := Cond.laysFinal_spec hlay
    have e1 : c' = cf := by have := hi.symm.trans hf'; simp at this; exact this.1.symm
    rw [hdecl] at hown2
    rw [← e1]; exact Option.some.inj (hown.symm.trans hown2)
  have h6 := u_fits hfc hkC hkind (Or.inr hlay) hi hd hn hfit
  refine W.putFinK hexec hb hown hlink (hsame _ hi) hst hcf hin2 (by rw [q2]; exact h6) q1 q3 (by rw [hsl]; exact k2_hasslot (q4 k hk)) rfl rfl hdg fun H' e1 e2 e3 => ?_
  rw [hsl] at e1 ⊢
  exact kk H' _ (hE.set he ⟨_, hc, t_OB.to (V := updV (vp_V fs) k v) ⟨_, e1, q2, q3, t_set q4 hap hk v⟩ (fun j _ => vp_updV_set hl v j)⟩ e2 e3) (fr_put_S hS0 e2 e3 hz9)
theorem fr_iald (hexec : p.tables.exec = Jvm.exec) (hb : c.code = cc) (hK : va_K D cl tys s) (hE : fr_W D cl z b C H) (r : Nat × Nat) (t0 : Nat) (ha : fr_ad b r = a) {cA : ClassId} {n : Nat} {f : Nat → Int32} (he : C r = some (.inl (cA, n, .inl f))) (ht : tys[t0]? = some (cA, .int)) {i : Int32} (j : Nat) (hi : i = nI j) (hj : j < n) (hn : n < 2 ^ 31) (hdg : decode cc pc = .ok (.iaload, 1))
    (kk : W p l e R s m args below meth c H locs cells slots Q (F0 m (pc + 1) ls (.int (f j) :: rest))) : W p l e R s m args below meth c H locs cells slots Q (F0 m pc ls (.int i :: .ref a :: rest)) := by
  subst ha
  subst hi
  refine va_iald hexec hb hK (hE.P he) 0 t0 rfl ht (vp_in_nI hj hn) hdg ?_
  rw [nI_clamp (by omega)]
  exact kk
theorem fr_zald (hexec : p.tables.exec = Jvm.exec) (hb : c.code = cc) (hK : va_K D cl tys s) (hE : fr_W D cl z b C H) (r : Nat × Nat) (t0 : Nat) (ha : fr_ad b r = a) {cA : ClassId} {n : Nat} {f : Nat → Int32} (he : C r = some (.inl (cA, n, .inl f))) (ht : tys[t0]? = some (cA, .boolean)) {i : Int32} (j : Nat) (hi : i = nI j) (hj : j < n) (hn : n < 2 ^ 31) (hdg : decode cc pc = .ok (.baload, 1))
    (kk : W p l e R s m args below meth c H locs cells slots Q (F0 m (pc + 1) ls (.int (f j) :: rest))) : W p l e R s m args below meth c H locs cells slots Q (F0 m pc ls (.int i :: .ref a :: rest)) := by
  subst ha
  subst hi
  refine va_zald hexec hb hK (hE.P he) 0 t0 rfl ht (vp_in_nI hj hn) hdg ?_
  rw [nI_clamp (by omega)]
  exact kk
theorem fr_aald (hexec : p.tables.exec = Jvm.exec) (hb : c.code = cc) (hK : va_K D cl tys s) (hE : fr_W D cl z b C H) (r : Nat × Nat) (t0 : Nat) (ha : fr_ad b r = a) {cA : ClassId} {Cn : String} {n : Nat} {f : Nat → Option Nat} (he : C r = some (.inl (cA, n, .inr (.inr (.inr (.inr f)))))) (ht : tys[t0]? = some (cA, .object Cn)) {i : Int32} (j : Nat) (hi : i = nI j) (hj : j < n) (hn : n < 2 ^ 31) (hdg : decode cc pc = .ok (.aaload, 1))
    (kk : W p l e R s m args below meth c H locs cells slots Q (F0 m (pc + 1) ls (va_rf (f j) :: rest))) : W p l e R s m args below meth c H locs cells slots Q (F0 m pc ls (.int i :: .ref a :: rest)) := by
  subst ha
  subst hi
  refine va_aldq hexec hb hK (hE.P he) 0 t0 rfl ht (vp_in_nI hj hn) hdg ?_
  rw [nI_clamp (by omega)]
  exact kk
theorem fr_lald (hexec : p.tables.exec = Jvm.exec) (hb : c.code = cc) (hK : va_K D cl tys s) (hE : fr_W D cl z b C H) (r : Nat × Nat) (t0 : Nat) (ha : fr_ad b r = a) {cA : ClassId} {n : Nat} {f : Nat → Int64} (he : C r = some (.inl (cA, n, .inr (.inl f)))) (ht : tys[t0]? = some (cA, .long)) {i : Int32} (j : Nat) (hi : i = nI j) (hj : j < n) (hn : n < 2 ^ 31) (hdg : decode cc pc = .ok (.laload, 1))
    (kk : W p l e R s m args below meth c H locs cells slots Q (F0 m (pc + 1) ls (.long (f j) :: rest))) : W p l e R s m args below meth c H locs cells slots Q (F0 m pc ls (.int i :: .ref a :: rest)) := by
  subst ha
  subst hi
  refine va_lald hexec hb hK (hE.P he) 0 t0 rfl ht (vp_in_nI hj hn) hdg ?_
  rw [nI_clamp (by omega)]
  exact kk
theorem fr_alen (hexec : p.tables.exec = Jvm.exec) (hb : c.code = cc) (hK : va_K D cl tys s) (hE : fr_W D cl z b C H) (r : Nat × Nat) (t0 : Nat) (ha : fr_ad b r = a) {cA : ClassId} {x : vp_A} (he : C r = some (.inl (cA, x))) {ty : FieldType} (ht : tys[t0]? = some (cA, ty)) (hdg : decode cc pc = .ok (.arraylength, 1))
    (kk : W p l e R s m args below meth c H locs cells slots Q (F0 m (pc + 1) ls (.int (nI x.1) :: rest))) : W p l e R s m args below meth c H locs cells slots Q (F0 m pc ls (.ref a :: rest)) := by
  subst ha
  exact va_alen hexec hb hK (hE.P he) 0 t0 rfl ht rfl hdg kk
theorem fr_iast (hexec : p.tables.exec = Jvm.exec) (hb : c.code = cc) (hK : va_K D cl tys s) (hE : fr_W D cl z b C H) (hS : va_S (fr_A z) H0 H locs) (r : Nat × Nat) (t0 : Nat) (ha : fr_ad b r = a) {cA : ClassId} {n : Nat} {f : Nat → Int32} (he : C r = some (.inl (cA, n, .inl f))) (ht : tys[t0]? = some (cA, .int)) {i : Int32} {x : Int32} (j : Nat) (hi : i = nI j) (hj : j < n) (hn : n < 2 ^ 31) (hdg : decode cc pc = .ok (.iastore, 1))
    (kk : ∀ (H1 : Heap) (locs1 : List Loc), fr_W D cl z b (fr_up C r (.inl (cA, n, .inl (upd f j x)))) H1 → va_S (fr_A z) H0 H1 locs1 → W p l e R s m args below meth c H1 locs1 cells slots Q (F0 m (pc + 1) ls rest)) : W p l e R s m args below meth c H locs cells slots Q (F0 m pc ls (.int x :: .int i :: .ref a :: rest)) := by
  subst ha
  subst hi
  have hin := vp_in_nI hj hn
  have hcl : (nI j).toNatClampNeg = j := nI_clamp (by omega)
  refine W.iast hexec hb (hE.2.1 r _ he).1 ((hK.2 t0 _ ht).1 n (fun j => .int (f j))) (fun q => by cases q) (by show ¬ (nI j < 0 ∨ (arrV _ _ _).slots.size ≤ _); rw [arrV_size]; exact hin) rfl rfl hdg fun H1 e z oq => ?_
  refine kk H1 _ (hE.set he ?_ z oq) (fr_put_S hS z oq (hE.2.1 r _ he).2)
  show H1[fr_ad b r]? = some (vp_cell _ _)
  rw [e]
  rw [vp_cell_i, vp_cell_i, arrV_store, hcl]
  congr 2
  funext q
  by_cases hq : q = j
  · subst hq
    simp [updV, upd]
  · simp [updV, upd, hq]
theorem fr_zast (hexec : p.tables.exec = Jvm.exec) (hb : c.code = cc) (hK : va_K D cl tys s) (hE : fr_W D cl z b C H) (hS : va_S (fr_A z) H0 H locs) (r : Nat × Nat) (t0 : Nat) (ha : fr_ad b r = a) {cA : ClassId} {n : Nat} {f : Nat → Int32} (he : C r = some (.inl (cA, n, .inl f))) (ht : tys[t0]? = some (cA, .boolean)) {i : Int32} {x : Int32} (j : Nat) (hi : i = nI j) (hj : j < n) (hn : n < 2 ^ 31) (x' : Int32) (hx' : vp_nar .boolean x = x') (hdg : decode cc pc = .ok (.bastore, 1))
    (kk : ∀ (H1 : Heap) (locs1 : List Loc), fr_W D cl z b (fr_up C r (.inl (cA, n, .inl (upd f j x')))) H1 → va_S (fr_A z) H0 H1 locs1 → W p l e R s m args below meth c H1 locs1 cells slots Q (F0 m (pc + 1) ls rest)) : W p l e R s m args below meth c H locs cells slots Q (F0 m pc ls (.int x :: .int i :: .ref a :: rest)) := by
  subst ha
  subst hi
  subst hx'
  have hin := vp_in_nI hj hn
  have hcl : (nI j).toNatClampNeg = j := nI_clamp (by omega)
  refine W.zast hexec hb (hE.2.1 r _ he).1 ((hK.2 t0 _ ht).1 n (fun j => .int (f j))) (fun q => by cases q) (by show ¬ (nI j < 0 ∨ (arrV _ _ _).slots.size ≤ _); rw [arrV_size]; exact hin) rfl rfl hdg fun H1 e z oq => ?_
  refine kk H1 _ (hE.set he ?_ z oq) (fr_put_S hS z oq (hE.2.1 r _ he).2)
  show H1[fr_ad b r]? = some (vp_cell _ _)
  rw [e]
  rw [vp_cell_i, vp_cell_i, arrV_store, hcl]
  congr 2
  funext q
  by_cases hq : q = j
  · subst hq
    simp [updV, upd, vp_nar]
    try rfl
  · simp [updV, upd, hq]
theorem fr_last (hexec : p.tables.exec = Jvm.exec) (hb : c.code = cc) (hK : va_K D cl tys s) (hE : fr_W D cl z b C H) (hS : va_S (fr_A z) H0 H locs) (r : Nat × Nat) (t0 : Nat) (ha : fr_ad b r = a) {cA : ClassId} {n : Nat} {f : Nat → Int64} (he : C r = some (.inl (cA, n, .inr (.inl f)))) (ht : tys[t0]? = some (cA, .long)) {i : Int32} {x : Int64} (j : Nat) (hi : i = nI j) (hj : j < n) (hn : n < 2 ^ 31) (hdg : decode cc pc = .ok (.lastore, 1))
    (kk : ∀ (H1 : Heap) (locs1 : List Loc), fr_W D cl z b (fr_up C r (.inl (cA, n, .inr (.inl (vp_updL f j x))))) H1 → va_S (fr_A z) H0 H1 locs1 → W p l e R s m args below meth c H1 locs1 cells slots Q (F0 m (pc + 1) ls rest)) : W p l e R s m args below meth c H locs cells slots Q (F0 m pc ls (.long x :: .int i :: .ref a :: rest)) := by
  subst ha
  subst hi
  have hin := vp_in_nI hj hn
  have hcl : (nI j).toNatClampNeg = j := nI_clamp (by omega)
  refine W.last hexec hb (hE.2.1 r _ he).1 ((hK.2 t0 _ ht).1 n (fun j => .long (f j))) (fun q => by cases q) (by show ¬ (nI j < 0 ∨ (arrV _ _ _).slots.size ≤ _); rw [arrV_size]; exact hin) rfl rfl hdg fun H1 e z oq => ?_
  refine kk H1 _ (hE.set he ?_ z oq) (fr_put_S hS z oq (hE.2.1 r _ he).2)
  show H1[fr_ad b r]? = some (vp_cell _ _)
  rw [e]
  rw [vp_cell_l, vp_cell_l, arrV_store, hcl]
  congr 2
  funext q
  by_cases hq : q = j
  · subst hq
    simp [updV, vp_updL]
  · simp [updV, vp_updL, hq]
/-- a reference is stored, of the very kind that the array is of -/
theorem fr_aast (hexec : p.tables.exec = Jvm.exec) (hb : c.code = cc) (hK : va_K D cl tys s) (hE : fr_W D cl z b C H) (hS : va_S (fr_A z) H0 H locs) (r : Nat × Nat) (t0 : Nat) (ha : fr_ad b r = a) {cA : ClassId} {r9 : vw_C} {n v ci : Nat} {vs : List Value} {f : Nat → Option Nat} (he : C r = some (.inl (cA, n, .inr (.inr (.inr (.inr f)))))) (ht : tys[t0]? = some (cA, .object r9.1)) (rv : Nat × Nat) (hav : fr_ad b rv = v) (hv : C rv = some (.inr (ci, vs))) (hc : cl[ci]? = some r9) {i : Int32} (j : Nat) (hi : i = nI j) (hj : j < n) (hn : n < 2 ^ 31) (hdg : decode cc pc = .ok (.aastore, 1))
    (kk : ∀ (H1 : Heap) (locs1 : List Loc), fr_W D cl z b (fr_up C r (.inl (cA, n, .inr (.inr (.inr (.inr (va_up f j (some v)))))))) H1 → va_S (fr_A z) H0 H1 locs1 → W p l e R s m args below meth c H1 locs1 cells slots Q (F0 m (pc + 1) ls rest)) : W p l e R s m args below meth c H locs cells slots Q (F0 m pc ls (.ref v :: .int i :: .ref a :: rest)) := by
  subst ha
  subst hi
  subst hav
  have hin := vp_in_nI hj hn
  have hcl9 : (nI j).toNatClampNeg = j := nI_clamp (by omega)
  have hlt : (nI j).toNatClampNeg < n := by rw [hcl9]; exact hj
  have h0 : ¬ nI j < 0 := nI_pos (by omega)
  obtain ⟨r', hr', cellV, g1, g2, g3, -⟩ := (hE.2.1 rv _ hv).1
  have hcls := (hK.1 ci r9 hc).2
  obtain ⟨kA, comp, k1, k2, k3, -⟩ := (hK.2 t0 _ ht).2
  have hcomp : comp = D.1 ci := Option.some.inj (k3.symm.trans hcls.1)
  subst hcomp
  obtain ⟨kC, hkC, -⟩ := hcls.2
  refine W.aast hexec hb (hE.2.1 r _ he).1 (fun q h => by cases h) (fun h => by cases h) k1 k2 rfl hkC ⟨h0, by show _ < (arrV _ _ _).slots.size; rw [arrV_size]; exact hlt⟩ g1 (fun q h => by rw [g3] at h; cases h) (by rw [g2]; exact hkC) (by rw [g2]; exact va_assign hcls) rfl rfl hdg fun H1 e z oq => ?_
  refine kk H1 _ (hE.set he ?_ z oq) (fr_put_S hS z oq (hE.2.1 r _ he).2)
  show H1[fr_ad b r]? = some (vp_cell _ _)
  rw [e]
  rw [vp_cell_q, vp_cell_q, arrV_store, hcl9]
  congr 2
  funext q
  by_cases hq : q = j
  · subst hq
    simp [updV, va_up, va_rf]
  · simp [updV, va_up, hq]
/-- newarray, of a kind that is known already -/
theorem fr_newa (hexec : p.tables.exec = Jvm.exec) (hb : c.code = cc) {atype : ArrayType} (harr : (Cond.arrayClass (newarray.typeOf atype)).before args s = true) {ty : FieldType} (hty : newarray.typeOf atype = ty) (hK : va_K D cl tys s) (hE : fr_W D cl z b C H) (hS : va_S (fr_A z) H0 H locs) (i t0 : Nat) {cA : ClassId} (ht : tys[t0]? = some (cA, ty))
    {n : Int32} (N' : Nat) {a0 : vp_A} (ha : ∀ cA : ClassId, vp_cell cA a0 = arrV cA N' (fun _ => defaultValue ty)) (hnN : n = nI N') (hN31 : N' < 2 ^ 31) (hbytes : N' * componentBytes ty ≤ 536870912) (hcells : cells + 1 ≤ R.cells) (hslots : slots + N' ≤ R.slots) (hdg : decode cc pc = .ok (.newarray atype, 2))
    (kk : ∀ (q : Nat) (H1 : Heap), C (1, q) = none → fr_W D cl z (fr_ub b i q) (fr_up C (0, i) (.inl (cA, a0))) H1 → va_S (fr_A z) H0 H1 locs →
      W p l e R s m args below meth c H1 locs (cells + 1) (slots + N') Q (F0 m (pc + 2) ls (.ref q :: rest))) : W p l e R s m args below meth c H locs cells slots Q (F0 m pc ls (.int n :: rest)) := by
  subst hty
  subst hnN
  refine va_newaK hexec hb harr rfl hdg rfl (nI_pos hN31) (nI_clamp hN31) hbytes hcells hslots rfl fun H1 cA1 e1 z1 o1 hAr hNm => ?_
  have hcA : cA1 = cA := by
    have h1 := (hK.2 t0 _ ht).2
    have h2 : s.vm.findClass ("[" ++ (newarray.typeOf atype).toString) = some cA := by cases atype <;> exact h1
    exact Option.some.inj (hNm.symm.trans h2)
  subst hcA
  refine kk H.size H1 hE.fresh (hE.new i ?_ (by omega) o1) (fr_new_S hS (by omega) o1)
  show H1[H.size]? = some (vp_cell _ _)
  rw [ha]
  exact e1
/-- anewarray, of a kind that is known already -/
theorem fr_newq (hexec : p.tables.exec = Jvm.exec) (hb : c.code = cc) {own Cn : String} {index : Nat} (hown : s.vm.findClass own = some m.cls) (hclink : (Cond.classLink own index Cn).before args s = true) (hover : (Cond.arrayOver (.object Cn)).before args s = true) (hK : va_K D cl tys s) (hE : fr_W D cl z b C H) (hS : va_S (fr_A z) H0 H locs) (i t0 : Nat) {cA : ClassId} (ht : tys[t0]? = some (cA, .object Cn))
    {n : Int32} (N' : Nat) (hnN : n = nI N') (hN31 : N' < 2 ^ 31) (hbytes : N' * 4 ≤ 536870912) (hcells : cells + 1 ≤ R.cells) (hslots : slots + N' ≤ R.slots) (hdg : decode cc pc = .ok (.anewarray index, 3))
    (kk : ∀ (q : Nat) (H1 : Heap), C (1, q) = none → fr_W D cl z (fr_ub b i q) (fr_up C (0, i) (.inl (cA, N', .inr (.inr (.inr (.inr (fun _ => none))))))) H1 → va_S (fr_A z) H0 H1 locs →
      W p l e R s m args below meth c H1 locs (cells + 1) (slots + N') Q (F0 m (pc + 3) ls (.ref q :: rest))) : W p l e R s m args below meth c H locs cells slots Q (F0 m pc ls (.int n :: rest)) := by
  subst hnN
  have hN : (nI N').toNatClampNeg = N' := nI_clamp hN31
  refine W.anew hexec hb hown hclink hover rfl hdg rfl (nI_pos hN31) (by rw [hN]; exact hbytes) hcells (by rw [hN]; exact hslots) fun cA1 kA comp f1 f2 f3 f4 => ?_
  have hcA : cA1 = cA := by
    obtain ⟨-, -, -, -, -, h4⟩ := (hK.2 t0 _ ht).2
    exact Option.some.inj (f1.symm.trans h4)
  subst hcA
  rw [hN]
  generalize hH1 : H.push ({ cls := cA1, slots := Array.replicate N' .null, vm := .none } : Cell) = H1
  have z1 : H1.size = H.size + 1 := by rw [← hH1, Array.size_push]
  have e1 : H1[H.size]? = some (arrV cA1 N' (fun _ => .null)) := by rw [← hH1, Array.getElem?_push_size, ← arrV_new]
  have o1 : ∀ q : Nat, q < H.size → H1[q]? = H[q]? := fun q hq => by rw [← hH1, Array.getElem?_push, if_neg (Nat.ne_of_lt hq)]
  refine kk H.size H1 hE.fresh (hE.new i ?_ (by omega) o1) (fr_new_S hS (by omega) o1)
  show H1[H.size]? = some (vp_cell _ _)
  rw [vp_cell_q]
  exact e1
theorem fr_new {c0 : Code} (hexec : p.tables.exec = Jvm.exec) (hb : c0.code = cc) {own Cn : String} {T : u_T} {N ci index : Nat} {Ts : List Cond} (hts : ∀ w ∈ Ts, w.before args s = true) (hin : ∀ w ∈ u_ws Cn T N, w ∈ Ts) (ty : Nat → FieldType) (hty : ∀ k, k < N → parseFieldDescriptor (T k).2.2.1 = some (ty k)) (hown : s.vm.findClass own = some m.cls) (hcl : (Cond.classLink own index Cn).before args s = true) (hinst : (Cond.instantiable Cn N).before args s = true) (hini : (Cond.initialized Cn).before args s = true)
    (hK : va_K D cl tys s) (hE : fr_W D cl z b C H) (hS : va_S (fr_A z) H0 H locs) (i : Nat) (hc : cl[ci]? = some (Cn, T, N)) {fs : List Value} (hfs : ∀ j, j < N → defaultValue (ty j) = vp_V fs j) (hcells : cells + 1 ≤ R.cells) (hslots : slots + N ≤ R.slots) (hdg : decode cc pc = .ok (.new index, 3))
    (kk : ∀ (q : Nat) (H1 : Heap), C (1, q) = none → fr_W D cl z (fr_ub b i q) (fr_up C (0, i) (.inr (ci, fs))) H1 → va_S (fr_A z) H0 H1 locs →
      W p l e R s m args below meth c0 H1 locs (cells + 1) (slots + N) Q (F0 m (pc + 3) ls (.ref q :: rest))) : W p l e R s m args below meth c0 H locs cells slots Q (F0 m pc ls rest) := by
  have hKn := hK.1 ci _ hc
  refine W.newcK hexec hb hown hcl hinst hini rfl hdg hcells hslots hKn.2.1 rfl fun H1 kC hkC e1 z1 o1 => ?_
  refine kk H.size H1 hE.fresh (hE.new i ?_ (by omega) o1) (fr_new_S hS (by omega) o1)
  exact ⟨_, hc, (u_born ty hts hin hKn hkC e1 hty).to hfs⟩
end FRW
section FRC
variable {p : Program} {l : Launch} {e : Env} {R : Room} {s : State} {m : MethodId} {args : Array Value} {below : List Frame} {meth : Method} {c : Code} {H : Heap} {locs : List Loc} {cells slots : Nat} {Q : State → Prop}
variable {pc : Nat} {ls : Array Slot} {rest st0 : List Value} {a : Array Value} {H0 : Heap} {mc ms : Nat} {D : va_G} {cl : List vw_C} {tys : List (ClassId × FieldType)} {z : Nat}
theorem fr_calli {S : Type} {post : Int32 → S → Prop} {bf : S → Nat → Nat} {Cf : S → fr_C} (hr : va_Run p l e R s m args below meth c H locs cells slots mc ms (F0 m pc ls st0) rest (va_Qi post (fun u t => fr_G D cl tys z (bf u) (Cf u) t) (fr_A z) a) (fr_A z)) (hS : va_S (fr_A z) H0 H locs)
    (kk : ∀ (r : Int32) (u : S) (H1 : Heap) (locs1 : List Loc), post r u → fr_W D cl z (bf u) (Cf u) H1 → va_S (fr_A z) H0 H1 locs1 → W p l e R s m args below meth c H1 locs1 (cells + mc) (slots + ms) Q (F0 m (pc + 3) ls (.int r :: rest))) : W p l e R s m args below meth c H locs cells slots Q (F0 m pc ls st0) :=
  va_calli hr hS (fun q _ h => h) (fun q h => h) (fun r u t H1 locs1 ht hvm hp hB hz hk hS1 => kk r u H1 locs1 hp (by rw [← ht]; exact hB.1) hS1)
theorem fr_callv {S : Type} {post : S → Prop} {bf : S → Nat → Nat} {Cf : S → fr_C} (hr : va_Run p l e R s m args below meth c H locs cells slots mc ms (F0 m pc ls st0) rest (va_Qv post (fun u t => fr_G D cl tys z (bf u) (Cf u) t) (fr_A z) a) (fr_A z)) (hS : va_S (fr_A z) H0 H locs)
    (kk : ∀ (u : S) (H1 : Heap) (locs1 : List Loc), post u → fr_W D cl z (bf u) (Cf u) H1 → va_S (fr_A z) H0 H1 locs1 → W p l e R s m args below meth c H1 locs1 (cells + mc) (slots + ms) Q (F0 m (pc + 3) ls rest)) : W p l e R s m args below meth c H locs cells slots Q (F0 m pc ls st0) :=
  va_callv hr hS (fun q _ h => h) (fun q h => h) (fun u t H1 locs1 ht hvm hp hB hz hk hS1 => kk u H1 locs1 hp (by rw [← ht]; exact hB.1) hS1)
theorem fr_callq {S : Type} {post : Option Nat → S → Prop} {bf : S → Nat → Nat} {Cf : S → fr_C} (hr : va_Run p l e R s m args below meth c H locs cells slots mc ms (F0 m pc ls st0) rest (va_Qq post (fun u t => fr_G D cl tys z (bf u) (Cf u) t) (fr_A z) a) (fr_A z)) (hS : va_S (fr_A z) H0 H locs)
    (kk : ∀ (r : Option Nat) (u : S) (H1 : Heap) (locs1 : List Loc), post r u → fr_W D cl z (bf u) (Cf u) H1 → va_S (fr_A z) H0 H1 locs1 → W p l e R s m args below meth c H1 locs1 (cells + mc) (slots + ms) Q (F0 m (pc + 3) ls (va_rf r :: rest))) : W p l e R s m args below meth c H locs cells slots Q (F0 m pc ls st0) :=
  va_callq hr hS (fun q _ h => h) (fun q h => h) (fun r u t H1 locs1 ht hvm hp hB hz hk hS1 => kk r u H1 locs1 hp (by rw [← ht]; exact hB.1) hS1)
end FRC
