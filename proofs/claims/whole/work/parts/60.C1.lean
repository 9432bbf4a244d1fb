/-! THE TWO WORLDS TOGETHER. -/
def sumF (F : Nat → Nat) : Nat → Nat
  | 0 => 0
  | n + 1 => sumF F n + F n
def un (F : Nat → Nat) (k v : Nat) : Nat → Nat := fun i => if i = k then v else F i
theorem un_s {F : Nat → Nat} {k v : Nat} : un F k v k = v := if_pos rfl
theorem un_n {F : Nat → Nat} {k v i : Nat} (h : i ≠ k) : un F k v i = F i := if_neg h
theorem sumF_out {F : Nat → Nat} {k v n : Nat} (h : n ≤ k) : sumF (un F k v) n = sumF F n := by
  induction n with
  | zero => rfl
  | succ n ih =>
    unfold sumF
    rw [ih (by omega), un_n (by omega)]
theorem sumF_in {F : Nat → Nat} {k v n : Nat} (h : k < n) : sumF (un F k v) n + F k = sumF F n + v := by
  induction n with
  | zero => omega
  | succ n ih =>
    unfold sumF
    by_cases e : k = n
    · subst e
      rw [sumF_out (Nat.le_refl _), un_s]
      omega
    · rw [un_n (by omega)]
      have := ih (by omega)
      omega
theorem sumF_le {F : Nat → Nat} {n : Nat} (h : ∀ L, F L ≤ 150) : sumF F n ≤ 150 * n := by
  induction n with
  | zero => exact Nat.le_refl _
  | succ n ih =>
    unfold sumF
    have := h n
    omega
abbrev fr_P : Type := Nat → Option va_E
def xR (C : fr_C) (b : Nat → Nat) (cI cZ cP : ClassId) (pg gr lf n an lc po : Nat) (hd st dy dl ac cs : Nat → Int32) (lp : Nat → Option Nat) : Prop := C (0, 0) = some (.inr (0, fX b pg gr lf n an lc po)) ∧ C (0, 1) = some (.inl (cZ, 6, .inl hd)) ∧ C (0, 2) = some (.inl (cI, 150, .inl st)) ∧ C (0, 3) = some (.inl (cI, 150, .inl dy)) ∧ C (0, 4) = some (.inl (cZ, 150, .inl dl)) ∧ C (0, 5) = some (.inl (cI, 150, .inl ac)) ∧ (∃ od, C (0, 6) = some (.inl (cI, 150, .inl od))) ∧ C (0, 8) = some (.inl (cP, 10, .inr (.inr (.inr (.inr lp))))) ∧ C (0, 9) = some (.inl (cI, 10, .inl cs))
def mR (C : fr_C) (b : Nat → Nat) (cI cZ : ClassId) (th : Int32) (pg gr lf an n lc ps rw tk po : Nat) (st dy dl ac hd mn si fo ol li pl pf pr pa pt rr rd rg tp md le aw cs : Nat → Int32) : Prop := C (0, 40) = some (.inr (5, fM b th pg gr lf an n lc ps rw tk po)) ∧ C (0, 46) = some (.inl (cI, 150, .inl st)) ∧ C (0, 47) = some (.inl (cI, 150, .inl dy)) ∧ C (0, 48) = some (.inl (cZ, 150, .inl dl)) ∧ C (0, 49) = some (.inl (cI, 150, .inl ac)) ∧ C (0, 50) = some (.inl (cZ, 6, .inl hd)) ∧ C (0, 52) = some (.inl (cI, 30, .inl mn)) ∧ C (0, 53) = some (.inl (cI, 30, .inl si)) ∧ C (0, 54) = some (.inl (cI, 30, .inl fo)) ∧ C (0, 55) = some (.inl (cI, 30, .inl ol)) ∧ C (0, 56) = some (.inl (cI, 4500, .inl li)) ∧ C (0, 58) = some (.inl (cI, 4600, .inl pl)) ∧ C (0, 59) = some (.inl (cI, 4600, .inl pf)) ∧ C (0, 60) = some (.inl (cI, 4600, .inl pr)) ∧ C (0, 61) = some (.inl (cI, 4600, .inl pa)) ∧ C (0, 62) = some (.inl (cI, 4600, .inl pt)) ∧ C (0, 64) = some (.inl (cI, 4500, .inl rr)) ∧ C (0, 65) = some (.inl (cI, 4500, .inl rd)) ∧ C (0, 66) = some (.inl (cZ, 4500, .inl rg)) ∧ C (0, 68) = some (.inl (cI, 4600, .inl tp)) ∧ C (0, 69) = some (.inl (cI, 4600, .inl md)) ∧ C (0, 70) = some (.inl (cI, 4600, .inl le)) ∧ C (0, 71) = some (.inl (cI, 10, .inl aw)) ∧ C (0, 72) = some (.inl (cI, 10, .inl cs))
/-- the class's page at ad is the reference's page Q -/
def pgOk (P : fr_P) (cI cZ : ClassId) (lc ps rw : Nat) (fo pl pf pr pa pt rr rd rg : Nat → Int32) (ad Q : Nat) : Prop := ∃ (L F c a m pn pd pz : Nat) (fn fd fz : Nat → Int32), Q < ps ∧ L < lc ∧ pl Q = nI L ∧ pf Q = nI F ∧ pr Q = nI c ∧ pa Q = nI a ∧ a + c ≤ rw ∧ (P ad = some (.inr (2, [.int (fo L), .ref pn, .ref pd, .ref pz, .int (nI c), .int (pt Q)])) ∧ P pn = some (.inl (cI, m, .inl fn)) ∧ P pd = some (.inl (cI, m, .inl fd)) ∧ P pz = some (.inl (cZ, m, .inl fz)) ∧ c ≤ m ∧ m ≤ 50) ∧ ∀ x, x < c → fn x = rr (a + x) ∧ fd x = rd (a + x) ∧ fz x = rg (a + x)
/-- the class's listing at lg is the reference's list L -/
def liOk (P : fr_P) (cI : ClassId) (mn si fo ol li : Nat → Int32) (lg L nm m : Nat) (fnm : Nat → Int32) (g : Nat → Nat) : Prop := P lg = some (.inr (1, [.int (ol L), .int (fo L), .int (si L), .ref nm])) ∧ P nm = some (.inl (cI, m, .inl fnm)) ∧ mn L = nI m ∧ m ≤ 150 ∧ ∀ k, k < m → fnm k = nI (g k) ∧ g k < 150 ∧ li (150 * L + k) = nI (g k)
/-- the class's token at ta is the reference's token j -/
def tkOk (P : fr_P) (cI cZ : ClassId) (pg lc ps rw : Nat) (mn si fo ol li pl pf pr pa pt rr rd rg tp md le : Nat → Int32) (f : Nat → Option Nat) (Fr : Nat → Nat) (j ta lg nm F m L Q : Nat) (pq : Option Nat) (fnm : Nat → Int32) (g : Nat → Nat) : Prop := f j = some ta ∧ P ta = some (.inr (3, [.ref lg, .int (nI (F + pg)), .int (md j), va_rf pq])) ∧ liOk P cI mn si fo ol li lg L nm m fnm g ∧ Q < ps ∧ L < lc ∧ tp j = nI Q ∧ pl Q = nI L ∧ pf Q = nI F ∧ F + pg < m ∧ inN (md j) 1000000001 ∧ ((le j = -1 ∧ pq = none ∧ Fr L = F + pg) ∨ ∃ R ad, le j = nI R ∧ pq = some ad ∧ pgOk P cI cZ lc ps rw fo pl pf pr pa pt rr rd rg ad R)
def PL (P : fr_P) (cI cZ : ClassId) (pg lc ps rw tk : Nat) (mn si fo ol li pl pf pr pa pt rr rd rg tp md le aw : Nat → Int32) (lp f : Nat → Option Nat) (Fr : Nat → Nat) : Prop :=
  (∀ j, j < 10 → (aw j = -1 ∧ lp j = none) ∨ ∃ Q ad, aw j = nI Q ∧ lp j = some ad ∧ pgOk P cI cZ lc ps rw fo pl pf pr pa pt rr rd rg ad Q) ∧
  (∀ j, j < tk → ∃ (ta lg nm F m L Q : Nat) (pq : Option Nat) (fnm : Nat → Int32) (g : Nat → Nat), tkOk P cI cZ pg lc ps rw mn si fo ol li pl pf pr pa pt rr rd rg tp md le f Fr j ta lg nm F m L Q pq fnm g) ∧
  (∀ j j', j < tk → j' < tk → f j = f j' → j = j') ∧
  (∀ j j' Q Q', j < tk → j' < tk → Q < 4600 → Q' < 4600 → le j = -1 → le j' = -1 → tp j = nI Q → tp j' = nI Q' → pl Q = pl Q' → j = j')
def nB (pg gr lf n lc ps rw tk N : Nat) (dl : Nat → Int32) (Fr : Nat → Nat) : Prop := (1 ≤ pg ∧ pg ≤ 50) ∧ (1 ≤ gr ∧ gr ≤ 100) ∧ lf ≤ 1000000 ∧ n ≤ 150 ∧ lc ≤ 30 ∧ ps ≤ N ∧ tk ≤ N ∧ rw ≤ sumF Fr lc ∧ (∀ L, Fr L ≤ 150) ∧ ∀ j, vp_nar .boolean (dl j) = dl j
/-- class and reference in step, after N calls -/
def CpB (cI cZ cJ cP cO : ClassId) (e0 : Nat) (b : Nat → Nat) (C : fr_C) (N : Nat) (pg gr lf n an lc po ps rw tk dt n0 : Nat) (th mc : Int32) (st dy dl ac hd mn si fo ol li pl pf pr pa pt rr rd rg tp md le aw cs : Nat → Int32) (lp f : Nat → Option Nat) (Fr : Nat → Nat) (o30 : Nat → Int64) : Prop :=
  xR C b cI cZ cP pg gr lf n an lc po hd st dy dl ac cs lp ∧ mR C b cI cZ th pg gr lf an n lc ps rw tk po st dy dl ac hd mn si fo ol li pl pf pr pa pt rr rd rg tp md le aw cs ∧ (C (0, 7) = some (.inr (4, [.ref dt, .int (nI tk), .int mc])) ∧ lsAt C cO e0 dt tk n0 f) ∧ C (0, 30) = some (.inl (cJ, 1, .inr (.inl o30))) ∧ nB pg gr lf n lc ps rw tk N dl Fr ∧ PL (fun a => C (1, a)) cI cZ pg lc ps rw tk mn si fo ol li pl pf pr pa pt rr rd rg tp md le aw lp f Fr
def Cpl (cI cZ cJ cP cO : ClassId) (e0 : Nat) (b : Nat → Nat) (C : fr_C) (N : Nat) : Prop := ∃ (pg gr lf n an lc po ps rw tk dt n0 : Nat) (th mc : Int32) (st dy dl ac hd mn si fo ol li pl pf pr pa pt rr rd rg tp md le aw cs : Nat → Int32) (lp f : Nat → Option Nat) (Fr : Nat → Nat) (o30 : Nat → Int64), CpB cI cZ cJ cP cO e0 b C N pg gr lf n an lc po ps rw tk dt n0 th mc st dy dl ac hd mn si fo ol li pl pf pr pa pt rr rd rg tp md le aw cs lp f Fr o30
theorem nB.next {pg gr lf n lc ps rw tk N : Nat} {dl : Nat → Int32} {Fr : Nat → Nat} (h : nB pg gr lf n lc ps rw tk N dl Fr) : nB pg gr lf n lc ps rw tk (N + 1) dl Fr := by
  obtain ⟨h1, h2, h3, h4, h5, h6, h7, h8⟩ := h
  exact ⟨h1, h2, h3, h4, h5, by omega, by omega, h8⟩
theorem inN_j {v : Int32} {n j k : Nat} (hn : n < 2 ^ 31) (hj : j < n) (hk : k < n) (h1 : v = nI j) (h2 : v = nI k) : j = k := (nI_eq (by omega) (by omega)).mp (h1.symm.trans h2)
set_option maxHeartbeats 4000000 in
set_option maxRecDepth 100000 in
theorem s_record {cI cZ cJ cP cO : ClassId} {e0 : Nat} {b : Nat → Nat} {C : fr_C} {N : Nat} {pg gr lf n an lc po ps rw tk dt n0 : Nat} {th mc : Int32} {st dy dl ac hd mn si fo ol li pl pf pr pa pt rr rd rg tp md le aw cs : Nat → Int32} {lp f : Nat → Option Nat} {Fr : Nat → Nat} {o30 : Nat → Int64} (hC : CpB cI cZ cJ cP cO e0 b C N pg gr lf n an lc po ps rw tk dt n0 th mc st dy dl ac hd mn si fo ol li pl pf pr pa pt rr rd rg tp md le aw cs lp f Fr o30) (set day : Int32) {r1 r2 : Int32} {u1 : fr_C} {u2 : fr_C} (w1 : (fun (r : Int32) (u : fr_C) => (¬ (inN set 10 ∧ okDay gr day) ∧ r = -2 ∧ u = C) ∨ ((inN set 10 ∧ okDay gr day) ∧ 150 ≤ n ∧ r = -4 ∧ u = C) ∨ ((inN set 10 ∧ okDay gr day) ∧ n < 150 ∧ r = nI n ∧ u = xRec b C cI cZ pg gr lf n an lc po st ac dy dl set day)) r1 u1) (w2 : (fun (C : fr_C) => fun (r : Int32) (u : fr_C) => (¬ (inN set 10 ∧ okDay gr day) ∧ r = -2 ∧ u = fr_up C (0, 40) (.inr (5, fM b 0 pg gr lf an n lc ps rw tk po))) ∨ ((inN set 10 ∧ okDay gr day) ∧ 150 ≤ n ∧ r = -4 ∧ u = fr_up C (0, 40) (.inr (5, fM b 0 pg gr lf an n lc ps rw tk po))) ∨ ((inN set 10 ∧ okDay gr day) ∧ n < 150 ∧ r = nI n ∧ u = mRec b C cI cZ pg gr lf an n lc ps rw tk po st ac dy dl set day)) u1 r2 u2) : r1 = r2 ∧ Cpl cI cZ cJ cP cO e0 b u2 (N + 1) := by
  obtain ⟨⟨h0, h1, h2, h3, h4, h5, ⟨od, h6⟩, h8, h9⟩, ⟨m0, m6, m7, m8, m9, m10, m12, m13, m14, m15, m16, m18, m19, m20, m21, m22, m24, m25, m26, m28, m29, m30, m31, m32⟩, ⟨h7, hls⟩, h30, hnB, hPL⟩ := hC
  have w1 := w1
  have w2 := w2
  rcases w1 with ⟨a1, rfl, rfl⟩ | ⟨a1, a2, rfl, rfl⟩ | ⟨a1, a2, rfl, rfl⟩
  · rcases w2 with ⟨d1, rfl, rfl⟩ | ⟨d1, d2, rfl, rfl⟩ | ⟨d1, d2, rfl, rfl⟩
    · exact ⟨rfl, ⟨pg, gr, lf, n, an, lc, po, ps, rw, tk, dt, n0, 0, mc, st, dy, dl, ac, hd, mn, si, fo, ol, li, pl, pf, pr, pa, pt, rr, rd, rg, tp, md, le, aw, cs, lp, f, Fr, o30, ⟨h0, h1, h2, h3, h4, h5, ⟨od, h6⟩, h8, h9⟩, ⟨rfl, m6, m7, m8, m9, m10, m12, m13, m14, m15, m16, m18, m19, m20, m21, m22, m24, m25, m26, m28, m29, m30, m31, m32⟩, ⟨h7, hls⟩, h30, hnB.next, hPL⟩⟩
    · exact absurd d1 a1
    · exact absurd d1 a1
  · rcases w2 with ⟨d1, rfl, rfl⟩ | ⟨d1, d2, rfl, rfl⟩ | ⟨d1, d2, rfl, rfl⟩
    · exact absurd a1 d1
    · exact ⟨rfl, ⟨pg, gr, lf, n, an, lc, po, ps, rw, tk, dt, n0, 0, mc, st, dy, dl, ac, hd, mn, si, fo, ol, li, pl, pf, pr, pa, pt, rr, rd, rg, tp, md, le, aw, cs, lp, f, Fr, o30, ⟨h0, h1, h2, h3, h4, h5, ⟨od, h6⟩, h8, h9⟩, ⟨rfl, m6, m7, m8, m9, m10, m12, m13, m14, m15, m16, m18, m19, m20, m21, m22, m24, m25, m26, m28, m29, m30, m31, m32⟩, ⟨h7, hls⟩, h30, hnB.next, hPL⟩⟩
    · omega
  · rcases w2 with ⟨d1, rfl, rfl⟩ | ⟨d1, d2, rfl, rfl⟩ | ⟨d1, d2, rfl, rfl⟩
    · exact absurd a1 d1
    · omega
    · obtain ⟨g1, g2, g3, g4, g5⟩ := id hnB
      exact ⟨rfl, ⟨pg, gr, lf, n + 1, an + 1, lc, po, ps, rw, tk, dt, n0, 0, mc, upd st n set, upd dy n day, upd dl n 0, upd ac n (nI (an + 1)), hd, mn, si, fo, ol, li, pl, pf, pr, pa, pt, rr, rd, rg, tp, md, le, aw, cs, lp, f, Fr, o30, ⟨rfl, h1, rfl, rfl, rfl, rfl, ⟨od, h6⟩, h8, h9⟩, ⟨rfl, rfl, rfl, rfl, rfl, m10, m12, m13, m14, m15, m16, m18, m19, m20, m21, m22, m24, m25, m26, m28, m29, m30, m31, m32⟩, ⟨h7, hls⟩, h30, ⟨g1, g2, g3, by omega, g5.1, by omega, by omega, g5.2.2.2.1, g5.2.2.2.2.1, fun i => by by_cases y : i = n; rw [y, pk_us]; rfl; rw [pk_un y]; exact g5.2.2.2.2.2 i⟩, hPL⟩⟩
set_option maxHeartbeats 4000000 in
set_option maxRecDepth 100000 in
theorem s_change {cI cZ cJ cP cO : ClassId} {e0 : Nat} {b : Nat → Nat} {C : fr_C} {N : Nat} {pg gr lf n an lc po ps rw tk dt n0 : Nat} {th mc : Int32} {st dy dl ac hd mn si fo ol li pl pf pr pa pt rr rd rg tp md le aw cs : Nat → Int32} {lp f : Nat → Option Nat} {Fr : Nat → Nat} {o30 : Nat → Int64} (hC : CpB cI cZ cJ cP cO e0 b C N pg gr lf n an lc po ps rw tk dt n0 th mc st dy dl ac hd mn si fo ol li pl pf pr pa pt rr rd rg tp md le aw cs lp f Fr o30) (rc day : Int32) {r1 r2 : Int32} {u1 : fr_C} {u2 : fr_C} (w1 : (fun (r : Int32) (u : fr_C) => (¬ inN rc n ∧ r = -1 ∧ u = C) ∨ (inN rc n ∧ ¬ okDay gr day ∧ r = -2 ∧ u = C) ∨ (∃ j : Nat, j < n ∧ rc = nI j ∧ okDay gr day ∧ (((day < dy j) ∧ r = -3 ∧ u = C) ∨ (¬ (day < dy j) ∧ r = 1 ∧ u = xAct b C cI cZ pg gr lf n an lc po ac dy dl j day 0)))) r1 u1) (w2 : (fun (C : fr_C) => fun (r : Int32) (u : fr_C) => (¬ inN rc n ∧ r = -1 ∧ u = fr_up C (0, 40) (.inr (5, fM b 0 pg gr lf an n lc ps rw tk po))) ∨ (inN rc n ∧ ¬ okDay gr day ∧ r = -2 ∧ u = fr_up C (0, 40) (.inr (5, fM b 0 pg gr lf an n lc ps rw tk po))) ∨ (∃ j : Nat, j < n ∧ rc = nI j ∧ okDay gr day ∧ (((day < dy j) ∧ r = -3 ∧ u = fr_up C (0, 40) (.inr (5, fM b 0 pg gr lf an n lc ps rw tk po))) ∨ (¬ (day < dy j) ∧ r = 1 ∧ u = mAct b (fr_up C (0, 40) (.inr (5, fM b 0 pg gr lf an n lc ps rw tk po))) cI cZ 0 pg gr lf an n lc ps rw tk po ac dy dl j day 0)))) u1 r2 u2) : r1 = r2 ∧ Cpl cI cZ cJ cP cO e0 b u2 (N + 1) := by
  obtain ⟨⟨h0, h1, h2, h3, h4, h5, ⟨od, h6⟩, h8, h9⟩, ⟨m0, m6, m7, m8, m9, m10, m12, m13, m14, m15, m16, m18, m19, m20, m21, m22, m24, m25, m26, m28, m29, m30, m31, m32⟩, ⟨h7, hls⟩, h30, hnB, hPL⟩ := hC
  have w1 := w1
  have w2 := w2
  rcases w1 with ⟨a1, rfl, rfl⟩ | ⟨a1, a2, rfl, rfl⟩ | ⟨aj, ah, ae, a2, ⟨a3, rfl, rfl⟩ | ⟨a3, rfl, rfl⟩⟩
  · rcases w2 with ⟨d1, rfl, rfl⟩ | ⟨d1, d2, rfl, rfl⟩ | ⟨dj, dh, de, d2, ⟨d3, rfl, rfl⟩ | ⟨d3, rfl, rfl⟩⟩
    · exact ⟨rfl, ⟨pg, gr, lf, n, an, lc, po, ps, rw, tk, dt, n0, 0, mc, st, dy, dl, ac, hd, mn, si, fo, ol, li, pl, pf, pr, pa, pt, rr, rd, rg, tp, md, le, aw, cs, lp, f, Fr, o30, ⟨h0, h1, h2, h3, h4, h5, ⟨od, h6⟩, h8, h9⟩, ⟨rfl, m6, m7, m8, m9, m10, m12, m13, m14, m15, m16, m18, m19, m20, m21, m22, m24, m25, m26, m28, m29, m30, m31, m32⟩, ⟨h7, hls⟩, h30, hnB.next, hPL⟩⟩
    · exact absurd d1 a1
    · exact absurd ⟨_, dh, de⟩ a1
    · exact absurd ⟨_, dh, de⟩ a1
  · rcases w2 with ⟨d1, rfl, rfl⟩ | ⟨d1, d2, rfl, rfl⟩ | ⟨dj, dh, de, d2, ⟨d3, rfl, rfl⟩ | ⟨d3, rfl, rfl⟩⟩
    · exact absurd a1 d1
    · exact ⟨rfl, ⟨pg, gr, lf, n, an, lc, po, ps, rw, tk, dt, n0, 0, mc, st, dy, dl, ac, hd, mn, si, fo, ol, li, pl, pf, pr, pa, pt, rr, rd, rg, tp, md, le, aw, cs, lp, f, Fr, o30, ⟨h0, h1, h2, h3, h4, h5, ⟨od, h6⟩, h8, h9⟩, ⟨rfl, m6, m7, m8, m9, m10, m12, m13, m14, m15, m16, m18, m19, m20, m21, m22, m24, m25, m26, m28, m29, m30, m31, m32⟩, ⟨h7, hls⟩, h30, hnB.next, hPL⟩⟩
    · exact absurd d2 a2
    · exact absurd d2 a2
  · rcases w2 with ⟨d1, rfl, rfl⟩ | ⟨d1, d2, rfl, rfl⟩ | ⟨dj, dh, de, d2, ⟨d3, rfl, rfl⟩ | ⟨d3, rfl, rfl⟩⟩
    · exact absurd ⟨_, ah, ae⟩ d1
    · exact absurd a2 d2
    · exact ⟨rfl, ⟨pg, gr, lf, n, an, lc, po, ps, rw, tk, dt, n0, 0, mc, st, dy, dl, ac, hd, mn, si, fo, ol, li, pl, pf, pr, pa, pt, rr, rd, rg, tp, md, le, aw, cs, lp, f, Fr, o30, ⟨h0, h1, h2, h3, h4, h5, ⟨od, h6⟩, h8, h9⟩, ⟨rfl, m6, m7, m8, m9, m10, m12, m13, m14, m15, m16, m18, m19, m20, m21, m22, m24, m25, m26, m28, m29, m30, m31, m32⟩, ⟨h7, hls⟩, h30, hnB.next, hPL⟩⟩
    · obtain rfl := inN_j (by obtain ⟨_, _, _, g4, _⟩ := hnB; omega) ah dh ae de
      exact absurd a3 d3
  · rcases w2 with ⟨d1, rfl, rfl⟩ | ⟨d1, d2, rfl, rfl⟩ | ⟨dj, dh, de, d2, ⟨d3, rfl, rfl⟩ | ⟨d3, rfl, rfl⟩⟩
    · exact absurd ⟨_, ah, ae⟩ d1
    · exact absurd a2 d2
    · obtain rfl := inN_j (by obtain ⟨_, _, _, g4, _⟩ := hnB; omega) ah dh ae de
      exact absurd d3 a3
    · obtain rfl := inN_j (by obtain ⟨_, _, _, g4, _⟩ := hnB; omega) ah dh ae de
      obtain ⟨g1, g2, g3, g4, g5⟩ := id hnB
      exact ⟨rfl, ⟨pg, gr, lf, n, an + 1, lc, po, ps, rw, tk, dt, n0, 0, mc, st, upd dy aj day, upd dl aj 0, upd ac aj (nI (an + 1)), hd, mn, si, fo, ol, li, pl, pf, pr, pa, pt, rr, rd, rg, tp, md, le, aw, cs, lp, f, Fr, o30, ⟨rfl, h1, h2, rfl, rfl, rfl, ⟨od, h6⟩, h8, h9⟩, ⟨rfl, m6, rfl, rfl, rfl, m10, m12, m13, m14, m15, m16, m18, m19, m20, m21, m22, m24, m25, m26, m28, m29, m30, m31, m32⟩, ⟨h7, hls⟩, h30, ⟨g1, g2, g3, g4, g5.1, by omega, by omega, g5.2.2.2.1, g5.2.2.2.2.1, fun i => by by_cases y : i = aj; rw [y, pk_us]; rfl; rw [pk_un y]; exact g5.2.2.2.2.2 i⟩, hPL⟩⟩
set_option maxHeartbeats 4000000 in
set_option maxRecDepth 100000 in
theorem s_delete {cI cZ cJ cP cO : ClassId} {e0 : Nat} {b : Nat → Nat} {C : fr_C} {N : Nat} {pg gr lf n an lc po ps rw tk dt n0 : Nat} {th mc : Int32} {st dy dl ac hd mn si fo ol li pl pf pr pa pt rr rd rg tp md le aw cs : Nat → Int32} {lp f : Nat → Option Nat} {Fr : Nat → Nat} {o30 : Nat → Int64} (hC : CpB cI cZ cJ cP cO e0 b C N pg gr lf n an lc po ps rw tk dt n0 th mc st dy dl ac hd mn si fo ol li pl pf pr pa pt rr rd rg tp md le aw cs lp f Fr o30) (rc day : Int32) {r1 r2 : Int32} {u1 : fr_C} {u2 : fr_C} (w1 : (fun (r : Int32) (u : fr_C) => (¬ inN rc n ∧ r = -1 ∧ u = C) ∨ (inN rc n ∧ ¬ okDay gr day ∧ r = -2 ∧ u = C) ∨ (∃ j : Nat, j < n ∧ rc = nI j ∧ okDay gr day ∧ (((¬ dl j = 0 ∨ day < dy j) ∧ r = -3 ∧ u = C) ∨ (¬ (¬ dl j = 0 ∨ day < dy j) ∧ r = 1 ∧ u = xAct b C cI cZ pg gr lf n an lc po ac dy dl j day 1)))) r1 u1) (w2 : (fun (C : fr_C) => fun (r : Int32) (u : fr_C) => (¬ inN rc n ∧ r = -1 ∧ u = fr_up C (0, 40) (.inr (5, fM b 0 pg gr lf an n lc ps rw tk po))) ∨ (inN rc n ∧ ¬ okDay gr day ∧ r = -2 ∧ u = fr_up C (0, 40) (.inr (5, fM b 0 pg gr lf an n lc ps rw tk po))) ∨ (∃ j : Nat, j < n ∧ rc = nI j ∧ okDay gr day ∧ (((¬ dl j = 0 ∨ day < dy j) ∧ r = -3 ∧ u = fr_up C (0, 40) (.inr (5, fM b 0 pg gr lf an n lc ps rw tk po))) ∨ (¬ (¬ dl j = 0 ∨ day < dy j) ∧ r = 1 ∧ u = mAct b (fr_up C (0, 40) (.inr (5, fM b 0 pg gr lf an n lc ps rw tk po))) cI cZ 0 pg gr lf an n lc ps rw tk po ac dy dl j day 1)))) u1 r2 u2) : r1 = r2 ∧ Cpl cI cZ cJ cP cO e0 b u2 (N + 1) := by
  obtain ⟨⟨h0, h1, h2, h3, h4, h5, ⟨od, h6⟩, h8, h9⟩, ⟨m0, m6, m7, m8, m9, m10, m12, m13, m14, m15, m16, m18, m19, m20, m21, m22, m24, m25, m26, m28, m29, m30, m31, m32⟩, ⟨h7, hls⟩, h30, hnB, hPL⟩ := hC
  have w1 := w1
  have w2 := w2
  rcases w1 with ⟨a1, rfl, rfl⟩ | ⟨a1, a2, rfl, rfl⟩ | ⟨aj, ah, ae, a2, ⟨a3, rfl, rfl⟩ | ⟨a3, rfl, rfl⟩⟩
  · rcases w2 with ⟨d1, rfl, rfl⟩ | ⟨d1, d2, rfl, rfl⟩ | ⟨dj, dh, de, d2, ⟨d3, rfl, rfl⟩ | ⟨d3, rfl, rfl⟩⟩
    · exact ⟨rfl, ⟨pg, gr, lf, n, an, lc, po, ps, rw, tk, dt, n0, 0, mc, st, dy, dl, ac, hd, mn, si, fo, ol, li, pl, pf, pr, pa, pt, rr, rd, rg, tp, md, le, aw, cs, lp, f, Fr, o30, ⟨h0, h1, h2, h3, h4, h5, ⟨od, h6⟩, h8, h9⟩, ⟨rfl, m6, m7, m8, m9, m10, m12, m13, m14, m15, m16, m18, m19, m20, m21, m22, m24, m25, m26, m28, m29, m30, m31, m32⟩, ⟨h7, hls⟩, h30, hnB.next, hPL⟩⟩
    · exact absurd d1 a1
    · exact absurd ⟨_, dh, de⟩ a1
    · exact absurd ⟨_, dh, de⟩ a1
  · rcases w2 with ⟨d1, rfl, rfl⟩ | ⟨d1, d2, rfl, rfl⟩ | ⟨dj, dh, de, d2, ⟨d3, rfl, rfl⟩ | ⟨d3, rfl, rfl⟩⟩
    · exact absurd a1 d1
    · exact ⟨rfl, ⟨pg, gr, lf, n, an, lc, po, ps, rw, tk, dt, n0, 0, mc, st, dy, dl, ac, hd, mn, si, fo, ol, li, pl, pf, pr, pa, pt, rr, rd, rg, tp, md, le, aw, cs, lp, f, Fr, o30, ⟨h0, h1, h2, h3, h4, h5, ⟨od, h6⟩, h8, h9⟩, ⟨rfl, m6, m7, m8, m9, m10, m12, m13, m14, m15, m16, m18, m19, m20, m21, m22, m24, m25, m26, m28, m29, m30, m31, m32⟩, ⟨h7, hls⟩, h30, hnB.next, hPL⟩⟩
    · exact absurd d2 a2
    · exact absurd d2 a2
  · rcases w2 with ⟨d1, rfl, rfl⟩ | ⟨d1, d2, rfl, rfl⟩ | ⟨dj, dh, de, d2, ⟨d3, rfl, rfl⟩ | ⟨d3, rfl, rfl⟩⟩
    · exact absurd ⟨_, ah, ae⟩ d1
    · exact absurd a2 d2
    · exact ⟨rfl, ⟨pg, gr, lf, n, an, lc, po, ps, rw, tk, dt, n0, 0, mc, st, dy, dl, ac, hd, mn, si, fo, ol, li, pl, pf, pr, pa, pt, rr, rd, rg, tp, md, le, aw, cs, lp, f, Fr, o30, ⟨h0, h1, h2, h3, h4, h5, ⟨od, h6⟩, h8, h9⟩, ⟨rfl, m6, m7, m8, m9, m10, m12, m13, m14, m15, m16, m18, m19, m20, m21, m22, m24, m25, m26, m28, m29, m30, m31, m32⟩, ⟨h7, hls⟩, h30, hnB.next, hPL⟩⟩
    · obtain rfl := inN_j (by obtain ⟨_, _, _, g4, _⟩ := hnB; omega) ah dh ae de
      exact absurd a3 d3
  · rcases w2 with ⟨d1, rfl, rfl⟩ | ⟨d1, d2, rfl, rfl⟩ | ⟨dj, dh, de, d2, ⟨d3, rfl, rfl⟩ | ⟨d3, rfl, rfl⟩⟩
    · exact absurd ⟨_, ah, ae⟩ d1
    · exact absurd a2 d2
    · obtain rfl := inN_j (by obtain ⟨_, _, _, g4, _⟩ := hnB; omega) ah dh ae de
      exact absurd d3 a3
    · obtain rfl := inN_j (by obtain ⟨_, _, _, g4, _⟩ := hnB; omega) ah dh ae de
      obtain ⟨g1, g2, g3, g4, g5⟩ := id hnB
      exact ⟨rfl, ⟨pg, gr, lf, n, an + 1, lc, po, ps, rw, tk, dt, n0, 0, mc, st, upd dy aj day, upd dl aj 1, upd ac aj (nI (an + 1)), hd, mn, si, fo, ol, li, pl, pf, pr, pa, pt, rr, rd, rg, tp, md, le, aw, cs, lp, f, Fr, o30, ⟨rfl, h1, h2, rfl, rfl, rfl, ⟨od, h6⟩, h8, h9⟩, ⟨rfl, m6, rfl, rfl, rfl, m10, m12, m13, m14, m15, m16, m18, m19, m20, m21, m22, m24, m25, m26, m28, m29, m30, m31, m32⟩, ⟨h7, hls⟩, h30, ⟨g1, g2, g3, g4, g5.1, by omega, by omega, g5.2.2.2.1, g5.2.2.2.2.1, fun i => by by_cases y : i = aj; rw [y, pk_us]; rfl; rw [pk_un y]; exact g5.2.2.2.2.2 i⟩, hPL⟩⟩
set_option maxHeartbeats 4000000 in
set_option maxRecDepth 100000 in
theorem s_form {cI cZ cJ cP cO : ClassId} {e0 : Nat} {b : Nat → Nat} {C : fr_C} {N : Nat} {pg gr lf n an lc po ps rw tk dt n0 : Nat} {th mc : Int32} {st dy dl ac hd mn si fo ol li pl pf pr pa pt rr rd rg tp md le aw cs : Nat → Int32} {lp f : Nat → Option Nat} {Fr : Nat → Nat} {o30 : Nat → Int64} (hC : CpB cI cZ cJ cP cO e0 b C N pg gr lf n an lc po ps rw tk dt n0 th mc st dy dl ac hd mn si fo ol li pl pf pr pa pt rr rd rg tp md le aw cs lp f Fr o30) (fm x : Int32) {r1 r2 : Int32} {u1 : fr_C} {u2 : fr_C} (w1 : (fun (r : Int32) (u : fr_C) => (¬ inN fm 6 ∧ r = -2 ∧ u = C) ∨ (∃ j : Nat, j < 6 ∧ fm = nI j ∧ r = 1 ∧ u = fr_up C (0, 1) (.inl (cZ, 6, .inl (upd hd j x))))) r1 u1) (w2 : (fun (C : fr_C) => fun (r : Int32) (u : fr_C) => (¬ inN fm 6 ∧ r = -2 ∧ u = fr_up C (0, 40) (.inr (5, fM b 0 pg gr lf an n lc ps rw tk po))) ∨ (∃ j : Nat, j < 6 ∧ fm = nI j ∧ r = 1 ∧ u = fr_up (fr_up C (0, 40) (.inr (5, fM b 0 pg gr lf an n lc ps rw tk po))) (0, 50) (.inl (cZ, 6, .inl (upd hd j x))))) u1 r2 u2) : r1 = r2 ∧ Cpl cI cZ cJ cP cO e0 b u2 (N + 1) := by
  obtain ⟨⟨h0, h1, h2, h3, h4, h5, ⟨od, h6⟩, h8, h9⟩, ⟨m0, m6, m7, m8, m9, m10, m12, m13, m14, m15, m16, m18, m19, m20, m21, m22, m24, m25, m26, m28, m29, m30, m31, m32⟩, ⟨h7, hls⟩, h30, hnB, hPL⟩ := hC
  have w1 := w1
  have w2 := w2
  rcases w1 with ⟨a1, rfl, rfl⟩ | ⟨aj, ah, ae, rfl, rfl⟩
  · rcases w2 with ⟨d1, rfl, rfl⟩ | ⟨dj, dh, de, rfl, rfl⟩
    · exact ⟨rfl, ⟨pg, gr, lf, n, an, lc, po, ps, rw, tk, dt, n0, 0, mc, st, dy, dl, ac, hd, mn, si, fo, ol, li, pl, pf, pr, pa, pt, rr, rd, rg, tp, md, le, aw, cs, lp, f, Fr, o30, ⟨h0, h1, h2, h3, h4, h5, ⟨od, h6⟩, h8, h9⟩, ⟨rfl, m6, m7, m8, m9, m10, m12, m13, m14, m15, m16, m18, m19, m20, m21, m22, m24, m25, m26, m28, m29, m30, m31, m32⟩, ⟨h7, hls⟩, h30, hnB.next, hPL⟩⟩
    · exact absurd ⟨_, dh, de⟩ a1
  · rcases w2 with ⟨d1, rfl, rfl⟩ | ⟨dj, dh, de, rfl, rfl⟩
    · exact absurd ⟨_, ah, ae⟩ d1
    · obtain rfl := inN_j (by decide) ah dh ae de
      exact ⟨rfl, ⟨pg, gr, lf, n, an, lc, po, ps, rw, tk, dt, n0, 0, mc, st, dy, dl, ac, upd hd aj x, mn, si, fo, ol, li, pl, pf, pr, pa, pt, rr, rd, rg, tp, md, le, aw, cs, lp, f, Fr, o30, ⟨h0, rfl, h2, h3, h4, h5, ⟨od, h6⟩, h8, h9⟩, ⟨rfl, m6, m7, m8, m9, rfl, m12, m13, m14, m15, m16, m18, m19, m20, m21, m22, m24, m25, m26, m28, m29, m30, m31, m32⟩, ⟨h7, hls⟩, h30, hnB.next, hPL⟩⟩
set_option maxHeartbeats 4000000 in
set_option maxRecDepth 100000 in
theorem s_get {cI cZ cJ cP cO : ClassId} {e0 : Nat} {b : Nat → Nat} {C : fr_C} {N : Nat} {pg gr lf n an lc po ps rw tk dt n0 : Nat} {th mc : Int32} {st dy dl ac hd mn si fo ol li pl pf pr pa pt rr rd rg tp md le aw cs : Nat → Int32} {lp f : Nat → Option Nat} {Fr : Nat → Nat} {o30 : Nat → Int64} (hC : CpB cI cZ cJ cP cO e0 b C N pg gr lf n an lc po ps rw tk dt n0 th mc st dy dl ac hd mn si fo ol li pl pf pr pa pt rr rd rg tp md le aw cs lp f Fr o30) (rc fm : Int32) {r1 r2 : Int32} {u1 : Unit} {u2 : Unit} (w1 : (fun (r : Int32) (u : Unit) => (¬ isHeldP hd fm ∧ r = -12) ∨ (isHeldP hd fm ∧ ¬ inN rc n ∧ r = -16) ∨ (isHeldP hd fm ∧ ∃ j : Nat, j < n ∧ rc = nI j ∧ r = if dl j = 0 then dy j else -20 - dy j)) r1 u1) (w2 : (fun (C : fr_C) => fun (r : Int32) (u : Unit) => (¬ isHeldP hd fm ∧ r = -12) ∨ (isHeldP hd fm ∧ ¬ inN rc n ∧ r = -16) ∨ (isHeldP hd fm ∧ ∃ j : Nat, j < n ∧ rc = nI j ∧ r = if dl j = 0 then dy j else -20 - dy j)) C r2 u2) : r1 = r2 ∧ Cpl cI cZ cJ cP cO e0 b (fr_up C (0, 40) (.inr (5, fM b 0 pg gr lf an n lc ps rw tk po))) (N + 1) := by
  obtain ⟨⟨h0, h1, h2, h3, h4, h5, ⟨od, h6⟩, h8, h9⟩, ⟨m0, m6, m7, m8, m9, m10, m12, m13, m14, m15, m16, m18, m19, m20, m21, m22, m24, m25, m26, m28, m29, m30, m31, m32⟩, ⟨h7, hls⟩, h30, hnB, hPL⟩ := hC
  have w1 := w1
  have w2 := w2
  rcases w1 with ⟨a1, rfl⟩ | ⟨a1, a2, rfl⟩ | ⟨a1, aj, ah, ae, ar⟩
  · rcases w2 with ⟨d1, rfl⟩ | ⟨d1, d2, rfl⟩ | ⟨d1, dj, dh, de, dr⟩
    · exact ⟨rfl, ⟨pg, gr, lf, n, an, lc, po, ps, rw, tk, dt, n0, 0, mc, st, dy, dl, ac, hd, mn, si, fo, ol, li, pl, pf, pr, pa, pt, rr, rd, rg, tp, md, le, aw, cs, lp, f, Fr, o30, ⟨h0, h1, h2, h3, h4, h5, ⟨od, h6⟩, h8, h9⟩, ⟨rfl, m6, m7, m8, m9, m10, m12, m13, m14, m15, m16, m18, m19, m20, m21, m22, m24, m25, m26, m28, m29, m30, m31, m32⟩, ⟨h7, hls⟩, h30, hnB.next, hPL⟩⟩
    · exact absurd d1 a1
    · exact absurd d1 a1
  · rcases w2 with ⟨d1, rfl⟩ | ⟨d1, d2, rfl⟩ | ⟨d1, dj, dh, de, dr⟩
    · exact absurd a1 d1
    · exact ⟨rfl, ⟨pg, gr, lf, n, an, lc, po, ps, rw, tk, dt, n0, 0, mc, st, dy, dl, ac, hd, mn, si, fo, ol, li, pl, pf, pr, pa, pt, rr, rd, rg, tp, md, le, aw, cs, lp, f, Fr, o30, ⟨h0, h1, h2, h3, h4, h5, ⟨od, h6⟩, h8, h9⟩, ⟨rfl, m6, m7, m8, m9, m10, m12, m13, m14, m15, m16, m18, m19, m20, m21, m22, m24, m25, m26, m28, m29, m30, m31, m32⟩, ⟨h7, hls⟩, h30, hnB.next, hPL⟩⟩
    · exact absurd ⟨_, dh, de⟩ a2
  · rcases w2 with ⟨d1, rfl⟩ | ⟨d1, d2, rfl⟩ | ⟨d1, dj, dh, de, dr⟩
    · exact absurd a1 d1
    · exact absurd ⟨_, ah, ae⟩ d2
    · obtain rfl := inN_j (by obtain ⟨_, _, _, g4, _⟩ := hnB; omega) ah dh ae de
      exact ⟨ar.trans dr.symm, ⟨pg, gr, lf, n, an, lc, po, ps, rw, tk, dt, n0, 0, mc, st, dy, dl, ac, hd, mn, si, fo, ol, li, pl, pf, pr, pa, pt, rr, rd, rg, tp, md, le, aw, cs, lp, f, Fr, o30, ⟨h0, h1, h2, h3, h4, h5, ⟨od, h6⟩, h8, h9⟩, ⟨rfl, m6, m7, m8, m9, m10, m12, m13, m14, m15, m16, m18, m19, m20, m21, m22, m24, m25, m26, m28, m29, m30, m31, m32⟩, ⟨h7, hls⟩, h30, hnB.next, hPL⟩⟩
set_option maxHeartbeats 4000000 in
set_option maxRecDepth 100000 in
theorem s_counted {cI cZ cJ cP cO : ClassId} {e0 : Nat} {b : Nat → Nat} {C : fr_C} {N : Nat} {pg gr lf n an lc po ps rw tk dt n0 : Nat} {th mc : Int32} {st dy dl ac hd mn si fo ol li pl pf pr pa pt rr rd rg tp md le aw cs : Nat → Int32} {lp f : Nat → Option Nat} {Fr : Nat → Nat} {o30 : Nat → Int64} (hC : CpB cI cZ cJ cP cO e0 b C N pg gr lf n an lc po ps rw tk dt n0 th mc st dy dl ac hd mn si fo ol li pl pf pr pa pt rr rd rg tp md le aw cs lp f Fr o30) (h : Int32) {r1 r2 : Int32} {u1 : Unit} {u2 : Unit} (w1 : (fun (r : Int32) (u : Unit) => (¬ inN h 10 ∧ r = -1) ∨ (∃ j : Nat, j < 10 ∧ h = nI j ∧ r = cs j)) r1 u1) (w2 : (fun (C : fr_C) => fun (r : Int32) (u : Unit) => (¬ inN h 10 ∧ r = -1) ∨ (∃ j : Nat, j < 10 ∧ h = nI j ∧ r = cs j)) C r2 u2) : r1 = r2 ∧ Cpl cI cZ cJ cP cO e0 b (fr_up C (0, 40) (.inr (5, fM b 0 pg gr lf an n lc ps rw tk po))) (N + 1) := by
  obtain ⟨⟨h0, h1, h2, h3, h4, h5, ⟨od, h6⟩, h8, h9⟩, ⟨m0, m6, m7, m8, m9, m10, m12, m13, m14, m15, m16, m18, m19, m20, m21, m22, m24, m25, m26, m28, m29, m30, m31, m32⟩, ⟨h7, hls⟩, h30, hnB, hPL⟩ := hC
  have w1 := w1
  have w2 := w2
  rcases w1 with ⟨a1, rfl⟩ | ⟨aj, ah, ae, ar⟩
  · rcases w2 with ⟨d1, rfl⟩ | ⟨dj, dh, de, dr⟩
    · exact ⟨rfl, ⟨pg, gr, lf, n, an, lc, po, ps, rw, tk, dt, n0, 0, mc, st, dy, dl, ac, hd, mn, si, fo, ol, li, pl, pf, pr, pa, pt, rr, rd, rg, tp, md, le, aw, cs, lp, f, Fr, o30, ⟨h0, h1, h2, h3, h4, h5, ⟨od, h6⟩, h8, h9⟩, ⟨rfl, m6, m7, m8, m9, m10, m12, m13, m14, m15, m16, m18, m19, m20, m21, m22, m24, m25, m26, m28, m29, m30, m31, m32⟩, ⟨h7, hls⟩, h30, hnB.next, hPL⟩⟩
    · exact absurd ⟨_, dh, de⟩ a1
  · rcases w2 with ⟨d1, rfl⟩ | ⟨dj, dh, de, dr⟩
    · exact absurd ⟨_, ah, ae⟩ d1
    · obtain rfl := inN_j (by decide) ah dh ae de
      exact ⟨ar.trans dr.symm, ⟨pg, gr, lf, n, an, lc, po, ps, rw, tk, dt, n0, 0, mc, st, dy, dl, ac, hd, mn, si, fo, ol, li, pl, pf, pr, pa, pt, rr, rd, rg, tp, md, le, aw, cs, lp, f, Fr, o30, ⟨h0, h1, h2, h3, h4, h5, ⟨od, h6⟩, h8, h9⟩, ⟨rfl, m6, m7, m8, m9, m10, m12, m13, m14, m15, m16, m18, m19, m20, m21, m22, m24, m25, m26, m28, m29, m30, m31, m32⟩, ⟨h7, hls⟩, h30, hnB.next, hPL⟩⟩
set_option maxHeartbeats 4000000 in
set_option maxRecDepth 100000 in
theorem s_passed {cI cZ cJ cP cO : ClassId} {e0 : Nat} {b : Nat → Nat} {C : fr_C} {N : Nat} {pg gr lf n an lc po ps rw tk dt n0 : Nat} {th mc : Int32} {st dy dl ac hd mn si fo ol li pl pf pr pa pt rr rd rg tp md le aw cs : Nat → Int32} {lp f : Nat → Option Nat} {Fr : Nat → Nat} {o30 : Nat → Int64} (hC : CpB cI cZ cJ cP cO e0 b C N pg gr lf n an lc po ps rw tk dt n0 th mc st dy dl ac hd mn si fo ol li pl pf pr pa pt rr rd rg tp md le aw cs lp f Fr o30)  {r1 r2 : Int32} {u1 : Unit} {u2 : Unit} (w1 : (fun (r : Int32) (u : Unit) => r = nI po) r1 u1) (w2 : (fun (C : fr_C) => fun (r : Int32) (u : Unit) => r = nI po) C r2 u2) : r1 = r2 ∧ Cpl cI cZ cJ cP cO e0 b (fr_up C (0, 40) (.inr (5, fM b 0 pg gr lf an n lc ps rw tk po))) (N + 1) := by
  obtain ⟨⟨h0, h1, h2, h3, h4, h5, ⟨od, h6⟩, h8, h9⟩, ⟨m0, m6, m7, m8, m9, m10, m12, m13, m14, m15, m16, m18, m19, m20, m21, m22, m24, m25, m26, m28, m29, m30, m31, m32⟩, ⟨h7, hls⟩, h30, hnB, hPL⟩ := hC
  have w1 : r1 = nI po := w1
  have w2 : r2 = nI po := w2
  exact ⟨w1.trans w2.symm, ⟨pg, gr, lf, n, an, lc, po, ps, rw, tk, dt, n0, 0, mc, st, dy, dl, ac, hd, mn, si, fo, ol, li, pl, pf, pr, pa, pt, rr, rd, rg, tp, md, le, aw, cs, lp, f, Fr, o30, ⟨h0, h1, h2, h3, h4, h5, ⟨od, h6⟩, h8, h9⟩, ⟨rfl, m6, m7, m8, m9, m10, m12, m13, m14, m15, m16, m18, m19, m20, m21, m22, m24, m25, m26, m28, m29, m30, m31, m32⟩, ⟨h7, hls⟩, h30, hnB.next, hPL⟩⟩
