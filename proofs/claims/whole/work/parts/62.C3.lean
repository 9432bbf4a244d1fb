/-- a cell that is neither a token nor the tokens' row -/
def plainE (e : va_E) : Prop := (∃ k fs, e = .inr (k, fs) ∧ k ≠ 3) ∨ ∃ c m f, e = .inl (c, m, .inl f)
theorem plain_1 (fs : List Value) : plainE (.inr (1, fs)) := Or.inl ⟨_, _, rfl, by decide⟩
theorem plain_2 (fs : List Value) : plainE (.inr (2, fs)) := Or.inl ⟨_, _, rfl, by decide⟩
theorem plain_a (c : ClassId) (m : Nat) (f : Nat → Int32) : plainE (.inl (c, m, .inl f)) := Or.inr ⟨_, _, _, rfl⟩
def PM (P P' : fr_P) : Prop := ∀ a e, P a = some e → plainE e → P' a = some e
theorem pgOk.mono {P P' : fr_P} {cI cZ : ClassId} {lc ps rw lc' ps' rw' : Nat} {fo pl pf pr pa pt rr rd rg fo' pl' pf' pr' pa' pt' rr' rd' rg' : Nat → Int32} {ad Q : Nat} (hp : PM P P') (h1 : lc ≤ lc') (h2 : ps ≤ ps') (h3 : rw ≤ rw') (hfo : ∀ L, L < lc → fo' L = fo L) (hpl : ∀ Q, Q < ps → pl' Q = pl Q ∧ pf' Q = pf Q ∧ pr' Q = pr Q ∧ pa' Q = pa Q ∧ pt' Q = pt Q) (hrr : ∀ i, i < rw → rr' i = rr i ∧ rd' i = rd i ∧ rg' i = rg i) (h : pgOk P cI cZ lc ps rw fo pl pf pr pa pt rr rd rg ad Q) : pgOk P' cI cZ lc' ps' rw' fo' pl' pf' pr' pa' pt' rr' rd' rg' ad Q := by
  obtain ⟨L, F, c, a, m, pn, pd, pz, fn, fd, fz, q1, q2, q3, q4, q5, q6, q7, ⟨p1, p2, p3, p4, p5, p6⟩, q8⟩ := h
  obtain ⟨e1, e2, e3, e4, e5⟩ := hpl Q q1
  refine ⟨L, F, c, a, m, pn, pd, pz, fn, fd, fz, by omega, by omega, e1.trans q3, e2.trans q4, e3.trans q5, e4.trans q6, by omega, ⟨?_, hp _ _ p2 (plain_a _ _ _), hp _ _ p3 (plain_a _ _ _), hp _ _ p4 (plain_a _ _ _), p5, p6⟩, fun x hx => ?_⟩
  · rw [hfo L q2, e5]
    exact hp _ _ p1 (plain_2 _)
  · obtain ⟨y1, y2, y3⟩ := q8 x hx
    obtain ⟨z1, z2, z3⟩ := hrr (a + x) (by omega)
    exact ⟨y1.trans z1.symm, y2.trans z2.symm, y3.trans z3.symm⟩
theorem liOk.mono {P P' : fr_P} {cI : ClassId} {lc lg L nm m : Nat} {mn si fo ol li mn' si' fo' ol' li' : Nat → Int32} {fnm : Nat → Int32} {g : Nat → Nat} (hp : PM P P') (hL : L < lc) (h1 : ∀ L, L < lc → mn' L = mn L ∧ si' L = si L ∧ fo' L = fo L ∧ ol' L = ol L) (h2 : ∀ i, i < 150 * lc → li' i = li i) (h : liOk P cI mn si fo ol li lg L nm m fnm g) : liOk P' cI mn' si' fo' ol' li' lg L nm m fnm g := by
  obtain ⟨p1, p2, p3, p4, p5⟩ := h
  obtain ⟨e1, e2, e3, e4⟩ := h1 L hL
  refine ⟨?_, hp _ _ p2 (plain_a _ _ _), e1.trans p3, p4, fun k hk => ?_⟩
  · rw [e2, e3, e4]
    exact hp _ _ p1 (plain_1 _)
  · obtain ⟨y1, y2, y3⟩ := p5 k hk
    exact ⟨y1, y2, (h2 _ (by omega)).trans y3⟩
theorem tkOk.mono {P P' : fr_P} {cI cZ : ClassId} {pg lc ps rw lc' ps' rw' : Nat} {mn si fo ol li pl pf pr pa pt rr rd rg tp md le mn' si' fo' ol' li' pl' pf' pr' pa' pt' rr' rd' rg' tp' md' le' : Nat → Int32} {f f' : Nat → Option Nat} {Fr Fr' : Nat → Nat} {j ta lg nm F m L Q : Nat} {pq : Option Nat} {fnm : Nat → Int32} {g : Nat → Nat} (hp : PM P P') (h1 : lc ≤ lc') (h2 : ps ≤ ps') (h3 : rw ≤ rw') (hl1 : ∀ L, L < lc → mn' L = mn L ∧ si' L = si L ∧ fo' L = fo L ∧ ol' L = ol L) (hl2 : ∀ i, i < 150 * lc → li' i = li i) (hpl : ∀ Q, Q < ps → pl' Q = pl Q ∧ pf' Q = pf Q ∧ pr' Q = pr Q ∧ pa' Q = pa Q ∧ pt' Q = pt Q) (hrr : ∀ i, i < rw → rr' i = rr i ∧ rd' i = rd i ∧ rg' i = rg i)
    (hta : ∀ fs, P ta = some (.inr (3, fs)) → P' ta = some (.inr (3, fs))) (hj : f' j = f j ∧ tp' j = tp j ∧ md' j = md j ∧ le' j = le j) (hFr : le j = -1 → Fr' L = Fr L) (h : tkOk P cI cZ pg lc ps rw mn si fo ol li pl pf pr pa pt rr rd rg tp md le f Fr j ta lg nm F m L Q pq fnm g) : tkOk P' cI cZ pg lc' ps' rw' mn' si' fo' ol' li' pl' pf' pr' pa' pt' rr' rd' rg' tp' md' le' f' Fr' j ta lg nm F m L Q pq fnm g := by
  obtain ⟨p1, p2, p3, p4, p5, p6, p7, p8, p9, p10, p11⟩ := h
  obtain ⟨e1, e2, e3, e4⟩ := hj
  obtain ⟨y1, y2, -⟩ := hpl Q p4
  refine ⟨e1.trans p1, by rw [e3]; exact hta _ p2, p3.mono hp p5 hl1 hl2, by omega, by omega, e2.trans p6, y1.trans p7, y2.trans p8, p9, by rw [e3]; exact p10, ?_⟩
  rcases p11 with ⟨z1, z2, z3⟩ | ⟨R, ad, z1, z2, z3⟩
  · exact Or.inl ⟨e4.trans z1, z2, (hFr z1).trans z3⟩
  · exact Or.inr ⟨R, ad, e4.trans z1, z2, z3.mono hp h1 h2 h3 (fun L hL => (hl1 L hL).2.2.1) hpl hrr⟩
theorem pgOk.new {P : fr_P} {cI cZ : ClassId} {lc ps rw L F m ad pn pd pz : Nat} {fo pl pf pr pa pt rr rd rg rr' rd' rg' dy dl fn fd fz : Nat → Int32} {nt fo9 : Int32} {K : List Nat} (hL : L < lc) (hfo : fo L = fo9) (p1 : P ad = some (.inr (2, [.int fo9, .ref pn, .ref pd, .ref pz, .int (nI K.length), .int nt]))) (p2 : P pn = some (.inl (cI, m, .inl fn))) (p3 : P pd = some (.inl (cI, m, .inl fd))) (p4 : P pz = some (.inl (cZ, m, .inl fz))) (hK : K.length ≤ m) (hm : m ≤ 50)
    (hx : rowsOf K 0 dy dl (fun _ => 0) (fun _ => 0) (fun _ => 0) fn fd fz) (hr : rowsOf K rw dy dl rr rd rg rr' rd' rg') : pgOk P cI cZ lc (ps + 1) (rw + K.length) fo (upd pl ps (nI L)) (upd pf ps (nI F)) (upd pr ps (nI K.length)) (upd pa ps (nI rw)) (upd pt ps nt) rr' rd' rg' ad ps := by
  refine ⟨L, F, K.length, rw, m, pn, pd, pz, fn, fd, fz, by omega, hL, pk_us, pk_us, pk_us, pk_us, Nat.le_refl _, ⟨?_, p2, p3, p4, hK, hm⟩, fun x hx9 => ?_⟩
  · rw [pk_us, hfo]; exact p1
  · obtain ⟨v, hv⟩ : ∃ v, K[x]? = some v := ⟨_, List.getElem?_eq_getElem hx9⟩
    obtain ⟨y1, y2, y3⟩ := hx.2 x v hv
    obtain ⟨z1, z2, z3⟩ := hr.2 x v hv
    rw [Nat.zero_add] at y1 y2 y3
    exact ⟨y1.trans z1.symm, y2.trans z2.symm, y3.trans z3.symm⟩
/-- what the class's contracts ask of a token -/
theorem tkOk.xTok {C : fr_C} {cI cZ : ClassId} {pg lc ps rw : Nat} {mn si fo ol li pl pf pr pa pt rr rd rg tp md le : Nat → Int32} {f : Nat → Option Nat} {Fr : Nat → Nat} {j ta lg nm F m L Q : Nat} {pq : Option Nat} {fnm : Nat → Int32} {g : Nat → Nat} (h : tkOk (fun a => C (1, a)) cI cZ pg lc ps rw mn si fo ol li pl pf pr pa pt rr rd rg tp md le f Fr j ta lg nm F m L Q pq fnm g) : xTok C cI f j ta lg nm (F + pg) m (ol L) (fo L) (si L) (md j) pq fnm g := by
  obtain ⟨p1, p2, ⟨l1, l2, l3, l4, l5⟩, p4, p5, p6, p7, p8, p9, p10, p11⟩ := h
  refine ⟨p1, p2, l1, l2, l4, by omega, fun k hk => ⟨(l5 k hk).1, (l5 k hk).2.1⟩, fun ad e => ?_⟩
  rcases p11 with ⟨-, z2, -⟩ | ⟨R, ad', z1, z2, z3⟩
  · rw [e] at z2; cases z2
  · rw [e] at z2; cases z2
    obtain ⟨L', F', c, a, m', pn, pd, pz, fn, fd, fz, -, -, -, -, -, -, -, ⟨q1, -⟩, -⟩ := z3
    exact ⟨_, _, _, _, _, _, q1⟩
theorem tok_fun {cI cZ cJ cP cO : ClassId} {e0 : Nat} {b : Nat → Nat} {C : fr_C} {N : Nat} {pg gr lf n an lc po ps rw tk dt n0 : Nat} {th mc : Int32} {st dy dl ac hd mn si fo ol li pl pf pr pa pt rr rd rg tp md le aw cs : Nat → Int32} {lp f : Nat → Option Nat} {Fr : Nat → Nat} {o30 : Nat → Int64} (hC : CpB cI cZ cJ cP cO e0 b C N pg gr lf n an lc po ps rw tk dt n0 th mc st dy dl ac hd mn si fo ol li pl pf pr pa pt rr rd rg tp md le aw cs lp f Fr o30) (hN : N ≤ 512) : ∃ (TA LG NM FF ML TL TQ : Nat → Nat) (PQ : Nat → Option Nat) (FN : Nat → Nat → Int32) (GG : Nat → Nat → Nat), ∀ j, j < tk → tkOk (fun a => C (1, a)) cI cZ pg lc ps rw mn si fo ol li pl pf pr pa pt rr rd rg tp md le f Fr j (TA j) (LG j) (NM j) (FF j) (ML j) (TL j) (TQ j) (PQ j) (FN j) (GG j) := by
  have hT := hC.2.2.2.2.2.2.1
  have h : ∀ j, ∃ T : Nat × Nat × Nat × Nat × Nat × Nat × Nat × Option Nat × (Nat → Int32) × (Nat → Nat), j < tk → tkOk (fun a => C (1, a)) cI cZ pg lc ps rw mn si fo ol li pl pf pr pa pt rr rd rg tp md le f Fr j T.1 T.2.1 T.2.2.1 T.2.2.2.1 T.2.2.2.2.1 T.2.2.2.2.2.1 T.2.2.2.2.2.2.1 T.2.2.2.2.2.2.2.1 T.2.2.2.2.2.2.2.2.1 T.2.2.2.2.2.2.2.2.2 := by
    intro j
    by_cases hj : j < tk
    · obtain ⟨ta, lg, nm, F, m, L, Q, pq, fnm, g, h⟩ := hT j hj
      exact ⟨(ta, lg, nm, F, m, L, Q, pq, fnm, g), fun _ => h⟩
    · exact ⟨(0, 0, 0, 0, 0, 0, 0, none, fun _ => 0, fun _ => 0), fun y => absurd y hj⟩
  obtain ⟨T, hT⟩ := Classical.axiomOfChoice h
  exact ⟨fun j => (T j).1, fun j => (T j).2.1, fun j => (T j).2.2.1, fun j => (T j).2.2.2.1, fun j => (T j).2.2.2.2.1, fun j => (T j).2.2.2.2.2.1, fun j => (T j).2.2.2.2.2.2.1, fun j => (T j).2.2.2.2.2.2.2.1, fun j => (T j).2.2.2.2.2.2.2.2.1, fun j => (T j).2.2.2.2.2.2.2.2.2, hT⟩
set_option maxHeartbeats 4000000 in
set_option maxRecDepth 100000 in
theorem s_about {cI cZ cJ cP cO : ClassId} {e0 : Nat} {b : Nat → Nat} {C : fr_C} {N : Nat} {pg gr lf n an lc po ps rw tk dt n0 : Nat} {th mc : Int32} {st dy dl ac hd mn si fo ol li pl pf pr pa pt rr rd rg tp md le aw cs : Nat → Int32} {lp f : Nat → Option Nat} {Fr : Nat → Nat} {o30 : Nat → Int64} (hC : CpB cI cZ cJ cP cO e0 b C N pg gr lf n an lc po ps rw tk dt n0 th mc st dy dl ac hd mn si fo ol li pl pf pr pa pt rr rd rg tp md le aw cs lp f Fr o30) (hN : N ≤ 512) {TA LG NM FF0 ML TL TQ : Nat → Nat} {PQ : Nat → Option Nat} {FN : Nat → Nat → Int32} {GG : Nat → Nat → Nat} (hTk : ∀ j, j < tk → tkOk (fun a => C (1, a)) cI cZ pg lc ps rw mn si fo ol li pl pf pr pa pt rr rd rg tp md le f Fr j (TA j) (LG j) (NM j) (FF0 j) (ML j) (TL j) (TQ j) (PQ j) (FN j) (GG j)) (tok what : Int32) {r1 r2 : Int32} {u1 u2 : Unit} (w1 : (fun (HV MD : Nat → Int32) (FF : Nat → Nat) => fun (r : Int32) (u : Unit) => (¬ inN tok tk ∧ r = -1) ∨ (∃ j : Nat, j < tk ∧ tok = nI j ∧ ((what = 0 ∧ r = HV j) ∨ (what = 1 ∧ r = MD j) ∨ (what = 2 ∧ r = nI (ML j) - nI (FF j)) ∨ (¬ what = 0 ∧ ¬ what = 1 ∧ ¬ what = 2 ∧ r = -1)))) (fun j => ol (TL j)) md (fun j => FF0 j + pg) r1 u1) (w2 : (fun (r : Int32) (u : Unit) => (¬ inN tok tk ∧ r = -1) ∨ (∃ j : Nat, j < tk ∧ tok = nI j ∧ ∃ Q L : Nat, Q < 4600 ∧ L < 30 ∧ tp j = nI Q ∧ pl Q = nI L ∧ ((what = 0 ∧ r = ol L) ∨ (what = 1 ∧ r = md j) ∨ (what = 2 ∧ r = mn L - pf Q - nI pg) ∨ (¬ what = 0 ∧ ¬ what = 1 ∧ ¬ what = 2 ∧ r = -1)))) r2 u2) : r1 = r2 ∧ Cpl cI cZ cJ cP cO e0 b (fr_up C (0, 40) (.inr (5, fM b 0 pg gr lf an n lc ps rw tk po))) (N + 1) := by
  obtain ⟨⟨h0, h1, h2, h3, h4, h5, ⟨od, h6⟩, h8, h9⟩, ⟨m0, m6, m7, m8, m9, m10, m12, m13, m14, m15, m16, m18, m19, m20, m21, m22, m24, m25, m26, m28, m29, m30, m31, m32⟩, ⟨h7, hls⟩, h30, hnB, hPL⟩ := hC
  obtain ⟨g1, g2, g3, g4, g5, g6, g7, g8, g9, g10⟩ := id hnB
  refine ⟨?_, ⟨pg, gr, lf, n, an, lc, po, ps, rw, tk, dt, n0, 0, mc, st, dy, dl, ac, hd, mn, si, fo, ol, li, pl, pf, pr, pa, pt, rr, rd, rg, tp, md, le, aw, cs, lp, f, Fr, o30, ⟨h0, h1, h2, h3, h4, h5, ⟨od, h6⟩, h8, h9⟩, ⟨rfl, m6, m7, m8, m9, m10, m12, m13, m14, m15, m16, m18, m19, m20, m21, m22, m24, m25, m26, m28, m29, m30, m31, m32⟩, ⟨h7, hls⟩, h30, hnB.next, hPL⟩⟩
  have w1 := w1
  have w2 := w2
  rcases w1 with ⟨a1, rfl⟩ | ⟨aj, ah, ae, aq⟩
  · rcases w2 with ⟨d1, rfl⟩ | ⟨dj, dh, de, dq⟩
    · rfl
    · exact absurd ⟨_, dh, de⟩ a1
  · rcases w2 with ⟨d1, rfl⟩ | ⟨dj, dh, de, Q, L, d1, d2, d3, d4, dq⟩
    · exact absurd ⟨_, ah, ae⟩ d1
    · obtain rfl := inN_j (by omega) ah dh ae de
      obtain ⟨p1, p2, ⟨l1, l2, l3, l4, l5⟩, p4, p5, p6, p7, p8, p9, p10, p11⟩ := hTk aj ah
      obtain rfl : TQ aj = Q := (nI_eq (by omega) (by omega)).mp (p6.symm.trans d3)
      obtain rfl : TL aj = L := (nI_eq (by omega) (by omega)).mp (p7.symm.trans d4)
      have hsub : nI (ML aj) - nI (FF0 aj + pg) = mn (TL aj) - pf (TQ aj) - nI pg := by
        rw [l3, p8, pk_sub (by omega), pk_sub (by omega), pk_sub (by omega)]
        exact congrArg nI (by omega)
      rcases aq with ⟨y, e⟩ | ⟨y, e⟩ | ⟨y, e⟩ | ⟨y1, y2, y3, e⟩ <;> rcases dq with ⟨y', e'⟩ | ⟨y', e'⟩ | ⟨y', e'⟩ | ⟨y1', y2', y3', e'⟩ <;> first | (exact absurd (y.symm.trans y') (by decide)) | (exact e.trans e'.symm) | (exact (e.trans hsub).trans e'.symm) | contradiction
