theorem nI_neg {Q : Nat} (h : Q < 2 ^ 31) : ¬ nI Q < 0 := nI_pos h
theorem nI_ne1 {Q : Nat} (h : Q < 2 ^ 31) : ¬ nI Q = -1 := fun q => nI_pos h (by rw [q]; decide)
/-- the class's page, read in two ways -/
theorem pg_same {C : fr_C} {cI cZ : ClassId} {lc ps rw : Nat} {fo pl pf pr pa pt rr rd rg : Nat → Int32} {ad Q m9 ct : Nat} {fo9 nt9 : Int32} {fn9 fd9 fz9 : Nat → Int32} (h : pgOk (fun a => C (1, a)) cI cZ lc ps rw fo pl pf pr pa pt rr rd rg ad Q) (hx : xPg C cI cZ ad m9 ct fo9 nt9 fn9 fd9 fz9) :
    ∃ L F a : Nat, Q < ps ∧ L < lc ∧ pl Q = nI L ∧ pf Q = nI F ∧ pr Q = nI ct ∧ pa Q = nI a ∧ a + ct ≤ rw ∧ fo9 = fo L ∧ nt9 = pt Q ∧ ∀ x, x < ct → fn9 x = rr (a + x) ∧ fd9 x = rd (a + x) ∧ fz9 x = rg (a + x) := by
  obtain ⟨L, F, c, a, m, pn, pd, pz, fn, fd, fz, q1, q2, q3, q4, q5, q6, q7, ⟨p1, p2, p3, p4, p5, p6⟩, q8⟩ := h
  obtain ⟨pn9, pd9, pz9, g1, g2, g3, g4, g5, g6⟩ := hx
  have e := g1.symm.trans p1
  simp only [Option.some.injEq, Sum.inr.injEq, Prod.mk.injEq, List.cons.injEq, Value.int.injEq, Value.ref.injEq, true_and, and_true] at e
  obtain ⟨e1, e2, e3, e4, e5, e6⟩ := e
  obtain rfl : ct = c := (nI_eq (by omega) (by omega)).mp e5
  subst e2; subst e3; subst e4
  have f2 := g2.symm.trans p2
  have f3 := g3.symm.trans p3
  have f4 := g4.symm.trans p4
  simp only [Option.some.injEq, Sum.inl.injEq, Prod.mk.injEq, true_and] at f2 f3 f4
  obtain ⟨-, f2⟩ := f2
  obtain ⟨-, f3⟩ := f3
  obtain ⟨-, f4⟩ := f4
  subst f2; subst f3; subst f4
  exact ⟨L, F, a, q1, q2, q3, q4, q5, q6, q7, e1, e6, q8⟩
theorem pg_xPg {C : fr_C} {cI cZ : ClassId} {lc ps rw : Nat} {fo pl pf pr pa pt rr rd rg : Nat → Int32} {ad Q : Nat} (h : pgOk (fun a => C (1, a)) cI cZ lc ps rw fo pl pf pr pa pt rr rd rg ad Q) : ∃ (m9 ct : Nat) (fo9 nt9 : Int32) (fn9 fd9 fz9 : Nat → Int32), xPg C cI cZ ad m9 ct fo9 nt9 fn9 fd9 fz9 := by
  obtain ⟨L, F, c, a, m, pn, pd, pz, fn, fd, fz, q1, q2, q3, q4, q5, q6, q7, p, q8⟩ := h
  exact ⟨m, c, _, _, fn, fd, fz, pn, pd, pz, p⟩
theorem rw_4500 {pg gr lf n lc ps rw tk N : Nat} {dl : Nat → Int32} {Fr : Nat → Nat} (h : nB pg gr lf n lc ps rw tk N dl Fr) : rw ≤ 150 * lc ∧ rw ≤ 4500 := by
  obtain ⟨-, -, -, -, h5, -, -, h8, h9, -⟩ := h
  have := sumF_le (n := lc) h9
  omega
theorem what4 {w : Int32} : (w = 0 ∨ w = 1 ∨ w = 2 ∨ w = 3) ↔ inN w 4 := by
  constructor
  · rintro (rfl | rfl | rfl | rfl)
    · exact ⟨0, by decide, rfl⟩
    · exact ⟨1, by decide, rfl⟩
    · exact ⟨2, by decide, rfl⟩
    · exact ⟨3, by decide, rfl⟩
  · rintro ⟨j, hj, rfl⟩
    rcases (show j = 0 ∨ j = 1 ∨ j = 2 ∨ j = 3 by omega) with rfl | rfl | rfl | rfl
    · exact Or.inl rfl
    · exact Or.inr (Or.inl rfl)
    · exact Or.inr (Or.inr (Or.inl rfl))
    · exact Or.inr (Or.inr (Or.inr rfl))
set_option maxHeartbeats 4000000 in
set_option maxRecDepth 100000 in
theorem q_lp {cI cZ cJ cP cO : ClassId} {e0 : Nat} {b : Nat → Nat} {C : fr_C} {N : Nat} {pg gr lf n an lc po ps rw tk dt n0 : Nat} {th mc : Int32} {st dy dl ac hd mn si fo ol li pl pf pr pa pt rr rd rg tp md le aw cs : Nat → Int32} {lp f : Nat → Option Nat} {Fr : Nat → Nat} {o30 : Nat → Int64} (hC : CpB cI cZ cJ cP cO e0 b C N pg gr lf n an lc po ps rw tk dt n0 th mc st dy dl ac hd mn si fo ol li pl pf pr pa pt rr rd rg tp md le aw cs lp f Fr o30) (hN : N ≤ 512) : ∀ j pa, j < 10 → lp j = some pa → ∃ (m9 ct : Nat) (fo nt : Int32) (fn fd fz : Nat → Int32), xPg C cI cZ pa m9 ct fo nt fn fd fz := by
  obtain ⟨⟨h0, h1, h2, h3, h4, h5, ⟨od, h6⟩, h8, h9⟩, ⟨m0, m6, m7, m8, m9, m10, m12, m13, m14, m15, m16, m18, m19, m20, m21, m22, m24, m25, m26, m28, m29, m30, m31, m32⟩, ⟨h7, hls⟩, h30, hnB, hPL⟩ := hC
  obtain ⟨g1, g2, g3, g4, g5, g6, g7, g8, g9, g10⟩ := id hnB
  obtain ⟨hr1, hr2⟩ := rw_4500 hnB
  intro j ad hj e
  rcases hPL.1 j hj with ⟨-, y⟩ | ⟨Q, ad', -, y, hp⟩
  · rw [e] at y; cases y
  · rw [e] at y; cases y; exact pg_xPg hp
set_option maxHeartbeats 4000000 in
set_option maxRecDepth 100000 in
theorem q_lp2 {cI cZ cJ cP cO : ClassId} {e0 : Nat} {b : Nat → Nat} {C : fr_C} {N : Nat} {pg gr lf n an lc po ps rw tk dt n0 : Nat} {th mc : Int32} {st dy dl ac hd mn si fo ol li pl pf pr pa pt rr rd rg tp md le aw cs : Nat → Int32} {lp f : Nat → Option Nat} {Fr : Nat → Nat} {o30 : Nat → Int64} (hC : CpB cI cZ cJ cP cO e0 b C N pg gr lf n an lc po ps rw tk dt n0 th mc st dy dl ac hd mn si fo ol li pl pf pr pa pt rr rd rg tp md le aw cs lp f Fr o30) (hN : N ≤ 512) : ∀ j pa, j < 10 → lp j = some pa → ∃ (fo : Int32) (pn pd pz : Nat) (ct nt : Int32), C (1, pa) = some (.inr (2, [.int fo, .ref pn, .ref pd, .ref pz, .int ct, .int nt])) := by
  obtain ⟨⟨h0, h1, h2, h3, h4, h5, ⟨od, h6⟩, h8, h9⟩, ⟨m0, m6, m7, m8, m9, m10, m12, m13, m14, m15, m16, m18, m19, m20, m21, m22, m24, m25, m26, m28, m29, m30, m31, m32⟩, ⟨h7, hls⟩, h30, hnB, hPL⟩ := hC
  obtain ⟨g1, g2, g3, g4, g5, g6, g7, g8, g9, g10⟩ := id hnB
  obtain ⟨hr1, hr2⟩ := rw_4500 hnB
  intro j ad hj e
  rcases hPL.1 j hj with ⟨-, y⟩ | ⟨Q, ad', -, y, hp⟩
  · rw [e] at y; cases y
  · rw [e] at y; cases y
    obtain ⟨m9, ct, fo9, nt9, fn, fd, fz, pn, pd, pz, p1, -⟩ := pg_xPg hp
    exact ⟨_, _, _, _, _, _, p1⟩
set_option maxHeartbeats 4000000 in
set_option maxRecDepth 100000 in
theorem q_aw {cI cZ cJ cP cO : ClassId} {e0 : Nat} {b : Nat → Nat} {C : fr_C} {N : Nat} {pg gr lf n an lc po ps rw tk dt n0 : Nat} {th mc : Int32} {st dy dl ac hd mn si fo ol li pl pf pr pa pt rr rd rg tp md le aw cs : Nat → Int32} {lp f : Nat → Option Nat} {Fr : Nat → Nat} {o30 : Nat → Int64} (hC : CpB cI cZ cJ cP cO e0 b C N pg gr lf n an lc po ps rw tk dt n0 th mc st dy dl ac hd mn si fo ol li pl pf pr pa pt rr rd rg tp md le aw cs lp f Fr o30) (hN : N ≤ 512) : ∀ j, j < 10 → ¬ aw j < 0 → ∃ Q c a L : Nat, Q < 4600 ∧ c ≤ 4500 ∧ a + c ≤ 4500 ∧ L < 30 ∧ aw j = nI Q ∧ pr Q = nI c ∧ pa Q = nI a ∧ pl Q = nI L := by
  obtain ⟨⟨h0, h1, h2, h3, h4, h5, ⟨od, h6⟩, h8, h9⟩, ⟨m0, m6, m7, m8, m9, m10, m12, m13, m14, m15, m16, m18, m19, m20, m21, m22, m24, m25, m26, m28, m29, m30, m31, m32⟩, ⟨h7, hls⟩, h30, hnB, hPL⟩ := hC
  obtain ⟨g1, g2, g3, g4, g5, g6, g7, g8, g9, g10⟩ := id hnB
  obtain ⟨hr1, hr2⟩ := rw_4500 hnB
  intro j hj e
  rcases hPL.1 j hj with ⟨y, -⟩ | ⟨Q, ad', y, -, hp⟩
  · exact absurd (by rw [y]; decide) e
  · obtain ⟨L, F, c, a, m, pn, pd, pz, fn, fd, fz, q1, q2, q3, q4, q5, q6, q7, -⟩ := hp
    exact ⟨Q, c, a, L, by omega, by omega, by omega, by omega, y, q5, q6, q3⟩
set_option maxHeartbeats 4000000 in
set_option maxRecDepth 100000 in
theorem q_aw2 {cI cZ cJ cP cO : ClassId} {e0 : Nat} {b : Nat → Nat} {C : fr_C} {N : Nat} {pg gr lf n an lc po ps rw tk dt n0 : Nat} {th mc : Int32} {st dy dl ac hd mn si fo ol li pl pf pr pa pt rr rd rg tp md le aw cs : Nat → Int32} {lp f : Nat → Option Nat} {Fr : Nat → Nat} {o30 : Nat → Int64} (hC : CpB cI cZ cJ cP cO e0 b C N pg gr lf n an lc po ps rw tk dt n0 th mc st dy dl ac hd mn si fo ol li pl pf pr pa pt rr rd rg tp md le aw cs lp f Fr o30) (hN : N ≤ 512) : ∀ j, j < 10 → ¬ aw j < 0 → inN (aw j) 4600 := by
  obtain ⟨⟨h0, h1, h2, h3, h4, h5, ⟨od, h6⟩, h8, h9⟩, ⟨m0, m6, m7, m8, m9, m10, m12, m13, m14, m15, m16, m18, m19, m20, m21, m22, m24, m25, m26, m28, m29, m30, m31, m32⟩, ⟨h7, hls⟩, h30, hnB, hPL⟩ := hC
  obtain ⟨g1, g2, g3, g4, g5, g6, g7, g8, g9, g10⟩ := id hnB
  obtain ⟨hr1, hr2⟩ := rw_4500 hnB
  intro j hj e
  rcases hPL.1 j hj with ⟨y, -⟩ | ⟨Q, ad', y, -, hp⟩
  · exact absurd (by rw [y]; decide) e
  · obtain ⟨L, F, c, a, m, pn, pd, pz, fn, fd, fz, q1, -⟩ := hp
    exact ⟨Q, by omega, y⟩
set_option maxHeartbeats 4000000 in
set_option maxRecDepth 100000 in
theorem q_tp {cI cZ cJ cP cO : ClassId} {e0 : Nat} {b : Nat → Nat} {C : fr_C} {N : Nat} {pg gr lf n an lc po ps rw tk dt n0 : Nat} {th mc : Int32} {st dy dl ac hd mn si fo ol li pl pf pr pa pt rr rd rg tp md le aw cs : Nat → Int32} {lp f : Nat → Option Nat} {Fr : Nat → Nat} {o30 : Nat → Int64} (hC : CpB cI cZ cJ cP cO e0 b C N pg gr lf n an lc po ps rw tk dt n0 th mc st dy dl ac hd mn si fo ol li pl pf pr pa pt rr rd rg tp md le aw cs lp f Fr o30) (hN : N ≤ 512) : ∀ j, j < tk → ∃ Q L : Nat, Q < 4600 ∧ L < 30 ∧ tp j = nI Q ∧ pl Q = nI L := by
  obtain ⟨⟨h0, h1, h2, h3, h4, h5, ⟨od, h6⟩, h8, h9⟩, ⟨m0, m6, m7, m8, m9, m10, m12, m13, m14, m15, m16, m18, m19, m20, m21, m22, m24, m25, m26, m28, m29, m30, m31, m32⟩, ⟨h7, hls⟩, h30, hnB, hPL⟩ := hC
  obtain ⟨g1, g2, g3, g4, g5, g6, g7, g8, g9, g10⟩ := id hnB
  obtain ⟨hr1, hr2⟩ := rw_4500 hnB
  intro j hj
  obtain ⟨ta, lg, nm, F, m, L, Q, pq, fnm, g, -, -, -, y1, y2, y3, y4, -⟩ := hPL.2.1 j hj
  exact ⟨Q, L, by omega, by omega, y3, y4⟩
set_option maxHeartbeats 4000000 in
set_option maxRecDepth 100000 in
theorem s_token {cI cZ cJ cP cO : ClassId} {e0 : Nat} {b : Nat → Nat} {C : fr_C} {N : Nat} {pg gr lf n an lc po ps rw tk dt n0 : Nat} {th mc : Int32} {st dy dl ac hd mn si fo ol li pl pf pr pa pt rr rd rg tp md le aw cs : Nat → Int32} {lp f : Nat → Option Nat} {Fr : Nat → Nat} {o30 : Nat → Int64} (hC : CpB cI cZ cJ cP cO e0 b C N pg gr lf n an lc po ps rw tk dt n0 th mc st dy dl ac hd mn si fo ol li pl pf pr pa pt rr rd rg tp md le aw cs lp f Fr o30) (hN : N ≤ 512) (h : Int32) {r1 r2 : Int32} {u1 : Unit} {u2 : Unit} (w1 : (fun (r : Int32) (u : Unit) => (¬ inN h 10 ∧ r = -1) ∨ (∃ j : Nat, j < 10 ∧ h = nI j ∧ ((lp j = none ∧ r = -1) ∨ (∃ (pa : Nat) (fo : Int32) (pn pd pz : Nat) (ct nt : Int32), lp j = some pa ∧ C (1, pa) = some (.inr (2, [.int fo, .ref pn, .ref pd, .ref pz, .int ct, .int nt])) ∧ r = nt)))) r1 u1) (w2 : (fun (C : fr_C) => fun (r : Int32) (u : Unit) => (¬ inN h 10 ∧ r = -1) ∨ (∃ j : Nat, j < 10 ∧ h = nI j ∧ ((aw j < 0 ∧ r = -1) ∨ (∃ Q : Nat, Q < 4600 ∧ aw j = nI Q ∧ r = pt Q)))) C r2 u2) : r1 = r2 ∧ Cpl cI cZ cJ cP cO e0 b (fr_up C (0, 40) (.inr (5, fM b 0 pg gr lf an n lc ps rw tk po))) (N + 1) := by
  obtain ⟨⟨h0, h1, h2, h3, h4, h5, ⟨od, h6⟩, h8, h9⟩, ⟨m0, m6, m7, m8, m9, m10, m12, m13, m14, m15, m16, m18, m19, m20, m21, m22, m24, m25, m26, m28, m29, m30, m31, m32⟩, ⟨h7, hls⟩, h30, hnB, hPL⟩ := hC
  obtain ⟨g1, g2, g3, g4, g5, g6, g7, g8, g9, g10⟩ := id hnB
  have hfin : Cpl cI cZ cJ cP cO e0 b (fr_up C (0, 40) (.inr (5, fM b 0 pg gr lf an n lc ps rw tk po))) (N + 1) := ⟨pg, gr, lf, n, an, lc, po, ps, rw, tk, dt, n0, 0, mc, st, dy, dl, ac, hd, mn, si, fo, ol, li, pl, pf, pr, pa, pt, rr, rd, rg, tp, md, le, aw, cs, lp, f, Fr, o30, ⟨h0, h1, h2, h3, h4, h5, ⟨od, h6⟩, h8, h9⟩, ⟨rfl, m6, m7, m8, m9, m10, m12, m13, m14, m15, m16, m18, m19, m20, m21, m22, m24, m25, m26, m28, m29, m30, m31, m32⟩, ⟨h7, hls⟩, h30, hnB.next, hPL⟩
  refine ⟨?_, hfin⟩
  have w1 := w1
  have w2 := w2
  rcases w1 with ⟨a1, rfl⟩ | ⟨aj, ah, ae, aq⟩
  · rcases w2 with ⟨d1, rfl⟩ | ⟨dj, dh, de, dq⟩
    · rfl
    · exact absurd ⟨_, dh, de⟩ a1
  · rcases w2 with ⟨d1, rfl⟩ | ⟨dj, dh, de, dq⟩
    · exact absurd ⟨_, ah, ae⟩ d1
    · obtain rfl := inN_j (by decide) ah dh ae de
      rcases hPL.1 aj ah with ⟨y1, y2⟩ | ⟨Q, ad, y1, y2, hp⟩
      · rcases aq with ⟨-, rfl⟩ | ⟨pa9, fo9, pn, pd, pz, ct, nt, z1, -⟩
        · rcases dq with ⟨-, rfl⟩ | ⟨Q, hQ, z2, -⟩
          · rfl
          · exact absurd (z2.symm.trans y1) (nI_ne1 (by omega))
        · rw [y2] at z1; cases z1
      · rcases aq with ⟨z1, -⟩ | ⟨pa9, fo9, pn, pd, pz, ct, nt, z1, z2, z3⟩
        · rw [y2] at z1; cases z1
        · rw [y2] at z1; cases z1
          obtain ⟨L, F, c, a, m, pn', pd', pz', fn, fd, fz, q1, q2, q3, q4, q5, q6, q7, ⟨p1, -⟩, -⟩ := hp
          rcases dq with ⟨z4, -⟩ | ⟨Q', hQ, z4, z5⟩
          · exact absurd z4 (by rw [y1]; exact nI_pos (by omega))
          · obtain rfl : Q = Q' := (nI_eq (by omega) (by omega)).mp (y1.symm.trans z4)
            have e := z2.symm.trans p1
            simp only [Option.some.injEq, Sum.inr.injEq, Prod.mk.injEq, List.cons.injEq, Value.int.injEq, Value.ref.injEq, true_and, and_true] at e
            exact z3.trans (e.2.2.2.2.2.trans z5.symm)
set_option maxHeartbeats 4000000 in
set_option maxRecDepth 100000 in
theorem s_row {cI cZ cJ cP cO : ClassId} {e0 : Nat} {b : Nat → Nat} {C : fr_C} {N : Nat} {pg gr lf n an lc po ps rw tk dt n0 : Nat} {th mc : Int32} {st dy dl ac hd mn si fo ol li pl pf pr pa pt rr rd rg tp md le aw cs : Nat → Int32} {lp f : Nat → Option Nat} {Fr : Nat → Nat} {o30 : Nat → Int64} (hC : CpB cI cZ cJ cP cO e0 b C N pg gr lf n an lc po ps rw tk dt n0 th mc st dy dl ac hd mn si fo ol li pl pf pr pa pt rr rd rg tp md le aw cs lp f Fr o30) (hN : N ≤ 512) (h i what : Int32) {r1 r2 : Int32} {u1 : fr_C} {u2 : Int32} (w1 : (fun (r : Int32) (u : fr_C) => (r = 1 ∧ ¬ (∃ (j x9 pa m9 ct : Nat) (fo nt : Int32) (fn fd fz : Nat → Int32), rowOk C cI cZ lp h i what j x9 pa m9 ct fo nt fn fd fz) ∧ u = C) ∨ (r = 0 ∧ ∃ (j x9 pa m9 ct : Nat) (fo nt : Int32) (fn fd fz : Nat → Int32) (v : Int32), rowOk C cI cZ lp h i what j x9 pa m9 ct fo nt fn fd fz ∧ rowV what v (fn x9) (fd x9) (fz x9) fo ∧ u = fr_up C (0, 30) (.inl (cJ, 1, .inr (.inl (vp_updL o30 0 v.toInt64)))))) r1 u1) (w2 : (fun (C : fr_C) => fun (r : Int32) (u : Int32) => (u = 1 ∧ r = 0 ∧ (¬ inN h 10 ∨ ∃ j : Nat, j < 10 ∧ h = nI j ∧ (aw j < 0 ∨ ∃ Q c : Nat, Q < 4600 ∧ c ≤ 4500 ∧ aw j = nI Q ∧ pr Q = nI c ∧ (¬ inN what 4 ∨ ¬ inN i c)))) ∨ (u = 0 ∧ ∃ j Q c x L a : Nat, j < 10 ∧ h = nI j ∧ Q < 4600 ∧ c ≤ 4500 ∧ aw j = nI Q ∧ pr Q = nI c ∧ x < c ∧ i = nI x ∧ a ≤ 4500 ∧ L < 30 ∧ pa Q = nI a ∧ pl Q = nI L ∧ ((what = 0 ∧ r = rr (a + x)) ∨ (what = 1 ∧ r = rd (a + x)) ∨ (what = 2 ∧ r = if rg (a + x) = 0 then 0 else 1) ∨ (what = 3 ∧ r = fo L)))) u1 r2 u2) : r1 = u2 ∧ (∃ o9, (fr_up u1 (0, 40) (.inr (5, fM b u2 pg gr lf an n lc ps rw tk po))) (0, 30) = some (.inl (cJ, 1, .inr (.inl o9))) ∧ (r1 = 0 → o9 0 = r2.toInt64)) ∧ (r1 = 0 ∨ r1 = 1) ∧ Cpl cI cZ cJ cP cO e0 b (fr_up u1 (0, 40) (.inr (5, fM b u2 pg gr lf an n lc ps rw tk po))) (N + 1) := by
  obtain ⟨⟨h0, h1, h2, h3, h4, h5, ⟨od, h6⟩, h8, h9⟩, ⟨m0, m6, m7, m8, m9, m10, m12, m13, m14, m15, m16, m18, m19, m20, m21, m22, m24, m25, m26, m28, m29, m30, m31, m32⟩, ⟨h7, hls⟩, h30, hnB, hPL⟩ := hC
  obtain ⟨g1, g2, g3, g4, g5, g6, g7, g8, g9, g10⟩ := id hnB
  obtain ⟨hr1, hr2⟩ := rw_4500 hnB
  have w1 := w1
  have w2 := w2
  rcases w1 with ⟨rfl, hno, rfl⟩ | ⟨rfl, j, x9, ad, mq9, ct, fo9, nt9, fn, fd, fz, v, hok, hv, rfl⟩
  · rcases w2 with ⟨rfl, rfl, -⟩ | ⟨rfl, j, Q, c, x, L, a, k1, k2, k3, k4, k5, k6, k7, k8, k9, k10, k11, k12, k13⟩
    · exact ⟨rfl, ⟨o30, h30, fun y => absurd y (by decide)⟩, Or.inr rfl, ⟨pg, gr, lf, n, an, lc, po, ps, rw, tk, dt, n0, 1, mc, st, dy, dl, ac, hd, mn, si, fo, ol, li, pl, pf, pr, pa, pt, rr, rd, rg, tp, md, le, aw, cs, lp, f, Fr, o30, ⟨h0, h1, h2, h3, h4, h5, ⟨od, h6⟩, h8, h9⟩, ⟨rfl, m6, m7, m8, m9, m10, m12, m13, m14, m15, m16, m18, m19, m20, m21, m22, m24, m25, m26, m28, m29, m30, m31, m32⟩, ⟨h7, hls⟩, h30, hnB.next, hPL⟩⟩
    · refine absurd ?_ hno
      rcases hPL.1 j k1 with ⟨y1, -⟩ | ⟨Q', ad, y1, y2, hp⟩
      · exact absurd (k5.symm.trans y1) (nI_ne1 (by omega))
      · obtain ⟨m9, ct, fo9, nt9, fn, fd, fz, hx⟩ := pg_xPg hp
        obtain ⟨L', F', a', q1, q2, q3, q4, q5, q6, q7, -⟩ := pg_same hp hx
        obtain rfl : Q = Q' := (nI_eq (by omega) (by omega)).mp (k5.symm.trans y1)
        obtain rfl : c = ct := (nI_eq (by omega) (by omega)).mp (k6.symm.trans q5)
        exact ⟨j, x, ad, m9, c, fo9, nt9, fn, fd, fz, k1, k2, y2, hx, k7, k8, by rcases k13 with ⟨y, -⟩ | ⟨y, -⟩ | ⟨y, -⟩ | ⟨y, -⟩; exact Or.inl y; exact Or.inr (Or.inl y); exact Or.inr (Or.inr (Or.inl y)); exact Or.inr (Or.inr (Or.inr y))⟩
  · obtain ⟨k1, k2, k3, hx, k5, k6, k7⟩ := hok
    rcases hPL.1 j k1 with ⟨-, y2⟩ | ⟨Q, ad', y1, y2, hp⟩
    · rw [k3] at y2; cases y2
    · rw [k3] at y2; cases y2
      obtain ⟨L, F, a, q1, q2, q3, q4, q5, q6, q7, q8, q9, q10⟩ := pg_same hp hx
      rcases w2 with ⟨rfl, rfl, hb⟩ | ⟨rfl, j', Q', c, x, L', a', z1, z2, z3, z4, z5, z6, z7, z8, z9, z10, z11, z12, z13⟩
      · refine absurd hb ?_
        rintro (y | ⟨j', z1, z2, z3 | ⟨Q', c, z4, z5, z6, z7, z8⟩⟩)
        · exact y ⟨j, k1, k2⟩
        · obtain rfl := inN_j (by decide) k1 z1 k2 z2
          exact absurd z3 (by rw [y1]; exact nI_pos (by omega))
        · obtain rfl := inN_j (by decide) k1 z1 k2 z2
          obtain rfl : Q = Q' := (nI_eq (by omega) (by omega)).mp (y1.symm.trans z6)
          rcases z8 with y | y
          · exact y (what4.mp k7)
          · obtain rfl : ct = c := (nI_eq (by omega) (by omega)).mp (q5.symm.trans z7)
            exact y ⟨x9, k5, k6⟩
      · obtain rfl := inN_j (by decide) k1 z1 k2 z2
        obtain rfl : Q = Q' := (nI_eq (by omega) (by omega)).mp (y1.symm.trans z5)
        obtain rfl : ct = c := (nI_eq (by omega) (by omega)).mp (q5.symm.trans z6)
        obtain rfl : x9 = x := (nI_eq (by omega) (by omega)).mp (k6.symm.trans z8)
        obtain rfl : a = a' := (nI_eq (by omega) (by omega)).mp (q6.symm.trans z11)
        obtain rfl : L = L' := (nI_eq (by omega) (by omega)).mp (q3.symm.trans z12)
        obtain ⟨e1, e2, e3⟩ := q10 x9 k5
        have hvr : v = r2 := by
          rcases hv with ⟨y, e⟩ | ⟨y, e⟩ | ⟨y, e⟩ | ⟨y, e⟩ <;> rcases z13 with ⟨y', e'⟩ | ⟨y', e'⟩ | ⟨y', e'⟩ | ⟨y', e'⟩ <;> first | (exact absurd (y.symm.trans y') (by decide)) | (rw [e, e', e1]; done) | (rw [e, e', e2]; done) | (rw [e, e', e3]; done) | (rw [e, e', q8]; done)
        refine ⟨rfl, ⟨vp_updL o30 0 v.toInt64, rfl, fun _ => ?_⟩, Or.inl rfl, ⟨pg, gr, lf, n, an, lc, po, ps, rw, tk, dt, n0, 0, mc, st, dy, dl, ac, hd, mn, si, fo, ol, li, pl, pf, pr, pa, pt, rr, rd, rg, tp, md, le, aw, cs, lp, f, Fr, vp_updL o30 0 v.toInt64, ⟨h0, h1, h2, h3, h4, h5, ⟨od, h6⟩, h8, h9⟩, ⟨rfl, m6, m7, m8, m9, m10, m12, m13, m14, m15, m16, m18, m19, m20, m21, m22, m24, m25, m26, m28, m29, m30, m31, m32⟩, ⟨h7, hls⟩, rfl, hnB.next, hPL⟩⟩
        rw [hvr]
        simp [vp_updL]
