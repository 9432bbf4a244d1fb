theorem tm_iff {a c l : Nat} (ha : a ≤ 1000000000) (hc : c ≤ 1000000000) (hl : l ≤ 1000000) : (nI a ≤ nI c + nI l) ↔ (nI a - nI c ≤ nI l) := by
  rw [nI_add, Int32.le_iff_toInt_le, Int32.le_iff_toInt_le, nI_toInt (by omega), nI_toInt (by omega), nI_toInt (by omega), Int32.toInt_sub, nI_toInt (by omega), nI_toInt (by omega), Int.bmod_eq_of_le (by omega) (by omega)]
  omega
theorem kp_congr {q : Nat → Bool} {g g' : Nat → Nat} {a m : Nat} (h : ∀ i, i < m → g (a + i) = g' (a + i)) : kp q g a m = kp q g' a m := by
  induction m with
  | zero => rfl
  | succ m ih =>
    unfold kp
    rw [ih (fun i hi => h i (by omega)), h m (by omega)]
def rsErr (tk lf : Nat) (HV MD : Nat → Int32) (h tok t r : Int32) : Prop := (¬ inN h 10 ∧ r = -1) ∨ (inN h 10 ∧ ¬ inN t 1000000001 ∧ r = -2) ∨ (inN h 10 ∧ inN t 1000000001 ∧ ¬ inN tok tk ∧ r = -15) ∨ (∃ hh j : Nat, hh < 10 ∧ h = nI hh ∧ inN t 1000000001 ∧ j < tk ∧ tok = nI j ∧ (¬ HV j = h ∨ ¬ t ≤ MD j + nI lf) ∧ r = -15)
theorem rsErr_det {tk lf : Nat} {HV MD : Nat → Int32} {h tok t r1 r2 : Int32} (h1 : rsErr tk lf HV MD h tok t r1) (h2 : rsErr tk lf HV MD h tok t r2) : r1 = r2 := by
  rcases h1 with ⟨a1, ae⟩ | ⟨a1, a2, ae⟩ | ⟨a1, a2, a3, ae⟩ | ⟨ah, aj, a1, a2, a3, a4, a5, a6, ae⟩ <;> rcases h2 with ⟨d1, de⟩ | ⟨d1, d2, de⟩ | ⟨d1, d2, d3, de⟩ | ⟨dh, dj, d1, d2, d3, d4, d5, d6, de⟩ <;> first | (exact ae.trans de.symm) | contradiction | (exact absurd ⟨_, a1, a2⟩ d1) | (exact absurd ⟨_, d1, d2⟩ a1) | (exact absurd ⟨_, a4, a5⟩ d3) | (exact absurd ⟨_, d4, d5⟩ a3)
theorem rsErr_no {tk lf hh j : Nat} {HV MD : Nat → Int32} {h tok t r : Int32} (htk : tk < 2 ^ 31) (h1 : rsErr tk lf HV MD h tok t r) (d1 : hh < 10) (d2 : h = nI hh) (d3 : inN t 1000000001) (d4 : j < tk) (d5 : tok = nI j) (d6 : HV j = h) (d7 : t ≤ MD j + nI lf) : False := by
  rcases h1 with ⟨a1, ae⟩ | ⟨a1, a2, ae⟩ | ⟨a1, a2, a3, ae⟩ | ⟨ah, aj, a1, a2, a3, a4, a5, a6, ae⟩
  · exact a1 ⟨_, d1, d2⟩
  · exact a2 d3
  · exact a3 ⟨_, d4, d5⟩
  · obtain rfl := inN_j htk a4 d4 a5 d5
    rcases a6 with y | y
    · exact y d6
    · exact y d7
set_option maxHeartbeats 4000000 in
set_option maxRecDepth 100000 in
theorem q_mTok {cI cZ cJ cP cO : ClassId} {e0 : Nat} {b : Nat → Nat} {C : fr_C} {N : Nat} {pg gr lf n an lc po ps rw tk dt n0 : Nat} {th mc : Int32} {st dy dl ac hd mn si fo ol li pl pf pr pa pt rr rd rg tp md le aw cs : Nat → Int32} {lp f : Nat → Option Nat} {Fr : Nat → Nat} {o30 : Nat → Int64} (hC : CpB cI cZ cJ cP cO e0 b C N pg gr lf n an lc po ps rw tk dt n0 th mc st dy dl ac hd mn si fo ol li pl pf pr pa pt rr rd rg tp md le aw cs lp f Fr o30) (hN : N ≤ 512) : ∀ j, j < tk → ∃ Q L : Nat, mTok pg rw j Q L tp pl le pf mn li := by
  obtain ⟨⟨h0, h1, h2, h3, h4, h5, ⟨od, h6⟩, h8, h9⟩, ⟨m0, m6, m7, m8, m9, m10, m12, m13, m14, m15, m16, m18, m19, m20, m21, m22, m24, m25, m26, m28, m29, m30, m31, m32⟩, ⟨h7, hls⟩, h30, hnB, hPL⟩ := hC
  obtain ⟨g1, g2, g3, g4, g5, g6, g7, g8, g9, g10⟩ := id hnB
  intro j hj
  obtain ⟨ta, lg, nm, F, m, L, Q, pq, fnm, g, y1, y2, ⟨l1, l2, l3, l4, l5⟩, y4, y5, y6, y7, y8, y9, y10, y11⟩ := hPL.2.1 j hj
  refine ⟨Q, L, by omega, by omega, y6, y7, fun hn => ?_, fun hn => ?_⟩
  · rcases y11 with ⟨z1, -⟩ | ⟨R, ad, z1, -, L', F', c, a, m', pn, pd, pz, fn, fd, fz, z3, -⟩
    · exact absurd (by rw [z1]; decide) hn
    · exact ⟨R, by omega, z1⟩
  · rcases y11 with ⟨z1, -, z3⟩ | ⟨R, ad, z1, -, L', F', c, a, m', pn, pd, pz, fn, fd, fz, z3, -⟩
    · refine ⟨F, m, g, y8, l3, l4, by omega, ?_, fun k hk => ⟨(l5 k hk).2.2, (l5 k hk).2.1⟩⟩
      have e := sumF_in (F := Fr) (k := L) (v := m) (n := lc) y5
      have e2 := sumF_le (F := un Fr L m) (n := lc) (fun i => by
        by_cases y : i = L
        · rw [y, un_s]
          exact l4
        · rw [un_n y]
          exact g9 i)
      omega
    · exact absurd (by rw [← z1]; exact hn) (nI_pos (by omega))
set_option maxHeartbeats 4000000 in
set_option maxRecDepth 100000 in
theorem s_resume {cI cZ cJ cP cO : ClassId} {e0 : Nat} {b : Nat → Nat} {C : fr_C} {N : Nat} {pg gr lf n an lc po ps rw tk dt n0 : Nat} {th mc : Int32} {st dy dl ac hd mn si fo ol li pl pf pr pa pt rr rd rg tp md le aw cs : Nat → Int32} {lp f : Nat → Option Nat} {Fr : Nat → Nat} {o30 : Nat → Int64} (hC : CpB cI cZ cJ cP cO e0 b C N pg gr lf n an lc po ps rw tk dt n0 th mc st dy dl ac hd mn si fo ol li pl pf pr pa pt rr rd rg tp md le aw cs lp f Fr o30) (hN : N ≤ 512) {TA LG NM FF0 ML TL TQ : Nat → Nat} {PQ : Nat → Option Nat} {FN : Nat → Nat → Int32} {GG : Nat → Nat → Nat} (hTk : ∀ j, j < tk → tkOk (fun a => C (1, a)) cI cZ pg lc ps rw mn si fo ol li pl pf pr pa pt rr rd rg tp md le f Fr j (TA j) (LG j) (NM j) (FF0 j) (ML j) (TL j) (TQ j) (PQ j) (FN j) (GG j)) {z : Nat} (he0 : e0 < z) (hz : ∀ a e, C (1, a) = some e → z ≤ a) (h tok t : Int32) {r1 r2 : Int32} {u1 : (Nat → Nat) × fr_C} {u2 : fr_C} (w1 : (fun (FF : Nat → Nat) (HV FO AB MD : Nat → Int32) => fun (r : Int32) (u : (Nat → Nat) × fr_C) => (((¬ inN h 10 ∧ r = -1) ∨ (inN h 10 ∧ ¬ inN t 1000000001 ∧ r = -2) ∨ (inN h 10 ∧ inN t 1000000001 ∧ ¬ inN tok tk ∧ r = -15) ∨ (∃ hh j : Nat, hh < 10 ∧ h = nI hh ∧ inN t 1000000001 ∧ j < tk ∧ tok = nI j ∧ (¬ HV j = h ∨ ¬ t ≤ MD j + nI lf) ∧ r = -15)) ∧ u = (b, C)) ∨ (∃ hh j : Nat, hh < 10 ∧ h = nI hh ∧ inN t 1000000001 ∧ j < tk ∧ tok = nI j ∧ HV j = h ∧ t ≤ MD j + nI lf ∧ ((∃ (pa : Nat) (fo' : Int32) (pn pd pz : Nat) (ct nt : Int32), PQ j = some pa ∧ C (1, pa) = some (.inr (2, [.int fo', .ref pn, .ref pd, .ref pz, .int ct, .int nt])) ∧ r = ct ∧ u = (b, xAns C cI cP lp cs hh pa ct)) ∨ (PQ j = none ∧ ∃ (pa : Nat) (C1 : fr_C), xPage C C1 b u.1 cI cZ cO pg gr lf n an lc po (FO j) (LG j) (FF j) ((if FF j + pg < ML j then FF j + pg else ML j) - FF j) t (kp (keepB ac (AB j)) (GG j) (FF j) ((if FF j + pg < ML j then FF j + pg else ML j) - FF j)) (FF j + ((if FF j + pg < ML j then FF j + pg else ML j) - FF j) < ML j) dy dl mc dt tk n0 f pa ∧ (∀ i, i < 20 ∨ 28 ≤ i → u.1 i = b i) ∧ r = nI (kp (keepB ac (AB j)) (GG j) (FF j) ((if FF j + pg < ML j then FF j + pg else ML j) - FF j)).length ∧ u.2 = xAns (fr_up C1 (1, TA j) (.inr (3, [.ref (LG j), .int (nI (FF j)), .int (MD j), .ref pa]))) cI cP lp cs hh pa (nI (kp (keepB ac (AB j)) (GG j) (FF j) ((if FF j + pg < ML j then FF j + pg else ML j) - FF j)).length))))) (fun j => FF0 j + pg) (fun j => ol (TL j)) (fun j => fo (TL j)) (fun j => si (TL j)) md r1 u1) (w2 : (fun (C : fr_C) (b : Nat → Nat) => fun (r : Int32) (u : fr_C) => (((¬ inN h 10 ∧ r = -1) ∨ (inN h 10 ∧ ¬ inN t 1000000001 ∧ r = -2) ∨ (inN h 10 ∧ inN t 1000000001 ∧ ¬ inN tok tk ∧ r = -15) ∨ (∃ hh j Q L : Nat, hh < 10 ∧ h = nI hh ∧ inN t 1000000001 ∧ j < tk ∧ tok = nI j ∧ mTok pg rw j Q L tp pl le pf mn li ∧ (¬ ol L = h ∨ ¬ t - md j ≤ nI lf) ∧ r = -15)) ∧ u = fr_up C (0, 40) (.inr (5, fM b 0 pg gr lf an n lc ps rw tk po))) ∨ (∃ hh j Q L : Nat, hh < 10 ∧ h = nI hh ∧ inN t 1000000001 ∧ j < tk ∧ tok = nI j ∧ mTok pg rw j Q L tp pl le pf mn li ∧ ol L = h ∧ t - md j ≤ nI lf ∧ ((∃ R : Nat, R < 4600 ∧ le j = nI R ∧ r = pr R ∧ u = mAns (fr_up C (0, 40) (.inr (5, fM b 0 pg gr lf an n lc ps rw tk po))) cI aw cs pr hh R) ∨ (le j < 0 ∧ ∃ (F mL : Nat) (g : Nat → Nat) (Y : fr_C × (Nat → Int32) × (Nat → Int32) × (Nat → Int32)) (le' : Nat → Int32), pf Q = nI F ∧ mn L = nI mL ∧ mL ≤ 150 ∧ F + pg ≤ mL ∧ (∀ k, k < mL → li (150 * L + k) = nI (g k) ∧ g k < 150) ∧ mPage (fr_up C (0, 40) (.inr (5, fM b 0 pg gr lf an n lc ps rw tk po))) Y.1 cI cZ b 0 pg gr lf an n lc ps rw tk po pl pf pr pa pt rr rd rg tp md le dy dl L (F + pg) t ((if F + pg + pg < mL then F + pg + pg else mL) - (F + pg)) (kp (keepB ac (si L)) g (F + pg) ((if F + pg + pg < mL then F + pg + pg else mL) - (F + pg))) (F + pg + ((if F + pg + pg < mL then F + pg + pg else mL) - (F + pg)) < mL) Y.2.1 Y.2.2.1 Y.2.2.2 ∧ ((F + pg + ((if F + pg + pg < mL then F + pg + pg else mL) - (F + pg)) < mL ∧ le' = upd (upd le tk (-1)) j (nI ps)) ∨ (¬ F + pg + ((if F + pg + pg < mL then F + pg + pg else mL) - (F + pg)) < mL ∧ le' = upd le j (nI ps))) ∧ r = nI (kp (keepB ac (si L)) g (F + pg) ((if F + pg + pg < mL then F + pg + pg else mL) - (F + pg))).length ∧ u = mAns (fr_up Y.1 (0, 70) (.inl (cI, 4600, .inl le'))) cI aw cs (upd pr ps (nI (kp (keepB ac (si L)) g (F + pg) ((if F + pg + pg < mL then F + pg + pg else mL) - (F + pg))).length)) hh ps)))) u1.2 u1.1 r2 u2) : r1 = r2 ∧ Cpl cI cZ cJ cP cO e0 u1.1 u2 (N + 1) := by
  obtain ⟨⟨h0, h1, h2, h3, h4, h5, ⟨od, h6⟩, h8, h9⟩, ⟨m0, m6, m7, m8, m9, m10, m12, m13, m14, m15, m16, m18, m19, m20, m21, m22, m24, m25, m26, m28, m29, m30, m31, m32⟩, ⟨h7, hls⟩, h30, hnB, hPL⟩ := hC
  obtain ⟨g1, g2, g3, g4, g5, g6, g7, g8, g9, g10⟩ := id hnB
  obtain ⟨hr1, hr2⟩ := rw_4500 hnB
  obtain ⟨b9, C9⟩ := u1
  have w1 := w1
  have w2 := w2
  dsimp only at w1 w2
  have hfind : ∀ j Q L, j < tk → mTok pg rw j Q L tp pl le pf mn li → Q = TQ j ∧ L = TL j := by
    intro j Q L hj hm
    obtain ⟨v1, v2, v3, v4, v5, v6, v7, -⟩ := hTk j hj
    obtain ⟨n1, n2, n3, n4, -⟩ := hm
    obtain rfl : Q = TQ j := (nI_eq (by omega) (by omega)).mp (n3.symm.trans v6)
    exact ⟨rfl, (nI_eq (by omega) (by omega)).mp (n4.symm.trans v7)⟩
  have htime : ∀ j, j < tk → inN t 1000000001 → ((t ≤ md j + nI lf) ↔ (t - md j ≤ nI lf)) := by
    intro j hj ht
    obtain ⟨v1, v2, v3, v4, v5, v6, v7, v8, v9, ⟨c, hc, ec⟩, -⟩ := hTk j hj
    obtain ⟨a, ha, rfl⟩ := ht
    rw [ec]
    exact tm_iff (by omega) (by omega) g3
  have w3 : (rsErr tk lf (fun j => ol (TL j)) md h tok t r2 ∧ u2 = fr_up C9 (0, 40) (.inr (5, fM b9 0 pg gr lf an n lc ps rw tk po))) ∨ ¬ rsErr tk lf (fun j => ol (TL j)) md h tok t r2 := by
    rcases w2 with ⟨y, hu⟩ | ⟨hh, j, Q, L, d1, d2, d3, d4, d5, d6, d7, d8, -⟩
    · refine Or.inl ⟨?_, hu⟩
      rcases y with y | y | y | ⟨hh, j, Q, L, d1, d2, d3, d4, d5, d6, d7, d8⟩
      · exact Or.inl y
      · exact Or.inr (Or.inl y)
      · exact Or.inr (Or.inr (Or.inl y))
      · obtain ⟨rfl, rfl⟩ := hfind j Q L d4 d6
        refine Or.inr (Or.inr (Or.inr ⟨hh, j, d1, d2, d3, d4, d5, ?_, d8⟩))
        rcases d7 with y | y
        · exact Or.inl y
        · exact Or.inr (fun q => y ((htime j d4 d3).mp q))
    · obtain ⟨rfl, rfl⟩ := hfind j Q L d4 d6
      exact Or.inr (fun y => rsErr_no (by omega) y d1 d2 d3 d4 d5 d7 ((htime j d4 d3).mpr d8))
  rcases w1 with ⟨hE1, hu1⟩ | ⟨hh, j, d1, d2, d3, d4, d5, d6, d7, hx⟩
  · replace hE1 : rsErr tk lf (fun j => ol (TL j)) md h tok t r1 := hE1
    cases hu1
    rcases w3 with ⟨hE2, hu2⟩ | hE2
    · subst hu2
      exact ⟨rsErr_det hE1 hE2, ⟨pg, gr, lf, n, an, lc, po, ps, rw, tk, dt, n0, 0, mc, st, dy, dl, ac, hd, mn, si, fo, ol, li, pl, pf, pr, pa, pt, rr, rd, rg, tp, md, le, aw, cs, lp, f, Fr, o30, ⟨h0, h1, h2, h3, h4, h5, ⟨od, h6⟩, h8, h9⟩, ⟨rfl, m6, m7, m8, m9, m10, m12, m13, m14, m15, m16, m18, m19, m20, m21, m22, m24, m25, m26, m28, m29, m30, m31, m32⟩, ⟨h7, hls⟩, h30, hnB.next, hPL⟩⟩
    · exfalso
      rcases w2 with ⟨y, -⟩ | ⟨hh, j, Q, L, d1, d2, d3, d4, d5, d6, d7, d8, -⟩
      · apply hE2
        rcases y with y | y | y | ⟨hh, j, Q, L, d1, d2, d3, d4, d5, d6, d7, d8⟩
        · exact Or.inl y
        · exact Or.inr (Or.inl y)
        · exact Or.inr (Or.inr (Or.inl y))
        · obtain ⟨rfl, rfl⟩ := hfind j Q L d4 d6
          refine Or.inr (Or.inr (Or.inr ⟨hh, j, d1, d2, d3, d4, d5, ?_, d8⟩))
          rcases d7 with y | y
          · exact Or.inl y
          · exact Or.inr (fun q => y ((htime j d4 d3).mp q))
      · obtain ⟨rfl, rfl⟩ := hfind j Q L d4 d6
        exact rsErr_no (by omega) hE1 d1 d2 d3 d4 d5 d7 ((htime j d4 d3).mpr d8)
  · rcases w3 with ⟨hE2, -⟩ | -
    · exact (rsErr_no (by omega) hE2 d1 d2 d3 d4 d5 d6 d7).elim
    rcases w2 with ⟨y, -⟩ | ⟨hh', j', Q, L, k1, k2, k3, k4, k5, hmT, k7, k8, hy⟩
    · exfalso
      have y2 : rsErr tk lf (fun j => ol (TL j)) md h tok t r2 := by
        rcases y with y | y | y | ⟨hh, j, Q, L, d1, d2, d3, d4, d5, d6, d7, d8⟩
        · exact Or.inl y
        · exact Or.inr (Or.inl y)
        · exact Or.inr (Or.inr (Or.inl y))
        · obtain ⟨rfl, rfl⟩ := hfind j Q L d4 d6
          refine Or.inr (Or.inr (Or.inr ⟨hh, j, d1, d2, d3, d4, d5, ?_, d8⟩))
          rcases d7 with y | y
          · exact Or.inl y
          · exact Or.inr (fun q => y ((htime j d4 d3).mp q))
      exact rsErr_no (by omega) y2 d1 d2 d3 d4 d5 d6 d7
    · obtain rfl := inN_j (by decide) d1 k1 d2 k2
      obtain rfl := inN_j (by omega) d4 k4 d5 k5
      obtain ⟨rfl, rfl⟩ := hfind j Q L d4 hmT
      obtain ⟨v1, v2, v3, v4, v5, v6, v7, v8, v9, v10, v11⟩ := hTk j d4
      rcases hx with ⟨ad, fo9, pn, pd, pz, ct, nt, z1, z2, hr, hu1⟩ | ⟨hpq, ad, C1, hPg, hbb, hr, hu1⟩
      · -- it was asked for before
        cases hu1
        rcases v11 with ⟨-, y2, -⟩ | ⟨R, ad', y1, y2, hp⟩
        · rw [z1] at y2; cases y2
        · rw [z1] at y2; cases y2
          obtain ⟨L', F', c, a, m', pn', pd', pz', fn, fd, fz, q1, q2, q3, q4, q5, q6, q7, ⟨p1, -⟩, -⟩ := id hp
          have e := z2.symm.trans p1
          simp only [Option.some.injEq, Sum.inr.injEq, Prod.mk.injEq, List.cons.injEq, Value.int.injEq, Value.ref.injEq, true_and, and_true] at e
          have hct : ct = pr R := e.2.2.2.2.1.trans q5.symm
          rcases hy with ⟨R', n1, n2, hr', hu2⟩ | ⟨n1, -⟩
          · obtain rfl : R' = R := (nI_eq (by omega) (by omega)).mp (n2.symm.trans y1)
            subst hu2
            subst hct
            have hPL2 : PL (fun a => C (1, a)) cI cZ pg lc ps rw tk mn si fo ol li pl pf pr pa pt rr rd rg tp md le (upd aw hh (nI R')) (va_up lp hh (some ad)) f Fr := by
              refine ⟨fun i hi => ?_, hPL.2⟩
              by_cases y : i = hh
              · subst y
                exact Or.inr ⟨R', ad, pk_us, va_up_self _ _ _, hp⟩
              · rcases hPL.1 i hi with ⟨z1, z2⟩ | ⟨Q, ad', z1, z2, z3⟩
                · exact Or.inl ⟨(pk_un y).trans z1, (va_up_ne _ _ y).trans z2⟩
                · exact Or.inr ⟨Q, ad', (pk_un y).trans z1, (va_up_ne _ _ y).trans z2, z3⟩
            exact ⟨hr.trans hr'.symm, ⟨pg, gr, lf, n, an, lc, po, ps, rw, tk, dt, n0, 0, mc, st, dy, dl, ac, hd, mn, si, fo, ol, li, pl, pf, pr, pa, pt, rr, rd, rg, tp, md, le, upd aw hh (nI R'), upd cs hh (cs hh + pr R'), va_up lp hh (some ad), f, Fr, o30, ⟨h0, h1, h2, h3, h4, h5, ⟨od, h6⟩, rfl, rfl⟩, ⟨rfl, m6, m7, m8, m9, m10, m12, m13, m14, m15, m16, m18, m19, m20, m21, m22, m24, m25, m26, m28, m29, m30, rfl, rfl⟩, ⟨h7, hls⟩, h30, hnB.next, hPL2⟩⟩
          · exact absurd n1 (by rw [y1]; exact nI_pos (by omega))
      · -- it is made now
        rcases v11 with ⟨hopen, y2, hFrL⟩ | ⟨R, ad', y1, y2, -⟩
        rotate_left
        · rw [hpq] at y2; cases y2
        rcases hy with ⟨R', n1, n2, -⟩ | ⟨-, F, mL, g', ⟨Y1, rr', rd', rg'⟩, le', n1, n2, n3, n4, n5, hMp, hle, hr', hu2⟩
        · exact absurd (n2.symm.trans hopen) (nI_ne1 (by omega))
        obtain ⟨l1, l2, l3, l4, l5⟩ := id v3
        obtain rfl : FF0 j = F := (nI_eq (by omega) (by omega)).mp (v8.symm.trans n1)
        obtain rfl : ML j = mL := (nI_eq (by omega) (by omega)).mp (l3.symm.trans n2)
        have hgg : kp (keepB ac (si (TL j))) g' (FF0 j + pg) ((if (FF0 j + pg) + pg < ML j then (FF0 j + pg) + pg else ML j) - (FF0 j + pg)) = (kp (keepB ac (si (TL j))) (GG j) (FF0 j + pg) ((if (FF0 j + pg) + pg < ML j then (FF0 j + pg) + pg else ML j) - (FF0 j + pg))) := kp_congr (fun i hi => (nI_eq (by have := (n5 ((FF0 j + pg) + i) (by split at hi <;> omega)).2; omega) (by have := (l5 ((FF0 j + pg) + i) (by split at hi <;> omega)).2.1; omega)).mp ((n5 ((FF0 j + pg) + i) (by split at hi <;> omega)).1.symm.trans (l5 ((FF0 j + pg) + i) (by split at hi <;> omega)).2.2))
        rw [hgg] at hMp hr' hu2
        replace hbb : ∀ i, i < 20 ∨ 28 ≤ i → b9 i = b i := hbb
        replace hu1 : C9 = xAns (fr_up C1 (1, TA j) (.inr (3, [.ref (LG j), .int (nI (FF0 j + pg)), .int (md j), .ref ad]))) cI cP lp cs hh ad (nI (kp (keepB ac (si (TL j))) (GG j) (FF0 j + pg) ((if (FF0 j + pg) + pg < ML j then (FF0 j + pg) + pg else ML j) - (FF0 j + pg))).length) := hu1
        subst hu1
        obtain ⟨pn, pd, pz, nt, fn, fd, fz, p1, p2, p3, p4, p5, p6, p7, p8, p9, p10, p11, p12⟩ := hPg
        obtain ⟨q58, q59, q60, q61, q64, q65, q66, hrows, hKm, hag, hcs⟩ := hMp
        have hMM : ((if (FF0 j + pg) + pg < ML j then (FF0 j + pg) + pg else ML j) - (FF0 j + pg)) ≤ pg ∧ (FF0 j + pg) + ((if (FF0 j + pg) + pg < ML j then (FF0 j + pg) + pg else ML j) - (FF0 j + pg)) ≤ ML j := by split <;> omega
        have hpool : ∀ a, Y1 (1, a) = (fr_up C1 (1, TA j) (.inr (3, [.ref (LG j), .int (nI (FF0 j + pg)), .int (md j), .ref ad]))) (1, a) := fun a => hag (1, a) (by simp [mPgL])
        have hnd : ∀ a e, C (1, a) = some e → (∀ n f, e ≠ .inl (cO, n, .inr (.inr (.inr (.inr f))))) → a ≠ dt := by
          intro a e y hne q
          subst q
          rcases hls with ⟨y1, -⟩ | ⟨y1, -⟩
          · have := hz _ _ y
            omega
          · exact hne _ _ (Option.some.inj (y.symm.trans y1))
        have hC1T : ∃ fs, C1 (1, TA j) = some (.inr (3, fs)) := ⟨_, p8 _ _ v2 (hnd _ _ v2 (by intro n f q; cases q))⟩
        obtain ⟨tfs, hC1T⟩ := hC1T
        have hadta : ad ≠ TA j := by
          intro q
          rw [q] at p11
          exact absurd (p11.symm.trans v2) (by simp)
        have hno : ∀ (a : Nat) (c : ClassId) (x : vp_A), C1 (1, a) = some (.inl (c, x)) → (fr_up C1 (1, TA j) (.inr (3, [.ref (LG j), .int (nI (FF0 j + pg)), .int (md j), .ref ad]))) (1, a) = some (.inl (c, x)) := fun a c x y => (fr_up_ne (fun q => by rw [show a = TA j from congrArg Prod.snd q, hC1T] at y; cases y)).trans y
        have hpm : PM (fun a => C (1, a)) (fun a => (fr_up C1 (1, TA j) (.inr (3, [.ref (LG j), .int (nI (FF0 j + pg)), .int (md j), .ref ad]))) (1, a)) := by
          intro a e y hp
          refine (fr_up_ne (fun q => ?_)).trans (p8 a e y (hnd a e y (by rcases hp with ⟨k, fs, rfl, _⟩ | ⟨c, m, f, rfl⟩ <;> intro n f q <;> simp at q)))
          have q2 : a = TA j := congrArg Prod.snd q
          subst q2
          have e9 := Option.some.inj (y.symm.trans v2)
          rcases hp with ⟨k, fs, rfl, hk⟩ | ⟨c, m, f, rfl⟩
          · cases e9
            exact hk rfl
          · cases e9
        have hrr := hrows.1
        have huq : ∀ i Q, i < tk → Q < 4600 → tp i = nI Q → Q < ps := by
          intro i Q hi hQ e
          obtain ⟨ta, lg', nm', F', m', L', Q', pq, fnm', g', -, -, -, y1, y2, y3, y4, -⟩ := hPL.2.1 i hi
          obtain rfl : Q' = Q := (nI_eq (by omega) (by omega)).mp (y3.symm.trans e)
          exact y1
        have hrwF : rw + (kp (keepB ac (si (TL j))) (GG j) (FF0 j + pg) ((if (FF0 j + pg) + pg < ML j then (FF0 j + pg) + pg else ML j) - (FF0 j + pg))).length ≤ sumF (un Fr (TL j) ((FF0 j + pg) + ((if (FF0 j + pg) + pg < ML j then (FF0 j + pg) + pg else ML j) - (FF0 j + pg)))) lc := by
          have := sumF_in (F := Fr) (k := TL j) (v := (FF0 j + pg) + ((if (FF0 j + pg) + pg < ML j then (FF0 j + pg) + pg else ML j) - (FF0 j + pg))) (n := lc) v5
          omega
        have hFr : ∀ L, un Fr (TL j) ((FF0 j + pg) + ((if (FF0 j + pg) + pg < ML j then (FF0 j + pg) + pg else ML j) - (FF0 j + pg))) L ≤ 150 := fun L => by
          by_cases y : L = TL j
          · rw [y, un_s]
            omega
          · rw [un_n y]
            exact g9 L
        refine ⟨hr.trans hr'.symm, ?_⟩
        rcases p12 with ⟨htm, rfl, ta, dt', n', f', t1, t2, t3, t4, t5, t6, t7, t8, t9, t10, t11⟩ | ⟨htm, rfl, t2, t3⟩
        · rcases hcs with ⟨-, c40, c62, c68, c69, -⟩ | ⟨hnt, -⟩
          rotate_left
          · exact absurd htm hnt
          rcases hle with ⟨-, rfl⟩ | ⟨hnt, -⟩
          rotate_left
          · exact absurd htm hnt
          have hMp : ((if (FF0 j + pg) + pg < ML j then (FF0 j + pg) + pg else ML j) - (FF0 j + pg)) = pg := by split at htm <;> split <;> omega
          have hpl : ∀ Q, Q < ps → upd pl ps (nI (TL j)) Q = pl Q ∧ upd pf ps (nI (FF0 j + pg)) Q = pf Q ∧ upd pr ps (nI (kp (keepB ac (si (TL j))) (GG j) (FF0 j + pg) ((if (FF0 j + pg) + pg < ML j then (FF0 j + pg) + pg else ML j) - (FF0 j + pg))).length) Q = pr Q ∧ upd pa ps (nI rw) Q = pa Q ∧ upd pt ps (nI tk) Q = pt Q := fun Q hQ => ⟨pk_un (by omega), pk_un (by omega), pk_un (by omega), pk_un (by omega), pk_un (by omega)⟩
          have hnew : pgOk (fun a => (fr_up C1 (1, TA j) (.inr (3, [.ref (LG j), .int (nI (FF0 j + pg)), .int (md j), .ref ad]))) (1, a)) cI cZ lc (ps + 1) (rw + (kp (keepB ac (si (TL j))) (GG j) (FF0 j + pg) ((if (FF0 j + pg) + pg < ML j then (FF0 j + pg) + pg else ML j) - (FF0 j + pg))).length) fo (upd pl ps (nI (TL j))) (upd pf ps (nI (FF0 j + pg))) (upd pr ps (nI (kp (keepB ac (si (TL j))) (GG j) (FF0 j + pg) ((if (FF0 j + pg) + pg < ML j then (FF0 j + pg) + pg else ML j) - (FF0 j + pg))).length)) (upd pa ps (nI rw)) (upd pt ps (nI tk)) rr' rd' rg' ad ps := pgOk.new v5 rfl ((fr_up_ne (fun q => hadta (congrArg Prod.snd q))).trans p1) (hno _ _ _ p2) (hno _ _ _ p3) (hno _ _ _ p4) p6 (by omega) p5 hrows
          have hlat : ∀ i, i < 10 → (upd aw hh (nI ps) i = -1 ∧ va_up lp hh (some ad) i = none) ∨ ∃ Q ad', upd aw hh (nI ps) i = nI Q ∧ va_up lp hh (some ad) i = some ad' ∧ pgOk (fun a => (fr_up C1 (1, TA j) (.inr (3, [.ref (LG j), .int (nI (FF0 j + pg)), .int (md j), .ref ad]))) (1, a)) cI cZ lc (ps + 1) (rw + (kp (keepB ac (si (TL j))) (GG j) (FF0 j + pg) ((if (FF0 j + pg) + pg < ML j then (FF0 j + pg) + pg else ML j) - (FF0 j + pg))).length) fo (upd pl ps (nI (TL j))) (upd pf ps (nI (FF0 j + pg))) (upd pr ps (nI (kp (keepB ac (si (TL j))) (GG j) (FF0 j + pg) ((if (FF0 j + pg) + pg < ML j then (FF0 j + pg) + pg else ML j) - (FF0 j + pg))).length)) (upd pa ps (nI rw)) (upd pt ps (nI tk)) rr' rd' rg' ad' Q := by
            intro i hi
            by_cases y : i = hh
            · subst y
              exact Or.inr ⟨ps, ad, pk_us, va_up_self _ _ _, hnew⟩
            · rcases hPL.1 i hi with ⟨z1, z2⟩ | ⟨Q, ad', z1, z2, z3⟩
              · exact Or.inl ⟨(pk_un y).trans z1, (va_up_ne _ _ y).trans z2⟩
              · exact Or.inr ⟨Q, ad', (pk_un y).trans z1, (va_up_ne _ _ y).trans z2, z3.mono hpm (Nat.le_refl _) (by omega) (by omega) (fun _ _ => rfl) hpl hrr⟩
          have htk0 : ∀ (tp' md' le' : Nat → Int32) (f' : Nat → Option Nat), (∀ i, i < tk → f' i = f i ∧ tp' i = tp i ∧ md' i = md i) → (∀ i, i < tk → i ≠ j → le' i = le i) → le' j = nI ps → ∀ i, i < tk → ∃ (ta lg nm F m L Q : Nat) (pq : Option Nat) (fnm : Nat → Int32) (g : Nat → Nat), tkOk (fun a => (fr_up C1 (1, TA j) (.inr (3, [.ref (LG j), .int (nI (FF0 j + pg)), .int (md j), .ref ad]))) (1, a)) cI cZ pg lc (ps + 1) (rw + (kp (keepB ac (si (TL j))) (GG j) (FF0 j + pg) ((if (FF0 j + pg) + pg < ML j then (FF0 j + pg) + pg else ML j) - (FF0 j + pg))).length) mn si fo ol li (upd pl ps (nI (TL j))) (upd pf ps (nI (FF0 j + pg))) (upd pr ps (nI (kp (keepB ac (si (TL j))) (GG j) (FF0 j + pg) ((if (FF0 j + pg) + pg < ML j then (FF0 j + pg) + pg else ML j) - (FF0 j + pg))).length)) (upd pa ps (nI rw)) (upd pt ps (nI tk)) rr' rd' rg' tp' md' le' f' (un Fr (TL j) ((FF0 j + pg) + ((if (FF0 j + pg) + pg < ML j then (FF0 j + pg) + pg else ML j) - (FF0 j + pg)))) i ta lg nm F m L Q pq fnm g := by
            intro tp' md' le' f' hag9 hle9 hlej i hi
            by_cases y : i = j
            · subst y
              obtain ⟨e1, e2, e3⟩ := hag9 i hi
              exact ⟨TA i, LG i, NM i, FF0 i, ML i, TL i, TQ i, some ad, FN i, GG i, e1.trans v1, by rw [e3]; exact fr_up_self _ _ _, v3.mono hpm v5 (fun _ _ => ⟨rfl, rfl, rfl, rfl⟩) (fun _ _ => rfl), by omega, v5, e2.trans v6, (hpl _ v4).1.trans v7, (hpl _ v4).2.1.trans v8, v9, by rw [e3]; exact v10, Or.inr ⟨ps, ad, hlej, rfl, hnew⟩⟩
            · obtain ⟨ta, lg', nm', F', m', L', Q', pq, fnm', g', hT⟩ := hPL.2.1 i hi
              obtain ⟨s1, s2, s3, s4, s5, s6, s7, -⟩ := id hT
              obtain ⟨e1, e2, e3⟩ := hag9 i hi
              refine ⟨ta, lg', nm', F', m', L', Q', pq, fnm', g', hT.mono hpm (Nat.le_refl _) (by omega) (by omega) (fun _ _ => ⟨rfl, rfl, rfl, rfl⟩) (fun _ _ => rfl) hpl hrr (fun fs y9 => (fr_up_ne (fun q => y (hPL.2.2.1 i j hi d4 (s1.trans (by rw [v1]; exact congrArg (fun x => some (Prod.snd x)) q))))).trans (p8 _ _ y9 (hnd _ _ y9 (by intro n f q; cases q)))) ⟨e1, e2, e3, hle9 i hi y⟩ (fun hop => un_n (fun q => y ?_))⟩
              exact hPL.2.2.2 i j Q' (TQ j) hi d4 (by omega) (by omega) hop hopen s6 v6 (by rw [s7, v7, q])
          have hnB2 : nB pg gr lf n lc (ps + 1) (rw + (kp (keepB ac (si (TL j))) (GG j) (FF0 j + pg) ((if (FF0 j + pg) + pg < ML j then (FF0 j + pg) + pg else ML j) - (FF0 j + pg))).length) (tk + 1) (N + 1) dl (un Fr (TL j) ((FF0 j + pg) + ((if (FF0 j + pg) + pg < ML j then (FF0 j + pg) + pg else ML j) - (FF0 j + pg)))) := ⟨g1, g2, g3, g4, g5, by omega, by omega, hrwF, hFr, g10⟩
          have hnta : ta ≠ TA j := by
            intro q
            rw [q] at t11
            exact absurd (t11.symm.trans v2) (by simp)
          subst hu2
          have zz7 := (hag (0, 7) (by decide)).trans t2
          have hel : ∀ i y, i < n' → f' i = some y → ∃ fs, (fr_up C1 (1, TA j) (.inr (3, [.ref (LG j), .int (nI (FF0 j + pg)), .int (md j), .ref ad]))) (1, y) = some (.inr (3, fs)) := by
            intro i y hi hy
            by_cases hyt : y = TA j
            · rw [hyt]
              exact ⟨_, fr_up_self _ _ _⟩
            · rcases Nat.lt_trichotomy i tk with q | q | q
              · rw [t8 i q] at hy
                obtain ⟨ta', lg', nm', F', m', L', Q', pq, fnm', g', y1, y2, -⟩ := hPL.2.1 i q
                rw [hy] at y1
                cases y1
                exact ⟨_, (fr_up_ne (fun q => hyt (congrArg Prod.snd q))).trans (p8 _ _ y2 (hnd _ _ y2 (by intro n f q; cases q)))⟩
              · subst q
                rw [t7] at hy
                cases hy
                exact ⟨_, (fr_up_ne (fun q => hyt (congrArg Prod.snd q))).trans t1⟩
              · rw [t9 i q] at hy
                cases hy
          have zls : lsAt (mAns (fr_up Y1 (0, 70) (.inl (cI, 4600, .inl (upd (upd le tk (-1)) j (nI ps))))) cI aw cs (upd pr ps (nI (kp (keepB ac (si (TL j))) (GG j) (FF0 j + pg) ((if (FF0 j + pg) + pg < ML j then (FF0 j + pg) + pg else ML j) - (FF0 j + pg))).length)) hh ps) cO e0 dt' (tk + 1) n' f' := Or.inr ⟨(hpool _).trans (hno _ _ _ t3), t4, t5, t6, fun i y hi hy => by obtain ⟨fs, hfs⟩ := hel i y hi hy; exact ⟨fs, (hpool y).trans hfs⟩, fun i hi => t9 i (by omega)⟩
          have hta : ∀ i, i < tk → f' i ≠ some ta := by
            intro i hi q
            rw [t8 i hi] at q
            obtain ⟨ta', lg', nm', F', m', L', Q', pq, fnm', g', y1, y2, -⟩ := hPL.2.1 i hi
            rw [q] at y1
            cases y1
            exact absurd (t11.symm.trans y2) (by simp)
          have z0 : (mAns (fr_up Y1 (0, 70) (.inl (cI, 4600, .inl (upd (upd le tk (-1)) j (nI ps))))) cI aw cs (upd pr ps (nI (kp (keepB ac (si (TL j))) (GG j) (FF0 j + pg) ((if (FF0 j + pg) + pg < ML j then (FF0 j + pg) + pg else ML j) - (FF0 j + pg))).length)) hh ps) (0, 0) = some (.inr (0, fX b9 pg gr lf n an lc (po + (((if (FF0 j + pg) + pg < ML j then (FF0 j + pg) + pg else ML j) - (FF0 j + pg)) - (kp (keepB ac (si (TL j))) (GG j) (FF0 j + pg) ((if (FF0 j + pg) + pg < ML j then (FF0 j + pg) + pg else ML j) - (FF0 j + pg))).length)))) := by
            rw [fX_b p10]
            exact (hag (0, 0) (by decide)).trans p7
          have z72 : (mAns (fr_up Y1 (0, 70) (.inl (cI, 4600, .inl (upd (upd le tk (-1)) j (nI ps))))) cI aw cs (upd pr ps (nI (kp (keepB ac (si (TL j))) (GG j) (FF0 j + pg) ((if (FF0 j + pg) + pg < ML j then (FF0 j + pg) + pg else ML j) - (FF0 j + pg))).length)) hh ps) (0, 72) = some (.inl (cI, 10, .inl (upd cs hh (cs hh + nI (kp (keepB ac (si (TL j))) (GG j) (FF0 j + pg) ((if (FF0 j + pg) + pg < ML j then (FF0 j + pg) + pg else ML j) - (FF0 j + pg))).length)))) := by
            show some (Sum.inl (cI, 10, Sum.inl (upd cs hh (cs hh + upd pr ps (nI (kp (keepB ac (si (TL j))) (GG j) (FF0 j + pg) ((if (FF0 j + pg) + pg < ML j then (FF0 j + pg) + pg else ML j) - (FF0 j + pg))).length) ps)))) = _
            rw [pk_us]
          have hPL2 : PL (fun a => (mAns (fr_up Y1 (0, 70) (.inl (cI, 4600, .inl (upd (upd le tk (-1)) j (nI ps))))) cI aw cs (upd pr ps (nI (kp (keepB ac (si (TL j))) (GG j) (FF0 j + pg) ((if (FF0 j + pg) + pg < ML j then (FF0 j + pg) + pg else ML j) - (FF0 j + pg))).length)) hh ps) (1, a)) cI cZ pg lc (ps + 1) (rw + (kp (keepB ac (si (TL j))) (GG j) (FF0 j + pg) ((if (FF0 j + pg) + pg < ML j then (FF0 j + pg) + pg else ML j) - (FF0 j + pg))).length) (tk + 1) mn si fo ol li (upd pl ps (nI (TL j))) (upd pf ps (nI (FF0 j + pg))) (upd pr ps (nI (kp (keepB ac (si (TL j))) (GG j) (FF0 j + pg) ((if (FF0 j + pg) + pg < ML j then (FF0 j + pg) + pg else ML j) - (FF0 j + pg))).length)) (upd pa ps (nI rw)) (upd pt ps (nI tk)) rr' rd' rg' (upd tp tk (nI ps)) (upd md tk t) (upd (upd le tk (-1)) j (nI ps)) (upd aw hh (nI ps)) (va_up lp hh (some ad)) f' (un Fr (TL j) ((FF0 j + pg) + ((if (FF0 j + pg) + pg < ML j then (FF0 j + pg) + pg else ML j) - (FF0 j + pg)))) := by
            rw [show (fun a => (mAns (fr_up Y1 (0, 70) (.inl (cI, 4600, .inl (upd (upd le tk (-1)) j (nI ps))))) cI aw cs (upd pr ps (nI (kp (keepB ac (si (TL j))) (GG j) (FF0 j + pg) ((if (FF0 j + pg) + pg < ML j then (FF0 j + pg) + pg else ML j) - (FF0 j + pg))).length)) hh ps) (1, a)) = fun a => (fr_up C1 (1, TA j) (.inr (3, [.ref (LG j), .int (nI (FF0 j + pg)), .int (md j), .ref ad]))) (1, a) from funext hpool]
            refine ⟨hlat, ?_, ?_, ?_⟩
            · intro i hi
              by_cases y : i = tk
              · subst y
                exact ⟨ta, LG j, NM j, (FF0 j + pg), ML j, TL j, ps, none, FN j, GG j, t7, by rw [pk_us, ← congrArg (fun x => (FF0 j + pg) + x) hMp]; exact (fr_up_ne (fun q => hnta (congrArg Prod.snd q))).trans t1, v3.mono hpm v5 (fun _ _ => ⟨rfl, rfl, rfl, rfl⟩) (fun _ _ => rfl), by omega, v5, pk_us, pk_us, pk_us, by omega, by rw [pk_us]; exact d3, Or.inl ⟨(pk_un (by omega)).trans pk_us, rfl, by rw [un_s]; omega⟩⟩
              · exact htk0 _ _ _ _ (fun i hi => ⟨t8 i hi, pk_un (by omega), pk_un (by omega)⟩) (fun i hi hij => (pk_un hij).trans (pk_un (by omega))) pk_us i (by omega)
            · intro i i' hi hi' e
              by_cases y : i = tk
              · by_cases y' : i' = tk
                · rw [y, y']
                · subst y
                  exact absurd (e.symm.trans t7) (hta i' (by omega))
              · by_cases y' : i' = tk
                · subst y'
                  exact absurd (e.trans t7) (hta i (by omega))
                · exact hPL.2.2.1 i i' (by omega) (by omega) (by rw [← t8 i (by omega), ← t8 i' (by omega)]; exact e)
            · intro i i' Q Q' hi hi' hQ hQ' e1 e2 e3 e4 e5
              have hij : i ≠ j := fun q => by rw [q, pk_us] at e1; exact nI_ne1 (by omega) e1
              have hij' : i' ≠ j := fun q => by rw [q, pk_us] at e2; exact nI_ne1 (by omega) e2
              rw [pk_un hij] at e1
              rw [pk_un hij'] at e2
              by_cases y : i = tk
              · by_cases y' : i' = tk
                · rw [y, y']
                · exfalso
                  rw [pk_un y'] at e2 e4
                  have z1 := huq i' Q' (by omega) hQ' e4
                  rw [y, pk_us] at e3
                  obtain rfl : ps = Q := (nI_eq (by omega) (by omega)).mp e3
                  rw [pk_us, pk_un (by omega)] at e5
                  exact hij' (hPL.2.2.2 i' j Q' (TQ j) (by omega) d4 hQ' (by omega) e2 hopen e4 v6 (e5.symm.trans v7.symm))
              · by_cases y' : i' = tk
                · exfalso
                  rw [pk_un y] at e1 e3
                  have z1 := huq i Q (by omega) hQ e3
                  rw [y', pk_us] at e4
                  obtain rfl : ps = Q' := (nI_eq (by omega) (by omega)).mp e4
                  rw [pk_us, pk_un (by omega)] at e5
                  exact hij (hPL.2.2.2 i j Q (TQ j) (by omega) d4 hQ (by omega) e1 hopen e3 v6 (e5.trans v7.symm))
                · rw [pk_un y] at e1 e3
                  rw [pk_un y'] at e2 e4
                  have z1 := huq i Q (by omega) hQ e3
                  have z2 := huq i' Q' (by omega) hQ' e4
                  rw [pk_un (by omega), pk_un (by omega)] at e5
                  exact hPL.2.2.2 i i' Q Q' (by omega) (by omega) hQ hQ' e1 e2 e3 e4 e5
          exact ⟨pg, gr, lf, n, an, lc, po + (((if (FF0 j + pg) + pg < ML j then (FF0 j + pg) + pg else ML j) - (FF0 j + pg)) - (kp (keepB ac (si (TL j))) (GG j) (FF0 j + pg) ((if (FF0 j + pg) + pg < ML j then (FF0 j + pg) + pg else ML j) - (FF0 j + pg))).length), ps + 1, rw + (kp (keepB ac (si (TL j))) (GG j) (FF0 j + pg) ((if (FF0 j + pg) + pg < ML j then (FF0 j + pg) + pg else ML j) - (FF0 j + pg))).length, tk + 1, dt', n', 0, mc + 1, st, dy, dl, ac, hd, mn, si, fo, ol, li, upd pl ps (nI (TL j)), upd pf ps (nI (FF0 j + pg)), upd pr ps (nI (kp (keepB ac (si (TL j))) (GG j) (FF0 j + pg) ((if (FF0 j + pg) + pg < ML j then (FF0 j + pg) + pg else ML j) - (FF0 j + pg))).length), upd pa ps (nI rw), upd pt ps (nI tk), rr', rd', rg', upd tp tk (nI ps), upd md tk t, upd (upd le tk (-1)) j (nI ps), upd aw hh (nI ps), upd cs hh (cs hh + nI (kp (keepB ac (si (TL j))) (GG j) (FF0 j + pg) ((if (FF0 j + pg) + pg < ML j then (FF0 j + pg) + pg else ML j) - (FF0 j + pg))).length), va_up lp hh (some ad), f', un Fr (TL j) ((FF0 j + pg) + ((if (FF0 j + pg) + pg < ML j then (FF0 j + pg) + pg else ML j) - (FF0 j + pg))), o30, ⟨z0, (hag (0, 1) (by decide)).trans ((p9 1 (by decide) (by decide) (by decide)).trans h1), (hag (0, 2) (by decide)).trans ((p9 2 (by decide) (by decide) (by decide)).trans h2), (hag (0, 3) (by decide)).trans ((p9 3 (by decide) (by decide) (by decide)).trans h3), (hag (0, 4) (by decide)).trans ((p9 4 (by decide) (by decide) (by decide)).trans h4), (hag (0, 5) (by decide)).trans ((p9 5 (by decide) (by decide) (by decide)).trans h5), ⟨od, (hag (0, 6) (by decide)).trans ((p9 6 (by decide) (by decide) (by decide)).trans h6)⟩, (hag (0, 8) (by decide)).trans rfl, (hag (0, 9) (by decide)).trans rfl⟩, ⟨c40, (hag (0, 46) (by decide)).trans ((p9 46 (by decide) (by decide) (by decide)).trans m6), (hag (0, 47) (by decide)).trans ((p9 47 (by decide) (by decide) (by decide)).trans m7), (hag (0, 48) (by decide)).trans ((p9 48 (by decide) (by decide) (by decide)).trans m8), (hag (0, 49) (by decide)).trans ((p9 49 (by decide) (by decide) (by decide)).trans m9), (hag (0, 50) (by decide)).trans ((p9 50 (by decide) (by decide) (by decide)).trans m10), (hag (0, 52) (by decide)).trans ((p9 52 (by decide) (by decide) (by decide)).trans m12), (hag (0, 53) (by decide)).trans ((p9 53 (by decide) (by decide) (by decide)).trans m13), (hag (0, 54) (by decide)).trans ((p9 54 (by decide) (by decide) (by decide)).trans m14), (hag (0, 55) (by decide)).trans ((p9 55 (by decide) (by decide) (by decide)).trans m15), (hag (0, 56) (by decide)).trans ((p9 56 (by decide) (by decide) (by decide)).trans m16), q58, q59, q60, q61, c62, q64, q65, q66, c68, c69, rfl, rfl, z72⟩, ⟨zz7, zls⟩, (hag (0, 30) (by decide)).trans ((p9 30 (by decide) (by decide) (by decide)).trans h30), hnB2, hPL2⟩
        · rcases hcs with ⟨hnt, -⟩ | ⟨-, c40, c62, c68, c69, -⟩
          · exact absurd hnt htm
          rcases hle with ⟨hnt, -⟩ | ⟨-, rfl⟩
          · exact absurd hnt htm
          have hpl : ∀ Q, Q < ps → upd pl ps (nI (TL j)) Q = pl Q ∧ upd pf ps (nI (FF0 j + pg)) Q = pf Q ∧ upd pr ps (nI (kp (keepB ac (si (TL j))) (GG j) (FF0 j + pg) ((if (FF0 j + pg) + pg < ML j then (FF0 j + pg) + pg else ML j) - (FF0 j + pg))).length) Q = pr Q ∧ upd pa ps (nI rw) Q = pa Q ∧ upd pt ps (-1) Q = pt Q := fun Q hQ => ⟨pk_un (by omega), pk_un (by omega), pk_un (by omega), pk_un (by omega), pk_un (by omega)⟩
          have hnew : pgOk (fun a => (fr_up C1 (1, TA j) (.inr (3, [.ref (LG j), .int (nI (FF0 j + pg)), .int (md j), .ref ad]))) (1, a)) cI cZ lc (ps + 1) (rw + (kp (keepB ac (si (TL j))) (GG j) (FF0 j + pg) ((if (FF0 j + pg) + pg < ML j then (FF0 j + pg) + pg else ML j) - (FF0 j + pg))).length) fo (upd pl ps (nI (TL j))) (upd pf ps (nI (FF0 j + pg))) (upd pr ps (nI (kp (keepB ac (si (TL j))) (GG j) (FF0 j + pg) ((if (FF0 j + pg) + pg < ML j then (FF0 j + pg) + pg else ML j) - (FF0 j + pg))).length)) (upd pa ps (nI rw)) (upd pt ps (-1)) rr' rd' rg' ad ps := pgOk.new v5 rfl ((fr_up_ne (fun q => hadta (congrArg Prod.snd q))).trans p1) (hno _ _ _ p2) (hno _ _ _ p3) (hno _ _ _ p4) p6 (by omega) p5 hrows
          have hlat : ∀ i, i < 10 → (upd aw hh (nI ps) i = -1 ∧ va_up lp hh (some ad) i = none) ∨ ∃ Q ad', upd aw hh (nI ps) i = nI Q ∧ va_up lp hh (some ad) i = some ad' ∧ pgOk (fun a => (fr_up C1 (1, TA j) (.inr (3, [.ref (LG j), .int (nI (FF0 j + pg)), .int (md j), .ref ad]))) (1, a)) cI cZ lc (ps + 1) (rw + (kp (keepB ac (si (TL j))) (GG j) (FF0 j + pg) ((if (FF0 j + pg) + pg < ML j then (FF0 j + pg) + pg else ML j) - (FF0 j + pg))).length) fo (upd pl ps (nI (TL j))) (upd pf ps (nI (FF0 j + pg))) (upd pr ps (nI (kp (keepB ac (si (TL j))) (GG j) (FF0 j + pg) ((if (FF0 j + pg) + pg < ML j then (FF0 j + pg) + pg else ML j) - (FF0 j + pg))).length)) (upd pa ps (nI rw)) (upd pt ps (-1)) rr' rd' rg' ad' Q := by
            intro i hi
            by_cases y : i = hh
            · subst y
              exact Or.inr ⟨ps, ad, pk_us, va_up_self _ _ _, hnew⟩
            · rcases hPL.1 i hi with ⟨z1, z2⟩ | ⟨Q, ad', z1, z2, z3⟩
              · exact Or.inl ⟨(pk_un y).trans z1, (va_up_ne _ _ y).trans z2⟩
              · exact Or.inr ⟨Q, ad', (pk_un y).trans z1, (va_up_ne _ _ y).trans z2, z3.mono hpm (Nat.le_refl _) (by omega) (by omega) (fun _ _ => rfl) hpl hrr⟩
          have htk0 : ∀ (tp' md' le' : Nat → Int32) (f' : Nat → Option Nat), (∀ i, i < tk → f' i = f i ∧ tp' i = tp i ∧ md' i = md i) → (∀ i, i < tk → i ≠ j → le' i = le i) → le' j = nI ps → ∀ i, i < tk → ∃ (ta lg nm F m L Q : Nat) (pq : Option Nat) (fnm : Nat → Int32) (g : Nat → Nat), tkOk (fun a => (fr_up C1 (1, TA j) (.inr (3, [.ref (LG j), .int (nI (FF0 j + pg)), .int (md j), .ref ad]))) (1, a)) cI cZ pg lc (ps + 1) (rw + (kp (keepB ac (si (TL j))) (GG j) (FF0 j + pg) ((if (FF0 j + pg) + pg < ML j then (FF0 j + pg) + pg else ML j) - (FF0 j + pg))).length) mn si fo ol li (upd pl ps (nI (TL j))) (upd pf ps (nI (FF0 j + pg))) (upd pr ps (nI (kp (keepB ac (si (TL j))) (GG j) (FF0 j + pg) ((if (FF0 j + pg) + pg < ML j then (FF0 j + pg) + pg else ML j) - (FF0 j + pg))).length)) (upd pa ps (nI rw)) (upd pt ps (-1)) rr' rd' rg' tp' md' le' f' (un Fr (TL j) ((FF0 j + pg) + ((if (FF0 j + pg) + pg < ML j then (FF0 j + pg) + pg else ML j) - (FF0 j + pg)))) i ta lg nm F m L Q pq fnm g := by
            intro tp' md' le' f' hag9 hle9 hlej i hi
            by_cases y : i = j
            · subst y
              obtain ⟨e1, e2, e3⟩ := hag9 i hi
              exact ⟨TA i, LG i, NM i, FF0 i, ML i, TL i, TQ i, some ad, FN i, GG i, e1.trans v1, by rw [e3]; exact fr_up_self _ _ _, v3.mono hpm v5 (fun _ _ => ⟨rfl, rfl, rfl, rfl⟩) (fun _ _ => rfl), by omega, v5, e2.trans v6, (hpl _ v4).1.trans v7, (hpl _ v4).2.1.trans v8, v9, by rw [e3]; exact v10, Or.inr ⟨ps, ad, hlej, rfl, hnew⟩⟩
            · obtain ⟨ta, lg', nm', F', m', L', Q', pq, fnm', g', hT⟩ := hPL.2.1 i hi
              obtain ⟨s1, s2, s3, s4, s5, s6, s7, -⟩ := id hT
              obtain ⟨e1, e2, e3⟩ := hag9 i hi
              refine ⟨ta, lg', nm', F', m', L', Q', pq, fnm', g', hT.mono hpm (Nat.le_refl _) (by omega) (by omega) (fun _ _ => ⟨rfl, rfl, rfl, rfl⟩) (fun _ _ => rfl) hpl hrr (fun fs y9 => (fr_up_ne (fun q => y (hPL.2.2.1 i j hi d4 (s1.trans (by rw [v1]; exact congrArg (fun x => some (Prod.snd x)) q))))).trans (p8 _ _ y9 (hnd _ _ y9 (by intro n f q; cases q)))) ⟨e1, e2, e3, hle9 i hi y⟩ (fun hop => un_n (fun q => y ?_))⟩
              exact hPL.2.2.2 i j Q' (TQ j) hi d4 (by omega) (by omega) hop hopen s6 v6 (by rw [s7, v7, q])
          have hnB2 : nB pg gr lf n lc (ps + 1) (rw + (kp (keepB ac (si (TL j))) (GG j) (FF0 j + pg) ((if (FF0 j + pg) + pg < ML j then (FF0 j + pg) + pg else ML j) - (FF0 j + pg))).length) tk (N + 1) dl (un Fr (TL j) ((FF0 j + pg) + ((if (FF0 j + pg) + pg < ML j then (FF0 j + pg) + pg else ML j) - (FF0 j + pg)))) := ⟨g1, g2, g3, g4, g5, by omega, by omega, hrwF, hFr, g10⟩
          subst hu2
          have zz7 := (hag (0, 7) (by decide)).trans t2
          have zls : lsAt (mAns (fr_up Y1 (0, 70) (.inl (cI, 4600, .inl (upd le j (nI ps))))) cI aw cs (upd pr ps (nI (kp (keepB ac (si (TL j))) (GG j) (FF0 j + pg) ((if (FF0 j + pg) + pg < ML j then (FF0 j + pg) + pg else ML j) - (FF0 j + pg))).length)) hh ps) cO e0 dt tk n0 f := by
            rcases hls with y | ⟨y1, y2, y3, y4, y5, y6⟩
            · exact Or.inl y
            · refine Or.inr ⟨(hpool _).trans (hno _ _ _ (t3 _ y1)), y2, y3, y4, fun i y hi hy => ?_, y6⟩
              obtain ⟨fs, hfs⟩ := y5 i y hi hy
              by_cases hyt : y = TA j
              · rw [hyt]
                exact ⟨_, (hpool _).trans (fr_up_self _ _ _)⟩
              · exact ⟨fs, (hpool y).trans ((fr_up_ne (fun q => hyt (congrArg Prod.snd q))).trans (p8 _ _ hfs (hnd _ _ hfs (by intro n f q; cases q))))⟩
          have z0 : (mAns (fr_up Y1 (0, 70) (.inl (cI, 4600, .inl (upd le j (nI ps))))) cI aw cs (upd pr ps (nI (kp (keepB ac (si (TL j))) (GG j) (FF0 j + pg) ((if (FF0 j + pg) + pg < ML j then (FF0 j + pg) + pg else ML j) - (FF0 j + pg))).length)) hh ps) (0, 0) = some (.inr (0, fX b9 pg gr lf n an lc (po + (((if (FF0 j + pg) + pg < ML j then (FF0 j + pg) + pg else ML j) - (FF0 j + pg)) - (kp (keepB ac (si (TL j))) (GG j) (FF0 j + pg) ((if (FF0 j + pg) + pg < ML j then (FF0 j + pg) + pg else ML j) - (FF0 j + pg))).length)))) := by
            rw [fX_b p10]
            exact (hag (0, 0) (by decide)).trans p7
          have z72 : (mAns (fr_up Y1 (0, 70) (.inl (cI, 4600, .inl (upd le j (nI ps))))) cI aw cs (upd pr ps (nI (kp (keepB ac (si (TL j))) (GG j) (FF0 j + pg) ((if (FF0 j + pg) + pg < ML j then (FF0 j + pg) + pg else ML j) - (FF0 j + pg))).length)) hh ps) (0, 72) = some (.inl (cI, 10, .inl (upd cs hh (cs hh + nI (kp (keepB ac (si (TL j))) (GG j) (FF0 j + pg) ((if (FF0 j + pg) + pg < ML j then (FF0 j + pg) + pg else ML j) - (FF0 j + pg))).length)))) := by
            show some (Sum.inl (cI, 10, Sum.inl (upd cs hh (cs hh + upd pr ps (nI (kp (keepB ac (si (TL j))) (GG j) (FF0 j + pg) ((if (FF0 j + pg) + pg < ML j then (FF0 j + pg) + pg else ML j) - (FF0 j + pg))).length) ps)))) = _
            rw [pk_us]
          have hPL2 : PL (fun a => (mAns (fr_up Y1 (0, 70) (.inl (cI, 4600, .inl (upd le j (nI ps))))) cI aw cs (upd pr ps (nI (kp (keepB ac (si (TL j))) (GG j) (FF0 j + pg) ((if (FF0 j + pg) + pg < ML j then (FF0 j + pg) + pg else ML j) - (FF0 j + pg))).length)) hh ps) (1, a)) cI cZ pg lc (ps + 1) (rw + (kp (keepB ac (si (TL j))) (GG j) (FF0 j + pg) ((if (FF0 j + pg) + pg < ML j then (FF0 j + pg) + pg else ML j) - (FF0 j + pg))).length) tk mn si fo ol li (upd pl ps (nI (TL j))) (upd pf ps (nI (FF0 j + pg))) (upd pr ps (nI (kp (keepB ac (si (TL j))) (GG j) (FF0 j + pg) ((if (FF0 j + pg) + pg < ML j then (FF0 j + pg) + pg else ML j) - (FF0 j + pg))).length)) (upd pa ps (nI rw)) (upd pt ps (-1)) rr' rd' rg' tp md (upd le j (nI ps)) (upd aw hh (nI ps)) (va_up lp hh (some ad)) f (un Fr (TL j) ((FF0 j + pg) + ((if (FF0 j + pg) + pg < ML j then (FF0 j + pg) + pg else ML j) - (FF0 j + pg)))) := by
            rw [show (fun a => (mAns (fr_up Y1 (0, 70) (.inl (cI, 4600, .inl (upd le j (nI ps))))) cI aw cs (upd pr ps (nI (kp (keepB ac (si (TL j))) (GG j) (FF0 j + pg) ((if (FF0 j + pg) + pg < ML j then (FF0 j + pg) + pg else ML j) - (FF0 j + pg))).length)) hh ps) (1, a)) = fun a => (fr_up C1 (1, TA j) (.inr (3, [.ref (LG j), .int (nI (FF0 j + pg)), .int (md j), .ref ad]))) (1, a) from funext hpool]
            refine ⟨hlat, htk0 _ _ _ _ (fun i hi => ⟨rfl, rfl, rfl⟩) (fun i hi hij => pk_un hij) pk_us, hPL.2.2.1, fun i i' Q Q' hi hi' hQ hQ' e1 e2 e3 e4 e5 => ?_⟩
            have hij : i ≠ j := fun q => by rw [q, pk_us] at e1; exact nI_ne1 (by omega) e1
            have hij' : i' ≠ j := fun q => by rw [q, pk_us] at e2; exact nI_ne1 (by omega) e2
            rw [pk_un hij] at e1
            rw [pk_un hij'] at e2
            have z1 := huq i Q hi hQ e3
            have z2 := huq i' Q' hi' hQ' e4
            rw [pk_un (by omega), pk_un (by omega)] at e5
            exact hPL.2.2.2 i i' Q Q' hi hi' hQ hQ' e1 e2 e3 e4 e5
          exact ⟨pg, gr, lf, n, an, lc, po + (((if (FF0 j + pg) + pg < ML j then (FF0 j + pg) + pg else ML j) - (FF0 j + pg)) - (kp (keepB ac (si (TL j))) (GG j) (FF0 j + pg) ((if (FF0 j + pg) + pg < ML j then (FF0 j + pg) + pg else ML j) - (FF0 j + pg))).length), ps + 1, rw + (kp (keepB ac (si (TL j))) (GG j) (FF0 j + pg) ((if (FF0 j + pg) + pg < ML j then (FF0 j + pg) + pg else ML j) - (FF0 j + pg))).length, tk, dt, n0, 0, mc, st, dy, dl, ac, hd, mn, si, fo, ol, li, upd pl ps (nI (TL j)), upd pf ps (nI (FF0 j + pg)), upd pr ps (nI (kp (keepB ac (si (TL j))) (GG j) (FF0 j + pg) ((if (FF0 j + pg) + pg < ML j then (FF0 j + pg) + pg else ML j) - (FF0 j + pg))).length), upd pa ps (nI rw), upd pt ps (-1), rr', rd', rg', tp, md, upd le j (nI ps), upd aw hh (nI ps), upd cs hh (cs hh + nI (kp (keepB ac (si (TL j))) (GG j) (FF0 j + pg) ((if (FF0 j + pg) + pg < ML j then (FF0 j + pg) + pg else ML j) - (FF0 j + pg))).length), va_up lp hh (some ad), f, un Fr (TL j) ((FF0 j + pg) + ((if (FF0 j + pg) + pg < ML j then (FF0 j + pg) + pg else ML j) - (FF0 j + pg))), o30, ⟨z0, (hag (0, 1) (by decide)).trans ((p9 1 (by decide) (by decide) (by decide)).trans h1), (hag (0, 2) (by decide)).trans ((p9 2 (by decide) (by decide) (by decide)).trans h2), (hag (0, 3) (by decide)).trans ((p9 3 (by decide) (by decide) (by decide)).trans h3), (hag (0, 4) (by decide)).trans ((p9 4 (by decide) (by decide) (by decide)).trans h4), (hag (0, 5) (by decide)).trans ((p9 5 (by decide) (by decide) (by decide)).trans h5), ⟨od, (hag (0, 6) (by decide)).trans ((p9 6 (by decide) (by decide) (by decide)).trans h6)⟩, (hag (0, 8) (by decide)).trans rfl, (hag (0, 9) (by decide)).trans rfl⟩, ⟨c40, (hag (0, 46) (by decide)).trans ((p9 46 (by decide) (by decide) (by decide)).trans m6), (hag (0, 47) (by decide)).trans ((p9 47 (by decide) (by decide) (by decide)).trans m7), (hag (0, 48) (by decide)).trans ((p9 48 (by decide) (by decide) (by decide)).trans m8), (hag (0, 49) (by decide)).trans ((p9 49 (by decide) (by decide) (by decide)).trans m9), (hag (0, 50) (by decide)).trans ((p9 50 (by decide) (by decide) (by decide)).trans m10), (hag (0, 52) (by decide)).trans ((p9 52 (by decide) (by decide) (by decide)).trans m12), (hag (0, 53) (by decide)).trans ((p9 53 (by decide) (by decide) (by decide)).trans m13), (hag (0, 54) (by decide)).trans ((p9 54 (by decide) (by decide) (by decide)).trans m14), (hag (0, 55) (by decide)).trans ((p9 55 (by decide) (by decide) (by decide)).trans m15), (hag (0, 56) (by decide)).trans ((p9 56 (by decide) (by decide) (by decide)).trans m16), q58, q59, q60, q61, c62, q64, q65, q66, c68, c69, rfl, rfl, z72⟩, ⟨zz7, zls⟩, (hag (0, 30) (by decide)).trans ((p9 30 (by decide) (by decide) (by decide)).trans h30), hnB2, hPL2⟩
