theorem lsErr_det {gr lc k : Nat} {hd : Nat → Int32} {h f fr to of t r1 r2 : Int32} (h1 : lsErr gr lc k hd h f fr to of t r1) (h2 : lsErr gr lc k hd h f fr to of t r2) : r1 = r2 := by
  rcases h1 with ⟨a1, ae⟩ | ⟨a1, a2, ae⟩ | ⟨a1, a2, a3, ae⟩ | ⟨a1, a2, a3, a4, ae⟩ | ⟨a1, a2, a3, a4, a5, ae⟩ | ⟨a1, a2, a3, a4, a5, a6, ae⟩ | ⟨a1, a2, a3, a4, a5, a6, a7, ae⟩ <;> rcases h2 with ⟨d1, de⟩ | ⟨d1, d2, de⟩ | ⟨d1, d2, d3, de⟩ | ⟨d1, d2, d3, d4, de⟩ | ⟨d1, d2, d3, d4, d5, de⟩ | ⟨d1, d2, d3, d4, d5, d6, de⟩ | ⟨d1, d2, d3, d4, d5, d6, d7, de⟩ <;> first | (exact ae.trans de.symm) | contradiction | (exfalso; omega)
theorem lsErr_no {gr lc k : Nat} {hd : Nat → Int32} {h f fr to of t r1 : Int32} (h1 : lsErr gr lc k hd h f fr to of t r1) (h2 : lsOk gr lc k hd h f fr to of t) : False := by
  obtain ⟨d1, d2, d3, d4, d5, d6, d7⟩ := h2
  rcases h1 with ⟨a1, ae⟩ | ⟨a1, a2, ae⟩ | ⟨a1, a2, a3, ae⟩ | ⟨a1, a2, a3, a4, ae⟩ | ⟨a1, a2, a3, a4, a5, ae⟩ | ⟨a1, a2, a3, a4, a5, a6, ae⟩ | ⟨a1, a2, a3, a4, a5, a6, a7, ae⟩ <;> first | contradiction | omega
theorem fX_b {b b' : Nat → Nat} (h : ∀ i, i < 20 ∨ 28 ≤ i → b' i = b i) (pg gr lf n an lc po : Nat) : fX b' pg gr lf n an lc po = fX b pg gr lf n an lc po := by
  simp only [fX, h 1 (by decide), h 2 (by decide), h 3 (by decide), h 4 (by decide), h 5 (by decide), h 6 (by decide), h 7 (by decide), h 8 (by decide), h 9 (by decide)]
theorem fM_b {b b' : Nat → Nat} (h : ∀ i, i < 20 ∨ 28 ≤ i → b' i = b i) (th : Int32) (pg gr lf an n lc ps rw tk po : Nat) : fM b' th pg gr lf an n lc ps rw tk po = fM b th pg gr lf an n lc ps rw tk po := by
  simp only [fM, h 46 (by decide), h 47 (by decide), h 48 (by decide), h 49 (by decide), h 50 (by decide), h 52 (by decide), h 53 (by decide), h 54 (by decide), h 55 (by decide), h 56 (by decide), h 58 (by decide), h 59 (by decide), h 60 (by decide), h 61 (by decide), h 62 (by decide), h 64 (by decide), h 65 (by decide), h 66 (by decide), h 68 (by decide), h 69 (by decide), h 70 (by decide), h 71 (by decide), h 72 (by decide)]
set_option maxHeartbeats 4000000 in
set_option maxRecDepth 100000 in
theorem s_list {cI cZ cJ cP cO : ClassId} {e0 : Nat} {b : Nat → Nat} {C : fr_C} {N : Nat} {pg gr lf n an lc po ps rw tk dt n0 : Nat} {th mc : Int32} {st dy dl ac hd mn si fo ol li pl pf pr pa pt rr rd rg tp md le aw cs : Nat → Int32} {lp f : Nat → Option Nat} {Fr : Nat → Nat} {o30 : Nat → Int64} (hC : CpB cI cZ cJ cP cO e0 b C N pg gr lf n an lc po ps rw tk dt n0 th mc st dy dl ac hd mn si fo ol li pl pf pr pa pt rr rd rg tp md le aw cs lp f Fr o30) (hN : N ≤ 512) {z : Nat} (he0 : e0 < z) (hz : ∀ a e, C (1, a) = some e → z ≤ a) (h fm fr to of t : Int32) {r1 r2 : Int32} {u1 : (Nat → Nat) × fr_C} {u2 : fr_C} (w1 : (fun (f9 : Nat → Option Nat) (f : Int32) => fun (r : Int32) (u : (Nat → Nat) × fr_C) => (lsErr gr lc (gaF (selB fr to of dy st) dy n).2 hd h f fr to of t r ∧ u.1 = b ∧ ∃ od, u.2 = fr_up C (0, 6) (.inl (cI, 150, .inl od))) ∨ (lsOk gr lc (gaF (selB fr to of dy st) dy n).2 hd h f fr to of t ∧ ∃ (hh lg nm pa : Nat) (C1 C2 : fr_C) (b1 : Nat → Nat), hh < 10 ∧ h = nI hh ∧ xLs z C C1 b b1 cI pg gr lf n an lc po (gaF (selB fr to of dy st) dy n).1 (gaF (selB fr to of dy st) dy n).2 lg nm h f ∧ xPage C1 C2 b1 u.1 cI cZ cO pg gr lf n an (lc + 1) po f lg 0 (if pg < (gaF (selB fr to of dy st) dy n).2 then pg else (gaF (selB fr to of dy st) dy n).2) t (kp (keepB ac (nI an)) (gaF (selB fr to of dy st) dy n).1 0 (if pg < (gaF (selB fr to of dy st) dy n).2 then pg else (gaF (selB fr to of dy st) dy n).2)) (0 + (if pg < (gaF (selB fr to of dy st) dy n).2 then pg else (gaF (selB fr to of dy st) dy n).2) < (gaF (selB fr to of dy st) dy n).2) dy dl mc dt tk n0 f9 pa ∧ (∀ i, i < 20 ∨ 28 ≤ i → u.1 i = b i) ∧ r = nI (kp (keepB ac (nI an)) (gaF (selB fr to of dy st) dy n).1 0 (if pg < (gaF (selB fr to of dy st) dy n).2 then pg else (gaF (selB fr to of dy st) dy n).2)).length ∧ u.2 = xAns C2 cI cP lp cs hh pa (nI (kp (keepB ac (nI an)) (gaF (selB fr to of dy st) dy n).1 0 (if pg < (gaF (selB fr to of dy st) dy n).2 then pg else (gaF (selB fr to of dy st) dy n).2)).length))) f fm r1 u1) (w2 : (fun (C : fr_C) (b : Nat → Nat) (f : Int32) => fun (r : Int32) (u : fr_C) => (lsErr gr lc (gaF (selB fr to of dy st) dy n).2 hd h f fr to of t r ∧ u = fr_up C (0, 40) (.inr (5, fM b 0 pg gr lf an n lc ps rw tk po))) ∨ (lsOk gr lc (gaF (selB fr to of dy st) dy n).2 hd h f fr to of t ∧ ∃ (hh : Nat) (li' : Nat → Int32) (Q : fr_C × (Nat → Int32) × (Nat → Int32) × (Nat → Int32)), hh < 10 ∧ h = nI hh ∧ ((∀ j, j < (gaF (selB fr to of dy st) dy n).2 → li' (150 * lc + j) = nI ((gaF (selB fr to of dy st) dy n).1 j)) ∧ ∀ i, i < 150 * lc → li' i = li i) ∧ mPage (mLs C cI b pg gr lf an n lc ps rw tk po li' mn si fo ol (gaF (selB fr to of dy st) dy n).2 f h) Q.1 cI cZ b 0 pg gr lf an n (lc + 1) ps rw tk po pl pf pr pa pt rr rd rg tp md le dy dl lc 0 t (if pg < (gaF (selB fr to of dy st) dy n).2 then pg else (gaF (selB fr to of dy st) dy n).2) (kp (keepB ac (upd si lc (nI an) lc)) (gaF (selB fr to of dy st) dy n).1 0 (if pg < (gaF (selB fr to of dy st) dy n).2 then pg else (gaF (selB fr to of dy st) dy n).2)) (0 + (if pg < (gaF (selB fr to of dy st) dy n).2 then pg else (gaF (selB fr to of dy st) dy n).2) < (gaF (selB fr to of dy st) dy n).2) Q.2.1 Q.2.2.1 Q.2.2.2 ∧ r = nI (kp (keepB ac (upd si lc (nI an) lc)) (gaF (selB fr to of dy st) dy n).1 0 (if pg < (gaF (selB fr to of dy st) dy n).2 then pg else (gaF (selB fr to of dy st) dy n).2)).length ∧ u = mAns Q.1 cI aw cs (upd pr ps (nI (kp (keepB ac (upd si lc (nI an) lc)) (gaF (selB fr to of dy st) dy n).1 0 (if pg < (gaF (selB fr to of dy st) dy n).2 then pg else (gaF (selB fr to of dy st) dy n).2)).length)) hh ps)) u1.2 u1.1 fm r2 u2) : r1 = r2 ∧ Cpl cI cZ cJ cP cO e0 u1.1 u2 (N + 1) := by
  obtain ⟨⟨h0, h1, h2, h3, h4, h5, ⟨od, h6⟩, h8, h9⟩, ⟨m0, m6, m7, m8, m9, m10, m12, m13, m14, m15, m16, m18, m19, m20, m21, m22, m24, m25, m26, m28, m29, m30, m31, m32⟩, ⟨h7, hls⟩, h30, hnB, hPL⟩ := hC
  obtain ⟨g1, g2, g3, g4, g5, g6, g7, g8, g9, g10⟩ := id hnB
  obtain ⟨hr1, hr2⟩ := rw_4500 hnB
  obtain ⟨b9, C9⟩ := u1
  have w1 := w1
  have w2 := w2
  rcases w1 with ⟨hE1, hb1, od', hu1⟩ | ⟨hok1, hh, lg, nm, ad, C1, C2, b1, k1, k2, hLs, hPg, hbb, hr, hu1⟩
  · replace hb1 : b9 = b := hb1
    replace hu1 : C9 = fr_up C (0, 6) (.inl (cI, 150, .inl od')) := hu1
    subst hb1
    subst hu1
    rcases w2 with ⟨hE2, hu2⟩ | ⟨hok2, -⟩
    · subst hu2
      exact ⟨lsErr_det hE1 hE2, ⟨pg, gr, lf, n, an, lc, po, ps, rw, tk, dt, n0, 0, mc, st, dy, dl, ac, hd, mn, si, fo, ol, li, pl, pf, pr, pa, pt, rr, rd, rg, tp, md, le, aw, cs, lp, f, Fr, o30, ⟨h0, h1, h2, h3, h4, h5, ⟨od', rfl⟩, h8, h9⟩, ⟨rfl, m6, m7, m8, m9, m10, m12, m13, m14, m15, m16, m18, m19, m20, m21, m22, m24, m25, m26, m28, m29, m30, m31, m32⟩, ⟨h7, hls⟩, h30, hnB.next, hPL⟩⟩
    · exact (lsErr_no hE1 hok2).elim
  · replace hbb : ∀ i, i < 20 ∨ 28 ≤ i → b9 i = b i := hbb
    replace hu1 : C9 = xAns C2 cI cP lp cs hh ad (nI (kp (keepB ac (nI an)) (gaF (selB fr to of dy st) dy n).1 0 (if pg < (gaF (selB fr to of dy st) dy n).2 then pg else (gaF (selB fr to of dy st) dy n).2)).length) := hu1
    subst hu1
    rcases w2 with ⟨hE2, -⟩ | ⟨hok2, hh', li', ⟨Q1, rr', rd', rg'⟩, k1', k2', ⟨hli1, hli2⟩, hMp, hr', hu2⟩
    · exact (lsErr_no hE2 hok1).elim
    · obtain rfl := inN_j (by decide) k1 k1' k2 k2'
      rw [pk_us] at hMp hr' hu2
      obtain ⟨⟨fnm, x1, x2⟩, x3, x4, ⟨od', x5⟩, x6, x7, x8, x9, x10, x11, x12⟩ := hLs
      obtain ⟨pn, pd, pz, nt, fn, fd, fz, p1, p2, p3, p4, p5, p6, p7, p8, p9, p10, p11, p12⟩ := hPg
      obtain ⟨q58, q59, q60, q61, q64, q65, q66, hrows, hKm, hag, hcs⟩ := hMp
      have hga : (gaF (selB fr to of dy st) dy n).2 ≤ 150 := by have := gaF_le (selB fr to of dy st) dy n; omega
      have hpos : 0 < (gaF (selB fr to of dy st) dy n).2 := hok1.2.2.2.2.2.1
      have hlc : lc < 30 := hok1.2.2.2.2.2.2
      have hMM : (if pg < (gaF (selB fr to of dy st) dy n).2 then pg else (gaF (selB fr to of dy st) dy n).2) ≤ pg ∧ (if pg < (gaF (selB fr to of dy st) dy n).2 then pg else (gaF (selB fr to of dy st) dy n).2) ≤ (gaF (selB fr to of dy st) dy n).2 := by split <;> omega
      have hpool : (fun a => u2 (1, a)) = fun a => C2 (1, a) := funext fun a => by subst hu2; exact hag (1, a) (by simp [mPgL])
      have hnd : ∀ a e, C (1, a) = some e → (∀ n f, e ≠ .inl (cO, n, .inr (.inr (.inr (.inr f))))) → a ≠ dt := by
        intro a e y hne q
        subst q
        rcases hls with ⟨y1, -⟩ | ⟨y1, -⟩
        · have := hz _ _ y
          omega
        · exact hne _ _ (Option.some.inj (y.symm.trans y1))
      have hpm : PM (fun a => C (1, a)) (fun a => C2 (1, a)) := fun a e y hp => p8 a e (x6 a e y) (hnd a e y (by rcases hp with ⟨k, fs, rfl, _⟩ | ⟨c, m, f, rfl⟩ <;> intro n f q <;> simp at q))
      have hlg : lg ≠ dt := by
        intro q
        rcases hls with ⟨y1, -⟩ | ⟨y1, -⟩
        · omega
        · rw [q] at x3
          exact absurd (x3.symm.trans (x6 _ _ y1)) (by simp)
      have hnm : nm ≠ dt := by
        intro q
        rcases hls with ⟨y1, -⟩ | ⟨y1, -⟩
        · omega
        · rw [q] at x1
          exact absurd (x1.symm.trans (x6 _ _ y1)) (by simp)
      have hl1 : ∀ L, L < lc → upd mn lc (nI (gaF (selB fr to of dy st) dy n).2) L = mn L ∧ upd si lc (nI an) L = si L ∧ upd fo lc fm L = fo L ∧ upd ol lc h L = ol L := fun L hL => ⟨pk_un (by omega), pk_un (by omega), pk_un (by omega), pk_un (by omega)⟩
      have hpl : ∀ Q, Q < ps → upd pl ps (nI lc) Q = pl Q ∧ upd pf ps (nI 0) Q = pf Q ∧ upd pr ps (nI (kp (keepB ac (nI an)) (gaF (selB fr to of dy st) dy n).1 0 (if pg < (gaF (selB fr to of dy st) dy n).2 then pg else (gaF (selB fr to of dy st) dy n).2)).length) Q = pr Q ∧ upd pa ps (nI rw) Q = pa Q ∧ upd pt ps nt Q = pt Q := fun Q hQ => ⟨pk_un (by omega), pk_un (by omega), pk_un (by omega), pk_un (by omega), pk_un (by omega)⟩
      have hrr := hrows.1
      have hnew : pgOk (fun a => C2 (1, a)) cI cZ (lc + 1) (ps + 1) (rw + (kp (keepB ac (nI an)) (gaF (selB fr to of dy st) dy n).1 0 (if pg < (gaF (selB fr to of dy st) dy n).2 then pg else (gaF (selB fr to of dy st) dy n).2)).length) (upd fo lc fm) (upd pl ps (nI lc)) (upd pf ps (nI 0)) (upd pr ps (nI (kp (keepB ac (nI an)) (gaF (selB fr to of dy st) dy n).1 0 (if pg < (gaF (selB fr to of dy st) dy n).2 then pg else (gaF (selB fr to of dy st) dy n).2)).length)) (upd pa ps (nI rw)) (upd pt ps nt) rr' rd' rg' ad ps := pgOk.new (by omega) pk_us p1 p2 p3 p4 p6 (by omega) p5 hrows
      have hli : liOk (fun a => C2 (1, a)) cI (upd mn lc (nI (gaF (selB fr to of dy st) dy n).2)) (upd si lc (nI an)) (upd fo lc fm) (upd ol lc h) li' lg lc nm (gaF (selB fr to of dy st) dy n).2 fnm (gaF (selB fr to of dy st) dy n).1 := ⟨by rw [pk_us, pk_us, pk_us]; exact p8 _ _ x3 hlg, p8 _ _ x1 hnm, pk_us, hga, fun k hk => ⟨x2 k hk, by have := gaF_lt (selB fr to of dy st) dy n k hk; omega, hli1 k hk⟩⟩
      have hlat : ∀ j, j < 10 → (upd aw hh (nI ps) j = -1 ∧ va_up lp hh (some ad) j = none) ∨ ∃ Q ad', upd aw hh (nI ps) j = nI Q ∧ va_up lp hh (some ad) j = some ad' ∧ pgOk (fun a => C2 (1, a)) cI cZ (lc + 1) (ps + 1) (rw + (kp (keepB ac (nI an)) (gaF (selB fr to of dy st) dy n).1 0 (if pg < (gaF (selB fr to of dy st) dy n).2 then pg else (gaF (selB fr to of dy st) dy n).2)).length) (upd fo lc fm) (upd pl ps (nI lc)) (upd pf ps (nI 0)) (upd pr ps (nI (kp (keepB ac (nI an)) (gaF (selB fr to of dy st) dy n).1 0 (if pg < (gaF (selB fr to of dy st) dy n).2 then pg else (gaF (selB fr to of dy st) dy n).2)).length)) (upd pa ps (nI rw)) (upd pt ps nt) rr' rd' rg' ad' Q := by
        intro j hj
        by_cases y : j = hh
        · subst y
          exact Or.inr ⟨ps, ad, pk_us, va_up_self _ _ _, hnew⟩
        · rcases hPL.1 j hj with ⟨z1, z2⟩ | ⟨Q, ad', z1, z2, z3⟩
          · exact Or.inl ⟨(pk_un y).trans z1, (va_up_ne _ _ y).trans z2⟩
          · exact Or.inr ⟨Q, ad', (pk_un y).trans z1, (va_up_ne _ _ y).trans z2, z3.mono hpm (by omega) (by omega) (by omega) (fun L hL => (hl1 L hL).2.2.1) hpl hrr⟩
      have htk0 : ∀ (tp' md' le' : Nat → Int32) (f' : Nat → Option Nat), (∀ j, j < tk → f' j = f j ∧ tp' j = tp j ∧ md' j = md j ∧ le' j = le j) → ∀ j, j < tk → ∃ (ta lg nm F m L Q : Nat) (pq : Option Nat) (fnm : Nat → Int32) (g : Nat → Nat), tkOk (fun a => C2 (1, a)) cI cZ pg (lc + 1) (ps + 1) (rw + (kp (keepB ac (nI an)) (gaF (selB fr to of dy st) dy n).1 0 (if pg < (gaF (selB fr to of dy st) dy n).2 then pg else (gaF (selB fr to of dy st) dy n).2)).length) (upd mn lc (nI (gaF (selB fr to of dy st) dy n).2)) (upd si lc (nI an)) (upd fo lc fm) (upd ol lc h) li' (upd pl ps (nI lc)) (upd pf ps (nI 0)) (upd pr ps (nI (kp (keepB ac (nI an)) (gaF (selB fr to of dy st) dy n).1 0 (if pg < (gaF (selB fr to of dy st) dy n).2 then pg else (gaF (selB fr to of dy st) dy n).2)).length)) (upd pa ps (nI rw)) (upd pt ps nt) rr' rd' rg' tp' md' le' f' (un Fr lc (if pg < (gaF (selB fr to of dy st) dy n).2 then pg else (gaF (selB fr to of dy st) dy n).2)) j ta lg nm F m L Q pq fnm g := by
        intro tp' md' le' f' hag9 j hj
        obtain ⟨ta, lg', nm', F', m', L', Q', pq, fnm', g', hT⟩ := hPL.2.1 j hj
        have hL' := hT.2.2.2.2.1
        exact ⟨ta, lg', nm', F', m', L', Q', pq, fnm', g', hT.mono hpm (by omega) (by omega) (by omega) hl1 hli2 hpl hrr (fun fs y => p8 _ _ (x6 _ _ y) (hnd _ _ y (by intro n f q; cases q))) (hag9 j hj) (fun _ => un_n (by omega))⟩
      have huq : ∀ j Q, j < tk → Q < 4600 → tp j = nI Q → Q < ps ∧ ∃ L, L < lc ∧ pl Q = nI L := by
        intro j Q hj hQ e
        obtain ⟨ta, lg', nm', F', m', L', Q', pq, fnm', g', -, -, -, y1, y2, y3, y4, -⟩ := hPL.2.1 j hj
        obtain rfl : Q' = Q := (nI_eq (by omega) (by omega)).mp (y3.symm.trans e)
        exact ⟨y1, L', y2, y4⟩
      have z0 : u2 (0, 0) = some (.inr (0, fX b9 pg gr lf n an (lc + 1) (po + ((if pg < (gaF (selB fr to of dy st) dy n).2 then pg else (gaF (selB fr to of dy st) dy n).2) - (kp (keepB ac (nI an)) (gaF (selB fr to of dy st) dy n).1 0 (if pg < (gaF (selB fr to of dy st) dy n).2 then pg else (gaF (selB fr to of dy st) dy n).2)).length)))) := by
        rw [fX_b p10]
        subst hu2
        exact (hag (0, 0) (by decide)).trans p7
      have z72 : u2 (0, 72) = some (.inl (cI, 10, .inl (upd cs hh (cs hh + nI (kp (keepB ac (nI an)) (gaF (selB fr to of dy st) dy n).1 0 (if pg < (gaF (selB fr to of dy st) dy n).2 then pg else (gaF (selB fr to of dy st) dy n).2)).length)))) := by
        subst hu2
        show some (Sum.inl (cI, 10, Sum.inl (upd cs hh (cs hh + upd pr ps (nI (kp (keepB ac (nI an)) (gaF (selB fr to of dy st) dy n).1 0 (if pg < (gaF (selB fr to of dy st) dy n).2 then pg else (gaF (selB fr to of dy st) dy n).2)).length) ps)))) = _
        rw [pk_us]
      have hrwF : rw + (kp (keepB ac (nI an)) (gaF (selB fr to of dy st) dy n).1 0 (if pg < (gaF (selB fr to of dy st) dy n).2 then pg else (gaF (selB fr to of dy st) dy n).2)).length ≤ sumF (un Fr lc (if pg < (gaF (selB fr to of dy st) dy n).2 then pg else (gaF (selB fr to of dy st) dy n).2)) (lc + 1) := by
        show _ ≤ sumF (un Fr lc (if pg < (gaF (selB fr to of dy st) dy n).2 then pg else (gaF (selB fr to of dy st) dy n).2)) lc + un Fr lc (if pg < (gaF (selB fr to of dy st) dy n).2 then pg else (gaF (selB fr to of dy st) dy n).2) lc
        rw [sumF_out (Nat.le_refl _), un_s]
        omega
      have hFr : ∀ L, un Fr lc (if pg < (gaF (selB fr to of dy st) dy n).2 then pg else (gaF (selB fr to of dy st) dy n).2) L ≤ 150 := fun L => by
        by_cases y : L = lc
        · rw [y, un_s]
          omega
        · rw [un_n y]
          exact g9 L
      subst hu2
      refine ⟨hr.trans hr'.symm, ?_⟩
      rcases p12 with ⟨htm, rfl, ta, dt', n', f', t1, t2, t3, t4, t5, t6, t7, t8, t9, t10, t11⟩ | ⟨htm, rfl, t2, t3⟩
      · rcases hcs with ⟨-, c40, c62, c68, c69, c70⟩ | ⟨hnt, -⟩
        · have hMp : (if pg < (gaF (selB fr to of dy st) dy n).2 then pg else (gaF (selB fr to of dy st) dy n).2) = pg := by split at htm <;> split <;> omega
          have hnB2 : nB pg gr lf n (lc + 1) (ps + 1) (rw + (kp (keepB ac (nI an)) (gaF (selB fr to of dy st) dy n).1 0 (if pg < (gaF (selB fr to of dy st) dy n).2 then pg else (gaF (selB fr to of dy st) dy n).2)).length) (tk + 1) (N + 1) dl (un Fr lc (if pg < (gaF (selB fr to of dy st) dy n).2 then pg else (gaF (selB fr to of dy st) dy n).2)) := ⟨g1, g2, g3, g4, by omega, by omega, by omega, hrwF, hFr, g10⟩
          have zz7 := (hag (0, 7) (by decide)).trans t2
          have hel : ∀ i y, i < n' → f' i = some y → ∃ fs, C2 (1, y) = some (.inr (3, fs)) := by
            intro i y hi hy
            rcases Nat.lt_trichotomy i tk with q | q | q
            · rw [t8 i q] at hy
              obtain ⟨ta', lg', nm', F', m', L', Q', pq, fnm', g', y1, y2, -⟩ := hPL.2.1 i q
              rw [hy] at y1
              cases y1
              exact ⟨_, p8 _ _ (x6 _ _ y2) (hnd _ _ y2 (by intro n f q; cases q))⟩
            · subst q
              rw [t7] at hy
              cases hy
              exact ⟨_, t1⟩
            · rw [t9 i q] at hy
              cases hy
          have hpoolA : ∀ a, mAns Q1 cI aw cs (upd pr ps (nI (kp (keepB ac (nI an)) (gaF (selB fr to of dy st) dy n).1 0 (if pg < (gaF (selB fr to of dy st) dy n).2 then pg else (gaF (selB fr to of dy st) dy n).2)).length)) hh ps (1, a) = C2 (1, a) := fun a => congrFun hpool a
          have zls : lsAt (mAns Q1 cI aw cs (upd pr ps (nI (kp (keepB ac (nI an)) (gaF (selB fr to of dy st) dy n).1 0 (if pg < (gaF (selB fr to of dy st) dy n).2 then pg else (gaF (selB fr to of dy st) dy n).2)).length)) hh ps) cO e0 dt' (tk + 1) n' f' := Or.inr ⟨(hpoolA _).trans t3, t4, t5, t6, fun i y hi hy => by obtain ⟨fs, hfs⟩ := hel i y hi hy; exact ⟨fs, (hpoolA y).trans hfs⟩, fun i hi => t9 i (by omega)⟩
          have hta : ∀ j, j < tk → f' j ≠ some ta := by
            intro j hj q
            rw [t8 j hj] at q
            obtain ⟨ta', lg', nm', F', m', L', Q', pq, fnm', g', y1, y2, -⟩ := hPL.2.1 j hj
            rw [q] at y1
            cases y1
            exact absurd (t11.symm.trans (x6 _ _ y2)) (by simp)
          have hPL2 : PL (fun a => mAns Q1 cI aw cs (upd pr ps (nI (kp (keepB ac (nI an)) (gaF (selB fr to of dy st) dy n).1 0 (if pg < (gaF (selB fr to of dy st) dy n).2 then pg else (gaF (selB fr to of dy st) dy n).2)).length)) hh ps (1, a)) cI cZ pg (lc + 1) (ps + 1) (rw + (kp (keepB ac (nI an)) (gaF (selB fr to of dy st) dy n).1 0 (if pg < (gaF (selB fr to of dy st) dy n).2 then pg else (gaF (selB fr to of dy st) dy n).2)).length) (tk + 1) (upd mn lc (nI (gaF (selB fr to of dy st) dy n).2)) (upd si lc (nI an)) (upd fo lc fm) (upd ol lc h) li' (upd pl ps (nI lc)) (upd pf ps (nI 0)) (upd pr ps (nI (kp (keepB ac (nI an)) (gaF (selB fr to of dy st) dy n).1 0 (if pg < (gaF (selB fr to of dy st) dy n).2 then pg else (gaF (selB fr to of dy st) dy n).2)).length)) (upd pa ps (nI rw)) (upd pt ps (nI tk)) rr' rd' rg' (upd tp tk (nI ps)) (upd md tk t) (upd le tk (-1)) (upd aw hh (nI ps)) (va_up lp hh (some ad)) f' (un Fr lc (if pg < (gaF (selB fr to of dy st) dy n).2 then pg else (gaF (selB fr to of dy st) dy n).2)) := by
            rw [hpool]
            refine ⟨hlat, ?_, ?_, ?_⟩
            · intro j hj
              by_cases y : j = tk
              · subst y
                exact ⟨ta, lg, nm, 0, (gaF (selB fr to of dy st) dy n).2, lc, ps, none, fnm, (gaF (selB fr to of dy st) dy n).1, t7, by rw [pk_us, ← hMp]; exact t1, hli, by omega, by omega, pk_us, pk_us, pk_us, by omega, by rw [pk_us]; exact hok1.2.1, Or.inl ⟨pk_us, rfl, by rw [un_s]; omega⟩⟩
              · exact htk0 _ _ _ _ (fun j hj => ⟨t8 j hj, pk_un (by omega), pk_un (by omega), pk_un (by omega)⟩) j (by omega)
            · intro j j' hj hj' e
              by_cases y : j = tk
              · by_cases y' : j' = tk
                · rw [y, y']
                · subst y
                  exact absurd (e.symm.trans t7) (hta j' (by omega))
              · by_cases y' : j' = tk
                · subst y'
                  exact absurd (e.trans t7) (hta j (by omega))
                · exact hPL.2.2.1 j j' (by omega) (by omega) (by rw [← t8 j (by omega), ← t8 j' (by omega)]; exact e)
            · intro j j' Q Q' hj hj' hQ hQ' e1 e2 e3 e4 e5
              by_cases y : j = tk
              · by_cases y' : j' = tk
                · rw [y, y']
                · exfalso
                  rw [pk_un y'] at e4
                  obtain ⟨z1, L, z2, z3⟩ := huq j' Q' (by omega) hQ' e4
                  rw [y, pk_us] at e3
                  obtain rfl : ps = Q := (nI_eq (by omega) (by omega)).mp e3
                  rw [pk_us, pk_un (by omega), z3] at e5
                  have := (nI_eq (by omega) (by omega)).mp e5
                  omega
              · by_cases y' : j' = tk
                · exfalso
                  rw [pk_un y] at e3
                  obtain ⟨z1, L, z2, z3⟩ := huq j Q (by omega) hQ e3
                  rw [y', pk_us] at e4
                  obtain rfl : ps = Q' := (nI_eq (by omega) (by omega)).mp e4
                  rw [pk_us, pk_un (by omega), z3] at e5
                  have := (nI_eq (by omega) (by omega)).mp e5
                  omega
                · rw [pk_un y] at e1 e3
                  rw [pk_un y'] at e2 e4
                  have z1 := (huq j Q (by omega) hQ e3).1
                  have z2 := (huq j' Q' (by omega) hQ' e4).1
                  rw [pk_un (by omega), pk_un (by omega)] at e5
                  exact hPL.2.2.2 j j' Q Q' (by omega) (by omega) hQ hQ' e1 e2 e3 e4 e5
          exact ⟨pg, gr, lf, n, an, lc + 1, po + ((if pg < (gaF (selB fr to of dy st) dy n).2 then pg else (gaF (selB fr to of dy st) dy n).2) - (kp (keepB ac (nI an)) (gaF (selB fr to of dy st) dy n).1 0 (if pg < (gaF (selB fr to of dy st) dy n).2 then pg else (gaF (selB fr to of dy st) dy n).2)).length), ps + 1, rw + (kp (keepB ac (nI an)) (gaF (selB fr to of dy st) dy n).1 0 (if pg < (gaF (selB fr to of dy st) dy n).2 then pg else (gaF (selB fr to of dy st) dy n).2)).length, tk + 1, dt', n', 0, mc + 1, st, dy, dl, ac, hd, upd mn lc (nI (gaF (selB fr to of dy st) dy n).2), upd si lc (nI an), upd fo lc fm, upd ol lc h, li', upd pl ps (nI lc), upd pf ps (nI 0), upd pr ps (nI (kp (keepB ac (nI an)) (gaF (selB fr to of dy st) dy n).1 0 (if pg < (gaF (selB fr to of dy st) dy n).2 then pg else (gaF (selB fr to of dy st) dy n).2)).length), upd pa ps (nI rw), upd pt ps (nI tk), rr', rd', rg', upd tp tk (nI ps), upd md tk t, upd le tk (-1), upd aw hh (nI ps), upd cs hh (cs hh + nI (kp (keepB ac (nI an)) (gaF (selB fr to of dy st) dy n).1 0 (if pg < (gaF (selB fr to of dy st) dy n).2 then pg else (gaF (selB fr to of dy st) dy n).2)).length), va_up lp hh (some ad), f', un Fr lc (if pg < (gaF (selB fr to of dy st) dy n).2 then pg else (gaF (selB fr to of dy st) dy n).2), o30, ⟨z0, (hag (0, 1) (by decide)).trans ((p9 1 (by decide) (by decide) (by decide)).trans ((x7 1 (by decide) (by decide) (by decide)).trans h1)), (hag (0, 2) (by decide)).trans ((p9 2 (by decide) (by decide) (by decide)).trans ((x7 2 (by decide) (by decide) (by decide)).trans h2)), (hag (0, 3) (by decide)).trans ((p9 3 (by decide) (by decide) (by decide)).trans ((x7 3 (by decide) (by decide) (by decide)).trans h3)), (hag (0, 4) (by decide)).trans ((p9 4 (by decide) (by decide) (by decide)).trans ((x7 4 (by decide) (by decide) (by decide)).trans h4)), (hag (0, 5) (by decide)).trans ((p9 5 (by decide) (by decide) (by decide)).trans ((x7 5 (by decide) (by decide) (by decide)).trans h5)), ⟨od', (hag (0, 6) (by decide)).trans ((p9 6 (by decide) (by decide) (by decide)).trans x5)⟩, (hag (0, 8) (by decide)).trans rfl, (hag (0, 9) (by decide)).trans rfl⟩, ⟨c40, (hag (0, 46) (by decide)).trans ((p9 46 (by decide) (by decide) (by decide)).trans ((x7 46 (by decide) (by decide) (by decide)).trans m6)), (hag (0, 47) (by decide)).trans ((p9 47 (by decide) (by decide) (by decide)).trans ((x7 47 (by decide) (by decide) (by decide)).trans m7)), (hag (0, 48) (by decide)).trans ((p9 48 (by decide) (by decide) (by decide)).trans ((x7 48 (by decide) (by decide) (by decide)).trans m8)), (hag (0, 49) (by decide)).trans ((p9 49 (by decide) (by decide) (by decide)).trans ((x7 49 (by decide) (by decide) (by decide)).trans m9)), (hag (0, 50) (by decide)).trans ((p9 50 (by decide) (by decide) (by decide)).trans ((x7 50 (by decide) (by decide) (by decide)).trans m10)), (hag (0, 52) (by decide)).trans rfl, (hag (0, 53) (by decide)).trans rfl, (hag (0, 54) (by decide)).trans rfl, (hag (0, 55) (by decide)).trans rfl, (hag (0, 56) (by decide)).trans rfl, q58, q59, q60, q61, c62, q64, q65, q66, c68, c69, c70, rfl, z72⟩, ⟨zz7, zls⟩, (hag (0, 30) (by decide)).trans ((p9 30 (by decide) (by decide) (by decide)).trans ((x7 30 (by decide) (by decide) (by decide)).trans h30)), hnB2, hPL2⟩
        · exact absurd htm hnt
      · rcases hcs with ⟨hnt, -⟩ | ⟨-, c40, c62, c68, c69, c70⟩
        · exact absurd hnt htm
        · have hnB2 : nB pg gr lf n (lc + 1) (ps + 1) (rw + (kp (keepB ac (nI an)) (gaF (selB fr to of dy st) dy n).1 0 (if pg < (gaF (selB fr to of dy st) dy n).2 then pg else (gaF (selB fr to of dy st) dy n).2)).length) tk (N + 1) dl (un Fr lc (if pg < (gaF (selB fr to of dy st) dy n).2 then pg else (gaF (selB fr to of dy st) dy n).2)) := ⟨g1, g2, g3, g4, by omega, by omega, by omega, hrwF, hFr, g10⟩
          have zz7 := (hag (0, 7) (by decide)).trans t2
          have hpoolA : ∀ a, mAns Q1 cI aw cs (upd pr ps (nI (kp (keepB ac (nI an)) (gaF (selB fr to of dy st) dy n).1 0 (if pg < (gaF (selB fr to of dy st) dy n).2 then pg else (gaF (selB fr to of dy st) dy n).2)).length)) hh ps (1, a) = C2 (1, a) := fun a => congrFun hpool a
          have zls : lsAt (mAns Q1 cI aw cs (upd pr ps (nI (kp (keepB ac (nI an)) (gaF (selB fr to of dy st) dy n).1 0 (if pg < (gaF (selB fr to of dy st) dy n).2 then pg else (gaF (selB fr to of dy st) dy n).2)).length)) hh ps) cO e0 dt tk n0 f := by
            rcases hls with y | ⟨y1, y2, y3, y4, y5, y6⟩
            · exact Or.inl y
            · exact Or.inr ⟨(hpoolA _).trans (t3 _ (x6 _ _ y1)), y2, y3, y4, fun i y hi hy => by obtain ⟨fs, hfs⟩ := y5 i y hi hy; exact ⟨fs, (hpoolA y).trans (p8 _ _ (x6 _ _ hfs) (hnd _ _ hfs (by intro n f q; cases q)))⟩, y6⟩
          have hPL2 : PL (fun a => mAns Q1 cI aw cs (upd pr ps (nI (kp (keepB ac (nI an)) (gaF (selB fr to of dy st) dy n).1 0 (if pg < (gaF (selB fr to of dy st) dy n).2 then pg else (gaF (selB fr to of dy st) dy n).2)).length)) hh ps (1, a)) cI cZ pg (lc + 1) (ps + 1) (rw + (kp (keepB ac (nI an)) (gaF (selB fr to of dy st) dy n).1 0 (if pg < (gaF (selB fr to of dy st) dy n).2 then pg else (gaF (selB fr to of dy st) dy n).2)).length) tk (upd mn lc (nI (gaF (selB fr to of dy st) dy n).2)) (upd si lc (nI an)) (upd fo lc fm) (upd ol lc h) li' (upd pl ps (nI lc)) (upd pf ps (nI 0)) (upd pr ps (nI (kp (keepB ac (nI an)) (gaF (selB fr to of dy st) dy n).1 0 (if pg < (gaF (selB fr to of dy st) dy n).2 then pg else (gaF (selB fr to of dy st) dy n).2)).length)) (upd pa ps (nI rw)) (upd pt ps (-1)) rr' rd' rg' tp md le (upd aw hh (nI ps)) (va_up lp hh (some ad)) f (un Fr lc (if pg < (gaF (selB fr to of dy st) dy n).2 then pg else (gaF (selB fr to of dy st) dy n).2)) := by
            rw [hpool]
            refine ⟨hlat, htk0 _ _ _ _ (fun j hj => ⟨rfl, rfl, rfl, rfl⟩), hPL.2.2.1, fun j j' Q Q' hj hj' hQ hQ' e1 e2 e3 e4 e5 => ?_⟩
            have z1 := (huq j Q hj hQ e3).1
            have z2 := (huq j' Q' hj' hQ' e4).1
            rw [pk_un (by omega), pk_un (by omega)] at e5
            exact hPL.2.2.2 j j' Q Q' hj hj' hQ hQ' e1 e2 e3 e4 e5
          exact ⟨pg, gr, lf, n, an, lc + 1, po + ((if pg < (gaF (selB fr to of dy st) dy n).2 then pg else (gaF (selB fr to of dy st) dy n).2) - (kp (keepB ac (nI an)) (gaF (selB fr to of dy st) dy n).1 0 (if pg < (gaF (selB fr to of dy st) dy n).2 then pg else (gaF (selB fr to of dy st) dy n).2)).length), ps + 1, rw + (kp (keepB ac (nI an)) (gaF (selB fr to of dy st) dy n).1 0 (if pg < (gaF (selB fr to of dy st) dy n).2 then pg else (gaF (selB fr to of dy st) dy n).2)).length, tk, dt, n0, 0, mc, st, dy, dl, ac, hd, upd mn lc (nI (gaF (selB fr to of dy st) dy n).2), upd si lc (nI an), upd fo lc fm, upd ol lc h, li', upd pl ps (nI lc), upd pf ps (nI 0), upd pr ps (nI (kp (keepB ac (nI an)) (gaF (selB fr to of dy st) dy n).1 0 (if pg < (gaF (selB fr to of dy st) dy n).2 then pg else (gaF (selB fr to of dy st) dy n).2)).length), upd pa ps (nI rw), upd pt ps (-1), rr', rd', rg', tp, md, le, upd aw hh (nI ps), upd cs hh (cs hh + nI (kp (keepB ac (nI an)) (gaF (selB fr to of dy st) dy n).1 0 (if pg < (gaF (selB fr to of dy st) dy n).2 then pg else (gaF (selB fr to of dy st) dy n).2)).length), va_up lp hh (some ad), f, un Fr lc (if pg < (gaF (selB fr to of dy st) dy n).2 then pg else (gaF (selB fr to of dy st) dy n).2), o30, ⟨z0, (hag (0, 1) (by decide)).trans ((p9 1 (by decide) (by decide) (by decide)).trans ((x7 1 (by decide) (by decide) (by decide)).trans h1)), (hag (0, 2) (by decide)).trans ((p9 2 (by decide) (by decide) (by decide)).trans ((x7 2 (by decide) (by decide) (by decide)).trans h2)), (hag (0, 3) (by decide)).trans ((p9 3 (by decide) (by decide) (by decide)).trans ((x7 3 (by decide) (by decide) (by decide)).trans h3)), (hag (0, 4) (by decide)).trans ((p9 4 (by decide) (by decide) (by decide)).trans ((x7 4 (by decide) (by decide) (by decide)).trans h4)), (hag (0, 5) (by decide)).trans ((p9 5 (by decide) (by decide) (by decide)).trans ((x7 5 (by decide) (by decide) (by decide)).trans h5)), ⟨od', (hag (0, 6) (by decide)).trans ((p9 6 (by decide) (by decide) (by decide)).trans x5)⟩, (hag (0, 8) (by decide)).trans rfl, (hag (0, 9) (by decide)).trans rfl⟩, ⟨c40, (hag (0, 46) (by decide)).trans ((p9 46 (by decide) (by decide) (by decide)).trans ((x7 46 (by decide) (by decide) (by decide)).trans m6)), (hag (0, 47) (by decide)).trans ((p9 47 (by decide) (by decide) (by decide)).trans ((x7 47 (by decide) (by decide) (by decide)).trans m7)), (hag (0, 48) (by decide)).trans ((p9 48 (by decide) (by decide) (by decide)).trans ((x7 48 (by decide) (by decide) (by decide)).trans m8)), (hag (0, 49) (by decide)).trans ((p9 49 (by decide) (by decide) (by decide)).trans ((x7 49 (by decide) (by decide) (by decide)).trans m9)), (hag (0, 50) (by decide)).trans ((p9 50 (by decide) (by decide) (by decide)).trans ((x7 50 (by decide) (by decide) (by decide)).trans m10)), (hag (0, 52) (by decide)).trans rfl, (hag (0, 53) (by decide)).trans rfl, (hag (0, 54) (by decide)).trans rfl, (hag (0, 55) (by decide)).trans rfl, (hag (0, 56) (by decide)).trans rfl, q58, q59, q60, q61, c62, q64, q65, q66, c68, c69, c70, rfl, z72⟩, ⟨zz7, zls⟩, (hag (0, 30) (by decide)).trans ((p9 30 (by decide) (by decide) (by decide)).trans ((x7 30 (by decide) (by decide) (by decide)).trans h30)), hnB2, hPL2⟩
