/-! loops, and updates of one cell again -/
theorem fr_up_up (C : fr_C) (r : Nat × Nat) (e1 e2 : va_E) : fr_up (fr_up C r e1) r e2 = fr_up C r e2 := by
  funext x
  by_cases h : x = r
  · subst h
    rw [fr_up_self, fr_up_self]
  · rw [fr_up_ne h, fr_up_ne h, fr_up_ne h]
theorem fr_up_same {C : fr_C} {r : Nat × Nat} {e : va_E} (h : C r = some e) : fr_up C r e = C := by
  funext x
  by_cases hx : x = r
  · subst hx
    rw [fr_up_self, h]
  · rw [fr_up_ne hx]
theorem fr_loop {p : Program} {l : Launch} {e : Env} {R : Room} {s : State} {m : MethodId} {args : Array Value} {below : List Frame} {meth : Method} {c : Code} {cells slots : Nat} {Q : State → Prop} {pc : Nat} {σ : Type} (I : Nat → σ → Heap → List Loc → Array Slot → Prop)
    (h0 : ∀ x H locs ls, ¬ I 0 x H locs ls)
    (hs : ∀ n x H locs ls, I (n + 1) x H locs ls → (∀ x' H' locs' ls', I n x' H' locs' ls' → W p l e R s m args below meth c H' locs' cells slots Q (F0 m pc ls' [])) → W p l e R s m args below meth c H locs cells slots Q (F0 m pc ls [])) :
    ∀ n x H locs ls, I n x H locs ls → W p l e R s m args below meth c H locs cells slots Q (F0 m pc ls []) := by
  intro n
  induction n with
  | zero => intro x H locs ls h; exact absurd h (h0 x H locs ls)
  | succ n ih => intro x H locs ls h; exact hs n x H locs ls h ih
/-- the worlds agree but at the listed roles -/
def fr_ag (L : List (Nat × Nat)) (C' C : fr_C) : Prop := ∀ x, x ∉ L → C' x = C x
theorem fr_ag.rf {L : List (Nat × Nat)} {C : fr_C} : fr_ag L C C := fun _ _ => rfl
theorem fr_ag.up {L : List (Nat × Nat)} {C' C : fr_C} {r : Nat × Nat} {e : va_E} (h : fr_ag L C' C) (hr : r ∈ L) : fr_ag L (fr_up C' r e) C := fun x hx => (fr_up_ne (fun q => hx (by rw [q]; exact hr))).trans (h x hx)
theorem fr_ag.tr {L : List (Nat × Nat)} {C2 C1 C : fr_C} (h2 : fr_ag L C2 C1) (h1 : fr_ag L C1 C) : fr_ag L C2 C := fun x hx => (h2 x hx).trans (h1 x hx)
theorem fr_ag.wider {L L' : List (Nat × Nat)} {C1 C : fr_C} (h : fr_ag L C1 C) (hL : ∀ x ∈ L, x ∈ L') : fr_ag L' C1 C := fun x hx => h x (fun q => hx (hL x q))
theorem fr_ag.at {L : List (Nat × Nat)} {C' C : fr_C} {x : Nat × Nat} {y : Option va_E} (h : fr_ag L C' C) (hx : x ∉ L) (e : C x = y) : C' x = y := (h x hx).trans e
/-! the records of a span, in order -/
/-- how far the one that is put in goes to the left: the last place whose day is not later -/
def psF (dy : Nat → Int32) (x : Nat) (L : Nat → Nat) : Nat → Nat
  | 0 => 0
  | m + 1 => if dy x < dy (L m) then psF dy x L m else m + 1
theorem psF_le (dy : Nat → Int32) (x : Nat) (L : Nat → Nat) (k : Nat) : psF dy x L k ≤ k := by
  induction k with
  | zero => exact Nat.le_refl 0
  | succ m ih =>
    unfold psF
    split
    · omega
    · exact Nat.le_refl _
def insF (dy : Nat → Int32) (x : Nat) (L : Nat → Nat) (k : Nat) : Nat → Nat := fun j => if j < psF dy x L k then L j else if j = psF dy x L k then x else L (j - 1)
def selB (fr to of : Int32) (dy st : Nat → Int32) (r : Nat) : Bool := decide (fr ≤ dy r) && decide (dy r ≤ to) && (decide (of < 0) || decide (st r = of))
def gaF (sel : Nat → Bool) (dy : Nat → Int32) : Nat → (Nat → Nat) × Nat
  | 0 => (fun _ => 0, 0)
  | r + 1 => if sel r = true then (insF dy r (gaF sel dy r).1 (gaF sel dy r).2, (gaF sel dy r).2 + 1) else gaF sel dy r
theorem gaF_le (sel : Nat → Bool) (dy : Nat → Int32) (r : Nat) : (gaF sel dy r).2 ≤ r := by
  induction r with
  | zero => exact Nat.le_refl 0
  | succ r ih =>
    unfold gaF
    split
    · show (gaF sel dy r).2 + 1 ≤ r + 1
      omega
    · omega
theorem insF_lt {dy : Nat → Int32} {x : Nat} {L : Nat → Nat} {k N : Nat} (hx : x < N) (hL : ∀ j, j < k → L j < N) : ∀ j, j < k + 1 → insF dy x L k j < N := by
  intro j hj
  have hp := psF_le dy x L k
  unfold insF
  split
  · exact hL j (by omega)
  · split
    · exact hx
    · exact hL (j - 1) (by omega)
theorem gaF_lt (sel : Nat → Bool) (dy : Nat → Int32) (r : Nat) : ∀ j, j < (gaF sel dy r).2 → (gaF sel dy r).1 j < r := by
  induction r with
  | zero => intro j hj; exact absurd hj (Nat.not_lt_zero j)
  | succ r ih =>
    unfold gaF
    split
    · intro j hj
      exact insF_lt (N := r + 1) (Nat.lt_succ_self r) (fun i hi => Nat.lt_succ_of_lt (ih i hi)) j hj
    · intro j hj
      exact Nat.lt_succ_of_lt (ih j hj)
theorem gaF_any (sel : Nat → Bool) (dy : Nat → Int32) (r : Nat) : 0 < (gaF sel dy r).2 ↔ ∃ i, i < r ∧ sel i = true := by
  induction r with
  | zero => exact ⟨fun h => absurd h (Nat.not_lt_zero 0), fun ⟨i, hi, _⟩ => absurd hi (Nat.not_lt_zero i)⟩
  | succ r ih =>
    unfold gaF
    split
    · rename_i h
      exact ⟨fun _ => ⟨r, Nat.lt_succ_self r, h⟩, fun _ => Nat.succ_pos _⟩
    · rename_i h
      rw [ih]
      constructor
      · rintro ⟨i, hi, hs⟩
        exact ⟨i, Nat.lt_succ_of_lt hi, hs⟩
      · rintro ⟨i, hi, hs⟩
        rcases Nat.lt_or_ge i r with q | q
        · exact ⟨i, q, hs⟩
        · have : i = r := by omega
          subst this
          exact absurd hs h
