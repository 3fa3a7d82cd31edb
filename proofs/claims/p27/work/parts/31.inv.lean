/-! what holds of a world between two acts, and of what is done to it -/
section
/-- the numbers that a den with C PROCESSES may have touched -/
def usd (C k i j : Nat) : Prop := (k = 0 ∧ i = 0 ∧ 5 ≤ j ∧ j ≤ 16) ∨ ((k = 1 ∨ k = 2) ∧ i = 0 ∧ j < 4) ∨ ((k = 4 ∨ k = 5 ∨ k = 6) ∧ i = 0 ∧ j < 24) ∨ (k = 7 ∧ i < C ∧ 1 ≤ j ∧ j ≤ 14) ∨ ((k = 8 ∨ k = 9) ∧ i < C ∧ j < 4) ∨ ((k = 10 ∨ k = 13) ∧ i < C ∧ j = 2) ∨ ((k = 11 ∨ k = 12) ∧ i < C ∧ j < 8) ∨ ((k = 14 ∨ k = 15) ∧ i < C ∧ j < 24)
def wdF (C : Nat) (V : MT) : Prop := (∀ k i j, ¬ usd C k i j → V k i j = V0 k i j) ∧ V 0 0 11 = 0 ∧ V 0 0 14 = 0 ∧ V 0 0 15 = 0
theorem wdF.pt {C k i j : Nat} {V : MT} {x : Int32} (h : wdF C V) (hu : usd C k i j) (hn : k ≠ 0 ∨ (j ≠ 11 ∧ j ≠ 14 ∧ j ≠ 15)) : wdF C (pt V k i j x) := by
  obtain ⟨h0, h1, h2, h3⟩ := h
  refine ⟨fun k' i' j' hn2 => ?_, ?_, ?_, ?_⟩
  · rw [pt_app, if_neg (by rintro ⟨rfl, rfl, rfl⟩; exact hn2 hu)]
    exact h0 _ _ _ hn2
  · rw [pt_app, if_neg (by rintro ⟨rfl, rfl, rfl⟩; omega)]; exact h1
  · rw [pt_app, if_neg (by rintro ⟨rfl, rfl, rfl⟩; omega)]; exact h2
  · rw [pt_app, if_neg (by rintro ⟨rfl, rfl, rfl⟩; omega)]; exact h3
theorem us_0 {C j : Nat} (h : 5 ≤ j ∧ j ≤ 16) : usd C 0 0 j := Or.inl ⟨rfl, rfl, h⟩
theorem us_1 {C j : Nat} (h : j < 4) : usd C 1 0 j := Or.inr (Or.inl ⟨Or.inl rfl, rfl, h⟩)
theorem us_2 {C j : Nat} (h : j < 4) : usd C 2 0 j := Or.inr (Or.inl ⟨Or.inr rfl, rfl, h⟩)
theorem us_4 {C j : Nat} (h : j < 24) : usd C 4 0 j := Or.inr (Or.inr (Or.inl ⟨Or.inl rfl, rfl, h⟩))
theorem us_5 {C j : Nat} (h : j < 24) : usd C 5 0 j := Or.inr (Or.inr (Or.inl ⟨Or.inr (Or.inl rfl), rfl, h⟩))
theorem us_6 {C j : Nat} (h : j < 24) : usd C 6 0 j := Or.inr (Or.inr (Or.inl ⟨Or.inr (Or.inr rfl), rfl, h⟩))
theorem us_7 {C i j : Nat} (hi : i < C) (h : 1 ≤ j ∧ j ≤ 14) : usd C 7 i j := Or.inr (Or.inr (Or.inr (Or.inl ⟨rfl, hi, h⟩)))
theorem us_8 {C i j : Nat} (hi : i < C) (h : j < 4) : usd C 8 i j := Or.inr (Or.inr (Or.inr (Or.inr (Or.inl ⟨Or.inl rfl, hi, h⟩))))
theorem us_9 {C i j : Nat} (hi : i < C) (h : j < 4) : usd C 9 i j := Or.inr (Or.inr (Or.inr (Or.inr (Or.inl ⟨Or.inr rfl, hi, h⟩))))
theorem us_10 {C i : Nat} (hi : i < C) : usd C 10 i 2 := Or.inr (Or.inr (Or.inr (Or.inr (Or.inr (Or.inl ⟨Or.inl rfl, hi, rfl⟩)))))
theorem us_13 {C i : Nat} (hi : i < C) : usd C 13 i 2 := Or.inr (Or.inr (Or.inr (Or.inr (Or.inr (Or.inl ⟨Or.inr rfl, hi, rfl⟩)))))
theorem us_11 {C i j : Nat} (hi : i < C) (h : j < 8) : usd C 11 i j := Or.inr (Or.inr (Or.inr (Or.inr (Or.inr (Or.inr (Or.inl ⟨Or.inl rfl, hi, h⟩))))))
theorem us_12 {C i j : Nat} (hi : i < C) (h : j < 8) : usd C 12 i j := Or.inr (Or.inr (Or.inr (Or.inr (Or.inr (Or.inr (Or.inl ⟨Or.inr rfl, hi, h⟩))))))
theorem us_14 {C i j : Nat} (hi : i < C) (h : j < 24) : usd C 14 i j := Or.inr (Or.inr (Or.inr (Or.inr (Or.inr (Or.inr (Or.inr ⟨Or.inl rfl, hi, h⟩))))))
theorem us_15 {C i j : Nat} (hi : i < C) (h : j < 24) : usd C 15 i j := Or.inr (Or.inr (Or.inr (Or.inr (Or.inr (Or.inr (Or.inr ⟨Or.inr rfl, hi, h⟩))))))
theorem usd.up {C C' k i j : Nat} (hC : C ≤ C') (h : usd C k i j) : usd C' k i j := by
  rcases h with h | h | h | ⟨a, b, c⟩ | ⟨a, b, c⟩ | ⟨a, b, c⟩ | ⟨a, b, c⟩ | ⟨a, b, c⟩
  · exact Or.inl h
  · exact Or.inr (Or.inl h)
  · exact Or.inr (Or.inr (Or.inl h))
  · exact Or.inr (Or.inr (Or.inr (Or.inl ⟨a, Nat.lt_of_lt_of_le b hC, c⟩)))
  · exact Or.inr (Or.inr (Or.inr (Or.inr (Or.inl ⟨a, Nat.lt_of_lt_of_le b hC, c⟩))))
  · exact Or.inr (Or.inr (Or.inr (Or.inr (Or.inr (Or.inl ⟨a, Nat.lt_of_lt_of_le b hC, c⟩)))))
  · exact Or.inr (Or.inr (Or.inr (Or.inr (Or.inr (Or.inr (Or.inl ⟨a, Nat.lt_of_lt_of_le b hC, c⟩))))))
  · exact Or.inr (Or.inr (Or.inr (Or.inr (Or.inr (Or.inr (Or.inr ⟨a, Nat.lt_of_lt_of_le b hC, c⟩))))))
theorem wdF.up {C C' : Nat} {V : MT} (h : wdF C V) (hC : C ≤ C') : wdF C' V := ⟨fun k i j hn => h.1 k i j (fun hu => hn (hu.up hC)), h.2⟩
/-- how many of the first n are OVER -/
def cov (V : MT) : Nat → Nat
  | 0 => 0
  | n + 1 => cov V n + (if V 7 n 5 = 2 then 1 else 0)
theorem cov_cg {V V' : MT} (h : ∀ i, V' 7 i 5 = 2 ↔ V 7 i 5 = 2) (n : Nat) : cov V' n = cov V n := by
  induction n with
  | zero => rfl
  | succ n ih =>
    show cov V' n + _ = cov V n + _
    rw [ih]
    by_cases e : V 7 n 5 = 2
    · rw [if_pos e, if_pos ((h n).mpr e)]
    · rw [if_neg e, if_neg (fun z => e ((h n).mp z))]
theorem cov_lo {V V' : MT} {i : Nat} (h : ∀ j, j ≠ i → V' 7 j 5 = V 7 j 5) (n : Nat) (hn : n ≤ i) : cov V' n = cov V n := by
  induction n with
  | zero => rfl
  | succ n ih =>
    show cov V' n + _ = cov V n + _
    rw [ih (by omega), h n (by omega)]
theorem cov_up {V V' : MT} {i : Nat} (h : ∀ j, j ≠ i → V' 7 j 5 = V 7 j 5) (h1 : ¬ V 7 i 5 = 2) (h2 : V' 7 i 5 = 2) (n : Nat) (hn : i < n) : cov V' n = cov V n + 1 := by
  induction n with
  | zero => omega
  | succ n ih =>
    show cov V' n + _ = cov V n + _ + 1
    by_cases e : i = n
    · subst e
      rw [cov_lo h i (Nat.le_refl _), if_pos h2, if_neg h1]
    · rw [ih (by omega), h n (fun z => e z.symm)]; omega
theorem cov_le (V : MT) (n : Nat) : cov V n ≤ n := by
  induction n with
  | zero => exact Nat.le_refl _
  | succ n ih =>
    show cov V n + _ ≤ n + 1
    split <;> omega
theorem cov_lt {V : MT} {i : Nat} (h : ¬ V 7 i 5 = 2) (n : Nat) (hn : i < n) : cov V n < n := by
  induction n with
  | zero => omega
  | succ n ih =>
    show cov V n + _ < n + 1
    by_cases e : i = n
    · subst e
      rw [if_neg h]
      have := cov_le V i
      omega
    · have := ih (by omega)
      split <;> omega
def jA (C E S : Nat) (V : MT) : Prop := V 0 0 5 = nI C ∧ V 0 0 12 = nI E ∧ V 0 0 13 = nI S ∧ C ≤ 24 ∧ S ≤ E ∧ cov V C = E
def jB (C E : Nat) (V : MT) : Prop := (∀ n, n < E → ∃ i, i < C ∧ V 4 0 n = nI i ∧ V 7 i 5 = 2) ∧ (∀ n m, n < E → m < E → V 4 0 n = V 4 0 m → n = m) ∧ (∀ i, i < C → V 7 i 5 = 2 → ∃ n, n < E ∧ V 4 0 n = nI i)
/-- one PROCESS -/
def jC (b : Nat) (V : MT) (i : Nat) : Prop := (V 7 i 5 = 0 ∨ V 7 i 5 = 1 ∨ V 7 i 5 = 2) ∧ (V 7 i 5 = 2 → 0 ≤ V 7 i 6) ∧ (V 7 i 5 ≠ 2 → V 7 i 6 = -1) ∧ ((V 7 i 3 = -1 ∧ 0 ≤ V 7 i 1) ∨ (V 7 i 3 ≠ -1 ∧ V 7 i 1 = -1 ∧ V 7 i 5 ≠ 0 ∧ V 7 i 9 = -1)) ∧ (V 7 i 12 = 0 ∨ V 7 i 12 = 1) ∧ (∃ n, n ≤ 8 ∧ V 10 i 2 = nI n) ∧ (V 7 i 5 = 2 → V 10 i 2 = 0) ∧ (∃ n, n ≤ 24 ∧ V 13 i 2 = nI n) ∧ (∀ k, k < 24 → ∃ n, n ≤ b ∧ V 15 i k = nI n)
def jL (C S : Nat) (V : MT) : Prop := (∀ i, i < C → ∀ j, bt (V 7 i 13) j = true → j < C ∧ j ≠ i ∧ bt (V 7 j 13) i = true) ∧ (∀ n, n < S → ∀ i, i < C → V 4 0 n = nI i → V 7 i 13 = 0)
def jPar (S : Nat) (V : MT) (i s : Nat) : Prop := V 7 i 4 = nI s ∧ V 7 s 3 ≠ -1 ∧ (∀ n, n < S → V 4 0 n ≠ nI s) ∧ ∃ p, p < 4 ∧ V 9 s p = nI i ∧ ∀ q, q < 4 → V 9 s q = nI i → q = p
def jP (C S : Nat) (V : MT) : Prop := (∀ i, i < C → V 7 i 5 ≠ 2 → V 7 i 4 = -1 ∨ ∃ s, s < C ∧ jPar S V i s) ∧ (∀ s, s < C → ∀ p, p < 4 → V 9 s p = -1 ∨ ∃ i, s < i ∧ i < C ∧ V 9 s p = nI i)
def jN (C : Nat) (V : MT) : Prop := ∀ k, k < 4 → V 2 0 k = -1 ∨ ∃ i, i < C ∧ V 2 0 k = nI i ∧ V 7 i 5 ≠ 2
def jM (b m : Nat) (V : MT) : Prop := (∃ t, t ≤ b ∧ V 0 0 6 = nI t) ∧ (∃ r, r ≤ 24 ∧ V 0 0 16 = nI r) ∧ (∃ l, l ≤ m ∧ V 0 0 7 = nI l)
/-- b: how much went by; m: how much MAIL was lost, at most; C PROCESSES, E of them OVER, S of these done with -/
def wJ (b m C E S : Nat) (V : MT) : Prop := jA C E S V ∧ jB C E V ∧ (∀ i, i < C → jC b V i) ∧ jL C S V ∧ jP C S V ∧ jN C V ∧ jM b m V ∧ wdF C V
/-- nobody that goes on is a CHILD of p -/
def wNK (C : Nat) (V : MT) (p : Nat) : Prop := ∀ i, i < C → V 7 i 5 ≠ 2 → V 7 i 4 ≠ nI p
/-- what is never undone -/
def wR (C E : Nat) (V : MT) (C' E' : Nat) (V' : MT) : Prop := C ≤ C' ∧ E ≤ E' ∧ (∀ n, n < E → V' 4 0 n = V 4 0 n) ∧ (∀ i, i < C → V' 7 i 1 = V 7 i 1 ∧ V' 7 i 3 = V 7 i 3) ∧ (∀ i, i < C → V 7 i 5 = 2 → V' 7 i 5 = 2 ∧ V' 7 i 6 = V 7 i 6) ∧ (∀ p, p < C → V 7 p 5 = 2 → wNK C V p → wNK C' V' p) ∧ V' 0 0 8 = V 0 0 8 ∧ (∀ j, V' 1 0 j = V 1 0 j)
theorem wR.refl (C E : Nat) (V : MT) : wR C E V C E V := ⟨Nat.le_refl _, Nat.le_refl _, fun _ _ => rfl, fun _ _ => ⟨rfl, rfl⟩, fun _ _ h => ⟨h, rfl⟩, fun _ _ _ h => h, rfl, fun _ => rfl⟩
theorem wR.trans {C E C1 E1 C2 E2 : Nat} {V V1 V2 : MT} (h : wR C E V C1 E1 V1) (g : wR C1 E1 V1 C2 E2 V2) : wR C E V C2 E2 V2 := by
  obtain ⟨a1, a2, a3, a4, a5, a6, a7, a8⟩ := h
  obtain ⟨b1, b2, b3, b4, b5, b6, b7, b8⟩ := g
  refine ⟨Nat.le_trans a1 b1, Nat.le_trans a2 b2, fun n hn => ?_, fun i hi => ?_, fun i hi h2 => ?_, fun p hp h2 hk => ?_, ?_, fun j => ?_⟩
  · rw [b3 n (by omega), a3 n hn]
  · rw [(b4 i (by omega)).1, (b4 i (by omega)).2, (a4 i hi).1, (a4 i hi).2]; exact ⟨rfl, rfl⟩
  · have q := a5 i hi h2
    have q2 := b5 i (by omega) q.1
    exact ⟨q2.1, by rw [q2.2, q.2]⟩
  · exact b6 p (by omega) (a5 p hp h2).1 (a6 p hp h2 hk)
  · rw [b7, a7]
  · rw [b8, a8]
/-- nothing of the tree or of the LINKS was touched -/
def wK (V V' : MT) : Prop := (∀ i, V' 7 i 4 = V 7 i 4) ∧ (∀ i, V' 7 i 13 = V 7 i 13) ∧ (∀ i j, V' 9 i j = V 9 i j)
theorem wK.refl (V : MT) : wK V V := ⟨fun _ => rfl, fun _ => rfl, fun _ _ => rfl⟩
theorem wK.trans {V V1 V2 : MT} (h : wK V V1) (g : wK V1 V2) : wK V V2 := ⟨fun i => by rw [g.1, h.1], fun i => by rw [g.2.1, h.2.1], fun i j => by rw [g.2.2, h.2.2]⟩
/-- what the tree, the ENDS and the NAMES rest on, as it was; who is OVER, as it was -/
def kept (V V' : MT) : Prop := V' 0 0 5 = V 0 0 5 ∧ V' 0 0 12 = V 0 0 12 ∧ V' 0 0 13 = V 0 0 13 ∧ (∀ n, V' 4 0 n = V 4 0 n) ∧ (∀ n, V' 2 0 n = V 2 0 n) ∧ (∀ i, V' 7 i 1 = V 7 i 1) ∧ (∀ i, V' 7 i 3 = V 7 i 3) ∧ (∀ i, V' 7 i 4 = V 7 i 4) ∧ (∀ i, V' 7 i 6 = V 7 i 6) ∧ (∀ i, V' 7 i 13 = V 7 i 13) ∧ (∀ i j, V' 9 i j = V 9 i j) ∧ (∀ i, V' 7 i 5 = 2 ↔ V 7 i 5 = 2) ∧ V' 0 0 8 = V 0 0 8 ∧ (∀ j, V' 1 0 j = V 1 0 j)
theorem kept.K {V V' : MT} (h : kept V V') : wK V V' := ⟨h.2.2.2.2.2.2.2.1, h.2.2.2.2.2.2.2.2.2.1, h.2.2.2.2.2.2.2.2.2.2.1⟩
theorem kept.R {V V' : MT} (h : kept V V') (C E : Nat) : wR C E V C E V' := by
  obtain ⟨k1, k2, k3, k4, k5, k6, k7, k8, k9, k10, k11, k12, k13, k14⟩ := h
  refine ⟨Nat.le_refl _, Nat.le_refl _, fun n _ => k4 n, fun i _ => ⟨k6 i, k7 i⟩, fun i _ h2 => ⟨(k12 i).mpr h2, k9 i⟩, fun p _ _ hk i hi h2 => ?_, k13, k14⟩
  rw [k8]
  exact hk i hi (fun e => h2 ((k12 i).mpr e))
theorem kept.J {b m b' m' C E S : Nat} {V V' : MT} (h : wJ b m C E S V) (k : kept V V') (hC : ∀ i, i < C → jC b' V' i) (hM : jM b' m' V') (hF : wdF C V') : wJ b' m' C E S V' := by
  obtain ⟨k1, k2, k3, k4, k5, k6, k7, k8, k9, k10, k11, k12, k13, k14⟩ := k
  obtain ⟨hA, hB, -, hL, hP, hN, -, -⟩ := h
  refine ⟨?_, ?_, hC, ?_, ?_, ?_, hM, hF⟩
  · unfold jA at hA ⊢
    rw [k1, k2, k3, cov_cg k12]
    exact hA
  · unfold jB at hB ⊢
    simp only [k4, k12]
    exact hB
  · unfold jL at hL ⊢
    simp only [k4, k10]
    exact hL
  · unfold jP jPar at hP ⊢
    simp only [ne_eq, k4, k7, k8, k11, k12]
    simp only [ne_eq] at hP
    exact hP
  · unfold jN at hN ⊢
    simp only [ne_eq, k5, k12]
    simp only [ne_eq] at hN
    exact hN
theorem jC.cg {b : Nat} {V V' : MT} {i : Nat} (h : jC b V i) (e : ∀ k j, 7 ≤ k → V' k i j = V k i j) : jC b V' i := by
  unfold jC at h ⊢
  simp only [e 7 _ (by decide), e 10 _ (by decide), e 13 _ (by decide), e 15 _ (by decide)]
  exact h
theorem jC.up {b b' : Nat} {V : MT} {i : Nat} (h : jC b V i) (hb : b ≤ b') : jC b' V i := by
  obtain ⟨h1, h2, h3, h4, h5, h6, h7, h8, h9⟩ := h
  refine ⟨h1, h2, h3, h4, h5, h6, h7, h8, fun k hk => ?_⟩
  obtain ⟨n, hn, e⟩ := h9 k hk
  exact ⟨n, by omega, e⟩
theorem jM.up {b m b' m' : Nat} {V : MT} (h : jM b m V) (hb : b ≤ b') (hm : m ≤ m') : jM b' m' V := by
  obtain ⟨⟨t, h1, e1⟩, h2, ⟨l, h3, e3⟩⟩ := h
  exact ⟨⟨t, by omega, e1⟩, h2, ⟨l, by omega, e3⟩⟩
theorem wJ.up {b m b' m' C E S : Nat} {V : MT} (h : wJ b m C E S V) (hb : b ≤ b') (hm : m ≤ m') : wJ b' m' C E S V := ⟨h.1, h.2.1, fun i hi => (h.2.2.1 i hi).up hb, h.2.2.2.1, h.2.2.2.2.1, h.2.2.2.2.2.1, h.2.2.2.2.2.2.1.up hb hm, h.2.2.2.2.2.2.2⟩
end
