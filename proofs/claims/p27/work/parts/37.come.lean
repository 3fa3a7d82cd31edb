/-! one comes; PLACES are started; what a SUPERVISOR does -/
section
theorem wJ.fresh {b m C E S k i j : Nat} {V : MT} (h : wJ b m C E S V) (h7 : 7 ≤ k) (hi : C ≤ i) : V k i j = V0 k i j := by
  refine h.2.2.2.2.2.2.2.1 k i j (fun hu => ?_)
  rcases hu with ⟨a, _⟩ | ⟨a | a, _⟩ | ⟨a | a | a, _⟩ | ⟨_, a, _⟩ | ⟨_, a, _⟩ | ⟨_, a, _⟩ | ⟨_, a, _⟩ | ⟨_, a, _⟩ <;> omega
theorem wJ.come {b m C E S : Nat} {V V' : MT} (h : wJ b m C E S V) (h24 : C < 24) (e5 : V' 0 0 5 = nI (C + 1)) (e0 : ∀ k i j, k ≠ 9 → ¬ (k = 7 ∧ i = C) → ¬ (k = 0 ∧ (j = 5 ∨ j = 10)) → V' k i j = V k i j) (hs : (V' 7 C 5 = 0 ∧ V' 7 C 3 = -1 ∧ 0 ≤ V' 7 C 1) ∨ (V' 7 C 5 = 1 ∧ V' 7 C 3 ≠ -1 ∧ V' 7 C 1 = -1)) (hr : V' 7 C 6 = -1 ∧ V' 7 C 9 = -1 ∧ V' 7 C 12 = 0 ∧ V' 7 C 13 = 0) (hp : (V' 7 C 4 = -1 ∧ ∀ i j, V' 9 i j = V 9 i j) ∨ (∃ s k, s < C ∧ k < 4 ∧ V' 7 C 4 = nI s ∧ V 7 s 3 ≠ -1 ∧ V 7 s 5 ≠ 2 ∧ V' 9 s k = nI C ∧ (∀ i j, ¬ (i = s ∧ j = k) → V' 9 i j = V 9 i j) ∧ ∀ i, i < C → V 7 i 5 ≠ 2 → V 7 i 4 = nI s → V 9 s k ≠ nI i)) (hF : wdF (C + 1) V') : wJ b m (C + 1) E S V' ∧ wR C E V (C + 1) E V' := by
  have e7 : ∀ i j, i < C → V' 7 i j = V 7 i j := fun i j hi => e0 7 i j (by decide) (by omega) (by omega)
  have e4 : ∀ n, V' 4 0 n = V 4 0 n := fun n => e0 4 0 n (by decide) (by omega) (by omega)
  have n2 : V' 7 C 5 ≠ 2 := by
    rcases hs with ⟨a, _⟩ | ⟨a, _⟩ <;> rw [a] <;> decide
  have hfr : ∀ k j, 7 ≤ k → V k C j = V0 k C j := fun k j h7 => h.fresh h7 (Nat.le_refl _)
  have hlow : ∀ s p, s < C → p < 4 → V 9 s p ≠ nI C := fun s p h1 h2 z => by
    rcases h.2.2.2.2.1.2 s h1 p h2 with y | ⟨i, _, hi, y⟩
    · rw [z] at y; exact nI_m1 (by omega) y
    · rw [z] at y; have := nI_i y; omega
  obtain ⟨hA, hB, hC, hL, hP, hN, hM, -⟩ := h
  obtain ⟨a1, a2, a3, a4, a5, a6⟩ := hA
  have cvl : ∀ n, n ≤ C → cov V' n = cov V n := fun n => by
    induction n with
    | zero => intro _; rfl
    | succ n ih =>
      intro hn
      show cov V' n + _ = cov V n + _
      rw [ih (by omega), e7 n 5 (by omega)]
  refine ⟨⟨⟨e5, ?_, ?_, by omega, a5, ?_⟩, ⟨fun n hn => ?_, fun n m2 hn hm e => ?_, fun i hi e => ?_⟩, fun i hi => ?_, ⟨fun i hi j hj => ?_, fun n hn i hi e => ?_⟩, ⟨fun i hi e => ?_, fun s hs2 p hp2 => ?_⟩, fun k hk => ?_, hM.cg (e0 0 0 6 (by decide) (by omega) (by omega)) (e0 0 0 7 (by decide) (by omega) (by omega)) (e0 0 0 16 (by decide) (by omega) (by omega)), hF⟩, ⟨by omega, Nat.le_refl _, fun n _ => e4 n, fun i hi => ⟨e7 i 1 hi, e7 i 3 hi⟩, fun i hi e => ⟨by rw [e7 i 5 hi]; exact e, e7 i 6 hi⟩, fun p hp2 hp3 hk i hi e => ?_, e0 0 0 8 (by decide) (by omega) (by omega), fun j => e0 1 0 j (by decide) (by omega) (by omega)⟩⟩
  · rw [e0 0 0 12 (by decide) (by omega) (by omega)]; exact a2
  · rw [e0 0 0 13 (by decide) (by omega) (by omega)]; exact a3
  · show cov V' C + _ = E
    rw [cvl C (Nat.le_refl _), a6, if_neg n2]; rfl
  · obtain ⟨i, q1, q2, q3⟩ := hB.1 n hn
    exact ⟨i, by omega, by rw [e4]; exact q2, by rw [e7 i 5 q1]; exact q3⟩
  · rw [e4, e4] at e; exact hB.2.1 n m2 hn hm e
  · by_cases e1 : i = C
    · subst e1; exact absurd e n2
    · rw [e7 i 5 (by omega)] at e
      obtain ⟨n, q1, q2⟩ := hB.2.2 i (by omega) e
      exact ⟨n, q1, by rw [e4]; exact q2⟩
  · by_cases e1 : i = C
    · subst e1
      unfold jC
      rw [hr.1, hr.2.1, hr.2.2.1, e0 10 i 2 (by decide) (by omega) (by omega), e0 13 i 2 (by decide) (by omega) (by omega), hfr 10 2 (by decide), hfr 13 2 (by decide)]
      refine ⟨?_, fun z => absurd z n2, fun _ => rfl, ?_, Or.inl rfl, ⟨0, by omega, rfl⟩, fun _ => rfl, ⟨0, by omega, rfl⟩, fun k hk => ⟨0, by omega, ?_⟩⟩
      · rcases hs with ⟨a, _⟩ | ⟨a, _⟩
        · exact Or.inl a
        · exact Or.inr (Or.inl a)
      · rcases hs with ⟨_, a, c⟩ | ⟨a, c, d⟩
        · exact Or.inl ⟨a, c⟩
        · exact Or.inr ⟨c, d, by rw [a]; decide, rfl⟩
      · rw [e0 15 i k (by decide) (by omega) (by omega), hfr 15 k (by decide)]; rfl
    · have hi2 : i < C := by omega
      have q := hC i hi2
      unfold jC at q ⊢
      simp only [e7 i 1 hi2, e7 i 3 hi2, e7 i 5 hi2, e7 i 6 hi2, e7 i 9 hi2, e7 i 12 hi2, e0 10 i 2 (by decide) (by omega) (by omega), e0 13 i 2 (by decide) (by omega) (by omega)]
      refine ⟨q.1, q.2.1, q.2.2.1, q.2.2.2.1, q.2.2.2.2.1, q.2.2.2.2.2.1, q.2.2.2.2.2.2.1, q.2.2.2.2.2.2.2.1, fun k hk => ?_⟩
      rw [e0 15 i k (by decide) (by omega) (by omega)]
      exact q.2.2.2.2.2.2.2.2 k hk
  · by_cases e1 : i = C
    · subst e1; rw [hr.2.2.2, b_0] at hj; exact absurd hj (by decide)
    · rw [e7 i 13 (by omega)] at hj
      obtain ⟨q1, q2, q3⟩ := hL.1 i (by omega) j hj
      exact ⟨by omega, q2, by rw [e7 j 13 q1]; exact q3⟩
  · by_cases e1 : i = C
    · subst e1; exact hr.2.2.2
    · rw [e4] at e
      rw [e7 i 13 (by omega)]
      exact hL.2 n hn i (by omega) e
  · by_cases e1 : i = C
    · subst e1
      rcases hp with ⟨z, _⟩ | ⟨s, k, h1, h2, h3, h4, h5, h6, h7, h8⟩
      · exact Or.inl z
      · refine Or.inr ⟨s, by omega, h3, ?_, fun n hn => ?_, k, h2, h6, fun q hq z => ?_⟩
        · rw [e7 s 3 h1]; exact h4
        · rw [e4]
          intro z
          obtain ⟨i2, q1, q2, q3⟩ := hB.1 n (by omega)
          rw [z] at q2
          have := nI_i q2
          subst this
          exact h5 q3
        · by_cases c : q = k
          · exact c
          · rw [h7 s q (by omega)] at z
            exact absurd z (hlow s q h1 hq)
    · have hi2 : i < C := by omega
      rw [e7 i 5 hi2] at e
      unfold jPar
      rw [e7 i 4 hi2]
      rcases hP.1 i hi2 e with z | ⟨s, hs2, q1, q2, q3, p, hp2, q4, q5⟩
      · exact Or.inl z
      · refine Or.inr ⟨s, by omega, q1, ?_, fun n hn => ?_, ?_⟩
        · rw [e7 s 3 hs2]; exact q2
        · rw [e4]; exact q3 n hn
        · rcases hp with ⟨_, z⟩ | ⟨s', k, h1, h2, h3, h4, h5, h6, h7, h8⟩
          · exact ⟨p, hp2, by rw [z]; exact q4, fun q hq y => by rw [z] at y; exact q5 q hq y⟩
          · refine ⟨p, hp2, ?_, fun q hq y => ?_⟩
            · by_cases c : s = s' ∧ p = k
              · obtain ⟨rfl, rfl⟩ := c
                exact absurd q4 (h8 i hi2 e q1)
              · rw [h7 s p c]; exact q4
            · by_cases c : s = s' ∧ q = k
              · obtain ⟨rfl, rfl⟩ := c
                rw [h6] at y
                have := nI_i y
                omega
              · rw [h7 s q c] at y; exact q5 q hq y
  · by_cases e1 : s = C
    · subst e1
      left
      have z : V' 9 s p = V 9 s p := by
        rcases hp with ⟨_, z⟩ | ⟨s', k, h1, h2, h3, h4, h5, h6, h7, h8⟩
        · exact z s p
        · exact h7 s p (by omega)
      rw [z, hfr 9 p (by decide)]; rfl
    · rcases hp with ⟨_, z⟩ | ⟨s', k, h1, h2, h3, h4, h5, h6, h7, h8⟩
      · rw [z]
        rcases hP.2 s (by omega) p hp2 with y | ⟨i, y0, y1, y2⟩
        · exact Or.inl y
        · exact Or.inr ⟨i, y0, by omega, y2⟩
      · by_cases c : s = s' ∧ p = k
        · obtain ⟨rfl, rfl⟩ := c
          exact Or.inr ⟨C, h1, by omega, h6⟩
        · rw [h7 s p c]
          rcases hP.2 s (by omega) p hp2 with y | ⟨i, y0, y1, y2⟩
          · exact Or.inl y
          · exact Or.inr ⟨i, y0, by omega, y2⟩
  · rw [e0 2 0 k (by decide) (by omega) (by omega)]
    rcases hN k hk with z | ⟨i, q1, q2, q3⟩
    · exact Or.inl z
    · exact Or.inr ⟨i, by omega, q2, by rw [e7 i 5 q1]; exact q3⟩
  · by_cases e1 : i = C
    · subst e1
      rcases hp with ⟨z, _⟩ | ⟨s, k, h1, h2, h3, h4, h5, h6, h7, h8⟩
      · rw [z]; exact fun y => nI_m1 (by omega) y.symm
      · rw [h3]
        intro y
        have := nI_i y
        subst this
        exact h5 hp3
    · rw [e7 i 5 (by omega)] at e
      rw [e7 i 4 (by omega)]
      exact hk i (by omega) e
/-- the new one is C -/
def newP (C : Nat) (V V' : MT) : Prop := V' 0 0 5 = nI (C + 1) ∧ (∀ k i j, ¬ (k = 7 ∧ i = C) → ¬ (k = 0 ∧ (j = 5 ∨ j = 10)) → V' k i j = V k i j) ∧ (∀ j, j = 6 ∨ j = 9 ∨ j = 12 ∨ j = 13 → V' 7 C j = V 7 C j) ∧ (wdF C V → wdF (C + 1) V')
theorem wd_cM {b m C E S : Nat} {V : MT} (G : MT) (h : wJ b m C E S V) (x p : Int32) : f_X5_comesOfModule G V x p = some (none, V) ∨ (C < 24 ∧ ∃ V', f_X5_comesOfModule G V x p = some (some C, V') ∧ newP C V V' ∧ V' 7 C 5 = 0 ∧ V' 7 C 3 = V 7 C 3 ∧ V' 7 C 1 = x ∧ 0 ≤ x ∧ V' 7 C 4 = p) := by
  have hA := h.1.at
  unfold f_X5_comesOfModule
  by_cases h1 : x < 0
  · rw [if_pos h1]; exact Or.inl rfl
  rw [if_neg h1]
  by_cases h2 : G 17 0 0 ≤ x
  · rw [if_pos h2]; exact Or.inl rfl
  rw [if_neg h2]
  by_cases h3 : 4 ≤ x
  · rw [if_pos h3]; exact Or.inl rfl
  rw [if_neg h3, hA.1]
  obtain ⟨mm, hm, rfl⟩ := nI_of h1
  have hm4 : mm < 4 := by
    by_cases z : mm < 4
    · exact z
    · exact absurd (nI_le (a := 4) (b := mm) (by omega) hm) h3
  by_cases h4 : C < 24
  · rw [if_pos (show nI C < (24 : Int32) from nI_lt (a := C) (b := 24) h4 (by omega)), if_pos (nI_in h4 (by decide)), if_pos (nI_in hm4 (by decide)), wd_cl (by omega), wd_cl (by omega), nI_1]
    refine Or.inr ⟨h4, _, rfl, ⟨?_, fun k i j n1 n2 => ?_, fun j hj => ?_, fun hF => ?_⟩, ?_, ?_, ?_, nI_pos' (by omega), ?_⟩
    · rw [pt_ne (by decide), pt_kn (by decide), pt_kn (by decide), pt_kn (by decide), pt_kn (by decide), pt_kn (by decide), pt_at]
    · rw [pt_app, if_neg (by omega), pt_app, if_neg (by omega), pt_app, if_neg (by omega), pt_app, if_neg (by omega), pt_app, if_neg (by omega), pt_app, if_neg (by omega), pt_app, if_neg (by omega)]
    · rw [pt_kn (by decide), pt_ne (by omega), pt_ne (by omega), pt_ne (by omega), pt_ne (by omega), pt_ne (by omega), pt_kn (by decide)]
    · have hC : C < C + 1 := Nat.lt_succ_self C
      exact ((((((((hF.up (Nat.le_succ C)).pt (us_0 (by decide)) (Or.inr (by decide))).pt (us_7 hC (by decide)) (Or.inl (by decide))).pt (us_7 hC (by decide)) (Or.inl (by decide))).pt (us_7 hC (by decide)) (Or.inl (by decide))).pt (us_7 hC (by decide)) (Or.inl (by decide))).pt (us_7 hC (by decide)) (Or.inl (by decide))).pt (us_0 (by decide)) (Or.inr (by decide)))
    · rw [pt_kn (by decide), pt_ne (by decide), pt_at]
    · rw [pt_kn (by decide), pt_ne (by decide), pt_ne (by decide), pt_ne (by decide), pt_ne (by decide), pt_ne (by decide), pt_kn (by decide)]
    · rw [pt_kn (by decide), pt_ne (by decide), pt_ne (by decide), pt_ne (by decide), pt_ne (by decide), pt_at]
    · rw [pt_kn (by decide), pt_ne (by decide), pt_ne (by decide), pt_at]
  · rw [if_neg (show ¬ nI C < (24 : Int32) from nI_nlt (a := C) (b := 24) (by omega) (by omega))]
    exact Or.inl rfl
theorem wd_cS {b m C E S : Nat} {V : MT} (G : MT) (h : wJ b m C E S V) (x p : Int32) : f_X5_comesOfSpec G V x p = some (none, V) ∨ (C < 24 ∧ ∃ V', f_X5_comesOfSpec G V x p = some (some C, V') ∧ newP C V V' ∧ V' 7 C 5 = V 7 C 5 ∧ V' 7 C 3 = x ∧ V' 7 C 1 = V 7 C 1 ∧ V' 7 C 4 = p) := by
  have hA := h.1.at
  unfold f_X5_comesOfSpec
  rw [hA.1]
  by_cases h4 : C < 24
  · rw [if_pos (show nI C < (24 : Int32) from nI_lt (a := C) (b := 24) h4 (by omega)), if_pos (nI_in h4 (by decide)), wd_cl (by omega), nI_1]
    refine Or.inr ⟨h4, _, rfl, ⟨?_, fun k i j n1 n2 => ?_, fun j hj => ?_, fun hF => ?_⟩, ?_, ?_, ?_, ?_⟩
    · rw [pt_kn (by decide), pt_kn (by decide), pt_kn (by decide), pt_at]
    · rw [pt_app, if_neg (by omega), pt_app, if_neg (by omega), pt_app, if_neg (by omega), pt_app, if_neg (by omega)]
    · rw [pt_ne (by omega), pt_ne (by omega), pt_ne (by omega), pt_kn (by decide)]
    · have hC : C < C + 1 := Nat.lt_succ_self C
      exact ((((hF.up (Nat.le_succ C)).pt (us_0 (by decide)) (Or.inr (by decide))).pt (us_7 hC (by decide)) (Or.inl (by decide))).pt (us_7 hC (by decide)) (Or.inl (by decide))).pt (us_7 hC (by decide)) (Or.inl (by decide))
    · rw [pt_ne (by decide), pt_ne (by decide), pt_ne (by decide), pt_kn (by decide)]
    · rw [pt_ne (by decide), pt_ne (by decide), pt_at]
    · rw [pt_ne (by decide), pt_ne (by decide), pt_ne (by decide), pt_kn (by decide)]
    · rw [pt_ne (by decide), pt_at]
  · rw [if_neg (show ¬ nI C < (24 : Int32) from nI_nlt (a := C) (b := 24) (by omega) (by omega))]
    exact Or.inl rfl
/-- the PLACES of s from k on hold none of its CHILDREN that go on -/
def wFree (C s k t : Nat) (V : MT) : Prop := ∀ q, k ≤ q → q < t → ∀ i, i < C → V 7 i 5 ≠ 2 → V 7 i 4 = nI s → V 9 s q ≠ nI i
/-- a new one comes to the PLACE k of s -/
theorem wJ.comeAt {b m C E S s k t : Nat} {V V' : MT} (h : wJ b m C E S V) (h24 : C < 24) (hn : newP C V V') (hs : (V' 7 C 5 = 0 ∧ V' 7 C 3 = -1 ∧ 0 ≤ V' 7 C 1) ∨ (V' 7 C 5 = 1 ∧ V' 7 C 3 ≠ -1 ∧ V' 7 C 1 = -1)) (h1 : s < C) (h2 : k < 4) (h3 : V' 7 C 4 = nI s) (h4 : V 7 s 3 ≠ -1) (h5 : V 7 s 5 ≠ 2) (hf : wFree C s k t V) (hkt : k < t) : wJ b m (C + 1) E S (pt V' 9 s k (nI C)) ∧ wR C E V (C + 1) E (pt V' 9 s k (nI C)) := by
  obtain ⟨n1, n2, n3, n4⟩ := hn
  have hfr : ∀ j, V 7 C j = V0 7 C j := fun j => h.fresh (by decide) (Nat.le_refl _)
  refine h.come h24 ?_ (fun k2 i j q1 q2 q3 => ?_) ?_ ?_ (Or.inr ⟨s, k, h1, h2, ?_, h4, h5, pt_at .., fun i j q => ?_, fun i hi q1 q2 => hf k (Nat.le_refl _) hkt i hi q1 q2⟩) ((n4 h.2.2.2.2.2.2.2).pt (us_9 (by omega) h2) (Or.inl (by decide)))
  · rw [pt_kn (by decide)]; exact n1
  · rw [pt_kn q1]; exact n2 k2 i j q2 q3
  · rw [pt_kn (by decide), pt_kn (by decide), pt_kn (by decide)]; exact hs
  · rw [pt_kn (by decide), pt_kn (by decide), pt_kn (by decide), pt_kn (by decide), n3 6 (by omega), n3 9 (by omega), n3 12 (by omega), n3 13 (by omega), hfr, hfr, hfr, hfr]
    exact ⟨rfl, rfl, rfl, rfl⟩
  · rw [pt_kn (by decide)]; exact h3
  · rw [pt_app, if_neg (by omega)]; exact n2 9 i j (by omega) (by omega)
/-- a new one comes from outside -/
theorem wJ.comeOut {b m C E S : Nat} {V V' : MT} (h : wJ b m C E S V) (h24 : C < 24) (hn : newP C V V') (hs : (V' 7 C 5 = 0 ∧ V' 7 C 3 = -1 ∧ 0 ≤ V' 7 C 1) ∨ (V' 7 C 5 = 1 ∧ V' 7 C 3 ≠ -1 ∧ V' 7 C 1 = -1)) (h3 : V' 7 C 4 = -1) : wJ b m (C + 1) E S V' ∧ wR C E V (C + 1) E V' := by
  obtain ⟨n1, n2, n3, n4⟩ := hn
  have hfr : ∀ j, V 7 C j = V0 7 C j := fun j => h.fresh (by decide) (Nat.le_refl _)
  refine h.come h24 n1 (fun k2 i j q1 q2 q3 => n2 k2 i j q2 q3) hs ?_ (Or.inl ⟨h3, fun i j => n2 9 i j (by omega) (by omega)⟩) (n4 h.2.2.2.2.2.2.2)
  rw [n3 6 (by omega), n3 9 (by omega), n3 12 (by omega), n3 13 (by omega), hfr, hfr, hfr, hfr]
  exact ⟨rfl, rfl, rfl, rfl⟩
end
