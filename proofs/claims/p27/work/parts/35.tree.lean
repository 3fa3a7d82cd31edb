/-! the tree and the LINKS; who WATCHES is told; CHILDREN END -/
section
theorem Tt.inc {α : Type} {k N : Nat} {p q : Option α} {Q : α → Prop} (h : k < N) (f : Tt p Q) (hN : N < 2 ^ 31 := by omega) : Tt (if ¬ (nI k < 0 ∨ N ≤ k) then p else q) Q := by
  rw [if_pos (fun e => e.elim (nI_pos (by omega)) (by omega))]
  exact f
theorem nI_m1 {n : Nat} (h : n < 2 ^ 31) : nI n ≠ -1 := fun e => nI_pos h (by rw [e]; decide)
theorem nI_i {a b : Nat} (h : nI a = nI b) (ha : a < 2 ^ 31 := by omega) (hb : b < 2 ^ 31 := by omega) : a = b := (nI_eq ha hb).mp h
def core (V V' : MT) : Prop := V' 0 0 5 = V 0 0 5 ∧ V' 0 0 12 = V 0 0 12 ∧ V' 0 0 13 = V 0 0 13 ∧ (∀ n, V' 4 0 n = V 4 0 n) ∧ (∀ i, V' 7 i 1 = V 7 i 1) ∧ (∀ i, V' 7 i 3 = V 7 i 3) ∧ (∀ i, V' 7 i 6 = V 7 i 6) ∧ (∀ i, V' 7 i 5 = V 7 i 5) ∧ V' 0 0 8 = V 0 0 8 ∧ (∀ j, V' 1 0 j = V 1 0 j)
theorem core.J {b m b' m' C E S : Nat} {V V' : MT} (h : wJ b m C E S V) (k : core V V') (hC : ∀ i, i < C → jC b' V' i) (hL : jL C S V') (hP : jP C S V') (hN : jN C V') (hM : jM b' m' V') (hF : wdF C V') : wJ b' m' C E S V' := by
  obtain ⟨k1, k2, k3, k4, k5, k6, k7, k8, k9, k10⟩ := k
  obtain ⟨hA, hB, -, -, -, -, -, -⟩ := h
  refine ⟨?_, ?_, hC, hL, hP, hN, hM, hF⟩
  · unfold jA at hA ⊢
    rw [k1, k2, k3, cov_cg (fun i => by rw [k8])]
    exact hA
  · unfold jB at hB ⊢
    simp only [k4, k8]
    exact hB
theorem core.R {C E : Nat} {V V' : MT} (k : core V V') (hn : ∀ p, wNK C V p → wNK C V' p) : wR C E V C E V' := by
  obtain ⟨k1, k2, k3, k4, k5, k6, k7, k8, k9, k10⟩ := k
  exact ⟨Nat.le_refl _, Nat.le_refl _, fun n _ => k4 n, fun i _ => ⟨k5 i, k6 i⟩, fun i _ h2 => ⟨by rw [k8]; exact h2, k7 i⟩, fun p _ _ hk => hn p hk, k9, k10⟩
theorem jL.cg {C S : Nat} {V V' : MT} (h : jL C S V) (e4 : ∀ n, V' 4 0 n = V 4 0 n) (e13 : ∀ i, V' 7 i 13 = V 7 i 13) : jL C S V' := by
  unfold jL at h ⊢
  simp only [e4, e13]
  exact h
theorem jN.cg {C : Nat} {V V' : MT} (h : jN C V) (e2 : ∀ n, V' 2 0 n = V 2 0 n) (e5 : ∀ i, V' 7 i 5 = V 7 i 5) : jN C V' := by
  unfold jN at h ⊢
  simp only [e2, e5]
  exact h
theorem jP.cg {C S : Nat} {V V' : MT} (h : jP C S V) (e4 : ∀ n, V' 4 0 n = V 4 0 n) (e73 : ∀ i, V' 7 i 3 = V 7 i 3) (e74 : ∀ i, V' 7 i 4 = V 7 i 4) (e5 : ∀ i, V' 7 i 5 = V 7 i 5) (e9 : ∀ i j, V' 9 i j = V 9 i j) : jP C S V' := by
  unfold jP jPar at h ⊢
  simp only [e4, e73, e74, e5, e9]
  exact h
/-- the one that the n-th END was of -/
theorem wJ.done {b m C E S i n : Nat} {V : MT} (h : wJ b m C E S V) (hn : n < E) (hi : i < C) (e : V 4 0 n = nI i) : V 7 i 5 = 2 := by
  obtain ⟨i2, q1, q2, q3⟩ := h.2.1.1 n hn
  have hA := h.1.at
  rw [e] at q2
  have := nI_i q2
  subst this
  exact q3
theorem wJ.undone {b m C E S i : Nat} {V : MT} (h : wJ b m C E S V) (hi : i < C) (h2 : V 7 i 5 ≠ 2) (n : Nat) (hn : n < S) : V 4 0 n ≠ nI i := fun e => h2 (h.done (by have := h.1; unfold jA at this; omega) hi e)
theorem core.p4 {V : MT} {i : Nat} {x : Int32} : core V (pt V 7 i 4 x) := ⟨pt_kn (by decide), pt_kn (by decide), pt_kn (by decide), fun _ => pt_kn (by decide), fun _ => pt_ne (by omega), fun _ => pt_ne (by omega), fun _ => pt_ne (by omega), fun _ => pt_ne (by omega), pt_kn (by decide), fun _ => pt_kn (by decide)⟩
theorem core.p9 {V : MT} {i j : Nat} {x : Int32} : core V (pt V 9 i j x) := ⟨pt_kn (by decide), pt_kn (by decide), pt_kn (by decide), fun _ => pt_kn (by decide), fun _ => pt_kn (by decide), fun _ => pt_kn (by decide), fun _ => pt_kn (by decide), fun _ => pt_kn (by decide), pt_kn (by decide), fun _ => pt_kn (by decide)⟩
theorem core.p13 {V : MT} {i : Nat} {x : Int32} : core V (pt V 7 i 13 x) := ⟨pt_kn (by decide), pt_kn (by decide), pt_kn (by decide), fun _ => pt_kn (by decide), fun _ => pt_ne (by omega), fun _ => pt_ne (by omega), fun _ => pt_ne (by omega), fun _ => pt_ne (by omega), pt_kn (by decide), fun _ => pt_kn (by decide)⟩
theorem core.p2 {V : MT} {j : Nat} {x : Int32} : core V (pt V 2 0 j x) := ⟨pt_kn (by decide), pt_kn (by decide), pt_kn (by decide), fun _ => pt_kn (by decide), fun _ => pt_kn (by decide), fun _ => pt_kn (by decide), fun _ => pt_kn (by decide), fun _ => pt_kn (by decide), pt_kn (by decide), fun _ => pt_kn (by decide)⟩
theorem core.trans {V V1 V2 : MT} (h : core V V1) (g : core V1 V2) : core V V2 := by
  obtain ⟨a1, a2, a3, a4, a5, a6, a7, a8, a9, a10⟩ := h
  obtain ⟨b1, b2, b3, b4, b5, b6, b7, b8, b9, b10⟩ := g
  exact ⟨b1.trans a1, b2.trans a2, b3.trans a3, fun n => (b4 n).trans (a4 n), fun n => (b5 n).trans (a5 n), fun n => (b6 n).trans (a6 n), fun n => (b7 n).trans (a7 n), fun n => (b8 n).trans (a8 n), b9.trans a9, fun n => (b10 n).trans (a10 n)⟩
theorem jC.c49 {b : Nat} {V V' : MT} {i : Nat} (h : jC b V i) (e7 : ∀ j, j ≠ 4 → j ≠ 13 → V' 7 i j = V 7 i j) (e10 : V' 10 i 2 = V 10 i 2) (e13 : V' 13 i 2 = V 13 i 2) (e15 : ∀ j, V' 15 i j = V 15 i j) : jC b V' i := by
  unfold jC at h ⊢
  simp only [e7 1 (by decide) (by decide), e7 3 (by decide) (by decide), e7 5 (by decide) (by decide), e7 6 (by decide) (by decide), e7 9 (by decide) (by decide), e7 12 (by decide) (by decide), e10, e13, e15]
  exact h
/-- one that is OVER has no SUPERVISOR any more -/
theorem wJ.par {b m C E S i : Nat} {V : MT} (h : wJ b m C E S V) (hi : i < C) (h2 : V 7 i 5 = 2) : wJ b m C E S (pt V 7 i 4 (-1)) ∧ wR C E V C E (pt V 7 i 4 (-1)) := by
  refine ⟨core.J h core.p4 (fun i2 hi2 => (h.2.2.1 i2 hi2).c49 (fun j _ _ => pt_ne (by omega)) (pt_kn (by decide)) (pt_kn (by decide)) (fun _ => pt_kn (by decide))) (h.2.2.2.1.cg (fun _ => pt_kn (by decide)) (fun _ => pt_ne (by omega))) ⟨fun i2 hi2 e => ?_, fun s hs p hp => ?_⟩ (h.2.2.2.2.2.1.cg (fun _ => pt_kn (by decide)) (fun _ => pt_ne (by omega))) (h.2.2.2.2.2.2.1.cg (pt_kn (by decide)) (pt_kn (by decide)) (pt_kn (by decide))) (h.2.2.2.2.2.2.2.pt (us_7 hi (by decide)) (Or.inl (by decide))), core.p4.R (fun p hk i2 hi2 e => ?_)⟩
  · rw [pt_ne (by omega)] at e
    have e1 : i2 ≠ i := by rintro rfl; exact e h2
    unfold jPar
    rw [pt_in e1]
    rcases h.2.2.2.2.1.1 i2 hi2 e with q | ⟨s, hs, q1, q2, q3, p, hp, q4, q5⟩
    · exact Or.inl q
    · refine Or.inr ⟨s, hs, q1, ?_, fun n hn => ?_, p, hp, ?_, fun q hq z => ?_⟩
      · rw [pt_ne (by omega)]; exact q2
      · rw [pt_kn (by decide)]; exact q3 n hn
      · rw [pt_kn (by decide)]; exact q4
      · rw [pt_kn (by decide)] at z; exact q5 q hq z
  · rw [pt_kn (by decide)]; exact h.2.2.2.2.1.2 s hs p hp
  · rw [pt_ne (by omega)] at e
    rw [pt_in (by rintro rfl; exact e h2)]
    exact hk i2 hi2 e
/-- a PLACE whose one is OVER is left -/
theorem wJ.leave {b m C E S s k e : Nat} {V : MT} (h : wJ b m C E S V) (hs : s < C) (hk : k < 4) (he : e < C) (h2 : V 7 e 5 = 2) (hv : V 9 s k = nI e) : wJ b m C E S (pt V 9 s k (-1)) ∧ wR C E V C E (pt V 9 s k (-1)) := by
  have hA := h.1.at
  refine ⟨core.J h core.p9 (fun i2 hi2 => (h.2.2.1 i2 hi2).c49 (fun j _ _ => pt_kn (by decide)) (pt_kn (by decide)) (pt_kn (by decide)) (fun _ => pt_kn (by decide))) (h.2.2.2.1.cg (fun _ => pt_kn (by decide)) (fun _ => pt_kn (by decide))) ⟨fun i2 hi2 z => ?_, fun s2 hs2 p hp => ?_⟩ (h.2.2.2.2.2.1.cg (fun _ => pt_kn (by decide)) (fun _ => pt_kn (by decide))) (h.2.2.2.2.2.2.1.cg (pt_kn (by decide)) (pt_kn (by decide)) (pt_kn (by decide))) (h.2.2.2.2.2.2.2.pt (us_9 hs hk) (Or.inl (by decide))), core.p9.R (fun p hk i2 hi2 z => ?_)⟩
  · rw [pt_kn (by decide)] at z
    have e1 : i2 ≠ e := by rintro rfl; exact z h2
    unfold jPar
    rw [pt_kn (by decide)]
    rcases h.2.2.2.2.1.1 i2 hi2 z with q | ⟨s2, hs2, q1, q2, q3, p, hp, q4, q5⟩
    · exact Or.inl q
    · refine Or.inr ⟨s2, hs2, q1, ?_, fun n hn => ?_, p, hp, ?_, fun q hq y => ?_⟩
      · rw [pt_kn (by decide)]; exact q2
      · rw [pt_kn (by decide)]; exact q3 n hn
      · rw [pt_app, if_neg]
        · exact q4
        · rintro ⟨-, rfl, rfl⟩
          rw [hv] at q4
          exact e1 (nI_i q4.symm)
      · rw [pt_app] at y
        by_cases c : 9 = 9 ∧ s2 = s ∧ q = k
        · rw [if_pos c] at y; exact absurd y.symm (nI_m1 (by omega))
        · rw [if_neg c] at y; exact q5 q hq y
  · rw [pt_app]
    by_cases c : 9 = 9 ∧ s2 = s ∧ p = k
    · rw [if_pos c]; exact Or.inl rfl
    · rw [if_neg c]; exact h.2.2.2.2.1.2 s2 hs2 p hp
  · rw [pt_kn (by decide)] at z ⊢
    exact hk i2 hi2 z
theorem wJ.name {b m C E S k i : Nat} {V : MT} (h : wJ b m C E S V) (hk : k < 4) (hi : i < C) (h2 : V 7 i 5 ≠ 2) : wJ b m C E S (pt V 2 0 k (nI i)) ∧ wR C E V C E (pt V 2 0 k (nI i)) := by
  refine ⟨core.J h core.p2 (fun i2 hi2 => (h.2.2.1 i2 hi2).cg (fun _ _ _ => pt_kn (by omega))) (h.2.2.2.1.cg (fun _ => pt_kn (by decide)) (fun _ => pt_kn (by decide))) (h.2.2.2.2.1.cg (fun _ => pt_kn (by decide)) (fun _ => pt_kn (by decide)) (fun _ => pt_kn (by decide)) (fun _ => pt_kn (by decide)) (fun _ _ => pt_kn (by decide))) (fun k2 hk2 => ?_) (h.2.2.2.2.2.2.1.cg (pt_kn (by decide)) (pt_kn (by decide)) (pt_kn (by decide))) (h.2.2.2.2.2.2.2.pt (us_2 hk) (Or.inl (by decide))), core.p2.R (fun p hk i2 hi2 z => ?_)⟩
  · by_cases e : k2 = k
    · subst e
      refine Or.inr ⟨i, hi, by rw [pt_at], ?_⟩
      rw [pt_kn (by decide)]; exact h2
    · rw [pt_ne (by omega)]
      rcases h.2.2.2.2.2.1 k2 hk2 with q | ⟨i2, q1, q2, q3⟩
      · exact Or.inl q
      · exact Or.inr ⟨i2, q1, q2, by rw [pt_kn (by decide)]; exact q3⟩
  · rw [pt_kn (by decide)] at z ⊢
    exact hk i2 hi2 z
/-- LINKS are written anew -/
theorem wJ.links {b m C E S i j : Nat} {V : MT} {x y : Int32} (h : wJ b m C E S V) (hi : i < C) (hj : j < C) (hL : jL C S (pt (pt V 7 i 13 x) 7 j 13 y)) : wJ b m C E S (pt (pt V 7 i 13 x) 7 j 13 y) ∧ wR C E V C E (pt (pt V 7 i 13 x) 7 j 13 y) := by
  refine ⟨core.J h (core.p13.trans core.p13) (fun i2 hi2 => (h.2.2.1 i2 hi2).c49 (fun j2 _ h13 => by rw [pt_ne (by omega), pt_ne (by omega)]) (by rw [pt_kn (by decide), pt_kn (by decide)]) (by rw [pt_kn (by decide), pt_kn (by decide)]) (fun _ => by rw [pt_kn (by decide), pt_kn (by decide)])) hL (h.2.2.2.2.1.cg (fun _ => by rw [pt_kn (by decide), pt_kn (by decide)]) (fun _ => by rw [pt_ne (by omega), pt_ne (by omega)]) (fun _ => by rw [pt_ne (by omega), pt_ne (by omega)]) (fun _ => by rw [pt_ne (by omega), pt_ne (by omega)]) (fun _ _ => by rw [pt_kn (by decide), pt_kn (by decide)])) (h.2.2.2.2.2.1.cg (fun _ => by rw [pt_kn (by decide), pt_kn (by decide)]) (fun _ => by rw [pt_ne (by omega), pt_ne (by omega)])) (h.2.2.2.2.2.2.1.cg (by rw [pt_kn (by decide), pt_kn (by decide)]) (by rw [pt_kn (by decide), pt_kn (by decide)]) (by rw [pt_kn (by decide), pt_kn (by decide)])) ((h.2.2.2.2.2.2.2.pt (us_7 hi (by decide)) (Or.inl (by decide))).pt (us_7 hj (by decide)) (Or.inl (by decide))), (core.p13.trans core.p13).R (fun p hk i2 hi2 z => ?_)⟩
  rw [pt_ne (by omega), pt_ne (by omega)] at z ⊢
  exact hk i2 hi2 z
theorem wd_link {b m C E S i j : Nat} {V : MT} (G : MT) (h : wJ b m C E S V) (hi : i < C) (hj : j < C) (i2 : V 7 i 5 ≠ 2) (j2 : V 7 j 5 ≠ 2) : Tt (f_X5_link G V i j) (fun V' => wJ b m C E S V' ∧ wR C E V C E V' ∧ ∀ k q, V' 7 k q = V 7 k q ∨ q = 13) := by
  have hA := h.1.at
  unfold f_X5_link
  refine Tt.ite (fun _ => Tt.ret ⟨h, wR.refl C E V, fun _ _ => Or.inl rfl⟩) (fun hne => ?_)
  rw [pt_in (show j ≠ i from fun e => hne e.symm)]
  have hb : ∀ a c, bt (pt (pt V 7 i 13 (V 7 i 13 ||| 1 <<< (nI j &&& 31))) 7 j 13 (V 7 j 13 ||| 1 <<< (nI i &&& 31)) 7 a 13) c = (bt (V 7 a 13) c || (decide (a = i) && decide (c = j)) || (decide (a = j) && decide (c = i))) := by
    intro a c
    by_cases e1 : a = j
    · subst e1
      rw [pt_at, wd_set (by omega), decide_eq_false (show ¬ a = i from fun e => hne e.symm)]
      simp
    · rw [pt_in e1]
      by_cases e2 : a = i
      · subst e2
        rw [pt_at, wd_set (by omega), decide_eq_false e1]
        simp
      · rw [pt_in e2, decide_eq_false e1, decide_eq_false e2]
        simp
  have hz : ∀ a, V 7 a 5 = 2 → pt (pt V 7 i 13 (V 7 i 13 ||| 1 <<< (nI j &&& 31))) 7 j 13 (V 7 j 13 ||| 1 <<< (nI i &&& 31)) 7 a 13 = V 7 a 13 := fun a ha => by
    rw [pt_in (by rintro rfl; exact j2 ha), pt_in (by rintro rfl; exact i2 ha)]
  have q := h.links hi hj (x := V 7 i 13 ||| 1 <<< (nI j &&& 31)) (y := V 7 j 13 ||| 1 <<< (nI i &&& 31)) ⟨fun a ha c hc => ?_, fun n hn a ha e => ?_⟩
  · refine Tt.ret ⟨q.1, q.2, fun k q => ?_⟩
    by_cases e : q = 13
    · exact Or.inr e
    · left; rw [pt_ne (by omega), pt_ne (by omega)]
  · rw [hb] at hc ⊢
    simp only [Bool.or_eq_true, Bool.and_eq_true, decide_eq_true_eq] at hc ⊢
    rcases hc with (hc | ⟨e1, e2⟩) | ⟨e1, e2⟩
    · obtain ⟨q1, q2, q3⟩ := h.2.2.2.1.1 a ha c hc
      exact ⟨q1, q2, Or.inl (Or.inl q3)⟩
    · subst e1 e2; exact ⟨hj, fun e => hne e.symm, Or.inr ⟨rfl, rfl⟩⟩
    · subst e1 e2; exact ⟨hi, hne, Or.inl (Or.inr ⟨rfl, rfl⟩)⟩
  · rw [pt_kn (by decide), pt_kn (by decide)] at e
    rw [hz a (h.done (by have := h.1; unfold jA at this; omega) ha e)]
    exact h.2.2.2.1.2 n hn a ha e
theorem wd_unlink {b m C E S i j : Nat} {V : MT} (G : MT) (h : wJ b m C E S V) (hi : i < C) (hj : j < C) : Tt (f_X5_unlink G V i j) (fun V' => wJ b m C E S V' ∧ wR C E V C E V' ∧ (∀ k q, V' 7 k q = V 7 k q ∨ q = 13) ∧ (∀ c, bt (V' 7 i 13) c = true → bt (V 7 i 13) c = true ∧ c ≠ j) ∧ (∀ k a c, k ≠ 7 → V' k a c = V k a c)) := by
  have hA := h.1.at
  unfold f_X5_unlink
  have hb : ∀ a c, bt (pt (pt V 7 i 13 (V 7 i 13 &&& (1 <<< (nI j &&& 31) ^^^ -1))) 7 j 13 (pt V 7 i 13 (V 7 i 13 &&& (1 <<< (nI j &&& 31) ^^^ -1)) 7 j 13 &&& (1 <<< (nI i &&& 31) ^^^ -1)) 7 a 13) c = (bt (V 7 a 13) c && !(decide (a = i) && decide (c = j)) && !(decide (a = j) && decide (c = i))) := by
    intro a c
    by_cases e1 : a = j
    · subst e1
      rw [pt_at, wd_clr (by omega)]
      by_cases e2 : a = i
      · subst e2
        rw [pt_at, wd_clr (by omega)]
        simp
      · rw [pt_in e2, decide_eq_false e2]
        simp
    · rw [pt_in e1]
      by_cases e2 : a = i
      · subst e2
        rw [pt_at, wd_clr (by omega), decide_eq_false e1]
        simp
      · rw [pt_in e2, decide_eq_false e1, decide_eq_false e2]
        simp
  have q := h.links hi hj (x := V 7 i 13 &&& (1 <<< (nI j &&& 31) ^^^ -1)) (y := pt V 7 i 13 (V 7 i 13 &&& (1 <<< (nI j &&& 31) ^^^ -1)) 7 j 13 &&& (1 <<< (nI i &&& 31) ^^^ -1)) ⟨fun a ha c hc => ?_, fun n hn a ha e => ?_⟩
  · refine Tt.ret ⟨q.1, q.2, fun k q => ?_, fun c hc => ?_, fun k a c hk => ?_⟩
    · by_cases e : q = 13
      · exact Or.inr e
      · left; rw [pt_ne (by omega), pt_ne (by omega)]
    · rw [hb] at hc
      simp only [Bool.and_eq_true, Bool.not_eq_true', decide_true, Bool.true_and] at hc
      refine ⟨hc.1.1, fun e => ?_⟩
      rw [decide_eq_true e] at hc
      exact absurd hc.1.2 (by decide)
    · rw [pt_kn hk, pt_kn hk]
  · rw [hb] at hc ⊢
    simp only [Bool.and_eq_true, Bool.not_eq_true', Bool.and_eq_false_iff, decide_eq_false_iff_not] at hc ⊢
    obtain ⟨⟨c1, c2⟩, c3⟩ := hc
    obtain ⟨q1, q2, q3⟩ := h.2.2.2.1.1 a ha c c1
    refine ⟨q1, q2, ⟨q3, ?_⟩, ?_⟩
    · rcases c3 with z | z
      · exact Or.inr z
      · exact Or.inl z
    · rcases c2 with z | z
      · exact Or.inr z
      · exact Or.inl z
  · rw [pt_kn (by decide), pt_kn (by decide)] at e
    refine wd_z (fun c _ => ?_)
    rw [hb, h.2.2.2.1.2 n hn a ha e, b_0]
    rfl
end
