/-! single writes of a world: what holds goes on to hold -/
section
theorem pt_ne {V : MT} {k i j : Nat} {x : Int32} {k' i' j' : Nat} (h : ¬ (k' = k ∧ j' = j)) : pt V k i j x k' i' j' = V k' i' j' := by rw [pt_app, if_neg (fun e => h ⟨e.1, e.2.2⟩)]
theorem pt_kn {V : MT} {k i j : Nat} {x : Int32} {k' i' j' : Nat} (h : k' ≠ k) : pt V k i j x k' i' j' = V k' i' j' := by rw [pt_app, if_neg (fun e => h e.1)]
theorem pt_in {V : MT} {k i j : Nat} {x : Int32} {k' i' j' : Nat} (h : i' ≠ i) : pt V k i j x k' i' j' = V k' i' j' := by rw [pt_app, if_neg (fun e => h e.2.1)]
abbrev soft (k j : Nat) : Prop := (k = 0 ∧ (j = 9 ∨ j = 10)) ∨ k = 5 ∨ k = 6 ∨ (k = 7 ∧ (j = 2 ∨ j = 7 ∨ j = 8 ∨ j = 10 ∨ j = 11 ∨ j = 14)) ∨ k = 8 ∨ k = 11 ∨ k = 12 ∨ k = 14
theorem sf_5 {j : Nat} : soft 5 j := by omega
theorem sf_6 {j : Nat} : soft 6 j := by omega
theorem sf_8 {j : Nat} : soft 8 j := by omega
theorem sf_11 {j : Nat} : soft 11 j := by omega
theorem sf_12 {j : Nat} : soft 12 j := by omega
theorem sf_14 {j : Nat} : soft 14 j := by omega
theorem pt_sf {V : MT} {k i j : Nat} {x : Int32} {k' i' j' : Nat} (hs : soft k j) (h : ¬ soft k' j') : pt V k i j x k' i' j' = V k' i' j' := by
  rw [pt_app, if_neg]
  rintro ⟨rfl, -, rfl⟩
  exact h hs
theorem kept.refl (V : MT) : kept V V := ⟨rfl, rfl, rfl, fun _ => rfl, fun _ => rfl, fun _ => rfl, fun _ => rfl, fun _ => rfl, fun _ => rfl, fun _ => rfl, fun _ _ => rfl, fun _ => Iff.rfl, rfl, fun _ => rfl⟩
theorem kept.trans {V V1 V2 : MT} (h : kept V V1) (g : kept V1 V2) : kept V V2 := by
  obtain ⟨a1, a2, a3, a4, a5, a6, a7, a8, a9, a10, a11, a12, a13, a14⟩ := h
  obtain ⟨b1, b2, b3, b4, b5, b6, b7, b8, b9, b10, b11, b12, b13, b14⟩ := g
  exact ⟨b1.trans a1, b2.trans a2, b3.trans a3, fun n => (b4 n).trans (a4 n), fun n => (b5 n).trans (a5 n), fun n => (b6 n).trans (a6 n), fun n => (b7 n).trans (a7 n), fun n => (b8 n).trans (a8 n), fun n => (b9 n).trans (a9 n), fun n => (b10 n).trans (a10 n), fun n j => (b11 n j).trans (a11 n j), fun n => (b12 n).trans (a12 n), b13.trans a13, fun n => (b14 n).trans (a14 n)⟩
theorem kept.sf {V : MT} {k i j : Nat} {x : Int32} (hs : soft k j) : kept V (pt V k i j x) := ⟨pt_sf hs (by decide), pt_sf hs (by decide), pt_sf hs (by decide), fun _ => pt_sf hs (by omega), fun _ => pt_sf hs (by omega), fun _ => pt_sf hs (by decide), fun _ => pt_sf hs (by decide), fun _ => pt_sf hs (by decide), fun _ => pt_sf hs (by decide), fun _ => pt_sf hs (by decide), fun _ _ => pt_sf hs (by omega), fun _ => by rw [pt_sf hs (by decide)], pt_sf hs (by decide), fun _ => pt_sf hs (by omega)⟩

theorem kept.until {V : MT} {i : Nat} {x : Int32} : kept V (pt V 7 i 9 x) := ⟨pt_kn (by decide), pt_kn (by decide), pt_kn (by decide), fun _ => pt_kn (by decide), fun _ => pt_kn (by decide), fun _ => pt_ne (by omega), fun _ => pt_ne (by omega), fun _ => pt_ne (by omega), fun _ => pt_ne (by omega), fun _ => pt_ne (by omega), fun _ _ => pt_kn (by decide), fun _ => by rw [pt_ne (by omega)], pt_kn (by decide), fun _ => pt_kn (by decide)⟩
theorem kept.traps {V : MT} {i : Nat} {x : Int32} : kept V (pt V 7 i 12 x) := ⟨pt_kn (by decide), pt_kn (by decide), pt_kn (by decide), fun _ => pt_kn (by decide), fun _ => pt_kn (by decide), fun _ => pt_ne (by omega), fun _ => pt_ne (by omega), fun _ => pt_ne (by omega), fun _ => pt_ne (by omega), fun _ => pt_ne (by omega), fun _ _ => pt_kn (by decide), fun _ => by rw [pt_ne (by omega)], pt_kn (by decide), fun _ => pt_kn (by decide)⟩
theorem kept.box {V : MT} {i : Nat} {x : Int32} : kept V (pt V 10 i 2 x) := ⟨pt_kn (by decide), pt_kn (by decide), pt_kn (by decide), fun _ => pt_kn (by decide), fun _ => pt_kn (by decide), fun _ => pt_kn (by decide), fun _ => pt_kn (by decide), fun _ => pt_kn (by decide), fun _ => pt_kn (by decide), fun _ => pt_kn (by decide), fun _ _ => pt_kn (by decide), fun _ => by rw [pt_kn (by decide)], pt_kn (by decide), fun _ => pt_kn (by decide)⟩
theorem kept.wat {V : MT} {i : Nat} {x : Int32} : kept V (pt V 13 i 2 x) := ⟨pt_kn (by decide), pt_kn (by decide), pt_kn (by decide), fun _ => pt_kn (by decide), fun _ => pt_kn (by decide), fun _ => pt_kn (by decide), fun _ => pt_kn (by decide), fun _ => pt_kn (by decide), fun _ => pt_kn (by decide), fun _ => pt_kn (by decide), fun _ _ => pt_kn (by decide), fun _ => by rw [pt_kn (by decide)], pt_kn (by decide), fun _ => pt_kn (by decide)⟩
theorem kept.tim {V : MT} {i : Nat} {j : Nat} {x : Int32} : kept V (pt V 15 i j x) := ⟨pt_kn (by decide), pt_kn (by decide), pt_kn (by decide), fun _ => pt_kn (by decide), fun _ => pt_kn (by decide), fun _ => pt_kn (by decide), fun _ => pt_kn (by decide), fun _ => pt_kn (by decide), fun _ => pt_kn (by decide), fun _ => pt_kn (by decide), fun _ _ => pt_kn (by decide), fun _ => by rw [pt_kn (by decide)], pt_kn (by decide), fun _ => pt_kn (by decide)⟩
theorem kept.now {V : MT} {i : Nat} {x : Int32} : kept V (pt V 0 i 6 x) := ⟨pt_ne (by omega), pt_ne (by omega), pt_ne (by omega), fun _ => pt_kn (by decide), fun _ => pt_kn (by decide), fun _ => pt_kn (by decide), fun _ => pt_kn (by decide), fun _ => pt_kn (by decide), fun _ => pt_kn (by decide), fun _ => pt_kn (by decide), fun _ _ => pt_kn (by decide), fun _ => by rw [pt_kn (by decide)], pt_ne (by omega), fun _ => pt_kn (by decide)⟩
theorem kept.lost {V : MT} {i : Nat} {x : Int32} : kept V (pt V 0 i 7 x) := ⟨pt_ne (by omega), pt_ne (by omega), pt_ne (by omega), fun _ => pt_kn (by decide), fun _ => pt_kn (by decide), fun _ => pt_kn (by decide), fun _ => pt_kn (by decide), fun _ => pt_kn (by decide), fun _ => pt_kn (by decide), fun _ => pt_kn (by decide), fun _ _ => pt_kn (by decide), fun _ => by rw [pt_kn (by decide)], pt_ne (by omega), fun _ => pt_kn (by decide)⟩
theorem kept.rc {V : MT} {i : Nat} {x : Int32} : kept V (pt V 0 i 16 x) := ⟨pt_ne (by omega), pt_ne (by omega), pt_ne (by omega), fun _ => pt_kn (by decide), fun _ => pt_kn (by decide), fun _ => pt_kn (by decide), fun _ => pt_kn (by decide), fun _ => pt_kn (by decide), fun _ => pt_kn (by decide), fun _ => pt_kn (by decide), fun _ _ => pt_kn (by decide), fun _ => by rw [pt_kn (by decide)], pt_ne (by omega), fun _ => pt_kn (by decide)⟩
theorem kept.st {V : MT} {i : Nat} {x : Int32} (h2 : V 7 i 5 ≠ 2) (hx : x ≠ 2) : kept V (pt V 7 i 5 x) := by
  refine ⟨pt_kn (by decide), pt_kn (by decide), pt_kn (by decide), fun _ => pt_kn (by decide), fun _ => pt_kn (by decide), fun _ => pt_ne (by omega), fun _ => pt_ne (by omega), fun _ => pt_ne (by omega), fun _ => pt_ne (by omega), fun _ => pt_ne (by omega), fun _ _ => pt_kn (by decide), fun i2 => ?_, pt_kn (by decide), fun _ => pt_kn (by decide)⟩
  by_cases e : i2 = i
  · subst e; rw [pt_at]; exact ⟨fun z => absurd z hx, fun z => absurd z h2⟩
  · rw [pt_in e]
theorem jM.cg {b m : Nat} {V V' : MT} (h : jM b m V) (e6 : V' 0 0 6 = V 0 0 6) (e7 : V' 0 0 7 = V 0 0 7) (e16 : V' 0 0 16 = V 0 0 16) : jM b m V' := by
  unfold jM at h ⊢
  rw [e6, e7, e16]
  exact h
theorem wJ.sf {b m C E S k i j : Nat} {V : MT} {x : Int32} (h : wJ b m C E S V) (hs : soft k j) (hu : usd C k i j) : wJ b m C E S (pt V k i j x) := by
  refine kept.J h (kept.sf hs) (fun i2 hi2 => ?_) (h.2.2.2.2.2.2.1.cg (pt_sf hs (by decide)) (pt_sf hs (by decide)) (pt_sf hs (by decide))) (h.2.2.2.2.2.2.2.pt hu ?_)
  · have q := h.2.2.1 i2 hi2
    unfold jC at q ⊢
    have e15 : ∀ k2, pt V k i j x 15 i2 k2 = V 15 i2 k2 := fun _ => pt_sf hs (by omega)
    simp only [pt_sf hs (show ¬ soft 7 1 by decide), pt_sf hs (show ¬ soft 7 3 by decide), pt_sf hs (show ¬ soft 7 5 by decide), pt_sf hs (show ¬ soft 7 6 by decide), pt_sf hs (show ¬ soft 7 9 by decide), pt_sf hs (show ¬ soft 7 12 by decide), pt_sf hs (show ¬ soft 10 2 by decide), pt_sf hs (show ¬ soft 13 2 by decide), e15]
    exact q
  · have hs2 : soft k j := hs
    omega
theorem wJ.pf {b m C E S k i j : Nat} {V : MT} {x : Int32} (h : wJ b m C E S V) (h7 : 7 ≤ k) (hk : kept V (pt V k i j x)) (hu : usd C k i j) (hj : jC b (pt V k i j x) i) : wJ b m C E S (pt V k i j x) := by
  refine kept.J h hk (fun i2 hi2 => ?_) (h.2.2.2.2.2.2.1.cg (pt_kn (by omega)) (pt_kn (by omega)) (pt_kn (by omega))) (h.2.2.2.2.2.2.2.pt hu (Or.inl (by omega)))
  by_cases e : i2 = i
  · subst e; exact hj
  · exact (h.2.2.1 i2 hi2).cg (fun k2 j2 _ => pt_in e)
theorem wJ.wf {b m b' m' C E S j : Nat} {V : MT} {x : Int32} (h : wJ b m C E S V) (hb : b ≤ b') (hk : kept V (pt V 0 0 j x)) (hu : usd C 0 0 j) (hn : j ≠ 11 ∧ j ≠ 14 ∧ j ≠ 15) (hM : jM b' m' (pt V 0 0 j x)) : wJ b' m' C E S (pt V 0 0 j x) := kept.J h hk (fun i2 hi2 => ((h.2.2.1 i2 hi2).up hb).cg (fun k2 j2 h7 => pt_kn (by omega))) hM (h.2.2.2.2.2.2.2.pt hu (Or.inr hn))

theorem wJ.st {b m C E S i : Nat} {V : MT} {x : Int32} (h : wJ b m C E S V) (hi : i < C) (h2 : V 7 i 5 ≠ 2) (hx : x = 0 ∧ V 7 i 3 = -1 ∨ x = 1) : wJ b m C E S (pt V 7 i 5 x) := by
  have q := h.2.2.1 i hi
  have hx2 : x ≠ 2 := by rcases hx with ⟨rfl, _⟩ | rfl <;> decide
  refine h.pf (by decide) (kept.st h2 hx2) (us_7 hi (by decide)) ?_
  obtain ⟨c1, c2, c3, c4, c5, c6, c7, c8, c9⟩ := q
  unfold jC
  simp only [pt_at, pt_ne (show ¬ (7 = 7 ∧ 1 = 5) by decide), pt_ne (show ¬ (7 = 7 ∧ 3 = 5) by decide), pt_ne (show ¬ (7 = 7 ∧ 6 = 5) by decide), pt_ne (show ¬ (7 = 7 ∧ 9 = 5) by decide), pt_ne (show ¬ (7 = 7 ∧ 12 = 5) by decide), pt_ne (show ¬ (10 = 7 ∧ 2 = 5) by decide), pt_ne (show ¬ (13 = 7 ∧ 2 = 5) by decide), pt_kn (show 15 ≠ 7 by decide)]
  refine ⟨?_, fun e => absurd e hx2, fun _ => c3 h2, ?_, c5, c6, fun e => absurd e hx2, c8, c9⟩
  · rcases hx with ⟨rfl, _⟩ | rfl
    · exact Or.inl rfl
    · exact Or.inr (Or.inl rfl)
  · rcases c4 with ⟨a, a2⟩ | ⟨a, a2, a3, a4⟩
    · exact Or.inl ⟨a, a2⟩
    · refine Or.inr ⟨a, a2, ?_, a4⟩
      rcases hx with ⟨_, z⟩ | rfl
      · exact absurd z a
      · decide
theorem wJ.until {b m C E S i : Nat} {V : MT} {x : Int32} (h : wJ b m C E S V) (hi : i < C) (hx : V 7 i 3 = -1 ∨ x = -1) : wJ b m C E S (pt V 7 i 9 x) := by
  have q := h.2.2.1 i hi
  refine h.pf (by decide) kept.until (us_7 hi (by decide)) ?_
  obtain ⟨c1, c2, c3, c4, c5, c6, c7, c8, c9⟩ := q
  unfold jC
  simp only [pt_at, pt_ne (show ¬ (7 = 7 ∧ 1 = 9) by decide), pt_ne (show ¬ (7 = 7 ∧ 3 = 9) by decide), pt_ne (show ¬ (7 = 7 ∧ 5 = 9) by decide), pt_ne (show ¬ (7 = 7 ∧ 6 = 9) by decide), pt_ne (show ¬ (7 = 7 ∧ 12 = 9) by decide), pt_ne (show ¬ (10 = 7 ∧ 2 = 9) by decide), pt_ne (show ¬ (13 = 7 ∧ 2 = 9) by decide), pt_kn (show 15 ≠ 7 by decide)]
  refine ⟨c1, c2, c3, ?_, c5, c6, c7, c8, c9⟩
  rcases c4 with ⟨a, a2⟩ | ⟨a, a2, a3, a4⟩
  · exact Or.inl ⟨a, a2⟩
  · exact Or.inr ⟨a, a2, a3, hx.resolve_left a⟩
theorem wJ.traps {b m C E S i : Nat} {V : MT} {x : Int32} (h : wJ b m C E S V) (hi : i < C) (hx : x = 0 ∨ x = 1) : wJ b m C E S (pt V 7 i 12 x) := by
  have q := h.2.2.1 i hi
  refine h.pf (by decide) kept.traps (us_7 hi (by decide)) ?_
  obtain ⟨c1, c2, c3, c4, c5, c6, c7, c8, c9⟩ := q
  unfold jC
  simp only [pt_at, pt_ne (show ¬ (7 = 7 ∧ 1 = 12) by decide), pt_ne (show ¬ (7 = 7 ∧ 3 = 12) by decide), pt_ne (show ¬ (7 = 7 ∧ 5 = 12) by decide), pt_ne (show ¬ (7 = 7 ∧ 6 = 12) by decide), pt_ne (show ¬ (7 = 7 ∧ 9 = 12) by decide), pt_ne (show ¬ (10 = 7 ∧ 2 = 12) by decide), pt_ne (show ¬ (13 = 7 ∧ 2 = 12) by decide), pt_kn (show 15 ≠ 7 by decide)]
  exact ⟨c1, c2, c3, c4, hx, c6, c7, c8, c9⟩
theorem wJ.box {b m C E S i : Nat} {V : MT} {x : Int32} (h : wJ b m C E S V) (hi : i < C) {n : Nat} (hn : n ≤ 8) (hx : x = nI n) (h2 : V 7 i 5 = 2 → n = 0) : wJ b m C E S (pt V 10 i 2 x) := by
  have q := h.2.2.1 i hi
  refine h.pf (by decide) kept.box (us_10 hi) ?_
  obtain ⟨c1, c2, c3, c4, c5, c6, c7, c8, c9⟩ := q
  unfold jC
  simp only [pt_at, pt_ne (show ¬ (7 = 10 ∧ 1 = 2) by decide), pt_ne (show ¬ (7 = 10 ∧ 3 = 2) by decide), pt_ne (show ¬ (7 = 10 ∧ 5 = 2) by decide), pt_ne (show ¬ (7 = 10 ∧ 6 = 2) by decide), pt_ne (show ¬ (7 = 10 ∧ 9 = 2) by decide), pt_ne (show ¬ (7 = 10 ∧ 12 = 2) by decide), pt_ne (show ¬ (13 = 10 ∧ 2 = 2) by decide), pt_kn (show 15 ≠ 10 by decide)]
  refine ⟨c1, c2, c3, c4, c5, ⟨n, hn, hx⟩, fun e => ?_, c8, c9⟩
  rw [hx, h2 e]; exact nI_0
theorem wJ.wat {b m C E S i : Nat} {V : MT} {x : Int32} (h : wJ b m C E S V) (hi : i < C) {n : Nat} (hn : n ≤ 24) (hx : x = nI n) : wJ b m C E S (pt V 13 i 2 x) := by
  have q := h.2.2.1 i hi
  refine h.pf (by decide) kept.wat (us_13 hi) ?_
  obtain ⟨c1, c2, c3, c4, c5, c6, c7, c8, c9⟩ := q
  unfold jC
  simp only [pt_at, pt_ne (show ¬ (7 = 13 ∧ 1 = 2) by decide), pt_ne (show ¬ (7 = 13 ∧ 3 = 2) by decide), pt_ne (show ¬ (7 = 13 ∧ 5 = 2) by decide), pt_ne (show ¬ (7 = 13 ∧ 6 = 2) by decide), pt_ne (show ¬ (7 = 13 ∧ 9 = 2) by decide), pt_ne (show ¬ (7 = 13 ∧ 12 = 2) by decide), pt_ne (show ¬ (10 = 13 ∧ 2 = 2) by decide), pt_kn (show 15 ≠ 13 by decide)]
  exact ⟨c1, c2, c3, c4, c5, c6, c7, ⟨n, hn, hx⟩, c9⟩
theorem wJ.tim {b m C E S i : Nat} {V : MT} {j : Nat} {x : Int32} (h : wJ b m C E S V) (hi : i < C) (hj : j < 24) {n : Nat} (hn : n ≤ b) (hx : x = nI n) : wJ b m C E S (pt V 15 i j x) := by
  have q := h.2.2.1 i hi
  refine h.pf (by decide) kept.tim (us_15 hi hj) ?_
  obtain ⟨c1, c2, c3, c4, c5, c6, c7, c8, c9⟩ := q
  unfold jC
  simp only [pt_kn (show 7 ≠ 15 by decide), pt_kn (show 10 ≠ 15 by decide), pt_kn (show 13 ≠ 15 by decide)]
  refine ⟨c1, c2, c3, c4, c5, c6, c7, c8, fun k hk => ?_⟩
  by_cases e : k = j
  · subst e; rw [pt_at]; exact ⟨n, hn, hx⟩
  · rw [pt_ne (by omega)]; exact c9 k hk
theorem wJ.lost {b m C E S : Nat} {V : MT} {x : Int32} (h : wJ b m C E S V) {m' : Nat} (hx : ∃ l, l ≤ m' ∧ x = nI l) : wJ b m' C E S (pt V 0 0 7 x) := by
  refine h.wf (Nat.le_refl _) kept.lost (us_0 (by decide)) (by decide) ?_
  obtain ⟨q1, q2, q3⟩ := h.2.2.2.2.2.2.1
  unfold jM
  rw [pt_at, pt_ne (by decide), pt_ne (by decide)]
  exact ⟨q1, q2, hx⟩
theorem wJ.now {b m C E S : Nat} {V : MT} {x : Int32} (h : wJ b m C E S V) {b' : Nat} (hb : b ≤ b') (hx : ∃ l, l ≤ b' ∧ x = nI l) : wJ b' m C E S (pt V 0 0 6 x) := by
  refine h.wf hb kept.now (us_0 (by decide)) (by decide) ?_
  obtain ⟨q1, q2, q3⟩ := h.2.2.2.2.2.2.1
  unfold jM
  rw [pt_at, pt_ne (by decide), pt_ne (by decide)]
  exact ⟨hx, q2, q3⟩
theorem wJ.rc {b m C E S : Nat} {V : MT} {x : Int32} (h : wJ b m C E S V) (hx : ∃ l, l ≤ 24 ∧ x = nI l) : wJ b m C E S (pt V 0 0 16 x) := by
  refine h.wf (Nat.le_refl _) kept.rc (us_0 (by decide)) (by decide) ?_
  obtain ⟨q1, q2, q3⟩ := h.2.2.2.2.2.2.1
  unfold jM
  rw [pt_at, pt_ne (by decide), pt_ne (by decide)]
  exact ⟨q1, hx, q3⟩
end
