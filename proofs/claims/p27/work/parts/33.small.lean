/-! who is there; a BOX; READY; the end of one; MAIL and a SIGNAL -/
section
theorem jA.at {C E S : Nat} {V : MT} (h : jA C E S V) : V 0 0 5 = nI C ∧ C ≤ 24 := ⟨h.1, h.2.2.2.1⟩
theorem pr_at (G : MT) {V : MT} {C : Nat} (hC : V 0 0 5 = nI C) (h24 : C ≤ 24) (x : Int32) : (∃ i, i < C ∧ x = nI i ∧ f_X5_procAt G V x = some (some i)) ∨ ((∀ i, i < C → x ≠ nI i) ∧ f_X5_procAt G V x = some none) := by
  rcases pk_ix x (n := C) (by omega) with h | h | ⟨j, hj, rfl⟩
  · right
    refine ⟨fun i hi e => ?_, ?_⟩
    · subst e; exact nI_pos (by omega) h
    · unfold f_X5_procAt; rw [if_pos h]
  · right
    refine ⟨fun i hi e => ?_, ?_⟩
    · subst e; rw [nI_leI (by omega) (by omega)] at h; omega
    · unfold f_X5_procAt
      by_cases h0 : x < 0
      · rw [if_pos h0]
      · rw [if_neg h0, hC, if_pos h]
  · left
    refine ⟨j, hj, rfl, ?_⟩
    unfold f_X5_procAt
    rw [if_neg (nI_pos (by omega)), hC, if_neg (nI_ge hj (by omega)), if_neg (show ¬ (24 : Int32) ≤ nI j from nI_ge (a := j) (b := 24) (by omega) (by omega)), if_pos (nI_in (by omega) (by decide)), wd_cl (by omega)]
theorem li_at (G : MT) {V : MT} {C : Nat} (hC : V 0 0 5 = nI C) (h24 : C ≤ 24) (x : Int32) : (∃ i, i < C ∧ x = nI i ∧ V 7 i 5 ≠ 2 ∧ f_X5_living G V x = some (some i)) ∨ ((∀ i, i < C → x = nI i → V 7 i 5 = 2) ∧ f_X5_living G V x = some none) := by
  rcases pk_ix x (n := C) (by omega) with h | h | ⟨j, hj, rfl⟩
  · right
    refine ⟨fun i hi e => ?_, ?_⟩
    · subst e; exact absurd h (nI_pos (by omega))
    · unfold f_X5_living; rw [if_pos h]
  · right
    refine ⟨fun i hi e => ?_, ?_⟩
    · subst e; rw [nI_leI (by omega) (by omega)] at h; omega
    · unfold f_X5_living
      by_cases h0 : x < 0
      · rw [if_pos h0]
      · rw [if_neg h0, hC, if_pos h]
  · by_cases h2 : V 7 j 5 = 2
    · right
      refine ⟨fun i hi e => ?_, ?_⟩
      · rw [nI_eq (by omega) (by omega)] at e; subst e; exact h2
      · unfold f_X5_living
        rw [if_neg (nI_pos (by omega)), hC, if_neg (nI_ge hj (by omega)), if_pos (show nI j < (24 : Int32) from nI_lt (a := j) (b := 24) (by omega) (by omega)), if_pos (nI_in (by omega) (by decide)), wd_cl (by omega), if_pos h2]
    · left
      refine ⟨j, hj, rfl, h2, ?_⟩
      unfold f_X5_living
      rw [if_neg (nI_pos (by omega)), hC, if_neg (nI_ge hj (by omega)), if_pos (show nI j < (24 : Int32) from nI_lt (a := j) (b := 24) (by omega) (by omega)), if_pos (nI_in (by omega) (by decide)), wd_cl (by omega), if_neg h2, if_pos (show ¬ (nI j < 0 ∨ 24 ≤ j) from fun e => e.elim (nI_pos (by omega)) (by omega))]
/-- only what is soft, or of the BOX of i, or NOT-OVER of i -/
def onlyAt (i : Nat) (V V' : MT) : Prop := ∀ k i2 j, 7 ≤ k → i2 ≠ i → V' k i2 j = V k i2 j
theorem wd_put {b m C E S i : Nat} {V : MT} (h : wJ b m C E S V) (hi : i < C) (h2 : V 7 i 5 ≠ 2) (x1 x2 : Int32) : Tt (f_X0_put V i x1 x2) (fun r => (r.1 = 0 ∧ r.2 = V) ∨ (r.1 = 1 ∧ wJ b m C E S r.2 ∧ kept V r.2 ∧ (∀ j, r.2 7 i j = V 7 i j) ∧ ∀ j, r.2 0 0 j = V 0 0 j)) := by
  obtain ⟨c1, c2, c3, c4, c5, ⟨n, hn, e⟩, c7, c8, c9⟩ := h.2.2.1 i hi
  unfold f_X0_put
  simp only [pt_kn (show 10 ≠ 11 by decide), pt_kn (show 10 ≠ 12 by decide), e]
  refine Tt.lt n 8 (fun hl => ?_) (fun hl => Tt.ret (Or.inl ⟨rfl, rfl⟩))
  refine Tt.inn n hl (Tt.inn n hl (Tt.ret (Or.inr ⟨rfl, ?_, ?_, ?_, ?_⟩)))
  · rw [wd_cl (by omega)]
    refine ((h.sf sf_11 (us_11 hi hl)).sf sf_12 (us_12 hi hl)).box hi (n := n + 1) (by omega) (nI_1 n) (fun z => ?_)
    rw [pt_kn (by decide), pt_kn (by decide)] at z
    exact absurd z h2
  · exact ((kept.sf sf_11).trans (kept.sf sf_12)).trans kept.box
  · intro j
    dsimp only
    rw [pt_kn (by decide), pt_kn (by decide), pt_kn (by decide)]
  · intro j
    dsimp only
    rw [pt_kn (by decide), pt_kn (by decide), pt_kn (by decide)]
theorem wd_first {V : MT} {i n : Nat} (e : V 10 i 2 = nI n) (hn : n ≤ 8) (x : Int32) (f k : Nat) (hk : k ≤ 8) (hf : 9 ≤ f + k) : Tt (f_X0_firstOf_2 V f i x (nI k)) (fun r => r = -1 ∨ ∃ q, q < n ∧ r = nI q) := by
  induction f generalizing k with
  | zero => omega
  | succ f ih =>
    rw [f_X0_firstOf_2, e]
    refine Tt.le n k (fun _ => Tt.ret (Or.inl rfl)) (fun h1 => ?_)
    refine Tt.le 8 k (fun _ => Tt.ret (Or.inl rfl)) (fun h2 => ?_)
    refine Tt.ite (fun _ => Tt.ret (Or.inr ⟨k, h1, rfl⟩)) (fun _ => ?_)
    refine Tt.inn k h2 ?_
    refine Tt.ite (fun _ => Tt.ret (Or.inr ⟨k, h1, rfl⟩)) (fun _ => ?_)
    rw [nI_1]
    exact ih (k + 1) (by omega) (by omega)
theorem wd_firstOf {V : MT} {i n : Nat} (e : V 10 i 2 = nI n) (hn : n ≤ 8) (x : Int32) : Tt (f_X0_firstOf V i x) (fun r => r = -1 ∨ ∃ q, q < n ∧ r = nI q) := wd_first e hn x 30 0 (by omega) (by omega)
theorem wd_take33 {b m C E S i n : Nat} (hn : n ≤ 8) (h0 : 0 < n) (y : Int32) (f k : Nat) (hk : k ≤ 8) (hk0 : 0 < k) (hf : 9 ≤ f + k) (V : MT) (h : wJ b m C E S V) (hi : i < C) (h2 : V 7 i 5 ≠ 2) (e : V 10 i 2 = nI n) : Tt (f_X0_takeOut_33 f i y (nI k) V) (fun r => wJ b m C E S r.2 ∧ kept V r.2 ∧ ∀ j, r.2 7 i j = V 7 i j) := by
  induction f generalizing k V with
  | zero => omega
  | succ f ih =>
    rw [f_X0_takeOut_33, e]
    have fin : Tt (some (y, pt V 10 i 2 (nI n - 1))) (fun r => wJ b m C E S r.2 ∧ kept V r.2 ∧ ∀ j, r.2 7 i j = V 7 i j) := by
      refine Tt.ret ⟨?_, kept.box, fun j => by dsimp only; rw [pt_kn (by decide)]⟩
      exact h.box hi (n := n - 1) (by omega) (by obtain ⟨n', rfl⟩ : ∃ n', n = n' + 1 := ⟨n - 1, by omega⟩; rw [nI_pred]; rfl) (fun z => absurd z h2)
    refine Tt.le n k (fun _ => fin) (fun h1 => ?_)
    refine Tt.le 8 k (fun _ => fin) (fun h3 => ?_)
    obtain ⟨k', rfl⟩ : ∃ k', k = k' + 1 := ⟨k - 1, by omega⟩
    rw [nI_pred]
    refine Tt.inn (k' + 1) h3 (Tt.inn k' (by omega) (Tt.inn (k' + 1) h3 (Tt.inn k' (by omega) ?_)))
    rw [nI_1, wd_cl (by omega)]
    refine (ih (k' + 1 + 1) (by omega) (by omega) (by omega) _ ((h.sf sf_11 (us_11 hi (by omega))).sf sf_12 (us_12 hi (by omega))) ?_ ?_).mono (fun r q => ⟨q.1, ((kept.sf sf_11).trans (kept.sf sf_12)).trans q.2.1, fun j => ?_⟩)
    · rw [pt_kn (by decide), pt_kn (by decide)]; exact h2
    · rw [pt_kn (by decide), pt_kn (by decide)]; exact e
    · rw [q.2.2 j, pt_kn (by decide), pt_kn (by decide)]
theorem wi_in {k n : Nat} (h : k ≤ n) (hn : n < 2 ^ 31) : f_X6_isWithin (nI k) 0 (nI n) = some 1 := by
  unfold f_X6_isWithin
  rw [if_neg (nI_pos (by omega)), if_neg (nI_nlt h (by omega))]
theorem wd_takeOut {b m C E S i n q : Nat} {V : MT} (h : wJ b m C E S V) (hi : i < C) (h2 : V 7 i 5 ≠ 2) (e : V 10 i 2 = nI n) (hn : n ≤ 8) (hq : q < n) : Tt (f_X0_takeOut V i (nI q)) (fun r => wJ b m C E S r.2 ∧ kept V r.2 ∧ ∀ j, r.2 7 i j = V 7 i j) := by
  unfold f_X0_takeOut
  rw [e]
  obtain ⟨n', rfl⟩ : ∃ n', n = n' + 1 := ⟨n - 1, by omega⟩
  rw [nI_pred, wi_in (by omega) (by omega)]
  refine Tt.q1 ?_
  refine Tt.lt q 8 (fun _ => ?_) (fun z => by omega)
  refine Tt.inn q (by omega) ?_
  rw [nI_1]
  exact wd_take33 hn (by omega) _ 30 (q + 1) (by omega) (by omega) (by omega) V h hi h2 e
theorem wd_takeMail {b m C E S i : Nat} {V : MT} (h : wJ b m C E S V) (hi : i < C) (h2 : V 7 i 5 ≠ 2) (x : Int32) : Tt (f_X2_takeMail V i x) (fun r => wJ b m C E S r.2 ∧ kept V r.2 ∧ ∀ j, j ≠ 7 → r.2 7 i j = V 7 i j) := by
  obtain ⟨c1, c2, c3, c4, c5, ⟨n, hn, e⟩, c7, c8, c9⟩ := h.2.2.1 i hi
  unfold f_X2_takeMail
  refine (wd_firstOf e hn x).bind (fun r hr => ?_)
  refine Tt.ite (fun _ => Tt.ret ⟨h, kept.refl V, fun _ _ => rfl⟩) (fun hne => ?_)
  rcases hr with hr | ⟨q, hq, rfl⟩
  · exact absurd hr hne
  · refine (wd_takeOut h hi h2 e hn hq).bind (fun r hr => ?_)
    unfold f_X2_hold
    refine Tt.ret ⟨hr.1.sf (by decide) (us_7 hi (by decide)), hr.2.1.trans (kept.sf (by decide)), fun j hj => ?_⟩
    dsimp only
    rw [pt_ne (by omega)]
    exact hr.2.2 j
theorem wd_resume {b m C E S i : Nat} {V : MT} (h : wJ b m C E S V) (hi : i < C) (h2 : V 7 i 5 ≠ 2) : Tt (f_X2_resume V i) (fun r => wJ b m C E S r ∧ kept V r ∧ r 7 i 5 = V 7 i 5) := by
  unfold f_X2_resume
  refine Tt.ite (fun _ => Tt.ret ⟨h, kept.refl V, rfl⟩) (fun _ => ?_)
  refine Tt.ite (fun _ => Tt.ret ⟨(h.sf (by decide) (us_7 hi (by decide))).sf (by decide) (us_7 hi (by decide)), (kept.sf (by decide)).trans (kept.sf (by decide)), ?_⟩) (fun _ => ?_)
  · rw [pt_ne (by decide), pt_ne (by decide)]
  · refine (wd_takeMail h hi h2 _).bind (fun r hr => ?_)
    obtain ⟨a1, a2, a3⟩ := hr
    refine Tt.ite (fun _ => Tt.ret ⟨((a1.sf (by decide) (us_7 hi (by decide))).sf (by decide) (us_7 hi (by decide))).sf (by decide) (us_7 hi (by decide)), ((a2.trans (kept.sf (by decide))).trans (kept.sf (by decide))).trans (kept.sf (by decide)), ?_⟩) (fun _ => Tt.ret ⟨(a1.sf (by decide) (us_7 hi (by decide))).sf (by decide) (us_7 hi (by decide)), (a2.trans (kept.sf (by decide))).trans (kept.sf (by decide)), ?_⟩)
    · rw [pt_ne (by decide), pt_ne (by decide), pt_ne (by decide)]; exact a3 5 (by decide)
    · rw [pt_ne (by decide), pt_ne (by decide)]; exact a3 5 (by decide)
theorem wd_ready {b m C E S i : Nat} {V : MT} (G : MT) (h : wJ b m C E S V) (hi : i < C) (h2 : V 7 i 5 ≠ 2) (h3 : V 7 i 3 = -1) : Tt (f_X5_ready G V i) (fun r => wJ b m C E S r ∧ kept V r ∧ r 7 i 5 = 0 ∧ (∀ j, r 0 0 j = V 0 0 j ∨ j = 10)) := by
  unfold f_X5_ready
  refine Tt.ret ⟨?_, ?_, ?_, ?_⟩
  · refine ((((h.st hi h2 (Or.inl ⟨rfl, h3⟩)).until hi (Or.inr rfl)).sf (by decide) (us_7 hi (by decide))).sf (by decide) (us_0 (by decide)))
  · exact (((kept.st h2 (by decide)).trans kept.until).trans (kept.sf (by decide))).trans (kept.sf (by decide))
  · rw [pt_kn (by decide), pt_ne (by decide), pt_ne (by decide), pt_at]
  · intro j
    by_cases e : j = 10
    · exact Or.inr e
    · left
      rw [pt_ne (by omega), pt_kn (by decide), pt_kn (by decide), pt_kn (by decide)]
theorem wd_putMail {b m C E S : Nat} {V : MT} (G : MT) (h : wJ b m C E S V) (x t y : Int32) : Tt (f_X5_putMail G V x t y) (fun r => wJ b (m + 1) C E S r.2 ∧ kept V r.2 ∧ ((r.1 = 0 ∧ ∃ l, l ≤ m ∧ r.2 0 0 7 = nI (l + 1)) ∨ (r.1 = 1 ∧ ∃ i, i < C ∧ x = nI i ∧ V 7 i 5 ≠ 2 ∧ V 7 i 3 = -1))) := by
  have hA := h.1.at
  obtain ⟨l, hl, el⟩ := h.2.2.2.2.2.2.1.2.2
  have lose : ∀ V1 : MT, wJ b m C E S V1 → kept V V1 → V1 0 0 7 = nI l → Tt (some ((0 : Int32), pt V1 0 0 7 (V1 0 0 7 + 1))) (fun r => wJ b (m + 1) C E S r.2 ∧ kept V r.2 ∧ ((r.1 = 0 ∧ ∃ l, l ≤ m ∧ r.2 0 0 7 = nI (l + 1)) ∨ (r.1 = 1 ∧ ∃ i, i < C ∧ x = nI i ∧ V 7 i 5 ≠ 2 ∧ V 7 i 3 = -1))) := fun V1 g gk ge => by
    rw [ge, nI_1]
    exact Tt.ret ⟨g.lost ⟨l + 1, by omega, rfl⟩, gk.trans kept.lost, Or.inl ⟨rfl, l, hl, by dsimp only; rw [pt_at]⟩⟩
  unfold f_X5_putMail
  rcases li_at G hA.1 hA.2 x with ⟨i, hi, rfl, h2, e⟩ | ⟨hno, e⟩
  · rw [e]
    refine Tt.sb (Tt.ocS (Tt.pos (c := i < 24) (by omega) ?_))
    unfold f_X2_isSupervisor
    by_cases h3 : V 7 i 3 = -1
    · rw [if_pos h3]
      refine Tt.q0 ?_
      refine (wd_put h hi h2 t y).bind (fun r hr => ?_)
      rcases hr with ⟨r1, r2⟩ | ⟨r1, g, gk, g7, g0⟩
      · refine Tt.pos r1 ?_
        rw [r2]
        exact lose V h (kept.refl V) el
      · refine Tt.neg (by rw [r1]; decide) ?_
        have fin : ∀ V1 : MT, wJ b m C E S V1 → kept V V1 → Tt (some ((1 : Int32), V1)) (fun r => wJ b (m + 1) C E S r.2 ∧ kept V r.2 ∧ ((r.1 = 0 ∧ ∃ l, l ≤ m ∧ r.2 0 0 7 = nI (l + 1)) ∨ (r.1 = 1 ∧ ∃ i2, i2 < C ∧ nI i = nI i2 ∧ V 7 i2 5 ≠ 2 ∧ V 7 i2 3 = -1))) := fun V1 q qk => Tt.ret ⟨q.up (Nat.le_refl _) (by omega), qk, Or.inr ⟨rfl, i, hi, rfl, h2, h3⟩⟩
        have rdy : Tt ((f_X5_ready G r.2 i).bind (fun q8_ => some ((1 : Int32), q8_))) (fun r => wJ b (m + 1) C E S r.2 ∧ kept V r.2 ∧ ((r.1 = 0 ∧ ∃ l, l ≤ m ∧ r.2 0 0 7 = nI (l + 1)) ∨ (r.1 = 1 ∧ ∃ i2, i2 < C ∧ nI i = nI i2 ∧ V 7 i2 5 ≠ 2 ∧ V 7 i2 3 = -1))) := by
          refine (wd_ready G g hi (by rw [g7]; exact h2) (by rw [g7]; exact h3)).bind (fun r8 q => ?_)
          exact fin r8 q.1 (gk.trans q.2.1)
        unfold f_X2_waitsForMail
        by_cases w1 : r.2 7 i 5 = 1
        · rw [if_pos w1]
          by_cases w2 : r.2 7 i 10 = t
          · rw [if_pos w2]
            exact Tt.q1 rdy
          · rw [if_neg w2]
            by_cases w3 : r.2 7 i 10 = 4
            · rw [if_pos w3]
              exact Tt.q1 rdy
            · rw [if_neg w3]
              exact Tt.q0 (fin r.2 g gk)
        · rw [if_neg w1]
          exact Tt.q0 (fin r.2 g gk)
    · rw [if_neg h3]
      exact Tt.q1 (lose V h (kept.refl V) el)
  · rw [e]
    exact lose V h (kept.refl V) el
end
