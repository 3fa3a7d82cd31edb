/-! the END of one; a SIGNAL -/
section
def clN (k i : Nat) (V : MT) : MT := fun k' i' j' => if k' = 2 ∧ i' = 0 ∧ k ≤ j' ∧ j' < 4 ∧ V 2 0 j' = nI i then -1 else V k' i' j'
theorem clN_ne {k i : Nat} {V : MT} {k' i' j' : Nat} (h : k' ≠ 2) : clN k i V k' i' j' = V k' i' j' := by unfold clN; rw [if_neg (fun e => h e.1)]
theorem clN_4 (i : Nat) (V : MT) : clN 4 i V = V := by
  funext k' i' j'
  unfold clN
  rw [if_neg (by rintro ⟨-, -, a, b, -⟩; omega)]
theorem clN_s {k i : Nat} {V : MT} (h : V 2 0 k = nI i) (hk : k < 4) : clN (k + 1) i (pt V 2 0 k (-1)) = clN k i V := by
  funext k' i' j'
  unfold clN
  by_cases hq : k' = 2 ∧ i' = 0
  · obtain ⟨rfl, rfl⟩ := hq
    by_cases hj : j' = k
    · subst hj
      rw [if_neg (by rintro ⟨-, -, a, -⟩; omega), pt_at, if_pos ⟨rfl, rfl, Nat.le_refl _, hk, h⟩]
    · rw [pt_ne (by omega)]
      by_cases hc : 2 = 2 ∧ 0 = 0 ∧ k ≤ j' ∧ j' < 4 ∧ V 2 0 j' = nI i
      · rw [if_pos hc, if_pos ⟨rfl, rfl, by omega, hc.2.2.2⟩]
      · rw [if_neg hc, if_neg (by rintro ⟨-, -, a, b⟩; exact hc ⟨rfl, rfl, by omega, b⟩)]
  · rw [if_neg (fun e => hq ⟨e.1, e.2.1⟩), if_neg (fun e => hq ⟨e.1, e.2.1⟩), pt_app, if_neg (fun e => hq ⟨e.1, e.2.1⟩)]
theorem clN_u {k i : Nat} {V : MT} (h : V 2 0 k ≠ nI i) : clN (k + 1) i V = clN k i V := by
  funext k' i' j'
  unfold clN
  by_cases hc : k' = 2 ∧ i' = 0 ∧ k ≤ j' ∧ j' < 4 ∧ V 2 0 j' = nI i
  · have h3 : j' ≠ k := fun z => h (z ▸ hc.2.2.2.2)
    rw [if_pos hc, if_pos ⟨hc.1, hc.2.1, by omega, hc.2.2.2⟩]
  · rw [if_neg hc, if_neg (by rintro ⟨a, b, c, d⟩; exact hc ⟨a, b, by omega, d⟩)]
theorem wd_end43 (G : MT) {E i : Nat} (hE : E < 24) (f k : Nat) (hk : k ≤ 4) (hf : 5 ≤ f + k) (V : MT) (e : V 0 0 12 = nI E) : f_X5_end_43 G f i (nI k) V = some (pt (pt (clN k i V) 4 0 E (nI i)) 0 0 12 (nI (E + 1))) := by
  induction f generalizing k V with
  | zero => omega
  | succ f ih =>
    rw [f_X5_end_43]
    by_cases h4 : k = 4
    · subst h4
      rw [if_pos (show (4 : Int32) ≤ nI 4 from nI_le (a := 4) (b := 4) (by omega) (by omega)), e, if_pos (nI_in hE (by decide)), wd_cl (by omega), pt_kn (by decide), e, nI_1, clN_4]
    · rw [if_neg (show ¬ (4 : Int32) ≤ nI k from nI_ge (a := k) (b := 4) (by omega) (by omega)), if_pos (nI_in (show k < 4 by omega) (by decide)), wd_cl (by omega), nI_1]
      by_cases hv : V 2 0 k = nI i
      · rw [if_pos hv, if_pos, ih (k + 1) (by omega) (by omega) _ (by rw [pt_kn (by decide)]; exact e), clN_s hv (by omega)]
        rintro (a | a)
        · exact nI_pos (by omega) a
        · omega
      · rw [if_neg hv, ih (k + 1) (by omega) (by omega) _ e, clN_u hv]
def endW (V : MT) (i : Nat) (r : Int32) (E : Nat) : MT := pt (pt (clN 0 i (pt (pt (pt (pt V 7 i 5 2) 7 i 6 r) 7 i 9 (-1)) 10 i 2 0)) 4 0 E (nI i)) 0 0 12 (nI (E + 1))
theorem wd_endE (G : MT) {V : MT} {i E : Nat} {r : Int32} (h2 : V 7 i 5 ≠ 2) (hE : E < 24) (e : V 0 0 12 = nI E) : f_X5_end G V i r = some (endW V i r E) := by
  unfold f_X5_end
  rw [if_neg h2, e, if_pos (show nI E < (24 : Int32) from nI_lt (a := E) (b := 24) hE (by omega))]
  exact wd_end43 G hE 30 0 (by omega) (by omega) _ (by rw [pt_kn (by decide), pt_kn (by decide), pt_kn (by decide), pt_kn (by decide)]; exact e)
theorem endW_k {V : MT} {i E : Nat} {r : Int32} {k i2 j : Nat} (h1 : ¬ (k = 0 ∧ j = 12)) (h2 : k ≠ 2) (h4 : k ≠ 4) (h7 : ¬ (k = 7 ∧ (j = 5 ∨ j = 6 ∨ j = 9))) (h10 : k ≠ 10) : endW V i r E k i2 j = V k i2 j := by
  unfold endW
  rw [pt_ne h1, pt_kn h4, clN_ne h2, pt_kn h10, pt_ne (by omega), pt_ne (by omega), pt_ne (by omega)]
theorem endW_i {V : MT} {i E : Nat} {r : Int32} {k i2 j : Nat} (h : i2 ≠ i) (h7 : 7 ≤ k) : endW V i r E k i2 j = V k i2 j := by
  unfold endW
  rw [pt_kn (by omega), pt_kn (by omega), clN_ne (by omega), pt_in h, pt_in h, pt_in h, pt_in h]
theorem endW_5 {V : MT} {i E : Nat} {r : Int32} : endW V i r E 7 i 5 = 2 := by
  unfold endW
  rw [pt_kn (by decide), pt_kn (by decide), clN_ne (by decide), pt_kn (by decide), pt_ne (by decide), pt_ne (by decide), pt_at]
theorem endW_6 {V : MT} {i E : Nat} {r : Int32} : endW V i r E 7 i 6 = r := by
  unfold endW
  rw [pt_kn (by decide), pt_kn (by decide), clN_ne (by decide), pt_kn (by decide), pt_ne (by decide), pt_at]
theorem endW_9 {V : MT} {i E : Nat} {r : Int32} : endW V i r E 7 i 9 = -1 := by
  unfold endW
  rw [pt_kn (by decide), pt_kn (by decide), clN_ne (by decide), pt_kn (by decide), pt_at]
theorem endW_10 {V : MT} {i E : Nat} {r : Int32} : endW V i r E 10 i 2 = 0 := by
  unfold endW
  rw [pt_kn (by decide), pt_kn (by decide), clN_ne (by decide), pt_at]
theorem endW_4 {V : MT} {i E : Nat} {r : Int32} {n : Nat} (h : n ≠ E) : endW V i r E 4 0 n = V 4 0 n := by
  unfold endW
  rw [pt_kn (by decide), pt_ne (by omega), clN_ne (by decide), pt_kn (by decide), pt_kn (by decide), pt_kn (by decide), pt_kn (by decide)]
theorem endW_4E {V : MT} {i E : Nat} {r : Int32} : endW V i r E 4 0 E = nI i := by
  unfold endW
  rw [pt_kn (by decide), pt_at]
theorem endW_12 {V : MT} {i E : Nat} {r : Int32} : endW V i r E 0 0 12 = nI (E + 1) := by
  unfold endW
  rw [pt_at]
theorem endW_2 {V : MT} {i E : Nat} {r : Int32} {n : Nat} (hn : n < 4) : endW V i r E 2 0 n = if V 2 0 n = nI i then -1 else V 2 0 n := by
  unfold endW
  rw [pt_kn (by decide), pt_kn (by decide)]
  unfold clN
  rw [pt_kn (by decide), pt_kn (by decide), pt_kn (by decide), pt_kn (by decide)]
  by_cases h : V 2 0 n = nI i
  · rw [if_pos h, if_pos ⟨rfl, rfl, Nat.zero_le _, hn, h⟩]
  · rw [if_neg h, if_neg (fun e => h e.2.2.2.2)]
theorem wdF.cl {C k i : Nat} {V : MT} (h : wdF C V) : wdF C (clN k i V) := by
  refine ⟨fun k' i' j' hn => ?_, ?_, ?_, ?_⟩
  · unfold clN
    rw [if_neg (by rintro ⟨rfl, rfl, -, a, -⟩; exact hn (us_2 a))]
    exact h.1 _ _ _ hn
  · rw [clN_ne (by decide)]; exact h.2.1
  · rw [clN_ne (by decide)]; exact h.2.2.1
  · rw [clN_ne (by decide)]; exact h.2.2.2
theorem wJ.lt {b m C E S i : Nat} {V : MT} (h : wJ b m C E S V) (hi : i < C) (h2 : V 7 i 5 ≠ 2) : E < 24 := by
  have := cov_lt h2 C hi
  have hA := h.1
  unfold jA at hA
  omega
theorem wd_endJ {b m C E S i : Nat} {V : MT} {r : Int32} (h : wJ b m C E S V) (hi : i < C) (h2 : V 7 i 5 ≠ 2) (hr : 0 ≤ r) : wJ b m C (E + 1) S (endW V i r E) := by
  have hE := h.lt hi h2
  obtain ⟨hA, hB, hC, hL, hP, hN, hM, hF⟩ := h
  obtain ⟨a1, a2, a3, a4, a5, a6⟩ := hA
  refine ⟨⟨?_, endW_12, ?_, a4, by omega, ?_⟩, ⟨fun n hn => ?_, fun n m hn hm e => ?_, fun i2 hi2 e => ?_⟩, fun i2 hi2 => ?_, ⟨fun i2 hi2 j hj => ?_, fun n hn i2 hi2 e => ?_⟩, ⟨fun i2 hi2 e => ?_, fun s hs p hp => ?_⟩, fun k hk => ?_, ?_, ?_⟩
  · rw [endW_k (by omega) (by omega) (by omega) (by omega) (by omega)]; exact a1
  · rw [endW_k (by omega) (by omega) (by omega) (by omega) (by omega)]; exact a3
  · rw [cov_up (i := i) (V := V) (fun j hj => endW_i hj (by omega)) h2 endW_5 C hi, a6]
  · by_cases e : n = E
    · subst e; exact ⟨i, hi, endW_4E, endW_5⟩
    · obtain ⟨i2, q1, q2, q3⟩ := hB.1 n (by omega)
      refine ⟨i2, q1, by rw [endW_4 e]; exact q2, ?_⟩
      rw [endW_i (by rintro rfl; exact h2 q3) (by omega)]; exact q3
  · by_cases e1 : n = E
    · by_cases e2 : m = E
      · omega
      · subst e1
        rw [endW_4E, endW_4 e2] at e
        obtain ⟨i2, q1, q2, q3⟩ := hB.1 m (by omega)
        rw [q2, nI_eq (by omega) (by omega)] at e
        subst e
        exact absurd q3 h2
    · by_cases e2 : m = E
      · subst e2
        rw [endW_4E, endW_4 e1] at e
        obtain ⟨i2, q1, q2, q3⟩ := hB.1 n (by omega)
        rw [q2, nI_eq (by omega) (by omega)] at e
        subst e
        exact absurd q3 h2
      · rw [endW_4 e1, endW_4 e2] at e
        exact hB.2.1 n m (by omega) (by omega) e
  · by_cases e1 : i2 = i
    · subst e1; exact ⟨E, by omega, endW_4E⟩
    · rw [endW_i e1 (by omega)] at e
      obtain ⟨n, q1, q2⟩ := hB.2.2 i2 hi2 e
      exact ⟨n, by omega, by rw [endW_4 (by omega)]; exact q2⟩
  · by_cases e1 : i2 = i
    · subst e1
      obtain ⟨c1, c2, c3, c4, c5, c6, c7, c8, c9⟩ := hC i2 hi
      unfold jC
      have e3 : ∀ j, ¬ (j = 5 ∨ j = 6 ∨ j = 9) → endW V i2 r E 7 i2 j = V 7 i2 j := fun j hj => endW_k (by omega) (by omega) (by omega) (by omega) (by omega)
      rw [endW_5, endW_6, endW_9, endW_10, e3 3 (by decide), e3 1 (by decide), e3 12 (by decide), endW_k (k := 13) (by omega) (by omega) (by omega) (by omega) (by omega)]
      refine ⟨Or.inr (Or.inr rfl), fun _ => hr, fun z => absurd rfl z, ?_, c5, ⟨0, by omega, rfl⟩, fun _ => rfl, c8, fun k hk => ?_⟩
      · rcases c4 with ⟨a, b⟩ | ⟨a, b, -, -⟩
        · exact Or.inl ⟨a, b⟩
        · exact Or.inr ⟨a, b, by decide, rfl⟩
      · rw [endW_k (k := 15) (by omega) (by omega) (by omega) (by omega) (by omega)]; exact c9 k hk
    · exact (hC i2 hi2).cg (fun k j h7 => endW_i e1 h7)
  · rw [endW_k (by omega) (by omega) (by omega) (by omega) (by omega)] at hj ⊢
    exact hL.1 i2 hi2 j hj
  · rw [endW_4 (by omega)] at e
    rw [endW_k (by omega) (by omega) (by omega) (by omega) (by omega)]
    exact hL.2 n hn i2 hi2 e
  · have e1 : i2 ≠ i := by rintro rfl; exact e endW_5
    rw [endW_i e1 (by omega)] at e
    rw [endW_i e1 (by omega)]
    rcases hP.1 i2 hi2 e with q | ⟨s, hs, q1, q2, q3, p, hp, q4, q5⟩
    · exact Or.inl q
    · refine Or.inr ⟨s, hs, ?_, ?_, fun n hn => ?_, p, hp, ?_, fun q hq z => ?_⟩
      · rw [endW_i e1 (by omega)]; exact q1
      · rw [endW_k (by omega) (by omega) (by omega) (by omega) (by omega)]; exact q2
      · rw [endW_4 (by omega)]; exact q3 n hn
      · rw [endW_k (by omega) (by omega) (by omega) (by omega) (by omega)]; exact q4
      · rw [endW_k (by omega) (by omega) (by omega) (by omega) (by omega)] at z; exact q5 q hq z
  · rw [endW_k (by omega) (by omega) (by omega) (by omega) (by omega)]
    exact hP.2 s hs p hp
  · rw [endW_2 hk]
    by_cases e : V 2 0 k = nI i
    · rw [if_pos e]; exact Or.inl rfl
    · rw [if_neg e]
      rcases hN k hk with q | ⟨i2, q1, q2, q3⟩
      · exact Or.inl q
      · refine Or.inr ⟨i2, q1, q2, ?_⟩
        rw [endW_i (by rintro rfl; exact e q2) (by omega)]
        exact q3
  · exact hM.cg (endW_k (by omega) (by omega) (by omega) (by omega) (by omega)) (endW_k (by omega) (by omega) (by omega) (by omega) (by omega)) (endW_k (by omega) (by omega) (by omega) (by omega) (by omega))
  · unfold endW
    exact ((((((hF.pt (us_7 hi (by decide)) (Or.inl (by decide))).pt (us_7 hi (by decide)) (Or.inl (by decide))).pt (us_7 hi (by decide)) (Or.inl (by decide))).pt (us_10 hi) (Or.inl (by decide))).cl).pt (us_4 hE) (Or.inl (by decide))).pt (us_0 (by decide)) (Or.inr (by decide))
theorem wd_endR {b m C E S i : Nat} {V : MT} {r : Int32} (h2 : V 7 i 5 ≠ 2) : wR C E V C (E + 1) (endW V i r E) := by
  refine ⟨Nat.le_refl _, by omega, fun n hn => endW_4 (by omega), fun i2 _ => ⟨endW_k (by omega) (by omega) (by omega) (by omega) (by omega), endW_k (by omega) (by omega) (by omega) (by omega) (by omega)⟩, fun i2 hi2 e => ?_, fun p _ _ hk i2 hi2 e => ?_, endW_k (by omega) (by omega) (by omega) (by omega) (by omega), fun j => endW_k (by omega) (by omega) (by omega) (by omega) (by omega)⟩
  · have e1 : i2 ≠ i := by rintro rfl; exact h2 e
    rw [endW_i e1 (by omega), endW_i e1 (by omega)]
    exact ⟨e, rfl⟩
  · have e1 : i2 ≠ i := by rintro rfl; exact e endW_5
    rw [endW_i e1 (by omega)] at e ⊢
    exact hk i2 hi2 e
theorem wd_endK {i E : Nat} {V : MT} {r : Int32} : wK V (endW V i r E) := ⟨fun _ => endW_k (by omega) (by omega) (by omega) (by omega) (by omega), fun _ => endW_k (by omega) (by omega) (by omega) (by omega) (by omega), fun _ _ => endW_k (by omega) (by omega) (by omega) (by omega) (by omega)⟩
/-- what an END of i may do: E2 of them are OVER then -/
def wE (b m C E S : Nat) (V V' : MT) : Prop := ∃ E', E' ≤ 24 ∧ wJ b m C E' S V' ∧ wR C E V C E' V' ∧ wK V V'
theorem wE.refl {b m C E S : Nat} {V : MT} (h : wJ b m C E S V) : wE b m C E S V V := ⟨E, by have := h.1; have := cov_le V C; unfold jA at *; omega, h, wR.refl C E V, wK.refl V⟩
theorem wE.of {b m b' m' C E S : Nat} {V V' : MT} (h : wJ b' m' C E S V') (k : kept V V') : wE b' m' C E S V V' := ⟨E, by have := h.1; have := cov_le V' C; unfold jA at *; omega, h, k.R C E, k.K⟩
theorem wE.up {b m b' m' C E S : Nat} {V V' : MT} (h : wE b m C E S V V') (hb : b ≤ b') (hm : m ≤ m') : wE b' m' C E S V V' := by
  obtain ⟨E', q0, q1, q2, q3⟩ := h
  exact ⟨E', q0, q1.up hb hm, q2, q3⟩
theorem wE.trans {b m b' m' C E E1 S : Nat} {V V1 V2 : MT} (r : wR C E V C E1 V1) (k : wK V V1) (g : wE b' m' C E1 S V1 V2) : wE b' m' C E S V V2 := by
  obtain ⟨E', q0, q1, q2, q3⟩ := g
  exact ⟨E', q0, q1, r.trans q2, k.trans q3⟩
theorem wd_end {b m C E S i : Nat} {V : MT} {r : Int32} (G : MT) (h : wJ b m C E S V) (hi : i < C) (hr : 0 ≤ r) : Tt (f_X5_end G V i r) (fun V' => wE b m C E S V V' ∧ V' 7 i 5 = 2 ∧ ∀ i2, i2 ≠ i → V' 7 i2 5 = V 7 i2 5) := by
  by_cases h2 : V 7 i 5 = 2
  · unfold f_X5_end
    rw [if_pos h2]
    exact Tt.ret ⟨wE.refl h, h2, fun _ _ => rfl⟩
  · have hE := h.lt hi h2
    exact Tt.eq (wd_endE G h2 hE h.1.2.1) ⟨⟨E + 1, by omega, wd_endJ h hi h2 hr, wd_endR (b := b) (m := m) (S := S) h2, wd_endK⟩, endW_5, fun i2 e => endW_i e (by omega)⟩
theorem wd_signalTo {b m C E S : Nat} {V : MT} (G : MT) (h : wJ b m C E S V) (x y r : Int32) (hr : 0 ≤ r) : Tt (f_X5_signalTo G V x y r) (fun V' => wE b (m + 1) C E S V V') := by
  have hA := h.1.at
  unfold f_X5_signalTo
  rcases li_at G hA.1 hA.2 x with ⟨i, hi, rfl, h2, e⟩ | ⟨hno, e⟩
  · rw [e]
    refine Tt.sb (Tt.ocS (Tt.pos (c := i < 24) (by omega) ?_))
    refine Tt.ite (fun _ => ?_) (fun _ => ?_)
    · exact (wd_end G h hi (by decide)).bind (fun V' q => Tt.ret (q.1.up (Nat.le_refl _) (by omega)))
    · unfold f_X2_isSupervisor
      by_cases h3 : V 7 i 3 = -1
      · rw [if_pos h3]
        refine Tt.q0 (Tt.ite (fun _ => ?_) (fun _ => ?_))
        · refine Tt.ite (fun _ => Tt.ret ((wE.refl h).up (Nat.le_refl _) (by omega))) (fun _ => ?_)
          exact (wd_end G h hi hr).bind (fun V' q => Tt.ret (q.1.up (Nat.le_refl _) (by omega)))
        · exact (wd_putMail G h (nI i) 3 _).bind (fun r q => Tt.ret (wE.of (b := b) (m := m) q.1 q.2.1))
      · rw [if_neg h3]
        exact Tt.q1 (Tt.ret ((wE.refl h).up (Nat.le_refl _) (by omega)))
  · rw [e]
    exact Tt.sb (Tt.ocN (Tt.ret ((wE.refl h).up (Nat.le_refl _) (by omega))))
end
