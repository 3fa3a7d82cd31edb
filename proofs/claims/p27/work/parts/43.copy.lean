/-! a world that is copied into another one is that one -/
section
theorem ct_app (V : MT) (k i : Nat) (g : Nat → Int32) (n k' i' j' : Nat) : ct V k i g n k' i' j' = if k' = k ∧ i' = i ∧ j' < n then g j' else V k' i' j' := by
  unfold ct st
  by_cases h1 : k' = k ∧ i' = i
  · rw [if_pos h1]
    obtain ⟨rfl, rfl⟩ := h1
    by_cases h2 : j' < n
    · rw [if_pos ⟨rfl, rfl, h2⟩, pk_cpy_in (Nat.zero_le _) (by omega)]
      rw [Nat.zero_add, Nat.sub_zero]
    · rw [if_neg (fun e => h2 e.2.2), pk_cpy_out (Or.inr (by omega))]
  · rw [if_neg h1, if_neg (fun e => h1 ⟨e.1, e.2.1⟩)]
/-- what PROCESS k of S is, written into D -/
def cpP (D S : MT) (k : Nat) : MT := pt (ct (ct (pt (ct (ct (ct (ct (pt (pt (pt (pt (pt (pt (pt (pt (pt (pt (pt (pt (pt (pt D 7 k 1 (S 7 k 1)) 7 k 2 (S 7 k 2)) 7 k 3 (S 7 k 3)) 7 k 4 (S 7 k 4)) 7 k 5 (S 7 k 5)) 7 k 6 (S 7 k 6)) 7 k 7 (S 7 k 7)) 7 k 8 (S 7 k 8)) 7 k 9 (S 7 k 9)) 7 k 10 (S 7 k 10)) 7 k 11 (S 7 k 11)) 7 k 12 (S 7 k 12)) 7 k 13 (S 7 k 13)) 7 k 14 (S 7 k 14)) 8 k (S 8 k) 4) 9 k (S 9 k) 4) 11 k (S 11 k) 8) 12 k (S 12 k) 8) 10 k 2 (S 10 k 2)) 14 k (S 14 k) 24) 15 k (S 15 k) 24) 13 k 2 (S 13 k 2)
theorem cp_eq {D S : MT} {k : Nat} (h : S 7 k 12 = 0 ∨ S 7 k 12 = 1) : f_X2_copyFrom D S k k = some (cpP D S k) := by
  unfold f_X2_copyFrom
  rw [if_pos h]
  rfl
set_option maxHeartbeats 4000000 in
theorem cp_ne {D S : MT} {k κ i j : Nat} (h : κ < 7 ∨ i ≠ k) : cpP D S k κ i j = D κ i j := by
  unfold cpP
  simp only [pt_app, ct_app]
  iterate 22 rw [if_neg (by omega)]
theorem cp_nu {D S : MT} {k κ j : Nat} (hk : k < 24) (h : ¬ usd 24 κ k j) : cpP D S k κ k j = D κ k j := by
  have n7 : ∀ a, 1 ≤ a ∧ a ≤ 14 → ¬ (κ = 7 ∧ True ∧ j = a) := fun a ha e => h (by obtain ⟨rfl, -, rfl⟩ := e; exact us_7 hk ha)
  have n8 : ¬ (κ = 8 ∧ True ∧ j < 4) := fun e => h (by obtain ⟨rfl, -, e⟩ := e; exact us_8 hk e)
  have n9 : ¬ (κ = 9 ∧ True ∧ j < 4) := fun e => h (by obtain ⟨rfl, -, e⟩ := e; exact us_9 hk e)
  have n10 : ¬ (κ = 10 ∧ True ∧ j = 2) := fun e => h (by obtain ⟨rfl, -, rfl⟩ := e; exact us_10 hk)
  have n11 : ¬ (κ = 11 ∧ True ∧ j < 8) := fun e => h (by obtain ⟨rfl, -, e⟩ := e; exact us_11 hk e)
  have n12 : ¬ (κ = 12 ∧ True ∧ j < 8) := fun e => h (by obtain ⟨rfl, -, e⟩ := e; exact us_12 hk e)
  have n13 : ¬ (κ = 13 ∧ True ∧ j = 2) := fun e => h (by obtain ⟨rfl, -, rfl⟩ := e; exact us_13 hk)
  have n14 : ¬ (κ = 14 ∧ True ∧ j < 24) := fun e => h (by obtain ⟨rfl, -, e⟩ := e; exact us_14 hk e)
  have n15 : ¬ (κ = 15 ∧ True ∧ j < 24) := fun e => h (by obtain ⟨rfl, -, e⟩ := e; exact us_15 hk e)
  unfold cpP
  simp only [pt_app, ct_app]
  rw [if_neg n13, if_neg n15, if_neg n14, if_neg n10, if_neg n12, if_neg n11, if_neg n9, if_neg n8, if_neg (n7 14 (by decide)), if_neg (n7 13 (by decide)), if_neg (n7 12 (by decide)), if_neg (n7 11 (by decide)), if_neg (n7 10 (by decide)), if_neg (n7 9 (by decide)), if_neg (n7 8 (by decide)), if_neg (n7 7 (by decide)), if_neg (n7 6 (by decide)), if_neg (n7 5 (by decide)), if_neg (n7 4 (by decide)), if_neg (n7 3 (by decide)), if_neg (n7 2 (by decide)), if_neg (n7 1 (by decide))]
set_option maxHeartbeats 4000000 in
theorem cp_us {D S : MT} {k κ j : Nat} (h7 : 7 ≤ κ) (h : usd 24 κ k j) : cpP D S k κ k j = S κ k j := by
  unfold cpP
  simp only [pt_app, ct_app]
  rcases h with ⟨a, _⟩ | ⟨a | a, _⟩ | ⟨a | a | a, _⟩ | ⟨a, _, c⟩ | ⟨a | a, _, c⟩ | ⟨a | a, _, c⟩ | ⟨a | a, _, c⟩ | ⟨a | a, _, c⟩
  iterate 6 omega
  · subst a
    rcases (show j = 1 ∨ j = 2 ∨ j = 3 ∨ j = 4 ∨ j = 5 ∨ j = 6 ∨ j = 7 ∨ j = 8 ∨ j = 9 ∨ j = 10 ∨ j = 11 ∨ j = 12 ∨ j = 13 ∨ j = 14 by omega) with rfl | rfl | rfl | rfl | rfl | rfl | rfl | rfl | rfl | rfl | rfl | rfl | rfl | rfl <;> simp
  all_goals (subst a; simp [c])
/-- D, when k PROCESSES of S are copied; D0: ahead of it -/
def cpI (D0 S : MT) (k : Nat) (D : MT) : Prop := (∀ κ i j, ¬ usd 24 κ i j → D κ i j = V0 κ i j) ∧ (∀ i j, D 1 i j = S 1 i j) ∧ (∀ i j, D 2 i j = S 2 i j) ∧ (∀ κ i j, 7 ≤ κ → i < k → D κ i j = S κ i j) ∧ (∀ κ i j, 7 ≤ κ → k ≤ i → D κ i j = D0 κ i j) ∧ D 0 0 11 = 0 ∧ D 0 0 14 = 0 ∧ D 0 0 15 = 0
theorem cp_step {D0 S D : MT} {k : Nat} (hk : k < 24) (hS : ∀ κ i j, ¬ usd 24 κ i j → S κ i j = V0 κ i j) (h : cpI D0 S k D) : cpI D0 S (k + 1) (cpP D S k) := by
  obtain ⟨h1, h2, h3, h4, h5, h6, h7, h8⟩ := h
  refine ⟨fun κ i j hn => ?_, fun i j => ?_, fun i j => ?_, fun κ i j q1 q2 => ?_, fun κ i j q1 q2 => ?_, ?_, ?_, ?_⟩
  · by_cases e : i = k
    · subst e; rw [cp_nu hk hn]; exact h1 _ _ _ hn
    · rw [cp_ne (Or.inr e)]; exact h1 _ _ _ hn
  · rw [cp_ne (Or.inl (by decide))]; exact h2 i j
  · rw [cp_ne (Or.inl (by decide))]; exact h3 i j
  · by_cases e : i = k
    · subst e
      by_cases hu : usd 24 κ i j
      · exact cp_us q1 hu
      · rw [cp_nu hk hu, h1 _ _ _ hu, hS _ _ _ hu]
    · rw [cp_ne (Or.inr e)]; exact h4 κ i j q1 (by omega)
  · rw [cp_ne (Or.inr (by omega))]; exact h5 κ i j q1 (by omega)
  · rw [cp_ne (Or.inl (by decide))]; exact h6
  · rw [cp_ne (Or.inl (by decide))]; exact h7
  · rw [cp_ne (Or.inl (by decide))]; exact h8
def cpL (D S : MT) : MT := pt (ct (ct (pt (pt (ct (pt (pt (pt (pt (pt (pt D 0 0 5 (S 0 0 5)) 0 0 6 (S 0 0 6)) 0 0 7 (S 0 0 7)) 0 0 8 (S 0 0 8)) 0 0 9 (S 0 0 9)) 0 0 10 (S 0 0 10)) 4 0 (S 4 0) 24) 0 0 12 (S 0 0 12)) 0 0 13 (S 0 0 13)) 5 0 (S 5 0) 24) 6 0 (S 6 0) 24) 0 0 16 (S 0 0 16)
theorem us_no {k i j : Nat} (h : ¬ (k = 0 ∧ i = 0 ∧ 5 ≤ j ∧ j ≤ 16)) (h2 : ¬ ((k = 4 ∨ k = 5 ∨ k = 6) ∧ i = 0 ∧ j < 24)) (h7 : k < 7) (h1 : k ≠ 1) (h22 : k ≠ 2) : ¬ usd 24 k i j := by
  rintro (a | ⟨a | a, _⟩ | a | ⟨a, _⟩ | ⟨a | a, _⟩ | ⟨a | a, _⟩ | ⟨a | a, _⟩ | ⟨a | a, _⟩)
  · exact h a
  · exact h1 a
  · exact h22 a
  · exact h2 a
  all_goals omega
set_option maxHeartbeats 4000000 in
theorem cp_last {D0 S D : MT} {k : Nat} (hS : ∀ κ i j, ¬ usd 24 κ i j → S κ i j = V0 κ i j) (s11 : S 0 0 11 = 0) (s14 : S 0 0 14 = 0) (s15 : S 0 0 15 = 0) (hd : ∀ κ i j, 7 ≤ κ → k ≤ i → D0 κ i j = S κ i j) (h : cpI D0 S k D) : cpL D S = S := by
  obtain ⟨h1, h2, h3, h4, h5, h6, h7, h8⟩ := h
  funext κ i j
  unfold cpL
  simp only [pt_app, ct_app]
  by_cases c0 : κ = 0 ∧ i = 0 ∧ 5 ≤ j ∧ j ≤ 16
  · obtain ⟨rfl, rfl, c1, c2⟩ := c0
    rcases (show j = 5 ∨ j = 6 ∨ j = 7 ∨ j = 8 ∨ j = 9 ∨ j = 10 ∨ j = 11 ∨ j = 12 ∨ j = 13 ∨ j = 14 ∨ j = 15 ∨ j = 16 by omega) with rfl | rfl | rfl | rfl | rfl | rfl | rfl | rfl | rfl | rfl | rfl | rfl <;> simp [h6, h7, h8, s11, s14, s15]
  by_cases c4 : (κ = 4 ∨ κ = 5 ∨ κ = 6) ∧ i = 0 ∧ j < 24
  · obtain ⟨rfl | rfl | rfl, rfl, c⟩ := c4 <;> simp [c]
  iterate 12 rw [if_neg (by omega)]
  by_cases e1 : κ = 1
  · subst e1; exact h2 i j
  by_cases e2 : κ = 2
  · subst e2; exact h3 i j
  by_cases e7 : κ < 7
  · have := us_no c0 c4 e7 e1 e2
    rw [h1 _ _ _ this, hS _ _ _ this]
  · by_cases hi : i < k
    · exact h4 κ i j (by omega) hi
    · rw [h5 κ i j (by omega) (by omega)]; exact hd κ i j (by omega) (by omega)
theorem cp_42 {D0 S : MT} {mx : Nat} (hmx : mx ≤ 24) (hS : ∀ κ i j, ¬ usd 24 κ i j → S κ i j = V0 κ i j) (s11 : S 0 0 11 = 0) (s14 : S 0 0 14 = 0) (s15 : S 0 0 15 = 0) (hd : ∀ κ i j, 7 ≤ κ → mx ≤ i → D0 κ i j = S κ i j) (htr : ∀ i, S 7 i 12 = 0 ∨ S 7 i 12 = 1) (f : Nat) : ∀ (k : Nat) (D : MT), k ≤ mx → 25 ≤ f + k → cpI D0 S k D → f_X5_copyFrom_42 S f (nI mx) (nI k) D = some S := by
  induction f with
  | zero => intro k D hk hf; omega
  | succ f ih =>
    intro k D hk hf h
    rw [f_X5_copyFrom_42]
    by_cases e : mx = k
    · subst e
      rw [if_pos (nI_le (Nat.le_refl _) (by omega))]
      exact congrArg some (cp_last hS s11 s14 s15 hd h)
    · rw [if_neg (nI_ge (show k < mx by omega) (by omega)), if_neg (show ¬ (24 : Int32) ≤ nI k from nI_ge (a := k) (b := 24) (by omega) (by omega)), if_pos (nI_in (by omega) (by decide)), if_pos (nI_in (by omega) (by decide)), wd_cl (by omega), cp_eq (htr k)]
      show f_X5_copyFrom_42 S f (nI mx) (nI k + 1) (cpP D S k) = some S
      rw [nI_1]
      exact ih (k + 1) _ (by omega) (by omega) (cp_step (by omega) hS h)
/-- a world that may be copied into -/
def jT (U : MT) : Prop := ∃ c, c ≤ 24 ∧ U 0 0 5 = nI c ∧ wdF c U
theorem wJ.T {b m C E S : Nat} {V : MT} (h : wJ b m C E S V) : jT V := ⟨C, h.1.at.2, h.1.at.1, h.2.2.2.2.2.2.2⟩
theorem jT.V0 : jT V0 := ⟨0, by omega, by decide, fun _ _ _ _ => rfl, by decide, by decide, by decide⟩
theorem cp_all {b m C E S : Nat} {U V : MT} (h : wJ b m C E S V) (hU : jT U) : f_X5_copyFrom U V = some V := by
  obtain ⟨c, hc, e5, hF⟩ := hU
  have hA := h.1.at
  have hV := h.2.2.2.2.2.2.2
  have u24 : ∀ κ i j, ¬ usd 24 κ i j → U κ i j = V0 κ i j := fun κ i j hn => hF.1 κ i j (fun z => hn (z.up hc))
  have v24 : ∀ κ i j, ¬ usd 24 κ i j → V κ i j = V0 κ i j := fun κ i j hn => hV.1 κ i j (fun z => hn (z.up hA.2))
  have g5 : ct (ct U 1 0 (V 1 0) 4) 2 0 (V 2 0) 4 0 0 5 = nI c := by
    rw [ct_app, if_neg (by omega), ct_app, if_neg (by omega)]; exact e5
  have hgt : ∀ (W : MT) (n : Nat), wdF n W → ∀ κ i j, 7 ≤ κ → n ≤ i → W κ i j = V0 κ i j := fun W n hW κ i j h7 hn => by
    refine hW.1 κ i j (fun hu => ?_)
    rcases hu with ⟨a, _⟩ | ⟨a | a, _⟩ | ⟨a | a | a, _⟩ | ⟨_, a, _⟩ | ⟨_, a, _⟩ | ⟨_, a, _⟩ | ⟨_, a, _⟩ | ⟨_, a, _⟩ <;> omega
  have htr : ∀ i, V 7 i 12 = 0 ∨ V 7 i 12 = 1 := fun i => by
    by_cases hi : i < C
    · exact (h.2.2.1 i hi).2.2.2.2.1
    · rw [h.fresh (by decide) (by omega)]; exact Or.inl rfl
  have hI : cpI U V 0 (ct (ct U 1 0 (V 1 0) 4) 2 0 (V 2 0) 4) := by
    refine ⟨fun κ i j hn => ?_, fun i j => ?_, fun i j => ?_, fun κ i j _ q => by omega, fun κ i j q _ => ?_, ?_, ?_, ?_⟩
    · rw [ct_app, if_neg (by rintro ⟨rfl, rfl, z⟩; exact hn (us_2 z)), ct_app, if_neg (by rintro ⟨rfl, rfl, z⟩; exact hn (us_1 z))]
      exact u24 κ i j hn
    · rw [ct_app, if_neg (by omega), ct_app]
      by_cases z : 1 = 1 ∧ i = 0 ∧ j < 4
      · rw [if_pos z]; obtain ⟨-, rfl, -⟩ := z; rfl
      · have hn : ¬ usd 24 1 i j := by
          rintro (⟨a, _⟩ | ⟨_, a⟩ | ⟨a | a | a, _⟩ | ⟨a, _⟩ | ⟨a | a, _⟩ | ⟨a | a, _⟩ | ⟨a | a, _⟩ | ⟨a | a, _⟩)
          · omega
          · exact z ⟨rfl, a⟩
          all_goals omega
        rw [if_neg z, u24 _ _ _ hn, v24 _ _ _ hn]
    · rw [ct_app]
      by_cases z : 2 = 2 ∧ i = 0 ∧ j < 4
      · rw [if_pos z]; obtain ⟨-, rfl, -⟩ := z; rfl
      · have hn : ¬ usd 24 2 i j := by
          rintro (⟨a, _⟩ | ⟨_, a⟩ | ⟨a | a | a, _⟩ | ⟨a, _⟩ | ⟨a | a, _⟩ | ⟨a | a, _⟩ | ⟨a | a, _⟩ | ⟨a | a, _⟩)
          · omega
          · exact z ⟨rfl, a⟩
          all_goals omega
        rw [if_neg z, ct_app, if_neg (by omega), u24 _ _ _ hn, v24 _ _ _ hn]
    · rw [ct_app, if_neg (by omega), ct_app, if_neg (by omega)]
    · rw [ct_app, if_neg (by omega), ct_app, if_neg (by omega)]; exact hF.2.1
    · rw [ct_app, if_neg (by omega), ct_app, if_neg (by omega)]; exact hF.2.2.1
    · rw [ct_app, if_neg (by omega), ct_app, if_neg (by omega)]; exact hF.2.2.2
  unfold f_X5_copyFrom
  rw [g5, hA.1]
  by_cases z : c < C
  · rw [if_pos (nI_lt z (by omega))]
    exact cp_42 hA.2 v24 hV.2.1 hV.2.2.1 hV.2.2.2 (fun κ i j h7 hi => by rw [hgt U c hF κ i j h7 (by omega), hgt V C hV κ i j h7 hi]) htr 30 0 _ (by omega) (by omega) hI
  · rw [if_neg (nI_nlt (show C ≤ c by omega) (by omega))]
    exact cp_42 hc v24 hV.2.1 hV.2.2.1 hV.2.2.2 (fun κ i j h7 hi => by rw [hgt U c hF κ i j h7 hi, hgt V C hV κ i j h7 (by omega)]) htr 30 0 _ (by omega) (by omega) hI
end
