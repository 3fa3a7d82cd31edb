/-! the new den: its things lie one behind another -/
def adF (a n w k i : Nat) : Nat := if k < 7 then n + 13 + 223 * w + k else if k < 16 then n + 13 + 223 * w + 7 + 9 * i + (k - 7) else if k = 16 then a else n + (k - 17)
def V0 : MT := fun k _ j => if k = 2 ∨ k = 9 then -1 else if k = 7 then (if j = 5 then 1 else if j = 1 ∨ j = 2 ∨ j = 3 ∨ j = 4 ∨ j = 6 ∨ j = 9 ∨ j = 10 then -1 else 0) else 0
def G0 : MT := fun _ _ _ => 0
theorem arrV_ext {cA : ClassId} {N : Nat} {f g : Nat → Value} (h : ∀ j, j < N → f j = g j) : arrV cA N f = arrV cA N g := by
  unfold arrV
  exact congrArg (fun x => ({ cls := cA, slots := x, vm := .none } : Cell)) (congrArg Array.ofFn (funext fun j => h j.val j.isLt))
theorem va_at_eq {D : va_G} {cl : List vw_C} {q q' : Nat} {e e' : va_E} {H : Heap} (h : va_at D cl (q', e') H) (hq : q = q') (he : e = e') : va_at D cl (q, e) H := by subst hq; subst he; exact h
theorem aF_0 (a n w i : Nat) : adF a n w 0 i = n + 13 + 223 * w := by simp [adF]
theorem aF_1 (a n w i : Nat) : adF a n w 1 i = n + 13 + 223 * w + 1 := by simp [adF]
theorem aF_2 (a n w i : Nat) : adF a n w 2 i = n + 13 + 223 * w + 2 := by simp [adF]
theorem aF_3 (a n w i : Nat) : adF a n w 3 i = n + 13 + 223 * w + 3 := by simp [adF]
theorem aF_4 (a n w i : Nat) : adF a n w 4 i = n + 13 + 223 * w + 4 := by simp [adF]
theorem aF_5 (a n w i : Nat) : adF a n w 5 i = n + 13 + 223 * w + 5 := by simp [adF]
theorem aF_6 (a n w i : Nat) : adF a n w 6 i = n + 13 + 223 * w + 6 := by simp [adF]
theorem aF_7 (a n w i : Nat) : adF a n w 7 i = n + 13 + 223 * w + 7 + 9 * i := by simp [adF]
theorem aF_8 (a n w i : Nat) : adF a n w 8 i = n + 13 + 223 * w + 7 + 9 * i + 1 := by simp [adF]
theorem aF_9 (a n w i : Nat) : adF a n w 9 i = n + 13 + 223 * w + 7 + 9 * i + 2 := by simp [adF]
theorem aF_10 (a n w i : Nat) : adF a n w 10 i = n + 13 + 223 * w + 7 + 9 * i + 3 := by simp [adF]
theorem aF_11 (a n w i : Nat) : adF a n w 11 i = n + 13 + 223 * w + 7 + 9 * i + 4 := by simp [adF]
theorem aF_12 (a n w i : Nat) : adF a n w 12 i = n + 13 + 223 * w + 7 + 9 * i + 5 := by simp [adF]
theorem aF_13 (a n w i : Nat) : adF a n w 13 i = n + 13 + 223 * w + 7 + 9 * i + 6 := by simp [adF]
theorem aF_14 (a n w i : Nat) : adF a n w 14 i = n + 13 + 223 * w + 7 + 9 * i + 7 := by simp [adF]
theorem aF_15 (a n w i : Nat) : adF a n w 15 i = n + 13 + 223 * w + 7 + 9 * i + 8 := by simp [adF]
theorem aF_16 (a n w i : Nat) : adF a n w 16 i = a := by simp [adF]
theorem aF_17 (a n w i : Nat) : adF a n w 17 i = n := by simp [adF]
theorem aF_18 (a n w i : Nat) : adF a n w 18 i = n + 1 := by simp [adF]
theorem aF_19 (a n w i : Nat) : adF a n w 19 i = n + 2 := by simp [adF]
theorem aF_20 (a n w i : Nat) : adF a n w 20 i = n + 3 := by simp [adF]
theorem aF_21 (a n w i : Nat) : adF a n w 21 i = n + 4 := by simp [adF]
theorem aF_22 (a n w i : Nat) : adF a n w 22 i = n + 5 := by simp [adF]
theorem aF_23 (a n w i : Nat) : adF a n w 23 i = n + 6 := by simp [adF]
theorem aF_24 (a n w i : Nat) : adF a n w 24 i = n + 7 := by simp [adF]
theorem aF_25 (a n w i : Nat) : adF a n w 25 i = n + 8 := by simp [adF]
theorem aF_26 (a n w i : Nat) : adF a n w 26 i = n + 9 := by simp [adF]
theorem aF_27 (a n w i : Nat) : adF a n w 27 i = n + 10 := by simp [adF]
theorem aF_28 (a n w i : Nat) : adF a n w 28 i = n + 11 := by simp [adF]
theorem aF_29 (a n w i : Nat) : adF a n w 29 i = n + 12 := by simp [adF]
set_option maxHeartbeats 4000000 in
theorem mkPic {D : va_G} {cI cZ cP : ClassId} {a n : Nat} {H : Heap} (hd : va_at D clM (a, .inr (6, [.ref n, .ref (n + 5), .ref (n + 13), .ref (n + 236)])) H) (g0 : va_at D clM (n, .inr (1, [.int 0, .ref (n + 1), .ref (n + 2), .ref (n + 3), .ref (n + 4)])) H) (g1 : va_at D clM ((n + 1), .inl (cI, 16, .inl (fun _ => 0))) H) (g2 : va_at D clM ((n + 2), .inl (cI, 192, .inl (fun _ => 0))) H) (g3 : va_at D clM ((n + 3), .inl (cI, 192, .inl (fun _ => 0))) H) (g4 : va_at D clM ((n + 4), .inl (cI, 192, .inl (fun _ => 0))) H) (g5 : va_at D clM ((n + 5), .inr (3, [.int 0, .ref (n + 6), .ref (n + 7), .ref (n + 8), .ref (n + 9), .ref (n + 10), .ref (n + 11), .ref (n + 12)])) H) (g6 : va_at D clM ((n + 6), .inl (cI, 5, .inl (fun _ => 0))) H) (g7 : va_at D clM ((n + 7), .inl (cI, 5, .inl (fun _ => 0))) H) (g8 : va_at D clM ((n + 8), .inl (cI, 5, .inl (fun _ => 0))) H) (g9 : va_at D clM ((n + 9), .inl (cI, 5, .inl (fun _ => 0))) H) (g10 : va_at D clM ((n + 10), .inl (cZ, 20, .inl (fun _ => 0))) H) (g11 : va_at D clM ((n + 11), .inl (cI, 20, .inl (fun _ => 0))) H) (g12 : va_at D clM ((n + 12), .inl (cI, 20, .inl (fun _ => 0))) H) (hW0 : wdB D cI cP (n + 13) n (n + 5) (n + 14) 24 H) (hW1 : wdB D cI cP (n + 236) n (n + 5) (n + 237) 24 H) : Pic D (adF a n) cI cZ cP 0 G0 V0 V0 H := by
  intro q x hx
  obtain ⟨⟨w, k, i⟩, hr, rfl⟩ := List.mem_map.mp (List.mem_of_getElem? hx)
  have hv := rl_of hr
  show va_at D clM (adF a n w k i, ob (adF a n) cI cZ cP w k i (Mm 0 G0 V0 V0 (w, k, i))) H
  rcases hv with ⟨hk, hw, hi⟩ | ⟨hk, hk2, rfl, rfl⟩
  · have hM : Mm 0 G0 V0 V0 (w, k, i) = V0 k i := by
      unfold Mm
      rw [if_neg (by show ¬ 16 ≤ k; omega)]
      split <;> rfl
    rw [hM]
    have hB : wdB D cI cP (n + 13 + 223 * w) n (n + 5) (n + 14 + 223 * w) 24 H := by
      rcases (show w = 0 ∨ w = 1 by omega) with rfl | rfl
      · exact hW0
      · exact hW1
    obtain ⟨h0, b0, b1, b2, b3, b4, hp, hpr⟩ := hB
    rcases (show k = 0 ∨ k = 1 ∨ k = 2 ∨ k = 3 ∨ k = 4 ∨ k = 5 ∨ k = 6 ∨ k = 7 ∨ k = 8 ∨ k = 9 ∨ k = 10 ∨ k = 11 ∨ k = 12 ∨ k = 13 ∨ k = 14 ∨ k = 15 by omega) with rfl | rfl | rfl | rfl | rfl | rfl | rfl | rfl | rfl | rfl | rfl | rfl | rfl | rfl | rfl | rfl
    · have hi : i = 0 := by have : i < 1 := hi; omega
      subst hi
      refine va_at_eq h0 (aF_0 ..) ?_
      show Sum.inr (5, [Value.ref (adF a n 2 17 0), Value.ref (adF a n 2 22 0), Value.ref (adF a n w 1 0), Value.ref (adF a n w 2 0), Value.ref (adF a n w 3 0), Value.int (V0 0 0 5), Value.int (V0 0 0 6), Value.int (V0 0 0 7), Value.int (V0 0 0 8), Value.int (V0 0 0 9), Value.int (V0 0 0 10), Value.ref (adF a n w 4 0), Value.int (V0 0 0 12), Value.int (V0 0 0 13), Value.ref (adF a n w 5 0), Value.ref (adF a n w 6 0), Value.int (V0 0 0 16)]) = _
      rw [aF_1, aF_2, aF_3, aF_4, aF_5, aF_6, aF_17, aF_22]
      rw [show n + 13 + 223 * w + 1 = n + 14 + 223 * w by omega, show n + 13 + 223 * w + 2 = n + 14 + 223 * w + 1 by omega, show n + 13 + 223 * w + 3 = n + 14 + 223 * w + 2 by omega, show n + 13 + 223 * w + 4 = n + 14 + 223 * w + 3 by omega, show n + 13 + 223 * w + 5 = n + 14 + 223 * w + 4 by omega, show n + 13 + 223 * w + 6 = n + 14 + 223 * w + 5 by omega]
      all_goals rfl
    · have hi : i = 0 := by have : i < 1 := hi; omega
      subst hi
      exact va_at_eq b0 (by rw [aF_1]; omega) rfl
    · have hi : i = 0 := by have : i < 1 := hi; omega
      subst hi
      exact va_at_eq b1 (by rw [aF_2]; omega) rfl
    · have hi : i = 0 := by have : i < 1 := hi; omega
      subst hi
      have hp2 : H[n + 14 + 223 * w + 2]? = some (vp_cell cP (24, .inr (.inr (.inr (.inr (pF (n + 14 + 223 * w) 24)))))) := hp
      show H[adF a n w 3 0]? = some (vp_cell cP (24, .inr (.inr (.inr (.inr (fun j => some (adF a n w 7 j)))))))
      rw [aF_3, show n + 13 + 223 * w + 3 = n + 14 + 223 * w + 2 by omega, hp2, vp_cell_q, vp_cell_q]
      refine congrArg some (arrV_ext (fun j hj => ?_))
      unfold pF
      rw [if_pos hj, aF_7, show n + 14 + 223 * w + 6 + 9 * j = n + 13 + 223 * w + 7 + 9 * j by omega]
    · have hi : i = 0 := by have : i < 1 := hi; omega
      subst hi
      exact va_at_eq b2 (by rw [aF_4]; omega) rfl
    · have hi : i = 0 := by have : i < 1 := hi; omega
      subst hi
      exact va_at_eq b3 (by rw [aF_5]; omega) rfl
    · have hi : i = 0 := by have : i < 1 := hi; omega
      subst hi
      exact va_at_eq b4 (by rw [aF_6]; omega) rfl
    · have hi : i < 24 := hi
      obtain ⟨q0, q1, q2, q3, q4, q5, q6, q7, q8⟩ := hpr i hi
      refine va_at_eq q0 (by rw [aF_7]; omega) ?_
      show Sum.inr (2, [Value.int (nI i), Value.int (V0 7 i 1), Value.int (V0 7 i 2), Value.int (V0 7 i 3), Value.int (V0 7 i 4), Value.int (V0 7 i 5), Value.int (V0 7 i 6), Value.int (V0 7 i 7), Value.int (V0 7 i 8), Value.int (V0 7 i 9), Value.int (V0 7 i 10), Value.int (V0 7 i 11), Value.int (V0 7 i 12), Value.int (V0 7 i 13), Value.int (V0 7 i 14), Value.ref (adF a n w 8 i), Value.ref (adF a n w 9 i), Value.ref (adF a n w 10 i), Value.ref (adF a n w 13 i)]) = _
      rw [aF_8, aF_9, aF_10, aF_13]
      rw [show n + 13 + 223 * w + 7 + 9 * i + 1 = n + 14 + 223 * w + 6 + 9 * i + 1 by omega, show n + 13 + 223 * w + 7 + 9 * i + 2 = n + 14 + 223 * w + 6 + 9 * i + 1 + 1 by omega, show n + 13 + 223 * w + 7 + 9 * i + 3 = n + 14 + 223 * w + 6 + 9 * i + 1 + 2 by omega, show n + 13 + 223 * w + 7 + 9 * i + 6 = n + 14 + 223 * w + 6 + 9 * i + 1 + 5 by omega]
      all_goals rfl
    · have hi : i < 24 := hi
      obtain ⟨q0, q1, q2, q3, q4, q5, q6, q7, q8⟩ := hpr i hi
      exact va_at_eq q1 (by rw [aF_8]; omega) rfl
    · have hi : i < 24 := hi
      obtain ⟨q0, q1, q2, q3, q4, q5, q6, q7, q8⟩ := hpr i hi
      exact va_at_eq q2 (by rw [aF_9]; omega) rfl
    · have hi : i < 24 := hi
      obtain ⟨q0, q1, q2, q3, q4, q5, q6, q7, q8⟩ := hpr i hi
      refine va_at_eq q3 (by rw [aF_10]; omega) ?_
      show Sum.inr (0, [Value.ref (adF a n w 11 i), Value.ref (adF a n w 12 i), Value.int (V0 10 i 2)]) = _
      rw [aF_11, aF_12]
      rw [show n + 13 + 223 * w + 7 + 9 * i + 4 = n + 14 + 223 * w + 6 + 9 * i + 1 + 3 by omega, show n + 13 + 223 * w + 7 + 9 * i + 5 = n + 14 + 223 * w + 6 + 9 * i + 1 + 4 by omega]
      all_goals rfl
    · have hi : i < 24 := hi
      obtain ⟨q0, q1, q2, q3, q4, q5, q6, q7, q8⟩ := hpr i hi
      exact va_at_eq q4 (by rw [aF_11]; omega) rfl
    · have hi : i < 24 := hi
      obtain ⟨q0, q1, q2, q3, q4, q5, q6, q7, q8⟩ := hpr i hi
      exact va_at_eq q5 (by rw [aF_12]; omega) rfl
    · have hi : i < 24 := hi
      obtain ⟨q0, q1, q2, q3, q4, q5, q6, q7, q8⟩ := hpr i hi
      refine va_at_eq q6 (by rw [aF_13]; omega) ?_
      show Sum.inr (4, [Value.ref (adF a n w 14 i), Value.ref (adF a n w 15 i), Value.int (V0 13 i 2)]) = _
      rw [aF_14, aF_15]
      rw [show n + 13 + 223 * w + 7 + 9 * i + 7 = n + 14 + 223 * w + 6 + 9 * i + 1 + 6 by omega, show n + 13 + 223 * w + 7 + 9 * i + 8 = n + 14 + 223 * w + 6 + 9 * i + 1 + 7 by omega]
      all_goals rfl
    · have hi : i < 24 := hi
      obtain ⟨q0, q1, q2, q3, q4, q5, q6, q7, q8⟩ := hpr i hi
      exact va_at_eq q7 (by rw [aF_14]; omega) rfl
    · have hi : i < 24 := hi
      obtain ⟨q0, q1, q2, q3, q4, q5, q6, q7, q8⟩ := hpr i hi
      exact va_at_eq q8 (by rw [aF_15]; omega) rfl
  · have hM : Mm 0 G0 V0 V0 (2, k, 0) = G0 k 0 := Mm_G hk
    rw [hM]
    rcases (show k = 16 ∨ k = 17 ∨ k = 18 ∨ k = 19 ∨ k = 20 ∨ k = 21 ∨ k = 22 ∨ k = 23 ∨ k = 24 ∨ k = 25 ∨ k = 26 ∨ k = 27 ∨ k = 28 ∨ k = 29 by omega) with rfl | rfl | rfl | rfl | rfl | rfl | rfl | rfl | rfl | rfl | rfl | rfl | rfl | rfl
    · refine va_at_eq hd (aF_16 ..) ?_
      show Sum.inr (6, [Value.ref (adF a n 2 17 0), Value.ref (adF a n 2 22 0), Value.ref (adF a n 0 0 0), Value.ref (adF a n 1 0 0)]) = _
      rw [aF_17, aF_22, aF_0, aF_0]
      all_goals rfl
    · refine va_at_eq g0 (aF_17 ..) ?_
      show Sum.inr (1, [Value.int (G0 17 0 0), Value.ref (adF a n 2 18 0), Value.ref (adF a n 2 19 0), Value.ref (adF a n 2 20 0), Value.ref (adF a n 2 21 0)]) = _
      rw [aF_18, aF_19, aF_20, aF_21]
      all_goals rfl
    · exact va_at_eq g1 (aF_18 ..) rfl
    · exact va_at_eq g2 (aF_19 ..) rfl
    · exact va_at_eq g3 (aF_20 ..) rfl
    · exact va_at_eq g4 (aF_21 ..) rfl
    · refine va_at_eq g5 (aF_22 ..) ?_
      show Sum.inr (3, [Value.int (G0 22 0 0), Value.ref (adF a n 2 23 0), Value.ref (adF a n 2 24 0), Value.ref (adF a n 2 25 0), Value.ref (adF a n 2 26 0), Value.ref (adF a n 2 27 0), Value.ref (adF a n 2 28 0), Value.ref (adF a n 2 29 0)]) = _
      rw [aF_23, aF_24, aF_25, aF_26, aF_27, aF_28, aF_29]
      all_goals rfl
    · exact va_at_eq g6 (aF_23 ..) rfl
    · exact va_at_eq g7 (aF_24 ..) rfl
    · exact va_at_eq g8 (aF_25 ..) rfl
    · exact va_at_eq g9 (aF_26 ..) rfl
    · exact va_at_eq g10 (aF_27 ..) rfl
    · exact va_at_eq g11 (aF_28 ..) rfl
    · exact va_at_eq g12 (aF_29 ..) rfl
theorem adF_in {a n w k i : Nat} (h : vld w k i) : adF a n w k i = a ∨ (n ≤ adF a n w k i ∧ adF a n w k i < n + 459) := by
  rcases h with ⟨h1, h2, h3⟩ | ⟨h1, h2, rfl, rfl⟩
  · refine Or.inr ?_
    unfold adF
    by_cases h : k < 7
    · rw [if_pos h]; omega
    · have h3 : i < 24 := by unfold cnt at h3; rw [if_pos (by omega)] at h3; exact h3
      rw [if_neg h, if_pos h1]; omega
  · unfold adF
    rw [if_neg (by omega), if_neg (by omega)]
    by_cases h : k = 16
    · rw [if_pos h]; exact Or.inl rfl
    · rw [if_neg h]; exact Or.inr (by omega)
theorem adF_inj {a n w k i w' k' i' : Nat} (han : a < n) (h : vld w k i) (h' : vld w' k' i') (e : adF a n w k i = adF a n w' k' i') : (w, k, i) = (w', k', i') := by
  have c1 : k < 16 → i < cnt k → (k < 7 ∧ i = 0) ∨ (7 ≤ k ∧ i < 24) := fun _ q => by
    unfold cnt at q
    by_cases h7 : 7 ≤ k
    · rw [if_pos h7] at q; exact Or.inr ⟨h7, q⟩
    · rw [if_neg h7] at q; exact Or.inl ⟨by omega, by omega⟩
  have c2 : k' < 16 → i' < cnt k' → (k' < 7 ∧ i' = 0) ∨ (7 ≤ k' ∧ i' < 24) := fun _ q => by
    unfold cnt at q
    by_cases h7 : 7 ≤ k'
    · rw [if_pos h7] at q; exact Or.inr ⟨h7, q⟩
    · rw [if_neg h7] at q; exact Or.inl ⟨by omega, by omega⟩
  unfold adF at e
  rcases h with ⟨h1, h2, h3⟩ | ⟨h1, h2, rfl, rfl⟩ <;> rcases h' with ⟨g1, g2, g3⟩ | ⟨g1, g2, rfl, rfl⟩
  · have p := c1 h1 h3
    have q := c2 g1 g3
    have hw : w = 0 ∨ w = 1 := by omega
    have hw' : w' = 0 ∨ w' = 1 := by omega
    rcases p with ⟨p1, rfl⟩ | ⟨p1, p2⟩ <;> rcases q with ⟨q1, rfl⟩ | ⟨q1, q2⟩
    · rw [if_pos p1, if_pos q1] at e
      rcases hw with rfl | rfl <;> rcases hw' with rfl | rfl <;> first | (exfalso; omega) | (rw [show k = k' by omega])
    · rw [if_pos p1, if_neg (by omega), if_pos g1] at e
      rcases hw with rfl | rfl <;> rcases hw' with rfl | rfl <;> (exfalso; omega)
    · rw [if_neg (by omega), if_pos h1, if_pos q1] at e
      rcases hw with rfl | rfl <;> rcases hw' with rfl | rfl <;> (exfalso; omega)
    · rw [if_neg (by omega), if_pos h1, if_neg (by omega), if_pos g1] at e
      rcases hw with rfl | rfl <;> rcases hw' with rfl | rfl <;> first | (exfalso; omega) | (rw [show i = i' by omega, show k = k' by omega])
  · exfalso
    have p := c1 h1 h3
    rw [if_neg (show ¬ k' < 7 by omega), if_neg (show ¬ k' < 16 by omega)] at e
    by_cases hk : k' = 16
    · rw [if_pos hk] at e
      rcases p with ⟨p1, -⟩ | ⟨p1, -⟩
      · rw [if_pos p1] at e; omega
      · rw [if_neg (by omega), if_pos h1] at e; omega
    · rw [if_neg hk] at e
      rcases p with ⟨p1, -⟩ | ⟨p1, -⟩
      · rw [if_pos p1] at e; omega
      · rw [if_neg (by omega), if_pos h1] at e; omega
  · exfalso
    have p := c2 g1 g3
    rw [if_neg (show ¬ k < 7 by omega), if_neg (show ¬ k < 16 by omega)] at e
    by_cases hk : k = 16
    · rw [if_pos hk] at e
      rcases p with ⟨p1, -⟩ | ⟨p1, -⟩
      · rw [if_pos p1] at e; omega
      · rw [if_neg (by omega), if_pos g1] at e; omega
    · rw [if_neg hk] at e
      rcases p with ⟨p1, -⟩ | ⟨p1, -⟩
      · rw [if_pos p1] at e; omega
      · rw [if_neg (by omega), if_pos g1] at e; omega
  · rw [if_neg (show ¬ k < 7 by omega), if_neg (show ¬ k < 16 by omega), if_neg (show ¬ k' < 7 by omega), if_neg (show ¬ k' < 16 by omega)] at e
    by_cases hk : k = 16 <;> by_cases hk' : k' = 16
    · rw [hk, hk']
    · rw [if_pos hk, if_neg hk'] at e; exfalso; omega
    · rw [if_neg hk, if_pos hk'] at e; exfalso; omega
    · rw [if_neg hk, if_neg hk'] at e; rw [show k = k' by omega]
/-- where a den's things lie -/
def dnA (a n : Nat) : Nat → Prop := fun q => q = a ∨ (n ≤ q ∧ q < n + 459)
theorem rl_nd : va_nd (rl.map (fun r => r.2.2 + 30 * (r.2.1 + 40 * r.1))) = true := by decide +kernel
theorem rl_one {i j : Nat} {r : Nat × Nat × Nat} (h1 : rl[i]? = some r) (h2 : rl[j]? = some r) : i = j := va_nd_inj _ rl_nd i j (r.2.2 + 30 * (r.2.1 + 40 * r.1)) (by rw [List.getElem?_map, h1]; rfl) (by rw [List.getElem?_map, h2]; rfl)
theorem mkLay {a n : Nat} (han : a < n) : Lay (adF a n) (dnA a n) := by
  intro e
  have key : ∀ (k : Nat) (q : Nat × va_E), (wsA (adF a n) e)[k]? = some q → ∃ r, rl[k]? = some r ∧ q = (adF a n r.1 r.2.1 r.2.2, e r) := by
    intro k q hk
    rw [wsA, List.getElem?_map] at hk
    cases hr : rl[k]? with
    | none => rw [hr] at hk; cases hk
    | some r => rw [hr] at hk; exact ⟨r, rfl, (Option.some.inj hk).symm⟩
  refine ⟨fun i j p q hi hj hpq => ?_, fun k q hk => ?_⟩
  · obtain ⟨r1, e1, rfl⟩ := key i p hi
    obtain ⟨r2, e2, rfl⟩ := key j q hj
    have : r1 = r2 := adF_inj han (rl_of (List.mem_of_getElem? e1)) (rl_of (List.mem_of_getElem? e2)) hpq
    subst this
    exact rl_one e1 e2
  · obtain ⟨r, e1, rfl⟩ := key k q hk
    exact adF_in (rl_of (List.mem_of_getElem? e1))
theorem Met.post {l : Launch} {y : MethodName} {ws : List Cond} {rm : Room} {Pc : Array Value → State → Prop} {P P1 : Heap → Prop} {A : Nat → Prop} {mc ms : Nat} {free : Addr → Prop} (h : Met l y ws rm Pc (QcN P A) mc ms free) (hP : ∀ H, P H → P1 H) : Met l y ws rm Pc (QcN P1 A) mc ms free := by
  intro p e ha hc hk s m args below hf happ hpc hx
  obtain ⟨k, o, h1, h2, h3, ⟨⟨u, e1, e2, e3⟩, e4⟩, h5⟩ := h p e ha hc hk s m args below hf happ hpc hx
  exact ⟨k, o, h1, h2, h3, ⟨⟨u, e1, e2, hP _ e3⟩, e4⟩, h5⟩
/-- a new den -/
theorem c_den {l : Launch} {D : va_G} {cI cZ cP : ClassId} {a n : Nat} : Met l yX6_init (.code yX6_init cX6_init 1 none :: WM) rm_X6_init (PcN D cI cZ cP [.ref a] (fun H => H.size = n ∧ a < n ∧ va_at D clM (a, .inr (6, [.null, .null, .null, .null])) H)) (QcN (fun H => H.size = n + 459 ∧ Pic D (adF a n) cI cZ cP 0 G0 V0 V0 H) (nA a n)) (rm_X6_init).cells (rm_X6_init).slots (nA a n) :=
  (c_X6_init).post (fun H h => by
    obtain ⟨hz, hd, g0, g1, g2, g3, g4, g5, g6, g7, g8, g9, g10, g11, g12, hW0, hW1⟩ := h
    exact ⟨hz, mkPic hd g0 g1 g2 g3 g4 g5 g6 g7 g8 g9 g10 g11 g12 hW0 hW1⟩)
