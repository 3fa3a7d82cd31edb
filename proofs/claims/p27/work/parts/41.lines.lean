/-! what a LINE does; a turn; turns and ticks -/
section
theorem wd_add2 {b m C E S e : Nat} (y : Int32) (f : Nat) : ∀ (k : Nat) (V : MT), k ≤ 24 → 25 ≤ f + k → wJ b m C E S V → e < C → Tt (f_X4_add_2 f e y (nI k) V) (fun V' => wJ (b + 1) m C E S V' ∧ kept V V') := by
  induction f with
  | zero => intro k V hk hf; omega
  | succ f ih =>
    intro k V hk hf h he
    obtain ⟨n, hn, en⟩ := (h.2.2.1 e he).2.2.2.2.2.2.2.1
    rw [f_X4_add_2]
    have hc := wd_cl (show k < 2 ^ 31 by omega)
    have hcn := wd_cl (show n < 2 ^ 31 by omega)
    simp only [pt_kn (show 13 ≠ 14 by decide), pt_kn (show 13 ≠ 15 by decide), en, hc, hcn, nI_1]
    have app : Tt (if (24 : Int32) ≤ nI n then (some V) else (if ¬ (nI n < 0 ∨ 24 ≤ n) then (if ¬ (nI n < 0 ∨ 24 ≤ n) then (some (pt (pt (pt V 14 e n y) 15 e n 1) 13 e 2 (nI (n + 1)))) else none) else none)) (fun V' => wJ (b + 1) m C E S V' ∧ kept V V') := by
      refine Tt.le 24 n (fun _ => Tt.ret ⟨h.up (Nat.le_succ b) (Nat.le_refl _), kept.refl V⟩) (fun hn4 => Tt.inc hn4 (Tt.inc hn4 (Tt.ret ⟨?_, ?_⟩)))
      · exact (((h.up (Nat.le_succ b) (Nat.le_refl _)).sf sf_14 (us_14 he hn4)).tim he hn4 (n := 1) (by omega) rfl).wat he (n := n + 1) (by omega) rfl
      · exact ((kept.sf sf_14).trans kept.tim).trans kept.wat
    refine Tt.le n k (fun _ => app) (fun hkn => ?_)
    refine Tt.le 24 k (fun _ => app) (fun hk4 => ?_)
    obtain ⟨t, ht, et⟩ := (h.2.2.1 e he).2.2.2.2.2.2.2.2 k hk4
    refine Tt.inc hk4 (Tt.ite (fun _ => Tt.inc hk4 (Tt.inc hk4 (Tt.ret ⟨?_, kept.tim⟩))) (fun _ => ih (k + 1) V (by omega) (by omega) h he))
    rw [et, nI_1]
    exact (h.up (Nat.le_succ b) (Nat.le_refl _)).tim he hk4 (n := t + 1) (by omega) rfl
theorem wd_add {b m C E S e : Nat} {V : MT} (h : wJ b m C E S V) (he : e < C) (y : Int32) : Tt (f_X4_add V e y) (fun V' => wJ (b + 1) m C E S V' ∧ kept V V') := wd_add2 y 30 0 V (by omega) (by omega) h he
theorem md_at (G : MT) (x : Int32) : (∃ k, k < 4 ∧ x = nI k ∧ f_X1_hasModule G x = some 1) ∨ f_X1_hasModule G x = some 0 := by
  unfold f_X1_hasModule
  by_cases h1 : x < 0
  · rw [if_pos h1]; exact Or.inr rfl
  rw [if_neg h1]
  by_cases h2 : G 17 0 0 ≤ x
  · rw [if_pos h2]; exact Or.inr rfl
  rw [if_neg h2]
  by_cases h3 : 4 ≤ x
  · rw [if_pos h3]; exact Or.inr rfl
  rw [if_neg h3]
  obtain ⟨k, hk, rfl⟩ := nI_of h1
  exact Or.inl ⟨k, by by_cases z : k < 4; exact z; exact absurd (nI_le (a := 4) (b := k) (by omega) hk) h3, rfl, rfl⟩
theorem wd_currentOf (G V : MT) (x : Int32) : Tt (f_X5_currentOf G V x) (fun _ => True) := by
  unfold f_X5_currentOf
  rcases md_at G x with ⟨k, hk, rfl, e⟩ | e
  · rw [e]
    exact Tt.q1 (Tt.inn k hk (Tt.ret trivial))
  · rw [e]
    exact Tt.q0 (Tt.ret trivial)
theorem wd_localAt (V : MT) (i : Nat) (x : Int32) : Tt (f_X2_localAt V i x) (fun _ => True) := by
  unfold f_X2_localAt
  rcases ho_at V V x with ⟨k, hk, rfl, -, e⟩ | ⟨-, e⟩
  · rw [e]
    exact Tt.q1 (Tt.inn k hk (Tt.ret trivial))
  · rw [e]
    exact Tt.q0 (Tt.ret trivial)
theorem wd_putLocal {b m C E S i : Nat} {V : MT} (h : wJ b m C E S V) (hi : i < C) (x y : Int32) : Tt (f_X2_putLocal V i x y) (fun V' => wJ b m C E S V' ∧ kept V V') := by
  unfold f_X2_putLocal
  rcases ho_at V V x with ⟨k, hk, rfl, -, e⟩ | ⟨-, e⟩
  · rw [e]
    refine Tt.q1 (Tt.inn k hk ?_)
    rw [wd_cl (show k < 2 ^ 31 by omega)]
    exact Tt.ret ⟨h.sf sf_8 (us_8 hi hk), kept.sf sf_8⟩
  · rw [e]
    exact Tt.q0 (Tt.ret ⟨h, kept.refl V⟩)
theorem wd_waitFor {b m C E S i : Nat} {V : MT} (h : wJ b m C E S V) (hi : i < C) (h2 : V 7 i 5 ≠ 2) (h3 : V 7 i 3 = -1) (x y : Int32) : Tt (f_X2_waitFor V i x y) (fun V' => wJ b m C E S V' ∧ kept V V') := by
  unfold f_X2_waitFor
  refine Tt.ret ⟨((h.st hi h2 (Or.inr rfl)).sf (by decide) (us_7 hi (by decide))).until hi (Or.inl ?_), ((kept.st h2 (by decide)).trans (kept.sf (by decide))).trans kept.until⟩
  rw [pt_ne (by decide), pt_ne (by decide)]
  exact h3
theorem wd_doLine {b m C E S i a : Nat} {V : MT} (G : MT) (hG : gK G) (h : wJ b m C E S V) (hi : i < C) (h2 : V 7 i 5 ≠ 2) (h3 : V 7 i 3 = -1) (ha : a < 192) : Tt (f_X5_doLine G V i (nI a)) (fun r => wLn b m C E S V r.2) := by
  unfold f_X5_doLine
  refine Tt.inn a ha (Tt.inn a ha (Tt.inn a ha ?_))
  rw [wd_cl (show a < 2 ^ 31 by omega)]
  have cur : Tt ((f_X5_currentOf G V (V 7 i 1)).bind (fun q20_ => some ((0 : Int32), (pt V 7 i 2 q20_)))) (fun r => wLn b m C E S V r.2) := (wd_currentOf G V _).bind (fun q _ => Tt.ret (wLn.of (h.sf (by decide) (us_7 hi (by decide))) (kept.sf (by decide))))
  refine Tt.ite (fun _ => ?_) (fun _ => ?_)
  · unfold f_X2_hold
    exact Tt.sb (Tt.ret (wLn.of (h.sf (by decide) (us_7 hi (by decide))) (kept.sf (by decide))))
  refine Tt.ite (fun _ => ?_) (fun _ => ?_)
  · exact (wd_localAt V i _).bind (fun q _ => Tt.ret (wLn.of (h.sf (by decide) (us_7 hi (by decide))) (kept.sf (by decide))))
  refine Tt.ite (fun _ => ?_) (fun _ => ?_)
  · exact (wd_putLocal h hi _ _).bind (fun q z => Tt.ret (wLn.of z.1 z.2))
  refine Tt.ite (fun _ => ?_) (fun _ => ?_)
  · refine (wd_localAt V i _).bind (fun q _ => Tt.ite (fun _ => ?_) (fun _ => Tt.ret (wLn.of h (kept.refl V))))
    exact (wd_localAt V i _).bind (fun q2 _ => (wd_putLocal h hi _ _).bind (fun q z => Tt.ret (wLn.of z.1 z.2)))
  refine Tt.ite (fun _ => ?_) (fun _ => ?_)
  · exact Tt.ite (fun _ => Tt.ret (wLn.of h (kept.refl V))) (fun _ => Tt.ret (wLn.of h (kept.refl V)))
  refine Tt.ite (fun hk => ?_) (fun _ => ?_)
  · exact (wd_end G h hi (hG.2 a ha (by rw [hk]; decide))).bind (fun V1 q => Tt.ret q.1.ln)
  refine Tt.ite (fun _ => cur) (fun _ => ?_)
  refine Tt.ite (fun _ => cur) (fun _ => ?_)
  refine Tt.ite (fun _ => cur) (fun _ => ?_)
  refine Tt.ite (fun _ => cur) (fun _ => ?_)
  refine Tt.ite (fun _ => ?_) (fun _ => ?_)
  · exact Tt.ite (fun _ => Tt.ret (wLn.of (h.traps hi (Or.inr rfl)) kept.traps)) (fun _ => Tt.ret (wLn.of (h.traps hi (Or.inl rfl)) kept.traps))
  refine Tt.ite (fun _ => cur) (fun _ => ?_)
  refine Tt.ite (fun _ => cur) (fun _ => ?_)
  refine Tt.ite (fun _ => cur) (fun _ => ?_)
  refine Tt.ite (fun _ => ?_) (fun _ => ?_)
  · refine (wd_takeMail h hi h2 _).bind (fun r q => ?_)
    have a2 : r.2 7 i 5 ≠ 2 := by rw [q.2.2 5 (by decide)]; exact h2
    have a3 : r.2 7 i 3 = -1 := by rw [q.2.2 3 (by decide)]; exact h3
    refine Tt.ite (fun _ => Tt.ite (fun _ => ?_) (fun _ => ?_)) (fun _ => Tt.ret (wLn.of q.1 q.2.1))
    · exact (wd_waitFor q.1 hi a2 a3 _ _).bind (fun V1 z => Tt.ret (wLn.of z.1 (q.2.1.trans z.2)))
    · exact (wd_waitFor q.1 hi a2 a3 _ _).bind (fun V1 z => Tt.ret (wLn.of z.1 (q.2.1.trans z.2)))
  refine Tt.ite (fun _ => ?_) (fun _ => cur)
  exact (wd_waitFor h hi h2 h3 _ _).bind (fun V1 z => Tt.ret (wLn.of z.1 z.2))
theorem wd_doLineOut {b m C E S i a : Nat} {V : MT} (G : MT) (hG : gK G) (h : wJ b m C E S V) (hi : i < C) (h2 : V 7 i 5 ≠ 2) (ha : a < 192) (hk : G 19 0 a ≠ 0) : Tt (f_X5_doLineOut G V i (nI a)) (fun r => wLn (b + 1) (m + 1) C E S V r.2) := by
  have hA := h.1.at
  unfold f_X5_doLineOut
  refine Tt.inn a ha (Tt.inn a ha ?_)
  have hc := wd_cl (show a < 2 ^ 31 by omega)
  have hr := hG.2 a ha hk
  simp only [hc]
  have up : ∀ {V'}, wLn b m C E S V V' → wLn (b + 1) (m + 1) C E S V V' := fun z => z.up (Nat.le_succ _) (Nat.le_succ _)
  have up1 : ∀ {V'}, wLn b (m + 1) C E S V V' → wLn (b + 1) (m + 1) C E S V V' := fun z => z.up (Nat.le_succ _) (Nat.le_refl _)
  have spw : ∀ y, Tt ((f_X5_spawn G V i (G 20 0 a) y).bind (fun q8_ => some ((q8_ 7 i 8) + 1, q8_))) (fun r => wLn (b + 1) (m + 1) C E S V r.2) := fun y => (wd_spawn G h hi h2 _ y).bind (fun V1 z => Tt.ret (up z))
  have sgn : Tt ((f_X5_signalTo G V (V 7 i 7) (nI i) (G 20 0 a)).bind (fun q15_ => some ((q15_ 7 i 8) + 1, q15_))) (fun r => wLn (b + 1) (m + 1) C E S V r.2) := (wd_signalTo G h _ _ _ hr).bind (fun V1 z => Tt.ret (up1 z.ln))
  have nam : Tt ((f_X5_takeName G V i (G 20 0 a)).bind (fun q17_ => some ((q17_ 7 i 8) + 1, q17_))) (fun r => wLn (b + 1) (m + 1) C E S V r.2) := (wd_takeName G h hi h2 _).bind (fun V1 z => Tt.ret (up z))
  have snd : Tt ((f_X2_localAt V i 3).bind (fun q19_ => (f_X5_putMail G V (V 7 i 7) (G 20 0 a) q19_).bind (fun q20_ => some ((q20_.2 7 i 8) + 1, q20_.2)))) (fun r => wLn (b + 1) (m + 1) C E S V r.2) := (wd_localAt V i 3).bind (fun q _ => (wd_putMail G h _ _ q).bind (fun r z => Tt.ret (up1 (wLn.of z.1 z.2.1))))
  have cal : Tt ((f_X5_callName G V i (G 20 0 a) (G 21 0 a)).bind (fun q22_ => some ((q22_ 7 i 8) + 1, q22_))) (fun r => wLn (b + 1) (m + 1) C E S V r.2) := (wd_callName G h hi _ _).bind (fun V1 z => Tt.ret (up1 z))
  rcases li_at G hA.1 hA.2 (V 7 i 7) with ⟨e3, he3, -, h3, e⟩ | ⟨hno, e⟩
  · rw [e]
    refine Tt.sb (Tt.ocS (Tt.pos (c := e3 < 24) (by omega) ?_))
    refine Tt.inc ha ?_
    refine Tt.ite (fun _ => Tt.ite (fun _ => spw 1) (fun _ => spw 0)) (fun _ => ?_)
    refine Tt.ite (fun _ => ?_) (fun _ => ?_)
    · exact (wd_link G h hi he3 h2 h3).bind (fun V1 z => Tt.ret (up ⟨C, E, z.1, z.2.1⟩))
    refine Tt.ite (fun _ => ?_) (fun _ => ?_)
    · exact (wd_unlink G h hi he3).bind (fun V1 z => Tt.ret (up ⟨C, E, z.1, z.2.1⟩))
    refine Tt.ite (fun _ => ?_) (fun _ => ?_)
    · exact (wd_add h he3 _).bind (fun V1 z => Tt.ret ((wLn.of z.1 z.2).up (Nat.le_refl _) (Nat.le_succ _)))
    exact Tt.ite (fun _ => sgn) (fun _ => Tt.ite (fun _ => nam) (fun _ => Tt.ite (fun _ => snd) (fun _ => Tt.ite (fun _ => cal) (fun _ => sgn))))
  · rw [e]
    refine Tt.sb (Tt.ocN ?_)
    refine Tt.inc ha ?_
    refine Tt.ite (fun _ => Tt.ite (fun _ => spw 1) (fun _ => spw 0)) (fun _ => ?_)
    refine Tt.ite (fun _ => ?_) (fun _ => ?_)
    · exact (wd_signalTo G h _ _ _ (by decide)).bind (fun V1 z => Tt.ret (up1 z.ln))
    refine Tt.ite (fun _ => Tt.ret (up (wLn.of h (kept.refl V)))) (fun _ => ?_)
    refine Tt.ite (fun _ => ?_) (fun _ => ?_)
    · exact (wd_putMail G h _ _ _).bind (fun r z => Tt.ret (up1 (wLn.of z.1 z.2.1)))
    exact Tt.ite (fun _ => sgn) (fun _ => Tt.ite (fun _ => nam) (fun _ => Tt.ite (fun _ => snd) (fun _ => Tt.ite (fun _ => cal) (fun _ => sgn))))
theorem go_at (x : Int32) : ∃ q, f_X5_goesOut x = some q ∧ (q ≠ 0 → x ≠ 0) := by
  by_cases h : x = 0
  · subst h
    exact ⟨0, by decide, fun z => absurd rfl z⟩
  · have : Tt (f_X5_goesOut x) (fun _ => True) := by
      unfold f_X5_goesOut
      repeat' (refine Tt.ite (fun _ => ?_) (fun _ => ?_))
      all_goals exact Tt.ret trivial
    obtain ⟨q, e, _⟩ := this
    exact ⟨q, e, fun _ => h⟩
theorem ln_at (G : MT) (x1 x2 x3 : Int32) : f_X1_lineAt G x1 x2 x3 = some (-1) ∨ ∃ a, a < 192 ∧ f_X1_lineAt G x1 x2 x3 = some (nI a) := by
  unfold f_X1_lineAt f_X1_rowOf
  rcases md_at G x1 with ⟨k, hk, rfl, e⟩ | e
  · rw [e]
    rcases ho_at G G x2 with ⟨v, hv, rfl, -, e2⟩ | ⟨-, e2⟩
    · rw [e2, q1_e, q1_e, show nI k * 4 = nI (k * 4) from pk_mul k 4, nI_add]
      have hrow : k * 4 + v < 16 := by omega
      show (if nI (k * 4 + v) = -1 then _ else _) = _ ∨ ∃ a, a < 192 ∧ (if nI (k * 4 + v) = -1 then _ else _) = _
      rw [if_neg (nI_m1 (by omega)), if_pos (nI_in hrow (by decide))]
      unfold f_X6_isWithin
      by_cases h1 : x3 < 0
      · rw [if_pos h1]; exact Or.inl rfl
      rw [if_neg h1]
      by_cases h2 : G 18 0 (nI (k * 4 + v)).toNatClampNeg - 1 < x3
      · rw [if_pos h2]; exact Or.inl rfl
      rw [if_neg h2, q1_e]
      by_cases h3 : x3 < 12
      · rw [if_pos h3]
        obtain ⟨j, hj, rfl⟩ := nI_of h1
        have hj12 : j < 12 := (nI_ltI (a := j) (b := 12) hj (by decide)).mp h3
        refine Or.inr ⟨(k * 4 + v) * 12 + j, by omega, ?_⟩
        rw [show nI (k * 4 + v) * 12 = nI ((k * 4 + v) * 12) from pk_mul _ 12, nI_add]
      · rw [if_neg h3]; exact Or.inl rfl
    · rw [e2, q1_e]; exact Or.inl rfl
  · rw [e]; exact Or.inl rfl
end
