/-! isSound answers true, and keeps the REASONS -/
section
variable {b C E k : Nat} {G U V : MT} {R T : RT}
/-- what the law remembers of those that are OVER -/
def wRO (C : Nat) (V : MT) (R : RT) : Prop := ∀ j, j < 24 → R j < 0 ∨ (j < C ∧ V 7 j 5 = 2 ∧ R j = V 7 j 6)
def wTT (V : MT) (k : Nat) (T : RT) : Prop := T 0 = nI (cst V 0 k) ∧ T 1 = nI (cst V 1 k) ∧ T 2 = nI (cst V 2 k)
def wQS (C : Nat) (V : MT) (r : Int32 × RT) : Prop := r.1 = 1 ∧ wRO C V r.2
theorem wTT.up {st : Nat} (e : V 7 k 5 = nI st) (hs : st ≤ 2) (h : wTT V k T) : wTT V (k + 1) (upd T st (T st + 1)) := by
  obtain ⟨h0, h1, h2⟩ := h
  have g : ∀ x, cst V x (k + 1) = cst V x k + (if V 7 k 5 = x then 1 else 0) := fun _ => rfl
  rcases (show st = 0 ∨ st = 1 ∨ st = 2 by omega) with rfl | rfl | rfl
  · refine ⟨?_, ?_, ?_⟩
    · show T 0 + 1 = _
      rw [h0, nI_1, g, if_pos (show V 7 k 5 = 0 from e)]
    · show T 1 = _
      rw [h1, g, if_neg (by rw [e]; decide)]; rfl
    · show T 2 = _
      rw [h2, g, if_neg (by rw [e]; decide)]; rfl
  · refine ⟨?_, ?_, ?_⟩
    · show T 0 = _
      rw [h0, g, if_neg (by rw [e]; decide)]; rfl
    · show T 1 + 1 = _
      rw [h1, nI_1, g, if_pos (show V 7 k 5 = 1 from e)]
    · show T 2 = _
      rw [h2, g, if_neg (by rw [e]; decide)]; rfl
  · refine ⟨?_, ?_, ?_⟩
    · show T 0 = _
      rw [h0, g, if_neg (by rw [e]; decide)]; rfl
    · show T 1 = _
      rw [h1, g, if_neg (by rw [e]; decide)]; rfl
    · show T 2 + 1 = _
      rw [h2, nI_1, g, if_pos (show V 7 k 5 = 2 from e)]
theorem so_366 (h : wI b C E V) (hR : wRO C V R) (hT : wTT V C T) (f : Nat) : Tt (f_L_isSound_366 G V U (f + 1) R T) (wQS C V) := by
  obtain ⟨m3, m4, m5⟩ := mn_st G U h
  rw [f_L_isSound_366, m3, m4, m5]
  refine Tt.pos (by decide) (Tt.sb (Tt.pos hT.1 (Tt.pos (by decide) (Tt.sb (Tt.pos hT.2.1 (Tt.pos (by decide) (Tt.sb (Tt.pos hT.2.2 (Tt.ret ⟨rfl, hR⟩)))))))))
theorem so_328 (h : wI b C E V) (hR : wRO C V R) (hT : wTT V C T) (f : Nat) : ∀ k, k ≤ 4 → 5 ≤ f + k → Tt (f_L_isSound_328 G V U f (nI k) R T) (wQS C V) := by
  have hA := h.1.at
  induction f with
  | zero => intro k hk hf; omega
  | succ f ih =>
    intro k hk hf
    rw [f_L_isSound_328]
    refine Tt.le 4 k (fun _ => so_366 h hR hT 29) (fun hk4 => ?_)
    rw [nm_at G U hk4, nI_1]
    refine Tt.sb (Tt.ite (fun _ => ih (k + 1) (by omega) (by omega)) (fun hn => ?_))
    refine Tt.sb ?_
    rcases h.2.2.2.2.2.1 k hk4 with e | ⟨i, hi, e, h2⟩
    · exact absurd (by rw [e]; decide) hn
    · rw [e, op_2 G U h hi]
      exact Tt.sb (Tt.neg h2 (ih (k + 1) (by omega) (by omega)))
theorem so_294 (h : wI b C E V) (hk : k < C) {k13 : Int32 → Int32 → RT → RT → Option (Int32 × RT)} (K : Tt (k13 (nI C) (nI (k + 1)) R T) (wQS C V)) (f : Nat) : Tt (f_L_isSound_294 G V U k13 (f + 1) (nI C) (nI k) (V 7 k 5) R T) (wQS C V) := by
  have n319 : Tt (f_L_isSound_319 G V U k13 30 (nI C) (nI k) R T) (wQS C V) := by rw [f_L_isSound_319, nI_1]; exact K
  rw [f_L_isSound_294]
  refine Tt.ite (fun _ => n319) (fun hn => ?_)
  have h2 : V 7 k 5 ≠ 2 := fun z => hn (by rw [z]; decide)
  rw [op_11 G U h hk, if_neg h2]
  refine Tt.sb ?_
  rw [ik_at G U h hk h2]
  exact Tt.sb (Tt.neg (by decide) n319)
theorem wI.ov {i : Nat} (h : wI b C E V) (hi : i < C) (h2 : V 7 i 5 = 2) : V 7 i 13 = 0 := by
  obtain ⟨n, hn, e⟩ := h.2.1.2.2 i hi h2
  exact h.2.2.2.1.2 n hn i hi e
theorem so_229 (h : wI b C E V) (hk : k < C) {k13 : Int32 → Int32 → RT → RT → Option (Int32 × RT)} (K : Tt (k13 (nI C) (nI (k + 1)) R T) (wQS C V)) (f : Nat) : ∀ o, o ≤ C → 25 ≤ f + o → Tt (f_L_isSound_229 G V U k13 f (nI C) (nI k) (V 7 k 5) (nI o) R T) (wQS C V) := by
  have hA := h.1.at
  induction f with
  | zero => intro o ho hf; omega
  | succ f ih =>
    intro o ho hf
    rw [f_L_isSound_229]
    refine Tt.le C o (fun _ => so_294 h hk K 29) (fun hoC => ?_)
    have nx := ih (o + 1) (by omega) (by omega)
    rw [op_9 G U h hk, nI_1]
    refine Tt.sb ?_
    rw [sh_1 (V 7 k 13) (show o < 32 by omega)]
    by_cases hb : bt (V 7 k 13) o = true
    · obtain ⟨q1, q2, q3⟩ := h.2.2.2.1.1 k hk o hb
      rw [if_pos hb]
      refine Tt.pos rfl (Tt.neg (fun z => q2 (nI_i z)) ?_)
      rw [op_9 G U h hoC]
      refine Tt.sb ?_
      rw [sh_1 (V 7 o 13) (show k < 32 by omega), if_pos q3]
      refine Tt.neg (by decide) ?_
      rw [op_2 G U h hoC]
      refine Tt.sb (Tt.neg (fun z => ?_) nx)
      rw [h.ov hoC z, b_0] at q3
      exact absurd q3 (by decide)
    · rw [if_neg hb]
      exact Tt.neg (by decide) nx
theorem so_226 (h : wI b C E V) (hk : k < C) {k13 : Int32 → Int32 → RT → RT → Option (Int32 × RT)} (K : Tt (k13 (nI C) (nI (k + 1)) R T) (wQS C V)) (f : Nat) : Tt (f_L_isSound_226 G V U k13 (f + 1) (nI C) (nI k) (V 7 k 5) R T) (wQS C V) := by
  rw [f_L_isSound_226]
  exact so_229 h hk K 30 0 (Nat.zero_le _) (by omega)
theorem so_164 (h : wI b C E V) (hk : k < C) {k13 : Int32 → Int32 → RT → RT → Option (Int32 × RT)} (K : Tt (k13 (nI C) (nI (k + 1)) R T) (wQS C V)) (f : Nat) : Tt (f_L_isSound_164 G V U k13 (f + 1) (nI C) (nI k) (V 7 k 5) R T) (wQS C V) := by
  have hA := h.1.at
  have c := (h.2.2.1 k hk).2.2.2.1
  have n226 := so_226 (G := G) (U := U) h hk K 29
  obtain ⟨r, er, r1, r2⟩ := op_4 G U h hk
  rw [f_L_isSound_164, op_0 G U h hk]
  refine Tt.sb (Tt.ite (fun hm => ?_) (fun hm => ?_))
  · have h0 : V 7 k 5 ≠ 0 := by
      rcases c with ⟨_, z⟩ | ⟨_, _, z, _⟩
      · exact absurd hm (Int32.not_lt.mpr z)
      · exact z
    rw [f_L_isSound_181]
    exact Tt.pos rfl (Tt.pos rfl (Tt.neg h0 n226))
  · rw [f_L_isSound_181]
    refine Tt.neg (by decide) (Tt.ite (fun h0 => ?_) (fun h0 => ?_))
    · rw [er]
      obtain ⟨d, hd, ed⟩ := r1 h0
      rw [ed]
      exact Tt.sb (Tt.neg (nI_pos (by omega)) (Tt.neg (by decide) n226))
    · rw [er, r2 h0]
      exact Tt.sb (Tt.pos (by decide) (Tt.neg (by decide) n226))
theorem so_112 (h : wI b C E V) (hk : k < C) {k13 : Int32 → Int32 → RT → RT → Option (Int32 × RT)} (K : Tt (k13 (nI C) (nI (k + 1)) R T) (wQS C V)) (f : Nat) : Tt (f_L_isSound_112 G V U k13 (f + 1) (nI C) (nI k) (V 7 k 5) R T) (wQS C V) := by
  have n164 := so_164 (G := G) (U := U) h hk K 29
  rw [f_L_isSound_112]
  refine Tt.ite (fun h2 => ?_) (fun _ => n164)
  rw [op_8 G U h hk, (h.2.2.1 k hk).2.2.2.2.2.2.1 h2]
  refine Tt.sb (Tt.pos rfl ?_)
  rw [op_9 G U h hk, h.ov hk h2]
  refine Tt.sb (Tt.pos rfl ?_)
  obtain ⟨r, er, r1, r2⟩ := op_4 G U h hk
  rw [er, r2 (by rw [h2]; decide)]
  refine Tt.sb (Tt.pos rfl ?_)
  obtain ⟨z, ez, z1⟩ := op_12 G U h hk
  rw [ez, z1 h2]
  exact Tt.sb (Tt.pos rfl n164)
theorem so_101 (h : wI b C E V) (hk : k < C) {k13 : Int32 → Int32 → RT → RT → Option (Int32 × RT)} (K : Tt (k13 (nI C) (nI (k + 1)) (upd R k (V 7 k 6)) T) (wQS C V)) (f : Nat) : Tt (f_L_isSound_101 G V U k13 (f + 1) (nI C) (nI k) (V 7 k 5) R T) (wQS C V) := by
  have hA := h.1.at
  rw [f_L_isSound_101, op_3 G U h hk]
  refine Tt.sb (Tt.inn k (by omega) ?_)
  rw [wd_cl (show k < 2 ^ 31 by omega)]
  exact so_112 h hk K 29
theorem so_13 (h : wI b C E V) (f : Nat) : ∀ (k : Nat) (R T : RT), k ≤ C → 25 ≤ f + k → wRO C V R → wTT V k T → Tt (f_L_isSound_13 G V U f (nI C) (nI k) R T) (wQS C V) := by
  have hA := h.1.at
  induction f with
  | zero => intro k R T hk hf; omega
  | succ f ih =>
    intro k R T hk hf hR hT
    rw [f_L_isSound_13]
    refine Tt.le C k (fun z => ?_) (fun hkC => ?_)
    · have : k = C := by omega
      subst this
      exact so_328 h hR hT 30 0 (by omega) (by omega)
    have c := h.2.2.1 k hkC
    obtain ⟨st, hst, est⟩ : ∃ st, st ≤ 2 ∧ V 7 k 5 = nI st := by
      rcases c.1 with z | z | z
      · exact ⟨0, by omega, z⟩
      · exact ⟨1, by omega, z⟩
      · exact ⟨2, by omega, z⟩
    obtain ⟨n, hn, en⟩ := c.2.2.2.2.2.1
    have hR2 : wRO C V (upd R k (V 7 k 6)) := fun j hj => by
      by_cases z : j = k
      · subst z
        show upd R j (V 7 j 6) j < 0 ∨ _
        rw [pk_us]
        by_cases h2 : V 7 j 5 = 2
        · exact Or.inr ⟨hkC, h2, rfl⟩
        · left; rw [c.2.2.1 h2]; decide
      · rw [pk_un z]; exact hR j hj
    have nx : Tt (f_L_isSound_101 G V U (f_L_isSound_13 G V U f) 30 (nI C) (nI k) (V 7 k 5) R (upd T st (T st + 1))) (wQS C V) := so_101 h hkC (ih (k + 1) _ _ (by omega) (by omega) hR2 (hT.up est hst)) 29
    rw [op_2 G U h hkC, op_8 G U h hkC, op_3 G U h hkC, en]
    refine Tt.sb ?_
    have cst : Int32.toNatClampNeg (V 7 k 5) = st := by rw [est]; exact wd_cl (by omega)
    have ck : Int32.toNatClampNeg (nI k) = k := wd_cl (by omega)
    have sg : ¬ (V 7 k 5 < 0 ∨ 3 ≤ st) := fun z => by
      rcases z with z | z
      · rw [est] at z; exact nI_pos (by omega) z
      · omega
    have kg : ¬ (nI k < 0 ∨ 24 ≤ k) := fun z => by
      rcases z with z | z
      · exact nI_pos (by omega) z
      · omega
    simp only [cst, ck]
    have fin : Tt (if ¬ (nI k < 0 ∨ 24 ≤ k) then (if R k < 0 then (f_L_isSound_101 G V U (f_L_isSound_13 G V U f) 30 (nI C) (nI k) (V 7 k 5) R (upd T st (T st + 1))) else ((some (V 7 k 6)).bind (fun q69_ => if ¬ (nI k < 0 ∨ 24 ≤ k) then (if q69_ = R k then (f_L_isSound_101 G V U (f_L_isSound_13 G V U f) 30 (nI C) (nI k) (V 7 k 5) R (upd T st (T st + 1))) else (some (0, R))) else none))) else none) (wQS C V) := by
      refine Tt.pos kg (Tt.ite (fun _ => nx) (fun hr => Tt.sb (Tt.pos kg (Tt.pos ?_ nx))))
      rcases hR k (by omega) with z | ⟨_, _, z⟩
      · exact absurd z hr
      · exact z.symm
    refine Tt.pos sg (Tt.pos sg (Tt.sb (Tt.neg (show ¬ (8 : Int32) < nI n from nI_nlt (a := 8) (b := n) (by omega) (by omega)) (Tt.sb (Tt.ite (fun hq => Tt.neg (fun h2 => ?_) fin) (fun hq => Tt.pos ?_ fin))))))
    · exact absurd hq (Int32.not_lt.mpr (c.2.1 h2))
    · by_cases h2 : V 7 k 5 = 2
      · exact h2
      · rw [c.2.2.1 h2] at hq; exact absurd (by decide) hq
end
