/-! the calls that come from outside: start, supervise, send -/
section
variable {b m C E S i M : Nat} {G V : MT}
theorem st_all (G U : MT) (h : wI b C E V) (h24 : C < 24) {k : Nat} (hM : G 17 0 0 = nI M) (h4 : M ≤ 4) (hk : k < M) : ∃ V', f_X6_start G V U (nI k) = some (nI C, V') ∧ wI b (C + 1) E V' ∧ wR C E V (C + 1) E V' := by
  unfold f_X6_start
  rw [md_has hM h4 hk]
  rcases wd_cM G h (nI k) (-1) with e | ⟨-, V1, e, hn, n1, n2, n3, n4, n5⟩
  · exfalso
    unfold f_X5_comesOfModule at e
    rw [if_neg (nI_pos (by omega)), hM, if_neg (nI_ge hk (by omega)), if_neg (show ¬ (4 : Int32) ≤ nI k from nI_ge (a := k) (b := 4) (by omega) (by omega)), h.1.1, if_pos (show nI C < (24 : Int32) from nI_lt (a := C) (b := 24) h24 (by omega)), if_pos (nI_in h24 (by decide)), if_pos (nI_in (show k < 4 by omega) (by decide))] at e
    exact absurd (congrArg (fun z => z.map Prod.fst) e) (by simp)
  · have c := h.comeOut h24 hn (Or.inl ⟨n1, by rw [n2, h.fresh (by decide) (Nat.le_refl _)]; rfl, by rw [n3]; exact n4⟩) n5
    refine ⟨V1, ?_, c.1, c.2⟩
    refine Tt.val (Tt.sb (Tt.ci ?_))
    rw [e]
    exact Tt.sb (Tt.ocS (Tt.pos (c := C < 24) h24 (Tt.cs (Tt.ret rfl))))
theorem sv_all (hG : gK G) (hb : b < 2 ^ 29) (U : MT) (h : wI b C E V) (h24 : C < 24) {k s : Nat} (hs : G 22 0 0 = nI s) (h5 : s ≤ 5) (hk : k < s) : ∃ V', f_X6_supervise G V U (nI k) = some (nI C, V') ∧ wA b C E V V' := by
  obtain ⟨r, er, r1, r2⟩ := wd_comesOut G hG hb h h24 (x := nI k) (nI_pos' (by omega))
  obtain ⟨ra, rb⟩ := r
  refine ⟨rb, ?_, r2⟩
  unfold f_X6_supervise
  have e1 : f_X3_hasSpec G (nI k) = some 1 := by
    unfold f_X3_hasSpec
    rw [if_neg (nI_pos (by omega)), hs, if_neg (nI_ge hk (by omega)), if_neg (show ¬ (5 : Int32) ≤ nI k from nI_ge (a := k) (b := 5) (by omega) (by omega))]
  rw [e1]
  refine Tt.val (Tt.sb (Tt.ci ?_))
  rw [h.1.1]
  refine Tt.le 24 C (fun z => by omega) (fun _ => Tt.cs ?_)
  rw [er]
  refine Tt.sb (Tt.ret ?_)
  show (ra, rb) = (nI C, rb)
  rw [show ra = nI C from r1]
theorem sd_all (G U : MT) (h : wI b C E V) (hi : i < C) {t n : Nat} (ht : t ≤ 1) (hn : n ≤ 999) : ∃ r V', f_X6_send G V U (nI i) (nI t) (nI n) = some (r, V') ∧ wI (b + 1) C E V' ∧ kept V V' ∧ ((r = 0 ∧ ∃ l, l ≤ b + E * kB b ∧ V' 0 0 7 = nI (l + 1)) ∨ (r = 1 ∧ V 7 i 5 ≠ 2 ∧ V 7 i 3 = -1)) := by
  have hA := h.1.at
  obtain ⟨q, eq, q1, q2, q3⟩ := wd_putMail G h (nI i) (nI t) (nI n)
  obtain ⟨r, V'⟩ := q
  have hm1 : b + E * kB b + 1 ≤ b + 1 + E * kB (b + 1) := by
    have := Nat.mul_le_mul (Nat.le_refl E) (show kB b ≤ kB (b + 1) from Nat.mul_le_mul (Nat.le_refl 24) (by omega))
    omega
  have q3' : (r = 0 ∧ ∃ l, l ≤ b + E * kB b ∧ V' 0 0 7 = nI (l + 1)) ∨ (r = 1 ∧ ∃ i2, i2 < C ∧ nI i = nI i2 ∧ V 7 i2 5 ≠ 2 ∧ V 7 i2 3 = -1) := q3
  have hr : r = 0 ∨ r = 1 := by
    rcases q3' with ⟨a, _⟩ | ⟨a, _⟩
    · exact Or.inl a
    · exact Or.inr a
  refine ⟨r, V', ?_, wJ.up q1 (Nat.le_succ b) hm1, q2, ?_⟩
  · unfold f_X6_send
    rw [ck_at G U hA.1 hA.2 hi]
    refine Tt.val (Tt.oce (by omega) ?_)
    rw [show f_X6_isWithin (nI t) 0 1 = some 1 from wi_in (k := t) (n := 1) ht (by decide), q1_e]
    have w2 : f_X6_isWithin (nI n) (-999) 999 = some 1 := by
      unfold f_X6_isWithin
      rw [if_neg, if_neg (show ¬ (999 : Int32) < nI n from nI_nlt (a := 999) (b := n) hn (by omega))]
      intro z
      exact nI_pos (n := n) (by omega) (Int32.lt_trans z (by decide))
    rw [w2, q1_e]
    refine Tt.ca ?_
    rw [eq]
    refine Tt.sb (Tt.pos hr (Tt.ret rfl))
  · rcases q3' with z | ⟨a, i2, z1, z2, z3, z4⟩
    · exact Or.inl z
    · have := nI_i z2
      subst this
      exact Or.inr ⟨a, z3, z4⟩
end
