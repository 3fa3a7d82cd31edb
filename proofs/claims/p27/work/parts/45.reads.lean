/-! what one asks -/
section
def cst (V : MT) (x : Int32) : Nat → Nat
  | 0 => 0
  | n + 1 => cst V x n + (if V 7 n 5 = x then 1 else 0)
theorem cst_2 (V : MT) (n : Nat) : cst V 2 n = cov V n := by
  induction n with
  | zero => rfl
  | succ n ih => show cst V 2 n + _ = cov V n + _; rw [ih]
theorem cst_le (V : MT) (x : Int32) (n : Nat) : cst V x n ≤ n := by
  induction n with
  | zero => exact Nat.le_refl _
  | succ n ih =>
    show cst V x n + _ ≤ n + 1
    split <;> omega
theorem ck_at (G U : MT) {V : MT} {C i : Nat} (hC : V 0 0 5 = nI C) (h24 : C ≤ 24) (hi : i < C) : f_X6_checkProcess G V U (nI i) = some (some i) := by
  unfold f_X6_checkProcess
  rcases pr_at G hC h24 (nI i) with ⟨j, hj, ej, e⟩ | ⟨hno, e⟩
  · have := nI_i ej
    subst this
    rw [e]
    show (if i < 24 then some (some i) else none) = _
    rw [if_pos (by omega)]
  · exact absurd rfl (hno i hi)
theorem oc_e {α : Type} {i : Nat} {f : Nat → Option α} {A : Nat → Option α} (h : i < 24) : ((some (some i)).bind (fun q1_ => oc q1_ none (fun e1 => if e1 < 24 then A e1 else none))) = A i := if_pos (c := i < 24) (t := A i) (e := none) h
theorem Tt.oce {α : Type} {i : Nat} {A : Nat → Option α} {Q : α → Prop} (h : i < 24) (t : Tt (A i) Q) : Tt ((some (some i)).bind (fun q1_ => oc q1_ none (fun e1 => if e1 < 24 then A e1 else none))) Q := Tt.pos (c := i < 24) (a := A i) (b := none) h t
theorem Tt.ca {α : Type} {k : Option α} {Q : α → Prop} (h : Tt k Q) : Tt ((f_X6_checkArgument 1).bind (fun _ => k)) Q := h
theorem Tt.ci {α : Type} {k : Option α} {Q : α → Prop} (h : Tt k Q) : Tt ((f_X6_checkIndex 1).bind (fun _ => k)) Q := h
theorem Tt.cs {α : Type} {k : Option α} {Q : α → Prop} (h : Tt k Q) : Tt ((f_X6_checkState 1).bind (fun _ => k)) Q := h
theorem Tt.val {α : Type} {o : Option α} {r : α} (h : Tt o (fun z => z = r)) : o = some r := by
  obtain ⟨z, e, rfl⟩ := h
  exact e
/-- loops that only count -/
theorem wd_pir (G : MT) {V : MT} {C : Nat} (hC : V 0 0 5 = nI C) (h24 : C ≤ 24) (p : Nat) (f : Nat) : ∀ k c, k ≤ 24 → 25 ≤ f + k → Tt (f_X5_placeInRow_13 G V f p (nI c) (nI k)) (fun r => ∃ d, d ≤ c + 24 - k ∧ r = nI d) := by
  induction f with
  | zero => intro k c hk hf; omega
  | succ f ih =>
    intro k c hk hf
    rw [f_X5_placeInRow_13, hC]
    have hc := wd_cl (show k < 2 ^ 31 by omega)
    simp only [hc, nI_1]
    have fin : Tt (some (nI c)) (fun r => ∃ d, d ≤ c + 24 - k ∧ r = nI d) := Tt.ret ⟨c, by omega, rfl⟩
    refine Tt.le C k (fun _ => fin) (fun _ => Tt.le 24 k (fun _ => fin) (fun hk4 => Tt.inc hk4 ?_))
    have n0 := (ih (k + 1) c (by omega) (by omega)).mono (Q := fun r => ∃ d, d ≤ c + 24 - k ∧ r = nI d) (fun z q => by obtain ⟨d, q1, q2⟩ := q; exact ⟨d, by omega, q2⟩)
    have n1 := (ih (k + 1) (c + 1) (by omega) (by omega)).mono (Q := fun r => ∃ d, d ≤ c + 24 - k ∧ r = nI d) (fun z q => by obtain ⟨d, q1, q2⟩ := q; exact ⟨d, by omega, q2⟩)
    exact Tt.ite (fun _ => Tt.inc hk4 (Tt.ite (fun _ => n0) (fun _ => n1))) (fun _ => n0)
theorem wd_placeInRow (G : MT) {V : MT} {C : Nat} (hC : V 0 0 5 = nI C) (h24 : C ≤ 24) (p : Nat) : Tt (f_X5_placeInRow G V p) (fun r => (V 7 p 5 = 0 → ∃ d, d ≤ 24 ∧ r = nI d) ∧ (V 7 p 5 ≠ 0 → r = -1)) := by
  unfold f_X5_placeInRow
  refine Tt.ite (fun h => ?_) (fun h => Tt.ret ⟨fun z => absurd z h, fun _ => rfl⟩)
  exact (wd_pir G hC h24 p 30 0 0 (by omega) (by omega)).mono (fun r q => ⟨fun _ => q, fun z => absurd h z⟩)
theorem wd_wo14 (G : MT) {V : MT} {C p n : Nat} (hC : V 0 0 5 = nI C) (h24 : C ≤ 24) (en : V 13 p 2 = nI n) (hn : n ≤ 24) (f : Nat) : ∀ k y, k ≤ 24 → 25 ≤ f + k → Tt (f_X5_watchesOf_14 G V f p y (nI k)) (fun _ => True) := by
  induction f with
  | zero => intro k y hk hf; omega
  | succ f ih =>
    intro k y hk hf
    rw [f_X5_watchesOf_14, en]
    have hc := wd_cl (show k < 2 ^ 31 by omega)
    simp only [hc, nI_1]
    refine Tt.le n k (fun _ => Tt.ret trivial) (fun _ => Tt.le 24 k (fun _ => Tt.ret trivial) (fun hk4 => Tt.inc hk4 ?_))
    rcases li_at G hC h24 (V 14 p k) with ⟨j, hj, ej, h2, e⟩ | ⟨hno, e⟩
    · rw [e]
      exact Tt.sb (Tt.ocS (Tt.pos (c := j < 24) (by omega) (Tt.inc hk4 (ih (k + 1) _ (by omega) (by omega)))))
    · rw [e]
      exact Tt.sb (Tt.ocN (ih (k + 1) y (by omega) (by omega)))
theorem wd_watchesOf {b m C E S p : Nat} {V : MT} (G : MT) (h : wJ b m C E S V) (hp : p < C) : Tt (f_X5_watchesOf G V p) (fun r => V 7 p 5 = 2 → r = 0) := by
  have hA := h.1.at
  obtain ⟨n, hn, en⟩ := (h.2.2.1 p hp).2.2.2.2.2.2.2.1
  unfold f_X5_watchesOf
  exact Tt.ite (fun _ => Tt.ret (fun _ => rfl)) (fun h2 => (wd_wo14 G hA.1 hA.2 en hn 30 0 0 (by omega) (by omega)).mono (fun _ _ z => absurd z h2))
theorem wi_T (x y z : Int32) : f_X6_isWithin x y z = some 0 ∨ f_X6_isWithin x y z = some 1 := by
  unfold f_X6_isWithin
  by_cases h1 : x < y
  · rw [if_pos h1]; exact Or.inl rfl
  · rw [if_neg h1]
    by_cases h2 : z < x
    · rw [if_pos h2]; exact Or.inl rfl
    · rw [if_neg h2]; exact Or.inr rfl
theorem wd_ru6 (G : MT) {V : MT} {C : Nat} (hC : V 0 0 5 = nI C) (h24 : C ≤ 24) (y1 y2 y3 : Int32) (f : Nat) : ∀ k y, k ≤ 24 → 25 ≤ f + k → Tt (f_X5_runners_6 G V f y1 y2 y3 y (nI k)) (fun _ => True) := by
  induction f with
  | zero => intro k y hk hf; omega
  | succ f ih =>
    intro k y hk hf
    rw [f_X5_runners_6, hC]
    have hc := wd_cl (show k < 2 ^ 31 by omega)
    simp only [hc, nI_1]
    refine Tt.le C k (fun _ => Tt.ret trivial) (fun _ => Tt.le 24 k (fun _ => Tt.ret trivial) (fun hk4 => Tt.inc hk4 ?_))
    have nx : ∀ y, Tt (f_X5_runners_6 G V f y1 y2 y3 y (nI (k + 1))) (fun _ => True) := fun y => ih (k + 1) y (by omega) (by omega)
    refine Tt.ite (fun _ => nx _) (fun _ => Tt.ite (fun _ => ?_) (fun _ => nx _))
    rcases wi_T (V 7 k 2) y2 y3 with e | e
    · rw [e]; exact Tt.q0 (nx _)
    · rw [e]; exact Tt.q1 (nx _)
theorem wd_ma4 (G : MT) {V : MT} {C : Nat} (hC : V 0 0 5 = nI C) (h24 : C ≤ 24) (y1 : Int32) (f : Nat) : ∀ k y, k ≤ 24 → 25 ≤ f + k → Tt (f_X5_madeOf_4 G V f y1 y (nI k)) (fun _ => True) := by
  induction f with
  | zero => intro k y hk hf; omega
  | succ f ih =>
    intro k y hk hf
    rw [f_X5_madeOf_4, hC]
    have hc := wd_cl (show k < 2 ^ 31 by omega)
    simp only [hc, nI_1]
    refine Tt.le C k (fun _ => Tt.ret trivial) (fun _ => Tt.le 24 k (fun _ => Tt.ret trivial) (fun hk4 => Tt.inc hk4 ?_))
    exact Tt.ite (fun _ => ih (k + 1) _ (by omega) (by omega)) (fun _ => ih (k + 1) _ (by omega) (by omega))
theorem wd_su4 (G : MT) {V : MT} {C : Nat} (hC : V 0 0 5 = nI C) (h24 : C ≤ 24) (f : Nat) : ∀ k y, k ≤ 24 → 25 ≤ f + k → Tt (f_X5_supervisors_4 G V f y (nI k)) (fun _ => True) := by
  induction f with
  | zero => intro k y hk hf; omega
  | succ f ih =>
    intro k y hk hf
    rw [f_X5_supervisors_4, hC]
    have hc := wd_cl (show k < 2 ^ 31 by omega)
    simp only [hc, nI_1]
    refine Tt.le C k (fun _ => Tt.ret trivial) (fun _ => Tt.le 24 k (fun _ => Tt.ret trivial) (fun hk4 => Tt.inc hk4 ?_))
    have nx : ∀ y, Tt (f_X5_supervisors_4 G V f y (nI (k + 1))) (fun _ => True) := fun y => ih (k + 1) y (by omega) (by omega)
    unfold f_X2_isSupervisor
    by_cases h3 : V 7 k 3 = -1
    · rw [if_pos h3]; exact Tt.q0 (nx _)
    · rw [if_neg h3]; exact Tt.q1 (nx _)
theorem wd_lc4 (G : MT) {V : MT} {C : Nat} (hC : V 0 0 5 = nI C) (h24 : C ≤ 24) (f : Nat) : ∀ k y, k ≤ 24 → 25 ≤ f + k → Tt (f_X5_linkCount_4 G V f y (nI k)) (fun _ => True) := by
  induction f with
  | zero => intro k y hk hf; omega
  | succ f ih =>
    intro k y hk hf
    rw [f_X5_linkCount_4, hC]
    have hc := wd_cl (show k < 2 ^ 31 by omega)
    simp only [hc, nI_1]
    refine Tt.le C k (fun _ => Tt.ret trivial) (fun _ => Tt.le 24 k (fun _ => Tt.ret trivial) (fun hk4 => Tt.inc hk4 ?_))
    rw [bc_at]
    exact Tt.sb (ih (k + 1) _ (by omega) (by omega))
theorem wd_mc4 (G : MT) {V : MT} {C : Nat} (hC : V 0 0 5 = nI C) (h24 : C ≤ 24) (f : Nat) : ∀ k y, k ≤ 24 → 25 ≤ f + k → Tt (f_X5_mailCount_4 G V f y (nI k)) (fun _ => True) := by
  induction f with
  | zero => intro k y hk hf; omega
  | succ f ih =>
    intro k y hk hf
    rw [f_X5_mailCount_4, hC]
    have hc := wd_cl (show k < 2 ^ 31 by omega)
    simp only [hc, nI_1]
    refine Tt.le C k (fun _ => Tt.ret trivial) (fun _ => Tt.le 24 k (fun _ => Tt.ret trivial) (fun hk4 => Tt.inc hk4 ?_))
    exact ih (k + 1) _ (by omega) (by omega)
theorem wd_ws4 (G : MT) {V : MT} {C : Nat} (hC : V 0 0 5 = nI C) (h24 : C ≤ 24) (x : Int32) (f : Nat) : ∀ k, k ≤ C → 25 ≤ f + k → f_X5_withStatus_4 G V f x (nI (cst V x k)) (nI k) = some (nI (cst V x C)) := by
  induction f with
  | zero => intro k hk hf; omega
  | succ f ih =>
    intro k hk hf
    rw [f_X5_withStatus_4, hC]
    by_cases e : C = k
    · subst e; rw [if_pos (nI_le (Nat.le_refl _) (by omega))]
    · rw [if_neg (nI_ge (show k < C by omega) (by omega)), if_neg (show ¬ (24 : Int32) ≤ nI k from nI_ge (a := k) (b := 24) (by omega) (by omega)), if_pos (nI_in (by omega) (by decide)), wd_cl (by omega)]
      have hn := ih (k + 1) (by omega) (by omega)
      by_cases h : V 7 k 5 = x
      · rw [if_pos h, nI_1, nI_1]
        have : cst V x (k + 1) = cst V x k + 1 := by show cst V x k + _ = _; rw [if_pos h]
        rw [this] at hn; exact hn
      · rw [if_neg h, nI_1]
        have : cst V x (k + 1) = cst V x k := by show cst V x k + _ = _; rw [if_neg h]; rfl
        rw [this] at hn; exact hn
theorem wd_withStatus (G : MT) {V : MT} {C : Nat} (hC : V 0 0 5 = nI C) (h24 : C ≤ 24) (x : Int32) : f_X5_withStatus G V x = some (nI (cst V x C)) := wd_ws4 G hC h24 x 30 0 (Nat.zero_le _) (by omega)
section
variable {b m C E S i : Nat} {V : MT}
theorem op_0 (G U : MT) (h : wJ b m C E S V) (hi : i < C) : f_X6_ofProcess G V U (nI i) 0 = some (V 7 i 1) := by
  have hA := h.1.at
  unfold f_X6_ofProcess
  rw [ck_at G U hA.1 hA.2 hi]
  exact Tt.val (Tt.oce (by omega) ⟨_, rfl, rfl⟩)
theorem op_2 (G U : MT) (h : wJ b m C E S V) (hi : i < C) : f_X6_ofProcess G V U (nI i) 2 = some (V 7 i 5) := by
  have hA := h.1.at
  unfold f_X6_ofProcess
  rw [ck_at G U hA.1 hA.2 hi]
  exact Tt.val (Tt.oce (by omega) ⟨_, rfl, rfl⟩)
theorem op_3 (G U : MT) (h : wJ b m C E S V) (hi : i < C) : f_X6_ofProcess G V U (nI i) 3 = some (V 7 i 6) := by
  have hA := h.1.at
  unfold f_X6_ofProcess
  rw [ck_at G U hA.1 hA.2 hi]
  exact Tt.val (Tt.oce (by omega) ⟨_, rfl, rfl⟩)
theorem op_8 (G U : MT) (h : wJ b m C E S V) (hi : i < C) : f_X6_ofProcess G V U (nI i) 8 = some (V 10 i 2) := by
  have hA := h.1.at
  unfold f_X6_ofProcess
  rw [ck_at G U hA.1 hA.2 hi]
  exact Tt.val (Tt.oce (by omega) ⟨_, rfl, rfl⟩)
theorem op_9 (G U : MT) (h : wJ b m C E S V) (hi : i < C) : f_X6_ofProcess G V U (nI i) 9 = some (V 7 i 13) := by
  have hA := h.1.at
  unfold f_X6_ofProcess
  rw [ck_at G U hA.1 hA.2 hi]
  exact Tt.val (Tt.oce (by omega) ⟨_, rfl, rfl⟩)
theorem op_11 (G U : MT) (h : wJ b m C E S V) (hi : i < C) : f_X6_ofProcess G V U (nI i) 11 = some (if V 7 i 5 = 2 then -1 else V 7 i 4) := by
  have hA := h.1.at
  unfold f_X6_ofProcess
  rw [ck_at G U hA.1 hA.2 hi]
  refine Tt.val (Tt.oce (by omega) ?_)
  show Tt (if V 7 i 5 = 2 then some (-1) else some (V 7 i 4)) _
  by_cases c : V 7 i 5 = 2
  · rw [if_pos c]; exact Tt.ret (by rw [if_pos c])
  · rw [if_neg c]; exact Tt.ret (by rw [if_neg c])
theorem op_4 (G U : MT) (h : wJ b m C E S V) (hi : i < C) : Tt (f_X6_ofProcess G V U (nI i) 4) (fun r => (V 7 i 5 = 0 → ∃ d, d ≤ 24 ∧ r = nI d) ∧ (V 7 i 5 ≠ 0 → r = -1)) := by
  have hA := h.1.at
  unfold f_X6_ofProcess
  rw [ck_at G U hA.1 hA.2 hi]
  refine Tt.oce (by omega) ?_
  show Tt ((f_X5_placeInRow G V i).bind (fun q9_ => some q9_)) _
  exact (wd_placeInRow G hA.1 hA.2 i).bind (fun r q => Tt.ret q)
theorem op_12 (G U : MT) (h : wJ b m C E S V) (hi : i < C) : Tt (f_X6_ofProcess G V U (nI i) 12) (fun r => V 7 i 5 = 2 → r = 0) := by
  have hA := h.1.at
  unfold f_X6_ofProcess
  rw [ck_at G U hA.1 hA.2 hi]
  refine Tt.oce (by omega) ?_
  show Tt ((f_X5_watchesOf G V i).bind (fun q19_ => some q19_)) _
  exact (wd_watchesOf G h hi).bind (fun r q => Tt.ret q)
theorem op_T (G U : MT) (h : wJ b m C E S V) (hi : i < C) {w : Nat} (hw : w ≤ 12) : Tt (f_X6_ofProcess G V U (nI i) (nI w)) (fun _ => True) := by
  have hA := h.1.at
  unfold f_X6_ofProcess
  rw [ck_at G U hA.1 hA.2 hi]
  refine Tt.oce (by omega) ?_
  rw [show f_X6_isWithin (nI w) 0 12 = some 1 from wi_in (k := w) (n := 12) hw (by decide)]
  refine Tt.sb (Tt.ca ?_)
  have t : ∀ {x : Int32}, Tt (some x) (fun _ => True) := Tt.ret trivial
  refine Tt.ite (fun _ => t) (fun _ => Tt.ite (fun _ => t) (fun _ => Tt.ite (fun _ => t) (fun _ => Tt.ite (fun _ => t) (fun _ => Tt.ite (fun _ => ?_) (fun _ => Tt.ite (fun _ => t) (fun _ => Tt.ite (fun _ => t) (fun _ => Tt.ite (fun _ => t) (fun _ => Tt.ite (fun _ => t) (fun _ => Tt.ite (fun _ => t) (fun _ => Tt.ite (fun _ => Tt.ite (fun _ => t) (fun _ => t)) (fun _ => Tt.ite (fun _ => Tt.ite (fun _ => t) (fun _ => t)) (fun _ => ?_))))))))))))
  · exact (wd_placeInRow G hA.1 hA.2 i).bind (fun r q => t)
  · exact (wd_watchesOf G h hi).bind (fun r q => t)
theorem lo_T (G U : MT) (h : wJ b m C E S V) (hi : i < C) {w : Nat} (hw : w ≤ 3) : Tt (f_X6_local G V U (nI i) (nI w)) (fun _ => True) := by
  have hA := h.1.at
  unfold f_X6_local
  rw [ck_at G U hA.1 hA.2 hi]
  refine Tt.oce (by omega) ?_
  rw [show f_X6_isWithin (nI w) 0 3 = some 1 from wi_in (k := w) (n := 3) hw (by decide)]
  exact Tt.sb (Tt.ci ((wd_localAt V i _).bind (fun _ _ => Tt.ret trivial)))
theorem ml_T (G U : MT) (h : wJ b m C E S V) (hi : i < C) {n w x : Nat} (hn : V 10 i 2 = nI n) (h8 : n ≤ 8) (hw : w < n) (hx : x ≤ 1) : Tt (f_X6_mail G V U (nI i) (nI w) (nI x)) (fun _ => True) := by
  have hA := h.1.at
  unfold f_X6_mail
  rw [ck_at G U hA.1 hA.2 hi]
  refine Tt.oce (by omega) ?_
  obtain ⟨n', rfl⟩ : ∃ n', n = n' + 1 := ⟨n - 1, by omega⟩
  rw [hn, nI_pred, wi_in (k := w) (n := n') (by omega) (by omega)]
  refine Tt.sb (Tt.ci ?_)
  rw [show f_X6_isWithin (nI x) 0 1 = some 1 from wi_in (k := x) (n := 1) hx (by decide)]
  refine Tt.sb (Tt.ca (Tt.neg (nI_pos (by omega)) (Tt.lt w 8 (fun hw8 => ?_) (fun z => by omega))))
  exact Tt.ite (fun _ => Tt.inn w hw8 (Tt.ret trivial)) (fun _ => Tt.inn w hw8 (Tt.ret trivial))
theorem os_T (G U : MT) (h : wJ b m C E S V) (hi : i < C) {w : Nat} (hw : w ≤ 6) : Tt (f_X6_ofSupervisor G V U (nI i) (nI w)) (fun r => 1 ≤ w → w ≤ 4 → V 7 i 3 ≠ -1 → r = V 9 i (w - 1)) := by
  have hA := h.1.at
  unfold f_X6_ofSupervisor
  rw [ck_at G U hA.1 hA.2 hi]
  refine Tt.oce (by omega) ?_
  rw [show f_X6_isWithin (nI w) 0 6 = some 1 from wi_in (k := w) (n := 6) hw (by decide)]
  refine Tt.sb (Tt.ca ?_)
  unfold f_X2_isSupervisor
  by_cases h3 : V 7 i 3 = -1
  · rw [if_pos h3]; exact Tt.q0 (Tt.ret (fun _ _ z => absurd h3 z))
  · rw [if_neg h3]
    refine Tt.q1 ?_
    refine Tt.ite (fun z => Tt.ret (fun z1 _ _ => ?_)) (fun _ => ?_)
    · have := nI_i (a := w) (b := 0) z
      omega
    refine Tt.ite (fun z => ?_) (fun _ => ?_)
    · have := nI_i (a := w) (b := 5) z
      unfold f_X5_restartsEver
      exact Tt.bind (P := fun _ => True) ((wd_restartsAbove G h _).bind (fun _ _ => Tt.ret trivial)) (fun _ _ => Tt.ret (fun _ z2 _ => by omega))
    refine Tt.ite (fun z => ?_) (fun _ => ?_)
    · have := nI_i (a := w) (b := 6) z
      exact (wd_restartsLately G h).bind (fun _ _ => Tt.ret (fun _ z2 _ => by omega))
    unfold f_X6_isWithin
    by_cases h1 : nI w < 1
    · rw [if_pos h1]
      have := (nI_ltI (a := w) (b := 1) (by omega) (by decide)).mp h1
      exact Tt.q0 (Tt.ret (fun z _ _ => by omega))
    · rw [if_neg h1]
      by_cases h4 : 4 < nI w
      · rw [if_pos h4]
        have := (nI_ltI (a := 4) (b := w) (by decide) (by omega)).mp h4
        exact Tt.q0 (Tt.ret (fun _ z _ => by omega))
      · rw [if_neg h4]
        have w1 : 1 ≤ w := by
          by_cases z : 1 ≤ w
          · exact z
          · exact absurd (nI_lt (a := w) (b := 1) (by omega) (by decide)) h1
        have w4 : w ≤ 4 := by
          by_cases z : w ≤ 4
          · exact z
          · exact absurd (nI_lt (a := 4) (b := w) (by omega) (by omega)) h4
        refine Tt.q1 ?_
        obtain ⟨w', rfl⟩ : ∃ w', w = w' + 1 := ⟨w - 1, by omega⟩
        rw [nI_pred]
        refine Tt.inn w' (by omega) ?_
        rw [wd_cl (show w' < 2 ^ 31 by omega)]
        exact Tt.ret (fun _ _ _ => rfl)
theorem nm_at (G U : MT) {k : Nat} (hk : k < 4) : f_X6_named G V U (nI k) = some (V 2 0 k) := by
  unfold f_X6_named
  rw [show f_X6_isWithin (nI k) 0 3 = some 1 from wi_in (k := k) (n := 3) (by omega) (by decide)]
  refine Tt.val (Tt.sb (Tt.ci ?_))
  rcases ho_at G V (nI k) with ⟨k', hk', ek, e, e2⟩ | ⟨e, e2⟩
  · have := nI_i ek
    subst this
    rw [e]
    exact Tt.sb (Tt.ret rfl)
  · rw [show f_X6_isWithin (nI k) 0 3 = some 1 from wi_in (k := k) (n := 3) (by omega) (by decide)] at e2
    exact absurd (Option.some.inj e2) (by decide)
theorem mn_2 (G U : MT) (h : wJ b m C E S V) : f_X6_many G V U 2 = some (nI C) := by
  rw [← h.1.1]; rfl
theorem mn_9 (G U : MT) : f_X6_many G V U 9 = some (V 0 0 7) := rfl
theorem mn_11 (G U : MT) : f_X6_many G V U 11 = some (V 0 0 8) := rfl
theorem mn_st (G U : MT) (h : wJ b m C E S V) : f_X6_many G V U 3 = some (nI (cst V 0 C)) ∧ f_X6_many G V U 4 = some (nI (cst V 1 C)) ∧ f_X6_many G V U 5 = some (nI (cst V 2 C)) := by
  have hA := h.1.at
  refine ⟨?_, ?_, ?_⟩
  · rw [show f_X6_many G V U 3 = (f_X5_withStatus G V 0).bind (fun q7_ => some q7_) from rfl, wd_withStatus G hA.1 hA.2]; rfl
  · rw [show f_X6_many G V U 4 = (f_X5_withStatus G V 1).bind (fun q7_ => some q7_) from rfl, wd_withStatus G hA.1 hA.2]; rfl
  · rw [show f_X6_many G V U 5 = (f_X5_withStatus G V 2).bind (fun q7_ => some q7_) from rfl, wd_withStatus G hA.1 hA.2]; rfl
theorem mn_T (G U : MT) (h : wJ b m C E S V) {w : Nat} (hw : w ≤ 12) : Tt (f_X6_many G V U (nI w)) (fun _ => True) := by
  have hA := h.1.at
  unfold f_X6_many
  rw [show f_X6_isWithin (nI w) 0 12 = some 1 from wi_in (k := w) (n := 12) hw (by decide)]
  refine Tt.sb (Tt.ca ?_)
  have t : ∀ {x : Int32}, Tt (some x) (fun _ => True) := Tt.ret trivial
  have s : ∀ x, Tt ((f_X5_withStatus G V x).bind (fun q => some q)) (fun _ => True) := fun x => by rw [wd_withStatus G hA.1 hA.2]; exact t
  refine Tt.ite (fun _ => t) (fun _ => Tt.ite (fun _ => t) (fun _ => Tt.ite (fun _ => t) (fun _ => Tt.ite (fun _ => s 0) (fun _ => Tt.ite (fun _ => s 1) (fun _ => Tt.ite (fun _ => s 2) (fun _ => Tt.ite (fun _ => ?_) (fun _ => Tt.ite (fun _ => ?_) (fun _ => Tt.ite (fun _ => ?_) (fun _ => Tt.ite (fun _ => t) (fun _ => Tt.ite (fun _ => t) (fun _ => Tt.ite (fun _ => t) (fun _ => t))))))))))))
  · exact (wd_su4 G hA.1 hA.2 30 0 0 (by omega) (by omega)).bind (fun _ _ => t)
  · exact (wd_lc4 G hA.1 hA.2 30 0 0 (by omega) (by omega)).bind (fun _ _ => t)
  · exact (wd_mc4 G hA.1 hA.2 30 0 0 (by omega) (by omega)).bind (fun _ _ => t)
theorem om_T (G U : MT) (h : wJ b m C E S V) {M k w : Nat} (hM : G 17 0 0 = nI M) (h4 : M ≤ 4) (hk : k < M) (hw : w ≤ 4) : Tt (f_X6_ofModule G V U (nI k) (nI w)) (fun r => w = 0 → r = V 1 0 k + 1) := by
  have hA := h.1.at
  unfold f_X6_ofModule
  rw [md_has hM h4 hk]
  refine Tt.sb (Tt.ci ?_)
  rw [show f_X6_isWithin (nI w) 0 4 = some 1 from wi_in (k := w) (n := 4) hw (by decide)]
  refine Tt.sb (Tt.ca ?_)
  have ec : f_X5_currentOf G V (nI k) = some (V 1 0 k) := by
    unfold f_X5_currentOf
    rw [md_has hM h4 hk, q1_e, if_pos (nI_in (by omega) (by decide)), wd_cl (by omega)]
  rw [ec]
  refine Tt.sb ?_
  refine Tt.ite (fun z => Tt.ret (fun _ => rfl)) (fun z => ?_)
  have hw0 : w ≠ 0 := fun e => z (by rw [e]; rfl)
  have t : ∀ {x : Int32}, Tt (some x) (fun r => w = 0 → r = V 1 0 k + 1) := Tt.ret (fun e => absurd e hw0)
  refine Tt.ite (fun _ => ?_) (fun _ => Tt.ite (fun _ => ?_) (fun _ => Tt.ite (fun _ => ?_) (fun _ => ?_)))
  · refine Tt.bind (P := fun _ => True) ?_ (fun _ _ => t)
    unfold f_X1_linesOf f_X1_rowOf
    rw [md_has hM h4 hk, q1_e]
    rcases ho_at G V (V 1 0 k) with ⟨v, hv, ev, -, e2⟩ | ⟨-, e2⟩
    · rw [e2, q1_e, ev, show nI k * 4 = nI (k * 4) from pk_mul k 4, nI_add]
      exact Tt.sb (Tt.neg (nI_m1 (by omega)) (Tt.inn (k * 4 + v) (by omega) (Tt.ret trivial)))
    · rw [e2]
      exact Tt.ret (r := 0) trivial
  · exact (wd_ru6 G hA.1 hA.2 _ _ _ 30 0 0 (by omega) (by omega)).bind (fun _ _ => t)
  · exact (wd_ru6 G hA.1 hA.2 _ _ _ 30 0 0 (by omega) (by omega)).bind (fun _ _ => t)
  · exact (wd_ma4 G hA.1 hA.2 _ 30 0 0 (by omega) (by omega)).bind (fun _ _ => t)
theorem po_T (G U : MT) (h : wJ b m C E S V) (hi : i < C) {w : Nat} (hw : w ≤ 4) : Tt (f_X6_passedOver G V U (nI i) (nI w)) (fun r => r = -1 ∨ ∃ d, d < 8 ∧ r = nI d) := by
  have hA := h.1.at
  obtain ⟨n, hn, en⟩ := (h.2.2.1 i hi).2.2.2.2.2.1
  unfold f_X6_passedOver
  rw [ck_at G U hA.1 hA.2 hi]
  refine Tt.oce (by omega) ?_
  rw [show f_X6_isWithin (nI w) 0 4 = some 1 from wi_in (k := w) (n := 4) hw (by decide)]
  refine Tt.sb (Tt.ca ((wd_firstOf en hn _).bind (fun r q => Tt.ret ?_)))
  rcases q with q | ⟨d, q1, q2⟩
  · exact Or.inl q
  · exact Or.inr ⟨d, by omega, q2⟩
end
end
