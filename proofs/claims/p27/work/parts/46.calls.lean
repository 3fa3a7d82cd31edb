/-! the calls: what would be is what is; the checksum -/
section
theorem eb_8 (G : MT) {V : MT} {b m C E S : Nat} (h : wJ b m C E S V) (f : Nat) : ∀ k y, k ≤ E → 25 ≤ f + k → (∀ n, k ≤ n → n < E → ∀ c, c < 24 → V 4 0 n = nI c → bt y c = false) → Tt (f_X5_endedBehind_8 G V f y (nI k)) (fun r => pcI r = pcI y + (E - k) ∧ ∀ c, c < 24 → bt r c = true → bt y c = true ∨ ∃ n, n < E ∧ V 4 0 n = nI c) := by
  have hcl := cov_le V C
  obtain ⟨a1, a2, a3, a4, a5, a6⟩ := h.1
  induction f with
  | zero => intro k y hk hf; omega
  | succ f ih =>
    intro k y hk hf hy
    rw [f_X5_endedBehind_8, a2]
    have fin : E = k → Tt (some y) (fun r => pcI r = pcI y + (E - k) ∧ ∀ c, c < 24 → bt r c = true → bt y c = true ∨ ∃ n, n < E ∧ V 4 0 n = nI c) := fun e => Tt.ret ⟨by omega, fun c _ z => Or.inl z⟩
    refine Tt.le E k (fun z => fin (by omega)) (fun hkE => Tt.le 24 k (fun z => fin (by omega)) (fun hk4 => Tt.inn k hk4 ?_))
    rw [wd_cl (show k < 2 ^ 31 by omega), nI_1]
    obtain ⟨i, hi, ei, i2⟩ := h.2.1.1 k hkE
    rw [ei]
    have hb0 : bt y i = false := hy k (Nat.le_refl _) hkE i (by omega) ei
    refine (ih (k + 1) (y ||| (1 <<< (nI i &&& 31))) (by omega) (by omega) (fun n hn hnE c hc ec => ?_)).mono (fun r q => ⟨?_, fun c hc z => ?_⟩)
    · rw [wd_set (by omega), hy n (by omega) hnE c hc ec]
      have : c ≠ i := by
        rintro rfl
        have := h.2.1.2.1 n k hnE hkE (by rw [ec, ei])
        omega
      rw [decide_eq_false this]; rfl
    · rw [q.1, pc_or (by omega) hb0]; omega
    · rcases q.2 c hc z with y1 | y1
      · rw [wd_set (by omega), Bool.or_eq_true, decide_eq_true_eq] at y1
        rcases y1 with y1 | y1
        · exact Or.inl y1
        · subst y1; exact Or.inr ⟨k, hkE, ei⟩
      · exact Or.inr y1
theorem wd_endedBehind (G : MT) {V : MT} {b m C E S E0 : Nat} (h : wJ b m C E S V) (h0 : E0 ≤ E) : Tt (f_X5_endedBehind G V (nI E0)) (fun r => pcI r = E - E0 ∧ ∀ c, c < 24 → bt r c = true → c < C ∧ V 7 c 5 = 2) := by
  have hcl := cov_le V C
  have hA := h.1
  obtain ⟨a1, a2, a3, a4, a5, a6⟩ := hA
  unfold f_X5_endedBehind
  have e : (if 0 < nI E0 then nI E0 else 0) = nI E0 := by
    by_cases z : E0 = 0
    · subst z; rfl
    · rw [if_pos (show (0 : Int32) < nI E0 from nI_lt (a := 0) (b := E0) (by omega) (by omega))]
  rw [e]
  refine (eb_8 G h 30 E0 0 h0 (by omega) (fun n _ _ c _ _ => b_0 c)).mono (fun r q => ⟨by rw [q.1, pc_0]; omega, fun c hc z => ?_⟩)
  rcases q.2 c hc z with y | ⟨n, hn, y⟩
  · rw [b_0] at y; exact absurd y (by decide)
  · obtain ⟨i, hi, ei, i2⟩ := h.2.1.1 n hn
    rw [y] at ei
    have := nI_i ei
    subst this
    exact ⟨hi, i2⟩
theorem wI.cle {b C E : Nat} {V : MT} (h : wI b C E V) : E ≤ C ∧ C ≤ 24 := by
  have := cov_le V C
  obtain ⟨a1, a2, a3, a4, a5, a6⟩ := h.1
  omega
theorem sg_all (G : MT) (hG : gK G) {V : MT} {b C E i r : Nat} (hb : b + 1 < 2 ^ 29) (h : wI b C E V) (hi : i < C) (hr : r ≤ 9) : ∃ V' C' E' due, wI (b + 1) C' E' V' ∧ wR C E V C' E' V' ∧ (∀ U, f_X6_signal G V U (nI i) (nI r) = some (nI (E' - E), V')) ∧ (∀ U, jT U → f_X6_wouldFall G V U (nI i) (nI r) = some (due, V')) ∧ pcI due = E' - E ∧ (∀ c, c < 24 → bt due c = true → c < C' ∧ V' 7 c 5 = 2) := by
  have hA := h.1.at
  have hz := h.cle
  obtain ⟨W1, e1, E1, -, g1, g2, g3⟩ := wd_signalTo G h (nI i) (nI i) (nI r) (nI_pos' (by omega))
  have hm1 : b + E * kB b + 1 ≤ b + 1 + E * kB (b + 1) := by
    have := Nat.mul_le_mul (Nat.le_refl E) (show kB b ≤ kB (b + 1) from Nat.mul_le_mul (Nat.le_refl 24) (by omega))
    omega
  obtain ⟨V', e2, C', E', z1, z2⟩ := wd_rest G hG (b' := b + 1) hb (by omega) g1 hm1 g2.2.1
  have R := g2.trans z2
  have hE := R.2.1
  have hz' := z1.cle
  obtain ⟨due, e3, d1, d2⟩ := wd_endedBehind G z1 hE
  have w9 : f_X6_isWithin (nI r) 0 9 = some 1 := wi_in (k := r) (n := 9) hr (by decide)
  have n12 : V' 0 0 12 - V 0 0 12 = nI (E' - E) := by rw [z1.1.2.1, h.1.2.1, pk_sub hE]
  refine ⟨V', C', E', due, z1, R, fun U => ?_, fun U hU => ?_, d1, d2⟩
  · unfold f_X6_signal
    rw [ck_at G U hA.1 hA.2 hi]
    refine Tt.val (Tt.oce (by omega) ?_)
    rw [w9]
    refine Tt.sb (Tt.ca ?_)
    rw [e1]
    refine Tt.sb ?_
    rw [e2]
    refine Tt.sb (Tt.ret ?_)
    rw [n12]
  · unfold f_X6_wouldFall
    rw [ck_at G U hA.1 hA.2 hi]
    refine Tt.val (Tt.oce (by omega) ?_)
    rw [w9]
    refine Tt.sb (Tt.ca ?_)
    rw [cp_all h hU]
    refine Tt.sb ?_
    rw [e1]
    refine Tt.sb ?_
    rw [e2]
    refine Tt.sb ?_
    rw [h.1.2.1, e3]
    exact Tt.sb (Tt.ret rfl)
theorem ld_all (G : MT) (hG : gK G) {V : MT} {b C E M k : Nat} (hb : b < 2 ^ 29) (h : wI b C E V) (hM : G 17 0 0 = nI M) (h4 : M ≤ 4) (hk : k < M) : ∃ V' C' E' due, wI b C' E' V' ∧ wR C E (pt V 1 0 k (V 1 0 k + 1)) C' E' V' ∧ (∀ v U, v < 3 → V 1 0 k = nI v → f_X6_load G V U (nI k) = some (nI (E' - E), V')) ∧ (∀ U, jT U → f_X6_wouldPurge G V U (nI k) = some (due, V')) ∧ pcI due = E' - E ∧ (∀ c, c < 24 → bt due c = true → c < C' ∧ V' 7 c 5 = 2) := by
  have hA := h.1.at
  have hz := h.cle
  obtain ⟨V', e2, C', E', z1, z2⟩ := wd_loadModule G hG hb hM h4 hk h
  have hE := z2.2.1
  have hz' := z1.cle
  obtain ⟨due, e3, d1, d2⟩ := wd_endedBehind G z1 hE
  have n12 : V' 0 0 12 - V 0 0 12 = nI (E' - E) := by rw [z1.1.2.1, h.1.2.1, pk_sub hE]
  refine ⟨V', C', E', due, z1, z2, fun v U hv ev => ?_, fun U hU => ?_, d1, d2⟩
  · unfold f_X6_load
    rw [md_has hM h4 hk]
    refine Tt.val (Tt.sb (Tt.ci ?_))
    have ec : f_X5_currentOf G V (nI k) = some (V 1 0 k) := by
      unfold f_X5_currentOf
      rw [md_has hM h4 hk, q1_e, if_pos (nI_in (by omega) (by decide)), wd_cl (by omega)]
    rw [ec, ev]
    refine Tt.sb ?_
    rw [nI_1]
    refine Tt.le 4 (v + 1) (fun z => by omega) (fun _ => Tt.cs ?_)
    rw [e2]
    refine Tt.sb (Tt.ret ?_)
    rw [n12]
  · unfold f_X6_wouldPurge
    rw [md_has hM h4 hk]
    refine Tt.val (Tt.sb (Tt.ci ?_))
    rw [cp_all h hU]
    refine Tt.sb ?_
    rw [e2]
    refine Tt.sb ?_
    rw [h.1.2.1, e3]
    exact Tt.sb (Tt.ret rfl)
theorem wd_ob57 {E0 bb u : Nat} (G V : MT) (hG : gK G) (hu : u ≤ 50) (hb : bb + 1 + 20 * u + 20 < 2 ^ 29) {k41 : Int32 → Int32 → Int32 → MT → Option (Int32 × MT)} {y1 y3 : Int32} {Q : Int32 × MT → Prop} (hk : ∀ (U' : MT) (C' E' : Nat), wI (bb + 1 + 20 * u) C' E' U' → E0 ≤ E' → Tt (k41 y1 (nI u) (y3 + 1) U') Q) (f : Nat) : ∀ (q C E : Nat) (U : MT), q ≤ u → u + 1 ≤ f + q → wI (bb + 1 + 20 * q) C E U → E0 ≤ E → Tt (f_X6_overBy_57 G V k41 f y1 (nI u) y3 (nI q) U) Q := by
  induction f with
  | zero => intro q C E U hq hf; omega
  | succ f ih =>
    intro q C E U hq hf h hE
    rw [f_X6_overBy_57]
    refine Tt.le u q (fun z => hk U C E (h.up (by omega)) hE) (fun hqu => ?_)
    refine (wd_doTurn G hG (by omega) h).bind (fun r hr => ?_)
    rcases hr with ⟨r1, r2⟩ | ⟨r1, C1, E1, g1, g2⟩
    · refine Tt.pos r1 ?_
      rw [r2]
      exact hk U C E (h.up (by omega)) hE
    · refine Tt.neg (by rw [r1]; decide) ?_
      rw [nI_1]
      exact ih (q + 1) C1 E1 r.2 (by omega) (by omega) (wI.up g1 (by omega)) (by have := g2.2.1; omega)
theorem wd_ob41 {E0 b t u : Nat} (G V : MT) (hG : gK G) (hu : u ≤ 50) (ht : t ≤ 20) (hb : b + 30000 < 2 ^ 28) (f : Nat) : ∀ (k C E : Nat) (U : MT), k ≤ t → t + 1 ≤ f + k → wI (b + 1001 * k) C E U → E0 ≤ E → Tt (f_X6_overBy_41 G V f (nI t) (nI u) (nI k) U) (fun r => (∃ d, E0 ≤ d ∧ d ≤ 24 ∧ r.1 = nI d) ∧ jT r.2) := by
  induction f with
  | zero => intro k C E U hk hf; omega
  | succ f ih =>
    intro k C E U hk hf h hE
    rw [f_X6_overBy_41]
    have hz := h.cle
    refine Tt.le t k (fun _ => Tt.ret ⟨⟨E, hE, by omega, h.1.2.1⟩, wJ.T h⟩) (fun hkt => ?_)
    refine (wd_passTime G (by omega) h).bind (fun r hr => ?_)
    obtain ⟨-, g1, g2⟩ := hr
    refine wd_ob57 G V hG hu (E0 := E0) (bb := b + 1001 * k) (by omega) (fun U' C' E' w1 w2 => ?_) 60 0 C E r.2 (by omega) (by omega) g1 hE
    rw [nI_1]
    exact ih (k + 1) C' E' U' (by omega) (by omega) (w1.up (by omega)) w2
theorem ov_all (G : MT) (hG : gK G) {V : MT} {b C E t u : Nat} (hb : b + 30000 < 2 ^ 28) (h : wI b C E V) (hu : u ≤ 50) (hu1 : 1 ≤ u) (ht : t ≤ 20) (ht1 : 1 ≤ t) : ∃ d W, E ≤ d ∧ d ≤ 24 ∧ jT W ∧ ∀ U, jT U → f_X6_overBy G V U (nI t) (nI u) = some (nI d, W) := by
  obtain ⟨r, er, ⟨d, d1, d2, d3⟩, rT⟩ := wd_ob41 (E0 := E) G V hG hu ht hb 60 0 C E V (by omega) (by omega) h (Nat.le_refl _)
  obtain ⟨r1, r2⟩ := r
  refine ⟨d, r2, d1, d2, rT, fun U hU => ?_⟩
  have w1 : f_X6_isWithin (nI t) 1 20 = some 1 := by
    unfold f_X6_isWithin
    rw [if_neg (show ¬ nI t < (1 : Int32) from nI_nlt (a := t) (b := 1) ht1 (by omega)), if_neg (show ¬ (20 : Int32) < nI t from nI_nlt (a := 20) (b := t) ht (by omega))]
  have w2 : f_X6_isWithin (nI u) 1 50 = some 1 := by
    unfold f_X6_isWithin
    rw [if_neg (show ¬ nI u < (1 : Int32) from nI_nlt (a := u) (b := 1) hu1 (by omega)), if_neg (show ¬ (50 : Int32) < nI u from nI_nlt (a := 50) (b := u) hu (by omega))]
  unfold f_X6_overBy
  rw [w1, q1_e, w2, q1_e]
  refine Tt.val (Tt.ca ?_)
  rw [cp_all h hU]
  refine Tt.sb (Tt.eq er ?_)
  show (r1, r2) = (nI d, r2)
  rw [show r1 = nI d from d3]
section
variable {b C E M : Nat} {G V : MT}
/-- one answer, whatever the world that is tried out was -/
def DD (F : MT → Option (Int64 × MT)) : Prop := ∃ d, ∀ U, jT U → ∃ W, F U = some (d, W) ∧ jT W
theorem DD.rd {F : MT → Option (Int64 × MT)} {K : Int32 → MT → Option (Int64 × MT)} {o : Option Int32} (ho : Tt o (fun _ => True)) (hF : ∀ U, F U = o.bind (fun q => K q U)) (hK : ∀ q, DD (K q)) : DD F := by
  obtain ⟨r, er, -⟩ := ho
  obtain ⟨d, hd⟩ := hK r
  refine ⟨d, fun U hU => ?_⟩
  obtain ⟨W, e, j⟩ := hd U hU
  exact ⟨W, by rw [hF, er]; exact e, j⟩
theorem DD.wr {F : MT → Option (Int64 × MT)} {K : Int32 → MT → Option (Int64 × MT)} {o : MT → Option (Int32 × MT)} (ho : ∃ d W, jT W ∧ ∀ U, jT U → o U = some (d, W)) (hF : ∀ U, F U = (o U).bind (fun q => K q.1 q.2)) (hK : ∀ q, DD (K q)) : DD F := by
  obtain ⟨r, W0, jW, er⟩ := ho
  obtain ⟨d, hd⟩ := hK r
  refine ⟨d, fun U hU => ?_⟩
  obtain ⟨W, e, j⟩ := hd W0 jW
  exact ⟨W, by rw [hF, er U hU]; exact e, j⟩
theorem DD.dd {F : MT → Option (Int64 × MT)} {K : Int64 → MT → Option (Int64 × MT)} {o : MT → Option (Int64 × MT)} (ho : DD o) (hF : ∀ U, F U = (o U).bind (fun q => K q.1 q.2)) (hK : ∀ q, DD (K q)) : DD F := by
  obtain ⟨r, hr⟩ := ho
  obtain ⟨d, hd⟩ := hK r
  refine ⟨d, fun U hU => ?_⟩
  obtain ⟨W0, e0, j0⟩ := hr U hU
  obtain ⟨W, e, j⟩ := hd W0 j0
  exact ⟨W, by rw [hF, e0]; exact e, j⟩
theorem DD.eq {F F' : MT → Option (Int64 × MT)} (h : DD F') (e : ∀ U, F U = F' U) : DD F := by
  have : F = F' := funext e
  rw [this]; exact h
theorem wf_DD (hG : gK G) (hb : b + 30000 < 2 ^ 28) (h : wI b C E V) {p r : Nat} (hp : p < C) (hr : r ≤ 9) : ∃ d W, jT W ∧ ∀ U, jT U → f_X6_wouldFall G V U (nI p) (nI r) = some (d, W) := by
  obtain ⟨V', C', E', due, z1, -, -, z2, -, -⟩ := sg_all G hG (by omega) h hp hr
  exact ⟨due, V', wJ.T z1, z2⟩
theorem dg_132 (hG : gK G) (hb : b + 30000 < 2 ^ 28) (h : wI b C E V) {p : Nat} (hp : p < C) (f : Nat) : ∀ k y, k ≤ 7 → 8 ≤ f + k → DD (fun U => f_X6_digestOfProcess_132 G V f (nI p) y (nI k) U) := by
  induction f with
  | zero => intro k y hk hf; omega
  | succ f ih =>
    intro k y hk hf
    by_cases e : k = 7
    · subst e
      have e0 : ∀ U, f_X6_digestOfProcess_132 G V (f + 1) (nI p) y (nI 7) U = ((f_X6_wouldFall G V U (nI p) 0).bind (fun q6_ => (f_X6_wouldFall G V q6_.2 (nI p) 1).bind (fun q7_ => (f_X6_wouldFall G V q7_.2 (nI p) 9).bind (fun q8_ => (f_X6_passedOver G V q8_.2 (nI p) 1).bind (fun q9_ => some ((((((((y * 31) + (Int32.toInt64 q6_.1)) * 31) + (Int32.toInt64 q7_.1)) * 31) + (Int32.toInt64 q8_.1)) * 31) + (Int32.toInt64 q9_), q8_.2)))))) := fun U => by
        rw [f_X6_digestOfProcess_132, if_pos (show (6 : Int32) < nI 7 by decide)]
      refine DD.wr (o := fun U => f_X6_wouldFall G V U (nI p) 0) (K := fun q6 U => (f_X6_wouldFall G V U (nI p) 1).bind (fun q7_ => (f_X6_wouldFall G V q7_.2 (nI p) 9).bind (fun q8_ => (f_X6_passedOver G V q8_.2 (nI p) 1).bind (fun q9_ => some ((((((((y * 31) + (Int32.toInt64 q6)) * 31) + (Int32.toInt64 q7_.1)) * 31) + (Int32.toInt64 q8_.1)) * 31) + (Int32.toInt64 q9_), q8_.2))))) (wf_DD hG hb h hp (r := 0) (by decide)) e0 (fun q6 => ?_)
      refine DD.wr (o := fun U => f_X6_wouldFall G V U (nI p) 1) (K := fun q7 U => (f_X6_wouldFall G V U (nI p) 9).bind (fun q8_ => (f_X6_passedOver G V q8_.2 (nI p) 1).bind (fun q9_ => some ((((((((y * 31) + (Int32.toInt64 q6)) * 31) + (Int32.toInt64 q7)) * 31) + (Int32.toInt64 q8_.1)) * 31) + (Int32.toInt64 q9_), q8_.2)))) (wf_DD hG hb h hp (r := 1) (by decide)) (fun _ => rfl) (fun q7 => ?_)
      refine DD.wr (o := fun U => f_X6_wouldFall G V U (nI p) 9) (K := fun q8 U => (f_X6_passedOver G V U (nI p) 1).bind (fun q9_ => some ((((((((y * 31) + (Int32.toInt64 q6)) * 31) + (Int32.toInt64 q7)) * 31) + (Int32.toInt64 q8)) * 31) + (Int32.toInt64 q9_), U))) (wf_DD hG hb h hp (r := 9) (by decide)) (fun _ => rfl) (fun q8 => ?_)
      exact DD.rd (o := f_X6_passedOver G V V (nI p) 1) (K := fun q9 U => some ((((((((y * 31) + (Int32.toInt64 q6)) * 31) + (Int32.toInt64 q7)) * 31) + (Int32.toInt64 q8)) * 31) + (Int32.toInt64 q9), U)) ((po_T G V h hp (w := 1) (by decide)).mono (fun _ _ => trivial)) (fun _ => rfl) (fun q9 => ⟨_, fun U hU => ⟨U, rfl, hU⟩⟩)
    · refine DD.rd (o := f_X6_ofSupervisor G V V (nI p) (nI k)) (K := fun q10 U => f_X6_digestOfProcess_132 G V f (nI p) ((y * 31) + (Int32.toInt64 q10)) (nI (k + 1)) U) ((os_T G V h hp (w := k) (by omega)).mono (fun _ _ => trivial)) (fun U => ?_) (fun q => ih (k + 1) _ (by omega) (by omega))
      rw [f_X6_digestOfProcess_132, if_neg (show ¬ (6 : Int32) < nI k from nI_nlt (a := 6) (b := k) (by omega) (by omega)), nI_1]
      rfl
theorem dg_80 (hG : gK G) (hb : b + 30000 < 2 ^ 28) (h : wI b C E V) {p n : Nat} (hp : p < C) (hn : V 10 p 2 = nI n) (h8 : n ≤ 8) (f : Nat) : ∀ k y, k ≤ n → 9 ≤ f + k → DD (fun U => f_X6_digestOfProcess_80 G V f (nI p) y (nI n) (nI k) U) := by
  induction f with
  | zero => intro k y hk hf; omega
  | succ f ih =>
    intro k y hk hf
    by_cases e : n = k
    · subst e
      refine (dg_132 hG hb h hp 30 0 y (by omega) (by omega)).eq (fun U => ?_)
      rw [f_X6_digestOfProcess_80, if_pos (nI_le (Nat.le_refl _) (by omega))]
      rfl
    · refine DD.rd (o := f_X6_mail G V V (nI p) (nI k) 0) (K := fun q11 U => (f_X6_mail G V U (nI p) (nI k) 1).bind (fun q12_ => f_X6_digestOfProcess_80 G V f (nI p) ((((y * 31) + (Int32.toInt64 q11)) * 31) + (Int32.toInt64 q12_)) (nI n) (nI (k + 1)) U)) (ml_T G V h hp hn h8 (w := k) (x := 0) (by omega) (by decide)) (fun U => ?_) (fun q11 => ?_)
      · rw [f_X6_digestOfProcess_80, if_neg (nI_ge (show k < n by omega) (by omega)), nI_1]
        rfl
      · exact DD.rd (o := f_X6_mail G V V (nI p) (nI k) 1) (K := fun q12 U => f_X6_digestOfProcess_80 G V f (nI p) ((((y * 31) + (Int32.toInt64 q11)) * 31) + (Int32.toInt64 q12)) (nI n) (nI (k + 1)) U) (ml_T G V h hp hn h8 (w := k) (x := 1) (by omega) (by decide)) (fun U => rfl) (fun q12 => ih (k + 1) _ (by omega) (by omega))
theorem dg_39 (hG : gK G) (hb : b + 30000 < 2 ^ 28) (h : wI b C E V) {p : Nat} (hp : p < C) (f : Nat) : ∀ k y, k ≤ 4 → 5 ≤ f + k → DD (fun U => f_X6_digestOfProcess_39 G V f (nI p) y (nI k) U) := by
  induction f with
  | zero => intro k y hk hf; omega
  | succ f ih =>
    intro k y hk hf
    by_cases e : k = 4
    · subst e
      obtain ⟨n, hn, en⟩ := (h.2.2.1 p hp).2.2.2.2.2.1
      refine (dg_80 hG hb h hp en hn 30 0 y (by omega) (by omega)).eq (fun U => ?_)
      rw [f_X6_digestOfProcess_39, if_pos (show (4 : Int32) ≤ nI 4 by decide), op_8 G U h hp, en]
      rfl
    · refine DD.rd (o := f_X6_local G V V (nI p) (nI k)) (K := fun q U => f_X6_digestOfProcess_39 G V f (nI p) ((y * 31) + (Int32.toInt64 q)) (nI (k + 1)) U) (lo_T G V h hp (w := k) (by omega)) (fun U => ?_) (fun q => ih (k + 1) _ (by omega) (by omega))
      rw [f_X6_digestOfProcess_39, if_neg (show ¬ (4 : Int32) ≤ nI k from nI_ge (a := k) (b := 4) (by omega) (by omega)), nI_1]
      rfl
theorem dg_p6 (hG : gK G) (hb : b + 30000 < 2 ^ 28) (h : wI b C E V) {p : Nat} (hp : p < C) (f : Nat) : ∀ k y, k ≤ 13 → 14 ≤ f + k → DD (fun U => f_X6_digestOfProcess_6 G V f (nI p) y (nI k) U) := by
  induction f with
  | zero => intro k y hk hf; omega
  | succ f ih =>
    intro k y hk hf
    by_cases e : k = 13
    · subst e
      refine (dg_39 hG hb h hp 30 0 y (by omega) (by omega)).eq (fun U => ?_)
      rw [f_X6_digestOfProcess_6, if_pos (show (12 : Int32) < nI 13 by decide)]
      rfl
    · refine DD.rd (o := f_X6_ofProcess G V V (nI p) (nI k)) (K := fun q U => f_X6_digestOfProcess_6 G V f (nI p) ((y * 31) + (Int32.toInt64 q)) (nI (k + 1)) U) (op_T G V h hp (w := k) (by omega)) (fun U => ?_) (fun q => ih (k + 1) _ (by omega) (by omega))
      rw [f_X6_digestOfProcess_6, if_neg (show ¬ (12 : Int32) < nI k from nI_nlt (a := 12) (b := k) (by omega) (by omega)), nI_1]
      rfl
theorem dg_121 (hG : gK G) (hb : b + 30000 < 2 ^ 28) (h : wI b C E V) (f : Nat) : ∀ k y, k ≤ 4 → 5 ≤ f + k → DD (fun U => f_X6_digest_121 G V f y (nI k) U) := by
  induction f with
  | zero => intro k y hk hf; omega
  | succ f ih =>
    intro k y hk hf
    by_cases e : k = 4
    · subst e
      obtain ⟨d1, W1, -, -, j1, o1⟩ := ov_all G hG hb h (u := 5) (t := 1) (by decide) (by decide) (by decide) (by decide)
      obtain ⟨d2, W2, -, -, j2, o2⟩ := ov_all G hG hb h (u := 10) (t := 3) (by decide) (by decide) (by decide) (by decide)
      refine ⟨(((y * 31) + (Int32.toInt64 (nI d1))) * 31) + (Int32.toInt64 (nI d2)), fun U hU => ⟨W2, ?_, j2⟩⟩
      show f_X6_digest_121 G V (f + 1) y (nI 4) U = _
      rw [f_X6_digest_121, if_pos (show (4 : Int32) ≤ nI 4 by decide), show f_X6_overBy G V U 1 5 = some (nI d1, W1) from o1 U hU]
      show ((f_X6_overBy G V W1 3 10).bind (fun q6_ => some ((((y * 31) + (Int32.toInt64 (nI d1))) * 31) + (Int32.toInt64 q6_.1), q6_.2))) = _
      rw [show f_X6_overBy G V W1 3 10 = some (nI d2, W2) from o2 W1 j1]
      rfl
    · refine DD.rd (o := f_X6_named G V V (nI k)) (K := fun q U => f_X6_digest_121 G V f ((y * 31) + (Int32.toInt64 q)) (nI (k + 1)) U) ⟨_, nm_at G V (k := k) (by omega), trivial⟩ (fun U => ?_) (fun q => ih (k + 1) _ (by omega) (by omega))
      rw [f_X6_digest_121, if_neg (show ¬ (4 : Int32) ≤ nI k from nI_ge (a := k) (b := 4) (by omega) (by omega)), nI_1]
      rfl
theorem dg_95 (hG : gK G) (hb : b + 30000 < 2 ^ 28) (h : wI b C E V) (f : Nat) : ∀ k y, k ≤ C → 25 ≤ f + k → DD (fun U => f_X6_digest_95 G V f y (nI k) U) := by
  have hA := h.1.at
  induction f with
  | zero => intro k y hk hf; omega
  | succ f ih =>
    intro k y hk hf
    by_cases e : C = k
    · subst e
      refine (dg_121 hG hb h 30 0 y (by omega) (by omega)).eq (fun U => ?_)
      rw [f_X6_digest_95, hA.1, if_pos (nI_le (Nat.le_refl _) (by omega))]
      rfl
    · refine DD.dd (o := fun U => f_X6_digestOfProcess G V U y (nI k)) (K := fun q U => f_X6_digest_95 G V f q (nI (k + 1)) U) (dg_p6 hG hb h (p := k) (by omega) 30 0 y (by omega) (by omega)) (fun U => ?_) (fun q => ih (k + 1) _ (by omega) (by omega))
      rw [f_X6_digest_95, hA.1, if_neg (nI_ge (show k < C by omega) (by omega)), nI_1]
theorem dg_47 (hG : gK G) (hb : b + 30000 < 2 ^ 28) (h : wI b C E V) (hM : G 17 0 0 = nI M) (h4 : M ≤ 4) {p : Nat} (hp : p < M) {k33 : Int64 → Int32 → MT → Option (Int64 × MT)} (hk : ∀ y, DD (fun U => k33 y (nI (p + 1)) U)) (f : Nat) : ∀ k y, k ≤ 5 → 6 ≤ f + k → DD (fun U => f_X6_digest_47 G V k33 f y (nI p) (nI k) U) := by
  induction f with
  | zero => intro k y hk hf; omega
  | succ f ih =>
    intro k y hk2 hf
    by_cases e : k = 5
    · subst e
      obtain ⟨V', C', E', due, z1, -, -, z2, -, -⟩ := ld_all G hG (by omega) h hM h4 hp
      refine DD.wr (o := fun U => f_X6_wouldPurge G V U (nI p)) (K := fun q U => k33 ((y * 31) + (Int32.toInt64 q)) (nI (p + 1)) U) ⟨due, V', wJ.T z1, z2⟩ (fun U => ?_) (fun q => hk _)
      rw [f_X6_digest_47, if_pos (show (4 : Int32) < nI 5 by decide), nI_1]
    · refine DD.rd (o := f_X6_ofModule G V V (nI p) (nI k)) (K := fun q U => f_X6_digest_47 G V k33 f ((y * 31) + (Int32.toInt64 q)) (nI p) (nI (k + 1)) U) ((om_T G V h hM h4 hp (w := k) (by omega)).mono (fun _ _ => trivial)) (fun U => ?_) (fun q => ih (k + 1) _ (by omega) (by omega))
      rw [f_X6_digest_47, if_neg (show ¬ (4 : Int32) < nI k from nI_nlt (a := 4) (b := k) (by omega) (by omega)), nI_1]
      rfl
theorem dg_33 (hG : gK G) (hb : b + 30000 < 2 ^ 28) (h : wI b C E V) (hM : G 17 0 0 = nI M) (h4 : M ≤ 4) (f : Nat) : ∀ k y, k ≤ M → 5 ≤ f + k → DD (fun U => f_X6_digest_33 G V f y (nI k) U) := by
  induction f with
  | zero => intro k y hk hf; omega
  | succ f ih =>
    intro k y hk hf
    by_cases e : M = k
    · subst e
      refine (dg_95 hG hb h 30 0 y (Nat.zero_le _) (by omega)).eq (fun U => ?_)
      rw [f_X6_digest_33, hM, if_pos (nI_le (Nat.le_refl _) (by omega))]
      rfl
    · refine (dg_47 hG hb h hM h4 (p := k) (by omega) (k33 := f_X6_digest_33 G V f) (fun y => ih (k + 1) y (by omega) (by omega)) 30 0 y (by omega) (by omega)).eq (fun U => ?_)
      rw [f_X6_digest_33, hM, if_neg (nI_ge (show k < M by omega) (by omega))]
      rfl
theorem dg_6 (hG : gK G) (hb : b + 30000 < 2 ^ 28) (h : wI b C E V) (hM : G 17 0 0 = nI M) (h4 : M ≤ 4) (f : Nat) : ∀ k y, k ≤ 13 → 14 ≤ f + k → DD (fun U => f_X6_digest_6 G V f y (nI k) U) := by
  induction f with
  | zero => intro k y hk hf; omega
  | succ f ih =>
    intro k y hk hf
    by_cases e : k = 13
    · subst e
      refine (dg_33 hG hb h hM h4 30 0 y (Nat.zero_le _) (by omega)).eq (fun U => ?_)
      rw [f_X6_digest_6, if_pos (show (12 : Int32) < nI 13 by decide)]
      rfl
    · refine DD.rd (o := f_X6_many G V V (nI k)) (K := fun q U => f_X6_digest_6 G V f ((y * 31) + (Int32.toInt64 q)) (nI (k + 1)) U) (mn_T G V h (w := k) (by omega)) (fun U => ?_) (fun q => ih (k + 1) _ (by omega) (by omega))
      rw [f_X6_digest_6, if_neg (show ¬ (12 : Int32) < nI k from nI_nlt (a := 12) (b := k) (by omega) (by omega)), nI_1]
      rfl
theorem dg_all (hG : gK G) (hb : b + 30000 < 2 ^ 28) (h : wI b C E V) (hM : G 17 0 0 = nI M) (h4 : M ≤ 4) : DD (fun U => f_X6_digest G V U) := dg_6 hG hb h hM h4 30 0 58144 (by omega) (by omega)
end
end
