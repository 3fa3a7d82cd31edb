/-! how many bits are set -/
section
theorem nx_and (a b : Nat) : nI a &&& nI b = nI (a &&& b) := by
  apply Int32.toBitVec_inj.1
  show BitVec.ofNat 32 a &&& BitVec.ofNat 32 b = BitVec.ofNat 32 (a &&& b)
  apply BitVec.eq_of_getLsbD_eq
  intro i hi
  simp [hi]
def p16 (n : Nat) : Nat := n % 2 + n / 2 % 2 + n / 4 % 2 + n / 8 % 2
def pcN : Nat → Nat → Nat
  | 0, _ => 0
  | k + 1, X => p16 (X % 16) + pcN k (X / 16)
def s1N : Nat → Nat → Nat
  | 0, _ => 0
  | k + 1, X => (X % 16 - ((X % 16 / 2) &&& 5)) + 16 * s1N k (X / 16)
def pkN : Nat → Nat → Nat
  | 0, _ => 0
  | k + 1, X => p16 (X % 16) + 16 * pkN k (X / 16)
def mN (c : Nat) : Nat → Nat
  | 0 => 0
  | k + 1 => c + 16 * mN c k
theorem an_w {a b A B n : Nat} (ha : a < 2 ^ n) (hb : b < 2 ^ n) : (a + 2 ^ n * A) &&& (b + 2 ^ n * B) = (a &&& b) + 2 ^ n * (A &&& B) := by
  have h1 : ((a + 2 ^ n * A) &&& (b + 2 ^ n * B)) % 2 ^ n = a &&& b := by
    rw [Nat.and_mod_two_pow, Nat.add_mul_mod_self_left, Nat.add_mul_mod_self_left, Nat.mod_eq_of_lt ha, Nat.mod_eq_of_lt hb]
  have h2 : ((a + 2 ^ n * A) &&& (b + 2 ^ n * B)) / 2 ^ n = A &&& B := by
    rw [Nat.and_div_two_pow, Nat.add_mul_div_left _ _ (Nat.two_pow_pos n), Nat.add_mul_div_left _ _ (Nat.two_pow_pos n), Nat.div_eq_of_lt ha, Nat.div_eq_of_lt hb, Nat.zero_add, Nat.zero_add]
  have h3 := Nat.mod_add_div ((a + 2 ^ n * A) &&& (b + 2 ^ n * B)) (2 ^ n)
  rw [h1, h2] at h3
  exact h3.symm
theorem an_4 {a b A B : Nat} (ha : a < 16) (hb : b < 16) : (a + 16 * A) &&& (b + 16 * B) = (a &&& b) + 16 * (A &&& B) := an_w (n := 4) ha hb
theorem an_8 {a b A B : Nat} (ha : a < 256) (hb : b < 256) : (a + 256 * A) &&& (b + 256 * B) = (a &&& b) + 256 * (A &&& B) := an_w (n := 8) ha hb
theorem st_1a : ∀ n, n < 16 → ∀ t, t < 2 → (n / 2 + 8 * t) &&& 5 = (n / 2) &&& 5 ∧ (n / 2) &&& 5 ≤ n := by decide +kernel
theorem st_2a : ∀ n, n < 16 → ∀ t, t < 4 → ((n - ((n / 2) &&& 5)) &&& 3) + (((n - ((n / 2) &&& 5)) / 4 + 4 * t) &&& 3) = p16 n := by decide +kernel
theorem st_1 (k : Nat) : ∀ X, X < 16 ^ k → (X / 2) &&& mN 5 k ≤ X ∧ X - ((X / 2) &&& mN 5 k) = s1N k X := by
  induction k with
  | zero => intro X hX; have : X = 0 := by simpa using hX
            subst this; exact ⟨by decide, by decide⟩
  | succ k ih =>
    intro X hX
    have h16 : X / 16 < 16 ^ k := by
      rw [Nat.pow_succ] at hX
      omega
    obtain ⟨i1, i2⟩ := ih (X / 16) h16
    have e : X / 2 = (X % 16 / 2 + 8 * (X / 16 % 2)) + 16 * (X / 16 / 2) := by omega
    have l := st_1a (X % 16) (by omega) (X / 16 % 2) (by omega)
    show (X / 2) &&& (5 + 16 * mN 5 k) ≤ X ∧ X - ((X / 2) &&& (5 + 16 * mN 5 k)) = (X % 16 - ((X % 16 / 2) &&& 5)) + 16 * s1N k (X / 16)
    rw [e, an_4 (by omega) (by omega), l.1, ← i2]
    omega
theorem st_2 (k : Nat) : ∀ X, X < 16 ^ k → (s1N k X &&& mN 3 k) + ((s1N k X / 4) &&& mN 3 k) = pkN k X := by
  induction k with
  | zero => intro X _; exact (by decide : (0 &&& 0) + (0 / 4 &&& 0) = 0)
  | succ k ih =>
    intro X hX
    have h16 : X / 16 < 16 ^ k := by
      rw [Nat.pow_succ] at hX
      omega
    have i1 := ih (X / 16) h16
    have l := st_2a (X % 16) (by omega) (s1N k (X / 16) % 4) (by omega)
    show (((X % 16 - ((X % 16 / 2) &&& 5)) + 16 * s1N k (X / 16)) &&& (3 + 16 * mN 3 k)) + ((((X % 16 - ((X % 16 / 2) &&& 5)) + 16 * s1N k (X / 16)) / 4) &&& (3 + 16 * mN 3 k)) = p16 (X % 16) + 16 * pkN k (X / 16)
    have e : ((X % 16 - ((X % 16 / 2) &&& 5)) + 16 * s1N k (X / 16)) / 4 = ((X % 16 - ((X % 16 / 2) &&& 5)) / 4 + 4 * (s1N k (X / 16) % 4)) + 16 * (s1N k (X / 16) / 4) := by omega
    rw [e, an_4 (by omega) (by omega), an_4 (by omega) (by omega), ← l, ← i1]
    omega
theorem p16_le (n : Nat) : p16 n ≤ 4 := by
  unfold p16
  omega
theorem st_3 {a0 a1 a2 a3 : Nat} (h0 : a0 < 256) (h1 : a1 < 256) (h2 : a2 < 256) (h3 : a3 < 256) : (a0 + 256 * (a1 + 256 * (a2 + 256 * a3))) &&& 252645135 = a0 % 16 + 256 * (a1 % 16 + 256 * (a2 % 16 + 256 * (a3 % 16))) := by
  have m : ∀ a, a &&& 15 = a % 16 := fun a => Nat.and_two_pow_sub_one_eq_mod a 4
  rw [show (252645135 : Nat) = 15 + 256 * (15 + 256 * (15 + 256 * 15)) from rfl, an_8 h0 (by decide), an_8 h1 (by decide), an_8 h2 (by decide), m, m, m, m]
theorem us_n {n k : Nat} (hn : n < 2 ^ 32) (hk : k < 32) : us (nI n) (nI k) = nI (n / 2 ^ k) := by
  unfold us
  exact pk_ushrN hn (nI k) k (s_u k hk)
def pcI (x : Int32) : Nat := pcN 8 x.toBitVec.toNat
theorem bc_n {p0 p1 p2 p3 p4 p5 p6 p7 : Nat} (h0 : p0 ≤ 4) (h1 : p1 ≤ 4) (h2 : p2 ≤ 4) (h3 : p3 ≤ 4) (h4 : p4 ≤ 4) (h5 : p5 ≤ 4) (h6 : p6 ≤ 4) (h7 : p7 ≤ 4) {B : Nat} (hB : B = p0 + 16 * (p1 + 16 * (p2 + 16 * (p3 + 16 * (p4 + 16 * (p5 + 16 * (p6 + 16 * p7))))))) : (B + B / 16) &&& 252645135 = (p0 + p1) + 256 * ((p2 + p3) + 256 * ((p4 + p5) + 256 * (p6 + p7))) := by
  have e : B + B / 16 = ((p0 + p1) + 16 * (p1 + p2)) + 256 * (((p2 + p3) + 16 * (p3 + p4)) + 256 * (((p4 + p5) + 16 * (p5 + p6)) + 256 * ((p6 + p7) + 16 * p7))) := by omega
  have t : ∀ a b, a < 16 → (a + 16 * b) % 16 = a := fun a b h => by omega
  rw [e, st_3 (by omega) (by omega) (by omega) (by omega), t _ _ (by omega), t _ _ (by omega), t _ _ (by omega), t _ _ (by omega)]
theorem bc_at (x : Int32) : f_J6_bitCount_0f7a4 x = some (nI (pcI x)) := by
  have hX : x.toBitVec.toNat < 2 ^ 32 := x.toBitVec.isLt
  have ex : x = nI x.toBitVec.toNat := Int32.toBitVec_inj.mp (by show _ = BitVec.ofNat 32 _; simp)
  unfold pcI
  generalize x.toBitVec.toNat = X at hX ex
  subst ex
  have q1 := st_1 8 X (by simpa using hX)
  have q2 := st_2 8 X (by simpa using hX)
  have m5 : mN 5 8 = 1431655765 := by decide
  have m3 : mN 3 8 = 858993459 := by decide
  rw [m5] at q1
  rw [m3] at q2
  have hA : s1N 8 X < 2 ^ 32 := by rw [← q1.2]; omega
  have e1 : nI X - ((us (nI X) 1) &&& 1431655765) = nI (s1N 8 X) := by
    rw [show us (nI X) 1 = nI (X / 2) from us_n (k := 1) hX (by decide), show nI (X / 2) &&& 1431655765 = nI (X / 2 &&& 1431655765) from nx_and _ 1431655765, pk_sub q1.1, q1.2]
  have e2 : (nI (s1N 8 X) &&& 858993459) + ((us (nI (s1N 8 X)) 2) &&& 858993459) = nI (pkN 8 X) := by
    rw [show us (nI (s1N 8 X)) 2 = nI (s1N 8 X / 4) from us_n (k := 2) hA (by decide), show nI (s1N 8 X / 4) &&& 858993459 = nI (s1N 8 X / 4 &&& 858993459) from nx_and _ 858993459, show nI (s1N 8 X) &&& 858993459 = nI (s1N 8 X &&& 858993459) from nx_and _ 858993459, nI_add, q2]
  obtain ⟨p0, h0, a0⟩ : ∃ p, p ≤ 4 ∧ p16 (X % 16) = p := ⟨_, p16_le _, rfl⟩
  obtain ⟨p1, h1, a1⟩ : ∃ p, p ≤ 4 ∧ p16 (X / 16 % 16) = p := ⟨_, p16_le _, rfl⟩
  obtain ⟨p2, h2, a2⟩ : ∃ p, p ≤ 4 ∧ p16 (X / 16 / 16 % 16) = p := ⟨_, p16_le _, rfl⟩
  obtain ⟨p3, h3, a3⟩ : ∃ p, p ≤ 4 ∧ p16 (X / 16 / 16 / 16 % 16) = p := ⟨_, p16_le _, rfl⟩
  obtain ⟨p4, h4, a4⟩ : ∃ p, p ≤ 4 ∧ p16 (X / 16 / 16 / 16 / 16 % 16) = p := ⟨_, p16_le _, rfl⟩
  obtain ⟨p5, h5, a5⟩ : ∃ p, p ≤ 4 ∧ p16 (X / 16 / 16 / 16 / 16 / 16 % 16) = p := ⟨_, p16_le _, rfl⟩
  obtain ⟨p6, h6, a6⟩ : ∃ p, p ≤ 4 ∧ p16 (X / 16 / 16 / 16 / 16 / 16 / 16 % 16) = p := ⟨_, p16_le _, rfl⟩
  obtain ⟨p7, h7, a7⟩ : ∃ p, p ≤ 4 ∧ p16 (X / 16 / 16 / 16 / 16 / 16 / 16 / 16 % 16) = p := ⟨_, p16_le _, rfl⟩
  have hP : pkN 8 X = p0 + 16 * (p1 + 16 * (p2 + 16 * (p3 + 16 * (p4 + 16 * (p5 + 16 * (p6 + 16 * p7)))))) := by
    rw [← a0, ← a1, ← a2, ← a3, ← a4, ← a5, ← a6, ← a7]; rfl
  have hS : pcN 8 X = p0 + (p1 + (p2 + (p3 + (p4 + (p5 + (p6 + p7)))))) := by
    rw [← a0, ← a1, ← a2, ← a3, ← a4, ← a5, ← a6, ← a7]; rfl
  have hC := bc_n h0 h1 h2 h3 h4 h5 h6 h7 hP
  have e3 : ((nI (pkN 8 X)) + (us (nI (pkN 8 X)) 4)) &&& 252645135 = nI ((p0 + p1) + 256 * ((p2 + p3) + 256 * ((p4 + p5) + 256 * (p6 + p7)))) := by
    rw [show us (nI (pkN 8 X)) 4 = nI (pkN 8 X / 16) from us_n (k := 4) (by omega) (by decide), nI_add, show nI (pkN 8 X + pkN 8 X / 16) &&& 252645135 = nI ((pkN 8 X + pkN 8 X / 16) &&& 252645135) from nx_and _ 252645135, hC]
  generalize hc : (p0 + p1) + 256 * ((p2 + p3) + 256 * ((p4 + p5) + 256 * (p6 + p7))) = c at e3
  have d1 : c / 256 = (p2 + p3) + 256 * ((p4 + p5) + 256 * (p6 + p7)) := by omega
  have d2 : (c + c / 256) / 65536 = (p4 + p5 + p6 + p7) + 256 * (p6 + p7) := by rw [d1]; omega
  have d3 : c + c / 256 + (c + c / 256) / 65536 = (p0 + (p1 + (p2 + (p3 + (p4 + (p5 + (p6 + p7))))))) + 64 * (4 * (p2 + p3) + 1028 * (p4 + p5) + 263172 * (p6 + p7)) := by rw [d2, d1]; omega
  have e4 : nI c + us (nI c) 8 = nI (c + c / 256) := by
    rw [show us (nI c) 8 = nI (c / 256) from us_n (k := 8) (by omega) (by decide), nI_add]
  have e5 : (nI (c + c / 256) + us (nI (c + c / 256)) 16) &&& 63 = nI (pcN 8 X) := by
    rw [show us (nI (c + c / 256)) 16 = nI ((c + c / 256) / 65536) from us_n (k := 16) (by omega) (by decide), nI_add, show nI (c + c / 256 + (c + c / 256) / 65536) &&& 63 = nI ((c + c / 256 + (c + c / 256) / 65536) &&& 63) from nx_and _ 63, show (c + c / 256 + (c + c / 256) / 65536) &&& 63 = (c + c / 256 + (c + c / 256) / 65536) % 64 from Nat.and_two_pow_sub_one_eq_mod _ 6, hS, d3, Nat.add_mul_mod_self_left, Nat.mod_eq_of_lt (by omega)]
  unfold f_J6_bitCount_0f7a4
  rw [e1, e2, e3, e4, e5]
theorem pc_a : ∀ n, n < 16 → ∀ j, j < 4 → n.testBit j = false → p16 ((n ||| 2 ^ j) % 16) = p16 n + 1 := by decide +kernel
theorem pc_set (k : Nat) : ∀ (X j : Nat), j < 4 * k → X.testBit j = false → pcN k (X ||| 2 ^ j) = pcN k X + 1 := by
  induction k with
  | zero => intro X j hj; omega
  | succ k ih =>
    intro X j hj hb
    show p16 ((X ||| 2 ^ j) % 16) + pcN k ((X ||| 2 ^ j) / 16) = p16 (X % 16) + pcN k (X / 16) + 1
    by_cases h4 : j < 4
    · have e1 : (X ||| 2 ^ j) / 16 = X / 16 := by
        have := Nat.or_div_two_pow (a := X) (b := 2 ^ j) (n := 4)
        rw [show (2 : Nat) ^ 4 = 16 from rfl] at this
        rw [this, Nat.div_eq_of_lt (show 2 ^ j < 16 from Nat.pow_lt_pow_right (n := 4) (by decide) h4), Nat.or_zero]
      have e2 : (X ||| 2 ^ j) % 16 = (X % 16 ||| 2 ^ j) % 16 := by
        have := Nat.or_mod_two_pow (a := X) (b := 2 ^ j) (n := 4)
        have t := Nat.or_mod_two_pow (a := X % 16) (b := 2 ^ j) (n := 4)
        rw [show (2 : Nat) ^ 4 = 16 from rfl] at this t
        rw [this, t, Nat.mod_mod]
      rw [e1, e2, pc_a (X % 16) (by omega) j h4 ?_]
      · omega
      · have := Nat.testBit_mod_two_pow X 4 j
        rw [show (2 : Nat) ^ 4 = 16 from rfl] at this
        rw [this, hb, Bool.and_false]
    · have ej : (2 : Nat) ^ j = 16 * 2 ^ (j - 4) := by
        rw [show (16 : Nat) = 2 ^ 4 from rfl, ← Nat.pow_add]
        congr 1
        omega
      have e1 : (X ||| 2 ^ j) / 16 = X / 16 ||| 2 ^ (j - 4) := by
        have := Nat.or_div_two_pow (a := X) (b := 2 ^ j) (n := 4)
        rw [show (2 : Nat) ^ 4 = 16 from rfl] at this
        rw [this, ej, Nat.mul_div_cancel_left _ (by decide)]
      have e2 : (X ||| 2 ^ j) % 16 = X % 16 := by
        have := Nat.or_mod_two_pow (a := X) (b := 2 ^ j) (n := 4)
        rw [show (2 : Nat) ^ 4 = 16 from rfl] at this
        rw [this, ej, Nat.mul_mod_right, Nat.or_zero]
      have hb2 : (X / 16).testBit (j - 4) = false := by
        have q : (X / 2 ^ 4).testBit (j - 4) = X.testBit (j - 4 + 4) := Nat.testBit_div_two_pow X (j - 4)
        rw [show (2 : Nat) ^ 4 = 16 from rfl, show j - 4 + 4 = j by omega] at q
        rw [q, hb]
      rw [e1, e2, ih (X / 16) (j - 4) (by omega) hb2]
      omega
theorem pc_or {x : Int32} {l : Nat} (hl : l < 32) (hb : bt x l = false) : pcI (x ||| ((1 : Int32) <<< (nI l &&& 31))) = pcI x + 1 := by
  unfold pcI
  rw [Int32.toBitVec_or, nf_sh l hl, BitVec.toNat_or, BitVec.toNat_twoPow, Nat.mod_eq_of_lt (Nat.pow_lt_pow_right (by decide) hl)]
  exact pc_set 8 _ l (by omega) hb
theorem pc_0 : pcI 0 = 0 := by decide
end
