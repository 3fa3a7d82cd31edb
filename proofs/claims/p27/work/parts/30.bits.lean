/-! the pure side: bits (pasted family bt), answers that are there (Tt), one number written (pt) -/
section
def bt (x : Int32) (i : Nat) : Bool := x.toBitVec.getLsbD i
theorem b_ext {x y : Int32} (h : ∀ i, i < 32 → bt x i = bt y i) : x = y := Int32.toBitVec_inj.mp (BitVec.eq_of_getLsbD_eq (fun i hi => h i hi))
theorem b_or (x y : Int32) (i : Nat) : bt (x ||| y) i = (bt x i || bt y i) := by unfold bt; rw [Int32.toBitVec_or, BitVec.getLsbD_or]
theorem b_and (x y : Int32) (i : Nat) : bt (x &&& y) i = (bt x i && bt y i) := by unfold bt; rw [Int32.toBitVec_and, BitVec.getLsbD_and]
theorem b_xor (x y : Int32) (i : Nat) : bt (x ^^^ y) i = (bt x i ^^ bt y i) := by unfold bt; rw [Int32.toBitVec_xor, BitVec.getLsbD_xor]
theorem b_big {x : Int32} {i : Nat} (h : 32 ≤ i) : bt x i = false := BitVec.getLsbD_of_ge _ _ h
theorem b_255 (i : Nat) : bt 255 i = decide (i < 8) := by
  rcases Nat.lt_or_ge i 32 with h | h
  · exact (by decide +kernel : ∀ i, i < 32 → bt 255 i = decide (i < 8)) i h
  · rw [b_big h, decide_eq_false (by omega)]
theorem b_65535 (i : Nat) : bt 65535 i = decide (i < 16) := by
  rcases Nat.lt_or_ge i 32 with h | h
  · exact (by decide +kernel : ∀ i, i < 32 → bt 65535 i = decide (i < 16)) i h
  · rw [b_big h, decide_eq_false (by omega)]
theorem b_m1 : ∀ i, i < 32 → bt (-1) i = true := by decide +kernel
theorem b_0 (i : Nat) : bt 0 i = false := BitVec.getLsbD_zero
theorem s_l : ∀ n, n < 32 → ((nI n &&& 31).toBitVec.smod 32).toNat = n := by decide +kernel
theorem s_u : ∀ n, n < 32 → (((nI n).toUInt32 &&& Int32.toUInt32 31).toBitVec % 32).toNat = n := by decide +kernel
theorem b_shl (n : Nat) (hn : n < 32) (x : Int32) {i : Nat} (hi : i < 32) : bt (x <<< (nI n &&& 31)) i = (decide (n ≤ i) && bt x (i - n)) := by
  unfold bt
  rw [Int32.toBitVec_shiftLeft]
  show (x.toBitVec <<< ((nI n &&& 31).toBitVec.smod 32).toNat).getLsbD i = _
  rw [s_l n hn, BitVec.getLsbD_shiftLeft]
  rcases Nat.lt_or_ge i n with h | h
  · simp [h, Nat.not_le.mpr h]
  · simp [hi, h, Nat.not_lt.mpr h]
theorem b_ushr (n : Nat) (hn : n < 32) (x : Int32) (i : Nat) : bt ((x.toUInt32 >>> ((nI n).toUInt32 &&& Int32.toUInt32 31)).toInt32) i = bt x (n + i) := by
  show (x.toUInt32 >>> ((nI n).toUInt32 &&& Int32.toUInt32 31)).toBitVec.getLsbD i = x.toUInt32.toBitVec.getLsbD (n + i)
  rw [UInt32.toBitVec_shiftRight]
  show (x.toUInt32.toBitVec >>> (((nI n).toUInt32 &&& Int32.toUInt32 31).toBitVec % 32).toNat).getLsbD i = _
  rw [s_u n hn, BitVec.getLsbD_ushiftRight]
theorem b_sshr (n : Nat) (hn : n < 32) (x : Int32) {i : Nat} (hi : i < 32) : bt (x >>> (nI n &&& 31)) i = if n + i < 32 then bt x (n + i) else bt x 31 := by
  unfold bt
  rw [Int32.toBitVec_shiftRight]
  show (x.toBitVec.sshiftRight ((nI n &&& 31).toBitVec.smod 32).toNat).getLsbD i = _
  rw [s_l n hn, BitVec.getLsbD_sshiftRight, BitVec.msb_eq_getLsbD_last]
  simp [hi]
theorem nf_sh : ∀ l, l < 32 → ((1 : Int32) <<< (nI l &&& 31)).toBitVec = BitVec.twoPow 32 l := by decide +kernel
theorem wd_one {l : Nat} (hl : l < 32) (i : Nat) : bt ((1 : Int32) <<< (nI l &&& 31)) i = decide (i = l) := by
  unfold bt
  rw [nf_sh l hl, BitVec.getLsbD_twoPow]
  by_cases h : i = l
  · subst h; simp [hl]
  · have h2 : ¬ l = i := fun e => h e.symm
    simp [h, h2]
theorem wd_has {x : Int32} {l : Nat} (hl : l < 32) : x &&& ((1 : Int32) <<< (nI l &&& 31)) = 0 ↔ bt x l = false := by
  constructor
  · intro h
    have h2 := congrArg (fun z => bt z l) h
    simp only [b_and, wd_one hl, b_0, decide_true, Bool.and_true] at h2
    exact h2
  · intro h
    refine b_ext (fun i hi => ?_)
    rw [b_and, wd_one hl, b_0]
    by_cases e : i = l
    · subst e; rw [h]; rfl
    · rw [decide_eq_false e, Bool.and_false]
theorem wd_set {x : Int32} {l : Nat} (hl : l < 32) (i : Nat) : bt (x ||| ((1 : Int32) <<< (nI l &&& 31))) i = (bt x i || decide (i = l)) := by rw [b_or, wd_one hl]
theorem wd_clr {x : Int32} {l : Nat} (hl : l < 32) (i : Nat) : bt (x &&& (((1 : Int32) <<< (nI l &&& 31)) ^^^ (-1))) i = (bt x i && !decide (i = l)) := by
  rcases Nat.lt_or_ge i 32 with hi | hi
  · rw [b_and, b_xor, wd_one hl, b_m1 i hi]
    cases decide (i = l) <;> rfl
  · rw [b_big hi, b_big hi]; rfl
theorem wd_z {x : Int32} (h : ∀ i, i < 32 → bt x i = false) : x = 0 := b_ext (fun i hi => by rw [h i hi, b_0])
def Tt {α : Type} (o : Option α) (Q : α → Prop) : Prop := ∃ r, o = some r ∧ Q r
theorem Tt.mono {α : Type} {o : Option α} {P Q : α → Prop} (h : Tt o P) (f : ∀ r, P r → Q r) : Tt o Q := by
  obtain ⟨r, h1, h2⟩ := h
  exact ⟨r, h1, f r h2⟩
theorem Tt.bind {α β : Type} {o : Option α} {k : α → Option β} {P : α → Prop} {Q : β → Prop} (h : Tt o P) (f : ∀ r, P r → Tt (k r) Q) : Tt (o.bind k) Q := by
  obtain ⟨r, h1, h2⟩ := h
  subst h1
  exact f r h2
theorem Tt.ret {α : Type} {r : α} {Q : α → Prop} (h : Q r) : Tt (some r) Q := ⟨r, rfl, h⟩
theorem Tt.eq {α : Type} {o : Option α} {r : α} {Q : α → Prop} (e : o = some r) (h : Q r) : Tt o Q := ⟨r, e, h⟩
theorem Tt.ite {α : Type} {c : Prop} [Decidable c] {a b : Option α} {Q : α → Prop} (f : c → Tt a Q) (g : ¬ c → Tt b Q) : Tt (if c then a else b) Q := by
  by_cases h : c
  · rw [if_pos h]; exact f h
  · rw [if_neg h]; exact g h
theorem Tt.le {α : Type} {x y : Int32} {p q : Option α} {Q : α → Prop} (a b : Nat) (f : a ≤ b → Tt p Q) (g : b < a → Tt q Q) (hx : x = nI a := by rfl) (hy : y = nI b := by rfl) (ha : a < 2 ^ 31 := by omega) (hb : b < 2 ^ 31 := by omega) : Tt (if x ≤ y then p else q) Q := by
  subst hx hy
  refine Tt.ite (fun h => f ((nI_leI ha hb).mp h)) (fun h => g ?_)
  rw [nI_leI ha hb] at h
  omega
theorem Tt.lt {α : Type} {x y : Int32} {p q : Option α} {Q : α → Prop} (a b : Nat) (f : a < b → Tt p Q) (g : b ≤ a → Tt q Q) (hx : x = nI a := by rfl) (hy : y = nI b := by rfl) (ha : a < 2 ^ 31 := by omega) (hb : b < 2 ^ 31 := by omega) : Tt (if x < y then p else q) Q := by
  subst hx hy
  refine Tt.ite (fun h => f ((nI_ltI ha hb).mp h)) (fun h => g ?_)
  rw [nI_ltI ha hb] at h
  omega
theorem Tt.inn {α : Type} {x : Int32} {N : Nat} {p q : Option α} {Q : α → Prop} (k : Nat) (h : k < N) (f : Tt p Q) (hx : x = nI k := by rfl) (hN : N < 2 ^ 31 := by omega) : Tt (if ¬ (x < 0 ∨ N ≤ Int32.toNatClampNeg x) then p else q) Q := by
  subst hx
  rw [if_pos (nI_in h hN)]
  exact f
theorem Tt.pos {α : Type} {c : Prop} [Decidable c] {a b : Option α} {Q : α → Prop} (h : c) (f : Tt a Q) : Tt (if c then a else b) Q := by rw [if_pos h]; exact f
theorem Tt.neg {α : Type} {c : Prop} [Decidable c] {a b : Option α} {Q : α → Prop} (h : ¬ c) (f : Tt b Q) : Tt (if c then a else b) Q := by rw [if_neg h]; exact f
theorem Tt.sb {α β : Type} {a : α} {f : α → Option β} {Q : β → Prop} (h : Tt (f a) Q) : Tt ((some a).bind f) Q := h
theorem Tt.q1 {α : Type} {A B : Int32 → Option α} {Q : α → Prop} (h : Tt (B 1) Q) : Tt ((some (1 : Int32)).bind (fun q => if q = 0 then A q else B q)) Q := Tt.neg (c := (1 : Int32) = 0) (a := A 1) (b := B 1) (by decide) h
theorem Tt.q0 {α : Type} {A B : Int32 → Option α} {Q : α → Prop} (h : Tt (A 0) Q) : Tt ((some (0 : Int32)).bind (fun q => if q = 0 then A q else B q)) Q := Tt.pos (c := (0 : Int32) = 0) (a := A 0) (b := B 0) rfl h
theorem Tt.ocS {α : Type} {a : Option α} {i : Nat} {f : Nat → Option α} {Q : α → Prop} (h : Tt (f i) Q) : Tt (oc (some i) a f) Q := h
theorem Tt.ocN {α : Type} {a : Option α} {f : Nat → Option α} {Q : α → Prop} (h : Tt a Q) : Tt (oc none a f) Q := h
theorem pt_app (V : MT) (k i j : Nat) (x : Int32) (k' i' j' : Nat) : pt V k i j x k' i' j' = if k' = k ∧ i' = i ∧ j' = j then x else V k' i' j' := by
  unfold pt st upd
  by_cases h1 : k' = k ∧ i' = i
  · rw [if_pos h1]
    obtain ⟨rfl, rfl⟩ := h1
    by_cases h2 : j' = j
    · rw [if_pos h2, if_pos ⟨rfl, rfl, h2⟩]
    · rw [if_neg h2, if_neg (fun e => h2 e.2.2)]
  · rw [if_neg h1, if_neg (fun e => h1 ⟨e.1, e.2.1⟩)]
theorem pt_at (V : MT) (k i j : Nat) (x : Int32) : pt V k i j x k i j = x := by rw [pt_app, if_pos ⟨rfl, rfl, rfl⟩]
theorem wd_cl {k : Nat} (h : k < 2 ^ 31) : Int32.toNatClampNeg (nI k) = k := nI_clamp h
end
