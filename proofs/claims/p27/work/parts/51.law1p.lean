/-! the law's own methods: what they answer -/
section
variable {b C E i M : Nat} {G V : MT}
theorem bl_at (x : Int32) {n : Nat} (h0 : 0 < n) (hn : n < 2 ^ 31) : ∃ j, j < n ∧ f_L_below x (nI n) = some (nI j) := by
  obtain ⟨X, hX, e⟩ := pk_andE x (m := 2147483647) 31 (by decide)
  refine ⟨X % n, Nat.mod_lt _ h0, ?_⟩
  unfold f_L_below
  rw [if_pos (nI_ne0 h0 hn), e, pk_rem (by simpa using hX) h0 hn]
theorem il_at (G U : MT) {m S : Nat} (h : wJ b m C E S V) (hi : i < C) : f_L_isLost G V U (nI i) (nI C) = some (if V 7 i 5 = 2 then 1 else if 0 ≤ V 7 i 1 then 0 else 1) := by
  have hA := h.1.at
  unfold f_L_isLost
  refine Tt.val (Tt.le C i (fun z => by omega) (fun _ => ?_))
  rw [op_2 G U h hi]
  refine Tt.sb (Tt.ite (fun z => Tt.ret (by rw [if_pos z])) (fun z => ?_))
  rw [op_0 G U h hi]
  refine Tt.sb (Tt.ite (fun y => Tt.ret (by rw [if_neg z, if_pos y])) (fun y => Tt.ret (by rw [if_neg z, if_neg y])))
theorem sh_1 (x : Int32) {k : Nat} (hk : k < 32) : (x >>> (nI k &&& 31)) &&& 1 = if bt x k = true then 1 else 0 := by
  have h1 : ∀ j, j < 32 → bt (1 : Int32) j = decide (j = 0) := by decide +kernel
  refine b_ext (fun j hj => ?_)
  rw [b_and, h1 j hj, b_sshr k hk x hj]
  by_cases h : bt x k = true
  · rw [if_pos h, h1 j hj]
    by_cases z : j = 0
    · subst z; rw [if_pos (show k + 0 < 32 by omega), Nat.add_zero, h]; rfl
    · rw [decide_eq_false z, Bool.and_false]
  · rw [if_neg h, b_0]
    by_cases z : j = 0
    · subst z; rw [if_pos (show k + 0 < 32 by omega), Nat.add_zero, ts_nt h]; rfl
    · rw [decide_eq_false z, Bool.and_false]
theorem ao_2 (G U : MT) {m S : Nat} (h : wJ b m C E S V) {due : Int32} (hd : ∀ c, c < 24 → bt due c = true → c < C ∧ V 7 c 5 = 2) (f : Nat) : ∀ k, k ≤ C → 25 ≤ f + k → f_L_areOver_2 G V U f due (nI k) = some 1 := by
  have hA := h.1.at
  induction f with
  | zero => intro k hk hf; omega
  | succ f ih =>
    intro k hk hf
    rw [f_L_areOver_2, mn_2 G U h]
    refine Tt.val (Tt.sb (Tt.le C k (fun _ => Tt.ret rfl) (fun hkC => ?_)))
    rw [sh_1 due (show k < 32 by omega), nI_1]
    have nx : Tt (f_L_areOver_2 G V U f due (nI (k + 1))) (fun z => z = 1) := ⟨1, ih (k + 1) (by omega) (by omega), rfl⟩
    by_cases hb : bt due k = true
    · rw [if_pos hb]
      refine Tt.pos rfl ?_
      rw [op_2 G U h hkC]
      exact Tt.sb (Tt.pos (hd k (by omega) hb).2 nx)
    · rw [if_neg hb]
      exact Tt.neg (by decide) nx
theorem ao_at (G U : MT) {m S : Nat} (h : wJ b m C E S V) {due : Int32} (hd : ∀ c, c < 24 → bt due c = true → c < C ∧ V 7 c 5 = 2) : f_L_areOver G V U due = some 1 := ao_2 G U h hd 30 0 (Nat.zero_le _) (by omega)
theorem ik_11 (G U : MT) {m S s p : Nat} (h : wJ b m C E S V) (hs : s < C) (h3 : V 7 s 3 ≠ -1) (h5 : V 7 s 5 = 1) (hp : p < 4) (hv : V 9 s p = nI i) (hu : ∀ q, q < 4 → V 9 s q = nI i → q = p) (f : Nat) : ∀ w, 1 ≤ w → w ≤ 5 → 6 ≤ f + w → f_L_isKnown_11 G V U f (nI i) (nI s) (nI (if p + 1 < w then 1 else 0)) (nI w) = some 1 := by
  have hA := h.1.at
  induction f with
  | zero => intro w h1 h2 hf; omega
  | succ f ih =>
    intro w h1 h2 hf
    rw [f_L_isKnown_11]
    refine Tt.val (Tt.le 5 w (fun z => ?_) (fun z => ?_))
    · rw [if_pos (show p + 1 < w by omega)]
      refine Tt.pos rfl ?_
      rw [op_2 G U h hs, h5]
      exact Tt.sb (Tt.pos rfl (Tt.ret rfl))
    · obtain ⟨r, er, hr⟩ := os_T G U h hs (w := w) (by omega)
      rw [er]
      have e := hr h1 (by omega) h3
      refine Tt.sb (Tt.ite (fun y => ?_) (fun y => ?_))
      · rw [e] at y
        have := hu (w - 1) (by omega) y
        rw [if_neg (show ¬ p + 1 < w by omega), nI_1, nI_1]
        have n := ih (w + 1) (by omega) (by omega) (by omega)
        rw [if_pos (show p + 1 < w + 1 by omega)] at n
        exact ⟨1, n, rfl⟩
      · rw [e] at y
        have hne : w - 1 ≠ p := by
          rintro z2
          rw [z2] at y
          exact y hv
        rw [Int32.add_zero, nI_1]
        have n := ih (w + 1) (by omega) (by omega) (by omega)
        by_cases z2 : p + 1 < w
        · rw [if_pos z2]; rw [if_pos (show p + 1 < w + 1 by omega)] at n; exact ⟨1, n, rfl⟩
        · rw [if_neg z2]; rw [if_neg (show ¬ p + 1 < w + 1 by omega)] at n; exact ⟨1, n, rfl⟩
theorem ik_at (G U : MT) (h : wI b C E V) (hi : i < C) (h2 : V 7 i 5 ≠ 2) : f_L_isKnown G V U (nI i) (V 7 i 4) = some 1 := by
  have hA := h.1.at
  unfold f_L_isKnown
  rcases h.2.2.2.2.1.1 i hi h2 with e | ⟨s, hs, q1, q2, q3, p, hp, q4, q5⟩
  · rw [e, if_neg (by decide)]
  · rw [q1, if_pos (nI_pos' (by omega))]
    have hs2 : V 7 s 5 ≠ 2 := fun z => by
      obtain ⟨n, n1, n2⟩ := h.2.1.2.2 s hs z
      exact q3 n n1 n2
    have c := h.2.2.1 s hs
    have hs5 : V 7 s 5 = 1 := by
      rcases c.1 with z | z | z
      · rcases c.2.2.2.1 with ⟨y, _⟩ | ⟨_, _, y, _⟩
        · exact absurd y q2
        · exact absurd z y
      · exact z
      · exact absurd z hs2
    have n := ik_11 G U h hs q2 hs5 hp q4 q5 30 1 (by omega) (by omega) (by omega)
    rw [if_neg (show ¬ p + 1 < 1 by omega)] at n
    exact n
/-- how a MODULE's CURRENT VERSION stands -/
def wC (M : Nat) (V : MT) : Prop := ∀ k, k < M → ∃ v, v ≤ 3 ∧ V 1 0 k = nI v
/-- what goes on being so from act to act -/
def wO (C : Nat) (V V' : MT) : Prop := ∀ k, k < C → V 7 k 5 = 2 → V' 7 k 5 = 2 ∧ V' 7 k 6 = V 7 k 6
theorem wR.O {C' E' : Nat} {V' : MT} (h : wR C E V C' E' V') : wO C V V' := h.2.2.2.2.1
theorem wC.R {C' E' : Nat} {V' : MT} (h : wC M V) (r : wR C E V C' E' V') : wC M V' := fun k hk => by rw [r.2.2.2.2.2.2.2]; exact h k hk
/-- behind one act -/
def wAct (b M C : Nat) (V : MT) (r : Int32 × MT × MT) : Prop := r.1 = 1 ∧ jT r.2.2 ∧ wC M r.2.1 ∧ wO C V r.2.1 ∧ ∃ C' E', C ≤ C' ∧ wI (b + 240) C' E' r.2.1
theorem act_of {U' V' : MT} {C' E' b' : Nat} (hT : jT U') (hc : wC M V) (r : wR C E V C' E' V') (h : wI b' C' E' V') (hb : b' ≤ b + 240) : wAct b M C V (1, V', U') := ⟨rfl, hT, hc.R r, r.O, C', E', r.1, h.up hb⟩
theorem act_26 {s : Nat} (hG : gK G) (hM : G 17 0 0 = nI M) (h1 : 1 ≤ M) (h4 : M ≤ 4) (hs : G 22 0 0 = nI 2) (hb : b + 30000 < 2 ^ 20) (h : wI b C E V) {U : MT} (hU : jT U) (hc : wC M V) (x y : Int32) {y6 : Int32} (h6 : y6 = -1 ∨ ∃ i, i < C ∧ y6 = nI i) (f : Nat) : Tt (f_L_isActed_26 G (f + 1) x y (nI M) (nI C) y6 V U) (wAct b M C V) := by
  have hz := h.cle
  have stay : ∀ U', jT U' → Tt (some ((1 : Int32), V, U')) (wAct b M C V) := fun U' hU' => Tt.ret (act_of hU' hc (wR.refl C E V) h (by omega))
  rw [f_L_isActed_26]
  obtain ⟨c, hc9, ec⟩ := bl_at x (n := 9) (by decide) (by decide)
  rw [show f_L_below x 9 = some (nI c) from ec]
  refine Tt.sb (Tt.ite (fun _ => ?_) (fun _ => ?_))
  · -- start
    refine Tt.lt 20 C (fun _ => stay U hU) (fun hC => ?_)
    obtain ⟨j, hj, ej⟩ := bl_at y (n := M) (by omega) (by omega)
    rw [ej]
    obtain ⟨V', e, g1, g2⟩ := st_all G U h (by omega) hM h4 hj
    refine Tt.sb ?_
    rw [e]
    exact Tt.sb (Tt.pos rfl (Tt.ret (act_of hU hc g2 g1 (by omega))))
  refine Tt.ite (fun _ => ?_) (fun _ => ?_)
  · -- supervise
    refine Tt.lt 16 C (fun _ => stay U hU) (fun hC => ?_)
    obtain ⟨j, hj, ej⟩ := bl_at y (n := 2) (by decide) (by decide)
    rw [show f_L_below y 2 = some (nI j) from ej]
    obtain ⟨V', e, C', E', g1, g2⟩ := sv_all hG (by omega) U h (by omega) hs (by decide) hj
    refine Tt.sb ?_
    rw [e]
    exact Tt.sb (Tt.pos rfl (Tt.ret (act_of hU hc g2 g1 (by omega))))
  refine Tt.ite (fun _ => ?_) (fun _ => ?_)
  · -- send
    rcases h6 with rfl | ⟨i, hi, rfl⟩
    · exact Tt.pos (by decide) (stay U hU)
    refine Tt.neg (nI_pos (by omega)) ?_
    obtain ⟨j, hj, ej⟩ := bl_at y (n := 2) (by decide) (by decide)
    rw [show f_L_below y 2 = some (nI j) from ej]
    obtain ⟨n, hn, en⟩ := bl_at (y >>> (2 &&& 31)) (n := 99) (by decide) (by decide)
    refine Tt.sb ?_
    rw [show f_L_below (y >>> (2 &&& 31)) 99 = some (nI n) from en]
    obtain ⟨r, V', e, g1, g2, g3⟩ := sd_all G U h hi (t := j) (n := n) (by omega) (by omega)
    refine Tt.sb ?_
    rw [e]
    refine Tt.sb ?_
    rw [il_at G U g1 hi]
    refine Tt.sb ?_
    have done : Tt (some ((1 : Int32), V', U)) (wAct b M C V) := Tt.ret (act_of hU hc (g2.R C E) g1 (by omega))
    have many9 : (∃ l, l ≤ b + E * kB b ∧ V' 0 0 7 = nI (l + 1)) → Tt ((f_X6_many G V' U 9).bind (fun q26_ => if q26_ ≤ 0 then (some ((0 : Int32), V', U)) else (some (1, V', U)))) (wAct b M C V) := fun ⟨l, hl, el⟩ => by
      rw [mn_9, el]
      have hl2 : l + 1 < 2 ^ 31 := by
        have : E * kB b ≤ 24 * kB b := Nat.mul_le_mul (Nat.le_trans hz.1 hz.2) (Nat.le_refl _)
        unfold kB at *
        omega
      exact Tt.sb (Tt.neg (nI_nle (by omega) hl2) done)
    rcases g3 with ⟨r0, g3⟩ | ⟨r1, g3, g4⟩
    · subst r0
      refine Tt.ite (fun _ => Tt.neg (show ¬ (0 : Int32) = 1 by decide) (many9 g3)) (fun _ => Tt.pos rfl done)
    · have k12 : V' 7 i 5 ≠ 2 := fun z => g3 ((g2.2.2.2.2.2.2.2.2.2.2.2.1 i).mp z)
      have k3 : V' 7 i 3 = -1 := by rw [g2.2.2.2.2.2.2.1]; exact g4
      have k1 : 0 ≤ V' 7 i 1 := by
        rcases (g1.2.2.1 i hi).2.2.2.1 with ⟨_, z⟩ | ⟨z, _⟩
        · exact z
        · exact absurd k3 z
      refine Tt.pos (by rw [if_neg k12, if_pos k1]) (Tt.pos r1 done)
  refine Tt.ite (fun _ => ?_) (fun _ => ?_)
  · -- tick
    obtain ⟨j, hj, ej⟩ := bl_at y (n := 2) (by decide) (by decide)
    rw [show f_L_below y 2 = some (nI j) from ej]
    refine Tt.sb ?_
    rw [show (1 : Int32) + nI j = nI (1 + j) from nI_add 1 j]
    refine (wd_tick G U (t := 1 + j) (by omega) (by omega) (by omega) h).bind (fun r q => ?_)
    obtain ⟨⟨d, d1, d2⟩, C', E', q1, q2⟩ := q
    rw [d2]
    exact Tt.neg (nI_pos (by omega)) (Tt.ret (act_of hU hc q2 q1 (by omega)))
  refine Tt.ite (fun _ => ?_) (fun _ => ?_)
  · -- what a SIGNAL would bring about
    rcases h6 with rfl | ⟨i, hi, rfl⟩
    · exact Tt.neg (by decide) (stay U hU)
    refine Tt.pos (nI_pos' (by omega)) ?_
    obtain ⟨j, hj, ej⟩ := bl_at y (n := 10) (by decide) (by decide)
    rw [show f_L_below y 10 = some (nI j) from ej]
    obtain ⟨V', C', E', due, g1, g2, g3, g4, g5, g6⟩ := sg_all G hG (by omega) h hi (r := j) (by omega)
    refine Tt.sb ?_
    rw [g4 U hU]
    refine Tt.sb ?_
    rw [g3]
    refine Tt.sb ?_
    rw [bc_at, g5]
    refine Tt.sb (Tt.pos rfl ?_)
    rw [ao_at G V' g1 g6]
    exact Tt.sb (Tt.neg (by decide) (Tt.ret (act_of (wJ.T g1) hc g2 g1 (by omega))))
  refine Tt.ite (fun _ => ?_) (fun _ => ?_)
  · -- what a LOAD would bring about
    obtain ⟨j, hj, ej⟩ := bl_at y (n := M) (by omega) (by omega)
    rw [ej]
    obtain ⟨V', C', E', due, g1, g2, g3, g4, g5, g6⟩ := ld_all G hG (by omega) h hM h4 hj
    refine Tt.sb ?_
    rw [g4 U hU]
    refine Tt.sb ?_
    obtain ⟨o, eo, ho⟩ := om_T G V' h hM h4 hj (w := 0) (by decide)
    rw [show f_X6_ofModule G V V' (nI j) 0 = some o from eo]
    obtain ⟨v, hv, ev⟩ := hc j hj
    have ho2 : o = nI (v + 1) := by rw [ho rfl, ev, nI_1]
    refine Tt.sb (Tt.ite (fun _ => stay V' (wJ.T g1)) (fun hne => ?_))
    have hv3 : v < 3 := by
      by_cases z : v < 3
      · exact z
      · have : v = 3 := by omega
        subst this
        exact absurd ho2 hne
    obtain ⟨n, hn, en⟩ := bl_at (y >>> (5 &&& 31)) (n := 3) (by decide) (by decide)
    rw [show f_L_below (y >>> (5 &&& 31)) 3 = some (nI n) from en]
    refine Tt.sb (Tt.ite (fun _ => stay V' (wJ.T g1)) (fun _ => ?_))
    rw [g3 v V' hv3 ev]
    refine Tt.sb ?_
    rw [bc_at, g5]
    refine Tt.sb (Tt.pos rfl ?_)
    rw [ao_at G V' g1 g6]
    refine Tt.sb (Tt.neg (by decide) (Tt.ret ⟨rfl, wJ.T g1, fun k hk => ?_, fun k hk k2 => ?_, C', E', g2.1, wI.up g1 (by omega)⟩))
    · show ∃ v, v ≤ 3 ∧ V' 1 0 k = nI v
      rw [g2.2.2.2.2.2.2.2]
      by_cases z : k = j
      · subst z; rw [pt_at, ev, nI_1]; exact ⟨v + 1, by omega, rfl⟩
      · rw [pt_ne (by omega)]; exact hc k hk
    · have q := g2.2.2.2.2.1 k hk (by rw [pt_kn (by decide)]; exact k2)
      rw [pt_kn (by decide)] at q
      exact q
  · -- turns
    rw [mn_11]
    refine Tt.sb ?_
    obtain ⟨j, hj, ej⟩ := bl_at y (n := 12) (by decide) (by decide)
    rw [show f_L_below y 12 = some (nI j) from ej]
    refine Tt.sb ?_
    rw [show (1 : Int32) + nI j = nI (1 + j) from nI_add 1 j]
    refine (wd_run G U hG (t := 1 + j) (by omega) (by omega) (by omega) h).bind (fun r q => ?_)
    obtain ⟨d, d1, d2, C', E', q1, q2⟩ := q
    rw [mn_11]
    have e8 : r.2 0 0 8 = V 0 0 8 + nI d := by rw [q2.2.2.2.2.2.2.1, pt_at]
    refine Tt.sb (Tt.pos (by rw [e8, d2]) (Tt.ret ⟨rfl, hU, fun k hk => ?_, fun k hk k2 => ?_, C', E', q2.1, wI.up q1 (by omega)⟩))
    · show ∃ v, v ≤ 3 ∧ r.2 1 0 k = nI v
      rw [q2.2.2.2.2.2.2.2, pt_kn (by decide)]; exact hc k hk
    · have z := q2.2.2.2.2.1 k hk (by rw [pt_kn (by decide)]; exact k2)
      rw [pt_kn (by decide)] at z
      exact z
theorem act_at (hG : gK G) (hM : G 17 0 0 = nI M) (h1 : 1 ≤ M) (h4 : M ≤ 4) (hs : G 22 0 0 = nI 2) (hb : b + 30000 < 2 ^ 20) (h : wI b C E V) {U : MT} (hU : jT U) (hc : wC M V) (x y : Int32) : Tt (f_L_isActed G V U x y (nI M)) (wAct b M C V) := by
  have hA := h.1.at
  unfold f_L_isActed
  rw [mn_2 G U h]
  refine Tt.sb (Tt.ite (fun z => ?_) (fun z => ?_))
  · exact act_26 (s := 0) hG hM h1 h4 hs hb h hU hc x y (Or.inl rfl) 29
  · have hC : 0 < C := by
      by_cases y : C = 0
      · subst y; exact absurd rfl z
      · omega
    obtain ⟨j, hj, ej⟩ := bl_at (y >>> (3 &&& 31)) (n := C) hC (by omega)
    rw [ej]
    exact Tt.sb (act_26 (s := 0) hG hM h1 h4 hs hb h hU hc x y (Or.inr ⟨j, hj, rfl⟩) 29)
end
