/-! at rest: LOADS, time, what a LINE does -/
section
def kB (b : Nat) : Nat := 24 * (b + 9)
/-- at rest -/
def wI (b C E : Nat) (V : MT) : Prop := wJ b (b + E * kB b) C E E V
theorem kB_up {b b' : Nat} (h : b ≤ b') (E : Nat) : b + E * kB b ≤ b' + E * kB b' := Nat.add_le_add h (Nat.mul_le_mul (Nat.le_refl E) (Nat.mul_le_mul (Nat.le_refl 24) (by omega)))
theorem wI.up {b b' C E : Nat} {V : MT} (h : wI b C E V) (hb : b ≤ b') : wI b' C E V := wJ.up h hb (kB_up hb E)
theorem wd_rest {b b' C E E0 : Nat} {V : MT} (G : MT) (hG : gK G) (hb : b' < 2 ^ 29) {m : Nat} (hbb : b ≤ b') (h : wJ b m C E E0 V) (hm : m ≤ b' + E0 * kB b') (hE : E0 ≤ E) : Tt (f_X5_settle G V) (fun V' => ∃ C' E', wI b' C' E' V' ∧ wR C E V C' E' V') := by
  refine (wd_settle G hG hb (h.up hbb hm)).mono (fun V' q => ?_)
  obtain ⟨C', E', q1, q2⟩ := q
  refine ⟨C', E', wJ.up q1 (Nat.le_refl _) ?_, q2⟩
  have := q2.2.1
  have e : E' = (E' - E0) + E0 := by omega
  show b' + E0 * kB b' + (E' - E0) * kB b' ≤ b' + E' * kB b'
  have e2 : E' * kB b' = (E' - E0) * kB b' + E0 * kB b' := by rw [← Nat.add_mul, ← e]
  omega
theorem wJ.cg0 {b m C E S : Nat} {V V' : MT} (h : wJ b m C E S V) (e : ∀ k i j, ¬ ((k = 0 ∧ j = 8) ∨ k = 1) → V' k i j = V k i j) (hF : wdF C V') : wJ b m C E S V' := by
  have e0 : ∀ j, j ≠ 8 → V' 0 0 j = V 0 0 j := fun j hj => e 0 0 j (by omega)
  have e2 : ∀ k i j, 2 ≤ k → V' k i j = V k i j := fun k i j hk => e k i j (by omega)
  obtain ⟨hA, hB, hC, hL, hP, hN, hM, -⟩ := h
  refine ⟨?_, ?_, fun i hi => (hC i hi).cg (fun k j h7 => e2 k i j (by omega)), hL.cg (fun _ => e2 4 _ _ (by decide)) (fun _ => e2 7 _ _ (by decide)), hP.cg (fun _ => e2 4 _ _ (by decide)) (fun _ => e2 7 _ _ (by decide)) (fun _ => e2 7 _ _ (by decide)) (fun _ => e2 7 _ _ (by decide)) (fun _ _ => e2 9 _ _ (by decide)), hN.cg (fun _ => e2 2 _ _ (by decide)) (fun _ => e2 7 _ _ (by decide)), hM.cg (e0 6 (by decide)) (e0 7 (by decide)) (e0 16 (by decide)), hF⟩
  · unfold jA at hA ⊢
    rw [e0 5 (by decide), e0 12 (by decide), e0 13 (by decide), cov_cg (fun i => by rw [e2 7 i 5 (by decide)])]
    exact hA
  · unfold jB at hB ⊢
    simp only [e2 4 _ _ (by decide), e2 7 _ _ (by decide)]
    exact hB
theorem wJ.turn {b m C E S : Nat} {V : MT} {x : Int32} (h : wJ b m C E S V) : wJ b m C E S (pt V 0 0 8 x) := h.cg0 (fun k i j hn => by rw [pt_ne (by omega)]) (h.2.2.2.2.2.2.2.pt (us_0 (by decide)) (Or.inr (by decide)))
theorem wJ.cur {b m C E S k : Nat} {V : MT} {x : Int32} (hk : k < 4) (h : wJ b m C E S V) : wJ b m C E S (pt V 1 0 k x) := h.cg0 (fun k i j hn => by rw [pt_kn (by omega)]) (h.2.2.2.2.2.2.2.pt (us_1 hk) (Or.inl (by decide)))
/-- the class of worlds that an act may leave -/
def wA (b C E : Nat) (V V' : MT) : Prop := ∃ C' E', wI b C' E' V' ∧ wR C E V C' E' V'
theorem wA.refl {b C E : Nat} {V : MT} (h : wI b C E V) : wA b C E V V := ⟨C, E, h, wR.refl C E V⟩
theorem wA.trans {b C E C1 E1 : Nat} {V V1 V2 : MT} (r : wR C E V C1 E1 V1) (g : wA b C1 E1 V1 V2) : wA b C E V V2 := by
  obtain ⟨C', E', q1, q2⟩ := g
  exact ⟨C', E', q1, r.trans q2⟩
theorem wd_comesOut {b C E : Nat} {V : MT} (G : MT) (hG : gK G) (hb : b < 2 ^ 29) (h : wI b C E V) (h24 : C < 24) {x : Int32} (hx : 0 ≤ x) : Tt (f_X5_comesFromOutside G V x) (fun r => r.1 = nI C ∧ wA b C E V r.2) := by
  unfold f_X5_comesFromOutside
  rcases wd_cS G h x (-1) with e | ⟨-, V1, e, hn, n1, n2, n3, n5⟩
  · exfalso
    unfold f_X5_comesOfSpec at e
    rw [h.1.1, if_pos (show nI C < (24 : Int32) from nI_lt (a := C) (b := 24) h24 (by omega)), if_pos (nI_in h24 (by decide))] at e
    exact absurd (congrArg (fun z => z.map Prod.fst) e) (by simp)
  · rw [e]
    refine Tt.sb (Tt.ocS (Tt.pos (c := C < 24) h24 ?_))
    have hx1 : x ≠ -1 := fun z => absurd hx (by rw [z]; decide)
    have c := h.comeOut h24 hn (Or.inr ⟨by rw [n1, h.fresh (by decide) (Nat.le_refl _)]; rfl, by rw [n2]; exact hx1, by rw [n3, h.fresh (by decide) (Nat.le_refl _)]; rfl⟩) n5
    have s5 : V1 7 C 5 ≠ 2 := by rw [n1, h.fresh (by decide) (Nat.le_refl _)]; exact (show ¬ (1 : Int32) = 2 by decide)
    refine (wd_startPlaces G hG (k := 0) (t := 4) c.1 (by omega) s5 (by rw [n2]; exact hx1) (by omega) (by omega) (fun q _ hq i hi _ _ z => ?_)).bind (fun V2 q => ?_)
    · rw [hn.2.1 9 C q (by omega) (by omega), h.fresh (by decide) (Nat.le_refl _)] at z
      exact nI_m1 (by have := c.1.1.at; omega) z.symm
    · obtain ⟨C2, E2, q1, q2, -, -, -⟩ := q
      refine (wd_rest G hG hb (Nat.le_refl _) q1 (Nat.le_refl _) (q2.2.1)).bind (fun V3 z => Tt.ret ⟨rfl, ?_⟩)
      exact wA.trans (c.2.trans q2) z
theorem wd_lm30 {b : Nat} (G : MT) (hG : gK G) (hb : b < 2 ^ 29) (y1 y2 : Int32) (f : Nat) : ∀ (k C E : Nat) (V : MT), k ≤ 24 → 25 ≤ f + k → wI b C E V → Tt (f_X5_loadModule_30 G f y1 y2 (nI k) V) (fun V' => wA b C E V V') := by
  induction f with
  | zero => intro k C E V hk hf; omega
  | succ f ih =>
    intro k C E V hk hf h
    have hA := h.1.at
    rw [f_X5_loadModule_30, hA.1]
    have fin : Tt (some V) (fun V' => wA b C E V V') := Tt.ret (wA.refl h)
    refine Tt.le C k (fun _ => fin) (fun hkC => ?_)
    refine Tt.le 24 k (fun _ => fin) (fun hk4 => ?_)
    have hc := wd_cl (show k < 2 ^ 31 by omega)
    simp only [hc, nI_1]
    have nxt := ih (k + 1) C E V (by omega) (by omega) h
    refine Tt.inc hk4 (Tt.ite (fun _ => nxt) (fun h2 => Tt.ite (fun _ => Tt.ite (fun _ => nxt) (fun _ => ?_)) (fun _ => nxt)))
    refine (wd_end G h hkC (by decide)).bind (fun V1 q => ?_)
    obtain ⟨⟨E1, -, g1, g2, g3⟩, g4, g5⟩ := q
    refine (wd_rest G hG hb (Nat.le_refl _) g1 (Nat.le_refl _) g2.2.1).bind (fun V2 z => ?_)
    obtain ⟨C2, E2, z1, z2⟩ := z
    exact (ih (k + 1) C2 E2 V2 (by omega) (by omega) z1).mono (fun V3 y => wA.trans (g2.trans z2) y)
theorem md_has {G : MT} {M k : Nat} (hM : G 17 0 0 = nI M) (h4 : M ≤ 4) (hk : k < M) : f_X1_hasModule G (nI k) = some 1 := by
  unfold f_X1_hasModule
  rw [if_neg (nI_pos (by omega)), hM, if_neg (nI_ge hk (by omega)), if_neg (show ¬ (4 : Int32) ≤ nI k from nI_ge (a := k) (b := 4) (by omega) (by omega))]
theorem wd_loadModule {b C E M k : Nat} {V : MT} (G : MT) (hG : gK G) (hb : b < 2 ^ 29) (hM : G 17 0 0 = nI M) (h4 : M ≤ 4) (hk : k < M) (h : wI b C E V) : Tt (f_X5_loadModule G V (nI k)) (fun V' => wA b C E (pt V 1 0 k (V 1 0 k + 1)) V') := by
  unfold f_X5_loadModule
  rw [md_has hM h4 hk]
  refine Tt.q1 (Tt.inn k (by omega) (Tt.inn k (by omega) ?_))
  rw [wd_cl (show k < 2 ^ 31 by omega)]
  exact wd_lm30 G hG hb _ _ 30 0 C E _ (by omega) (by omega) (wJ.cur (by omega) h)
theorem wd_pt14 {b : Nat} (G : MT) (hb : b < 2 ^ 29) (f : Nat) : ∀ (k c C E S m : Nat) (V : MT), k ≤ 24 → 25 ≤ f + k → wJ b m C E S V → Tt (f_X5_passTime_14 G f (nI c) (nI k) V) (fun r => (∃ d, d ≤ c + 24 - k ∧ r.1 = nI d) ∧ wJ b m C E S r.2 ∧ kept V r.2) := by
  induction f with
  | zero => intro k c C E S m V hk hf; omega
  | succ f ih =>
    intro k c C E S m V hk hf h
    have hA := h.1.at
    obtain ⟨t, ht, et⟩ := h.2.2.2.2.2.2.1.1
    rw [f_X5_passTime_14, hA.1, et]
    have fin : Tt (some (nI c, V)) (fun r => (∃ d, d ≤ c + 24 - k ∧ r.1 = nI d) ∧ wJ b m C E S r.2 ∧ kept V r.2) := Tt.ret ⟨⟨c, by omega, rfl⟩, h, kept.refl V⟩
    refine Tt.le C k (fun _ => fin) (fun hkC => ?_)
    refine Tt.le 24 k (fun _ => fin) (fun hk4 => ?_)
    have hc := wd_cl (show k < 2 ^ 31 by omega)
    simp only [hc, nI_1]
    have nxt := (ih (k + 1) c C E S m V (by omega) (by omega) h).mono (Q := fun r => (∃ d, d ≤ c + 24 - k ∧ r.1 = nI d) ∧ wJ b m C E S r.2 ∧ kept V r.2) (fun r q => by obtain ⟨⟨d, q1, q2⟩, q3⟩ := q; exact ⟨⟨d, by omega, q2⟩, q3⟩)
    refine Tt.inc hk4 (Tt.ite (fun h1 => ?_) (fun _ => nxt))
    refine Tt.inc hk4 (Tt.ite (fun h9 => Tt.inc hk4 ?_) (fun _ => nxt))
    have q := h.2.2.1 k hkC
    have h3 : V 7 k 3 = -1 := by
      rcases q.2.2.2.1 with ⟨a, _⟩ | ⟨_, _, _, a⟩
      · exact a
      · rw [a] at h9; exact absurd h9.symm (nI_m1 (by omega))
    refine (wd_ready G h hkC (by rw [h1]; decide) h3).bind (fun V1 z => ?_)
    refine (ih (k + 1) (c + 1) C E S m V1 (by omega) (by omega) z.1).mono (fun r y => ?_)
    obtain ⟨⟨d, y1, y2⟩, y3, y4⟩ := y
    exact ⟨⟨d, by omega, y2⟩, y3, z.2.1.trans y4⟩
theorem wd_passTime {b C E : Nat} {V : MT} (G : MT) (hb : b < 2 ^ 28) (h : wI b C E V) : Tt (f_X5_passTime G V) (fun r => (∃ d, d ≤ 24 ∧ r.1 = nI d) ∧ wI (b + 1) C E r.2 ∧ wR C E V C E r.2) := by
  unfold f_X5_passTime
  obtain ⟨t, ht, et⟩ := h.2.2.2.2.2.2.1.1
  rw [et, nI_1]
  have h1 := wJ.now (wI.up h (Nat.le_succ b)) (b' := b + 1) (x := nI (t + 1)) (Nat.le_refl _) ⟨t + 1, by omega, rfl⟩
  refine (wd_pt14 G (by omega) 30 0 0 C E E _ _ (by omega) (by omega) h1).mono (fun r q => ?_)
  exact ⟨q.1, q.2.1, (kept.trans kept.now q.2.2).R C E⟩
/-- behind a LINE of p: not yet settled -/
def wLn (b m C E S : Nat) (V V' : MT) : Prop := ∃ C' E', wJ b m C' E' S V' ∧ wR C E V C' E' V'
theorem wLn.of {b m C E S : Nat} {V V' : MT} (g : wJ b m C E S V') (k : kept V V') : wLn b m C E S V V' := ⟨C, E, g, k.R C E⟩
theorem wE.ln {b m C E S : Nat} {V V' : MT} (g : wE b m C E S V V') : wLn b m C E S V V' := by
  obtain ⟨E', -, q1, q2, -⟩ := g
  exact ⟨C, E', q1, q2⟩
theorem wLn.up {b m b' m' C E S : Nat} {V V' : MT} (g : wLn b m C E S V V') (hb : b ≤ b') (hm : m ≤ m') : wLn b' m' C E S V V' := by
  obtain ⟨C', E', q1, q2⟩ := g
  exact ⟨C', E', q1.up hb hm, q2⟩
theorem wLn.trans {b m b' m' C E C1 E1 S : Nat} {V V1 V2 : MT} (r : wR C E V C1 E1 V1) (g : wLn b m C1 E1 S V1 V2) (hb : b ≤ b') (hm : m ≤ m') : wLn b' m' C E S V V2 := by
  obtain ⟨C', E', q1, q2⟩ := g
  exact ⟨C', E', q1.up hb hm, r.trans q2⟩
theorem q1_e {α : Type} {A B : Int32 → Option α} : ((some (1 : Int32)).bind (fun q => if q = 0 then A q else B q)) = B 1 := if_neg (c := (1 : Int32) = 0) (t := A 1) (e := B 1) (by decide)
theorem ho_at (G : MT) (V : MT) (x : Int32) : (∃ k, k < 4 ∧ x = nI k ∧ f_X5_holderOf G V x = some (V 2 0 k) ∧ f_X6_isWithin x 0 3 = some 1) ∨ (f_X5_holderOf G V x = some (-1) ∧ f_X6_isWithin x 0 3 = some 0) := by
  by_cases h1 : x < 0
  · have e : f_X6_isWithin x 0 3 = some 0 := by unfold f_X6_isWithin; rw [if_pos h1]
    refine Or.inr ⟨?_, e⟩
    unfold f_X5_holderOf
    rw [e]; rfl
  · obtain ⟨k, hk, rfl⟩ := nI_of h1
    by_cases h4 : k < 4
    · have e : f_X6_isWithin (nI k) 0 3 = some 1 := wi_in (k := k) (n := 3) (by omega) (by omega)
      refine Or.inl ⟨k, h4, rfl, ?_, e⟩
      unfold f_X5_holderOf
      rw [e]
      rw [q1_e, if_pos (nI_in h4 (by decide)), wd_cl hk]
    · have e : f_X6_isWithin (nI k) 0 3 = some 0 := by
        unfold f_X6_isWithin
        rw [if_neg h1, if_pos (show (3 : Int32) < nI k from nI_lt (a := 3) (b := k) (by omega) hk)]
      refine Or.inr ⟨?_, e⟩
      unfold f_X5_holderOf
      rw [e]; rfl
theorem wd_takeName {b m C E S p : Nat} {V : MT} (G : MT) (h : wJ b m C E S V) (hp : p < C) (h2 : V 7 p 5 ≠ 2) (x : Int32) : Tt (f_X5_takeName G V p x) (fun V' => wLn b m C E S V V') := by
  unfold f_X5_takeName
  rcases ho_at G V x with ⟨k, hk, rfl, e, e2⟩ | ⟨e, e2⟩
  · rw [e, e2]
    have nm := h.name hk hp h2
    have put : Tt ((some (1 : Int32)).bind (fun q3_ => if q3_ = 0 then (some V) else (if ¬ (nI k < 0 ∨ 4 ≤ Int32.toNatClampNeg (nI k)) then (some (pt V 2 0 (Int32.toNatClampNeg (nI k)) (nI p))) else none))) (fun V' => wLn b m C E S V V') := by
      refine Tt.q1 (Tt.inn k hk ?_)
      rw [wd_cl (show k < 2 ^ 31 by omega)]
      exact Tt.ret ⟨C, E, nm.1, nm.2⟩
    refine Tt.sb (Tt.ite (fun _ => put) (fun _ => Tt.ite (fun _ => put) (fun _ => ?_)))
    exact (wd_end G h hp (by decide)).bind (fun V1 q => Tt.ret q.1.ln)
  · rw [e, e2]
    exact Tt.sb (Tt.pos rfl (Tt.q0 (Tt.ret (wLn.of h (kept.refl V)))))
theorem wd_callName {b m C E S p : Nat} {V : MT} (G : MT) (h : wJ b m C E S V) (hp : p < C) (x y : Int32) : Tt (f_X5_callName G V p x y) (fun V' => wLn b (m + 1) C E S V V') := by
  unfold f_X5_callName
  refine Tt.bind (P := fun _ => True) ?_ (fun r _ => Tt.ite (fun _ => ?_) (fun _ => ?_))
  · rcases ho_at G V x with ⟨k, hk, rfl, e, e2⟩ | ⟨e, e2⟩
    · exact Tt.eq e trivial
    · exact Tt.eq e trivial
  · exact (wd_end G h hp (by decide)).bind (fun V1 q => Tt.ret (q.1.ln.up (Nat.le_refl _) (by omega)))
  · exact (wd_putMail G h r y _).bind (fun r2 q => Tt.ret (wLn.of q.1 q.2.1))
theorem wd_spawn {b m C E S p : Nat} {V : MT} (G : MT) (h : wJ b m C E S V) (hp : p < C) (h2 : V 7 p 5 ≠ 2) (x y : Int32) : Tt (f_X5_spawn G V p x y) (fun V' => wLn b m C E S V V') := by
  unfold f_X5_spawn
  rcases wd_cM G h x (-1) with e | ⟨h24, V1, e, hn, n1, n2, n3, n4, n5⟩
  · rw [e]
    exact Tt.sb (Tt.ocN ((wd_end G h hp (by decide)).bind (fun V1 q => Tt.ret q.1.ln)))
  · rw [e]
    refine Tt.sb (Tt.ocS (Tt.pos (c := C < 24) h24 ?_))
    have c := h.comeOut h24 hn (Or.inl ⟨n1, by rw [n2, h.fresh (by decide) (Nat.le_refl _)]; rfl, by rw [n3]; exact n4⟩) n5
    have o5 : V1 7 p 5 = V 7 p 5 := hn.2.1 7 p 5 (by omega) (by omega)
    refine Tt.ite (fun _ => Tt.ret ⟨C + 1, E, c.1.sf (by decide) (us_7 (by omega) (by decide)), c.2.trans ((kept.sf (by decide)).R _ _)⟩) (fun _ => ?_)
    refine (wd_link G c.1 (show p < C + 1 by omega) (show C < C + 1 by omega) (by rw [o5]; exact h2) (by rw [n1]; decide)).bind (fun V2 q => Tt.ret ?_)
    exact ⟨C + 1, E, q.1.sf (by decide) (us_7 (by omega) (by decide)), (c.2.trans q.2.1).trans ((kept.sf (by decide)).R _ _)⟩
end
