/-! a turn; turns and ticks; a world is copied -/
section
theorem wJ.ws {b m C E S i : Nat} {V : MT} (h : wJ b m C E S V) (hi : i < C) (h0 : V 7 i 5 = 0) : V 7 i 3 = -1 := by
  rcases (h.2.2.1 i hi).2.2.2.1 with ⟨a, _⟩ | ⟨_, _, a, _⟩
  · exact a
  · exact absurd h0 a
theorem wd_fr4 (G : MT) {V : MT} {C : Nat} (hC : V 0 0 5 = nI C) (h24 : C ≤ 24) (f : Nat) : ∀ (k : Nat) (o : Option Nat), k ≤ 24 → 25 ≤ f + k → (o = none ∨ ∃ e, e < C ∧ o = some e ∧ V 7 e 5 = 0) → Tt (f_X5_firstReady_4 G V f o (nI k)) (fun r => r = none ∨ ∃ e, e < C ∧ r = some e ∧ V 7 e 5 = 0) := by
  induction f with
  | zero => intro k o hk hf; omega
  | succ f ih =>
    intro k o hk hf ho
    rw [f_X5_firstReady_4, hC]
    have hc := wd_cl (show k < 2 ^ 31 by omega)
    simp only [hc, nI_1]
    rcases ho with rfl | ⟨e, he, rfl, e0⟩
    · refine Tt.ocN ?_
      refine Tt.le C k (fun _ => Tt.ret (Or.inl rfl)) (fun hkC => ?_)
      refine Tt.le 24 k (fun _ => Tt.ret (Or.inl rfl)) (fun hk4 => ?_)
      refine Tt.inc hk4 (Tt.ite (fun z => ?_) (fun _ => ?_))
      · exact ih (k + 1) (some k) (by omega) (by omega) (Or.inr ⟨k, hkC, rfl, z⟩)
      · exact ih (k + 1) none (by omega) (by omega) (Or.inl rfl)
    · refine Tt.ocS ?_
      have fin : Tt (some (some e)) (fun r => r = none ∨ ∃ e, e < C ∧ r = some e ∧ V 7 e 5 = 0) := Tt.ret (Or.inr ⟨e, he, rfl, e0⟩)
      have nx : k < 24 → Tt (f_X5_firstReady_4 G V f (some e) (nI (k + 1))) (fun r => r = none ∨ ∃ e, e < C ∧ r = some e ∧ V 7 e 5 = 0) := fun hk4 => ih (k + 1) (some e) (by omega) (by omega) (Or.inr ⟨e, he, rfl, e0⟩)
      refine Tt.le C k (fun _ => fin) (fun hkC => ?_)
      refine Tt.le 24 k (fun _ => fin) (fun hk4 => ?_)
      refine Tt.inc hk4 (Tt.ite (fun z => ?_) (fun _ => nx hk4))
      refine Tt.ite (fun _ => nx hk4) (fun _ => ?_)
      exact ih (k + 1) (some k) (by omega) (by omega) (Or.inr ⟨k, hkC, rfl, z⟩)
theorem wd_firstReady (G : MT) {V : MT} {C : Nat} (hC : V 0 0 5 = nI C) (h24 : C ≤ 24) : Tt (f_X5_firstReady G V) (fun r => r = none ∨ ∃ e, e < C ∧ r = some e ∧ V 7 e 5 = 0) := wd_fr4 G hC h24 30 0 none (by omega) (by omega) (Or.inl rfl)
theorem wd_dt27 {b Cs Es p : Nat} {Vs : MT} (G : MT) (hG : gK G) (hb : b + 20 < 2 ^ 29) (f : Nat) : ∀ (k C E : Nat) (V : MT), k ≤ 20 → 21 ≤ f + k → wI (b + k) C E V → wR Cs Es Vs C E V → p < C → Tt (f_X5_doTurn_27 G f p (nI k) V) (fun r => r.1 = 1 ∧ ∃ C' E', wI (b + 20) C' E' r.2 ∧ wR Cs Es Vs C' E' r.2) := by
  induction f with
  | zero => intro k C E V hk hf; omega
  | succ f ih =>
    intro k C E V hk hf h r hp
    rw [f_X5_doTurn_27]
    have fin : Tt (if V 7 p 5 = 0 then ((f_X5_ready G V p).bind (fun q5_ => some ((1 : Int32), q5_))) else (some (1, V))) (fun r => r.1 = 1 ∧ ∃ C' E', wI (b + 20) C' E' r.2 ∧ wR Cs Es Vs C' E' r.2) := by
      refine Tt.ite (fun h0 => ?_) (fun _ => Tt.ret ⟨rfl, C, E, h.up (by omega), r⟩)
      exact (wd_ready G h hp (by rw [h0]; decide) (wJ.ws h hp h0)).bind (fun V1 z => Tt.ret ⟨rfl, C, E, wI.up (b := b + k) z.1 (by omega), r.trans (z.2.1.R C E)⟩)
    refine Tt.le 20 k (fun _ => fin) (fun hk2 => ?_)
    refine Tt.ite (fun h0 => ?_) (fun h0 => ?_)
    · have h2 : V 7 p 5 ≠ 2 := by rw [h0]; decide
      have h3 := wJ.ws h hp h0
      have go : ∀ (C1 E1 : Nat) (V1 : MT) (x : Int32), wI (b + (k + 1)) C1 E1 V1 → wR C E V C1 E1 V1 → Tt (if V1 7 p 5 = 0 then ((f_X5_doTurn_27 G f) p (nI k + 1) (pt V1 7 p 8 x)) else ((f_X5_doTurn_27 G f) p (nI k + 1) V1)) (fun r => r.1 = 1 ∧ ∃ C' E', wI (b + 20) C' E' r.2 ∧ wR Cs Es Vs C' E' r.2) := fun C1 E1 V1 x g1 g2 => by
        rw [nI_1]
        have hC := g2.1
        refine Tt.ite (fun _ => ?_) (fun _ => ?_)
        · exact ih (k + 1) C1 E1 _ (by omega) (by omega) (wJ.sf g1 (by decide) (us_7 (by omega) (by decide))) ((r.trans g2).trans ((kept.sf (by decide)).R _ _)) (by omega)
        · exact ih (k + 1) C1 E1 _ (by omega) (by omega) g1 (r.trans g2) (by omega)
      rcases ln_at G (V 7 p 1) (V 7 p 2) (V 7 p 8) with e | ⟨a, ha, e⟩
      · rw [e]
        refine Tt.sb (Tt.pos rfl ?_)
        refine (wd_end G h hp (by decide)).bind (fun V1 q => ?_)
        obtain ⟨⟨E1, -, g1, g2, g3⟩, g4, g5⟩ := q
        refine (wd_rest G hG (b := b + k) (b' := b + (k + 1)) (by omega) (by omega) g1 (kB_up (by omega) E) g2.2.1).bind (fun V2 z => ?_)
        obtain ⟨C2, E2, z1, z2⟩ := z
        exact go C2 E2 V2 _ z1 (g2.trans z2)
      · rw [e]
        refine Tt.sb (Tt.neg (nI_m1 (by omega)) (Tt.inn a ha ?_))
        rw [wd_cl (show a < 2 ^ 31 by omega)]
        have h' : wI (b + k) C E (pt V 0 0 9 (V 0 0 9 + 1)) := wJ.sf h (by decide) (us_0 (by decide))
        have k' : wR C E V C E (pt V 0 0 9 (V 0 0 9 + 1)) := (kept.sf (by decide)).R C E
        have h2' : pt V 0 0 9 (V 0 0 9 + 1) 7 p 5 ≠ 2 := by rw [pt_kn (by decide)]; exact h2
        have h3' : pt V 0 0 9 (V 0 0 9 + 1) 7 p 3 = -1 := by rw [pt_kn (by decide)]; exact h3
        have hm := kB_up (show b + k ≤ b + (k + 1) by omega) E
        have hm1 : b + k + E * kB (b + k) + 1 ≤ b + (k + 1) + E * kB (b + (k + 1)) := by
          have := Nat.mul_le_mul (Nat.le_refl E) (show kB (b + k) ≤ kB (b + (k + 1)) from Nat.mul_le_mul (Nat.le_refl 24) (by omega))
          omega
        obtain ⟨q, eq, hq⟩ := go_at (G 19 0 a)
        rw [eq]
        refine Tt.sb (Tt.ite (fun _ => ?_) (fun hq0 => ?_))
        · refine (wd_doLine G hG h' hp h2' h3' ha).bind (fun r1 z => ?_)
          obtain ⟨C1, E1, z1, z2⟩ := z
          refine (wd_rest G hG (b' := b + (k + 1)) (by omega) (by omega) z1 hm z2.2.1).bind (fun V2 y => ?_)
          obtain ⟨C2, E2, y1, y2⟩ := y
          exact go C2 E2 V2 _ y1 ((k'.trans z2).trans y2)
        · refine (wd_doLineOut G hG h' hp h2' ha (hq hq0)).bind (fun r1 z => ?_)
          obtain ⟨C1, E1, z1, z2⟩ := z
          refine (wd_rest G hG (b' := b + (k + 1)) (by omega) (by omega) z1 hm1 z2.2.1).bind (fun V2 y => ?_)
          obtain ⟨C2, E2, y1, y2⟩ := y
          exact go C2 E2 V2 _ y1 ((k'.trans z2).trans y2)
    · rw [if_neg h0] at fin ⊢
      exact fin
/-- behind a turn -/
theorem wd_doTurn {b C E : Nat} {V : MT} (G : MT) (hG : gK G) (hb : b + 20 < 2 ^ 29) (h : wI b C E V) : Tt (f_X5_doTurn G V) (fun r => (r.1 = 0 ∧ r.2 = V) ∨ (r.1 = 1 ∧ wA (b + 20) C E (pt V 0 0 8 (V 0 0 8 + 1)) r.2)) := by
  have hA := h.1.at
  unfold f_X5_doTurn
  refine (wd_firstReady G hA.1 hA.2).bind (fun o ho => ?_)
  rcases ho with rfl | ⟨p, hp, rfl, h0⟩
  · exact Tt.ocN (Tt.ret (Or.inl ⟨rfl, rfl⟩))
  · refine Tt.ocS (Tt.pos (c := p < 24) (by omega) ?_)
    have h' : wI b C E (pt V 0 0 8 (V 0 0 8 + 1)) := wJ.turn h
    have h2' : pt V 0 0 8 (V 0 0 8 + 1) 7 p 5 ≠ 2 := by rw [pt_kn (by decide), h0]; decide
    refine (wd_resume h' hp h2').bind (fun V1 z => ?_)
    refine (wd_dt27 G hG hb 30 0 C E V1 (by omega) (by omega) z.1 (z.2.1.R C E) hp).mono (fun r q => Or.inr ⟨q.1, ?_⟩)
    obtain ⟨C', E', q1, q2⟩ := q.2
    exact ⟨C', E', q1, q2⟩
/-- the relation, whatever the turns -/
theorem wR.tn {C E C' E' : Nat} {V V' : MT} {x y : Int32} (h : wR C E (pt V 0 0 8 x) C' E' V') : wR C E (pt V 0 0 8 y) C' E' (pt V' 0 0 8 y) := by
  obtain ⟨a1, a2, a3, a4, a5, a6, a7, a8⟩ := h
  have e : ∀ (z : Int32) (W : MT) k i j, k ≠ 0 → pt W 0 0 8 z k i j = W k i j := fun z W k i j hk => pt_kn hk
  refine ⟨a1, a2, fun n hn => ?_, fun i hi => ?_, fun i hi h2 => ?_, fun p hp h2 hk i hi z => ?_, by rw [pt_at, pt_at], fun j => ?_⟩
  · have := a3 n hn
    rw [e _ _ _ _ _ (by decide)] at this
    rw [e _ _ _ _ _ (by decide), e _ _ _ _ _ (by decide)]; exact this
  · have := a4 i hi
    rw [e _ _ _ _ _ (by decide), e _ _ _ _ _ (by decide)] at this
    rw [e _ _ _ _ _ (by decide), e _ _ _ _ _ (by decide), e _ _ _ _ _ (by decide), e _ _ _ _ _ (by decide)]; exact this
  · rw [e _ _ _ _ _ (by decide)] at h2
    have := a5 i hi (by rw [e _ _ _ _ _ (by decide)]; exact h2)
    rw [e _ _ _ _ _ (by decide)] at this
    rw [e _ _ _ _ _ (by decide), e _ _ _ _ _ (by decide), e _ _ _ _ _ (by decide)]; exact this
  · rw [e _ _ _ _ _ (by decide)] at h2
    rw [e _ _ _ _ _ (by decide)] at z ⊢
    refine a6 p hp (by rw [e _ _ _ _ _ (by decide)]; exact h2) (fun i2 hi2 z2 => ?_) i hi z
    have := hk i2 hi2
    rw [e _ _ _ _ _ (by decide), e _ _ _ _ _ (by decide)] at this
    rw [e _ _ _ _ _ (by decide)] at z2 ⊢
    exact this z2
  · have := a8 j
    rw [e _ _ _ _ _ (by decide)] at this
    rw [e _ _ _ _ _ (by decide), e _ _ _ _ _ (by decide)]; exact this
theorem pt_pt (V : MT) (k i j : Nat) (x y : Int32) : pt (pt V k i j x) k i j y = pt V k i j y := by
  funext k' i' j'
  rw [pt_app, pt_app]
  by_cases c : k' = k ∧ i' = i ∧ j' = j
  · rw [if_pos c, pt_app, if_pos c]
  · rw [if_neg c, if_neg c, pt_app, if_neg c]
theorem pt_self (V : MT) (k i j : Nat) : pt V k i j (V k i j) = V := by
  funext k' i' j'
  rw [pt_app]
  by_cases c : k' = k ∧ i' = i ∧ j' = j
  · rw [if_pos c]; obtain ⟨rfl, rfl, rfl⟩ := c; rfl
  · rw [if_neg c]
theorem wd_run12 {b t : Nat} (G U : MT) (hG : gK G) (ht : t ≤ 50) (hb : b + 20 * t + 20 < 2 ^ 29) (f : Nat) : ∀ (k C E : Nat) (V : MT), k ≤ t → t + 1 ≤ f + k → wI (b + 20 * k) C E V → Tt (f_X6_run_12 G U f (nI t) (nI k) V) (fun r => ∃ d, d ≤ t - k ∧ r.1 = nI (k + d) ∧ wA (b + 20 * t) C E (pt V 0 0 8 (V 0 0 8 + nI d)) r.2) := by
  induction f with
  | zero => intro k C E V hk hf; omega
  | succ f ih =>
    intro k C E V hk hf h
    rw [f_X6_run_12]
    have z0 : pt V 0 0 8 (V 0 0 8 + nI 0) = V := by rw [nI_0, Int32.add_zero, pt_self]
    have fin : Tt (some (nI k, V)) (fun r => ∃ d, d ≤ t - k ∧ r.1 = nI (k + d) ∧ wA (b + 20 * t) C E (pt V 0 0 8 (V 0 0 8 + nI d)) r.2) := Tt.ret ⟨0, Nat.zero_le _, rfl, by rw [z0]; exact wA.refl (h.up (by omega))⟩
    refine Tt.le t k (fun _ => fin) (fun hkt => ?_)
    refine (wd_doTurn G hG (by omega) h).bind (fun r hr => ?_)
    rcases hr with ⟨r1, r2⟩ | ⟨r1, C1, E1, g1, g2⟩
    · refine Tt.pos r1 ?_
      rw [r2]; exact fin
    · refine Tt.neg (by rw [r1]; decide) ?_
      rw [nI_1]
      refine (ih (k + 1) C1 E1 r.2 (by omega) (by omega) (wI.up g1 (by omega))).mono (fun r3 q => ?_)
      obtain ⟨d, q1, q2, C2, E2, q3, q4⟩ := q
      refine ⟨d + 1, by omega, by rw [q2, show k + 1 + d = k + (d + 1) by omega], C2, E2, q3, ?_⟩
      have e8 : r.2 0 0 8 = V 0 0 8 + 1 := by rw [g2.2.2.2.2.2.2.1, pt_at]
      have e9 : r.2 0 0 8 + nI d = V 0 0 8 + nI (d + 1) := by
        rw [e8, Int32.add_assoc, show (1 : Int32) = nI 1 from rfl, nI_add, Nat.add_comm 1 d]
      have g3 := g2.tn (y := V 0 0 8 + nI (d + 1))
      rw [e9] at q4
      exact g3.trans q4
theorem wd_run {b C E t : Nat} {V : MT} (G U : MT) (hG : gK G) (ht : t ≤ 50) (ht1 : 1 ≤ t) (hb : b + 20 * t + 20 < 2 ^ 29) (h : wI b C E V) : Tt (f_X6_run G V U (nI t)) (fun r => ∃ d, d ≤ t ∧ r.1 = nI d ∧ wA (b + 20 * t) C E (pt V 0 0 8 (V 0 0 8 + nI d)) r.2) := by
  unfold f_X6_run
  have e : f_X6_isWithin (nI t) 1 50 = some 1 := by
    unfold f_X6_isWithin
    rw [if_neg (show ¬ nI t < (1 : Int32) from nI_nlt (a := t) (b := 1) ht1 (by omega)), if_neg (show ¬ (50 : Int32) < nI t from nI_nlt (a := 50) (b := t) ht (by omega))]
  rw [e]
  refine Tt.sb ?_
  unfold f_X6_checkArgument
  rw [if_neg (by decide)]
  refine Tt.sb ?_
  refine (wd_run12 G U hG ht hb 60 0 C E V (by omega) (by omega) h).mono (fun r q => ?_)
  obtain ⟨d, q1, q2, q3⟩ := q
  exact ⟨d, by omega, by rw [q2, Nat.zero_add], q3⟩
theorem wd_tick14 {b t : Nat} (G U : MT) (ht : t ≤ 20) (hb : b + t < 2 ^ 28) (f : Nat) : ∀ (k c C E : Nat) (V : MT), k ≤ t → t + 1 ≤ f + k → wI (b + k) C E V → Tt (f_X6_tick_14 G U f (nI t) (nI c) (nI k) V) (fun r => (∃ d, d ≤ c + 24 * (t - k) ∧ r.1 = nI d) ∧ wA (b + t) C E V r.2) := by
  induction f with
  | zero => intro k c C E V hk hf; omega
  | succ f ih =>
    intro k c C E V hk hf h
    rw [f_X6_tick_14]
    refine Tt.le t k (fun _ => Tt.ret ⟨⟨c, by omega, rfl⟩, wA.refl (h.up (by omega))⟩) (fun hkt => ?_)
    refine (wd_passTime G (by omega) h).bind (fun r hr => ?_)
    obtain ⟨⟨d, d1, d2⟩, g1, g2⟩ := hr
    rw [d2, nI_add, nI_1]
    refine (ih (k + 1) (c + d) C E r.2 (by omega) (by omega) g1).mono (fun r3 q => ?_)
    obtain ⟨⟨d', q1, q2⟩, q3⟩ := q
    exact ⟨⟨d', by omega, q2⟩, wA.trans g2 q3⟩
theorem wd_tick {b C E t : Nat} {V : MT} (G U : MT) (ht : t ≤ 20) (ht1 : 1 ≤ t) (hb : b + t < 2 ^ 28) (h : wI b C E V) : Tt (f_X6_tick G V U (nI t)) (fun r => (∃ d, d ≤ 480 ∧ r.1 = nI d) ∧ wA (b + t) C E V r.2) := by
  unfold f_X6_tick
  have e : f_X6_isWithin (nI t) 1 20 = some 1 := by
    unfold f_X6_isWithin
    rw [if_neg (show ¬ nI t < (1 : Int32) from nI_nlt (a := t) (b := 1) ht1 (by omega)), if_neg (show ¬ (20 : Int32) < nI t from nI_nlt (a := 20) (b := t) ht (by omega))]
  rw [e]
  refine Tt.sb ?_
  unfold f_X6_checkArgument
  rw [if_neg (by decide)]
  refine Tt.sb ?_
  refine (wd_tick14 G U ht hb 30 0 0 C E V (by omega) (by omega) h).mono (fun r q => ?_)
  obtain ⟨⟨d, q1, q2⟩, q3⟩ := q
  exact ⟨⟨d, by omega, q2⟩, q3⟩
end
