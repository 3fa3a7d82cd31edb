/-! what a SUPERVISOR does; what ENDS bring about, one by one -/
section
theorem ts_nt {x : Bool} (h : ¬ x = true) : x = false := by cases x <;> first | rfl | exact absurd rfl h
/-- behind what a SUPERVISOR does -/
def wSu (b m C E S : Nat) (V V' : MT) : Prop := ∃ C' E', wJ b m C' E' S V' ∧ wR C E V C' E' V' ∧ ∀ i, i < C → V' 7 i 13 = V 7 i 13
theorem wSt.su {b m C E S s : Nat} {V V' : MT} (g : wSt b m C E S s V V') : wSu b m C E S V V' := by
  obtain ⟨C', E', q1, q2, q3, q4, q5⟩ := g
  exact ⟨C', E', q1, q2, fun i hi => (q4 i hi).2⟩
theorem wSu.trans {b m C E C1 E1 S : Nat} {V V1 V2 : MT} (r : wR C E V C1 E1 V1) (h : ∀ i, i < C → V1 7 i 13 = V 7 i 13) (g : wSu b m C1 E1 S V1 V2) : wSu b m C E S V V2 := by
  obtain ⟨C', E', q1, q2, q3⟩ := g
  have hC := r.1
  exact ⟨C', E', q1, r.trans q2, fun i hi => by rw [q3 i (by omega), h i hi]⟩
/-- a RESTART of p, one of s, that is OVER -/
theorem wd_restart {b m C E S s p q : Nat} {V : MT} (G : MT) (hG : gK G) (h : wJ b m C E S V) (hs : s < C) (h2 : V 7 s 5 ≠ 2) (h3 : ∃ i, i < 5 ∧ V 7 s 3 = nI i) (hq : q < 4) (hp : p < C) (hv : V 9 s q = nI p) (hp2 : V 7 p 5 = 2) : Tt ((f_X5_noteRestart G V (nI s)).bind (fun q25_ => (f_X5_restartsLately G q25_ s).bind (fun q26_ => if ¬ (q25_ 7 s 3 < 0 ∨ 5 ≤ Int32.toNatClampNeg (q25_ 7 s 3)) then (if q26_ ≤ G 24 0 (Int32.toNatClampNeg (q25_ 7 s 3)) then (if ¬ (q25_ 7 s 3 < 0 ∨ 5 ≤ Int32.toNatClampNeg (q25_ 7 s 3)) then (if G 23 0 (Int32.toNatClampNeg (q25_ 7 s 3)) = 0 then ((f_X5_startPlaces G 7 s (nI q) (nI q + 1) 0 q25_).bind (fun q36_ => some q36_)) else (if G 23 0 (Int32.toNatClampNeg (q25_ 7 s 3)) = 1 then ((f_X5_endChildren G q25_ s 0 (nI q)).bind (fun q34_ => (f_X5_startPlaces G 7 s 0 4 0 q34_).bind (fun q35_ => some q35_))) else ((f_X5_endChildren G q25_ s (nI q) (nI q)).bind (fun q32_ => (f_X5_startPlaces G 7 s (nI q) 4 0 q32_).bind (fun q33_ => some q33_))))) else none) else ((f_X5_end G q25_ s 5).bind (fun q37_ => some q37_))) else none))) (fun V' => wSu b m C E S V V') := by
  obtain ⟨i5, hi5, e3⟩ := h3
  have hA := h.1.at
  refine (wd_noteRestart G h _).bind (fun V1 q1 => ?_)
  obtain ⟨g, gk⟩ := q1
  have e3' : V1 7 s 3 = nI i5 := by rw [gk.2.2.2.2.2.2.1]; exact e3
  have h2' : V1 7 s 5 ≠ 2 := fun z => h2 ((gk.2.2.2.2.2.2.2.2.2.2.2.1 s).mp z)
  have hp2' : V1 7 p 5 = 2 := (gk.2.2.2.2.2.2.2.2.2.2.2.1 p).mpr hp2
  have hv' : V1 9 s q = nI p := by rw [gk.2.2.2.2.2.2.2.2.2.2.1]; exact hv
  have hn1 : V1 7 s 3 ≠ -1 := by rw [e3']; exact nI_m1 (by omega)
  have R := gk.R C E
  have K13 := gk.2.2.2.2.2.2.2.2.2.1
  refine (wd_restartsLately G g).bind (fun r _ => ?_)
  rw [e3']
  refine Tt.inn i5 hi5 ?_
  have down : ∀ V2, wSu b m C E S V1 V2 → wSu b m C E S V V2 := fun V2 z => wSu.trans R (fun i _ => K13 i) z
  refine Tt.ite (fun _ => ?_) (fun _ => (sp_end G g hs (by decide)).mono (fun V2 z => down V2 z.su))
  refine Tt.inn i5 hi5 ?_
  have many : ∀ a, a ≤ q → Tt ((f_X5_endChildren G V1 s (nI a) (nI q)).bind (fun q34_ => (f_X5_startPlaces G 7 s (nI a) (nI 4) 0 q34_).bind (fun q35_ => some q35_))) (fun V' => wSu b m C E S V V') := fun a ha => by
    refine (wd_endChildren G g hs (a := a) (by omega) (nI q)).bind (fun V2 z => ?_)
    obtain ⟨E2, z1, z2, z3, z4, z5, z6, z7, z8⟩ := z
    refine (wd_startPlaces G hG z1 hs (by rw [z8]; exact h2') (by rw [(z2.2.2.2.1 s hs).2]; exact hn1) (show a ≤ 4 by omega) (Nat.le_refl 4) (fun k hk hk4 i hi y1 y2 y3 => ?_)).bind (fun V3 y => Tt.ret (down V3 (wSu.trans z2 (fun i _ => z3 i) y.su)))
    by_cases e : k = q
    · subst e
      rw [z5 k (Or.inr (Or.inr rfl)), hv'] at y3
      have := nI_i y3
      subst this
      exact y1 (z2.2.2.2.2.1 p hp hp2').1
    · rw [(z6 k hk hk4 (fun y => e (nI_i y))).1] at y3
      exact nI_m1 (by omega) y3.symm
  refine Tt.ite (fun _ => ?_) (fun _ => Tt.ite (fun _ => many 0 (by omega)) (fun _ => many q (Nat.le_refl _)))
  rw [nI_1]
  refine Tt.bind (P := fun V' => wSt b m C E S s V1 V') ?_ (fun V3 y => Tt.ret (down V3 y.su))
  refine wd_startPlaces G hG g hs h2' hn1 (by omega) (by omega) (fun k hk hk4 i hi y1 y2 y3 => ?_)
  have : k = q := by omega
  subst this
  rw [hv'] at y3
  have := nI_i y3
  subst this
  exact y1 hp2'
theorem wd_superviseEnd {b m C E S p : Nat} {V : MT} (G : MT) (hG : gK G) (h : wJ b m C E S V) (hp : p < C) (hp2 : V 7 p 5 = 2) : Tt (f_X5_superviseEnd G V p) (fun V' => wSu b m C E S V V') := by
  have hA := h.1.at
  have fin : Tt (some V) (fun V' => wSu b m C E S V V') := Tt.ret (wSt.refl h (s := 0)).su
  unfold f_X5_superviseEnd
  rcases li_at G hA.1 hA.2 (V 7 p 4) with ⟨s, hs, es, h2, e⟩ | ⟨hno, e⟩
  · rw [e]
    refine Tt.sb (Tt.ocS (Tt.pos (c := s < 24) (by omega) ?_))
    refine (wd_placeOf V s (nI p)).bind (fun r hr => ?_)
    rcases pl_at G (x := V 7 s 3) (y := r) with ⟨i5, q, hi5, hq, e1, e2, e⟩ | e
    · subst e2
      have hv : V 9 s q = nI p := by
        rcases hr with z | ⟨q2, z1, z2, z3⟩
        · exact absurd z (nI_m1 (by omega))
        · have := nI_i z2; subst this; exact z3
      rw [e]
      refine Tt.sb (Tt.neg (nI_m1 (by omega)) ?_)
      have lv : Tt (some (pt (pt V 9 s (Int32.toNatClampNeg (nI q)) (-1)) 7 s 14 (pt V 9 s (Int32.toNatClampNeg (nI q)) (-1) 7 s 14 ||| 1 <<< (nI q &&& 31)))) (fun V' => wSu b m C E S V V') := by
        rw [wd_cl (show q < 2 ^ 31 by omega)]
        have l1 := h.leave hs hq hp hp2 hv
        refine Tt.ret ⟨C, E, l1.1.sf (by decide) (us_7 hs (by decide)), l1.2.trans ((kept.sf (by decide)).R C E), fun i _ => ?_⟩
        rw [pt_ne (by omega), pt_kn (by decide)]
      rcases sp_has G (V 7 s 3) with ⟨-, -, -, e3⟩ | e3
      · rw [e3]
        refine Tt.q1 (Tt.inn (i5 * 4 + q) (by omega) (Tt.ite (fun _ => Tt.inn q hq lv) (fun _ => Tt.ite (fun _ => Tt.ite (fun _ => Tt.inn q hq lv) (fun _ => ?_)) (fun _ => ?_))))
        · exact wd_restart G hG h hs h2 ⟨i5, hi5, e1⟩ hq hp hv hp2
        · exact wd_restart G hG h hs h2 ⟨i5, hi5, e1⟩ hq hp hv hp2
      · rw [e3]
        exact Tt.q0 fin
    · rw [e]
      exact Tt.sb (Tt.pos rfl fin)
  · rw [e]
    exact Tt.sb (Tt.ocN fin)
/-- one END more is done with -/
theorem wJ.settled {b m C E S p : Nat} {V : MT} (h : wJ b m C E S V) (hS : S < E) (hp : p < C) (e : V 4 0 S = nI p) (hL : V 7 p 13 = 0) (hK : wNK C V p) : wJ b m C E (S + 1) (pt V 0 0 13 (nI (S + 1))) ∧ wR C E V C E (pt V 0 0 13 (nI (S + 1))) := by
  have hA0 := h.1.at
  obtain ⟨hA, hB, hC, hL2, hP, hN, hM, hF⟩ := h
  obtain ⟨a1, a2, a3, a4, a5, a6⟩ := hA
  refine ⟨⟨⟨?_, ?_, pt_at .., a4, by omega, ?_⟩, ?_, fun i hi => (hC i hi).cg (fun _ _ _ => pt_kn (by omega)), ⟨?_, fun n hn i hi z => ?_⟩, ⟨fun i hi z => ?_, ?_⟩, hN.cg (fun _ => pt_kn (by decide)) (fun _ => pt_kn (by decide)), hM.cg (pt_ne (by decide)) (pt_ne (by decide)) (pt_ne (by decide)), hF.pt (us_0 (by decide)) (Or.inr (by decide))⟩, ⟨Nat.le_refl _, Nat.le_refl _, fun _ _ => pt_kn (by decide), fun _ _ => ⟨pt_kn (by decide), pt_kn (by decide)⟩, fun i _ z => ⟨by rw [pt_kn (by decide)]; exact z, pt_kn (by decide)⟩, fun p2 _ _ hk i hi z => ?_, pt_ne (by decide), fun _ => pt_kn (by decide)⟩⟩
  · rw [pt_ne (by decide)]; exact a1
  · rw [pt_ne (by decide)]; exact a2
  · rw [cov_cg (V := V) (fun i => by rw [pt_kn (by decide)])]; exact a6
  · unfold jB at hB ⊢
    simp only [pt_kn (show 4 ≠ 0 by decide), pt_kn (show 7 ≠ 0 by decide)]
    exact hB
  · simp only [pt_kn (show 7 ≠ 0 by decide)]
    exact hL2.1
  · rw [pt_kn (by decide)] at z ⊢
    by_cases c : n = S
    · subst c
      rw [e] at z
      have := nI_i z
      subst this
      exact hL
    · exact hL2.2 n (by omega) i hi z
  · rw [pt_kn (by decide)] at z
    rcases hP.1 i hi z with y | ⟨s, hs, q1, q2, q3, q4⟩
    · left; rw [pt_kn (by decide)]; exact y
    · refine Or.inr ⟨s, hs, by rw [pt_kn (by decide)]; exact q1, by rw [pt_kn (by decide)]; exact q2, fun n hn y => ?_, ?_⟩
      · rw [pt_kn (by decide)] at y
        by_cases c : n = S
        · subst c
          rw [e] at y
          have := nI_i y
          subst this
          exact hK i hi z q1
        · exact q3 n (by omega) y
      · simp only [pt_kn (show 9 ≠ 0 by decide)]
        exact q4
  · simp only [pt_kn (show 9 ≠ 0 by decide)]
    exact hP.2
  · rw [pt_kn (by decide)] at z ⊢
    exact hk i hi z
theorem wd_s62 {b S p Cs Es M : Nat} {Vs : MT} (G : MT) (hG : gK G) {k0 : MT → Option MT} {Q : MT → Prop} (hk0 : ∀ C' E' V', wJ b M C' E' (S + 1) V' → wR Cs Es Vs C' E' V' → S + 1 ≤ E' → Tt (k0 V') Q) (f : Nat) : ∀ (k C E m : Nat) (V : MT), k ≤ 24 → 25 ≤ f + k → m + (24 - k) ≤ M → wJ b m C E S V → wR Cs Es Vs C E V → p < C → S < E → V 4 0 S = nI p → wNK C V p → (∀ c, c < k → bt (V 7 p 13) c = false) → Tt (f_X5_settle_62 G k0 f p (nI k) V) Q := by
  induction f with
  | zero => intro k C E m V hk hf; omega
  | succ f ih =>
    intro k C E m V hk hf hm h r hp hS e hK hb
    have hA := h.1.at
    have hp2 : V 7 p 5 = 2 := h.done hS hp e
    rw [f_X5_settle_62, hA.1]
    have fin : C ≤ k → Tt ((f_X5_superviseEnd G V p).bind (fun q9_ => k0 (pt q9_ 0 0 13 ((q9_ 0 0 13) + 1)))) Q := fun hCk => by
      have hz : V 7 p 13 = 0 := wd_z (fun c _ => by
        by_cases z : bt (V 7 p 13) c = true
        · have := (h.2.2.2.1.1 p hp c z).1
          exact hb c (by omega)
        · exact ts_nt z)
      refine (wd_superviseEnd G hG h hp hp2).bind (fun V2 q => ?_)
      obtain ⟨C2, E2, q1, q2, q3⟩ := q
      have hE2 := q2.2.1
      have e2 : V2 4 0 S = nI p := by rw [q2.2.2.1 S hS]; exact e
      have q4 := q1.settled (by omega) (by have := q2.1; omega) e2 (by rw [q3 p hp]; exact hz) (q2.2.2.2.2.2.1 p hp hp2 hK)
      rw [show V2 0 0 13 + 1 = nI (S + 1) by rw [q1.1.2.2.1, nI_1]]
      exact hk0 C2 E2 _ (q4.1.up (Nat.le_refl _) (by omega)) ((r.trans q2).trans q4.2) (by omega)
    refine Tt.le C k fin (fun hkC => ?_)
    refine Tt.le 24 k (fun _ => fin (by omega)) (fun hk4 => ?_)
    unfold f_X2_isLinkedWith
    by_cases c : V 7 p 13 &&& 1 <<< (nI k &&& 31) = 0
    · rw [if_pos c]
      refine Tt.q0 ?_
      rw [nI_1]
      refine ih (k + 1) C E m V (by omega) (by omega) (by omega) h r hp hS e hK (fun c2 hc2 => ?_)
      by_cases z : c2 = k
      · subst z; exact (wd_has (by omega)).mp c
      · exact hb c2 (by omega)
    · rw [if_neg c]
      refine Tt.q1 (Tt.inn k hk4 ?_)
      rw [wd_cl (show k < 2 ^ 31 by omega)]
      refine (wd_unlink G h hp hkC).bind (fun V1 q => ?_)
      obtain ⟨q1, q2, q3, q4, q5⟩ := q
      have r6 : V1 7 p 6 = V 7 p 6 := (q3 p 6).resolve_right (by decide)
      refine (wd_signalTo G q1 (nI k) (nI p) (V1 7 p 6) (by rw [r6]; exact (h.2.2.1 p hp).2.1 hp2)).bind (fun V2 z => ?_)
      obtain ⟨E2, -, z1, z2, z3⟩ := z
      have R := q2.trans z2
      rw [nI_1]
      refine ih (k + 1) C E2 (m + 1) V2 (by omega) (by omega) (by omega) z1 (r.trans R) hp (by have := R.2.1; omega) (by rw [R.2.2.1 S hS]; exact e) (R.2.2.2.2.2.1 p hp hp2 hK) (fun c2 hc2 => ?_)
      rw [z3.2.1]
      refine ts_nt (fun y => ?_)
      have y2 := q4 c2 y
      rw [hb c2 (by omega)] at y2
      exact absurd y2.1 (by decide)
theorem wJ.nk {b m C E S p : Nat} {V : MT} (h : wJ b m C E S V) (h3 : V 7 p 3 = -1) (hp : p < C) : wNK C V p := fun i hi h2 z => by
  have hA := h.1.at
  rcases h.2.2.2.2.1.1 i hi h2 with y | ⟨s, hs, q1, q2, _⟩
  · rw [z] at y; exact nI_m1 (by omega) y
  · rw [z] at q1
    have := nI_i q1
    subst this
    exact q2 h3
theorem wd_s0 {b : Nat} (G : MT) (hG : gK G) (hb : b < 2 ^ 29) (f : Nat) : ∀ (C E S m : Nat) (V : MT), 25 ≤ f + S → wJ b m C E S V → Tt (f_X5_settle_0 G f V) (fun V' => ∃ C' E', wJ b (m + (E' - S) * (24 * (b + 9))) C' E' E' V' ∧ wR C E V C' E' V') := by
  induction f with
  | zero => intro C E S m V hf h; have := h.1; unfold jA at this; have := cov_le V C; omega
  | succ f ih =>
    intro C E S m V hf h
    have hA := h.1.at
    obtain ⟨a1, a2, a3, a4, a5, a6⟩ := h.1
    have hcl := cov_le V C
    rw [f_X5_settle_0, a2, a3]
    have fin : E ≤ S → Tt (some V) (fun V' => ∃ C' E', wJ b (m + (E' - S) * (24 * (b + 9))) C' E' E' V' ∧ wR C E V C' E' V') := fun z => by
      have : S = E := by omega
      subst this
      exact Tt.ret ⟨C, S, h.up (Nat.le_refl _) (by omega), wR.refl _ _ _⟩
    refine Tt.le E S fin (fun hSE => ?_)
    refine Tt.le 24 S (fun _ => fin (by omega)) (fun hS4 => ?_)
    refine Tt.inn S hS4 ?_
    rw [wd_cl (show S < 2 ^ 31 by omega)]
    obtain ⟨p, hp, ep, hp2⟩ := h.2.1.1 S hSE
    rw [ep]
    rcases pr_at G hA.1 hA.2 (nI p) with ⟨p', hp', ep', e⟩ | ⟨hno, e⟩
    · have := nI_i ep'
      subst this
      rw [e]
      refine Tt.sb (Tt.ocS (Tt.pos (c := p < 24) (by omega) ?_))
      have go : ∀ (E1 : Nat) (V1 : MT), wJ b m C E1 S V1 → wR C E V C E1 V1 → wNK C V1 p → Tt ((f_X5_tellWatchers G V1 p).bind (fun q7_ => f_X5_settle_62 G (f_X5_settle_0 G f) 30 p 0 q7_)) (fun V' => ∃ C' E', wJ b (m + (E' - S) * (24 * (b + 9))) C' E' E' V' ∧ wR C E V C' E' V') := fun E1 V1 g r hK => by
        refine (wd_tellWatchers G hb g hp).bind (fun V2 q => ?_)
        have R := r.trans (q.2.R C E1)
        have hE1 := R.2.1
        refine wd_s62 G hG (Cs := C) (Es := E) (Vs := V) (M := m + 24 * (b + 8) + 24) (fun C' E' V' w1 w2 w3 => ?_) 30 0 C E1 _ V2 (by omega) (by omega) (by omega) q.1 R hp (by omega) (by rw [R.2.2.1 S hSE]; exact ep) ((q.2.R C E1).2.2.2.2.2.1 p hp (r.2.2.2.2.1 p hp hp2).1 hK) (fun c hc => by omega)
        refine (ih C' E' (S + 1) _ V' (by omega) w1).mono (fun V3 y => ?_)
        obtain ⟨C3, E3, y1, y2⟩ := y
        refine ⟨C3, E3, ?_, w2.trans y2⟩
        have hE3 := y2.2.1
        have e8 : (E3 - S) * (24 * (b + 9)) = (E3 - (S + 1)) * (24 * (b + 9)) + 24 * (b + 9) := by
          rw [show E3 - S = (E3 - (S + 1)) + 1 by omega, Nat.succ_mul]
        refine y1.up (Nat.le_refl _) ?_
        rw [e8]
        omega
      unfold f_X2_isSupervisor
      by_cases h3 : V 7 p 3 = -1
      · rw [if_pos h3]
        exact Tt.q0 (go E V h (wR.refl _ _ _) (h.nk h3 hp))
      · rw [if_neg h3]
        refine Tt.q1 ?_
        refine (wd_endChildren G h hp (a := 0) (by omega) (-1)).bind (fun V1 z => ?_)
        obtain ⟨E1, z1, z2, z3, z4, z5, z6, z7, z8⟩ := z
        refine go E1 V1 z1 z2 (fun i hi y1 y2 => ?_)
        have y3 : V 7 i 4 = nI p := by
          rcases z7 i with y | y
          · rw [← y]; exact y2
          · rw [y] at y2; exact absurd y2.symm (nI_m1 (by omega))
        have y4 : V 7 i 5 ≠ 2 := fun y => y1 (z2.2.2.2.2.1 i hi y).1
        rcases h.2.2.2.2.1.1 i hi y4 with y | ⟨s, hs, q1, q2, q3, k, hk, q4, q5⟩
        · rw [y3] at y; exact nI_m1 (by omega) y
        · rw [y3] at q1
          have := nI_i q1
          subst this
          exact y1 ((z6 k (Nat.zero_le _) hk (nI_m1 (by omega))).2 i hi q4)
    · exact absurd rfl (hno p hp)
theorem wd_settle {b m C E S : Nat} {V : MT} (G : MT) (hG : gK G) (hb : b < 2 ^ 29) (h : wJ b m C E S V) : Tt (f_X5_settle G V) (fun V' => ∃ C' E', wJ b (m + (E' - S) * (24 * (b + 9))) C' E' E' V' ∧ wR C E V C' E' V') := wd_s0 G hG hb 30 C E S m V (by omega) h
end
