/-! who WATCHES is told; CHILDREN END; RESTARTS -/
section
theorem tw_s {t : Nat} (ht : t < 2 ^ 29) : ∃ s, s ≤ t ∧ (if 0 < nI t - 8 then nI t - 8 else 0) = nI s := by
  by_cases h : 8 ≤ t
  · have e : nI t - 8 = nI (t - 8) := pk_sub (a := t) (b := 8) h
    rw [e]
    by_cases h0 : 0 < nI (t - 8)
    · rw [if_pos h0]; exact ⟨t - 8, by omega, rfl⟩
    · rw [if_neg h0]; exact ⟨0, by omega, rfl⟩
  · have e : nI t - 8 < 0 := pk_sneg (a := t) (b := 8) (by decide) (by omega)
    rw [if_neg (fun z => by rw [Int32.lt_iff_toInt_lt] at z e; exact absurd (Int.lt_trans z e) (Int.lt_irrefl _))]
    exact ⟨0, by omega, rfl⟩
theorem wd_tw44 {b C E S p k m0 : Nat} {Vs : MT} (G : MT) (hb : b < 2 ^ 29) (hp : p < C) (hk : k < 24) (x : Int32) {k7 : Nat → Nat → Int32 → MT → Option MT} {Q : MT → Prop} (hk7 : ∀ V', wJ b (m0 + 8 + b) C E S V' → kept Vs V' → Tt (k7 p p (nI (k + 1)) V') Q) (f q : Nat) (hq : q ≤ 8) (hf : 9 ≤ f + q) (V : MT) (h : wJ b (m0 + q) C E S V) (kp : kept Vs V) : Tt (f_X5_tellWatchers_44 G k7 f p p (nI k) x (nI q) V) Q := by
  induction f generalizing q V with
  | zero => omega
  | succ f ih =>
    rw [f_X5_tellWatchers_44]
    obtain ⟨t, ht, et⟩ := (h.2.2.1 p hp).2.2.2.2.2.2.2.2 k hk
    obtain ⟨l, hl, el⟩ := h.2.2.2.2.2.2.1.2.2
    obtain ⟨s, hs, es⟩ := tw_s (t := t) (by omega)
    have hc := wd_cl (show k < 2 ^ 31 by omega)
    simp only [hc, et, es, el, nI_1, nI_add]
    have fin : Tt (if ¬ (nI k < 0 ∨ 24 ≤ k) then k7 p p (nI (k + 1)) (pt V 0 0 7 (nI (l + s))) else none) Q := by
      refine Tt.inc hk (hk7 _ (h.lost ⟨l + s, ?_, rfl⟩) (kp.trans kept.lost))
      have : l ≤ m0 + q := hl
      omega
    refine Tt.inc hk ?_
    refine Tt.le t q (fun _ => fin) (fun _ => ?_)
    refine Tt.le 8 q (fun _ => fin) (fun hq8 => ?_)
    refine (wd_putMail G h x 2 _).bind (fun r hr => ?_)
    exact ih (q + 1) (by omega) (by omega) r.2 hr.1 (kp.trans hr.2.1)
theorem wd_tw7 {b C E S p : Nat} {Vs : MT} (G : MT) (hb : b < 2 ^ 29) (hp : p < C) (f k : Nat) (hk : k ≤ 24) (hf : 25 ≤ f + k) (V : MT) (m : Nat) (h : wJ b m C E S V) (kp : kept Vs V) : Tt (f_X5_tellWatchers_7 G f p p (nI k) V) (fun V' => wJ b (m + (24 - k) * (b + 8)) C E S V' ∧ kept Vs V') := by
  induction f generalizing k V m with
  | zero => omega
  | succ f ih =>
    rw [f_X5_tellWatchers_7]
    have hA := h.1.at
    obtain ⟨n, hn, en⟩ := (h.2.2.1 p hp).2.2.2.2.2.2.2.1
    have hc := wd_cl (show k < 2 ^ 31 by omega)
    simp only [hc, en, nI_1]
    have fin : Tt (some V) (fun V' => wJ b (m + (24 - k) * (b + 8)) C E S V' ∧ kept Vs V') := Tt.ret ⟨h.up (Nat.le_refl _) (by omega), kp⟩
    refine Tt.le n k (fun _ => fin) (fun _ => ?_)
    refine Tt.le 24 k (fun _ => fin) (fun hk2 => ?_)
    refine Tt.inc hk2 ?_
    obtain ⟨d, hd⟩ : ∃ d, 24 - k = d + 1 := ⟨23 - k, by omega⟩
    have nxt : ∀ V' m', m' ≤ m + 8 + b → wJ b m' C E S V' → kept Vs V' → Tt (f_X5_tellWatchers_7 G f p p (nI (k + 1)) V') (fun V' => wJ b (m + (24 - k) * (b + 8)) C E S V' ∧ kept Vs V') := fun V' m' hm g gk => by
      refine (ih (k + 1) (by omega) (by omega) V' m' g gk).mono (fun V2 q => ⟨q.1.up (Nat.le_refl _) ?_, q.2⟩)
      rw [hd, show 24 - (k + 1) = d by omega, Nat.succ_mul]
      omega
    rcases li_at G hA.1 hA.2 (V 14 p k) with ⟨i, hi, ei, h2, e⟩ | ⟨hno, e⟩
    · rw [e]
      refine Tt.sb (Tt.ocS (Tt.pos (c := i < 24) (by omega) ?_))
      exact wd_tw44 G hb hp hk2 _ (m0 := m) (Vs := Vs) (fun V' g gk => nxt V' _ (Nat.le_refl _) g gk) 30 0 (by omega) (by omega) V h kp
    · rw [e]
      exact Tt.sb (Tt.ocN (nxt V m (by omega) h kp))
theorem wd_tellWatchers {b m C E S p : Nat} {V : MT} (G : MT) (hb : b < 2 ^ 29) (h : wJ b m C E S V) (hp : p < C) : Tt (f_X5_tellWatchers G V p) (fun V' => wJ b (m + 24 * (b + 8)) C E S V' ∧ kept V V') := wd_tw7 G hb hp 30 0 (by omega) (by omega) V m h (kept.refl V)
/-- what is left behind CHILDREN of s END, from the PLACE a on, without w -/
def wCh (C s a : Nat) (w : Int32) (V V' : MT) : Prop := (∀ i, V' 7 i 13 = V 7 i 13) ∧ (∀ i j, i ≠ s → V' 9 i j = V 9 i j) ∧ (∀ j, j < a ∨ 4 ≤ j ∨ nI j = w → V' 9 s j = V 9 s j) ∧ (∀ j, a ≤ j → j < 4 → nI j ≠ w → V' 9 s j = -1 ∧ ∀ i, i < C → V 9 s j = nI i → V' 7 i 5 = 2) ∧ (∀ i, V' 7 i 4 = V 7 i 4 ∨ V' 7 i 4 = -1) ∧ V' 7 s 5 = V 7 s 5
theorem wd_ec3 {b m C S s a : Nat} (G : MT) (hs : s < C) (ha : a ≤ 4) (w : Int32) (f k : Nat) (hk : k ≤ 4) (hf : k + 1 ≤ f) (E : Nat) (V : MT) (h : wJ b m C E S V) (y : Int32) (hy : y = nI k + (-1)) : Tt (f_X5_endChildren_3 G f s (nI a) w y V) (fun V' => ∃ E', wJ b m C E' S V' ∧ wR C E V C E' V' ∧ (∀ i, V' 7 i 13 = V 7 i 13) ∧ (∀ i j, i ≠ s → V' 9 i j = V 9 i j) ∧ (∀ j, j < a ∨ k ≤ j ∨ nI j = w → V' 9 s j = V 9 s j) ∧ (∀ j, a ≤ j → j < k → nI j ≠ w → V' 9 s j = -1 ∧ ∀ i, i < C → V 9 s j = nI i → V' 7 i 5 = 2) ∧ (∀ i, V' 7 i 4 = V 7 i 4 ∨ V' 7 i 4 = -1) ∧ V' 7 s 5 = V 7 s 5) := by
  induction f generalizing k V E y with
  | zero => omega
  | succ f ih =>
    rw [f_X5_endChildren_3]
    have hA := h.1.at
    have stop : (k = 0 ∨ k ≤ a) → Tt (some V) (fun V' => ∃ E', wJ b m C E' S V' ∧ wR C E V C E' V' ∧ (∀ i, V' 7 i 13 = V 7 i 13) ∧ (∀ i j, i ≠ s → V' 9 i j = V 9 i j) ∧ (∀ j, j < a ∨ k ≤ j ∨ nI j = w → V' 9 s j = V 9 s j) ∧ (∀ j, a ≤ j → j < k → nI j ≠ w → V' 9 s j = -1 ∧ ∀ i, i < C → V 9 s j = nI i → V' 7 i 5 = 2) ∧ (∀ i, V' 7 i 4 = V 7 i 4 ∨ V' 7 i 4 = -1) ∧ V' 7 s 5 = V 7 s 5) := fun hz => Tt.ret ⟨E, h, wR.refl C E V, fun _ => rfl, fun _ _ _ => rfl, fun _ _ => rfl, fun j h1 h2 _ => by omega, fun _ => Or.inl rfl, rfl⟩
    by_cases h0 : k = 0
    · subst h0
      refine Tt.pos ?_ (stop (Or.inl rfl))
      rw [hy]; decide
    obtain ⟨k', rfl⟩ : ∃ k', k = k' + 1 := ⟨k - 1, by omega⟩
    rw [pk_m1] at hy
    subst hy
    have hc := wd_cl (show k' < 2 ^ 31 by omega)
    simp only [hc]
    refine Tt.neg (nI_pos (by omega)) ?_
    refine Tt.ite (fun hl => stop (Or.inr ?_)) (fun hl => ?_)
    · by_cases z : k' + 1 ≤ a
      · exact z
      · exact absurd hl (nI_nlt (by omega) (by omega))
    have hak : a ≤ k' := by
      by_cases z : a ≤ k'
      · exact z
      · exact absurd (nI_lt (show k' < a by omega) (by omega)) hl
    refine Tt.inc (show k' < 4 by omega) ?_
    rcases pr_at G hA.1 hA.2 (V 9 s k') with ⟨e, he, ev, eq⟩ | ⟨hno, eq⟩
    · rw [eq]
      refine Tt.sb (Tt.ocS (Tt.pos (c := e < 24) (by omega) ?_))
      refine Tt.ite (fun hw => ?_) (fun hw => ?_)
      · refine (ih k' (by omega) (by omega) E V h _ rfl).mono (fun V' q => ?_)
        obtain ⟨E', q1, q2, q3, q4, q5, q6, q7, q8⟩ := q
        refine ⟨E', q1, q2, q3, q4, fun j hj => q5 j (hj.imp id (fun z => z.imp (fun z => by omega) id)), fun j h1 h2 h3 => ?_, q7, q8⟩
        have : j ≠ k' := by rintro rfl; exact h3 hw
        exact q6 j h1 (by omega) h3
      · refine (wd_end G h he (by decide)).bind (fun V1 q => ?_)
        obtain ⟨⟨E1, -, g1, g2, g3⟩, g4, g5⟩ := q
        refine Tt.inc (show k' < 4 by omega) ?_
        have p1 := g1.par he g4
        have ev2 : pt V1 7 e 4 (-1) 9 s k' = nI e := by rw [pt_kn (by decide), g3.2.2]; exact ev
        have p2 := p1.1.leave hs (show k' < 4 by omega) he (by rw [pt_ne (by decide)]; exact g4) ev2
        refine (ih k' (by omega) (by omega) E1 _ p2.1 _ rfl).mono (fun V' q => ?_)
        obtain ⟨E', q1, q2, q3, q4, q5, q6, q7, q8⟩ := q
        have r2 := (g2.trans p1.2).trans p2.2
        have same : ∀ j, j ≠ k' → pt (pt V1 7 e 4 (-1)) 9 s k' (-1) 9 s j = V 9 s j := fun j hj => by rw [pt_ne (by omega), pt_kn (by decide), g3.2.2]
        refine ⟨E', q1, r2.trans q2, fun i => ?_, fun i j hi => ?_, fun j hj => ?_, fun j h1 h2 h3 => ?_, fun i => ?_, ?_⟩
        · rw [q3, pt_kn (by decide), pt_ne (by omega), g3.2.1]
        · rw [q4 i j hi, pt_in hi, pt_kn (by decide), g3.2.2]
        · rw [q5 j (hj.imp id (fun z => z.imp (fun z => by omega) id))]
          refine same j ?_
          rintro rfl
          rcases hj with z | z | z
          · omega
          · omega
          · exact hw z
        · by_cases e1 : j = k'
          · subst e1
            refine ⟨by rw [q5 j (Or.inr (Or.inl (Nat.le_refl _))), pt_at], fun i hi z => ?_⟩
            rw [ev] at z
            have := nI_i z
            subst this
            exact (q2.2.2.2.2.1 e he (by rw [pt_kn (by decide), pt_ne (by decide)]; exact g4)).1
          · have t := q6 j h1 (by omega) h3
            rw [same j e1] at t
            exact t
        · rcases q7 i with z | z
          · by_cases e1 : i = e
            · subst e1; right; rw [z, pt_kn (by decide), pt_at]
            · left; rw [z, pt_kn (by decide), pt_in e1, g3.1]
          · exact Or.inr z
        · have hse : s ≠ e := by
            rintro rfl
            rcases h.2.2.2.2.1.2 s hs k' (by omega) with z | ⟨i, z1, z2, z3⟩
            · rw [ev] at z; exact nI_m1 (by omega) z
            · rw [ev] at z3; have := nI_i z3; omega
          rw [q8, pt_kn (by decide), pt_ne (by decide), g5 s hse]
    · rw [eq]
      refine Tt.sb (Tt.ocN ?_)
      refine (ih k' (by omega) (by omega) E V h _ rfl).mono (fun V' q => ?_)
      obtain ⟨E', q1, q2, q3, q4, q5, q6, q7, q8⟩ := q
      refine ⟨E', q1, q2, q3, q4, fun j hj => q5 j (hj.imp id (fun z => z.imp (fun z => by omega) id)), fun j h1 h2 h3 => ?_, q7, q8⟩
      by_cases e1 : j = k'
      · subst e1
        refine ⟨?_, fun i hi z => absurd z (hno i hi)⟩
        rw [q5 j (Or.inr (Or.inl (Nat.le_refl _)))]
        rcases h.2.2.2.2.1.2 s hs j (by omega) with z | ⟨i, -, hi, z⟩
        · exact z
        · exact absurd z (hno i hi)
      · exact q6 j h1 (by omega) h3
theorem wd_endChildren {b m C E S s a : Nat} {V : MT} (G : MT) (h : wJ b m C E S V) (hs : s < C) (ha : a ≤ 4) (w : Int32) : Tt (f_X5_endChildren G V s (nI a) w) (fun V' => ∃ E', wJ b m C E' S V' ∧ wR C E V C E' V' ∧ wCh C s a w V V') := by
  unfold f_X5_endChildren
  refine (wd_ec3 G hs ha w 30 4 (by omega) (by omega) E V h 3 (by decide)).mono (fun V' q => ?_)
  obtain ⟨E', q1, q2, q3, q4, q5, q6, q7, q8⟩ := q
  exact ⟨E', q1, q2, q3, q4, q5, q6, q7, q8⟩
theorem wd_noteRestart {b m C E S : Nat} {V : MT} (G : MT) (h : wJ b m C E S V) (x : Int32) : Tt (f_X5_noteRestart G V x) (fun V' => wJ b m C E S V' ∧ kept V V') := by
  obtain ⟨r, hr, er⟩ := h.2.2.2.2.2.2.1.2.1
  unfold f_X5_noteRestart
  simp only [pt_kn (show 0 ≠ 5 by decide), pt_kn (show 0 ≠ 6 by decide), er, nI_1]
  have hc := wd_cl (show r < 2 ^ 31 by omega)
  simp only [hc]
  refine Tt.le 24 r (fun _ => Tt.ret ⟨h, kept.refl V⟩) (fun hl => ?_)
  refine Tt.inc hl (Tt.inc hl (Tt.ret ⟨?_, ?_⟩))
  · exact ((h.sf sf_5 (us_5 hl)).sf sf_6 (us_6 hl)).rc ⟨r + 1, by omega, rfl⟩
  · exact ((kept.sf sf_5).trans (kept.sf sf_6)).trans kept.rc
theorem wd_ra5 {V : MT} (G : MT) {r : Nat} (hr : r ≤ 24) (er : V 0 0 16 = nI r) (p : Nat) (t : Int32) (f k : Nat) (hk : k ≤ 24) (hf : 25 ≤ f + k) (c : Nat) : Tt (f_X5_restartsAbove_5 G V f p t (nI c) (nI k)) (fun z => ∃ d, d ≤ c + 24 - k ∧ z = nI d) := by
  induction f generalizing k c with
  | zero => omega
  | succ f ih =>
    rw [f_X5_restartsAbove_5]
    have hc := wd_cl (show k < 2 ^ 31 by omega)
    simp only [hc, er, nI_1]
    have fin : Tt (some (nI c)) (fun z => ∃ d, d ≤ c + 24 - k ∧ z = nI d) := Tt.ret ⟨c, by omega, rfl⟩
    refine Tt.le r k (fun _ => fin) (fun _ => ?_)
    refine Tt.le 24 k (fun _ => fin) (fun hk2 => ?_)
    have n0 := (ih (k + 1) (by omega) (by omega) c).mono (Q := fun z => ∃ d, d ≤ c + 24 - k ∧ z = nI d) (fun z q => by obtain ⟨d, q1, q2⟩ := q; exact ⟨d, by omega, q2⟩)
    have n1 := (ih (k + 1) (by omega) (by omega) (c + 1)).mono (Q := fun z => ∃ d, d ≤ c + 24 - k ∧ z = nI d) (fun z q => by obtain ⟨d, q1, q2⟩ := q; exact ⟨d, by omega, q2⟩)
    refine Tt.inc hk2 ?_
    refine Tt.ite (fun _ => ?_) (fun _ => n0)
    exact Tt.inc hk2 (Tt.ite (fun _ => n0) (fun _ => n1))
theorem wd_restartsAbove {b m C E S p : Nat} {V : MT} (G : MT) (h : wJ b m C E S V) (t : Int32) : Tt (f_X5_restartsAbove G V p t) (fun _ => True) := by
  obtain ⟨r, hr, er⟩ := h.2.2.2.2.2.2.1.2.1
  exact (wd_ra5 G hr er p t 60 0 (by omega) (by omega) 0).mono (fun _ _ => trivial)
theorem sp_has (G : MT) (x : Int32) : (0 ≤ x ∧ x < G 22 0 0 ∧ x < 5 ∧ f_X3_hasSpec G x = some 1) ∨ f_X3_hasSpec G x = some 0 := by
  unfold f_X3_hasSpec
  by_cases h1 : x < 0
  · rw [if_pos h1]; exact Or.inr rfl
  · rw [if_neg h1]
    by_cases h2 : G 22 0 0 ≤ x
    · rw [if_pos h2]; exact Or.inr rfl
    · rw [if_neg h2]
      by_cases h3 : 5 ≤ x
      · rw [if_pos h3]; exact Or.inr rfl
      · rw [if_neg h3]
        exact Or.inl ⟨Int32.not_lt.mp h1, Int32.not_le.mp h2, Int32.not_le.mp h3, rfl⟩
theorem sp_in {x : Int32} (h0 : 0 ≤ x) (h5 : x < 5) : ∃ j, j < 5 ∧ x = nI j := by
  obtain ⟨j, hj, rfl⟩ := nI_of (Int32.not_lt.mpr h0)
  exact ⟨j, (nI_ltI (a := j) (b := 5) hj (by decide)).mp h5, rfl⟩
theorem wd_restartsLately {b m C E S p : Nat} {V : MT} (G : MT) (h : wJ b m C E S V) : Tt (f_X5_restartsLately G V p) (fun _ => True) := by
  unfold f_X5_restartsLately
  rcases sp_has G (V 7 p 3) with ⟨h0, -, h5, e⟩ | e
  · rw [e]
    refine Tt.q1 ?_
    obtain ⟨j, hj, ej⟩ := sp_in h0 h5
    rw [ej]
    refine Tt.inn j hj ?_
    exact (wd_restartsAbove G h _).bind (fun _ _ => Tt.ret trivial)
  · rw [e]
    exact Tt.q0 (Tt.ret trivial)
/-- where a PLACE stands -/
theorem pl_at (G : MT) {x y : Int32} : (∃ i k, i < 5 ∧ k < 4 ∧ x = nI i ∧ y = nI k ∧ f_X3_placeAt G x y = some (nI (i * 4 + k))) ∨ f_X3_placeAt G x y = some (-1) := by
  unfold f_X3_placeAt
  by_cases h1 : x < 0
  · rw [if_pos h1]; exact Or.inr rfl
  rw [if_neg h1]
  by_cases h2 : G 22 0 0 ≤ x
  · rw [if_pos h2]; exact Or.inr rfl
  rw [if_neg h2]
  by_cases h3 : x < 5
  · rw [if_pos h3]
    obtain ⟨i, hi, rfl⟩ := sp_in (Int32.not_lt.mp h1) h3
    by_cases h4 : y < 0
    · rw [if_pos h4]; exact Or.inr rfl
    rw [if_neg h4, if_pos (nI_in hi (by decide))]
    by_cases h5 : G 26 0 (nI i).toNatClampNeg ≤ y
    · rw [if_pos h5]; exact Or.inr rfl
    rw [if_neg h5]
    by_cases h6 : y < 4
    · rw [if_pos h6]
      obtain ⟨k, hk, rfl⟩ := nI_of h4
      have hk4 : k < 4 := (nI_ltI (a := k) (b := 4) hk (by decide)).mp h6
      refine Or.inl ⟨i, k, hi, hk4, rfl, rfl, ?_⟩
      rw [show nI i * 4 = nI (i * 4) from pk_mul i 4, nI_add]
    · rw [if_neg h6]; exact Or.inr rfl
  · rw [if_neg h3]; exact Or.inr rfl
theorem wd_po2 (V : MT) (s : Nat) (x : Int32) (f k : Nat) (hk : k ≤ 4) (hf : 5 ≤ f + k) : Tt (f_X2_placeOf_2 V f s x (nI k)) (fun z => z = -1 ∨ ∃ q, q < 4 ∧ z = nI q ∧ V 9 s q = x) := by
  induction f generalizing k with
  | zero => omega
  | succ f ih =>
    rw [f_X2_placeOf_2]
    have hc := wd_cl (show k < 2 ^ 31 by omega)
    simp only [hc, nI_1]
    refine Tt.le 4 k (fun _ => Tt.ret (Or.inl rfl)) (fun h4 => ?_)
    refine Tt.inc h4 (Tt.ite (fun e => Tt.ret (Or.inr ⟨k, h4, rfl, e⟩)) (fun _ => ih (k + 1) (by omega) (by omega)))
theorem wd_placeOf (V : MT) (s : Nat) (x : Int32) : Tt (f_X2_placeOf V s x) (fun z => z = -1 ∨ ∃ q, q < 4 ∧ z = nI q ∧ V 9 s q = x) := wd_po2 V s x 30 0 (by omega) (by omega)
end
