/-! PLACES are started; what a SUPERVISOR does; what ENDS bring about -/
section
def gK (G : MT) : Prop := (∀ a, a < 20 → 0 ≤ G 28 0 a) ∧ (∀ a, a < 192 → G 19 0 a ≠ 0 → 0 ≤ G 20 0 a)
/-- behind the starting of PLACES of s -/
def wSt (b m C E S s : Nat) (V V' : MT) : Prop := ∃ C' E', wJ b m C' E' S V' ∧ wR C E V C' E' V' ∧ (∀ i, i < C → i ≠ s → V' 7 i 5 = V 7 i 5) ∧ (∀ i, i < C → V' 7 i 4 = V 7 i 4 ∧ V' 7 i 13 = V 7 i 13) ∧ (∀ i j, i < C → i ≠ s → V' 9 i j = V 9 i j)
theorem wSt.refl {b m C E S s : Nat} {V : MT} (h : wJ b m C E S V) : wSt b m C E S s V V := ⟨C, E, h, wR.refl C E V, fun _ _ _ => rfl, fun _ _ => ⟨rfl, rfl⟩, fun _ _ _ _ => rfl⟩
theorem wSt.trans {b m C E C1 E1 S s : Nat} {V V1 V2 : MT} (r : wR C E V C1 E1 V1) (h5 : ∀ i, i < C → i ≠ s → V1 7 i 5 = V 7 i 5) (h4 : ∀ i, i < C → V1 7 i 4 = V 7 i 4 ∧ V1 7 i 13 = V 7 i 13) (h9 : ∀ i j, i < C → i ≠ s → V1 9 i j = V 9 i j) (g : wSt b m C1 E1 S s V1 V2) : wSt b m C E S s V V2 := by
  obtain ⟨C', E', q1, q2, q3, q4, q5⟩ := g
  have hC := r.1
  refine ⟨C', E', q1, r.trans q2, fun i hi hn => ?_, fun i hi => ?_, fun i j hi hn => ?_⟩
  · rw [q3 i (by omega) hn, h5 i hi hn]
  · rw [(q4 i (by omega)).1, (q4 i (by omega)).2, (h4 i hi).1, (h4 i hi).2]; exact ⟨rfl, rfl⟩
  · rw [q5 i j (by omega) hn, h9 i j hi hn]
/-- what the starting of one more level asks -/
def spOk (G : MT) (kR : Nat → Int32 → Int32 → Int32 → MT → Option MT) (lv : Nat) : Prop := ∀ (b m C E S s k t : Nat) (V : MT), wJ b m C E S V → s < C → V 7 s 5 ≠ 2 → V 7 s 3 ≠ -1 → k ≤ 4 → t ≤ 4 → wFree C s k t V → Tt (kR s (nI k) (nI t) (nI lv) V) (fun V' => wSt b m C E S s V V')
theorem sp_end {b m C E S s : Nat} {V : MT} (G : MT) (h : wJ b m C E S V) (hs : s < C) {r : Int32} (hr : 0 ≤ r) : Tt ((f_X5_end G V s r).bind (fun q => some q)) (fun V' => wSt b m C E S s V V') := by
  refine (wd_end G h hs hr).bind (fun V1 q => ?_)
  obtain ⟨⟨E1, -, g1, g2, g3⟩, g4, g5⟩ := q
  exact Tt.ret ⟨C, E1, g1, g2, fun i _ hn => g5 i hn, fun i _ => ⟨g3.1 i, g3.2.1 i⟩, fun i j _ _ => g3.2.2 i j⟩
theorem wd_sp3 (G : MT) (hG : gK G) {kR : Nat → Int32 → Int32 → Int32 → MT → Option MT} {lv : Nat} (hlv : lv ≤ 5) (hR : lv < 5 → spOk G kR (lv + 1)) (f : Nat) : ∀ (b m C E S s k t : Nat) (V : MT), 5 ≤ f + k → wJ b m C E S V → s < C → V 7 s 5 ≠ 2 → V 7 s 3 ≠ -1 → k ≤ 4 → t ≤ 4 → wFree C s k t V → Tt (f_X5_startPlaces_3 G kR f s (nI t) (nI lv) (nI k) V) (fun V' => wSt b m C E S s V V') := by
  induction f with
  | zero => intro b m C E S s k t V hf _ _ _ _ hk; omega
  | succ f ih =>
    intro b m C E S s k t V hf h hs h2 h3 hk ht hfr
    rw [f_X5_startPlaces_3]
    have fin : Tt (some V) (fun V' => wSt b m C E S s V V') := Tt.ret (wSt.refl h)
    refine Tt.le t k (fun _ => fin) (fun htk => ?_)
    refine Tt.le 4 k (fun _ => fin) (fun hk4 => ?_)
    refine Tt.le 5 lv (fun _ => fin) (fun hl5 => ?_)
    have nxt : Tt (f_X5_startPlaces_3 G kR f s (nI t) (nI lv) (nI (k + 1)) V) (fun V' => wSt b m C E S s V V') := ih b m C E S s (k + 1) t V (by omega) h hs h2 h3 (by omega) ht (fun q hq => hfr q (by omega))
    rcases pl_at G (x := V 7 s 3) (y := nI k) with ⟨i5, k2, hi5, hk2, e1, e2, e⟩ | e
    · have := nI_i e2
      subst this
      rw [e]
      refine Tt.sb (Tt.neg (nI_m1 (by omega)) ?_)
      unfold f_X2_isEmptyPlace
      by_cases c : V 7 s 14 &&& 1 <<< (nI k &&& 31) = 0
      · rw [if_pos c]
        refine Tt.q0 ?_
        have ha : i5 * 4 + k < 20 := by omega
        have hc := wd_cl (show i5 * 4 + k < 2 ^ 31 by omega)
        have hc2 := wd_cl (show k < 2 ^ 31 by omega)
        simp only [hc, hc2, nI_1]
        refine Tt.inc ha (Tt.inc ha ?_)
        have go : ∀ V1, newP C V V1 → (V1 7 C 5 = 0 ∧ V1 7 C 3 = -1 ∧ 0 ≤ V1 7 C 1) ∨ (V1 7 C 5 = 1 ∧ V1 7 C 3 ≠ -1 ∧ V1 7 C 1 = -1) → V1 7 C 4 = nI s → C < 24 → ∀ V2 C2 E2, wJ b m C2 E2 S V2 → wR (C + 1) E (pt V1 9 s k (nI C)) C2 E2 V2 → (∀ i, i < C → V2 7 i 5 = pt V1 9 s k (nI C) 7 i 5 ∧ V2 7 i 4 = pt V1 9 s k (nI C) 7 i 4 ∧ V2 7 i 13 = pt V1 9 s k (nI C) 7 i 13) → (∀ i j, i < C → V2 9 i j = pt V1 9 s k (nI C) 9 i j) → Tt (f_X5_startPlaces_3 G kR f s (nI t) (nI lv) (nI (k + 1)) V2) (fun V' => wSt b m C E S s V V') := by
          intro V1 hn hst hpa h24 V2 C2 E2 g r g7 g9
          have hcm := h.comeAt h24 hn hst hs hk4 hpa h3 h2 hfr htk
          have o7 : ∀ i j, i < C → pt V1 9 s k (nI C) 7 i j = V 7 i j := fun i j hi => by rw [pt_kn (by decide)]; exact hn.2.1 7 i j (by omega) (by omega)
          have o9 : ∀ i j, i < C → ¬ (i = s ∧ j = k) → pt V1 9 s k (nI C) 9 i j = V 9 i j := fun i j hi hne => by rw [pt_app, if_neg (by omega)]; exact hn.2.1 9 i j (by omega) (by omega)
          have R := hcm.2.trans r
          have hC2 := r.1
          refine Tt.mono (ih b m C2 E2 S s (k + 1) t V2 (by omega) g (by omega) ?_ ?_ (by omega) ht (fun q hq hq4 i hi z1 z2 => ?_)) (fun V' q => wSt.trans R (fun i hi _ => by rw [(g7 i hi).1, o7 i 5 hi]) (fun i hi => by rw [(g7 i hi).2.1, (g7 i hi).2.2, o7 i 4 hi, o7 i 13 hi]; exact ⟨rfl, rfl⟩) (fun i j hi hne => by rw [g9 i j hi, o9 i j hi (fun z => hne z.1)]) q)
          · rw [(g7 s hs).1, o7 s 5 hs]; exact h2
          · rw [(R.2.2.2.1 s hs).2]; exact h3
          · rw [g9 s q hs, o9 s q hs (by omega)]
            by_cases hiC : i < C
            · refine hfr q (by omega) hq4 i hiC ?_ ?_
              · rw [(g7 i hiC).1, o7 i 5 hiC] at z1; exact z1
              · rw [(g7 i hiC).2.1, o7 i 4 hiC] at z2; exact z2
            · intro z
              have hA := g.1.at
              rcases h.2.2.2.2.1.2 s hs q (by omega) with y | ⟨i', _, y1, y2⟩
              · rw [z] at y; exact nI_m1 (by omega) y
              · rw [z] at y2; have := nI_i y2; omega
        by_cases c2 : G 27 0 (i5 * 4 + k) = 0
        · rw [if_pos c2]
          rcases wd_cM G h (G 28 0 (i5 * 4 + k)) (nI s) with e3 | ⟨h24, V1, e3, hn, n1, n2, n3, n4, n5⟩
          · rw [e3]
            exact Tt.sb (Tt.ocN (sp_end G h hs (by decide)))
          · rw [e3]
            refine Tt.sb (Tt.ocS (Tt.pos (c := C < 24) h24 ?_))
            refine Tt.inc hk4 (Tt.pos c2 ?_)
            have hst : (V1 7 C 5 = 0 ∧ V1 7 C 3 = -1 ∧ 0 ≤ V1 7 C 1) ∨ (V1 7 C 5 = 1 ∧ V1 7 C 3 ≠ -1 ∧ V1 7 C 1 = -1) := Or.inl ⟨n1, by rw [n2, h.fresh (by decide) (Nat.le_refl _)]; rfl, by rw [n3]; exact n4⟩
            have hcm := h.comeAt h24 hn hst hs hk4 n5 h3 h2 hfr htk
            exact go V1 hn hst n5 h24 _ _ _ hcm.1 (wR.refl _ _ _) (fun _ _ => ⟨rfl, rfl, rfl⟩) (fun _ _ _ => rfl)
        · rw [if_neg c2]
          rcases wd_cS G h (G 28 0 (i5 * 4 + k)) (nI s) with e3 | ⟨h24, V1, e3, hn, n1, n2, n3, n5⟩
          · rw [e3]
            exact Tt.sb (Tt.ocN (sp_end G h hs (by decide)))
          · rw [e3]
            refine Tt.sb (Tt.ocS (Tt.pos (c := C < 24) h24 ?_))
            refine Tt.inc hk4 (Tt.neg c2 ?_)
            have hst : (V1 7 C 5 = 0 ∧ V1 7 C 3 = -1 ∧ 0 ≤ V1 7 C 1) ∨ (V1 7 C 5 = 1 ∧ V1 7 C 3 ≠ -1 ∧ V1 7 C 1 = -1) := by
              refine Or.inr ⟨by rw [n1, h.fresh (by decide) (Nat.le_refl _)]; rfl, ?_, by rw [n3, h.fresh (by decide) (Nat.le_refl _)]; rfl⟩
              rw [n2]
              intro z
              have := hG.1 _ ha
              rw [z] at this
              exact absurd this (by decide)
            have hcm := h.comeAt h24 hn hst hs hk4 n5 h3 h2 hfr htk
            have hst2 : pt V1 9 s k (nI C) 7 C 5 ≠ 2 := by
              rw [pt_kn (by decide)]
              rcases hst with ⟨z, _⟩ | ⟨z, _⟩ <;> rw [z] <;> decide
            have hst3 : pt V1 9 s k (nI C) 7 C 3 ≠ -1 := by
              rw [pt_kn (by decide)]
              rcases hst with ⟨z, _⟩ | ⟨_, z, _⟩
              · rw [n1, h.fresh (by decide) (Nat.le_refl _)] at z; exact absurd z (show ¬ (1 : Int32) = 0 by decide)
              · exact z
            refine (hR hl5 b m (C + 1) E S C 0 4 (pt V1 9 s k (nI C)) hcm.1 (by omega) hst2 hst3 (by omega) (by omega) (fun q _ hq4 i hi _ z => ?_)).bind (fun V2 q => ?_)
            · rw [pt_app, if_neg (by omega), hn.2.1 9 C q (by omega) (by omega), h.fresh (by decide) (Nat.le_refl _)]
              exact fun y => nI_m1 (by omega) y.symm
            · obtain ⟨C2, E2, q1, q2, q3, q4, q5⟩ := q
              exact go V1 hn hst n5 h24 V2 C2 E2 q1 q2 (fun i hi => ⟨q3 i (by omega) (by omega), (q4 i (by omega)).1, (q4 i (by omega)).2⟩) (fun i j hi => q5 i j (by omega) (by omega))
      · rw [if_neg c]
        refine Tt.q1 ?_
        rw [nI_1]
        exact nxt
    · rw [e]
      refine Tt.sb (Tt.pos rfl ?_)
      rw [nI_1]
      exact nxt
theorem wd_sp (G : MT) (hG : gK G) (d : Nat) : ∀ lv, lv ≤ 5 → 6 ≤ d + lv → spOk G (f_X5_startPlaces G d) lv := by
  induction d with
  | zero => intro lv h1 h2; omega
  | succ d ih =>
    intro lv h1 h2 b m C E S s k t V h hs h2 h3 hk ht hfr
    rw [f_X5_startPlaces]
    exact wd_sp3 G hG h1 (fun hl => ih (lv + 1) (by omega) (by omega)) 30 b m C E S s k t V (by omega) h hs h2 h3 hk ht hfr
theorem wd_startPlaces {b m C E S s k t : Nat} {V : MT} (G : MT) (hG : gK G) (h : wJ b m C E S V) (hs : s < C) (h2 : V 7 s 5 ≠ 2) (h3 : V 7 s 3 ≠ -1) (hk : k ≤ 4) (ht : t ≤ 4) (hfr : wFree C s k t V) : Tt (f_X5_startPlaces G 7 s (nI k) (nI t) 0 V) (fun V' => wSt b m C E S s V V') := wd_sp G hG 7 0 (by omega) (by omega) b m C E S s k t V h hs h2 h3 hk ht hfr
end
