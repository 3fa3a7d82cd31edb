/-! the den as it is written before its first PROCESS: modules, LINES, specs, PLACES -/
section
/-- k MODULES, c specs, nothing in what is still to come -/
def gP (k c : Nat) (G : MT) : Prop := G 17 0 0 = nI k ∧ gK G ∧ G 22 0 0 = nI c ∧ (∀ m, k ≤ m → m < 4 → G 18 0 (m * 4) = 0) ∧ ∀ s, c ≤ s → s < 5 → G 26 0 s = 0
/-- what may stand as LINE number k -/
def okL (k : Nat) (x a b : Int32) : Prop := (∀ G, f_X1_isLine G x a b (nI k) = some 1) ∧ (x ≠ 0 → 0 ≤ a)
theorem gP.zero : gP 0 0 G0 := ⟨rfl, ⟨fun _ _ => (by decide : (0 : Int32) ≤ 0), fun _ _ h => absurd rfl h⟩, rfl, fun _ _ _ => rfl, fun _ _ _ => rfl⟩
theorem gK.sf {G : MT} {k j : Nat} {x : Int32} (h : gK G) (h1 : k ≠ 28) (h2 : k ≠ 19) (h3 : k ≠ 20) : gK (pt G k 0 j x) := ⟨fun a ha => by rw [pt_kn (Ne.symm h1)]; exact h.1 a ha, fun a ha => by rw [pt_kn (Ne.symm h2), pt_kn (Ne.symm h3)]; exact h.2 a ha⟩
theorem md_all {k c : Nat} {G : MT} (U : MT) (h : gP k c G) (hk : k < 4) : ∃ G', f_X6_module G V0 U = some (nI k, G') ∧ gP (k + 1) c G' ∧ G' 18 0 (k * 4) = 0 := by
  obtain ⟨h1, h2, h3, h4, h5⟩ := h
  refine ⟨pt G 17 0 0 (nI (k + 1)), ?_, ⟨pt_at _ _ _ _ _, h2.sf (by decide) (by decide) (by decide), ?_, fun m hm h => ?_, fun s hs h => ?_⟩, ?_⟩
  · unfold f_X6_module
    rw [h1, nI_1]
    exact Tt.val (Tt.neg (show ¬ (4 : Int32) ≤ nI k from nI_ge (a := k) (b := 4) hk (by decide)) (Tt.cs (Tt.ret rfl)))
  · rw [pt_kn (by decide)]; exact h3
  · rw [pt_kn (by decide)]; exact h4 m (by omega) h
  · rw [pt_kn (by decide)]; exact h5 s hs h
  · rw [pt_kn (by decide)]; exact h4 k (Nat.le_refl _) hk
theorem ro_at {k c m : Nat} {G : MT} (h : gP k c G) (hm : m < k) (h4 : k ≤ 4) : f_X1_rowOf G (nI m) 0 = some (nI (m * 4)) := by
  unfold f_X1_rowOf
  rw [md_has h.1 h4 hm]
  refine Tt.val (Tt.q1 ?_)
  refine Tt.bind (P := fun z => z = 1) ⟨1, rfl, rfl⟩ (fun r e => ?_)
  subst e
  refine Tt.neg (by decide) (Tt.ret ?_)
  rw [show nI m * 4 = nI (m * 4) from pk_mul m 4, show (0 : Int32) = nI 0 from rfl, nI_add]
  rfl
theorem li_all {k c m L : Nat} {G : MT} (U : MT) (h : gP k c G) (hm : m < k) (h4 : k ≤ 4) (hL : G 18 0 (m * 4) = nI L) (hL12 : L < 12) {x a b : Int32} (ok : okL L x a b) (hm1 : m + 1 = k) : ∃ G', f_X6_line G V0 U (nI m) x a b = some (nI L, G') ∧ gP k c G' ∧ G' 18 0 (m * 4) = nI (L + 1) := by
  have hr := ro_at h hm h4
  have h16 : m * 4 < 16 := by omega
  have h192 : m * 4 * 12 + L < 192 := by omega
  refine ⟨pt (pt (pt (pt G 18 0 (m * 4) (nI (L + 1))) 19 0 (m * 4 * 12 + L) x) 20 0 (m * 4 * 12 + L) a) 21 0 (m * 4 * 12 + L) b, ?_, ?_, ?_⟩
  · unfold f_X6_line f_X5_currentOf f_X1_linesOf f_X5_isCurrentUsed
    rw [md_has h.1 h4 hm]
    refine Tt.val (Tt.sb (Tt.ci (Tt.bind (P := fun z => z = 0) ?_ (fun r e => ?_))))
    · exact Tt.q1 (Tt.pos (nI_in (show m < 4 by omega) (by decide)) (Tt.ret rfl))
    · subst e
      rw [hr]
      refine Tt.bind (P := fun z => z = nI L) ?_ (fun r e => ?_)
      · refine Tt.sb (Tt.neg (nI_m1 (by omega)) (Tt.pos (nI_in h16 (by decide)) (Tt.ret ?_)))
        rw [wd_cl (show m * 4 < 2 ^ 31 by omega)]; exact hL
      · subst e
        rw [ok.1 G]
        refine Tt.sb (Tt.ca (Tt.neg (show ¬ (12 : Int32) ≤ nI L from nI_ge (a := L) (b := 12) hL12 (by decide)) ?_))
        refine Tt.bind (P := fun z => z = 0) ⟨0, rfl, rfl⟩ (fun r e => ?_)
        subst e
        refine Tt.pos rfl (Tt.cs ?_)
        unfold f_X1_addLine
        rw [hr]
        dsimp only [Option.bind_some]
        rw [wd_cl (show m * 4 < 2 ^ 31 by omega), hL, nI_1, show nI (m * 4) * 12 = nI (m * 4 * 12) from pk_mul _ 12, nI_add, wd_cl (show m * 4 * 12 + L < 2 ^ 31 by omega)]
        refine Tt.bind (P := fun z => z = (nI L, pt (pt (pt (pt G 18 0 (m * 4) (nI (L + 1))) 19 0 (m * 4 * 12 + L) x) 20 0 (m * 4 * 12 + L) a) 21 0 (m * 4 * 12 + L) b)) ?_ (fun r e => ?_)
        · refine Tt.neg (nI_m1 (by omega)) (Tt.inc h16 (Tt.pos (show nI L < (12 : Int32) from nI_lt (a := L) (b := 12) hL12 (by decide)) (Tt.inc h16 (Tt.inc h16 (Tt.inc h192 (Tt.inc h192 (Tt.inc h192 (Tt.ret rfl))))))))
        · subst e
          exact Tt.ret rfl
  · obtain ⟨h1, h2, h3, h4', h5⟩ := h
    refine ⟨?_, ⟨fun q hq => ?_, fun q hq hx => ?_⟩, ?_, fun q hq h => ?_, fun q hq h => ?_⟩
    · rw [pt_kn (by decide), pt_kn (by decide), pt_kn (by decide), pt_kn (by decide)]; exact h1
    · rw [pt_kn (by decide), pt_kn (by decide), pt_kn (by decide), pt_kn (by decide)]; exact h2.1 q hq
    · rw [pt_kn (by decide), pt_kn (by decide), pt_app] at hx
      rw [pt_kn (by decide), pt_app]
      by_cases z : q = m * 4 * 12 + L
      · rw [if_pos ⟨rfl, rfl, z⟩] at hx ⊢
        exact ok.2 hx
      · rw [if_neg (fun w => z w.2.2)] at hx ⊢
        rw [pt_kn (by decide)] at hx
        rw [pt_kn (by decide), pt_kn (by decide)]
        exact h2.2 q hq hx
    · rw [pt_kn (by decide), pt_kn (by decide), pt_kn (by decide), pt_kn (by decide)]; exact h3
    · rw [pt_kn (by decide), pt_kn (by decide), pt_kn (by decide), pt_ne (by omega)]; exact h4' q hq h
    · rw [pt_kn (by decide), pt_kn (by decide), pt_kn (by decide), pt_kn (by decide)]; exact h5 q hq h
  · rw [pt_kn (by decide), pt_kn (by decide), pt_kn (by decide), pt_at]
theorem sp_all {k c x y z : Nat} {G : MT} (U : MT) (h : gP k c G) (hc : c < 5) (hx : x ≤ 2) (hy : y ≤ 3) (hz : z ≤ 9) (hz1 : 1 ≤ z) : ∃ G', f_X6_spec G V0 U (nI x) (nI y) (nI z) = some (nI c, G') ∧ gP k (c + 1) G' ∧ G' 26 0 c = 0 := by
  obtain ⟨h1, h2, h3, h4, h5⟩ := h
  refine ⟨pt (pt (pt (pt G 22 0 0 (nI (c + 1))) 23 0 c (nI x)) 24 0 c (nI y)) 25 0 c (nI z), ?_, ⟨?_, (((h2.sf (by decide) (by decide) (by decide)).sf (by decide) (by decide) (by decide)).sf (by decide) (by decide) (by decide)).sf (by decide) (by decide) (by decide), ?_, fun m hm h => ?_, fun s hs h => ?_⟩, ?_⟩
  · unfold f_X6_spec
    rw [show f_X6_isWithin (nI x) 0 2 = some 1 from wi_in (n := 2) hx (by decide), show f_X6_isWithin (nI y) 0 3 = some 1 from wi_in (n := 3) hy (by decide)]
    refine Tt.val (Tt.q1 (Tt.q1 ?_))
    refine Tt.bind (P := fun z => z = 1) (Tt.neg (show ¬ nI z < (1 : Int32) from nI_nlt (a := z) (b := 1) hz1 (by omega)) (Tt.neg (show ¬ (9 : Int32) < nI z from nI_nlt (a := 9) (b := z) hz (by omega)) (Tt.ret rfl))) (fun r e => ?_)
    subst e
    refine Tt.neg (by decide) (Tt.ca ?_)
    rw [h3]
    refine Tt.neg (show ¬ (5 : Int32) ≤ nI c from nI_ge (a := c) (b := 5) hc (by decide)) (Tt.cs ?_)
    unfold f_X3_addSpec
    rw [h3, nI_1, wd_cl (show c < 2 ^ 31 by omega)]
    refine Tt.bind (P := fun q => q = (nI c, pt (pt (pt (pt G 22 0 0 (nI (c + 1))) 23 0 c (nI x)) 24 0 c (nI y)) 25 0 c (nI z))) ?_ (fun r e => ?_)
    · exact Tt.pos (show nI c < (5 : Int32) from nI_lt (a := c) (b := 5) hc (by decide)) (Tt.inc hc (Tt.inc hc (Tt.inc hc (Tt.ret rfl))))
    · subst e; exact Tt.ret rfl
  · rw [pt_kn (by decide), pt_kn (by decide), pt_kn (by decide), pt_kn (by decide)]; exact h1
  · rw [pt_kn (by decide), pt_kn (by decide), pt_kn (by decide), pt_at]
  · rw [pt_kn (by decide), pt_kn (by decide), pt_kn (by decide), pt_kn (by decide)]; exact h4 m hm h
  · rw [pt_kn (by decide), pt_kn (by decide), pt_kn (by decide), pt_kn (by decide)]; exact h5 s (by omega) h
  · rw [pt_kn (by decide), pt_kn (by decide), pt_kn (by decide), pt_kn (by decide)]; exact h5 c (Nat.le_refl _) hc
theorem pl_add {k c s q w : Nat} {G : MT} (h : gP k c G) (hs : s < c) (hc : c ≤ 5) (hq : G 26 0 s = nI q) (hq4 : q < 4) (hw : w < 2 ^ 31) (x2 x4 : Int32) : ∃ G', f_X3_addPlace G (nI s) x2 (nI w) x4 = some (nI q, G') ∧ gP k c G' ∧ G' 26 0 s = nI (q + 1) := by
  obtain ⟨h1, h2, h3, h4, h5⟩ := h
  have h20 : s * 4 + q < 20 := by omega
  have hs5 : s < 5 := by omega
  refine ⟨pt (pt (pt (pt G 26 0 s (nI (q + 1))) 27 0 (s * 4 + q) (vp_nar .boolean x2)) 28 0 (s * 4 + q) (nI w)) 29 0 (s * 4 + q) x4, ?_, ⟨?_, ⟨fun a ha => ?_, fun a ha hx => ?_⟩, ?_, fun m hm h => ?_, fun z hz h => ?_⟩, ?_⟩
  · unfold f_X3_addPlace f_X3_hasSpec
    rw [h3, if_neg (nI_pos (by omega)), if_neg (nI_ge hs (by omega)), if_neg (show ¬ (5 : Int32) ≤ nI s from nI_ge (a := s) (b := 5) hs5 (by omega))]
    refine Tt.val (Tt.q1 ?_)
    rw [wd_cl (show s < 2 ^ 31 by omega), hq, nI_1, show nI s * 4 = nI (s * 4) from pk_mul s 4, nI_add, wd_cl (show s * 4 + q < 2 ^ 31 by omega)]
    exact Tt.inc hs5 (Tt.pos (show nI q < (4 : Int32) from nI_lt (a := q) (b := 4) hq4 (by decide)) (Tt.inc hs5 (Tt.inc hs5 (Tt.inc h20 (Tt.inc h20 (Tt.inc h20 (Tt.ret rfl)))))))
  · rw [pt_kn (by decide), pt_kn (by decide), pt_kn (by decide), pt_kn (by decide)]; exact h1
  · rw [pt_kn (by decide), pt_app]
    split
    · exact Int32.not_lt.mp (nI_pos hw)
    · rw [pt_kn (by decide), pt_kn (by decide)]; exact h2.1 a ha
  · rw [pt_kn (by decide), pt_kn (by decide), pt_kn (by decide), pt_kn (by decide)] at hx ⊢; exact h2.2 a ha hx
  · rw [pt_kn (by decide), pt_kn (by decide), pt_kn (by decide), pt_kn (by decide)]; exact h3
  · rw [pt_kn (by decide), pt_kn (by decide), pt_kn (by decide), pt_kn (by decide)]; exact h4 m hm h
  · rw [pt_kn (by decide), pt_kn (by decide), pt_kn (by decide), pt_ne (by omega)]; exact h5 z hz h
  · rw [pt_kn (by decide), pt_kn (by decide), pt_kn (by decide), pt_at]
/-- a PLACE of a MODULE, or (x2 ≠ 0) one of a spec with a smaller number: the one with number 0 -/
theorem pl_all {k c s q w d : Nat} {G : MT} (U : MT) (h : gP k c G) (hk4 : k ≤ 4) (hs : s < c) (hc : c ≤ 5) (hq : G 26 0 s = nI q) (hq4 : q < 4) (hd : d ≤ 2) {x2 : Int32} (hx : (x2 = 0 ∧ w < k) ∨ (x2 ≠ 0 ∧ w = 0 ∧ 1 ≤ s)) : ∃ G', f_X6_place G V0 U (nI s) x2 (nI w) (nI d) = some (nI q, G') ∧ gP k c G' ∧ G' 26 0 s = nI (q + 1) := by
  have hw31 : w < 2 ^ 31 := by
    rcases hx with z | z <;> omega
  obtain ⟨G', e, hG, hq'⟩ := pl_add h hs hc hq hq4 hw31 x2 (nI d)
  refine ⟨G', ?_, hG, hq'⟩
  have hsp : f_X3_hasSpec G (nI s) = some 1 := by
    unfold f_X3_hasSpec
    rw [h.2.2.1, if_neg (nI_pos (by omega)), if_neg (nI_ge hs (by omega)), if_neg (show ¬ (5 : Int32) ≤ nI s from nI_ge (a := s) (b := 5) (by omega) (by omega))]
  have hpl : f_X3_placesOf G (nI s) = some (nI q) := by
    unfold f_X3_placesOf
    rw [hsp]
    refine Tt.val (Tt.q1 (Tt.pos (nI_in (show s < 5 by omega) (by decide)) (Tt.ret ?_)))
    rw [wd_cl (show s < 2 ^ 31 by omega)]; exact hq
  have hhs : f_X5_hadSupervisor G V0 (nI s) = some 0 := rfl
  have hwd : f_X6_isWithin (nI d) 0 2 = some 1 := wi_in (n := 2) hd (by decide)
  have fin : Tt ((some (nI q)).bind (fun q12_ => if 4 ≤ q12_ then ((f_X6_checkState 0).bind (fun _ => (f_X3_addPlace G (nI s) x2 (nI w) (nI d)).bind (fun q15_ => some (q15_.1, q15_.2)))) else ((f_X6_checkState 1).bind (fun _ => (f_X3_addPlace G (nI s) x2 (nI w) (nI d)).bind (fun q17_ => some (q17_.1, q17_.2)))))) (fun z => z = (nI q, G')) := by
    refine Tt.sb (Tt.neg (show ¬ (4 : Int32) ≤ nI q from nI_ge (a := q) (b := 4) hq4 (by decide)) (Tt.cs ?_))
    rw [e]
    exact Tt.ret rfl
  unfold f_X6_place
  rw [hsp, hhs, hpl, hwd]
  refine Tt.val (Tt.sb (Tt.ci ?_))
  rcases hx with ⟨e0, hw⟩ | ⟨e0, rfl, hs1⟩
  · refine Tt.pos e0 ?_
    rw [md_has h.1 hk4 hw]
    exact Tt.sb (Tt.ca (Tt.sb (Tt.ca (Tt.q0 fin))))
  · refine Tt.neg e0 ?_
    rw [show nI s - 1 = nI (s - 1) from pk_sub (a := s) (b := 1) hs1, show f_X6_isWithin (nI 0) 0 (nI (s - 1)) = some 1 from wi_in (Nat.zero_le _) (by omega)]
    exact Tt.sb (Tt.ca (Tt.sb (Tt.ca (Tt.q0 fin))))
/-- the rows of LINES: any kind but 3 and 4 -/
theorem okL.of {k x : Nat} {a b : Int32} (hx : x < 18) (h3 : x ≠ 3) (h4 : x ≠ 4) (ha : f_X6_isWithin a (tS0 x) (tS1 x) = some 1) (hb : f_X6_isWithin b 0 (tS2 x) = some 1) (hp : x ≠ 0 → 0 ≤ a) : okL k (nI x) a b := by
  have hx31 : x < 2 ^ 31 := by omega
  have ne : ∀ y : Nat, y < 18 → x ≠ y → nI x ≠ nI y := fun y hy z w => z (nI_i w hx31 (by omega))
  refine ⟨fun G => ?_, fun z => hp (fun w => z (by rw [w]; rfl))⟩
  unfold f_X1_isLine
  rw [show f_X6_isWithin (nI x) 0 17 = some 1 from wi_in (n := 17) (by omega) (by decide), wd_cl hx31, ha, hb]
  exact Tt.val (Tt.q1 (Tt.inc hx (Tt.inc hx (Tt.q1 (Tt.neg (show nI x ≠ (4 : Int32) from ne 4 (by decide) h4) (Tt.neg (show nI x ≠ (3 : Int32) from ne 3 (by decide) h3) (Tt.inc hx (Tt.sb (Tt.pos (Or.inr rfl) (Tt.ret rfl))))))))))
theorem okL.of3 {k y j : Nat} (hy : y ≤ 3) (hj : j ≤ k) (hk : k < 2 ^ 31) : okL k 3 (nI y) (nI j) := by
  refine ⟨fun G => ?_, fun _ => Int32.not_lt.mp (nI_pos (by omega))⟩
  unfold f_X1_isLine
  rw [show f_X6_isWithin (nI y) (tS0 (Int32.toNatClampNeg 3)) (tS1 (Int32.toNatClampNeg 3)) = some 1 from wi_in (n := 3) hy (by decide), wi_in hj hk]
  exact Tt.val (Tt.q1 (Tt.pos (by decide) (Tt.pos (by decide) (Tt.q1 (Tt.neg (by decide) (Tt.pos rfl (Tt.sb (Tt.pos (Or.inr rfl) (Tt.ret rfl)))))))))
theorem wI.new : wI 0 0 0 V0 := by
  have no : ∀ {n : Nat} {P : Prop}, n < 0 → P := fun h => absurd h (Nat.not_lt_zero _)
  refine ⟨⟨rfl, rfl, rfl, by omega, Nat.le_refl _, rfl⟩, ⟨fun n h => no h, fun n m h => no h, fun n h => no h⟩, fun i h => no h, ⟨fun i h => no h, fun n h => no h⟩, ⟨fun i h => no h, fun i h => no h⟩, fun k _ => Or.inl ?_, ⟨⟨0, Nat.zero_le _, rfl⟩, ⟨0, by omega, rfl⟩, ⟨0, Nat.zero_le _, rfl⟩⟩, ⟨fun _ _ _ _ => rfl, rfl, rfl, rfl⟩⟩
  rfl
end
