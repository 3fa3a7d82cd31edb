/-! what holds where the law begins -/
section
variable {s : State} {b : Nat} {A : Nat → Prop}
theorem en_K (hts : ∀ w ∈ lw_tbl, w.before #[Value.ref b] s = true) : ∃ (D : va_G) (cI cZ cP : ClassId), va_K D clM [(cI, .int), (cZ, .boolean), (cP, .object "MailDen$Proc")] s := by
  have htm : ∀ x ∈ WM, x.before #[Value.ref b] s = true := fun x hx => hts x (WM_in x hx)
  obtain ⟨c0, i0, k0⟩ := u_known (C := RX0) (T := TX0) (N := 3) (n := 3) htm ic_wsU0 (htm _ qw_55)
  obtain ⟨c1, i1, k1⟩ := u_known (C := RX1) (T := TX1) (N := 5) (n := 5) htm ic_wsU1 (htm _ qw_375)
  obtain ⟨c2, i2, k2⟩ := u_known (C := RX2) (T := TX2) (N := 19) (n := 19) htm ic_wsU2 (htm _ qw_149)
  obtain ⟨c3, i3, k3⟩ := u_known (C := RX3) (T := TX3) (N := 8) (n := 8) htm ic_wsU3 (htm _ qw_378)
  obtain ⟨c4, i4, k4⟩ := u_known (C := RX4) (T := TX4) (N := 3) (n := 3) htm ic_wsU4 (htm _ qw_59)
  obtain ⟨c5, i5, k5⟩ := u_known (C := RX5) (T := TX5) (N := 17) (n := 17) htm ic_wsU5 (htm _ qw_381)
  obtain ⟨c6, i6, k6⟩ := u_known (C := RX6) (T := TX6) (N := 4) (n := 4) htm ic_wsU6 (htm _ qw_627)
  obtain ⟨cI, kI, pI, a1, a2, a3⟩ := Cond.arrayClass_spec (htm _ qw_3)
  obtain ⟨cZ, kZ, pZ, b1, b2, b3⟩ := Cond.arrayClass_spec (htm _ qw_123)
  obtain ⟨pP, cP, kP, d1, -, d2, d3, d4⟩ := Cond.arrayOver_spec (hts (.arrayOver (.object "MailDen$Proc")) (by decide +kernel))
  refine ⟨(fun k => match k with | 0 => c0 | 1 => c1 | 2 => c2 | 3 => c3 | 4 => c4 | 5 => c5 | _ => c6, fun k => match k with | 0 => i0 | 1 => i1 | 2 => i2 | 3 => i3 | 4 => i4 | 5 => i5 | _ => i6), cI, cZ, cP, ?_, ?_⟩
  · intro c q hq
    match c, hq with
    | 0, hq => cases hq; exact k0
    | 1, hq => cases hq; exact k1
    | 2, hq => cases hq; exact k2
    | 3, hq => cases hq; exact k3
    | 4, hq => cases hq; exact k4
    | 5, hq => cases hq; exact k5
    | 6, hq => cases hq; exact k6
  · intro k q hq
    match k, hq with
    | 0, hq => cases hq; exact ⟨fun n z => ⟨(fun k h => by cases h), kI, a2, pI, a3⟩, a1⟩
    | 1, hq => cases hq; exact ⟨fun n z => ⟨(fun k h => by cases h), kZ, b2, pZ, b3⟩, b1⟩
    | 2, hq => cases hq; exact ⟨fun n z => ⟨(fun k h => by cases h), kP, d2, pP, d3⟩, kP, pP, d2, d3, d1, d4⟩
theorem nl_in : ∀ q ∈ nestL, (Cond.methodLinkNest q.1 q.2.1 q.2.2.1 q.2.2.2) ∈ lw_tbl := by decide +kernel
theorem nf_in : ∀ q ∈ nestF, (Cond.fieldLinkNest q.1 q.2.1 q.2.2.1 q.2.2.2.1 q.2.2.2.2.1 q.2.2.2.2.2) ∈ lw_tbl := by decide +kernel
theorem st_in0 : ∀ j, j < 18 → Cond.eq (.elem (.static "MailDen" "LEAST_A" "[I") (.int (Int32.ofNat j))) (.int (tS0 j)) ∈ flatC (Jvm.Cond.and given_1 narrow_1) := by decide +kernel
theorem st_in1 : ∀ j, j < 18 → Cond.eq (.elem (.static "MailDen" "MOST_A" "[I") (.int (Int32.ofNat j))) (.int (tS1 j)) ∈ flatC (Jvm.Cond.and given_1 narrow_1) := by decide +kernel
theorem st_in2 : ∀ j, j < 18 → Cond.eq (.elem (.static "MailDen" "MOST_B" "[I") (.int (Int32.ofNat j))) (.int (tS2 j)) ∈ flatC (Jvm.Cond.and given_1 narrow_1) := by decide +kernel
theorem en_S (hts : ∀ w ∈ lw_tbl, w.before #[Value.ref b] s = true) (hg : (Jvm.Cond.and given_1 narrow_1).before #[Value.ref b] s = true) (hA : ∀ a : Nat, a < s.heap.size → ¬ A a) : Stc A s := by
  have hs := flat_of_before _ hg
  have hini : (Cond.initialized "MailDen").before #[Value.ref b] s = true := hts _ (WM_in _ qw_12)
  have one : ∀ (n : String) (f : Nat → Int32), (Cond.laysStatic "MailDen" n "[I").before #[Value.ref b] s = true → (Cond.arrayOf (.static "MailDen" n "[I") .int).before #[Value.ref b] s = true → (Cond.eq (.length (.static "MailDen" n "[I")) (.int 18)).before #[Value.ref b] s = true → (∀ j, j < 18 → (Cond.eq (.elem (.static "MailDen" n "[I") (.int (Int32.ofNat j))) (.int (f j))).before #[Value.ref b] s = true) → ∃ t : Nat, va_Z "MailDen" n "[I" (.ref t) A s s.heap ∧ va_T .int t 18 (fun j => .int (f j)) A s s.heap := fun n f h1 h2 h3 h4 => by
    obtain ⟨t, ht, hT⟩ := va_Tof (A := A) (N := 18) (f := fun j => .int (f j)) (by decide) h2 (va_eqt h3) (fun j hj => va_eqt (h4 j hj)) hA
    exact ⟨t, va_Zof h1 hini ht hA, hT⟩
  exact ⟨one "LEAST_A" tS0 (hts _ (by decide +kernel)) (hs _ (by decide +kernel)) (hs _ (by decide +kernel)) (fun j hj => hs _ (st_in0 j hj)), one "MOST_A" tS1 (hts _ (by decide +kernel)) (hs _ (by decide +kernel)) (hs _ (by decide +kernel)) (fun j hj => hs _ (st_in1 j hj)), one "MOST_B" tS2 (hts _ (by decide +kernel)) (hs _ (by decide +kernel)) (hs _ (by decide +kernel)) (fun j hj => hs _ (st_in2 j hj))⟩
/-- all that the law's calls stand on -/
theorem en_all (hts : ∀ w ∈ lw_tbl, w.before #[Value.ref b] s = true) (hg : (Jvm.Cond.and given_1 narrow_1).before #[Value.ref b] s = true) : ∃ (D : va_G) (cI cZ cP : ClassId), KE D cI cZ cP s ∧ AOI s ∧ DEnv D (adF s.heap.size (s.heap.size + 1)) cI cZ cP (fun q => s.heap.size ≤ q) s := by
  obtain ⟨D, cI, cZ, cP, hK⟩ := en_K hts
  have hN : ∀ q ∈ nestL, va_Nw (.methodLinkNest q.1 q.2.1 q.2.2.1 q.2.2.2) s := fun q hq => va_Nw.of rfl (hts _ (nl_in q hq))
  refine ⟨D, cI, cZ, cP, ⟨hK, hN, va_AO.of (hts _ (by decide +kernel))⟩, (show (Cond.arrayOver (.array .int)).before #[Value.ref b] s = true from hts _ (by decide +kernel)), hK, hN, (mkLay (Nat.lt_succ_self _)).mono (fun q hq => ?_), en_S hts hg (fun a ha => Nat.not_le.mpr ha), fun q hq => va_Nw.of rfl (hts _ (nf_in q hq))⟩
  rcases hq with z | z
  · exact Nat.le_of_eq z.symm
  · show s.heap.size ≤ q; omega
end
