/-! write answers true, and leaves the den with its MODULE's LINES -/
def rm_L_write : Room := { frames := 4, cells := 170, slots := 640, locals := 98 }
section
variable {p : Program} {l : Launch} {e : Env} {s : State} {m : MethodId} {args : Array Value} {below : List Frame} {meth : Method} {c : Code}
variable {D : va_G} {ad : Nat → Nat → Nat → Nat} {cI cZ cP : ClassId} {A B : Nat → Prop} {b L : Nat} {xs : Nat → Int32} {M mo n0 : Nat}
/-- the den with k LINES of its newest MODULE mo -/
def gL (mo k : Nat) (G : MT) : Prop := gP (mo + 1) 0 G ∧ G 18 0 (mo * 4) = nI k
def wPq (D : va_G) (ad : Nat → Nat → Nat → Nat) (cI cZ cP : ClassId) (mo : Nat) (H : Heap) : Prop := ∃ G', gP (mo + 1) 0 G' ∧ Pic D ad cI cZ cP 0 G' V0 V0 H
set_option maxRecDepth 20000 in
set_option maxHeartbeats 4000000 in
theorem wr_20 (X : MX p s m args meth c cL_write RL 10 (some .boolean) D ad cI cZ cP A) (hLA : Lay ad A) (hA0 : ∀ q, A q → q < s.heap.size) (hbA : ¬ A b) (hBA : ∀ q, A q → B q) (hBn : ∀ q, s.heap.size ≤ q → B q) (hBs : ∀ q, q < s.heap.size → B q → A q) (hao : AOI s) (hbl : b < s.heap.size) (hL : L < 2 ^ 31) (hM1 : 1 ≤ M) (hM3 : M ≤ 3) (hmo : mo < 4) {n4 : Nat} (hn4 : n4 ≤ 10) (d : Nat) : ∀ (k : Nat) (G : MT) (H : Heap) (locs : List Loc) (ls : Array Slot), k + d = n4 → gL mo k G → Pic D ad cI cZ cP 0 G V0 V0 H → va_X b L xs s H → va_S B s.heap H locs → lv_has ls 10 [(5, .int (nI k)), (4, .int (nI n4)), (0, .ref (ad 2 16 0)), (1, .ref b), (2, .int (nI mo)), (3, .int (nI M))] → W p l e rm_L_write s m args below meth c H locs (17 * k) (64 * k) (MQ below (QcI B 1 (wPq D ad cI cZ cP mo)) args s 170 640 B) (F0 m 20 ls []) := by
  obtain ⟨hx, hb, hml, hown, htm, hr, hlk, hE⟩ := id X
  have hend : ∀ (k : Nat) (G : MT) (H : Heap) (locs : List Loc) (ls : Array Slot), k ≤ 10 → gL mo k G → Pic D ad cI cZ cP 0 G V0 V0 H → va_S B s.heap H locs → W p l e rm_L_write s m args below meth c H locs (17 * k) (64 * k) (MQ below (QcI B 1 (wPq D ad cI cZ cP mo)) args s 170 640 B) (F0 m 520 ls []) := fun k G H locs ls hk hG hP hS => by
    refine W.widen (k := 170) (n := 640) (by omega) (by omega) ?_
    refine lv_iconst (v := 1) hx hb dL_write_520 (by decide) ?_
    exact l_zret X hS (P := wPq D ad cI cZ cP mo) ⟨G, hG.1, hP⟩ rfl (Or.inr rfl) dL_write_521
  induction d with
  | zero =>
    intro k G H locs ls hkd hG hP hX hS hl
    refine lv_iload hx hb dL_write_20 (lv_at hl 0 rfl) ?_
    refine lv_iload hx hb dL_write_22 (lv_at hl 1 rfl) ?_
    refine lv_icmp_ge (tgt := 520) hx hb dL_write_24 (by decide) (fun c1 => hend k G H locs ls (by omega) hG hP hS) (fun c1 => ?_)
    exact absurd (nI_le (a := n4) (b := k) (by omega) (by omega)) c1
  | succ d ih =>
    intro k G H locs ls hkd hG hP hX hS hl
    refine lv_iload hx hb dL_write_20 (lv_at hl 0 rfl) ?_
    refine lv_iload hx hb dL_write_22 (lv_at hl 1 rfl) ?_
    refine lv_icmp_ge (tgt := 520) hx hb dL_write_24 (by decide) (fun c1 => absurd c1 (nI_ge (show k < n4 by omega) (by omega))) (fun c1 => ?_)
    have hR : 1 ≤ rm_L_write.frames ∧ 21 ≤ rm_L_write.locals := ⟨by decide, by decide⟩
    have hc1 : 17 * k ≤ 170 := by omega
    have hc2 : 64 * k ≤ 640 := by omega
    refine lv_aload_n hx hb dL_write_27 rfl (lv_at hl 3 rfl) ?_
    refine lv_iload hx hb dL_write_28 (lv_at hl 0 rfl) ?_
    refine lv_iconst (v := 4) hx hb dL_write_30 (by decide) ?_
    refine lv_iload_n hx hb dL_write_31 rfl (lv_at hl 4 rfl) ?_
    refine lv_imul hx hb dL_write_32 ?_
    refine lv_iadd hx hb dL_write_33 ?_
    refine lv_bipush (v := 16) hx hb dL_write_34 (by decide) ?_
    refine lv_irem hx hb dL_write_36 (by decide) ?_
    rw [show (4 : Int32) * nI mo = nI (4 * mo) from pk_mul 4 mo, nI_add, show nI (k + 4 * mo) - nI (k + 4 * mo) / 16 * 16 = nI ((k + 4 * mo) % 16) from pk_rem (a := k + 4 * mo) (d := 16) (by omega) (by decide) (by decide)]
    refine n_cell hx hb hml hown htm hS hX hL (by omega) hR ⟨hc1, hc2⟩ hl.1 (rest := []) (Nat.le_of_ble_eq_true rfl) dL_write_37 (fun r1 H1 locs1 hk1 hz1 hS => ?_)
    have hP := hP.keep hLA (fun q hq _ => hk1 q hq)
    have hX := hX.kept (hk1 b (by have := hS.1; obtain ⟨scr, g1, -⟩ := hX; exact (Array.getElem?_eq_some_iff.mp g1).1))
    refine lv_bipush (v := 11) hx hb dL_write_40 (by decide) ?_
    refine lv_iload hx hb dL_write_42 (lv_at hl 0 rfl) ?_
    refine lv_imul hx hb dL_write_44 ?_
    refine lv_iadd hx hb dL_write_45 ?_
    refine lv_istore (lv' := [(6, .int (r1 + 11 * nI k)), (5, .int (nI k)), (4, .int (nI n4)), (0, .ref (ad 2 16 0)), (1, .ref b), (2, .int (nI mo)), (3, .int (nI M))]) hx hb dL_write_46 hl (by decide) rfl (fun ls hl => ?_)
    refine lv_aload_n hx hb dL_write_48 rfl (lv_at hl 4 rfl) ?_
    refine lv_iconst (v := 5) hx hb dL_write_49 (by decide) ?_
    refine lv_iload hx hb dL_write_50 (lv_at hl 1 rfl) ?_
    refine lv_imul hx hb dL_write_52 ?_
    refine lv_iload_n hx hb dL_write_53 rfl (lv_at hl 5 rfl) ?_
    refine lv_iadd hx hb dL_write_54 ?_
    refine lv_bipush (v := 16) hx hb dL_write_55 (by decide) ?_
    refine lv_irem hx hb dL_write_57 (by decide) ?_
    rw [show (5 : Int32) * nI k = nI (5 * k) from pk_mul 5 k, nI_add, show nI (5 * k + mo) - nI (5 * k + mo) / 16 * 16 = nI ((5 * k + mo) % 16) from pk_rem (a := 5 * k + mo) (d := 16) (by omega) (by decide) (by decide)]
    refine n_cell hx hb hml hown htm hS hX hL (by omega) hR ⟨hc1, hc2⟩ hl.1 (rest := []) (Nat.le_of_ble_eq_true rfl) dL_write_58 (fun r2 H2 locs2 hk2 hz2 hS => ?_)
    have hP := hP.keep hLA (fun q hq _ => hk2 q hq)
    have hX := hX.kept (hk2 b (by obtain ⟨scr, g1, -⟩ := hX; exact (Array.getElem?_eq_some_iff.mp g1).1))
    refine lv_iconst (v := 3) hx hb dL_write_61 (by decide) ?_
    refine lv_iload hx hb dL_write_62 (lv_at hl 1 rfl) ?_
    refine lv_imul hx hb dL_write_64 ?_
    refine lv_iadd hx hb dL_write_65 ?_
    refine lv_istore (lv' := [(7, .int (r2 + 3 * nI k)), (6, .int (r1 + 11 * nI k)), (5, .int (nI k)), (4, .int (nI n4)), (0, .ref (ad 2 16 0)), (1, .ref b), (2, .int (nI mo)), (3, .int (nI M))]) hx hb dL_write_66 hl (by decide) rfl (fun ls hl => ?_)
    refine lv_bipush (v := 16) hx hb dL_write_68 (by decide) ?_
    have hsz : s.heap.size ≤ H2.size := hS.1
    refine la_newA hx hb hown (htm _ qw_576) hao hE hS (by decide) (by decide) (by show 17 * k + 1 ≤ 170; omega) (by show 64 * k + 16 ≤ 640; omega) dL_write_70 (fun cA H3 hO hoa hk3 hz3 hS => ?_)
    have hbH : b < H2.size := by omega
    have hK : wKO D ad cI cZ cP G s b L xs cA H2.size k 0 (H2.size + 1) H3 := ⟨hP.keep hLA (fun q hq _ => hk3 q hq), hX.kept (hk3 b hbH), by omega, by omega, by omega, by omega, _, hoa, by rw [Array.size_replicate], fun j hj => absurd hj (Nat.not_lt_zero _)⟩
    have Y : WY s D ad cI A B cA H2.size rm_L_write k M := ⟨hLA, fun q hq => by have := hA0 q hq; omega, hO, hBn _ hsz, fun q hq => hBn q (by omega), hR, by omega, hM1, hM3⟩
    refine wb_0 X Y hK hS ⟨by show 17 * k + 1 + 1 ≤ 170; omega, by show 64 * k + 16 + 3 ≤ 640; omega⟩ hl (fun H4 locs4 z h hS => ?_)
    refine wb_1 X Y h hS ⟨by show 17 * k + 1 + 1 + 1 ≤ 170; omega, by show 64 * k + 16 + 3 + 3 ≤ 640; omega⟩ hl (fun H4 locs4 z h hS => ?_)
    refine wb_2 X Y h hS ⟨by show 17 * k + 1 + 2 + 1 ≤ 170; omega, by show 64 * k + 16 + 6 + 3 ≤ 640; omega⟩ hl (fun H4 locs4 z h hS => ?_)
    refine wb_3 X Y h hS ⟨by show 17 * k + 1 + 3 + 1 ≤ 170; omega, by show 64 * k + 16 + 9 + 3 ≤ 640; omega⟩ hl (fun H4 locs4 z h hS => ?_)
    refine wb_4 X Y h hS ⟨by show 17 * k + 1 + 4 + 1 ≤ 170; omega, by show 64 * k + 16 + 12 + 3 ≤ 640; omega⟩ hl (fun H4 locs4 z h hS => ?_)
    refine wb_5 X Y h hS ⟨by show 17 * k + 1 + 5 + 1 ≤ 170; omega, by show 64 * k + 16 + 15 + 3 ≤ 640; omega⟩ hl (fun H4 locs4 z h hS => ?_)
    refine wb_6 X Y h hS ⟨by show 17 * k + 1 + 6 + 1 ≤ 170; omega, by show 64 * k + 16 + 18 + 3 ≤ 640; omega⟩ hl (fun H4 locs4 z h hS => ?_)
    refine wb_7 X Y h hS ⟨by show 17 * k + 1 + 7 + 1 ≤ 170; omega, by show 64 * k + 16 + 21 + 3 ≤ 640; omega⟩ hl (fun H4 locs4 z h hS => ?_)
    refine wb_8 X Y h hS ⟨by show 17 * k + 1 + 8 + 1 ≤ 170; omega, by show 64 * k + 16 + 24 + 3 ≤ 640; omega⟩ hl (fun H4 locs4 z h hS => ?_)
    refine wb_9 X Y h hS ⟨by show 17 * k + 1 + 9 + 1 ≤ 170; omega, by show 64 * k + 16 + 27 + 3 ≤ 640; omega⟩ hl (fun H4 locs4 z h hS => ?_)
    refine wb_10 X Y h hS ⟨by show 17 * k + 1 + 10 + 1 ≤ 170; omega, by show 64 * k + 16 + 30 + 3 ≤ 640; omega⟩ hl (fun H4 locs4 z h hS => ?_)
    refine wb_11 X Y h hS ⟨by show 17 * k + 1 + 11 + 1 ≤ 170; omega, by show 64 * k + 16 + 33 + 3 ≤ 640; omega⟩ hl (fun H4 locs4 z h hS => ?_)
    refine wb_12 X Y h hS ⟨by show 17 * k + 1 + 12 + 1 ≤ 170; omega, by show 64 * k + 16 + 36 + 3 ≤ 640; omega⟩ hl (fun H4 locs4 z h hS => ?_)
    refine wb_13 X Y h hS ⟨by show 17 * k + 1 + 13 + 1 ≤ 170; omega, by show 64 * k + 16 + 39 + 3 ≤ 640; omega⟩ hl (fun H4 locs4 z h hS => ?_)
    refine wb_14 X Y h hS ⟨by show 17 * k + 1 + 14 + 1 ≤ 170; omega, by show 64 * k + 16 + 42 + 3 ≤ 640; omega⟩ hl (fun H4 locs4 z h hS => ?_)
    refine wb_15 X Y h hS ⟨by show 17 * k + 1 + 15 + 1 ≤ 170; omega, by show 64 * k + 16 + 45 + 3 ≤ 640; omega⟩ hl (fun H4 locs4 z h hS => ?_)
    refine W.widen (k := 17 * (k + 1)) (n := 64 * (k + 1)) (by omega) (by omega) ?_
    refine lv_astore (lv' := [(8, .ref H2.size), (7, .int (r2 + 3 * nI k)), (6, .int (r1 + 11 * nI k)), (5, .int (nI k)), (4, .int (nI n4)), (0, .ref (ad 2 16 0)), (1, .ref b), (2, .int (nI mo)), (3, .int (nI M))]) hx hb dL_write_476 hl (by decide) rfl (fun ls hl => ?_)
    refine lv_aload hx hb dL_write_478 (lv_at hl 0 rfl) ?_
    refine lv_iload hx hb dL_write_480 (lv_at hl 2 rfl) ?_
    refine lv_bipush (v := 16) hx hb dL_write_482 (by decide) ?_
    obtain ⟨j1, hj1, ej1⟩ := bl_at (r1 + 11 * nI k) (n := 16) (by omega) (by omega)
    have hcs2 : 17 * (k + 1) ≤ rm_L_write.cells ∧ 64 * (k + 1) ≤ rm_L_write.slots := ⟨by show 17 * (k + 1) ≤ 170; omega, by show 64 * (k + 1) ≤ 640; omega⟩
    refine n_below hx hb hml hown htm hS ej1 hR hcs2 hl.1 (rest := [.ref H2.size]) (Nat.le_of_ble_eq_true rfl) dL_write_484 (fun H5 locs5 hk5 hz5 hS => ?_)
    have h := h.keep hLA (fun q hq => by have := hA0 q hq; have := h.2.2.1; omega) (fun q hq => hk5 q (by have := h.2.2.2.2.2.1; omega)) (Nat.le_trans h.2.2.2.2.2.1 hz5)
    refine la_ldo hx hb hO h hj1 dL_write_487 (fun q f hqz hf ok => ?_)
    refine lv_astore (lv' := [(9, .ref q), (8, .ref H2.size), (7, .int (r2 + 3 * nI k)), (6, .int (r1 + 11 * nI k)), (5, .int (nI k)), (4, .int (nI n4)), (0, .ref (ad 2 16 0)), (1, .ref b), (2, .int (nI mo)), (3, .int (nI M))]) hx hb dL_write_488 hl (by decide) rfl (fun ls hl => ?_)
    refine lv_aload_n hx hb dL_write_490 rfl (lv_at hl 6 rfl) ?_
    refine lv_iload_n hx hb dL_write_491 rfl (lv_at hl 8 rfl) ?_
    refine lv_aload hx hb dL_write_492 (lv_at hl 0 rfl) ?_
    refine lv_iconst (v := 0) hx hb dL_write_494 (by decide) ?_
    refine la_ld hx hb hE hf v3_0 dL_write_495 ?_
    refine lv_aload hx hb dL_write_496 (lv_at hl 0 rfl) ?_
    refine lv_iconst (v := 1) hx hb dL_write_498 (by decide) ?_
    refine la_ld hx hb hE hf v3_1 dL_write_499 ?_
    refine lv_aload hx hb dL_write_500 (lv_at hl 0 rfl) ?_
    refine lv_iconst (v := 2) hx hb dL_write_502 (by decide) ?_
    refine la_ld hx hb hE hf v3_2 dL_write_503 ?_
    obtain ⟨G1, eF, hG1, hL1⟩ := li_all V0 hG.1 (Nat.lt_succ_self mo) (by omega) hG.2 (by omega) ok rfl
    have hP := h.1
    have hX := h.2.1
    refine n_cVi X hLA (fun q z => z) hBA hBs hS vw_X6_line qw_582 (c_X6_line eF) ⟨rfl, rfl⟩ ⟨by decide, by decide⟩ hcs2 (rc_16 hE hP) hP (As := [.int (nI mo), .int (f 0), .int (f 1), .int (f 2)]) rfl hl.1 (rest := []) rfl (Nat.le_of_ble_eq_true rfl) dL_write_504 (fun H6 locs6 hP6 hK6 hZ6 hS => ?_)
    have hX6 := hX.kept (hK6 b (by obtain ⟨scr, g1, -⟩ := hX; exact (Array.getElem?_eq_some_iff.mp g1).1) hbA)
    refine lv_iload hx hb dL_write_507 (lv_at hl 4 rfl) ?_
    refine lv_icmp_eq (tgt := 514) hx hb dL_write_509 (by decide) (fun c2 => ?_) (fun c2 => absurd rfl c2)
    refine lv_iinc (k := 4) (v := nI (k + 1)) (lv' := [(5, .int (nI (k + 1))), (9, .ref q), (8, .ref H2.size), (7, .int (r2 + 3 * nI k)), (6, .int (r1 + 11 * nI k)), (4, .int (nI n4)), (0, .ref (ad 2 16 0)), (1, .ref b), (2, .int (nI mo)), (3, .int (nI M))]) hx hb dL_write_514 hl rfl (nI_1 k) (by decide) rfl (fun ls hl => ?_)
    refine lv_goto (tgt := 20) hx hb dL_write_517 (by decide) ?_
    exact ih (k + 1) G1 H6 locs6 ls (by omega) ⟨hG1, hL1⟩ hP6 hX6 hS (lv_sub hl [0, 5, 6, 7, 8, 9] rfl)
end
set_option maxRecDepth 20000 in
set_option maxHeartbeats 4000000 in
theorem c_L_write {l : Launch} {D : va_G} {ad : Nat → Nat → Nat → Nat} {cI cZ cP : ClassId} {A : Nat → Prop} {b L n0 mo M : Nat} {xs : Nat → Int32} {G : MT} (hLA : Lay ad A) (hA0 : ∀ q, A q → q < n0) (hbA : ¬ A b) (hL : L < 2 ^ 31) (hM1 : 1 ≤ M) (hM3 : M ≤ 3) (hmo : mo < 4) (hG : gL mo 0 G) : Met l yL_write (.code yL_write cL_write 10 (some .boolean) :: WM) rm_L_write (va_Pc [.ref (ad 2 16 0), .ref b, .int (nI mo), .int (nI M)] (fun U => DEnv D ad cI cZ cP A U ∧ AOI U ∧ va_X b L xs U U.heap ∧ U.heap.size = n0 ∧ Pic D ad cI cZ cP 0 G V0 V0 U.heap)) (QcI (fun q => A q ∨ n0 ≤ q) 1 (wPq D ad cI cZ cP mo)) 170 640 (fun q => A q ∨ n0 ≤ q) := by
  refine e_entry (by decide) (Nat.le_of_ble_eq_true rfl) (fun p e s m below meth c ls hx hb hml hown htm hr hlk hPre hl => ?_)
  obtain ⟨hE, hao, hX, hz0, hP⟩ := hPre
  have X : MX p s m _ meth c cL_write RL 10 (some .boolean) D ad cI cZ cP A := ⟨hx, hb, hml, hown, htm, hr, hlk, hE⟩
  have hl : lv_has ls 10 [(0, .ref (ad 2 16 0)), (1, .ref b), (2, .int (nI mo)), (3, .int (nI M))] := hl
  subst hz0
  have hbl : b < s.heap.size := by
    obtain ⟨scr, h1, -⟩ := hX
    exact (Array.getElem?_eq_some_iff.mp h1).1
  have hS : va_S (fun q => A q ∨ s.heap.size ≤ q) s.heap s.heap [] := va_S.rf
  have hR : 1 ≤ rm_L_write.frames ∧ 21 ≤ rm_L_write.locals := ⟨by decide, by decide⟩
  refine lv_iconst (v := 2) hx hb dL_write_0 (by decide) ?_
  refine lv_aload_n hx hb dL_write_1 rfl (lv_at hl 1 rfl) ?_
  refine lv_iload_n hx hb dL_write_2 rfl (lv_at hl 2 rfl) ?_
  refine lv_bipush (v := 6) hx hb dL_write_3 (by decide) ?_
  refine lv_iadd hx hb dL_write_5 ?_
  rw [show nI mo + (6 : Int32) = nI (mo + 6) from nI_add mo 6]
  refine n_cell hx hb hml hown htm hS hX hL (by omega) hR ⟨Nat.zero_le _, Nat.zero_le _⟩ hl.1 (rest := [.int 2]) (Nat.le_of_ble_eq_true rfl) dL_write_6 (fun r1 H1 locs1 hk1 hz1 hS => ?_)
  have hP := hP.keep hLA (fun q hq _ => hk1 q hq)
  have hX := hX.kept (hk1 b hbl)
  refine lv_bipush (v := 9) hx hb dL_write_9 (by decide) ?_
  obtain ⟨j1, hj1, ej1⟩ := bl_at r1 (n := 9) (by omega) (by omega)
  refine n_below hx hb hml hown htm hS ej1 hR ⟨Nat.zero_le _, Nat.zero_le _⟩ hl.1 (rest := [.int 2]) (Nat.le_of_ble_eq_true rfl) dL_write_11 (fun H2 locs2 hk2 hz2 hS => ?_)
  have hP := hP.keep hLA (fun q hq _ => hk2 q hq)
  have hX := hX.kept (hk2 b (by omega))
  refine lv_iadd hx hb dL_write_14 ?_
  rw [show (2 : Int32) + nI j1 = nI (2 + j1) from nI_add 2 j1]
  refine lv_istore (lv' := [(4, .int (nI (2 + j1))), (0, .ref (ad 2 16 0)), (1, .ref b), (2, .int (nI mo)), (3, .int (nI M))]) hx hb dL_write_15 hl (by decide) rfl (fun ls hl => ?_)
  refine lv_iconst (v := 0) hx hb dL_write_17 (by decide) ?_
  refine lv_istore (lv' := [(5, .int (nI 0)), (4, .int (nI (2 + j1))), (0, .ref (ad 2 16 0)), (1, .ref b), (2, .int (nI mo)), (3, .int (nI M))]) hx hb dL_write_18 hl (by decide) rfl (fun ls hl => ?_)
  exact wr_20 X hLA hA0 hbA (fun q z => Or.inl z) (fun q z => Or.inr z) (fun q h1 h2 => h2.resolve_right (by omega)) hao hbl hL hM1 hM3 hmo (n4 := 2 + j1) (by omega) (2 + j1) 0 G H2 locs2 ls (by omega) hG hP hX hS hl
