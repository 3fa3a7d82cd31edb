theorem vw_X6_checkProcess : VW RX6 yX6_checkProcess cX6_checkProcess 3 (some (.object "MailDen$Proc")) 1 := ⟨qw_463, qw_464, qw_12, qw_461, ⟨rfl, by decide, by decide, by decide +kernel⟩⟩
theorem vw_X6_module : VW RX6 yX6_module cX6_module 2 (some .int) 0 := ⟨qw_631, qw_632, qw_12, qw_393, ⟨rfl, by decide, by decide, by decide +kernel⟩⟩
theorem vw_X6_line : VW RX6 yX6_line cX6_line 7 (some .int) 4 := ⟨qw_583, qw_584, qw_12, qw_414, ⟨rfl, by decide, by decide, by decide +kernel⟩⟩
theorem vw_X6_load : VW RX6 yX6_load cX6_load 3 (some .int) 1 := ⟨qw_614, qw_615, qw_12, qw_419, ⟨rfl, by decide, by decide, by decide +kernel⟩⟩
theorem vw_X6_spec : VW RX6 yX6_spec cX6_spec 4 (some .int) 3 := ⟨qw_636, qw_637, qw_12, qw_425, ⟨rfl, by decide, by decide, by decide +kernel⟩⟩
theorem vw_X6_place : VW RX6 yX6_place cX6_place 5 (some .int) 4 := ⟨qw_639, qw_640, qw_12, qw_436, ⟨rfl, by decide, by decide, by decide +kernel⟩⟩
theorem vw_X6_ofModule : VW RX6 yX6_ofModule cX6_ofModule 4 (some .int) 2 := ⟨qw_557, qw_558, qw_12, qw_443, ⟨rfl, by decide, by decide, by decide +kernel⟩⟩
def f_X6_checkProcess (G V U : MT) (x1 : Int32) : Option (Option Nat) :=
  (f_X5_procAt G V x1).bind (fun q1_ => oc q1_ (none) (fun e1 => if e1 < 24 then (some (some e1)) else none))
def rm_X6_checkProcess : Room := { frames := 1, cells := 0, slots := 0, locals := 21 }
set_option maxRecDepth 20000 in
set_option maxHeartbeats 4000000 in
theorem c_X6_checkProcess {l : Launch} {D : va_G} {ad : Nat → Nat → Nat → Nat} {cI cZ cP : ClassId} {A : Nat → Prop} {G V U : MT} {x1 : Int32} {r : Option Nat}  (hF : f_X6_checkProcess G V U x1 = some r) : Met l yX6_checkProcess (.code yX6_checkProcess cX6_checkProcess 3 (some (.object "MailDen$Proc")) :: WM) rm_X6_checkProcess (PcM D ad cI cZ cP A [.ref (ad 2 16 0), .int x1] (Pic D ad cI cZ cP 0 G V U)) (QcQ A (r.map (ad 0 7)) (Pic D ad cI cZ cP 0 G V U)) 0 0 A := by
  refine m_entry (by decide) (Nat.le_of_ble_eq_true rfl) (fun p e s m below meth c ls X hP hS hl => ?_)
  have X : MX p s m _ meth c cX6_checkProcess RX6 3 (some (.object "MailDen$Proc")) D ad cI cZ cP A := X
  obtain ⟨hx, hb, hml, hown, htm, hr, hlk, hE⟩ := id X
  have hl : lv_has ls 3 [(0, .ref (ad 2 16 0)), (1, .int x1)] := hl
  refine lv_aload_n hx hb dX6_checkProcess_0 rfl (lv_at hl 0 rfl) ?_
  refine gf_16_2 hx hb htm hown hE hP (htm _ qw_382) dX6_checkProcess_1 ?_
  refine lv_iload_n hx hb dX6_checkProcess_4 rfl (lv_at hl 1 rfl) ?_
  obtain ⟨r1, hc1, hF⟩ := ob_S hF
  refine m_cVq X hS vw_X5_procAt qw_460 (c_X5_procAt (by decide) hc1) ⟨rfl, rfl⟩ ⟨Nat.le_of_ble_eq_true rfl, Nat.le_of_ble_eq_true rfl⟩ (rc_0 hE hP (by decide)) hP rfl hl.1 (rest := []) rfl (Nat.le_of_ble_eq_true rfl) dX6_checkProcess_5 (fun H locs hP hS => ?_)
  rcases r1 with _ | e1
  · have hF := oc_N hF
    refine lv_astore_nN (lv' := [(2, .null), (0, .ref (ad 2 16 0)), (1, .int x1)]) hx hb dX6_checkProcess_8 rfl hl (by decide) rfl (fun ls hl => ?_)
    refine lv_aload_nN hx hb dX6_checkProcess_9 rfl (lv_at hl 0 rfl) ?_
    refine lv_ifnonnullN hx hb dX6_checkProcess_10 ?_
    exact ns_S hF
  · obtain ⟨he1, hF⟩ := ite_S (oc_J hF)
    refine lv_astore_n (lv' := [(2, .ref (ad 0 7 e1)), (0, .ref (ad 2 16 0)), (1, .int x1)]) hx hb dX6_checkProcess_8 rfl hl (by decide) rfl (fun ls hl => ?_)
    refine lv_aload_n hx hb dX6_checkProcess_9 rfl (lv_at hl 0 rfl) ?_
    refine lv_ifnonnull (tgt := 21) hx hb dX6_checkProcess_10 (by decide) ?_
    refine lv_aload_n hx hb dX6_checkProcess_21 rfl (lv_at hl 0 rfl) ?_
    have e1 := Option.some.inj hF
    subst e1
    exact m_aretR X hS hP rfl dX6_checkProcess_22
def f_X6_module (G V U : MT)  : Option (Int32 × MT) :=
  if 4 ≤ G 17 0 0 then ((f_X6_checkState 0).bind (fun _ => some (G 17 0 0, (pt G 17 0 0 ((G 17 0 0) + 1))))) else ((f_X6_checkState 1).bind (fun _ => some (G 17 0 0, (pt G 17 0 0 ((G 17 0 0) + 1)))))
def rm_X6_module : Room := { frames := 1, cells := 0, slots := 0, locals := 20 }
set_option maxRecDepth 20000 in
set_option maxHeartbeats 4000000 in
theorem c_X6_module {l : Launch} {D : va_G} {ad : Nat → Nat → Nat → Nat} {cI cZ cP : ClassId} {A : Nat → Prop} {G V U : MT}  {r : Int32} {G' : MT}  (hF : f_X6_module G V U  = some (r, G')) : Met l yX6_module (.code yX6_module cX6_module 2 (some .int) :: WM) rm_X6_module (PcM D ad cI cZ cP A [.ref (ad 2 16 0)] (Pic D ad cI cZ cP 0 G V U)) (QcI A r (Pic D ad cI cZ cP 0 G' V U)) 0 0 A := by
  refine m_entry (by decide) (Nat.le_of_ble_eq_true rfl) (fun p e s m below meth c ls X hP hS hl => ?_)
  have X : MX p s m _ meth c cX6_module RX6 2 (some .int) D ad cI cZ cP A := X
  obtain ⟨hx, hb, hml, hown, htm, hr, hlk, hE⟩ := id X
  have hl : lv_has ls 2 [(0, .ref (ad 2 16 0))] := hl
  refine lv_aload_n hx hb dX6_module_0 rfl (lv_at hl 0 rfl) ?_
  refine gf_16_0 hx hb htm hown hE hP (htm _ qw_376) dX6_module_1 ?_
  refine gf_17_0 hx hb htm hown hE hP (htm _ qw_390) dX6_module_4 ?_
  refine lv_iconst (v := 4) hx hb dX6_module_7 (by decide) ?_
  refine lv_icmp_ge (tgt := 15) hx hb dX6_module_8 (by decide) (fun c1 => ?_) (fun c1 => ?_)
  · have hF := ite_T c1 hF
    refine lv_iconst (v := 0) hx hb dX6_module_15 (by decide) ?_
    obtain ⟨u2, hc2, hF⟩ := ob_S hF
    refine m_cSv X hS sw_X6_checkState qw_391 (c_X6_checkState hc2) ⟨rfl, rfl⟩ ⟨Nat.le_of_ble_eq_true rfl, Nat.le_of_ble_eq_true rfl⟩ hP rfl hl.1 (rest := []) rfl (Nat.le_of_ble_eq_true rfl) dX6_module_16 (fun H locs hP hS => ?_)
    refine lv_aload_n hx hb dX6_module_19 rfl (lv_at hl 0 rfl) ?_
    refine gf_16_0 hx hb htm hown hE hP (htm _ qw_376) dX6_module_20 ?_
    refine gf_17_0 hx hb htm hown hE hP (htm _ qw_390) dX6_module_23 ?_
    refine lv_istore_n (lv' := [(1, .int (G 17 0 0)), (0, .ref (ad 2 16 0))]) hx hb dX6_module_26 rfl hl (by decide) rfl (fun ls hl => ?_)
    refine lv_aload_n hx hb dX6_module_27 rfl (lv_at hl 1 rfl) ?_
    refine gf_16_0 hx hb htm hown hE hP (htm _ qw_376) dX6_module_28 ?_
    refine lv_iload_n hx hb dX6_module_31 rfl (lv_at hl 0 rfl) ?_
    refine lv_iconst (v := 1) hx hb dX6_module_32 (by decide) ?_
    refine lv_iadd hx hb dX6_module_33 ?_
    refine pf_17_0 hx hb htm hown hE hP hS (htm _ qw_390) dX6_module_34 (fun H locs hP hS => ?_)
    refine lv_iload_n hx hb dX6_module_37 rfl (lv_at hl 0 rfl) ?_
    obtain ⟨e1, e2⟩ := Prod.mk.inj (Option.some.inj hF)
    subst e1
    subst e2
    exact m_iret X hS hP rfl dX6_module_38
  · have hF := ite_F c1 hF
    refine lv_iconst (v := 1) hx hb dX6_module_11 (by decide) ?_
    refine lv_goto (tgt := 16) hx hb dX6_module_12 (by decide) ?_
    obtain ⟨u3, hc3, hF⟩ := ob_S hF
    refine m_cSv X hS sw_X6_checkState qw_391 (c_X6_checkState hc3) ⟨rfl, rfl⟩ ⟨Nat.le_of_ble_eq_true rfl, Nat.le_of_ble_eq_true rfl⟩ hP rfl hl.1 (rest := []) rfl (Nat.le_of_ble_eq_true rfl) dX6_module_16 (fun H locs hP hS => ?_)
    refine lv_aload_n hx hb dX6_module_19 rfl (lv_at hl 0 rfl) ?_
    refine gf_16_0 hx hb htm hown hE hP (htm _ qw_376) dX6_module_20 ?_
    refine gf_17_0 hx hb htm hown hE hP (htm _ qw_390) dX6_module_23 ?_
    refine lv_istore_n (lv' := [(1, .int (G 17 0 0)), (0, .ref (ad 2 16 0))]) hx hb dX6_module_26 rfl hl (by decide) rfl (fun ls hl => ?_)
    refine lv_aload_n hx hb dX6_module_27 rfl (lv_at hl 1 rfl) ?_
    refine gf_16_0 hx hb htm hown hE hP (htm _ qw_376) dX6_module_28 ?_
    refine lv_iload_n hx hb dX6_module_31 rfl (lv_at hl 0 rfl) ?_
    refine lv_iconst (v := 1) hx hb dX6_module_32 (by decide) ?_
    refine lv_iadd hx hb dX6_module_33 ?_
    refine pf_17_0 hx hb htm hown hE hP hS (htm _ qw_390) dX6_module_34 (fun H locs hP hS => ?_)
    refine lv_iload_n hx hb dX6_module_37 rfl (lv_at hl 0 rfl) ?_
    obtain ⟨e1, e2⟩ := Prod.mk.inj (Option.some.inj hF)
    subst e1
    subst e2
    exact m_iret X hS hP rfl dX6_module_38
def f_X6_line (G V U : MT) (x1 : Int32) (x2 : Int32) (x3 : Int32) (x4 : Int32) : Option (Int32 × MT) :=
  (f_X1_hasModule G x1).bind (fun q1_ => (f_X6_checkIndex q1_).bind (fun _ => (f_X5_currentOf G V x1).bind (fun q3_ => (f_X1_linesOf G x1 q3_).bind (fun q4_ => (f_X1_isLine G x2 x3 x4 q4_).bind (fun q5_ => (f_X6_checkArgument q5_).bind (fun _ => if 12 ≤ q4_ then ((f_X6_checkState 0).bind (fun _ => (f_X1_addLine G x1 q3_ x2 x3 x4).bind (fun q9_ => some (q9_.1, q9_.2)))) else ((f_X5_isCurrentUsed G V x1).bind (fun q10_ => if q10_ = 0 then ((f_X6_checkState 1).bind (fun _ => (f_X1_addLine G x1 q3_ x2 x3 x4).bind (fun q15_ => some (q15_.1, q15_.2)))) else ((f_X6_checkState 0).bind (fun _ => (f_X1_addLine G x1 q3_ x2 x3 x4).bind (fun q13_ => some (q13_.1, q13_.2))))))))))))
def rm_X6_line : Room := { frames := 3, cells := 0, slots := 0, locals := 72 }
set_option maxRecDepth 20000 in
set_option maxHeartbeats 4000000 in
theorem c_X6_line {l : Launch} {D : va_G} {ad : Nat → Nat → Nat → Nat} {cI cZ cP : ClassId} {A : Nat → Prop} {G V U : MT} {x1 : Int32} {x2 : Int32} {x3 : Int32} {x4 : Int32} {r : Int32} {G' : MT}  (hF : f_X6_line G V U x1 x2 x3 x4 = some (r, G')) : Met l yX6_line (.code yX6_line cX6_line 7 (some .int) :: WM) rm_X6_line (PcM D ad cI cZ cP A [.ref (ad 2 16 0), .int x1, .int x2, .int x3, .int x4] (Pic D ad cI cZ cP 0 G V U)) (QcI A r (Pic D ad cI cZ cP 0 G' V U)) 0 0 A := by
  refine m_entry (by decide) (Nat.le_of_ble_eq_true rfl) (fun p e s m below meth c ls X hP hS hl => ?_)
  have X : MX p s m _ meth c cX6_line RX6 7 (some .int) D ad cI cZ cP A := X
  obtain ⟨hx, hb, hml, hown, htm, hr, hlk, hE⟩ := id X
  have hl : lv_has ls 7 [(0, .ref (ad 2 16 0)), (1, .int x1), (2, .int x2), (3, .int x3), (4, .int x4)] := hl
  refine lv_aload_n hx hb dX6_line_0 rfl (lv_at hl 0 rfl) ?_
  refine gf_16_0 hx hb htm hown hE hP (htm _ qw_376) dX6_line_1 ?_
  refine lv_iload_n hx hb dX6_line_4 rfl (lv_at hl 1 rfl) ?_
  obtain ⟨r1, hc1, hF⟩ := ob_S hF
  refine m_cVi X hS vw_X1_hasModule qw_396 (c_X1_hasModule (by decide) hc1) ⟨rfl, rfl⟩ ⟨Nat.le_of_ble_eq_true rfl, Nat.le_of_ble_eq_true rfl⟩ (rc_17 hE hP) hP rfl hl.1 (rest := []) rfl (Nat.le_of_ble_eq_true rfl) dX6_line_5 (fun H locs hP hS => ?_)
  obtain ⟨u2, hc2, hF⟩ := ob_S hF
  refine m_cSv X hS sw_X6_checkIndex qw_397 (c_X6_checkIndex hc2) ⟨rfl, rfl⟩ ⟨Nat.le_of_ble_eq_true rfl, Nat.le_of_ble_eq_true rfl⟩ hP rfl hl.1 (rest := []) rfl (Nat.le_of_ble_eq_true rfl) dX6_line_8 (fun H locs hP hS => ?_)
  refine lv_aload_n hx hb dX6_line_11 rfl (lv_at hl 0 rfl) ?_
  refine gf_16_2 hx hb htm hown hE hP (htm _ qw_382) dX6_line_12 ?_
  refine lv_iload_n hx hb dX6_line_15 rfl (lv_at hl 1 rfl) ?_
  obtain ⟨r3, hc3, hF⟩ := ob_S hF
  refine m_cVi X hS vw_X5_currentOf qw_399 (c_X5_currentOf (by decide) hc3) ⟨rfl, rfl⟩ ⟨Nat.le_of_ble_eq_true rfl, Nat.le_of_ble_eq_true rfl⟩ (rc_0 hE hP (by decide)) hP rfl hl.1 (rest := []) rfl (Nat.le_of_ble_eq_true rfl) dX6_line_16 (fun H locs hP hS => ?_)
  refine lv_istore (lv' := [(5, .int r3), (0, .ref (ad 2 16 0)), (1, .int x1), (2, .int x2), (3, .int x3), (4, .int x4)]) hx hb dX6_line_19 hl (by decide) rfl (fun ls hl => ?_)
  refine lv_aload_n hx hb dX6_line_21 rfl (lv_at hl 1 rfl) ?_
  refine gf_16_0 hx hb htm hown hE hP (htm _ qw_376) dX6_line_22 ?_
  refine lv_iload_n hx hb dX6_line_25 rfl (lv_at hl 2 rfl) ?_
  refine lv_iload hx hb dX6_line_26 (lv_at hl 0 rfl) ?_
  obtain ⟨r4, hc4, hF⟩ := ob_S hF
  refine m_cVi X hS vw_X1_linesOf qw_400 (c_X1_linesOf (by decide) hc4) ⟨rfl, rfl⟩ ⟨Nat.le_of_ble_eq_true rfl, Nat.le_of_ble_eq_true rfl⟩ (rc_17 hE hP) hP rfl hl.1 (rest := []) rfl (Nat.le_of_ble_eq_true rfl) dX6_line_28 (fun H locs hP hS => ?_)
  refine lv_istore (lv' := [(6, .int r4), (5, .int r3), (0, .ref (ad 2 16 0)), (1, .int x1), (2, .int x2), (3, .int x3), (4, .int x4)]) hx hb dX6_line_31 hl (by decide) rfl (fun ls hl => ?_)
  refine lv_aload_n hx hb dX6_line_33 rfl (lv_at hl 2 rfl) ?_
  refine gf_16_0 hx hb htm hown hE hP (htm _ qw_376) dX6_line_34 ?_
  refine lv_iload_n hx hb dX6_line_37 rfl (lv_at hl 4 rfl) ?_
  refine lv_iload_n hx hb dX6_line_38 rfl (lv_at hl 5 rfl) ?_
  refine lv_iload hx hb dX6_line_39 (lv_at hl 6 rfl) ?_
  refine lv_iload hx hb dX6_line_41 (lv_at hl 0 rfl) ?_
  obtain ⟨r5, hc5, hF⟩ := ob_S hF
  refine m_cVi X hS vw_X1_isLine qw_403 (c_X1_isLine (by decide) hc5) ⟨rfl, rfl⟩ ⟨Nat.le_of_ble_eq_true rfl, Nat.le_of_ble_eq_true rfl⟩ (rc_17 hE hP) hP rfl hl.1 (rest := []) rfl (Nat.le_of_ble_eq_true rfl) dX6_line_43 (fun H locs hP hS => ?_)
  obtain ⟨u6, hc6, hF⟩ := ob_S hF
  refine m_cSv X hS sw_X6_checkArgument qw_406 (c_X6_checkArgument hc6) ⟨rfl, rfl⟩ ⟨Nat.le_of_ble_eq_true rfl, Nat.le_of_ble_eq_true rfl⟩ hP rfl hl.1 (rest := []) rfl (Nat.le_of_ble_eq_true rfl) dX6_line_46 (fun H locs hP hS => ?_)
  refine lv_iload hx hb dX6_line_49 (lv_at hl 0 rfl) ?_
  refine lv_bipush (v := 12) hx hb dX6_line_51 (by decide) ?_
  refine lv_icmp_ge (tgt := 71) hx hb dX6_line_53 (by decide) (fun c7 => ?_) (fun c7 => ?_)
  · have hF := ite_T c7 hF
    refine lv_iconst (v := 0) hx hb dX6_line_71 (by decide) ?_
    obtain ⟨u8, hc8, hF⟩ := ob_S hF
    refine m_cSv X hS sw_X6_checkState qw_391 (c_X6_checkState hc8) ⟨rfl, rfl⟩ ⟨Nat.le_of_ble_eq_true rfl, Nat.le_of_ble_eq_true rfl⟩ hP rfl hl.1 (rest := []) rfl (Nat.le_of_ble_eq_true rfl) dX6_line_72 (fun H locs hP hS => ?_)
    refine lv_aload_n hx hb dX6_line_75 rfl (lv_at hl 2 rfl) ?_
    refine gf_16_0 hx hb htm hown hE hP (htm _ qw_376) dX6_line_76 ?_
    refine lv_iload_n hx hb dX6_line_79 rfl (lv_at hl 3 rfl) ?_
    refine lv_iload hx hb dX6_line_80 (lv_at hl 1 rfl) ?_
    refine lv_iload_n hx hb dX6_line_82 rfl (lv_at hl 4 rfl) ?_
    refine lv_iload_n hx hb dX6_line_83 rfl (lv_at hl 5 rfl) ?_
    refine lv_iload hx hb dX6_line_84 (lv_at hl 6 rfl) ?_
    obtain ⟨⟨r9, G9⟩, hc9, hF⟩ := ob_S hF
    refine m_cVi X hS vw_X1_addLine qw_411 (c_X1_addLine (by decide) hc9) ⟨rfl, rfl⟩ ⟨Nat.le_of_ble_eq_true rfl, Nat.le_of_ble_eq_true rfl⟩ (rc_17 hE hP) hP rfl hl.1 (rest := []) rfl (Nat.le_of_ble_eq_true rfl) dX6_line_86 (fun H locs hP hS => ?_)
    obtain ⟨e1, e2⟩ := Prod.mk.inj (Option.some.inj hF)
    subst e1
    subst e2
    exact m_iret X hS hP rfl dX6_line_89
  · have hF := ite_F c7 hF
    refine lv_aload_n hx hb dX6_line_56 rfl (lv_at hl 2 rfl) ?_
    refine gf_16_2 hx hb htm hown hE hP (htm _ qw_382) dX6_line_57 ?_
    refine lv_iload_n hx hb dX6_line_60 rfl (lv_at hl 3 rfl) ?_
    obtain ⟨r10, hc10, hF⟩ := ob_S hF
    refine m_cVi X hS vw_X5_isCurrentUsed qw_408 (c_X5_isCurrentUsed (by decide) hc10) ⟨rfl, rfl⟩ ⟨Nat.le_of_ble_eq_true rfl, Nat.le_of_ble_eq_true rfl⟩ (rc_0 hE hP (by decide)) hP rfl hl.1 (rest := []) rfl (Nat.le_of_ble_eq_true rfl) dX6_line_61 (fun H locs hP hS => ?_)
    refine lv_if_ne (tgt := 71) hx hb dX6_line_64 (by decide) (fun c11 => ?_) (fun c11 => ?_)
    · have hF := ite_F c11 hF
      refine lv_iconst (v := 0) hx hb dX6_line_71 (by decide) ?_
      obtain ⟨u12, hc12, hF⟩ := ob_S hF
      refine m_cSv X hS sw_X6_checkState qw_391 (c_X6_checkState hc12) ⟨rfl, rfl⟩ ⟨Nat.le_of_ble_eq_true rfl, Nat.le_of_ble_eq_true rfl⟩ hP rfl hl.1 (rest := []) rfl (Nat.le_of_ble_eq_true rfl) dX6_line_72 (fun H locs hP hS => ?_)
      refine lv_aload_n hx hb dX6_line_75 rfl (lv_at hl 2 rfl) ?_
      refine gf_16_0 hx hb htm hown hE hP (htm _ qw_376) dX6_line_76 ?_
      refine lv_iload_n hx hb dX6_line_79 rfl (lv_at hl 3 rfl) ?_
      refine lv_iload hx hb dX6_line_80 (lv_at hl 1 rfl) ?_
      refine lv_iload_n hx hb dX6_line_82 rfl (lv_at hl 4 rfl) ?_
      refine lv_iload_n hx hb dX6_line_83 rfl (lv_at hl 5 rfl) ?_
      refine lv_iload hx hb dX6_line_84 (lv_at hl 6 rfl) ?_
      obtain ⟨⟨r13, G13⟩, hc13, hF⟩ := ob_S hF
      refine m_cVi X hS vw_X1_addLine qw_411 (c_X1_addLine (by decide) hc13) ⟨rfl, rfl⟩ ⟨Nat.le_of_ble_eq_true rfl, Nat.le_of_ble_eq_true rfl⟩ (rc_17 hE hP) hP rfl hl.1 (rest := []) rfl (Nat.le_of_ble_eq_true rfl) dX6_line_86 (fun H locs hP hS => ?_)
      obtain ⟨e1, e2⟩ := Prod.mk.inj (Option.some.inj hF)
      subst e1
      subst e2
      exact m_iret X hS hP rfl dX6_line_89
    · have hF := ite_T c11 hF
      refine lv_iconst (v := 1) hx hb dX6_line_67 (by decide) ?_
      refine lv_goto (tgt := 72) hx hb dX6_line_68 (by decide) ?_
      obtain ⟨u14, hc14, hF⟩ := ob_S hF
      refine m_cSv X hS sw_X6_checkState qw_391 (c_X6_checkState hc14) ⟨rfl, rfl⟩ ⟨Nat.le_of_ble_eq_true rfl, Nat.le_of_ble_eq_true rfl⟩ hP rfl hl.1 (rest := []) rfl (Nat.le_of_ble_eq_true rfl) dX6_line_72 (fun H locs hP hS => ?_)
      refine lv_aload_n hx hb dX6_line_75 rfl (lv_at hl 2 rfl) ?_
      refine gf_16_0 hx hb htm hown hE hP (htm _ qw_376) dX6_line_76 ?_
      refine lv_iload_n hx hb dX6_line_79 rfl (lv_at hl 3 rfl) ?_
      refine lv_iload hx hb dX6_line_80 (lv_at hl 1 rfl) ?_
      refine lv_iload_n hx hb dX6_line_82 rfl (lv_at hl 4 rfl) ?_
      refine lv_iload_n hx hb dX6_line_83 rfl (lv_at hl 5 rfl) ?_
      refine lv_iload hx hb dX6_line_84 (lv_at hl 6 rfl) ?_
      obtain ⟨⟨r15, G15⟩, hc15, hF⟩ := ob_S hF
      refine m_cVi X hS vw_X1_addLine qw_411 (c_X1_addLine (by decide) hc15) ⟨rfl, rfl⟩ ⟨Nat.le_of_ble_eq_true rfl, Nat.le_of_ble_eq_true rfl⟩ (rc_17 hE hP) hP rfl hl.1 (rest := []) rfl (Nat.le_of_ble_eq_true rfl) dX6_line_86 (fun H locs hP hS => ?_)
      obtain ⟨e1, e2⟩ := Prod.mk.inj (Option.some.inj hF)
      subst e1
      subst e2
      exact m_iret X hS hP rfl dX6_line_89
def f_X6_load (G V U : MT) (x1 : Int32) : Option (Int32 × MT) :=
  (f_X1_hasModule G x1).bind (fun q1_ => (f_X6_checkIndex q1_).bind (fun _ => (f_X5_currentOf G V x1).bind (fun q3_ => if 4 ≤ q3_ + 1 then ((f_X6_checkState 0).bind (fun _ => (f_X5_loadModule G V x1).bind (fun q6_ => some ((q6_ 0 0 12) - (V 0 0 12), q6_)))) else ((f_X6_checkState 1).bind (fun _ => (f_X5_loadModule G V x1).bind (fun q8_ => some ((q8_ 0 0 12) - (V 0 0 12), q8_)))))))
def rm_X6_load : Room := { frames := 12, cells := 0, slots := 0, locals := 328 }
set_option maxRecDepth 20000 in
set_option maxHeartbeats 4000000 in
theorem c_X6_load {l : Launch} {D : va_G} {ad : Nat → Nat → Nat → Nat} {cI cZ cP : ClassId} {A : Nat → Prop} {G V U : MT} {x1 : Int32} {r : Int32} {V' : MT}  (hF : f_X6_load G V U x1 = some (r, V')) : Met l yX6_load (.code yX6_load cX6_load 3 (some .int) :: WM) rm_X6_load (PcM D ad cI cZ cP A [.ref (ad 2 16 0), .int x1] (Pic D ad cI cZ cP 0 G V U)) (QcI A r (Pic D ad cI cZ cP 0 G V' U)) 0 0 A := by
  refine m_entry (by decide) (Nat.le_of_ble_eq_true rfl) (fun p e s m below meth c ls X hP hS hl => ?_)
  have X : MX p s m _ meth c cX6_load RX6 3 (some .int) D ad cI cZ cP A := X
  obtain ⟨hx, hb, hml, hown, htm, hr, hlk, hE⟩ := id X
  have hl : lv_has ls 3 [(0, .ref (ad 2 16 0)), (1, .int x1)] := hl
  refine lv_aload_n hx hb dX6_load_0 rfl (lv_at hl 0 rfl) ?_
  refine gf_16_0 hx hb htm hown hE hP (htm _ qw_376) dX6_load_1 ?_
  refine lv_iload_n hx hb dX6_load_4 rfl (lv_at hl 1 rfl) ?_
  obtain ⟨r1, hc1, hF⟩ := ob_S hF
  refine m_cVi X hS vw_X1_hasModule qw_396 (c_X1_hasModule (by decide) hc1) ⟨rfl, rfl⟩ ⟨Nat.le_of_ble_eq_true rfl, Nat.le_of_ble_eq_true rfl⟩ (rc_17 hE hP) hP rfl hl.1 (rest := []) rfl (Nat.le_of_ble_eq_true rfl) dX6_load_5 (fun H locs hP hS => ?_)
  obtain ⟨u2, hc2, hF⟩ := ob_S hF
  refine m_cSv X hS sw_X6_checkIndex qw_397 (c_X6_checkIndex hc2) ⟨rfl, rfl⟩ ⟨Nat.le_of_ble_eq_true rfl, Nat.le_of_ble_eq_true rfl⟩ hP rfl hl.1 (rest := []) rfl (Nat.le_of_ble_eq_true rfl) dX6_load_8 (fun H locs hP hS => ?_)
  refine lv_aload_n hx hb dX6_load_11 rfl (lv_at hl 0 rfl) ?_
  refine gf_16_2 hx hb htm hown hE hP (htm _ qw_382) dX6_load_12 ?_
  refine lv_iload_n hx hb dX6_load_15 rfl (lv_at hl 1 rfl) ?_
  obtain ⟨r3, hc3, hF⟩ := ob_S hF
  refine m_cVi X hS vw_X5_currentOf qw_399 (c_X5_currentOf (by decide) hc3) ⟨rfl, rfl⟩ ⟨Nat.le_of_ble_eq_true rfl, Nat.le_of_ble_eq_true rfl⟩ (rc_0 hE hP (by decide)) hP rfl hl.1 (rest := []) rfl (Nat.le_of_ble_eq_true rfl) dX6_load_16 (fun H locs hP hS => ?_)
  refine lv_iconst (v := 1) hx hb dX6_load_19 (by decide) ?_
  refine lv_iadd hx hb dX6_load_20 ?_
  refine lv_iconst (v := 4) hx hb dX6_load_21 (by decide) ?_
  refine lv_icmp_ge (tgt := 29) hx hb dX6_load_22 (by decide) (fun c4 => ?_) (fun c4 => ?_)
  · have hF := ite_T c4 hF
    refine lv_iconst (v := 0) hx hb dX6_load_29 (by decide) ?_
    obtain ⟨u5, hc5, hF⟩ := ob_S hF
    refine m_cSv X hS sw_X6_checkState qw_391 (c_X6_checkState hc5) ⟨rfl, rfl⟩ ⟨Nat.le_of_ble_eq_true rfl, Nat.le_of_ble_eq_true rfl⟩ hP rfl hl.1 (rest := []) rfl (Nat.le_of_ble_eq_true rfl) dX6_load_30 (fun H locs hP hS => ?_)
    refine lv_aload_n hx hb dX6_load_33 rfl (lv_at hl 0 rfl) ?_
    refine gf_16_2 hx hb htm hown hE hP (htm _ qw_382) dX6_load_34 ?_
    refine gf_0_12 hx hb htm hown hE hP (by decide) (htm _ qw_415) dX6_load_37 ?_
    refine lv_istore_n (lv' := [(2, .int (V 0 0 12)), (0, .ref (ad 2 16 0)), (1, .int x1)]) hx hb dX6_load_40 rfl hl (by decide) rfl (fun ls hl => ?_)
    refine lv_aload_n hx hb dX6_load_41 rfl (lv_at hl 1 rfl) ?_
    refine gf_16_2 hx hb htm hown hE hP (htm _ qw_382) dX6_load_42 ?_
    refine lv_iload_n hx hb dX6_load_45 rfl (lv_at hl 2 rfl) ?_
    obtain ⟨V6, hc6, hF⟩ := ob_S hF
    refine m_cVv X hS vw_X5_loadModule qw_416 (c_X5_loadModule (by decide) hc6) ⟨rfl, rfl⟩ ⟨Nat.le_of_ble_eq_true rfl, Nat.le_of_ble_eq_true rfl⟩ (rc_0 hE hP (by decide)) hP rfl hl.1 (rest := []) rfl (Nat.le_of_ble_eq_true rfl) dX6_load_46 (fun H locs hP hS => ?_)
    refine lv_aload_n hx hb dX6_load_49 rfl (lv_at hl 1 rfl) ?_
    refine gf_16_2 hx hb htm hown hE hP (htm _ qw_382) dX6_load_50 ?_
    refine gf_0_12 hx hb htm hown hE hP (by decide) (htm _ qw_415) dX6_load_53 ?_
    refine lv_iload_n hx hb dX6_load_56 rfl (lv_at hl 0 rfl) ?_
    refine lv_isub hx hb dX6_load_57 ?_
    obtain ⟨e1, e2⟩ := Prod.mk.inj (Option.some.inj hF)
    subst e1
    subst e2
    exact m_iret X hS hP rfl dX6_load_58
  · have hF := ite_F c4 hF
    refine lv_iconst (v := 1) hx hb dX6_load_25 (by decide) ?_
    refine lv_goto (tgt := 30) hx hb dX6_load_26 (by decide) ?_
    obtain ⟨u7, hc7, hF⟩ := ob_S hF
    refine m_cSv X hS sw_X6_checkState qw_391 (c_X6_checkState hc7) ⟨rfl, rfl⟩ ⟨Nat.le_of_ble_eq_true rfl, Nat.le_of_ble_eq_true rfl⟩ hP rfl hl.1 (rest := []) rfl (Nat.le_of_ble_eq_true rfl) dX6_load_30 (fun H locs hP hS => ?_)
    refine lv_aload_n hx hb dX6_load_33 rfl (lv_at hl 0 rfl) ?_
    refine gf_16_2 hx hb htm hown hE hP (htm _ qw_382) dX6_load_34 ?_
    refine gf_0_12 hx hb htm hown hE hP (by decide) (htm _ qw_415) dX6_load_37 ?_
    refine lv_istore_n (lv' := [(2, .int (V 0 0 12)), (0, .ref (ad 2 16 0)), (1, .int x1)]) hx hb dX6_load_40 rfl hl (by decide) rfl (fun ls hl => ?_)
    refine lv_aload_n hx hb dX6_load_41 rfl (lv_at hl 1 rfl) ?_
    refine gf_16_2 hx hb htm hown hE hP (htm _ qw_382) dX6_load_42 ?_
    refine lv_iload_n hx hb dX6_load_45 rfl (lv_at hl 2 rfl) ?_
    obtain ⟨V8, hc8, hF⟩ := ob_S hF
    refine m_cVv X hS vw_X5_loadModule qw_416 (c_X5_loadModule (by decide) hc8) ⟨rfl, rfl⟩ ⟨Nat.le_of_ble_eq_true rfl, Nat.le_of_ble_eq_true rfl⟩ (rc_0 hE hP (by decide)) hP rfl hl.1 (rest := []) rfl (Nat.le_of_ble_eq_true rfl) dX6_load_46 (fun H locs hP hS => ?_)
    refine lv_aload_n hx hb dX6_load_49 rfl (lv_at hl 1 rfl) ?_
    refine gf_16_2 hx hb htm hown hE hP (htm _ qw_382) dX6_load_50 ?_
    refine gf_0_12 hx hb htm hown hE hP (by decide) (htm _ qw_415) dX6_load_53 ?_
    refine lv_iload_n hx hb dX6_load_56 rfl (lv_at hl 0 rfl) ?_
    refine lv_isub hx hb dX6_load_57 ?_
    obtain ⟨e1, e2⟩ := Prod.mk.inj (Option.some.inj hF)
    subst e1
    subst e2
    exact m_iret X hS hP rfl dX6_load_58
def f_X6_spec (G V U : MT) (x1 : Int32) (x2 : Int32) (x3 : Int32) : Option (Int32 × MT) :=
  (f_X6_isWithin x1 0 2).bind (fun q1_ => if q1_ = 0 then ((f_X6_checkArgument 0).bind (fun _ => if 5 ≤ G 22 0 0 then ((f_X6_checkState 0).bind (fun _ => (f_X3_addSpec G x1 x2 x3).bind (fun q6_ => some (q6_.1, q6_.2)))) else ((f_X6_checkState 1).bind (fun _ => (f_X3_addSpec G x1 x2 x3).bind (fun q8_ => some (q8_.1, q8_.2)))))) else ((f_X6_isWithin x2 0 3).bind (fun q9_ => if q9_ = 0 then ((f_X6_checkArgument 0).bind (fun _ => if 5 ≤ G 22 0 0 then ((f_X6_checkState 0).bind (fun _ => (f_X3_addSpec G x1 x2 x3).bind (fun q14_ => some (q14_.1, q14_.2)))) else ((f_X6_checkState 1).bind (fun _ => (f_X3_addSpec G x1 x2 x3).bind (fun q16_ => some (q16_.1, q16_.2)))))) else ((f_X6_isWithin x3 1 9).bind (fun q17_ => if q17_ = 0 then ((f_X6_checkArgument 0).bind (fun _ => if 5 ≤ G 22 0 0 then ((f_X6_checkState 0).bind (fun _ => (f_X3_addSpec G x1 x2 x3).bind (fun q22_ => some (q22_.1, q22_.2)))) else ((f_X6_checkState 1).bind (fun _ => (f_X3_addSpec G x1 x2 x3).bind (fun q24_ => some (q24_.1, q24_.2)))))) else ((f_X6_checkArgument 1).bind (fun _ => if 5 ≤ G 22 0 0 then ((f_X6_checkState 0).bind (fun _ => (f_X3_addSpec G x1 x2 x3).bind (fun q28_ => some (q28_.1, q28_.2)))) else ((f_X6_checkState 1).bind (fun _ => (f_X3_addSpec G x1 x2 x3).bind (fun q30_ => some (q30_.1, q30_.2)))))))))))
def rm_X6_spec : Room := { frames := 1, cells := 0, slots := 0, locals := 24 }
set_option maxRecDepth 20000 in
set_option maxHeartbeats 4000000 in
theorem c_X6_spec {l : Launch} {D : va_G} {ad : Nat → Nat → Nat → Nat} {cI cZ cP : ClassId} {A : Nat → Prop} {G V U : MT} {x1 : Int32} {x2 : Int32} {x3 : Int32} {r : Int32} {G' : MT}  (hF : f_X6_spec G V U x1 x2 x3 = some (r, G')) : Met l yX6_spec (.code yX6_spec cX6_spec 4 (some .int) :: WM) rm_X6_spec (PcM D ad cI cZ cP A [.ref (ad 2 16 0), .int x1, .int x2, .int x3] (Pic D ad cI cZ cP 0 G V U)) (QcI A r (Pic D ad cI cZ cP 0 G' V U)) 0 0 A := by
  refine m_entry (by decide) (Nat.le_of_ble_eq_true rfl) (fun p e s m below meth c ls X hP hS hl => ?_)
  have X : MX p s m _ meth c cX6_spec RX6 4 (some .int) D ad cI cZ cP A := X
  obtain ⟨hx, hb, hml, hown, htm, hr, hlk, hE⟩ := id X
  have hl : lv_has ls 4 [(0, .ref (ad 2 16 0)), (1, .int x1), (2, .int x2), (3, .int x3)] := hl
  refine lv_iload_n hx hb dX6_spec_0 rfl (lv_at hl 1 rfl) ?_
  refine lv_iconst (v := 0) hx hb dX6_spec_1 (by decide) ?_
  refine lv_iconst (v := 2) hx hb dX6_spec_2 (by decide) ?_
  obtain ⟨r1, hc1, hF⟩ := ob_S hF
  refine m_cSi X hS sw_X6_isWithin qw_421 (c_X6_isWithin hc1) ⟨rfl, rfl⟩ ⟨Nat.le_of_ble_eq_true rfl, Nat.le_of_ble_eq_true rfl⟩ hP rfl hl.1 (rest := []) rfl (Nat.le_of_ble_eq_true rfl) dX6_spec_3 (fun H locs hP hS => ?_)
  refine lv_if_eq (tgt := 32) hx hb dX6_spec_6 (by decide) (fun c2 => ?_) (fun c2 => ?_)
  · have hF := ite_T c2 hF
    refine lv_iconst (v := 0) hx hb dX6_spec_32 (by decide) ?_
    obtain ⟨u3, hc3, hF⟩ := ob_S hF
    refine m_cSv X hS sw_X6_checkArgument qw_406 (c_X6_checkArgument hc3) ⟨rfl, rfl⟩ ⟨Nat.le_of_ble_eq_true rfl, Nat.le_of_ble_eq_true rfl⟩ hP rfl hl.1 (rest := []) rfl (Nat.le_of_ble_eq_true rfl) dX6_spec_33 (fun H locs hP hS => ?_)
    refine lv_aload_n hx hb dX6_spec_36 rfl (lv_at hl 0 rfl) ?_
    refine gf_16_1 hx hb htm hown hE hP (htm _ qw_379) dX6_spec_37 ?_
    refine gf_22_0 hx hb htm hown hE hP (htm _ qw_420) dX6_spec_40 ?_
    refine lv_iconst (v := 5) hx hb dX6_spec_43 (by decide) ?_
    refine lv_icmp_ge (tgt := 51) hx hb dX6_spec_44 (by decide) (fun c4 => ?_) (fun c4 => ?_)
    · have hF := ite_T c4 hF
      refine lv_iconst (v := 0) hx hb dX6_spec_51 (by decide) ?_
      obtain ⟨u5, hc5, hF⟩ := ob_S hF
      refine m_cSv X hS sw_X6_checkState qw_391 (c_X6_checkState hc5) ⟨rfl, rfl⟩ ⟨Nat.le_of_ble_eq_true rfl, Nat.le_of_ble_eq_true rfl⟩ hP rfl hl.1 (rest := []) rfl (Nat.le_of_ble_eq_true rfl) dX6_spec_52 (fun H locs hP hS => ?_)
      refine lv_aload_n hx hb dX6_spec_55 rfl (lv_at hl 0 rfl) ?_
      refine gf_16_1 hx hb htm hown hE hP (htm _ qw_379) dX6_spec_56 ?_
      refine lv_iload_n hx hb dX6_spec_59 rfl (lv_at hl 1 rfl) ?_
      refine lv_iload_n hx hb dX6_spec_60 rfl (lv_at hl 2 rfl) ?_
      refine lv_iload_n hx hb dX6_spec_61 rfl (lv_at hl 3 rfl) ?_
      obtain ⟨⟨r6, G6⟩, hc6, hF⟩ := ob_S hF
      refine m_cVi X hS vw_X3_addSpec qw_422 (c_X3_addSpec (by decide) hc6) ⟨rfl, rfl⟩ ⟨Nat.le_of_ble_eq_true rfl, Nat.le_of_ble_eq_true rfl⟩ (rc_22 hE hP) hP rfl hl.1 (rest := []) rfl (Nat.le_of_ble_eq_true rfl) dX6_spec_62 (fun H locs hP hS => ?_)
      obtain ⟨e1, e2⟩ := Prod.mk.inj (Option.some.inj hF)
      subst e1
      subst e2
      exact m_iret X hS hP rfl dX6_spec_65
    · have hF := ite_F c4 hF
      refine lv_iconst (v := 1) hx hb dX6_spec_47 (by decide) ?_
      refine lv_goto (tgt := 52) hx hb dX6_spec_48 (by decide) ?_
      obtain ⟨u7, hc7, hF⟩ := ob_S hF
      refine m_cSv X hS sw_X6_checkState qw_391 (c_X6_checkState hc7) ⟨rfl, rfl⟩ ⟨Nat.le_of_ble_eq_true rfl, Nat.le_of_ble_eq_true rfl⟩ hP rfl hl.1 (rest := []) rfl (Nat.le_of_ble_eq_true rfl) dX6_spec_52 (fun H locs hP hS => ?_)
      refine lv_aload_n hx hb dX6_spec_55 rfl (lv_at hl 0 rfl) ?_
      refine gf_16_1 hx hb htm hown hE hP (htm _ qw_379) dX6_spec_56 ?_
      refine lv_iload_n hx hb dX6_spec_59 rfl (lv_at hl 1 rfl) ?_
      refine lv_iload_n hx hb dX6_spec_60 rfl (lv_at hl 2 rfl) ?_
      refine lv_iload_n hx hb dX6_spec_61 rfl (lv_at hl 3 rfl) ?_
      obtain ⟨⟨r8, G8⟩, hc8, hF⟩ := ob_S hF
      refine m_cVi X hS vw_X3_addSpec qw_422 (c_X3_addSpec (by decide) hc8) ⟨rfl, rfl⟩ ⟨Nat.le_of_ble_eq_true rfl, Nat.le_of_ble_eq_true rfl⟩ (rc_22 hE hP) hP rfl hl.1 (rest := []) rfl (Nat.le_of_ble_eq_true rfl) dX6_spec_62 (fun H locs hP hS => ?_)
      obtain ⟨e1, e2⟩ := Prod.mk.inj (Option.some.inj hF)
      subst e1
      subst e2
      exact m_iret X hS hP rfl dX6_spec_65
  · have hF := ite_F c2 hF
    refine lv_iload_n hx hb dX6_spec_9 rfl (lv_at hl 2 rfl) ?_
    refine lv_iconst (v := 0) hx hb dX6_spec_10 (by decide) ?_
    refine lv_iconst (v := 3) hx hb dX6_spec_11 (by decide) ?_
    obtain ⟨r9, hc9, hF⟩ := ob_S hF
    refine m_cSi X hS sw_X6_isWithin qw_421 (c_X6_isWithin hc9) ⟨rfl, rfl⟩ ⟨Nat.le_of_ble_eq_true rfl, Nat.le_of_ble_eq_true rfl⟩ hP rfl hl.1 (rest := []) rfl (Nat.le_of_ble_eq_true rfl) dX6_spec_12 (fun H locs hP hS => ?_)
    refine lv_if_eq (tgt := 32) hx hb dX6_spec_15 (by decide) (fun c10 => ?_) (fun c10 => ?_)
    · have hF := ite_T c10 hF
      refine lv_iconst (v := 0) hx hb dX6_spec_32 (by decide) ?_
      obtain ⟨u11, hc11, hF⟩ := ob_S hF
      refine m_cSv X hS sw_X6_checkArgument qw_406 (c_X6_checkArgument hc11) ⟨rfl, rfl⟩ ⟨Nat.le_of_ble_eq_true rfl, Nat.le_of_ble_eq_true rfl⟩ hP rfl hl.1 (rest := []) rfl (Nat.le_of_ble_eq_true rfl) dX6_spec_33 (fun H locs hP hS => ?_)
      refine lv_aload_n hx hb dX6_spec_36 rfl (lv_at hl 0 rfl) ?_
      refine gf_16_1 hx hb htm hown hE hP (htm _ qw_379) dX6_spec_37 ?_
      refine gf_22_0 hx hb htm hown hE hP (htm _ qw_420) dX6_spec_40 ?_
      refine lv_iconst (v := 5) hx hb dX6_spec_43 (by decide) ?_
      refine lv_icmp_ge (tgt := 51) hx hb dX6_spec_44 (by decide) (fun c12 => ?_) (fun c12 => ?_)
      · have hF := ite_T c12 hF
        refine lv_iconst (v := 0) hx hb dX6_spec_51 (by decide) ?_
        obtain ⟨u13, hc13, hF⟩ := ob_S hF
        refine m_cSv X hS sw_X6_checkState qw_391 (c_X6_checkState hc13) ⟨rfl, rfl⟩ ⟨Nat.le_of_ble_eq_true rfl, Nat.le_of_ble_eq_true rfl⟩ hP rfl hl.1 (rest := []) rfl (Nat.le_of_ble_eq_true rfl) dX6_spec_52 (fun H locs hP hS => ?_)
        refine lv_aload_n hx hb dX6_spec_55 rfl (lv_at hl 0 rfl) ?_
        refine gf_16_1 hx hb htm hown hE hP (htm _ qw_379) dX6_spec_56 ?_
        refine lv_iload_n hx hb dX6_spec_59 rfl (lv_at hl 1 rfl) ?_
        refine lv_iload_n hx hb dX6_spec_60 rfl (lv_at hl 2 rfl) ?_
        refine lv_iload_n hx hb dX6_spec_61 rfl (lv_at hl 3 rfl) ?_
        obtain ⟨⟨r14, G14⟩, hc14, hF⟩ := ob_S hF
        refine m_cVi X hS vw_X3_addSpec qw_422 (c_X3_addSpec (by decide) hc14) ⟨rfl, rfl⟩ ⟨Nat.le_of_ble_eq_true rfl, Nat.le_of_ble_eq_true rfl⟩ (rc_22 hE hP) hP rfl hl.1 (rest := []) rfl (Nat.le_of_ble_eq_true rfl) dX6_spec_62 (fun H locs hP hS => ?_)
        obtain ⟨e1, e2⟩ := Prod.mk.inj (Option.some.inj hF)
        subst e1
        subst e2
        exact m_iret X hS hP rfl dX6_spec_65
      · have hF := ite_F c12 hF
        refine lv_iconst (v := 1) hx hb dX6_spec_47 (by decide) ?_
        refine lv_goto (tgt := 52) hx hb dX6_spec_48 (by decide) ?_
        obtain ⟨u15, hc15, hF⟩ := ob_S hF
        refine m_cSv X hS sw_X6_checkState qw_391 (c_X6_checkState hc15) ⟨rfl, rfl⟩ ⟨Nat.le_of_ble_eq_true rfl, Nat.le_of_ble_eq_true rfl⟩ hP rfl hl.1 (rest := []) rfl (Nat.le_of_ble_eq_true rfl) dX6_spec_52 (fun H locs hP hS => ?_)
        refine lv_aload_n hx hb dX6_spec_55 rfl (lv_at hl 0 rfl) ?_
        refine gf_16_1 hx hb htm hown hE hP (htm _ qw_379) dX6_spec_56 ?_
        refine lv_iload_n hx hb dX6_spec_59 rfl (lv_at hl 1 rfl) ?_
        refine lv_iload_n hx hb dX6_spec_60 rfl (lv_at hl 2 rfl) ?_
        refine lv_iload_n hx hb dX6_spec_61 rfl (lv_at hl 3 rfl) ?_
        obtain ⟨⟨r16, G16⟩, hc16, hF⟩ := ob_S hF
        refine m_cVi X hS vw_X3_addSpec qw_422 (c_X3_addSpec (by decide) hc16) ⟨rfl, rfl⟩ ⟨Nat.le_of_ble_eq_true rfl, Nat.le_of_ble_eq_true rfl⟩ (rc_22 hE hP) hP rfl hl.1 (rest := []) rfl (Nat.le_of_ble_eq_true rfl) dX6_spec_62 (fun H locs hP hS => ?_)
        obtain ⟨e1, e2⟩ := Prod.mk.inj (Option.some.inj hF)
        subst e1
        subst e2
        exact m_iret X hS hP rfl dX6_spec_65
    · have hF := ite_F c10 hF
      refine lv_iload_n hx hb dX6_spec_18 rfl (lv_at hl 3 rfl) ?_
      refine lv_iconst (v := 1) hx hb dX6_spec_19 (by decide) ?_
      refine lv_bipush (v := 9) hx hb dX6_spec_20 (by decide) ?_
      obtain ⟨r17, hc17, hF⟩ := ob_S hF
      refine m_cSi X hS sw_X6_isWithin qw_421 (c_X6_isWithin hc17) ⟨rfl, rfl⟩ ⟨Nat.le_of_ble_eq_true rfl, Nat.le_of_ble_eq_true rfl⟩ hP rfl hl.1 (rest := []) rfl (Nat.le_of_ble_eq_true rfl) dX6_spec_22 (fun H locs hP hS => ?_)
      refine lv_if_eq (tgt := 32) hx hb dX6_spec_25 (by decide) (fun c18 => ?_) (fun c18 => ?_)
      · have hF := ite_T c18 hF
        refine lv_iconst (v := 0) hx hb dX6_spec_32 (by decide) ?_
        obtain ⟨u19, hc19, hF⟩ := ob_S hF
        refine m_cSv X hS sw_X6_checkArgument qw_406 (c_X6_checkArgument hc19) ⟨rfl, rfl⟩ ⟨Nat.le_of_ble_eq_true rfl, Nat.le_of_ble_eq_true rfl⟩ hP rfl hl.1 (rest := []) rfl (Nat.le_of_ble_eq_true rfl) dX6_spec_33 (fun H locs hP hS => ?_)
        refine lv_aload_n hx hb dX6_spec_36 rfl (lv_at hl 0 rfl) ?_
        refine gf_16_1 hx hb htm hown hE hP (htm _ qw_379) dX6_spec_37 ?_
        refine gf_22_0 hx hb htm hown hE hP (htm _ qw_420) dX6_spec_40 ?_
        refine lv_iconst (v := 5) hx hb dX6_spec_43 (by decide) ?_
        refine lv_icmp_ge (tgt := 51) hx hb dX6_spec_44 (by decide) (fun c20 => ?_) (fun c20 => ?_)
        · have hF := ite_T c20 hF
          refine lv_iconst (v := 0) hx hb dX6_spec_51 (by decide) ?_
          obtain ⟨u21, hc21, hF⟩ := ob_S hF
          refine m_cSv X hS sw_X6_checkState qw_391 (c_X6_checkState hc21) ⟨rfl, rfl⟩ ⟨Nat.le_of_ble_eq_true rfl, Nat.le_of_ble_eq_true rfl⟩ hP rfl hl.1 (rest := []) rfl (Nat.le_of_ble_eq_true rfl) dX6_spec_52 (fun H locs hP hS => ?_)
          refine lv_aload_n hx hb dX6_spec_55 rfl (lv_at hl 0 rfl) ?_
          refine gf_16_1 hx hb htm hown hE hP (htm _ qw_379) dX6_spec_56 ?_
          refine lv_iload_n hx hb dX6_spec_59 rfl (lv_at hl 1 rfl) ?_
          refine lv_iload_n hx hb dX6_spec_60 rfl (lv_at hl 2 rfl) ?_
          refine lv_iload_n hx hb dX6_spec_61 rfl (lv_at hl 3 rfl) ?_
          obtain ⟨⟨r22, G22⟩, hc22, hF⟩ := ob_S hF
          refine m_cVi X hS vw_X3_addSpec qw_422 (c_X3_addSpec (by decide) hc22) ⟨rfl, rfl⟩ ⟨Nat.le_of_ble_eq_true rfl, Nat.le_of_ble_eq_true rfl⟩ (rc_22 hE hP) hP rfl hl.1 (rest := []) rfl (Nat.le_of_ble_eq_true rfl) dX6_spec_62 (fun H locs hP hS => ?_)
          obtain ⟨e1, e2⟩ := Prod.mk.inj (Option.some.inj hF)
          subst e1
          subst e2
          exact m_iret X hS hP rfl dX6_spec_65
        · have hF := ite_F c20 hF
          refine lv_iconst (v := 1) hx hb dX6_spec_47 (by decide) ?_
          refine lv_goto (tgt := 52) hx hb dX6_spec_48 (by decide) ?_
          obtain ⟨u23, hc23, hF⟩ := ob_S hF
          refine m_cSv X hS sw_X6_checkState qw_391 (c_X6_checkState hc23) ⟨rfl, rfl⟩ ⟨Nat.le_of_ble_eq_true rfl, Nat.le_of_ble_eq_true rfl⟩ hP rfl hl.1 (rest := []) rfl (Nat.le_of_ble_eq_true rfl) dX6_spec_52 (fun H locs hP hS => ?_)
          refine lv_aload_n hx hb dX6_spec_55 rfl (lv_at hl 0 rfl) ?_
          refine gf_16_1 hx hb htm hown hE hP (htm _ qw_379) dX6_spec_56 ?_
          refine lv_iload_n hx hb dX6_spec_59 rfl (lv_at hl 1 rfl) ?_
          refine lv_iload_n hx hb dX6_spec_60 rfl (lv_at hl 2 rfl) ?_
          refine lv_iload_n hx hb dX6_spec_61 rfl (lv_at hl 3 rfl) ?_
          obtain ⟨⟨r24, G24⟩, hc24, hF⟩ := ob_S hF
          refine m_cVi X hS vw_X3_addSpec qw_422 (c_X3_addSpec (by decide) hc24) ⟨rfl, rfl⟩ ⟨Nat.le_of_ble_eq_true rfl, Nat.le_of_ble_eq_true rfl⟩ (rc_22 hE hP) hP rfl hl.1 (rest := []) rfl (Nat.le_of_ble_eq_true rfl) dX6_spec_62 (fun H locs hP hS => ?_)
          obtain ⟨e1, e2⟩ := Prod.mk.inj (Option.some.inj hF)
          subst e1
          subst e2
          exact m_iret X hS hP rfl dX6_spec_65
      · have hF := ite_F c18 hF
        refine lv_iconst (v := 1) hx hb dX6_spec_28 (by decide) ?_
        refine lv_goto (tgt := 33) hx hb dX6_spec_29 (by decide) ?_
        obtain ⟨u25, hc25, hF⟩ := ob_S hF
        refine m_cSv X hS sw_X6_checkArgument qw_406 (c_X6_checkArgument hc25) ⟨rfl, rfl⟩ ⟨Nat.le_of_ble_eq_true rfl, Nat.le_of_ble_eq_true rfl⟩ hP rfl hl.1 (rest := []) rfl (Nat.le_of_ble_eq_true rfl) dX6_spec_33 (fun H locs hP hS => ?_)
        refine lv_aload_n hx hb dX6_spec_36 rfl (lv_at hl 0 rfl) ?_
        refine gf_16_1 hx hb htm hown hE hP (htm _ qw_379) dX6_spec_37 ?_
        refine gf_22_0 hx hb htm hown hE hP (htm _ qw_420) dX6_spec_40 ?_
        refine lv_iconst (v := 5) hx hb dX6_spec_43 (by decide) ?_
        refine lv_icmp_ge (tgt := 51) hx hb dX6_spec_44 (by decide) (fun c26 => ?_) (fun c26 => ?_)
        · have hF := ite_T c26 hF
          refine lv_iconst (v := 0) hx hb dX6_spec_51 (by decide) ?_
          obtain ⟨u27, hc27, hF⟩ := ob_S hF
          refine m_cSv X hS sw_X6_checkState qw_391 (c_X6_checkState hc27) ⟨rfl, rfl⟩ ⟨Nat.le_of_ble_eq_true rfl, Nat.le_of_ble_eq_true rfl⟩ hP rfl hl.1 (rest := []) rfl (Nat.le_of_ble_eq_true rfl) dX6_spec_52 (fun H locs hP hS => ?_)
          refine lv_aload_n hx hb dX6_spec_55 rfl (lv_at hl 0 rfl) ?_
          refine gf_16_1 hx hb htm hown hE hP (htm _ qw_379) dX6_spec_56 ?_
          refine lv_iload_n hx hb dX6_spec_59 rfl (lv_at hl 1 rfl) ?_
          refine lv_iload_n hx hb dX6_spec_60 rfl (lv_at hl 2 rfl) ?_
          refine lv_iload_n hx hb dX6_spec_61 rfl (lv_at hl 3 rfl) ?_
          obtain ⟨⟨r28, G28⟩, hc28, hF⟩ := ob_S hF
          refine m_cVi X hS vw_X3_addSpec qw_422 (c_X3_addSpec (by decide) hc28) ⟨rfl, rfl⟩ ⟨Nat.le_of_ble_eq_true rfl, Nat.le_of_ble_eq_true rfl⟩ (rc_22 hE hP) hP rfl hl.1 (rest := []) rfl (Nat.le_of_ble_eq_true rfl) dX6_spec_62 (fun H locs hP hS => ?_)
          obtain ⟨e1, e2⟩ := Prod.mk.inj (Option.some.inj hF)
          subst e1
          subst e2
          exact m_iret X hS hP rfl dX6_spec_65
        · have hF := ite_F c26 hF
          refine lv_iconst (v := 1) hx hb dX6_spec_47 (by decide) ?_
          refine lv_goto (tgt := 52) hx hb dX6_spec_48 (by decide) ?_
          obtain ⟨u29, hc29, hF⟩ := ob_S hF
          refine m_cSv X hS sw_X6_checkState qw_391 (c_X6_checkState hc29) ⟨rfl, rfl⟩ ⟨Nat.le_of_ble_eq_true rfl, Nat.le_of_ble_eq_true rfl⟩ hP rfl hl.1 (rest := []) rfl (Nat.le_of_ble_eq_true rfl) dX6_spec_52 (fun H locs hP hS => ?_)
          refine lv_aload_n hx hb dX6_spec_55 rfl (lv_at hl 0 rfl) ?_
          refine gf_16_1 hx hb htm hown hE hP (htm _ qw_379) dX6_spec_56 ?_
          refine lv_iload_n hx hb dX6_spec_59 rfl (lv_at hl 1 rfl) ?_
          refine lv_iload_n hx hb dX6_spec_60 rfl (lv_at hl 2 rfl) ?_
          refine lv_iload_n hx hb dX6_spec_61 rfl (lv_at hl 3 rfl) ?_
          obtain ⟨⟨r30, G30⟩, hc30, hF⟩ := ob_S hF
          refine m_cVi X hS vw_X3_addSpec qw_422 (c_X3_addSpec (by decide) hc30) ⟨rfl, rfl⟩ ⟨Nat.le_of_ble_eq_true rfl, Nat.le_of_ble_eq_true rfl⟩ (rc_22 hE hP) hP rfl hl.1 (rest := []) rfl (Nat.le_of_ble_eq_true rfl) dX6_spec_62 (fun H locs hP hS => ?_)
          obtain ⟨e1, e2⟩ := Prod.mk.inj (Option.some.inj hF)
          subst e1
          subst e2
          exact m_iret X hS hP rfl dX6_spec_65
def f_X6_place (G V U : MT) (x1 : Int32) (x2 : Int32) (x3 : Int32) (x4 : Int32) : Option (Int32 × MT) :=
  (f_X3_hasSpec G x1).bind (fun q1_ => (f_X6_checkIndex q1_).bind (fun _ => if x2 = 0 then ((f_X1_hasModule G x3).bind (fun q4_ => (f_X6_checkArgument q4_).bind (fun _ => (f_X6_isWithin x4 0 2).bind (fun q6_ => (f_X6_checkArgument q6_).bind (fun _ => (f_X5_hadSupervisor G V x1).bind (fun q8_ => if q8_ = 0 then ((f_X3_placesOf G x1).bind (fun q12_ => if 4 ≤ q12_ then ((f_X6_checkState 0).bind (fun _ => (f_X3_addPlace G x1 x2 x3 x4).bind (fun q15_ => some (q15_.1, q15_.2)))) else ((f_X6_checkState 1).bind (fun _ => (f_X3_addPlace G x1 x2 x3 x4).bind (fun q17_ => some (q17_.1, q17_.2)))))) else ((f_X6_checkState 0).bind (fun _ => (f_X3_addPlace G x1 x2 x3 x4).bind (fun q11_ => some (q11_.1, q11_.2)))))))))) else ((f_X6_isWithin x3 0 (x1 - 1)).bind (fun q18_ => (f_X6_checkArgument q18_).bind (fun _ => (f_X6_isWithin x4 0 2).bind (fun q20_ => (f_X6_checkArgument q20_).bind (fun _ => (f_X5_hadSupervisor G V x1).bind (fun q22_ => if q22_ = 0 then ((f_X3_placesOf G x1).bind (fun q26_ => if 4 ≤ q26_ then ((f_X6_checkState 0).bind (fun _ => (f_X3_addPlace G x1 x2 x3 x4).bind (fun q29_ => some (q29_.1, q29_.2)))) else ((f_X6_checkState 1).bind (fun _ => (f_X3_addPlace G x1 x2 x3 x4).bind (fun q31_ => some (q31_.1, q31_.2)))))) else ((f_X6_checkState 0).bind (fun _ => (f_X3_addPlace G x1 x2 x3 x4).bind (fun q25_ => some (q25_.1, q25_.2))))))))))))
def rm_X6_place : Room := { frames := 2, cells := 0, slots := 0, locals := 47 }
set_option maxRecDepth 20000 in
set_option maxHeartbeats 4000000 in
theorem c_X6_place {l : Launch} {D : va_G} {ad : Nat → Nat → Nat → Nat} {cI cZ cP : ClassId} {A : Nat → Prop} {G V U : MT} {x1 : Int32} {x2 : Int32} {x3 : Int32} {x4 : Int32} {r : Int32} {G' : MT}  (hF : f_X6_place G V U x1 x2 x3 x4 = some (r, G')) : Met l yX6_place (.code yX6_place cX6_place 5 (some .int) :: WM) rm_X6_place (PcM D ad cI cZ cP A [.ref (ad 2 16 0), .int x1, .int x2, .int x3, .int x4] (Pic D ad cI cZ cP 0 G V U)) (QcI A r (Pic D ad cI cZ cP 0 G' V U)) 0 0 A := by
  refine m_entry (by decide) (Nat.le_of_ble_eq_true rfl) (fun p e s m below meth c ls X hP hS hl => ?_)
  have X : MX p s m _ meth c cX6_place RX6 5 (some .int) D ad cI cZ cP A := X
  obtain ⟨hx, hb, hml, hown, htm, hr, hlk, hE⟩ := id X
  have hl : lv_has ls 5 [(0, .ref (ad 2 16 0)), (1, .int x1), (2, .int x2), (3, .int x3), (4, .int x4)] := hl
  refine lv_aload_n hx hb dX6_place_0 rfl (lv_at hl 0 rfl) ?_
  refine gf_16_1 hx hb htm hown hE hP (htm _ qw_379) dX6_place_1 ?_
  refine lv_iload_n hx hb dX6_place_4 rfl (lv_at hl 1 rfl) ?_
  obtain ⟨r1, hc1, hF⟩ := ob_S hF
  refine m_cVi X hS vw_X3_hasSpec qw_426 (c_X3_hasSpec (by decide) hc1) ⟨rfl, rfl⟩ ⟨Nat.le_of_ble_eq_true rfl, Nat.le_of_ble_eq_true rfl⟩ (rc_22 hE hP) hP rfl hl.1 (rest := []) rfl (Nat.le_of_ble_eq_true rfl) dX6_place_5 (fun H locs hP hS => ?_)
  obtain ⟨u2, hc2, hF⟩ := ob_S hF
  refine m_cSv X hS sw_X6_checkIndex qw_397 (c_X6_checkIndex hc2) ⟨rfl, rfl⟩ ⟨Nat.le_of_ble_eq_true rfl, Nat.le_of_ble_eq_true rfl⟩ hP rfl hl.1 (rest := []) rfl (Nat.le_of_ble_eq_true rfl) dX6_place_8 (fun H locs hP hS => ?_)
  refine lv_iload_n hx hb dX6_place_11 rfl (lv_at hl 2 rfl) ?_
  refine lv_if_eq (tgt := 26) hx hb dX6_place_12 (by decide) (fun c3 => ?_) (fun c3 => ?_)
  · have hF := ite_T c3 hF
    refine lv_aload_n hx hb dX6_place_26 rfl (lv_at hl 0 rfl) ?_
    refine gf_16_0 hx hb htm hown hE hP (htm _ qw_376) dX6_place_27 ?_
    refine lv_iload_n hx hb dX6_place_30 rfl (lv_at hl 3 rfl) ?_
    obtain ⟨r4, hc4, hF⟩ := ob_S hF
    refine m_cVi X hS vw_X1_hasModule qw_396 (c_X1_hasModule (by decide) hc4) ⟨rfl, rfl⟩ ⟨Nat.le_of_ble_eq_true rfl, Nat.le_of_ble_eq_true rfl⟩ (rc_17 hE hP) hP rfl hl.1 (rest := []) rfl (Nat.le_of_ble_eq_true rfl) dX6_place_31 (fun H locs hP hS => ?_)
    obtain ⟨u5, hc5, hF⟩ := ob_S hF
    refine m_cSv X hS sw_X6_checkArgument qw_406 (c_X6_checkArgument hc5) ⟨rfl, rfl⟩ ⟨Nat.le_of_ble_eq_true rfl, Nat.le_of_ble_eq_true rfl⟩ hP rfl hl.1 (rest := []) rfl (Nat.le_of_ble_eq_true rfl) dX6_place_34 (fun H locs hP hS => ?_)
    refine lv_iload hx hb dX6_place_37 (lv_at hl 4 rfl) ?_
    refine lv_iconst (v := 0) hx hb dX6_place_39 (by decide) ?_
    refine lv_iconst (v := 2) hx hb dX6_place_40 (by decide) ?_
    obtain ⟨r6, hc6, hF⟩ := ob_S hF
    refine m_cSi X hS sw_X6_isWithin qw_421 (c_X6_isWithin hc6) ⟨rfl, rfl⟩ ⟨Nat.le_of_ble_eq_true rfl, Nat.le_of_ble_eq_true rfl⟩ hP rfl hl.1 (rest := []) rfl (Nat.le_of_ble_eq_true rfl) dX6_place_41 (fun H locs hP hS => ?_)
    obtain ⟨u7, hc7, hF⟩ := ob_S hF
    refine m_cSv X hS sw_X6_checkArgument qw_406 (c_X6_checkArgument hc7) ⟨rfl, rfl⟩ ⟨Nat.le_of_ble_eq_true rfl, Nat.le_of_ble_eq_true rfl⟩ hP rfl hl.1 (rest := []) rfl (Nat.le_of_ble_eq_true rfl) dX6_place_44 (fun H locs hP hS => ?_)
    refine lv_aload_n hx hb dX6_place_47 rfl (lv_at hl 0 rfl) ?_
    refine gf_16_2 hx hb htm hown hE hP (htm _ qw_382) dX6_place_48 ?_
    refine lv_iload_n hx hb dX6_place_51 rfl (lv_at hl 1 rfl) ?_
    obtain ⟨r8, hc8, hF⟩ := ob_S hF
    refine m_cVi X hS vw_X5_hadSupervisor qw_427 (c_X5_hadSupervisor (by decide) hc8) ⟨rfl, rfl⟩ ⟨Nat.le_of_ble_eq_true rfl, Nat.le_of_ble_eq_true rfl⟩ (rc_0 hE hP (by decide)) hP rfl hl.1 (rest := []) rfl (Nat.le_of_ble_eq_true rfl) dX6_place_52 (fun H locs hP hS => ?_)
    refine lv_if_ne (tgt := 74) hx hb dX6_place_55 (by decide) (fun c9 => ?_) (fun c9 => ?_)
    · have hF := ite_F c9 hF
      refine lv_iconst (v := 0) hx hb dX6_place_74 (by decide) ?_
      obtain ⟨u10, hc10, hF⟩ := ob_S hF
      refine m_cSv X hS sw_X6_checkState qw_391 (c_X6_checkState hc10) ⟨rfl, rfl⟩ ⟨Nat.le_of_ble_eq_true rfl, Nat.le_of_ble_eq_true rfl⟩ hP rfl hl.1 (rest := []) rfl (Nat.le_of_ble_eq_true rfl) dX6_place_75 (fun H locs hP hS => ?_)
      refine lv_aload_n hx hb dX6_place_78 rfl (lv_at hl 0 rfl) ?_
      refine gf_16_1 hx hb htm hown hE hP (htm _ qw_379) dX6_place_79 ?_
      refine lv_iload_n hx hb dX6_place_82 rfl (lv_at hl 1 rfl) ?_
      refine lv_iload_n hx hb dX6_place_83 rfl (lv_at hl 2 rfl) ?_
      refine lv_iload_n hx hb dX6_place_84 rfl (lv_at hl 3 rfl) ?_
      refine lv_iload hx hb dX6_place_85 (lv_at hl 4 rfl) ?_
      obtain ⟨⟨r11, G11⟩, hc11, hF⟩ := ob_S hF
      refine m_cVi X hS vw_X3_addPlace qw_433 (c_X3_addPlace (by decide) hc11) ⟨rfl, rfl⟩ ⟨Nat.le_of_ble_eq_true rfl, Nat.le_of_ble_eq_true rfl⟩ (rc_22 hE hP) hP rfl hl.1 (rest := []) rfl (Nat.le_of_ble_eq_true rfl) dX6_place_87 (fun H locs hP hS => ?_)
      obtain ⟨e1, e2⟩ := Prod.mk.inj (Option.some.inj hF)
      subst e1
      subst e2
      exact m_iret X hS hP rfl dX6_place_90
    · have hF := ite_T c9 hF
      refine lv_aload_n hx hb dX6_place_58 rfl (lv_at hl 0 rfl) ?_
      refine gf_16_1 hx hb htm hown hE hP (htm _ qw_379) dX6_place_59 ?_
      refine lv_iload_n hx hb dX6_place_62 rfl (lv_at hl 1 rfl) ?_
      obtain ⟨r12, hc12, hF⟩ := ob_S hF
      refine m_cVi X hS vw_X3_placesOf qw_430 (c_X3_placesOf (by decide) hc12) ⟨rfl, rfl⟩ ⟨Nat.le_of_ble_eq_true rfl, Nat.le_of_ble_eq_true rfl⟩ (rc_22 hE hP) hP rfl hl.1 (rest := []) rfl (Nat.le_of_ble_eq_true rfl) dX6_place_63 (fun H locs hP hS => ?_)
      refine lv_iconst (v := 4) hx hb dX6_place_66 (by decide) ?_
      refine lv_icmp_ge (tgt := 74) hx hb dX6_place_67 (by decide) (fun c13 => ?_) (fun c13 => ?_)
      · have hF := ite_T c13 hF
        refine lv_iconst (v := 0) hx hb dX6_place_74 (by decide) ?_
        obtain ⟨u14, hc14, hF⟩ := ob_S hF
        refine m_cSv X hS sw_X6_checkState qw_391 (c_X6_checkState hc14) ⟨rfl, rfl⟩ ⟨Nat.le_of_ble_eq_true rfl, Nat.le_of_ble_eq_true rfl⟩ hP rfl hl.1 (rest := []) rfl (Nat.le_of_ble_eq_true rfl) dX6_place_75 (fun H locs hP hS => ?_)
        refine lv_aload_n hx hb dX6_place_78 rfl (lv_at hl 0 rfl) ?_
        refine gf_16_1 hx hb htm hown hE hP (htm _ qw_379) dX6_place_79 ?_
        refine lv_iload_n hx hb dX6_place_82 rfl (lv_at hl 1 rfl) ?_
        refine lv_iload_n hx hb dX6_place_83 rfl (lv_at hl 2 rfl) ?_
        refine lv_iload_n hx hb dX6_place_84 rfl (lv_at hl 3 rfl) ?_
        refine lv_iload hx hb dX6_place_85 (lv_at hl 4 rfl) ?_
        obtain ⟨⟨r15, G15⟩, hc15, hF⟩ := ob_S hF
        refine m_cVi X hS vw_X3_addPlace qw_433 (c_X3_addPlace (by decide) hc15) ⟨rfl, rfl⟩ ⟨Nat.le_of_ble_eq_true rfl, Nat.le_of_ble_eq_true rfl⟩ (rc_22 hE hP) hP rfl hl.1 (rest := []) rfl (Nat.le_of_ble_eq_true rfl) dX6_place_87 (fun H locs hP hS => ?_)
        obtain ⟨e1, e2⟩ := Prod.mk.inj (Option.some.inj hF)
        subst e1
        subst e2
        exact m_iret X hS hP rfl dX6_place_90
      · have hF := ite_F c13 hF
        refine lv_iconst (v := 1) hx hb dX6_place_70 (by decide) ?_
        refine lv_goto (tgt := 75) hx hb dX6_place_71 (by decide) ?_
        obtain ⟨u16, hc16, hF⟩ := ob_S hF
        refine m_cSv X hS sw_X6_checkState qw_391 (c_X6_checkState hc16) ⟨rfl, rfl⟩ ⟨Nat.le_of_ble_eq_true rfl, Nat.le_of_ble_eq_true rfl⟩ hP rfl hl.1 (rest := []) rfl (Nat.le_of_ble_eq_true rfl) dX6_place_75 (fun H locs hP hS => ?_)
        refine lv_aload_n hx hb dX6_place_78 rfl (lv_at hl 0 rfl) ?_
        refine gf_16_1 hx hb htm hown hE hP (htm _ qw_379) dX6_place_79 ?_
        refine lv_iload_n hx hb dX6_place_82 rfl (lv_at hl 1 rfl) ?_
        refine lv_iload_n hx hb dX6_place_83 rfl (lv_at hl 2 rfl) ?_
        refine lv_iload_n hx hb dX6_place_84 rfl (lv_at hl 3 rfl) ?_
        refine lv_iload hx hb dX6_place_85 (lv_at hl 4 rfl) ?_
        obtain ⟨⟨r17, G17⟩, hc17, hF⟩ := ob_S hF
        refine m_cVi X hS vw_X3_addPlace qw_433 (c_X3_addPlace (by decide) hc17) ⟨rfl, rfl⟩ ⟨Nat.le_of_ble_eq_true rfl, Nat.le_of_ble_eq_true rfl⟩ (rc_22 hE hP) hP rfl hl.1 (rest := []) rfl (Nat.le_of_ble_eq_true rfl) dX6_place_87 (fun H locs hP hS => ?_)
        obtain ⟨e1, e2⟩ := Prod.mk.inj (Option.some.inj hF)
        subst e1
        subst e2
        exact m_iret X hS hP rfl dX6_place_90
  · have hF := ite_F c3 hF
    refine lv_iload_n hx hb dX6_place_15 rfl (lv_at hl 3 rfl) ?_
    refine lv_iconst (v := 0) hx hb dX6_place_16 (by decide) ?_
    refine lv_iload_n hx hb dX6_place_17 rfl (lv_at hl 1 rfl) ?_
    refine lv_iconst (v := 1) hx hb dX6_place_18 (by decide) ?_
    refine lv_isub hx hb dX6_place_19 ?_
    obtain ⟨r18, hc18, hF⟩ := ob_S hF
    refine m_cSi X hS sw_X6_isWithin qw_421 (c_X6_isWithin hc18) ⟨rfl, rfl⟩ ⟨Nat.le_of_ble_eq_true rfl, Nat.le_of_ble_eq_true rfl⟩ hP rfl hl.1 (rest := []) rfl (Nat.le_of_ble_eq_true rfl) dX6_place_20 (fun H locs hP hS => ?_)
    refine lv_goto (tgt := 34) hx hb dX6_place_23 (by decide) ?_
    obtain ⟨u19, hc19, hF⟩ := ob_S hF
    refine m_cSv X hS sw_X6_checkArgument qw_406 (c_X6_checkArgument hc19) ⟨rfl, rfl⟩ ⟨Nat.le_of_ble_eq_true rfl, Nat.le_of_ble_eq_true rfl⟩ hP rfl hl.1 (rest := []) rfl (Nat.le_of_ble_eq_true rfl) dX6_place_34 (fun H locs hP hS => ?_)
    refine lv_iload hx hb dX6_place_37 (lv_at hl 4 rfl) ?_
    refine lv_iconst (v := 0) hx hb dX6_place_39 (by decide) ?_
    refine lv_iconst (v := 2) hx hb dX6_place_40 (by decide) ?_
    obtain ⟨r20, hc20, hF⟩ := ob_S hF
    refine m_cSi X hS sw_X6_isWithin qw_421 (c_X6_isWithin hc20) ⟨rfl, rfl⟩ ⟨Nat.le_of_ble_eq_true rfl, Nat.le_of_ble_eq_true rfl⟩ hP rfl hl.1 (rest := []) rfl (Nat.le_of_ble_eq_true rfl) dX6_place_41 (fun H locs hP hS => ?_)
    obtain ⟨u21, hc21, hF⟩ := ob_S hF
    refine m_cSv X hS sw_X6_checkArgument qw_406 (c_X6_checkArgument hc21) ⟨rfl, rfl⟩ ⟨Nat.le_of_ble_eq_true rfl, Nat.le_of_ble_eq_true rfl⟩ hP rfl hl.1 (rest := []) rfl (Nat.le_of_ble_eq_true rfl) dX6_place_44 (fun H locs hP hS => ?_)
    refine lv_aload_n hx hb dX6_place_47 rfl (lv_at hl 0 rfl) ?_
    refine gf_16_2 hx hb htm hown hE hP (htm _ qw_382) dX6_place_48 ?_
    refine lv_iload_n hx hb dX6_place_51 rfl (lv_at hl 1 rfl) ?_
    obtain ⟨r22, hc22, hF⟩ := ob_S hF
    refine m_cVi X hS vw_X5_hadSupervisor qw_427 (c_X5_hadSupervisor (by decide) hc22) ⟨rfl, rfl⟩ ⟨Nat.le_of_ble_eq_true rfl, Nat.le_of_ble_eq_true rfl⟩ (rc_0 hE hP (by decide)) hP rfl hl.1 (rest := []) rfl (Nat.le_of_ble_eq_true rfl) dX6_place_52 (fun H locs hP hS => ?_)
    refine lv_if_ne (tgt := 74) hx hb dX6_place_55 (by decide) (fun c23 => ?_) (fun c23 => ?_)
    · have hF := ite_F c23 hF
      refine lv_iconst (v := 0) hx hb dX6_place_74 (by decide) ?_
      obtain ⟨u24, hc24, hF⟩ := ob_S hF
      refine m_cSv X hS sw_X6_checkState qw_391 (c_X6_checkState hc24) ⟨rfl, rfl⟩ ⟨Nat.le_of_ble_eq_true rfl, Nat.le_of_ble_eq_true rfl⟩ hP rfl hl.1 (rest := []) rfl (Nat.le_of_ble_eq_true rfl) dX6_place_75 (fun H locs hP hS => ?_)
      refine lv_aload_n hx hb dX6_place_78 rfl (lv_at hl 0 rfl) ?_
      refine gf_16_1 hx hb htm hown hE hP (htm _ qw_379) dX6_place_79 ?_
      refine lv_iload_n hx hb dX6_place_82 rfl (lv_at hl 1 rfl) ?_
      refine lv_iload_n hx hb dX6_place_83 rfl (lv_at hl 2 rfl) ?_
      refine lv_iload_n hx hb dX6_place_84 rfl (lv_at hl 3 rfl) ?_
      refine lv_iload hx hb dX6_place_85 (lv_at hl 4 rfl) ?_
      obtain ⟨⟨r25, G25⟩, hc25, hF⟩ := ob_S hF
      refine m_cVi X hS vw_X3_addPlace qw_433 (c_X3_addPlace (by decide) hc25) ⟨rfl, rfl⟩ ⟨Nat.le_of_ble_eq_true rfl, Nat.le_of_ble_eq_true rfl⟩ (rc_22 hE hP) hP rfl hl.1 (rest := []) rfl (Nat.le_of_ble_eq_true rfl) dX6_place_87 (fun H locs hP hS => ?_)
      obtain ⟨e1, e2⟩ := Prod.mk.inj (Option.some.inj hF)
      subst e1
      subst e2
      exact m_iret X hS hP rfl dX6_place_90
    · have hF := ite_T c23 hF
      refine lv_aload_n hx hb dX6_place_58 rfl (lv_at hl 0 rfl) ?_
      refine gf_16_1 hx hb htm hown hE hP (htm _ qw_379) dX6_place_59 ?_
      refine lv_iload_n hx hb dX6_place_62 rfl (lv_at hl 1 rfl) ?_
      obtain ⟨r26, hc26, hF⟩ := ob_S hF
      refine m_cVi X hS vw_X3_placesOf qw_430 (c_X3_placesOf (by decide) hc26) ⟨rfl, rfl⟩ ⟨Nat.le_of_ble_eq_true rfl, Nat.le_of_ble_eq_true rfl⟩ (rc_22 hE hP) hP rfl hl.1 (rest := []) rfl (Nat.le_of_ble_eq_true rfl) dX6_place_63 (fun H locs hP hS => ?_)
      refine lv_iconst (v := 4) hx hb dX6_place_66 (by decide) ?_
      refine lv_icmp_ge (tgt := 74) hx hb dX6_place_67 (by decide) (fun c27 => ?_) (fun c27 => ?_)
      · have hF := ite_T c27 hF
        refine lv_iconst (v := 0) hx hb dX6_place_74 (by decide) ?_
        obtain ⟨u28, hc28, hF⟩ := ob_S hF
        refine m_cSv X hS sw_X6_checkState qw_391 (c_X6_checkState hc28) ⟨rfl, rfl⟩ ⟨Nat.le_of_ble_eq_true rfl, Nat.le_of_ble_eq_true rfl⟩ hP rfl hl.1 (rest := []) rfl (Nat.le_of_ble_eq_true rfl) dX6_place_75 (fun H locs hP hS => ?_)
        refine lv_aload_n hx hb dX6_place_78 rfl (lv_at hl 0 rfl) ?_
        refine gf_16_1 hx hb htm hown hE hP (htm _ qw_379) dX6_place_79 ?_
        refine lv_iload_n hx hb dX6_place_82 rfl (lv_at hl 1 rfl) ?_
        refine lv_iload_n hx hb dX6_place_83 rfl (lv_at hl 2 rfl) ?_
        refine lv_iload_n hx hb dX6_place_84 rfl (lv_at hl 3 rfl) ?_
        refine lv_iload hx hb dX6_place_85 (lv_at hl 4 rfl) ?_
        obtain ⟨⟨r29, G29⟩, hc29, hF⟩ := ob_S hF
        refine m_cVi X hS vw_X3_addPlace qw_433 (c_X3_addPlace (by decide) hc29) ⟨rfl, rfl⟩ ⟨Nat.le_of_ble_eq_true rfl, Nat.le_of_ble_eq_true rfl⟩ (rc_22 hE hP) hP rfl hl.1 (rest := []) rfl (Nat.le_of_ble_eq_true rfl) dX6_place_87 (fun H locs hP hS => ?_)
        obtain ⟨e1, e2⟩ := Prod.mk.inj (Option.some.inj hF)
        subst e1
        subst e2
        exact m_iret X hS hP rfl dX6_place_90
      · have hF := ite_F c27 hF
        refine lv_iconst (v := 1) hx hb dX6_place_70 (by decide) ?_
        refine lv_goto (tgt := 75) hx hb dX6_place_71 (by decide) ?_
        obtain ⟨u30, hc30, hF⟩ := ob_S hF
        refine m_cSv X hS sw_X6_checkState qw_391 (c_X6_checkState hc30) ⟨rfl, rfl⟩ ⟨Nat.le_of_ble_eq_true rfl, Nat.le_of_ble_eq_true rfl⟩ hP rfl hl.1 (rest := []) rfl (Nat.le_of_ble_eq_true rfl) dX6_place_75 (fun H locs hP hS => ?_)
        refine lv_aload_n hx hb dX6_place_78 rfl (lv_at hl 0 rfl) ?_
        refine gf_16_1 hx hb htm hown hE hP (htm _ qw_379) dX6_place_79 ?_
        refine lv_iload_n hx hb dX6_place_82 rfl (lv_at hl 1 rfl) ?_
        refine lv_iload_n hx hb dX6_place_83 rfl (lv_at hl 2 rfl) ?_
        refine lv_iload_n hx hb dX6_place_84 rfl (lv_at hl 3 rfl) ?_
        refine lv_iload hx hb dX6_place_85 (lv_at hl 4 rfl) ?_
        obtain ⟨⟨r31, G31⟩, hc31, hF⟩ := ob_S hF
        refine m_cVi X hS vw_X3_addPlace qw_433 (c_X3_addPlace (by decide) hc31) ⟨rfl, rfl⟩ ⟨Nat.le_of_ble_eq_true rfl, Nat.le_of_ble_eq_true rfl⟩ (rc_22 hE hP) hP rfl hl.1 (rest := []) rfl (Nat.le_of_ble_eq_true rfl) dX6_place_87 (fun H locs hP hS => ?_)
        obtain ⟨e1, e2⟩ := Prod.mk.inj (Option.some.inj hF)
        subst e1
        subst e2
        exact m_iret X hS hP rfl dX6_place_90
def f_X6_ofModule (G V U : MT) (x1 : Int32) (x2 : Int32) : Option (Int32) :=
  (f_X1_hasModule G x1).bind (fun q1_ => (f_X6_checkIndex q1_).bind (fun _ => (f_X6_isWithin x2 0 4).bind (fun q3_ => (f_X6_checkArgument q3_).bind (fun _ => (f_X5_currentOf G V x1).bind (fun q5_ => if x2 = 0 then (some (q5_ + 1)) else (if x2 = 1 then ((f_X1_linesOf G x1 q5_).bind (fun q8_ => some q8_)) else (if x2 = 2 then ((f_X5_runners G V x1 q5_ q5_).bind (fun q10_ => some q10_)) else (if x2 = 3 then ((f_X5_runners G V x1 0 (q5_ - 1)).bind (fun q12_ => some q12_)) else ((f_X5_madeOf G V x1).bind (fun q13_ => some q13_))))))))))
def rm_X6_ofModule : Room := { frames := 3, cells := 0, slots := 0, locals := 67 }
set_option maxRecDepth 20000 in
set_option maxHeartbeats 4000000 in
theorem c_X6_ofModule {l : Launch} {D : va_G} {ad : Nat → Nat → Nat → Nat} {cI cZ cP : ClassId} {A : Nat → Prop} {G V U : MT} {x1 : Int32} {x2 : Int32} {r : Int32}  (hF : f_X6_ofModule G V U x1 x2 = some r) : Met l yX6_ofModule (.code yX6_ofModule cX6_ofModule 4 (some .int) :: WM) rm_X6_ofModule (PcM D ad cI cZ cP A [.ref (ad 2 16 0), .int x1, .int x2] (Pic D ad cI cZ cP 0 G V U)) (QcI A r (Pic D ad cI cZ cP 0 G V U)) 0 0 A := by
  refine m_entry (by decide) (Nat.le_of_ble_eq_true rfl) (fun p e s m below meth c ls X hP hS hl => ?_)
  have X : MX p s m _ meth c cX6_ofModule RX6 4 (some .int) D ad cI cZ cP A := X
  obtain ⟨hx, hb, hml, hown, htm, hr, hlk, hE⟩ := id X
  have hl : lv_has ls 4 [(0, .ref (ad 2 16 0)), (1, .int x1), (2, .int x2)] := hl
  refine lv_aload_n hx hb dX6_ofModule_0 rfl (lv_at hl 0 rfl) ?_
  refine gf_16_0 hx hb htm hown hE hP (htm _ qw_376) dX6_ofModule_1 ?_
  refine lv_iload_n hx hb dX6_ofModule_4 rfl (lv_at hl 1 rfl) ?_
  obtain ⟨r1, hc1, hF⟩ := ob_S hF
  refine m_cVi X hS vw_X1_hasModule qw_396 (c_X1_hasModule (by decide) hc1) ⟨rfl, rfl⟩ ⟨Nat.le_of_ble_eq_true rfl, Nat.le_of_ble_eq_true rfl⟩ (rc_17 hE hP) hP rfl hl.1 (rest := []) rfl (Nat.le_of_ble_eq_true rfl) dX6_ofModule_5 (fun H locs hP hS => ?_)
  obtain ⟨u2, hc2, hF⟩ := ob_S hF
  refine m_cSv X hS sw_X6_checkIndex qw_397 (c_X6_checkIndex hc2) ⟨rfl, rfl⟩ ⟨Nat.le_of_ble_eq_true rfl, Nat.le_of_ble_eq_true rfl⟩ hP rfl hl.1 (rest := []) rfl (Nat.le_of_ble_eq_true rfl) dX6_ofModule_8 (fun H locs hP hS => ?_)
  refine lv_iload_n hx hb dX6_ofModule_11 rfl (lv_at hl 2 rfl) ?_
  refine lv_iconst (v := 0) hx hb dX6_ofModule_12 (by decide) ?_
  refine lv_iconst (v := 4) hx hb dX6_ofModule_13 (by decide) ?_
  obtain ⟨r3, hc3, hF⟩ := ob_S hF
  refine m_cSi X hS sw_X6_isWithin qw_421 (c_X6_isWithin hc3) ⟨rfl, rfl⟩ ⟨Nat.le_of_ble_eq_true rfl, Nat.le_of_ble_eq_true rfl⟩ hP rfl hl.1 (rest := []) rfl (Nat.le_of_ble_eq_true rfl) dX6_ofModule_14 (fun H locs hP hS => ?_)
  obtain ⟨u4, hc4, hF⟩ := ob_S hF
  refine m_cSv X hS sw_X6_checkArgument qw_406 (c_X6_checkArgument hc4) ⟨rfl, rfl⟩ ⟨Nat.le_of_ble_eq_true rfl, Nat.le_of_ble_eq_true rfl⟩ hP rfl hl.1 (rest := []) rfl (Nat.le_of_ble_eq_true rfl) dX6_ofModule_17 (fun H locs hP hS => ?_)
  refine lv_aload_n hx hb dX6_ofModule_20 rfl (lv_at hl 0 rfl) ?_
  refine gf_16_2 hx hb htm hown hE hP (htm _ qw_382) dX6_ofModule_21 ?_
  refine lv_iload_n hx hb dX6_ofModule_24 rfl (lv_at hl 1 rfl) ?_
  obtain ⟨r5, hc5, hF⟩ := ob_S hF
  refine m_cVi X hS vw_X5_currentOf qw_399 (c_X5_currentOf (by decide) hc5) ⟨rfl, rfl⟩ ⟨Nat.le_of_ble_eq_true rfl, Nat.le_of_ble_eq_true rfl⟩ (rc_0 hE hP (by decide)) hP rfl hl.1 (rest := []) rfl (Nat.le_of_ble_eq_true rfl) dX6_ofModule_25 (fun H locs hP hS => ?_)
  refine lv_istore_n (lv' := [(3, .int r5), (0, .ref (ad 2 16 0)), (1, .int x1), (2, .int x2)]) hx hb dX6_ofModule_28 rfl hl (by decide) rfl (fun ls hl => ?_)
  refine lv_iload_n hx hb dX6_ofModule_29 rfl (lv_at hl 3 rfl) ?_
  by_cases c6 : x2 = 0
  · have hF := ite_T c6 hF
    refine lv_tableIn (off := 30) (tgt := 60) hx hb dX6_ofModule_30 (by rw [c6]; decide) (by rw [c6]; decide) (by rw [c6]; rfl) (by decide) ?_
    refine lv_iload_n hx hb dX6_ofModule_60 rfl (lv_at hl 0 rfl) ?_
    refine lv_iconst (v := 1) hx hb dX6_ofModule_61 (by decide) ?_
    refine lv_iadd hx hb dX6_ofModule_62 ?_
    have e1 := Option.some.inj hF
    subst e1
    exact m_iret X hS hP rfl dX6_ofModule_63
  have hF := ite_F c6 hF
  by_cases c7 : x2 = 1
  · have hF := ite_T c7 hF
    refine lv_tableIn (off := 34) (tgt := 64) hx hb dX6_ofModule_30 (by rw [c7]; decide) (by rw [c7]; decide) (by rw [c7]; rfl) (by decide) ?_
    refine lv_aload_n hx hb dX6_ofModule_64 rfl (lv_at hl 1 rfl) ?_
    refine gf_16_0 hx hb htm hown hE hP (htm _ qw_376) dX6_ofModule_65 ?_
    refine lv_iload_n hx hb dX6_ofModule_68 rfl (lv_at hl 2 rfl) ?_
    refine lv_iload_n hx hb dX6_ofModule_69 rfl (lv_at hl 0 rfl) ?_
    obtain ⟨r8, hc8, hF⟩ := ob_S hF
    refine m_cVi X hS vw_X1_linesOf qw_400 (c_X1_linesOf (by decide) hc8) ⟨rfl, rfl⟩ ⟨Nat.le_of_ble_eq_true rfl, Nat.le_of_ble_eq_true rfl⟩ (rc_17 hE hP) hP rfl hl.1 (rest := []) rfl (Nat.le_of_ble_eq_true rfl) dX6_ofModule_70 (fun H locs hP hS => ?_)
    have e1 := Option.some.inj hF
    subst e1
    exact m_iret X hS hP rfl dX6_ofModule_73
  have hF := ite_F c7 hF
  by_cases c9 : x2 = 2
  · have hF := ite_T c9 hF
    refine lv_tableIn (off := 44) (tgt := 74) hx hb dX6_ofModule_30 (by rw [c9]; decide) (by rw [c9]; decide) (by rw [c9]; rfl) (by decide) ?_
    refine lv_aload_n hx hb dX6_ofModule_74 rfl (lv_at hl 1 rfl) ?_
    refine gf_16_2 hx hb htm hown hE hP (htm _ qw_382) dX6_ofModule_75 ?_
    refine lv_iload_n hx hb dX6_ofModule_78 rfl (lv_at hl 2 rfl) ?_
    refine lv_iload_n hx hb dX6_ofModule_79 rfl (lv_at hl 0 rfl) ?_
    refine lv_iload_n hx hb dX6_ofModule_80 rfl (lv_at hl 0 rfl) ?_
    obtain ⟨r10, hc10, hF⟩ := ob_S hF
    refine m_cVi X hS vw_X5_runners qw_437 (c_X5_runners (by decide) hc10) ⟨rfl, rfl⟩ ⟨Nat.le_of_ble_eq_true rfl, Nat.le_of_ble_eq_true rfl⟩ (rc_0 hE hP (by decide)) hP rfl hl.1 (rest := []) rfl (Nat.le_of_ble_eq_true rfl) dX6_ofModule_81 (fun H locs hP hS => ?_)
    have e1 := Option.some.inj hF
    subst e1
    exact m_iret X hS hP rfl dX6_ofModule_84
  have hF := ite_F c9 hF
  by_cases c11 : x2 = 3
  · have hF := ite_T c11 hF
    refine lv_tableIn (off := 55) (tgt := 85) hx hb dX6_ofModule_30 (by rw [c11]; decide) (by rw [c11]; decide) (by rw [c11]; rfl) (by decide) ?_
    refine lv_aload_n hx hb dX6_ofModule_85 rfl (lv_at hl 1 rfl) ?_
    refine gf_16_2 hx hb htm hown hE hP (htm _ qw_382) dX6_ofModule_86 ?_
    refine lv_iload_n hx hb dX6_ofModule_89 rfl (lv_at hl 2 rfl) ?_
    refine lv_iconst (v := 0) hx hb dX6_ofModule_90 (by decide) ?_
    refine lv_iload_n hx hb dX6_ofModule_91 rfl (lv_at hl 0 rfl) ?_
    refine lv_iconst (v := 1) hx hb dX6_ofModule_92 (by decide) ?_
    refine lv_isub hx hb dX6_ofModule_93 ?_
    obtain ⟨r12, hc12, hF⟩ := ob_S hF
    refine m_cVi X hS vw_X5_runners qw_437 (c_X5_runners (by decide) hc12) ⟨rfl, rfl⟩ ⟨Nat.le_of_ble_eq_true rfl, Nat.le_of_ble_eq_true rfl⟩ (rc_0 hE hP (by decide)) hP rfl hl.1 (rest := []) rfl (Nat.le_of_ble_eq_true rfl) dX6_ofModule_94 (fun H locs hP hS => ?_)
    have e1 := Option.some.inj hF
    subst e1
    exact m_iret X hS hP rfl dX6_ofModule_97
  have hF := ite_F c11 hF
  refine lv_tableOut (tgt := 98) hx hb dX6_ofModule_30 (by have hc6 := lv_neT c6 (a := 0) rfl; have hc7 := lv_neT c7 (a := 1) rfl; have hc9 := lv_neT c9 (a := 2) rfl; have hc11 := lv_neT c11 (a := 3) rfl; omega) (by decide) ?_
  refine lv_aload_n hx hb dX6_ofModule_98 rfl (lv_at hl 1 rfl) ?_
  refine gf_16_2 hx hb htm hown hE hP (htm _ qw_382) dX6_ofModule_99 ?_
  refine lv_iload_n hx hb dX6_ofModule_102 rfl (lv_at hl 2 rfl) ?_
  obtain ⟨r13, hc13, hF⟩ := ob_S hF
  refine m_cVi X hS vw_X5_madeOf qw_440 (c_X5_madeOf (by decide) hc13) ⟨rfl, rfl⟩ ⟨Nat.le_of_ble_eq_true rfl, Nat.le_of_ble_eq_true rfl⟩ (rc_0 hE hP (by decide)) hP rfl hl.1 (rest := []) rfl (Nat.le_of_ble_eq_true rfl) dX6_ofModule_103 (fun H locs hP hS => ?_)
  have e1 := Option.some.inj hF
  subst e1
  exact m_iret X hS hP rfl dX6_ofModule_106
