theorem vw_X6_local : VW RX6 yX6_local cX6_local 4 (some .int) 2 := ⟨qw_537, qw_538, qw_12, qw_490, ⟨rfl, by decide, by decide, by decide +kernel⟩⟩
theorem vw_X6_mail : VW RX6 yX6_mail cX6_mail 5 (some .int) 3 := ⟨qw_540, qw_541, qw_12, qw_493, ⟨rfl, by decide, by decide, by decide +kernel⟩⟩
theorem vw_X6_ofSupervisor : VW RX6 yX6_ofSupervisor cX6_ofSupervisor 4 (some .int) 2 := ⟨qw_543, qw_544, qw_12, qw_501, ⟨rfl, by decide, by decide, by decide +kernel⟩⟩
theorem vw_X6_named : VW RX6 yX6_named cX6_named 2 (some .int) 1 := ⟨qw_566, qw_567, qw_12, qw_503, ⟨rfl, by decide, by decide, by decide +kernel⟩⟩
theorem vw_X6_many : VW RX6 yX6_many cX6_many 2 (some .int) 1 := ⟨qw_554, qw_555, qw_12, qw_520, ⟨rfl, by decide, by decide, by decide +kernel⟩⟩
theorem vw_X6_passedOver : VW RX6 yX6_passedOver cX6_passedOver 4 (some .int) 2 := ⟨qw_549, qw_550, qw_12, qw_531, ⟨rfl, by decide, by decide, by decide +kernel⟩⟩
def f_X6_local (G V U : MT) (x1 : Int32) (x2 : Int32) : Option (Int32) :=
  (f_X6_checkProcess G V U x1).bind (fun q1_ => oc q1_ (none) (fun e1 => if e1 < 24 then ((f_X6_isWithin x2 0 3).bind (fun q2_ => (f_X6_checkIndex q2_).bind (fun _ => (f_X2_localAt V e1 x2).bind (fun q4_ => some q4_)))) else none))
def rm_X6_local : Room := { frames := 2, cells := 0, slots := 0, locals := 43 }
set_option maxRecDepth 20000 in
set_option maxHeartbeats 4000000 in
theorem c_X6_local {l : Launch} {D : va_G} {ad : Nat → Nat → Nat → Nat} {cI cZ cP : ClassId} {A : Nat → Prop} {G V U : MT} {x1 : Int32} {x2 : Int32} {r : Int32}  (hF : f_X6_local G V U x1 x2 = some r) : Met l yX6_local (.code yX6_local cX6_local 4 (some .int) :: WM) rm_X6_local (PcM D ad cI cZ cP A [.ref (ad 2 16 0), .int x1, .int x2] (Pic D ad cI cZ cP 0 G V U)) (QcI A r (Pic D ad cI cZ cP 0 G V U)) 0 0 A := by
  refine m_entry (by decide) (Nat.le_of_ble_eq_true rfl) (fun p e s m below meth c ls X hP hS hl => ?_)
  have X : MX p s m _ meth c cX6_local RX6 4 (some .int) D ad cI cZ cP A := X
  obtain ⟨hx, hb, hml, hown, htm, hr, hlk, hE⟩ := id X
  have hl : lv_has ls 4 [(0, .ref (ad 2 16 0)), (1, .int x1), (2, .int x2)] := hl
  refine lv_aload_n hx hb dX6_local_0 rfl (lv_at hl 0 rfl) ?_
  refine lv_iload_n hx hb dX6_local_1 rfl (lv_at hl 1 rfl) ?_
  obtain ⟨r1, hc1, hF⟩ := ob_S hF
  refine m_cVq X hS vw_X6_checkProcess qw_462 (c_X6_checkProcess hc1) ⟨rfl, rfl⟩ ⟨Nat.le_of_ble_eq_true rfl, Nat.le_of_ble_eq_true rfl⟩ (rc_16 hE hP) hP rfl hl.1 (rest := []) rfl (Nat.le_of_ble_eq_true rfl) dX6_local_2 (fun H locs hP hS => ?_)
  rcases r1 with _ | e1
  · have hF := oc_N hF
    exact ns_S hF
  · obtain ⟨he1, hF⟩ := ite_S (oc_J hF)
    refine lv_astore_n (lv' := [(3, .ref (ad 0 7 e1)), (0, .ref (ad 2 16 0)), (1, .int x1), (2, .int x2)]) hx hb dX6_local_5 rfl hl (by decide) rfl (fun ls hl => ?_)
    refine lv_iload_n hx hb dX6_local_6 rfl (lv_at hl 3 rfl) ?_
    refine lv_iconst (v := 0) hx hb dX6_local_7 (by decide) ?_
    refine lv_iconst (v := 3) hx hb dX6_local_8 (by decide) ?_
    obtain ⟨r2, hc2, hF⟩ := ob_S hF
    refine m_cSi X hS sw_X6_isWithin qw_421 (c_X6_isWithin hc2) ⟨rfl, rfl⟩ ⟨Nat.le_of_ble_eq_true rfl, Nat.le_of_ble_eq_true rfl⟩ hP rfl hl.1 (rest := []) rfl (Nat.le_of_ble_eq_true rfl) dX6_local_9 (fun H locs hP hS => ?_)
    obtain ⟨u3, hc3, hF⟩ := ob_S hF
    refine m_cSv X hS sw_X6_checkIndex qw_397 (c_X6_checkIndex hc3) ⟨rfl, rfl⟩ ⟨Nat.le_of_ble_eq_true rfl, Nat.le_of_ble_eq_true rfl⟩ hP rfl hl.1 (rest := []) rfl (Nat.le_of_ble_eq_true rfl) dX6_local_12 (fun H locs hP hS => ?_)
    refine lv_aload_n hx hb dX6_local_15 rfl (lv_at hl 0 rfl) ?_
    refine lv_iload_n hx hb dX6_local_16 rfl (lv_at hl 3 rfl) ?_
    obtain ⟨r4, hc4, hF⟩ := ob_S hF
    refine m_cVi X hS vw_X2_localAt qw_489 (c_X2_localAt (by decide) he1 hc4) ⟨rfl, rfl⟩ ⟨Nat.le_of_ble_eq_true rfl, Nat.le_of_ble_eq_true rfl⟩ (rc_7 hE hP (by decide) he1) hP rfl hl.1 (rest := []) rfl (Nat.le_of_ble_eq_true rfl) dX6_local_17 (fun H locs hP hS => ?_)
    have e1 := Option.some.inj hF
    subst e1
    exact m_iret X hS hP rfl dX6_local_20
def f_X6_mail (G V U : MT) (x1 : Int32) (x2 : Int32) (x3 : Int32) : Option (Int32) :=
  (f_X6_checkProcess G V U x1).bind (fun q1_ => oc q1_ (none) (fun e1 => if e1 < 24 then ((f_X6_isWithin x2 0 ((V 10 e1 2) - 1)).bind (fun q2_ => (f_X6_checkIndex q2_).bind (fun _ => (f_X6_isWithin x3 0 1).bind (fun q4_ => (f_X6_checkArgument q4_).bind (fun _ => if x2 < 0 then (some (-1)) else (if x2 < 8 then (if x3 = 0 then (if ¬ (x2 < 0 ∨ 8 ≤ Int32.toNatClampNeg x2) then (some (V 11 e1 (Int32.toNatClampNeg x2))) else none) else (if ¬ (x2 < 0 ∨ 8 ≤ Int32.toNatClampNeg x2) then (some (V 12 e1 (Int32.toNatClampNeg x2))) else none)) else (some (-1)))))))) else none))
def rm_X6_mail : Room := { frames := 2, cells := 0, slots := 0, locals := 43 }
set_option maxRecDepth 20000 in
set_option maxHeartbeats 4000000 in
theorem c_X6_mail {l : Launch} {D : va_G} {ad : Nat → Nat → Nat → Nat} {cI cZ cP : ClassId} {A : Nat → Prop} {G V U : MT} {x1 : Int32} {x2 : Int32} {x3 : Int32} {r : Int32}  (hF : f_X6_mail G V U x1 x2 x3 = some r) : Met l yX6_mail (.code yX6_mail cX6_mail 5 (some .int) :: WM) rm_X6_mail (PcM D ad cI cZ cP A [.ref (ad 2 16 0), .int x1, .int x2, .int x3] (Pic D ad cI cZ cP 0 G V U)) (QcI A r (Pic D ad cI cZ cP 0 G V U)) 0 0 A := by
  refine m_entry (by decide) (Nat.le_of_ble_eq_true rfl) (fun p e s m below meth c ls X hP hS hl => ?_)
  have X : MX p s m _ meth c cX6_mail RX6 5 (some .int) D ad cI cZ cP A := X
  obtain ⟨hx, hb, hml, hown, htm, hr, hlk, hE⟩ := id X
  have hl : lv_has ls 5 [(0, .ref (ad 2 16 0)), (1, .int x1), (2, .int x2), (3, .int x3)] := hl
  refine lv_aload_n hx hb dX6_mail_0 rfl (lv_at hl 0 rfl) ?_
  refine lv_iload_n hx hb dX6_mail_1 rfl (lv_at hl 1 rfl) ?_
  obtain ⟨r1, hc1, hF⟩ := ob_S hF
  refine m_cVq X hS vw_X6_checkProcess qw_462 (c_X6_checkProcess hc1) ⟨rfl, rfl⟩ ⟨Nat.le_of_ble_eq_true rfl, Nat.le_of_ble_eq_true rfl⟩ (rc_16 hE hP) hP rfl hl.1 (rest := []) rfl (Nat.le_of_ble_eq_true rfl) dX6_mail_2 (fun H locs hP hS => ?_)
  rcases r1 with _ | e1
  · have hF := oc_N hF
    exact ns_S hF
  · obtain ⟨he1, hF⟩ := ite_S (oc_J hF)
    refine gf_7_17 hx hb htm hown hE hP (by decide) he1 (htm _ qw_477) dX6_mail_5 ?_
    refine lv_astore (lv' := [(4, .ref (ad 0 10 e1)), (0, .ref (ad 2 16 0)), (1, .int x1), (2, .int x2), (3, .int x3)]) hx hb dX6_mail_8 hl (by decide) rfl (fun ls hl => ?_)
    refine lv_iload_n hx hb dX6_mail_10 rfl (lv_at hl 3 rfl) ?_
    refine lv_iconst (v := 0) hx hb dX6_mail_11 (by decide) ?_
    refine lv_aload hx hb dX6_mail_12 (lv_at hl 0 rfl) ?_
    refine gf_10_2 hx hb htm hown hE hP (by decide) he1 (htm _ qw_478) dX6_mail_14 ?_
    refine lv_iconst (v := 1) hx hb dX6_mail_17 (by decide) ?_
    refine lv_isub hx hb dX6_mail_18 ?_
    obtain ⟨r2, hc2, hF⟩ := ob_S hF
    refine m_cSi X hS sw_X6_isWithin qw_421 (c_X6_isWithin hc2) ⟨rfl, rfl⟩ ⟨Nat.le_of_ble_eq_true rfl, Nat.le_of_ble_eq_true rfl⟩ hP rfl hl.1 (rest := []) rfl (Nat.le_of_ble_eq_true rfl) dX6_mail_19 (fun H locs hP hS => ?_)
    obtain ⟨u3, hc3, hF⟩ := ob_S hF
    refine m_cSv X hS sw_X6_checkIndex qw_397 (c_X6_checkIndex hc3) ⟨rfl, rfl⟩ ⟨Nat.le_of_ble_eq_true rfl, Nat.le_of_ble_eq_true rfl⟩ hP rfl hl.1 (rest := []) rfl (Nat.le_of_ble_eq_true rfl) dX6_mail_22 (fun H locs hP hS => ?_)
    refine lv_iload_n hx hb dX6_mail_25 rfl (lv_at hl 4 rfl) ?_
    refine lv_iconst (v := 0) hx hb dX6_mail_26 (by decide) ?_
    refine lv_iconst (v := 1) hx hb dX6_mail_27 (by decide) ?_
    obtain ⟨r4, hc4, hF⟩ := ob_S hF
    refine m_cSi X hS sw_X6_isWithin qw_421 (c_X6_isWithin hc4) ⟨rfl, rfl⟩ ⟨Nat.le_of_ble_eq_true rfl, Nat.le_of_ble_eq_true rfl⟩ hP rfl hl.1 (rest := []) rfl (Nat.le_of_ble_eq_true rfl) dX6_mail_28 (fun H locs hP hS => ?_)
    obtain ⟨u5, hc5, hF⟩ := ob_S hF
    refine m_cSv X hS sw_X6_checkArgument qw_406 (c_X6_checkArgument hc5) ⟨rfl, rfl⟩ ⟨Nat.le_of_ble_eq_true rfl, Nat.le_of_ble_eq_true rfl⟩ hP rfl hl.1 (rest := []) rfl (Nat.le_of_ble_eq_true rfl) dX6_mail_31 (fun H locs hP hS => ?_)
    refine lv_iload_n hx hb dX6_mail_34 rfl (lv_at hl 3 rfl) ?_
    refine lv_if_lt (tgt := 44) hx hb dX6_mail_35 (by decide) (fun c6 => ?_) (fun c6 => ?_)
    · have hF := ite_T c6 hF
      refine lv_iconst (v := (-1)) hx hb dX6_mail_44 (by decide) ?_
      have e1 := Option.some.inj hF
      subst e1
      exact m_iret X hS hP rfl dX6_mail_45
    · have hF := ite_F c6 hF
      refine lv_iload_n hx hb dX6_mail_38 rfl (lv_at hl 3 rfl) ?_
      refine lv_bipush (v := 8) hx hb dX6_mail_39 (by decide) ?_
      refine lv_icmp_lt (tgt := 46) hx hb dX6_mail_41 (by decide) (fun c7 => ?_) (fun c7 => ?_)
      · have hF := ite_T c7 hF
        refine lv_iload_n hx hb dX6_mail_46 rfl (lv_at hl 4 rfl) ?_
        refine lv_if_ne (tgt := 60) hx hb dX6_mail_47 (by decide) (fun c8 => ?_) (fun c8 => ?_)
        · have hF := ite_F c8 hF
          refine lv_aload hx hb dX6_mail_60 (lv_at hl 0 rfl) ?_
          refine gf_10_1 hx hb htm hown hE hP (by decide) he1 (htm _ qw_492) dX6_mail_62 ?_
          refine lv_iload_n hx hb dX6_mail_65 rfl (lv_at hl 3 rfl) ?_
          obtain ⟨hn9, hF⟩ := ite_S hF
          refine al_12 hx hb htm hown hE hP (by decide) he1 hn9 dX6_mail_66 ?_
          have e1 := Option.some.inj hF
          subst e1
          exact m_iret X hS hP rfl dX6_mail_67
        · have hF := ite_T c8 hF
          refine lv_aload hx hb dX6_mail_50 (lv_at hl 0 rfl) ?_
          refine gf_10_0 hx hb htm hown hE hP (by decide) he1 (htm _ qw_491) dX6_mail_52 ?_
          refine lv_iload_n hx hb dX6_mail_55 rfl (lv_at hl 3 rfl) ?_
          obtain ⟨hn10, hF⟩ := ite_S hF
          refine al_11 hx hb htm hown hE hP (by decide) he1 hn10 dX6_mail_56 ?_
          refine lv_goto (tgt := 67) hx hb dX6_mail_57 (by decide) ?_
          have e1 := Option.some.inj hF
          subst e1
          exact m_iret X hS hP rfl dX6_mail_67
      · have hF := ite_F c7 hF
        refine lv_iconst (v := (-1)) hx hb dX6_mail_44 (by decide) ?_
        have e1 := Option.some.inj hF
        subst e1
        exact m_iret X hS hP rfl dX6_mail_45
def f_X6_ofSupervisor (G V U : MT) (x1 : Int32) (x2 : Int32) : Option (Int32) :=
  (f_X6_checkProcess G V U x1).bind (fun q1_ => oc q1_ (none) (fun e1 => if e1 < 24 then ((f_X6_isWithin x2 0 6).bind (fun q2_ => (f_X6_checkArgument q2_).bind (fun _ => (f_X2_isSupervisor V e1).bind (fun q4_ => if q4_ = 0 then (some (-1)) else (if x2 = 0 then (some (V 7 e1 3)) else (if x2 = 5 then ((f_X5_restartsEver G V e1).bind (fun q8_ => some q8_)) else (if x2 = 6 then ((f_X5_restartsLately G V e1).bind (fun q10_ => some q10_)) else ((f_X6_isWithin x2 1 4).bind (fun q11_ => if q11_ = 0 then (some (-1)) else (if ¬ (x2 - 1 < 0 ∨ 4 ≤ Int32.toNatClampNeg (x2 - 1)) then (some (V 9 e1 (Int32.toNatClampNeg (x2 - 1)))) else none)))))))))) else none))
def rm_X6_ofSupervisor : Room := { frames := 2, cells := 0, slots := 0, locals := 45 }
set_option maxRecDepth 20000 in
set_option maxHeartbeats 4000000 in
theorem c_X6_ofSupervisor {l : Launch} {D : va_G} {ad : Nat → Nat → Nat → Nat} {cI cZ cP : ClassId} {A : Nat → Prop} {G V U : MT} {x1 : Int32} {x2 : Int32} {r : Int32}  (hF : f_X6_ofSupervisor G V U x1 x2 = some r) : Met l yX6_ofSupervisor (.code yX6_ofSupervisor cX6_ofSupervisor 4 (some .int) :: WM) rm_X6_ofSupervisor (PcM D ad cI cZ cP A [.ref (ad 2 16 0), .int x1, .int x2] (Pic D ad cI cZ cP 0 G V U)) (QcI A r (Pic D ad cI cZ cP 0 G V U)) 0 0 A := by
  refine m_entry (by decide) (Nat.le_of_ble_eq_true rfl) (fun p e s m below meth c ls X hP hS hl => ?_)
  have X : MX p s m _ meth c cX6_ofSupervisor RX6 4 (some .int) D ad cI cZ cP A := X
  obtain ⟨hx, hb, hml, hown, htm, hr, hlk, hE⟩ := id X
  have hl : lv_has ls 4 [(0, .ref (ad 2 16 0)), (1, .int x1), (2, .int x2)] := hl
  refine lv_aload_n hx hb dX6_ofSupervisor_0 rfl (lv_at hl 0 rfl) ?_
  refine lv_iload_n hx hb dX6_ofSupervisor_1 rfl (lv_at hl 1 rfl) ?_
  obtain ⟨r1, hc1, hF⟩ := ob_S hF
  refine m_cVq X hS vw_X6_checkProcess qw_462 (c_X6_checkProcess hc1) ⟨rfl, rfl⟩ ⟨Nat.le_of_ble_eq_true rfl, Nat.le_of_ble_eq_true rfl⟩ (rc_16 hE hP) hP rfl hl.1 (rest := []) rfl (Nat.le_of_ble_eq_true rfl) dX6_ofSupervisor_2 (fun H locs hP hS => ?_)
  rcases r1 with _ | e1
  · have hF := oc_N hF
    exact ns_S hF
  · obtain ⟨he1, hF⟩ := ite_S (oc_J hF)
    refine lv_astore_n (lv' := [(3, .ref (ad 0 7 e1)), (0, .ref (ad 2 16 0)), (1, .int x1), (2, .int x2)]) hx hb dX6_ofSupervisor_5 rfl hl (by decide) rfl (fun ls hl => ?_)
    refine lv_iload_n hx hb dX6_ofSupervisor_6 rfl (lv_at hl 3 rfl) ?_
    refine lv_iconst (v := 0) hx hb dX6_ofSupervisor_7 (by decide) ?_
    refine lv_bipush (v := 6) hx hb dX6_ofSupervisor_8 (by decide) ?_
    obtain ⟨r2, hc2, hF⟩ := ob_S hF
    refine m_cSi X hS sw_X6_isWithin qw_421 (c_X6_isWithin hc2) ⟨rfl, rfl⟩ ⟨Nat.le_of_ble_eq_true rfl, Nat.le_of_ble_eq_true rfl⟩ hP rfl hl.1 (rest := []) rfl (Nat.le_of_ble_eq_true rfl) dX6_ofSupervisor_10 (fun H locs hP hS => ?_)
    obtain ⟨u3, hc3, hF⟩ := ob_S hF
    refine m_cSv X hS sw_X6_checkArgument qw_406 (c_X6_checkArgument hc3) ⟨rfl, rfl⟩ ⟨Nat.le_of_ble_eq_true rfl, Nat.le_of_ble_eq_true rfl⟩ hP rfl hl.1 (rest := []) rfl (Nat.le_of_ble_eq_true rfl) dX6_ofSupervisor_13 (fun H locs hP hS => ?_)
    refine lv_aload_n hx hb dX6_ofSupervisor_16 rfl (lv_at hl 0 rfl) ?_
    obtain ⟨r4, hc4, hF⟩ := ob_S hF
    refine m_cVi X hS vw_X2_isSupervisor qw_496 (c_X2_isSupervisor (by decide) he1 hc4) ⟨rfl, rfl⟩ ⟨Nat.le_of_ble_eq_true rfl, Nat.le_of_ble_eq_true rfl⟩ (rc_7 hE hP (by decide) he1) hP rfl hl.1 (rest := []) rfl (Nat.le_of_ble_eq_true rfl) dX6_ofSupervisor_17 (fun H locs hP hS => ?_)
    refine lv_if_ne (tgt := 25) hx hb dX6_ofSupervisor_20 (by decide) (fun c5 => ?_) (fun c5 => ?_)
    · have hF := ite_F c5 hF
      refine lv_iload_n hx hb dX6_ofSupervisor_25 rfl (lv_at hl 3 rfl) ?_
      by_cases c6 : x2 = 0
      · have hF := ite_T c6 hF
        refine lv_lookup (off := 34) (tgt := 60) hx hb dX6_ofSupervisor_26 (by decide) (by rw [c6]; decide) (by decide) ?_
        refine lv_aload_n hx hb dX6_ofSupervisor_60 rfl (lv_at hl 0 rfl) ?_
        refine gf_7_3 hx hb htm hown hE hP (by decide) he1 (htm _ qw_494) dX6_ofSupervisor_61 ?_
        have e1 := Option.some.inj hF
        subst e1
        exact m_iret X hS hP rfl dX6_ofSupervisor_64
      have hF := ite_F c6 hF
      by_cases c7 : x2 = 5
      · have hF := ite_T c7 hF
        refine lv_lookup (off := 39) (tgt := 65) hx hb dX6_ofSupervisor_26 (by decide) (by rw [c7]; decide) (by decide) ?_
        refine lv_aload_n hx hb dX6_ofSupervisor_65 rfl (lv_at hl 1 rfl) ?_
        refine gf_16_2 hx hb htm hown hE hP (htm _ qw_382) dX6_ofSupervisor_66 ?_
        refine lv_aload_n hx hb dX6_ofSupervisor_69 rfl (lv_at hl 0 rfl) ?_
        obtain ⟨r8, hc8, hF⟩ := ob_S hF
        refine m_cVi X hS vw_X5_restartsEver qw_497 (c_X5_restartsEver (by decide) he1 hc8) ⟨rfl, rfl⟩ ⟨Nat.le_of_ble_eq_true rfl, Nat.le_of_ble_eq_true rfl⟩ (rc_0 hE hP (by decide)) hP rfl hl.1 (rest := []) rfl (Nat.le_of_ble_eq_true rfl) dX6_ofSupervisor_70 (fun H locs hP hS => ?_)
        have e1 := Option.some.inj hF
        subst e1
        exact m_iret X hS hP rfl dX6_ofSupervisor_73
      have hF := ite_F c7 hF
      by_cases c9 : x2 = 6
      · have hF := ite_T c9 hF
        refine lv_lookup (off := 48) (tgt := 74) hx hb dX6_ofSupervisor_26 (by decide) (by rw [c9]; decide) (by decide) ?_
        refine lv_aload_n hx hb dX6_ofSupervisor_74 rfl (lv_at hl 1 rfl) ?_
        refine gf_16_2 hx hb htm hown hE hP (htm _ qw_382) dX6_ofSupervisor_75 ?_
        refine lv_aload_n hx hb dX6_ofSupervisor_78 rfl (lv_at hl 0 rfl) ?_
        obtain ⟨r10, hc10, hF⟩ := ob_S hF
        refine m_cVi X hS vw_X5_restartsLately qw_500 (c_X5_restartsLately (by decide) he1 hc10) ⟨rfl, rfl⟩ ⟨Nat.le_of_ble_eq_true rfl, Nat.le_of_ble_eq_true rfl⟩ (rc_0 hE hP (by decide)) hP rfl hl.1 (rest := []) rfl (Nat.le_of_ble_eq_true rfl) dX6_ofSupervisor_79 (fun H locs hP hS => ?_)
        have e1 := Option.some.inj hF
        subst e1
        exact m_iret X hS hP rfl dX6_ofSupervisor_82
      have hF := ite_F c9 hF
      refine lv_lookup (off := 57) (tgt := 83) hx hb dX6_ofSupervisor_26 (by decide) (((lv_osw c6 (a := 0) rfl).trans <| (lv_osw c7 (a := 5) rfl).trans <| (lv_osw c9 (a := 6) rfl).trans <| rfl)) (by decide) ?_
      refine lv_iload_n hx hb dX6_ofSupervisor_83 rfl (lv_at hl 3 rfl) ?_
      refine lv_iconst (v := 1) hx hb dX6_ofSupervisor_84 (by decide) ?_
      refine lv_iconst (v := 4) hx hb dX6_ofSupervisor_85 (by decide) ?_
      obtain ⟨r11, hc11, hF⟩ := ob_S hF
      refine m_cSi X hS sw_X6_isWithin qw_421 (c_X6_isWithin hc11) ⟨rfl, rfl⟩ ⟨Nat.le_of_ble_eq_true rfl, Nat.le_of_ble_eq_true rfl⟩ hP rfl hl.1 (rest := []) rfl (Nat.le_of_ble_eq_true rfl) dX6_ofSupervisor_86 (fun H locs hP hS => ?_)
      refine lv_if_eq (tgt := 103) hx hb dX6_ofSupervisor_89 (by decide) (fun c12 => ?_) (fun c12 => ?_)
      · have hF := ite_T c12 hF
        refine lv_iconst (v := (-1)) hx hb dX6_ofSupervisor_103 (by decide) ?_
        have e1 := Option.some.inj hF
        subst e1
        exact m_iret X hS hP rfl dX6_ofSupervisor_104
      · have hF := ite_F c12 hF
        refine lv_aload_n hx hb dX6_ofSupervisor_92 rfl (lv_at hl 0 rfl) ?_
        refine gf_7_16 hx hb htm hown hE hP (by decide) he1 (htm _ qw_495) dX6_ofSupervisor_93 ?_
        refine lv_iload_n hx hb dX6_ofSupervisor_96 rfl (lv_at hl 3 rfl) ?_
        refine lv_iconst (v := 1) hx hb dX6_ofSupervisor_97 (by decide) ?_
        refine lv_isub hx hb dX6_ofSupervisor_98 ?_
        obtain ⟨hn13, hF⟩ := ite_S hF
        refine al_9 hx hb htm hown hE hP (by decide) he1 hn13 dX6_ofSupervisor_99 ?_
        refine lv_goto (tgt := 104) hx hb dX6_ofSupervisor_100 (by decide) ?_
        have e1 := Option.some.inj hF
        subst e1
        exact m_iret X hS hP rfl dX6_ofSupervisor_104
    · have hF := ite_T c5 hF
      refine lv_iconst (v := (-1)) hx hb dX6_ofSupervisor_23 (by decide) ?_
      have e1 := Option.some.inj hF
      subst e1
      exact m_iret X hS hP rfl dX6_ofSupervisor_24
def f_X6_named (G V U : MT) (x1 : Int32) : Option (Int32) :=
  (f_X6_isWithin x1 0 3).bind (fun q1_ => (f_X6_checkIndex q1_).bind (fun _ => (f_X5_holderOf G V x1).bind (fun q3_ => some q3_)))
def rm_X6_named : Room := { frames := 2, cells := 0, slots := 0, locals := 43 }
set_option maxRecDepth 20000 in
set_option maxHeartbeats 4000000 in
theorem c_X6_named {l : Launch} {D : va_G} {ad : Nat → Nat → Nat → Nat} {cI cZ cP : ClassId} {A : Nat → Prop} {G V U : MT} {x1 : Int32} {r : Int32}  (hF : f_X6_named G V U x1 = some r) : Met l yX6_named (.code yX6_named cX6_named 2 (some .int) :: WM) rm_X6_named (PcM D ad cI cZ cP A [.ref (ad 2 16 0), .int x1] (Pic D ad cI cZ cP 0 G V U)) (QcI A r (Pic D ad cI cZ cP 0 G V U)) 0 0 A := by
  refine m_entry (by decide) (Nat.le_of_ble_eq_true rfl) (fun p e s m below meth c ls X hP hS hl => ?_)
  have X : MX p s m _ meth c cX6_named RX6 2 (some .int) D ad cI cZ cP A := X
  obtain ⟨hx, hb, hml, hown, htm, hr, hlk, hE⟩ := id X
  have hl : lv_has ls 2 [(0, .ref (ad 2 16 0)), (1, .int x1)] := hl
  refine lv_iload_n hx hb dX6_named_0 rfl (lv_at hl 1 rfl) ?_
  refine lv_iconst (v := 0) hx hb dX6_named_1 (by decide) ?_
  refine lv_iconst (v := 3) hx hb dX6_named_2 (by decide) ?_
  obtain ⟨r1, hc1, hF⟩ := ob_S hF
  refine m_cSi X hS sw_X6_isWithin qw_421 (c_X6_isWithin hc1) ⟨rfl, rfl⟩ ⟨Nat.le_of_ble_eq_true rfl, Nat.le_of_ble_eq_true rfl⟩ hP rfl hl.1 (rest := []) rfl (Nat.le_of_ble_eq_true rfl) dX6_named_3 (fun H locs hP hS => ?_)
  obtain ⟨u2, hc2, hF⟩ := ob_S hF
  refine m_cSv X hS sw_X6_checkIndex qw_397 (c_X6_checkIndex hc2) ⟨rfl, rfl⟩ ⟨Nat.le_of_ble_eq_true rfl, Nat.le_of_ble_eq_true rfl⟩ hP rfl hl.1 (rest := []) rfl (Nat.le_of_ble_eq_true rfl) dX6_named_6 (fun H locs hP hS => ?_)
  refine lv_aload_n hx hb dX6_named_9 rfl (lv_at hl 0 rfl) ?_
  refine gf_16_2 hx hb htm hown hE hP (htm _ qw_382) dX6_named_10 ?_
  refine lv_iload_n hx hb dX6_named_13 rfl (lv_at hl 1 rfl) ?_
  obtain ⟨r3, hc3, hF⟩ := ob_S hF
  refine m_cVi X hS vw_X5_holderOf qw_502 (c_X5_holderOf (by decide) hc3) ⟨rfl, rfl⟩ ⟨Nat.le_of_ble_eq_true rfl, Nat.le_of_ble_eq_true rfl⟩ (rc_0 hE hP (by decide)) hP rfl hl.1 (rest := []) rfl (Nat.le_of_ble_eq_true rfl) dX6_named_14 (fun H locs hP hS => ?_)
  have e1 := Option.some.inj hF
  subst e1
  exact m_iret X hS hP rfl dX6_named_17
def f_X6_many (G V U : MT) (x1 : Int32) : Option (Int32) :=
  (f_X6_isWithin x1 0 12).bind (fun q1_ => (f_X6_checkArgument q1_).bind (fun _ => if x1 = 0 then (some (G 17 0 0)) else (if x1 = 1 then (some (G 22 0 0)) else (if x1 = 2 then (some (V 0 0 5)) else (if x1 = 3 then ((f_X5_withStatus G V 0).bind (fun q7_ => some q7_)) else (if x1 = 4 then ((f_X5_withStatus G V 1).bind (fun q9_ => some q9_)) else (if x1 = 5 then ((f_X5_withStatus G V 2).bind (fun q11_ => some q11_)) else (if x1 = 6 then ((f_X5_supervisors G V).bind (fun q13_ => some q13_)) else (if x1 = 7 then ((f_X5_linkCount G V).bind (fun q15_ => some q15_)) else (if x1 = 8 then ((f_X5_mailCount G V).bind (fun q17_ => some q17_)) else (if x1 = 9 then (some (V 0 0 7)) else (if x1 = 10 then (some (V 0 0 6)) else (if x1 = 11 then (some (V 0 0 8)) else (some (V 0 0 9)))))))))))))))
def rm_X6_many : Room := { frames := 2, cells := 0, slots := 0, locals := 42 }
set_option maxRecDepth 20000 in
set_option maxHeartbeats 4000000 in
theorem c_X6_many {l : Launch} {D : va_G} {ad : Nat → Nat → Nat → Nat} {cI cZ cP : ClassId} {A : Nat → Prop} {G V U : MT} {x1 : Int32} {r : Int32}  (hF : f_X6_many G V U x1 = some r) : Met l yX6_many (.code yX6_many cX6_many 2 (some .int) :: WM) rm_X6_many (PcM D ad cI cZ cP A [.ref (ad 2 16 0), .int x1] (Pic D ad cI cZ cP 0 G V U)) (QcI A r (Pic D ad cI cZ cP 0 G V U)) 0 0 A := by
  refine m_entry (by decide) (Nat.le_of_ble_eq_true rfl) (fun p e s m below meth c ls X hP hS hl => ?_)
  have X : MX p s m _ meth c cX6_many RX6 2 (some .int) D ad cI cZ cP A := X
  obtain ⟨hx, hb, hml, hown, htm, hr, hlk, hE⟩ := id X
  have hl : lv_has ls 2 [(0, .ref (ad 2 16 0)), (1, .int x1)] := hl
  refine lv_iload_n hx hb dX6_many_0 rfl (lv_at hl 1 rfl) ?_
  refine lv_iconst (v := 0) hx hb dX6_many_1 (by decide) ?_
  refine lv_bipush (v := 12) hx hb dX6_many_2 (by decide) ?_
  obtain ⟨r1, hc1, hF⟩ := ob_S hF
  refine m_cSi X hS sw_X6_isWithin qw_421 (c_X6_isWithin hc1) ⟨rfl, rfl⟩ ⟨Nat.le_of_ble_eq_true rfl, Nat.le_of_ble_eq_true rfl⟩ hP rfl hl.1 (rest := []) rfl (Nat.le_of_ble_eq_true rfl) dX6_many_4 (fun H locs hP hS => ?_)
  obtain ⟨u2, hc2, hF⟩ := ob_S hF
  refine m_cSv X hS sw_X6_checkArgument qw_406 (c_X6_checkArgument hc2) ⟨rfl, rfl⟩ ⟨Nat.le_of_ble_eq_true rfl, Nat.le_of_ble_eq_true rfl⟩ hP rfl hl.1 (rest := []) rfl (Nat.le_of_ble_eq_true rfl) dX6_many_7 (fun H locs hP hS => ?_)
  refine lv_iload_n hx hb dX6_many_10 rfl (lv_at hl 1 rfl) ?_
  by_cases c3 : x1 = 0
  · have hF := ite_T c3 hF
    refine lv_tableIn (off := 61) (tgt := 72) hx hb dX6_many_11 (by rw [c3]; decide) (by rw [c3]; decide) (by rw [c3]; rfl) (by decide) ?_
    refine lv_aload_n hx hb dX6_many_72 rfl (lv_at hl 0 rfl) ?_
    refine gf_16_0 hx hb htm hown hE hP (htm _ qw_376) dX6_many_73 ?_
    refine gf_17_0 hx hb htm hown hE hP (htm _ qw_390) dX6_many_76 ?_
    have e1 := Option.some.inj hF
    subst e1
    exact m_iret X hS hP rfl dX6_many_79
  have hF := ite_F c3 hF
  by_cases c4 : x1 = 1
  · have hF := ite_T c4 hF
    refine lv_tableIn (off := 69) (tgt := 80) hx hb dX6_many_11 (by rw [c4]; decide) (by rw [c4]; decide) (by rw [c4]; rfl) (by decide) ?_
    refine lv_aload_n hx hb dX6_many_80 rfl (lv_at hl 0 rfl) ?_
    refine gf_16_1 hx hb htm hown hE hP (htm _ qw_379) dX6_many_81 ?_
    refine gf_22_0 hx hb htm hown hE hP (htm _ qw_420) dX6_many_84 ?_
    have e1 := Option.some.inj hF
    subst e1
    exact m_iret X hS hP rfl dX6_many_87
  have hF := ite_F c4 hF
  by_cases c5 : x1 = 2
  · have hF := ite_T c5 hF
    refine lv_tableIn (off := 77) (tgt := 88) hx hb dX6_many_11 (by rw [c5]; decide) (by rw [c5]; decide) (by rw [c5]; rfl) (by decide) ?_
    refine lv_aload_n hx hb dX6_many_88 rfl (lv_at hl 0 rfl) ?_
    refine gf_16_2 hx hb htm hown hE hP (htm _ qw_382) dX6_many_89 ?_
    refine gf_0_5 hx hb htm hown hE hP (by decide) (htm _ qw_447) dX6_many_92 ?_
    have e1 := Option.some.inj hF
    subst e1
    exact m_iret X hS hP rfl dX6_many_95
  have hF := ite_F c5 hF
  by_cases c6 : x1 = 3
  · have hF := ite_T c6 hF
    refine lv_tableIn (off := 85) (tgt := 96) hx hb dX6_many_11 (by rw [c6]; decide) (by rw [c6]; decide) (by rw [c6]; rfl) (by decide) ?_
    refine lv_aload_n hx hb dX6_many_96 rfl (lv_at hl 0 rfl) ?_
    refine gf_16_2 hx hb htm hown hE hP (htm _ qw_382) dX6_many_97 ?_
    refine lv_iconst (v := 0) hx hb dX6_many_100 (by decide) ?_
    obtain ⟨r7, hc7, hF⟩ := ob_S hF
    refine m_cVi X hS vw_X5_withStatus qw_508 (c_X5_withStatus (by decide) hc7) ⟨rfl, rfl⟩ ⟨Nat.le_of_ble_eq_true rfl, Nat.le_of_ble_eq_true rfl⟩ (rc_0 hE hP (by decide)) hP rfl hl.1 (rest := []) rfl (Nat.le_of_ble_eq_true rfl) dX6_many_101 (fun H locs hP hS => ?_)
    have e1 := Option.some.inj hF
    subst e1
    exact m_iret X hS hP rfl dX6_many_104
  have hF := ite_F c6 hF
  by_cases c8 : x1 = 4
  · have hF := ite_T c8 hF
    refine lv_tableIn (off := 94) (tgt := 105) hx hb dX6_many_11 (by rw [c8]; decide) (by rw [c8]; decide) (by rw [c8]; rfl) (by decide) ?_
    refine lv_aload_n hx hb dX6_many_105 rfl (lv_at hl 0 rfl) ?_
    refine gf_16_2 hx hb htm hown hE hP (htm _ qw_382) dX6_many_106 ?_
    refine lv_iconst (v := 1) hx hb dX6_many_109 (by decide) ?_
    obtain ⟨r9, hc9, hF⟩ := ob_S hF
    refine m_cVi X hS vw_X5_withStatus qw_508 (c_X5_withStatus (by decide) hc9) ⟨rfl, rfl⟩ ⟨Nat.le_of_ble_eq_true rfl, Nat.le_of_ble_eq_true rfl⟩ (rc_0 hE hP (by decide)) hP rfl hl.1 (rest := []) rfl (Nat.le_of_ble_eq_true rfl) dX6_many_110 (fun H locs hP hS => ?_)
    have e1 := Option.some.inj hF
    subst e1
    exact m_iret X hS hP rfl dX6_many_113
  have hF := ite_F c8 hF
  by_cases c10 : x1 = 5
  · have hF := ite_T c10 hF
    refine lv_tableIn (off := 103) (tgt := 114) hx hb dX6_many_11 (by rw [c10]; decide) (by rw [c10]; decide) (by rw [c10]; rfl) (by decide) ?_
    refine lv_aload_n hx hb dX6_many_114 rfl (lv_at hl 0 rfl) ?_
    refine gf_16_2 hx hb htm hown hE hP (htm _ qw_382) dX6_many_115 ?_
    refine lv_iconst (v := 2) hx hb dX6_many_118 (by decide) ?_
    obtain ⟨r11, hc11, hF⟩ := ob_S hF
    refine m_cVi X hS vw_X5_withStatus qw_508 (c_X5_withStatus (by decide) hc11) ⟨rfl, rfl⟩ ⟨Nat.le_of_ble_eq_true rfl, Nat.le_of_ble_eq_true rfl⟩ (rc_0 hE hP (by decide)) hP rfl hl.1 (rest := []) rfl (Nat.le_of_ble_eq_true rfl) dX6_many_119 (fun H locs hP hS => ?_)
    have e1 := Option.some.inj hF
    subst e1
    exact m_iret X hS hP rfl dX6_many_122
  have hF := ite_F c10 hF
  by_cases c12 : x1 = 6
  · have hF := ite_T c12 hF
    refine lv_tableIn (off := 112) (tgt := 123) hx hb dX6_many_11 (by rw [c12]; decide) (by rw [c12]; decide) (by rw [c12]; rfl) (by decide) ?_
    refine lv_aload_n hx hb dX6_many_123 rfl (lv_at hl 0 rfl) ?_
    refine gf_16_2 hx hb htm hown hE hP (htm _ qw_382) dX6_many_124 ?_
    obtain ⟨r13, hc13, hF⟩ := ob_S hF
    refine m_cVi X hS vw_X5_supervisors qw_511 (c_X5_supervisors (by decide) hc13) ⟨rfl, rfl⟩ ⟨Nat.le_of_ble_eq_true rfl, Nat.le_of_ble_eq_true rfl⟩ (rc_0 hE hP (by decide)) hP rfl hl.1 (rest := []) rfl (Nat.le_of_ble_eq_true rfl) dX6_many_127 (fun H locs hP hS => ?_)
    have e1 := Option.some.inj hF
    subst e1
    exact m_iret X hS hP rfl dX6_many_130
  have hF := ite_F c12 hF
  by_cases c14 : x1 = 7
  · have hF := ite_T c14 hF
    refine lv_tableIn (off := 120) (tgt := 131) hx hb dX6_many_11 (by rw [c14]; decide) (by rw [c14]; decide) (by rw [c14]; rfl) (by decide) ?_
    refine lv_aload_n hx hb dX6_many_131 rfl (lv_at hl 0 rfl) ?_
    refine gf_16_2 hx hb htm hown hE hP (htm _ qw_382) dX6_many_132 ?_
    obtain ⟨r15, hc15, hF⟩ := ob_S hF
    refine m_cVi X hS vw_X5_linkCount qw_514 (c_X5_linkCount (by decide) hc15) ⟨rfl, rfl⟩ ⟨Nat.le_of_ble_eq_true rfl, Nat.le_of_ble_eq_true rfl⟩ (rc_0 hE hP (by decide)) hP rfl hl.1 (rest := []) rfl (Nat.le_of_ble_eq_true rfl) dX6_many_135 (fun H locs hP hS => ?_)
    have e1 := Option.some.inj hF
    subst e1
    exact m_iret X hS hP rfl dX6_many_138
  have hF := ite_F c14 hF
  by_cases c16 : x1 = 8
  · have hF := ite_T c16 hF
    refine lv_tableIn (off := 128) (tgt := 139) hx hb dX6_many_11 (by rw [c16]; decide) (by rw [c16]; decide) (by rw [c16]; rfl) (by decide) ?_
    refine lv_aload_n hx hb dX6_many_139 rfl (lv_at hl 0 rfl) ?_
    refine gf_16_2 hx hb htm hown hE hP (htm _ qw_382) dX6_many_140 ?_
    obtain ⟨r17, hc17, hF⟩ := ob_S hF
    refine m_cVi X hS vw_X5_mailCount qw_517 (c_X5_mailCount (by decide) hc17) ⟨rfl, rfl⟩ ⟨Nat.le_of_ble_eq_true rfl, Nat.le_of_ble_eq_true rfl⟩ (rc_0 hE hP (by decide)) hP rfl hl.1 (rest := []) rfl (Nat.le_of_ble_eq_true rfl) dX6_many_143 (fun H locs hP hS => ?_)
    have e1 := Option.some.inj hF
    subst e1
    exact m_iret X hS hP rfl dX6_many_146
  have hF := ite_F c16 hF
  by_cases c18 : x1 = 9
  · have hF := ite_T c18 hF
    refine lv_tableIn (off := 136) (tgt := 147) hx hb dX6_many_11 (by rw [c18]; decide) (by rw [c18]; decide) (by rw [c18]; rfl) (by decide) ?_
    refine lv_aload_n hx hb dX6_many_147 rfl (lv_at hl 0 rfl) ?_
    refine gf_16_2 hx hb htm hown hE hP (htm _ qw_382) dX6_many_148 ?_
    refine gf_0_7 hx hb htm hown hE hP (by decide) (htm _ qw_504) dX6_many_151 ?_
    have e1 := Option.some.inj hF
    subst e1
    exact m_iret X hS hP rfl dX6_many_154
  have hF := ite_F c18 hF
  by_cases c19 : x1 = 10
  · have hF := ite_T c19 hF
    refine lv_tableIn (off := 144) (tgt := 155) hx hb dX6_many_11 (by rw [c19]; decide) (by rw [c19]; decide) (by rw [c19]; rfl) (by decide) ?_
    refine lv_aload_n hx hb dX6_many_155 rfl (lv_at hl 0 rfl) ?_
    refine gf_16_2 hx hb htm hown hE hP (htm _ qw_382) dX6_many_156 ?_
    refine gf_0_6 hx hb htm hown hE hP (by decide) (htm _ qw_505) dX6_many_159 ?_
    have e1 := Option.some.inj hF
    subst e1
    exact m_iret X hS hP rfl dX6_many_162
  have hF := ite_F c19 hF
  by_cases c20 : x1 = 11
  · have hF := ite_T c20 hF
    refine lv_tableIn (off := 152) (tgt := 163) hx hb dX6_many_11 (by rw [c20]; decide) (by rw [c20]; decide) (by rw [c20]; rfl) (by decide) ?_
    refine lv_aload_n hx hb dX6_many_163 rfl (lv_at hl 0 rfl) ?_
    refine gf_16_2 hx hb htm hown hE hP (htm _ qw_382) dX6_many_164 ?_
    refine gf_0_8 hx hb htm hown hE hP (by decide) (htm _ qw_506) dX6_many_167 ?_
    have e1 := Option.some.inj hF
    subst e1
    exact m_iret X hS hP rfl dX6_many_170
  have hF := ite_F c20 hF
  refine lv_tableOut (tgt := 171) hx hb dX6_many_11 (by have hc3 := lv_neT c3 (a := 0) rfl; have hc4 := lv_neT c4 (a := 1) rfl; have hc5 := lv_neT c5 (a := 2) rfl; have hc6 := lv_neT c6 (a := 3) rfl; have hc8 := lv_neT c8 (a := 4) rfl; have hc10 := lv_neT c10 (a := 5) rfl; have hc12 := lv_neT c12 (a := 6) rfl; have hc14 := lv_neT c14 (a := 7) rfl; have hc16 := lv_neT c16 (a := 8) rfl; have hc18 := lv_neT c18 (a := 9) rfl; have hc19 := lv_neT c19 (a := 10) rfl; have hc20 := lv_neT c20 (a := 11) rfl; omega) (by decide) ?_
  refine lv_aload_n hx hb dX6_many_171 rfl (lv_at hl 0 rfl) ?_
  refine gf_16_2 hx hb htm hown hE hP (htm _ qw_382) dX6_many_172 ?_
  refine gf_0_9 hx hb htm hown hE hP (by decide) (htm _ qw_507) dX6_many_175 ?_
  have e1 := Option.some.inj hF
  subst e1
  exact m_iret X hS hP rfl dX6_many_178
def f_X6_passedOver (G V U : MT) (x1 : Int32) (x2 : Int32) : Option (Int32) :=
  (f_X6_checkProcess G V U x1).bind (fun q1_ => oc q1_ (none) (fun e1 => if e1 < 24 then ((f_X6_isWithin x2 0 4).bind (fun q2_ => (f_X6_checkArgument q2_).bind (fun _ => (f_X0_firstOf V e1 x2).bind (fun q4_ => some q4_)))) else none))
def rm_X6_passedOver : Room := { frames := 2, cells := 0, slots := 0, locals := 43 }
set_option maxRecDepth 20000 in
set_option maxHeartbeats 4000000 in
theorem c_X6_passedOver {l : Launch} {D : va_G} {ad : Nat → Nat → Nat → Nat} {cI cZ cP : ClassId} {A : Nat → Prop} {G V U : MT} {x1 : Int32} {x2 : Int32} {r : Int32}  (hF : f_X6_passedOver G V U x1 x2 = some r) : Met l yX6_passedOver (.code yX6_passedOver cX6_passedOver 4 (some .int) :: WM) rm_X6_passedOver (PcM D ad cI cZ cP A [.ref (ad 2 16 0), .int x1, .int x2] (Pic D ad cI cZ cP 0 G V U)) (QcI A r (Pic D ad cI cZ cP 0 G V U)) 0 0 A := by
  refine m_entry (by decide) (Nat.le_of_ble_eq_true rfl) (fun p e s m below meth c ls X hP hS hl => ?_)
  have X : MX p s m _ meth c cX6_passedOver RX6 4 (some .int) D ad cI cZ cP A := X
  obtain ⟨hx, hb, hml, hown, htm, hr, hlk, hE⟩ := id X
  have hl : lv_has ls 4 [(0, .ref (ad 2 16 0)), (1, .int x1), (2, .int x2)] := hl
  refine lv_aload_n hx hb dX6_passedOver_0 rfl (lv_at hl 0 rfl) ?_
  refine lv_iload_n hx hb dX6_passedOver_1 rfl (lv_at hl 1 rfl) ?_
  obtain ⟨r1, hc1, hF⟩ := ob_S hF
  refine m_cVq X hS vw_X6_checkProcess qw_462 (c_X6_checkProcess hc1) ⟨rfl, rfl⟩ ⟨Nat.le_of_ble_eq_true rfl, Nat.le_of_ble_eq_true rfl⟩ (rc_16 hE hP) hP rfl hl.1 (rest := []) rfl (Nat.le_of_ble_eq_true rfl) dX6_passedOver_2 (fun H locs hP hS => ?_)
  rcases r1 with _ | e1
  · have hF := oc_N hF
    exact ns_S hF
  · obtain ⟨he1, hF⟩ := ite_S (oc_J hF)
    refine lv_astore_n (lv' := [(3, .ref (ad 0 7 e1)), (0, .ref (ad 2 16 0)), (1, .int x1), (2, .int x2)]) hx hb dX6_passedOver_5 rfl hl (by decide) rfl (fun ls hl => ?_)
    refine lv_iload_n hx hb dX6_passedOver_6 rfl (lv_at hl 3 rfl) ?_
    refine lv_iconst (v := 0) hx hb dX6_passedOver_7 (by decide) ?_
    refine lv_iconst (v := 4) hx hb dX6_passedOver_8 (by decide) ?_
    obtain ⟨r2, hc2, hF⟩ := ob_S hF
    refine m_cSi X hS sw_X6_isWithin qw_421 (c_X6_isWithin hc2) ⟨rfl, rfl⟩ ⟨Nat.le_of_ble_eq_true rfl, Nat.le_of_ble_eq_true rfl⟩ hP rfl hl.1 (rest := []) rfl (Nat.le_of_ble_eq_true rfl) dX6_passedOver_9 (fun H locs hP hS => ?_)
    obtain ⟨u3, hc3, hF⟩ := ob_S hF
    refine m_cSv X hS sw_X6_checkArgument qw_406 (c_X6_checkArgument hc3) ⟨rfl, rfl⟩ ⟨Nat.le_of_ble_eq_true rfl, Nat.le_of_ble_eq_true rfl⟩ hP rfl hl.1 (rest := []) rfl (Nat.le_of_ble_eq_true rfl) dX6_passedOver_12 (fun H locs hP hS => ?_)
    refine lv_aload_n hx hb dX6_passedOver_15 rfl (lv_at hl 0 rfl) ?_
    refine gf_7_17 hx hb htm hown hE hP (by decide) he1 (htm _ qw_477) dX6_passedOver_16 ?_
    refine lv_iload_n hx hb dX6_passedOver_19 rfl (lv_at hl 3 rfl) ?_
    obtain ⟨r4, hc4, hF⟩ := ob_S hF
    refine m_cVi X hS vw_X0_firstOf qw_530 (c_X0_firstOf (by decide) he1 hc4) ⟨rfl, rfl⟩ ⟨Nat.le_of_ble_eq_true rfl, Nat.le_of_ble_eq_true rfl⟩ (rc_10 hE hP (by decide) he1) hP rfl hl.1 (rest := []) rfl (Nat.le_of_ble_eq_true rfl) dX6_passedOver_20 (fun H locs hP hS => ?_)
    have e1 := Option.some.inj hF
    subst e1
    exact m_iret X hS hP rfl dX6_passedOver_23
