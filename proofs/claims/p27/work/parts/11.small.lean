theorem vw_X3_hasSpec : VW RX3 yX3_hasSpec cX3_hasSpec 2 (some .boolean) 1 := ⟨qw_131, qw_132, qw_133, qw_129, ⟨rfl, by decide, by decide, by decide +kernel⟩⟩
theorem vw_X3_placesOf : VW RX3 yX3_placesOf cX3_placesOf 2 (some .int) 1 := ⟨qw_431, qw_432, qw_133, qw_134, ⟨rfl, by decide, by decide, by decide +kernel⟩⟩
theorem vw_X3_placeAt : VW RX3 yX3_placeAt cX3_placeAt 3 (some .int) 2 := ⟨qw_195, qw_196, qw_133, qw_135, ⟨rfl, by decide, by decide, by decide +kernel⟩⟩
theorem vw_X3_addSpec : VW RX3 yX3_addSpec cX3_addSpec 5 (some .int) 3 := ⟨qw_423, qw_424, qw_133, qw_136, ⟨rfl, by decide, by decide, by decide +kernel⟩⟩
theorem vw_X3_addPlace : VW RX3 yX3_addPlace cX3_addPlace 7 (some .int) 4 := ⟨qw_434, qw_435, qw_133, qw_137, ⟨rfl, by decide, by decide, by decide +kernel⟩⟩
theorem vw_X4_add : VW RX4 yX4_add cX4_add 3 none 1 := ⟨qw_314, qw_315, qw_60, qw_138, ⟨rfl, by decide, by decide, by decide +kernel⟩⟩
theorem vw_X4_copyFrom : VW RX4 yX4_copyFrom cX4_copyFrom 2 none 1 := ⟨qw_84, qw_85, qw_60, qw_72, ⟨rfl, by decide, by decide, by decide +kernel⟩⟩
theorem vw_X0_put : VW RX0 yX0_put cX0_put 3 (some .boolean) 2 := ⟨qw_224, qw_225, qw_56, qw_8, ⟨rfl, by decide, by decide, by decide +kernel⟩⟩
theorem vw_X0_firstOf : VW RX0 yX0_firstOf cX0_firstOf 3 (some .int) 1 := ⟨qw_101, qw_102, qw_56, qw_9, ⟨rfl, by decide, by decide, by decide +kernel⟩⟩
theorem vw_X0_takeOut : VW RX0 yX0_takeOut cX0_takeOut 4 (some .int) 1 := ⟨qw_104, qw_105, qw_56, qw_13, ⟨rfl, by decide, by decide, by decide +kernel⟩⟩
theorem vw_X0_copyFrom : VW RX0 yX0_copyFrom cX0_copyFrom 2 none 1 := ⟨qw_81, qw_82, qw_56, qw_18, ⟨rfl, by decide, by decide, by decide +kernel⟩⟩
theorem vw_X1_hasModule : VW RX1 yX1_hasModule cX1_hasModule 2 (some .boolean) 1 := ⟨qw_28, qw_29, qw_30, qw_26, ⟨rfl, by decide, by decide, by decide +kernel⟩⟩
theorem vw_X1_rowOf : VW RX1 yX1_rowOf cX1_rowOf 3 (some .int) 2 := ⟨qw_33, qw_34, qw_30, qw_31, ⟨rfl, by decide, by decide, by decide +kernel⟩⟩
theorem vw_X1_linesOf : VW RX1 yX1_linesOf cX1_linesOf 4 (some .int) 2 := ⟨qw_401, qw_402, qw_30, qw_35, ⟨rfl, by decide, by decide, by decide +kernel⟩⟩
theorem vw_X1_lineAt : VW RX1 yX1_lineAt cX1_lineAt 5 (some .int) 3 := ⟨qw_345, qw_346, qw_30, qw_36, ⟨rfl, by decide, by decide, by decide +kernel⟩⟩
theorem vw_X1_addLine : VW RX1 yX1_addLine cX1_addLine 9 (some .int) 5 := ⟨qw_412, qw_413, qw_30, qw_38, ⟨rfl, by decide, by decide, by decide +kernel⟩⟩
theorem vw_X1_isLine : VW RX1 yX1_isLine cX1_isLine 7 (some .boolean) 4 := ⟨qw_404, qw_405, qw_30, qw_37, ⟨rfl, by decide, by decide, by decide +kernel⟩⟩
def f_X3_hasSpec (G : MT) (x1 : Int32) : Option (Int32) :=
  if x1 < 0 then (some 0) else (if G 22 0 0 ≤ x1 then (some 0) else (if 5 ≤ x1 then (some 0) else (some 1)))
def rm_X3_hasSpec : Room := { frames := 0, cells := 0, slots := 0, locals := 0 }
set_option maxRecDepth 20000 in
set_option maxHeartbeats 4000000 in
theorem c_X3_hasSpec {l : Launch} {D : va_G} {ad : Nat → Nat → Nat → Nat} {cI cZ cP : ClassId} {A : Nat → Prop} {w : Nat} (hw : w < 2) {G V U : MT} {x1 : Int32} {r : Int32}  (hF : f_X3_hasSpec G x1 = some r) : Met l yX3_hasSpec (.code yX3_hasSpec cX3_hasSpec 2 (some .boolean) :: WM) rm_X3_hasSpec (PcM D ad cI cZ cP A [.ref (ad 2 22 0), .int x1] (Pic D ad cI cZ cP w G V U)) (QcI A r (Pic D ad cI cZ cP w G V U)) 0 0 A := by
  refine m_entry (by decide) (Nat.le_of_ble_eq_true rfl) (fun p e s m below meth c ls X hP hS hl => ?_)
  have X : MX p s m _ meth c cX3_hasSpec RX3 2 (some .boolean) D ad cI cZ cP A := X
  obtain ⟨hx, hb, hml, hown, htm, hr, hlk, hE⟩ := id X
  have hl : lv_has ls 2 [(0, .ref (ad 2 22 0)), (1, .int x1)] := hl
  refine lv_iload_n hx hb dX3_hasSpec_0 rfl (lv_at hl 1 rfl) ?_
  refine lv_if_lt (tgt := 21) hx hb dX3_hasSpec_1 (by decide) (fun c1 => ?_) (fun c1 => ?_)
  · have hF := ite_T c1 hF
    refine lv_iconst (v := 0) hx hb dX3_hasSpec_21 (by decide) ?_
    have e1 := Option.some.inj hF
    subst e1
    exact m_zret X hS hP rfl (Or.inl rfl) dX3_hasSpec_22
  · have hF := ite_F c1 hF
    refine lv_iload_n hx hb dX3_hasSpec_4 rfl (lv_at hl 1 rfl) ?_
    refine lv_aload_n hx hb dX3_hasSpec_5 rfl (lv_at hl 0 rfl) ?_
    refine gf_22_0 hx hb htm hown hE hP (htm _ qw_128) dX3_hasSpec_6 ?_
    refine lv_icmp_ge (tgt := 21) hx hb dX3_hasSpec_9 (by decide) (fun c2 => ?_) (fun c2 => ?_)
    · have hF := ite_T c2 hF
      refine lv_iconst (v := 0) hx hb dX3_hasSpec_21 (by decide) ?_
      have e1 := Option.some.inj hF
      subst e1
      exact m_zret X hS hP rfl (Or.inl rfl) dX3_hasSpec_22
    · have hF := ite_F c2 hF
      refine lv_iload_n hx hb dX3_hasSpec_12 rfl (lv_at hl 1 rfl) ?_
      refine lv_iconst (v := 5) hx hb dX3_hasSpec_13 (by decide) ?_
      refine lv_icmp_ge (tgt := 21) hx hb dX3_hasSpec_14 (by decide) (fun c3 => ?_) (fun c3 => ?_)
      · have hF := ite_T c3 hF
        refine lv_iconst (v := 0) hx hb dX3_hasSpec_21 (by decide) ?_
        have e1 := Option.some.inj hF
        subst e1
        exact m_zret X hS hP rfl (Or.inl rfl) dX3_hasSpec_22
      · have hF := ite_F c3 hF
        refine lv_iconst (v := 1) hx hb dX3_hasSpec_17 (by decide) ?_
        refine lv_goto (tgt := 22) hx hb dX3_hasSpec_18 (by decide) ?_
        have e1 := Option.some.inj hF
        subst e1
        exact m_zret X hS hP rfl (Or.inr rfl) dX3_hasSpec_22
def f_X3_placesOf (G : MT) (x1 : Int32) : Option (Int32) :=
  (f_X3_hasSpec G x1).bind (fun q1_ => if q1_ = 0 then (some 0) else (if ¬ (x1 < 0 ∨ 5 ≤ Int32.toNatClampNeg x1) then (some (G 26 0 (Int32.toNatClampNeg x1))) else none))
def rm_X3_placesOf : Room := { frames := 1, cells := 0, slots := 0, locals := 21 }
set_option maxRecDepth 20000 in
set_option maxHeartbeats 4000000 in
theorem c_X3_placesOf {l : Launch} {D : va_G} {ad : Nat → Nat → Nat → Nat} {cI cZ cP : ClassId} {A : Nat → Prop} {w : Nat} (hw : w < 2) {G V U : MT} {x1 : Int32} {r : Int32}  (hF : f_X3_placesOf G x1 = some r) : Met l yX3_placesOf (.code yX3_placesOf cX3_placesOf 2 (some .int) :: WM) rm_X3_placesOf (PcM D ad cI cZ cP A [.ref (ad 2 22 0), .int x1] (Pic D ad cI cZ cP w G V U)) (QcI A r (Pic D ad cI cZ cP w G V U)) 0 0 A := by
  refine m_entry (by decide) (Nat.le_of_ble_eq_true rfl) (fun p e s m below meth c ls X hP hS hl => ?_)
  have X : MX p s m _ meth c cX3_placesOf RX3 2 (some .int) D ad cI cZ cP A := X
  obtain ⟨hx, hb, hml, hown, htm, hr, hlk, hE⟩ := id X
  have hl : lv_has ls 2 [(0, .ref (ad 2 22 0)), (1, .int x1)] := hl
  refine lv_aload_n hx hb dX3_placesOf_0 rfl (lv_at hl 0 rfl) ?_
  refine lv_iload_n hx hb dX3_placesOf_1 rfl (lv_at hl 1 rfl) ?_
  obtain ⟨r1, hc1, hF⟩ := ob_S hF
  refine m_cVi X hS vw_X3_hasSpec qw_130 (c_X3_hasSpec hw hc1) ⟨rfl, rfl⟩ ⟨Nat.le_of_ble_eq_true rfl, Nat.le_of_ble_eq_true rfl⟩ (rc_22 hE hP) hP rfl hl.1 (rest := []) rfl (Nat.le_of_ble_eq_true rfl) dX3_placesOf_2 (fun H locs hP hS => ?_)
  refine lv_if_eq (tgt := 17) hx hb dX3_placesOf_5 (by decide) (fun c2 => ?_) (fun c2 => ?_)
  · have hF := ite_T c2 hF
    refine lv_iconst (v := 0) hx hb dX3_placesOf_17 (by decide) ?_
    have e1 := Option.some.inj hF
    subst e1
    exact m_iret X hS hP rfl dX3_placesOf_18
  · have hF := ite_F c2 hF
    refine lv_aload_n hx hb dX3_placesOf_8 rfl (lv_at hl 0 rfl) ?_
    refine gf_22_4 hx hb htm hown hE hP (htm _ qw_122) dX3_placesOf_9 ?_
    refine lv_iload_n hx hb dX3_placesOf_12 rfl (lv_at hl 1 rfl) ?_
    obtain ⟨hn3, hF⟩ := ite_S hF
    refine al_26 hx hb htm hown hE hP hn3 dX3_placesOf_13 ?_
    refine lv_goto (tgt := 18) hx hb dX3_placesOf_14 (by decide) ?_
    have e1 := Option.some.inj hF
    subst e1
    exact m_iret X hS hP rfl dX3_placesOf_18
def f_X3_placeAt (G : MT) (x1 : Int32) (x2 : Int32) : Option (Int32) :=
  if x1 < 0 then (some (-1)) else (if G 22 0 0 ≤ x1 then (some (-1)) else (if x1 < 5 then (if x2 < 0 then (some (-1)) else (if ¬ (x1 < 0 ∨ 5 ≤ Int32.toNatClampNeg x1) then (if G 26 0 (Int32.toNatClampNeg x1) ≤ x2 then (some (-1)) else (if x2 < 4 then (some ((x1 * 4) + x2)) else (some (-1)))) else none)) else (some (-1))))
def rm_X3_placeAt : Room := { frames := 0, cells := 0, slots := 0, locals := 0 }
set_option maxRecDepth 20000 in
set_option maxHeartbeats 4000000 in
theorem c_X3_placeAt {l : Launch} {D : va_G} {ad : Nat → Nat → Nat → Nat} {cI cZ cP : ClassId} {A : Nat → Prop} {w : Nat} (hw : w < 2) {G V U : MT} {x1 : Int32} {x2 : Int32} {r : Int32}  (hF : f_X3_placeAt G x1 x2 = some r) : Met l yX3_placeAt (.code yX3_placeAt cX3_placeAt 3 (some .int) :: WM) rm_X3_placeAt (PcM D ad cI cZ cP A [.ref (ad 2 22 0), .int x1, .int x2] (Pic D ad cI cZ cP w G V U)) (QcI A r (Pic D ad cI cZ cP w G V U)) 0 0 A := by
  refine m_entry (by decide) (Nat.le_of_ble_eq_true rfl) (fun p e s m below meth c ls X hP hS hl => ?_)
  have X : MX p s m _ meth c cX3_placeAt RX3 3 (some .int) D ad cI cZ cP A := X
  obtain ⟨hx, hb, hml, hown, htm, hr, hlk, hE⟩ := id X
  have hl : lv_has ls 3 [(0, .ref (ad 2 22 0)), (1, .int x1), (2, .int x2)] := hl
  refine lv_iload_n hx hb dX3_placeAt_0 rfl (lv_at hl 1 rfl) ?_
  refine lv_if_lt (tgt := 17) hx hb dX3_placeAt_1 (by decide) (fun c1 => ?_) (fun c1 => ?_)
  · have hF := ite_T c1 hF
    refine lv_iconst (v := (-1)) hx hb dX3_placeAt_17 (by decide) ?_
    have e1 := Option.some.inj hF
    subst e1
    exact m_iret X hS hP rfl dX3_placeAt_18
  · have hF := ite_F c1 hF
    refine lv_iload_n hx hb dX3_placeAt_4 rfl (lv_at hl 1 rfl) ?_
    refine lv_aload_n hx hb dX3_placeAt_5 rfl (lv_at hl 0 rfl) ?_
    refine gf_22_0 hx hb htm hown hE hP (htm _ qw_128) dX3_placeAt_6 ?_
    refine lv_icmp_ge (tgt := 17) hx hb dX3_placeAt_9 (by decide) (fun c2 => ?_) (fun c2 => ?_)
    · have hF := ite_T c2 hF
      refine lv_iconst (v := (-1)) hx hb dX3_placeAt_17 (by decide) ?_
      have e1 := Option.some.inj hF
      subst e1
      exact m_iret X hS hP rfl dX3_placeAt_18
    · have hF := ite_F c2 hF
      refine lv_iload_n hx hb dX3_placeAt_12 rfl (lv_at hl 1 rfl) ?_
      refine lv_iconst (v := 5) hx hb dX3_placeAt_13 (by decide) ?_
      refine lv_icmp_lt (tgt := 19) hx hb dX3_placeAt_14 (by decide) (fun c3 => ?_) (fun c3 => ?_)
      · have hF := ite_T c3 hF
        refine lv_iload_n hx hb dX3_placeAt_19 rfl (lv_at hl 2 rfl) ?_
        refine lv_if_lt (tgt := 38) hx hb dX3_placeAt_20 (by decide) (fun c4 => ?_) (fun c4 => ?_)
        · have hF := ite_T c4 hF
          refine lv_iconst (v := (-1)) hx hb dX3_placeAt_38 (by decide) ?_
          have e1 := Option.some.inj hF
          subst e1
          exact m_iret X hS hP rfl dX3_placeAt_39
        · have hF := ite_F c4 hF
          refine lv_iload_n hx hb dX3_placeAt_23 rfl (lv_at hl 2 rfl) ?_
          refine lv_aload_n hx hb dX3_placeAt_24 rfl (lv_at hl 0 rfl) ?_
          refine gf_22_4 hx hb htm hown hE hP (htm _ qw_122) dX3_placeAt_25 ?_
          refine lv_iload_n hx hb dX3_placeAt_28 rfl (lv_at hl 1 rfl) ?_
          obtain ⟨hn5, hF⟩ := ite_S hF
          refine al_26 hx hb htm hown hE hP hn5 dX3_placeAt_29 ?_
          refine lv_icmp_ge (tgt := 38) hx hb dX3_placeAt_30 (by decide) (fun c6 => ?_) (fun c6 => ?_)
          · have hF := ite_T c6 hF
            refine lv_iconst (v := (-1)) hx hb dX3_placeAt_38 (by decide) ?_
            have e1 := Option.some.inj hF
            subst e1
            exact m_iret X hS hP rfl dX3_placeAt_39
          · have hF := ite_F c6 hF
            refine lv_iload_n hx hb dX3_placeAt_33 rfl (lv_at hl 2 rfl) ?_
            refine lv_iconst (v := 4) hx hb dX3_placeAt_34 (by decide) ?_
            refine lv_icmp_lt (tgt := 40) hx hb dX3_placeAt_35 (by decide) (fun c7 => ?_) (fun c7 => ?_)
            · have hF := ite_T c7 hF
              refine lv_iload_n hx hb dX3_placeAt_40 rfl (lv_at hl 1 rfl) ?_
              refine lv_iconst (v := 4) hx hb dX3_placeAt_41 (by decide) ?_
              refine lv_imul hx hb dX3_placeAt_42 ?_
              refine lv_iload_n hx hb dX3_placeAt_43 rfl (lv_at hl 2 rfl) ?_
              refine lv_iadd hx hb dX3_placeAt_44 ?_
              have e1 := Option.some.inj hF
              subst e1
              exact m_iret X hS hP rfl dX3_placeAt_45
            · have hF := ite_F c7 hF
              refine lv_iconst (v := (-1)) hx hb dX3_placeAt_38 (by decide) ?_
              have e1 := Option.some.inj hF
              subst e1
              exact m_iret X hS hP rfl dX3_placeAt_39
      · have hF := ite_F c3 hF
        refine lv_iconst (v := (-1)) hx hb dX3_placeAt_17 (by decide) ?_
        have e1 := Option.some.inj hF
        subst e1
        exact m_iret X hS hP rfl dX3_placeAt_18
def f_X3_addSpec (G : MT) (x1 : Int32) (x2 : Int32) (x3 : Int32) : Option (Int32 × MT) :=
  if G 22 0 0 < 5 then (if ¬ (G 22 0 0 < 0 ∨ 5 ≤ Int32.toNatClampNeg (G 22 0 0)) then (if ¬ (G 22 0 0 < 0 ∨ 5 ≤ Int32.toNatClampNeg (G 22 0 0)) then (if ¬ (G 22 0 0 < 0 ∨ 5 ≤ Int32.toNatClampNeg (G 22 0 0)) then (some (G 22 0 0, (pt (pt (pt (pt G 22 0 0 ((G 22 0 0) + 1)) 23 0 (Int32.toNatClampNeg (G 22 0 0)) x1) 24 0 (Int32.toNatClampNeg (G 22 0 0)) x2) 25 0 (Int32.toNatClampNeg (G 22 0 0)) x3))) else none) else none) else none) else (some ((-1), G))
def rm_X3_addSpec : Room := { frames := 0, cells := 0, slots := 0, locals := 0 }
set_option maxRecDepth 20000 in
set_option maxHeartbeats 4000000 in
theorem c_X3_addSpec {l : Launch} {D : va_G} {ad : Nat → Nat → Nat → Nat} {cI cZ cP : ClassId} {A : Nat → Prop} {w : Nat} (hw : w < 2) {G V U : MT} {x1 : Int32} {x2 : Int32} {x3 : Int32} {r : Int32} {G' : MT}  (hF : f_X3_addSpec G x1 x2 x3 = some (r, G')) : Met l yX3_addSpec (.code yX3_addSpec cX3_addSpec 5 (some .int) :: WM) rm_X3_addSpec (PcM D ad cI cZ cP A [.ref (ad 2 22 0), .int x1, .int x2, .int x3] (Pic D ad cI cZ cP w G V U)) (QcI A r (Pic D ad cI cZ cP w G' V U)) 0 0 A := by
  refine m_entry (by decide) (Nat.le_of_ble_eq_true rfl) (fun p e s m below meth c ls X hP hS hl => ?_)
  have X : MX p s m _ meth c cX3_addSpec RX3 5 (some .int) D ad cI cZ cP A := X
  obtain ⟨hx, hb, hml, hown, htm, hr, hlk, hE⟩ := id X
  have hl : lv_has ls 5 [(0, .ref (ad 2 22 0)), (1, .int x1), (2, .int x2), (3, .int x3)] := hl
  refine lv_aload_n hx hb dX3_addSpec_0 rfl (lv_at hl 0 rfl) ?_
  refine gf_22_0 hx hb htm hown hE hP (htm _ qw_128) dX3_addSpec_1 ?_
  refine lv_iconst (v := 5) hx hb dX3_addSpec_4 (by decide) ?_
  refine lv_icmp_lt (tgt := 10) hx hb dX3_addSpec_5 (by decide) (fun c1 => ?_) (fun c1 => ?_)
  · have hF := ite_T c1 hF
    refine lv_aload_n hx hb dX3_addSpec_10 rfl (lv_at hl 0 rfl) ?_
    refine gf_22_0 hx hb htm hown hE hP (htm _ qw_128) dX3_addSpec_11 ?_
    refine lv_istore (lv' := [(4, .int (G 22 0 0)), (0, .ref (ad 2 22 0)), (1, .int x1), (2, .int x2), (3, .int x3)]) hx hb dX3_addSpec_14 hl (by decide) rfl (fun ls hl => ?_)
    refine lv_aload_n hx hb dX3_addSpec_16 rfl (lv_at hl 1 rfl) ?_
    refine lv_dup hx hb dX3_addSpec_17 rfl ?_
    refine gf_22_0 hx hb htm hown hE hP (htm _ qw_128) dX3_addSpec_18 ?_
    refine lv_iconst (v := 1) hx hb dX3_addSpec_21 (by decide) ?_
    refine lv_iadd hx hb dX3_addSpec_22 ?_
    refine pf_22_0 hx hb htm hown hE hP hS (htm _ qw_128) dX3_addSpec_23 (fun H locs hP hS => ?_)
    refine lv_aload_n hx hb dX3_addSpec_26 rfl (lv_at hl 1 rfl) ?_
    refine gf_22_1 hx hb htm hown hE hP (htm _ qw_119) dX3_addSpec_27 ?_
    refine lv_iload hx hb dX3_addSpec_30 (lv_at hl 0 rfl) ?_
    refine lv_iload_n hx hb dX3_addSpec_32 rfl (lv_at hl 2 rfl) ?_
    obtain ⟨hn2, hF⟩ := ite_S hF
    refine as_23 hx hb htm hown hE hP hS hn2 dX3_addSpec_33 (fun H locs hP hS => ?_)
    refine lv_aload_n hx hb dX3_addSpec_34 rfl (lv_at hl 1 rfl) ?_
    refine gf_22_2 hx hb htm hown hE hP (htm _ qw_120) dX3_addSpec_35 ?_
    refine lv_iload hx hb dX3_addSpec_38 (lv_at hl 0 rfl) ?_
    refine lv_iload_n hx hb dX3_addSpec_40 rfl (lv_at hl 3 rfl) ?_
    obtain ⟨hn3, hF⟩ := ite_S hF
    refine as_24 hx hb htm hown hE hP hS hn3 dX3_addSpec_41 (fun H locs hP hS => ?_)
    refine lv_aload_n hx hb dX3_addSpec_42 rfl (lv_at hl 1 rfl) ?_
    refine gf_22_3 hx hb htm hown hE hP (htm _ qw_121) dX3_addSpec_43 ?_
    refine lv_iload hx hb dX3_addSpec_46 (lv_at hl 0 rfl) ?_
    refine lv_iload_n hx hb dX3_addSpec_48 rfl (lv_at hl 4 rfl) ?_
    obtain ⟨hn4, hF⟩ := ite_S hF
    refine as_25 hx hb htm hown hE hP hS hn4 dX3_addSpec_49 (fun H locs hP hS => ?_)
    refine lv_iload hx hb dX3_addSpec_50 (lv_at hl 0 rfl) ?_
    obtain ⟨e1, e2⟩ := Prod.mk.inj (Option.some.inj hF)
    subst e1
    subst e2
    exact m_iret X hS hP rfl dX3_addSpec_52
  · have hF := ite_F c1 hF
    refine lv_iconst (v := (-1)) hx hb dX3_addSpec_8 (by decide) ?_
    obtain ⟨e1, e2⟩ := Prod.mk.inj (Option.some.inj hF)
    subst e1
    subst e2
    exact m_iret X hS hP rfl dX3_addSpec_9
def f_X3_addPlace (G : MT) (x1 : Int32) (x2 : Int32) (x3 : Int32) (x4 : Int32) : Option (Int32 × MT) :=
  (f_X3_hasSpec G x1).bind (fun q1_ => if q1_ = 0 then (some ((-1), G)) else (if ¬ (x1 < 0 ∨ 5 ≤ Int32.toNatClampNeg x1) then (if G 26 0 (Int32.toNatClampNeg x1) < 4 then (if ¬ (x1 < 0 ∨ 5 ≤ Int32.toNatClampNeg x1) then (if ¬ (x1 < 0 ∨ 5 ≤ Int32.toNatClampNeg x1) then (if ¬ ((x1 * 4) + (G 26 0 (Int32.toNatClampNeg x1)) < 0 ∨ 20 ≤ Int32.toNatClampNeg ((x1 * 4) + (G 26 0 (Int32.toNatClampNeg x1)))) then (if ¬ ((x1 * 4) + (G 26 0 (Int32.toNatClampNeg x1)) < 0 ∨ 20 ≤ Int32.toNatClampNeg ((x1 * 4) + (G 26 0 (Int32.toNatClampNeg x1)))) then (if ¬ ((x1 * 4) + (G 26 0 (Int32.toNatClampNeg x1)) < 0 ∨ 20 ≤ Int32.toNatClampNeg ((x1 * 4) + (G 26 0 (Int32.toNatClampNeg x1)))) then (some (G 26 0 (Int32.toNatClampNeg x1), (pt (pt (pt (pt G 26 0 (Int32.toNatClampNeg x1) ((G 26 0 (Int32.toNatClampNeg x1)) + 1)) 27 0 (Int32.toNatClampNeg ((x1 * 4) + (G 26 0 (Int32.toNatClampNeg x1)))) (vp_nar .boolean x2)) 28 0 (Int32.toNatClampNeg ((x1 * 4) + (G 26 0 (Int32.toNatClampNeg x1)))) x3) 29 0 (Int32.toNatClampNeg ((x1 * 4) + (G 26 0 (Int32.toNatClampNeg x1)))) x4))) else none) else none) else none) else none) else none) else (some ((-1), G))) else none))
def rm_X3_addPlace : Room := { frames := 1, cells := 0, slots := 0, locals := 21 }
set_option maxRecDepth 20000 in
set_option maxHeartbeats 4000000 in
theorem c_X3_addPlace {l : Launch} {D : va_G} {ad : Nat → Nat → Nat → Nat} {cI cZ cP : ClassId} {A : Nat → Prop} {w : Nat} (hw : w < 2) {G V U : MT} {x1 : Int32} {x2 : Int32} {x3 : Int32} {x4 : Int32} {r : Int32} {G' : MT}  (hF : f_X3_addPlace G x1 x2 x3 x4 = some (r, G')) : Met l yX3_addPlace (.code yX3_addPlace cX3_addPlace 7 (some .int) :: WM) rm_X3_addPlace (PcM D ad cI cZ cP A [.ref (ad 2 22 0), .int x1, .int x2, .int x3, .int x4] (Pic D ad cI cZ cP w G V U)) (QcI A r (Pic D ad cI cZ cP w G' V U)) 0 0 A := by
  refine m_entry (by decide) (Nat.le_of_ble_eq_true rfl) (fun p e s m below meth c ls X hP hS hl => ?_)
  have X : MX p s m _ meth c cX3_addPlace RX3 7 (some .int) D ad cI cZ cP A := X
  obtain ⟨hx, hb, hml, hown, htm, hr, hlk, hE⟩ := id X
  have hl : lv_has ls 7 [(0, .ref (ad 2 22 0)), (1, .int x1), (2, .int x2), (3, .int x3), (4, .int x4)] := hl
  refine lv_aload_n hx hb dX3_addPlace_0 rfl (lv_at hl 0 rfl) ?_
  refine lv_iload_n hx hb dX3_addPlace_1 rfl (lv_at hl 1 rfl) ?_
  obtain ⟨r1, hc1, hF⟩ := ob_S hF
  refine m_cVi X hS vw_X3_hasSpec qw_130 (c_X3_hasSpec hw hc1) ⟨rfl, rfl⟩ ⟨Nat.le_of_ble_eq_true rfl, Nat.le_of_ble_eq_true rfl⟩ (rc_22 hE hP) hP rfl hl.1 (rest := []) rfl (Nat.le_of_ble_eq_true rfl) dX3_addPlace_2 (fun H locs hP hS => ?_)
  refine lv_if_eq (tgt := 18) hx hb dX3_addPlace_5 (by decide) (fun c2 => ?_) (fun c2 => ?_)
  · have hF := ite_T c2 hF
    refine lv_iconst (v := (-1)) hx hb dX3_addPlace_18 (by decide) ?_
    obtain ⟨e1, e2⟩ := Prod.mk.inj (Option.some.inj hF)
    subst e1
    subst e2
    exact m_iret X hS hP rfl dX3_addPlace_19
  · have hF := ite_F c2 hF
    refine lv_aload_n hx hb dX3_addPlace_8 rfl (lv_at hl 0 rfl) ?_
    refine gf_22_4 hx hb htm hown hE hP (htm _ qw_122) dX3_addPlace_9 ?_
    refine lv_iload_n hx hb dX3_addPlace_12 rfl (lv_at hl 1 rfl) ?_
    obtain ⟨hn3, hF⟩ := ite_S hF
    refine al_26 hx hb htm hown hE hP hn3 dX3_addPlace_13 ?_
    refine lv_iconst (v := 4) hx hb dX3_addPlace_14 (by decide) ?_
    refine lv_icmp_lt (tgt := 20) hx hb dX3_addPlace_15 (by decide) (fun c4 => ?_) (fun c4 => ?_)
    · have hF := ite_T c4 hF
      refine lv_aload_n hx hb dX3_addPlace_20 rfl (lv_at hl 0 rfl) ?_
      refine gf_22_4 hx hb htm hown hE hP (htm _ qw_122) dX3_addPlace_21 ?_
      refine lv_iload_n hx hb dX3_addPlace_24 rfl (lv_at hl 1 rfl) ?_
      obtain ⟨hn5, hF⟩ := ite_S hF
      refine al_26 hx hb htm hown hE hP hn5 dX3_addPlace_25 ?_
      refine lv_istore (lv' := [(5, .int (G 26 0 (Int32.toNatClampNeg x1))), (0, .ref (ad 2 22 0)), (1, .int x1), (2, .int x2), (3, .int x3), (4, .int x4)]) hx hb dX3_addPlace_26 hl (by decide) rfl (fun ls hl => ?_)
      refine lv_aload_n hx hb dX3_addPlace_28 rfl (lv_at hl 1 rfl) ?_
      refine gf_22_4 hx hb htm hown hE hP (htm _ qw_122) dX3_addPlace_29 ?_
      refine lv_iload_n hx hb dX3_addPlace_32 rfl (lv_at hl 2 rfl) ?_
      refine lv_iload hx hb dX3_addPlace_33 (lv_at hl 0 rfl) ?_
      refine lv_iconst (v := 1) hx hb dX3_addPlace_35 (by decide) ?_
      refine lv_iadd hx hb dX3_addPlace_36 ?_
      obtain ⟨hn6, hF⟩ := ite_S hF
      refine as_26 hx hb htm hown hE hP hS hn6 dX3_addPlace_37 (fun H locs hP hS => ?_)
      refine lv_iload_n hx hb dX3_addPlace_38 rfl (lv_at hl 2 rfl) ?_
      refine lv_iconst (v := 4) hx hb dX3_addPlace_39 (by decide) ?_
      refine lv_imul hx hb dX3_addPlace_40 ?_
      refine lv_iload hx hb dX3_addPlace_41 (lv_at hl 0 rfl) ?_
      refine lv_iadd hx hb dX3_addPlace_43 ?_
      refine lv_istore (lv' := [(6, .int ((x1 * 4) + (G 26 0 (Int32.toNatClampNeg x1)))), (5, .int (G 26 0 (Int32.toNatClampNeg x1))), (0, .ref (ad 2 22 0)), (1, .int x1), (2, .int x2), (3, .int x3), (4, .int x4)]) hx hb dX3_addPlace_44 hl (by decide) rfl (fun ls hl => ?_)
      refine lv_aload_n hx hb dX3_addPlace_46 rfl (lv_at hl 2 rfl) ?_
      refine gf_22_5 hx hb htm hown hE hP (htm _ qw_124) dX3_addPlace_47 ?_
      refine lv_iload hx hb dX3_addPlace_50 (lv_at hl 0 rfl) ?_
      refine lv_iload_n hx hb dX3_addPlace_52 rfl (lv_at hl 4 rfl) ?_
      obtain ⟨hn7, hF⟩ := ite_S hF
      refine mzs hx hb htm hown hE hP hS hn7 dX3_addPlace_53 (fun H locs hP hS => ?_)
      refine lv_aload_n hx hb dX3_addPlace_54 rfl (lv_at hl 2 rfl) ?_
      refine gf_22_6 hx hb htm hown hE hP (htm _ qw_125) dX3_addPlace_55 ?_
      refine lv_iload hx hb dX3_addPlace_58 (lv_at hl 0 rfl) ?_
      refine lv_iload_n hx hb dX3_addPlace_60 rfl (lv_at hl 5 rfl) ?_
      obtain ⟨hn8, hF⟩ := ite_S hF
      refine as_28 hx hb htm hown hE hP hS hn8 dX3_addPlace_61 (fun H locs hP hS => ?_)
      refine lv_aload_n hx hb dX3_addPlace_62 rfl (lv_at hl 2 rfl) ?_
      refine gf_22_7 hx hb htm hown hE hP (htm _ qw_126) dX3_addPlace_63 ?_
      refine lv_iload hx hb dX3_addPlace_66 (lv_at hl 0 rfl) ?_
      refine lv_iload hx hb dX3_addPlace_68 (lv_at hl 6 rfl) ?_
      obtain ⟨hn9, hF⟩ := ite_S hF
      refine as_29 hx hb htm hown hE hP hS hn9 dX3_addPlace_70 (fun H locs hP hS => ?_)
      refine lv_iload hx hb dX3_addPlace_71 (lv_at hl 1 rfl) ?_
      obtain ⟨e1, e2⟩ := Prod.mk.inj (Option.some.inj hF)
      subst e1
      subst e2
      exact m_iret X hS hP rfl dX3_addPlace_73
    · have hF := ite_F c4 hF
      refine lv_iconst (v := (-1)) hx hb dX3_addPlace_18 (by decide) ?_
      obtain ⟨e1, e2⟩ := Prod.mk.inj (Option.some.inj hF)
      subst e1
      subst e2
      exact m_iret X hS hP rfl dX3_addPlace_19
def f_X4_add_2 : Nat → Nat → Int32 → Int32 → MT → Option (MT)
  | 0, _, _, _, _ => none
  | n + 1, j0, y1, y2, V => if V 13 j0 2 ≤ y2 then (if 24 ≤ V 13 j0 2 then (some V) else (if ¬ (V 13 j0 2 < 0 ∨ 24 ≤ Int32.toNatClampNeg (V 13 j0 2)) then (if ¬ ((pt V 14 j0 (Int32.toNatClampNeg (V 13 j0 2)) y1) 13 j0 2 < 0 ∨ 24 ≤ Int32.toNatClampNeg ((pt V 14 j0 (Int32.toNatClampNeg (V 13 j0 2)) y1) 13 j0 2)) then (some (pt (pt (pt V 14 j0 (Int32.toNatClampNeg (V 13 j0 2)) y1) 15 j0 (Int32.toNatClampNeg ((pt V 14 j0 (Int32.toNatClampNeg (V 13 j0 2)) y1) 13 j0 2)) 1) 13 j0 2 (((pt (pt V 14 j0 (Int32.toNatClampNeg (V 13 j0 2)) y1) 15 j0 (Int32.toNatClampNeg ((pt V 14 j0 (Int32.toNatClampNeg (V 13 j0 2)) y1) 13 j0 2)) 1) 13 j0 2) + 1))) else none) else none)) else (if 24 ≤ y2 then (if 24 ≤ V 13 j0 2 then (some V) else (if ¬ (V 13 j0 2 < 0 ∨ 24 ≤ Int32.toNatClampNeg (V 13 j0 2)) then (if ¬ ((pt V 14 j0 (Int32.toNatClampNeg (V 13 j0 2)) y1) 13 j0 2 < 0 ∨ 24 ≤ Int32.toNatClampNeg ((pt V 14 j0 (Int32.toNatClampNeg (V 13 j0 2)) y1) 13 j0 2)) then (some (pt (pt (pt V 14 j0 (Int32.toNatClampNeg (V 13 j0 2)) y1) 15 j0 (Int32.toNatClampNeg ((pt V 14 j0 (Int32.toNatClampNeg (V 13 j0 2)) y1) 13 j0 2)) 1) 13 j0 2 (((pt (pt V 14 j0 (Int32.toNatClampNeg (V 13 j0 2)) y1) 15 j0 (Int32.toNatClampNeg ((pt V 14 j0 (Int32.toNatClampNeg (V 13 j0 2)) y1) 13 j0 2)) 1) 13 j0 2) + 1))) else none) else none)) else (if ¬ (y2 < 0 ∨ 24 ≤ Int32.toNatClampNeg y2) then (if V 14 j0 (Int32.toNatClampNeg y2) = y1 then (if ¬ (y2 < 0 ∨ 24 ≤ Int32.toNatClampNeg y2) then (if ¬ (y2 < 0 ∨ 24 ≤ Int32.toNatClampNeg y2) then (some (pt V 15 j0 (Int32.toNatClampNeg y2) ((V 15 j0 (Int32.toNatClampNeg y2)) + 1))) else none) else none) else ((f_X4_add_2 n) j0 y1 (y2 + 1) V)) else none))
def f_X4_add (V : MT) (i0 : Nat) (x1 : Int32) : Option (MT) :=
  f_X4_add_2   30 i0 x1 0 V
def rm_X4_add : Room := { frames := 0, cells := 0, slots := 0, locals := 0 }
set_option maxRecDepth 20000 in
set_option maxHeartbeats 4000000 in
theorem l_X4_add_2 {p : Program} {l : Launch} {e : Env} {s : State} {m : MethodId} {args : Array Value} {below : List Frame} {meth : Method} {c : Code} {D : va_G} {ad : Nat → Nat → Nat → Nat} {cI cZ cP : ClassId} {A : Nat → Prop} {G U : MT} {V' : MT} (X : MX p s m args meth c cX4_add RX4 3 none D ad cI cZ cP A) {w : Nat} (hw : w < 2) (n : Nat) : ∀ {H : Heap} {locs : List Loc} {ls : Array Slot} (j0 : Nat) (y1 : Int32) (y2 : Int32) (V : MT), j0 < 24 → Pic D ad cI cZ cP w G V U H → va_S A s.heap H locs → lv_has ls 3 [(0, .ref (ad w 13 j0)), (1, .int y1), (2, .int y2)] → f_X4_add_2 n j0 y1 y2 V = some V' → W p l e rm_X4_add s m args below meth c H locs 0 0 (MQ below (QcV A (Pic D ad cI cZ cP w G V' U)) args s 0 0 A) (F0 m 2 ls []) := by
  obtain ⟨hx, hb, hml, hown, htm, hr, hlk, hE⟩ := id X
  induction n with
  | zero =>
    intros
    exact ns_S (by assumption)
  | succ n ih2 =>
    intro H locs ls j0 y1 y2 V hj0  hP hS hl hF
    rw [f_X4_add_2] at hF
    refine lv_iload_n hx hb dX4_add_2 rfl (lv_at hl 2 rfl) ?_
    refine lv_aload_n hx hb dX4_add_3 rfl (lv_at hl 0 rfl) ?_
    refine gf_13_2 hx hb htm hown hE hP hw hj0 (htm _ qw_71) dX4_add_4 ?_
    refine lv_icmp_ge (tgt := 43) hx hb dX4_add_7 (by decide) (fun c1 => ?_) (fun c1 => ?_)
    · have hF := ite_T c1 hF
      refine lv_aload_n hx hb dX4_add_43 rfl (lv_at hl 0 rfl) ?_
      refine gf_13_2 hx hb htm hown hE hP hw hj0 (htm _ qw_71) dX4_add_44 ?_
      refine lv_bipush (v := 24) hx hb dX4_add_47 (by decide) ?_
      refine lv_icmp_ge (tgt := 82) hx hb dX4_add_49 (by decide) (fun c2 => ?_) (fun c2 => ?_)
      · have hF := ite_T c2 hF
        have e1 := Option.some.inj hF
        subst e1
        exact m_vret X hS hP dX4_add_82
      · have hF := ite_F c2 hF
        refine lv_aload_n hx hb dX4_add_52 rfl (lv_at hl 0 rfl) ?_
        refine gf_13_0 hx hb htm hown hE hP hw hj0 (htm _ qw_40) dX4_add_53 ?_
        refine lv_aload_n hx hb dX4_add_56 rfl (lv_at hl 0 rfl) ?_
        refine gf_13_2 hx hb htm hown hE hP hw hj0 (htm _ qw_71) dX4_add_57 ?_
        refine lv_iload_n hx hb dX4_add_60 rfl (lv_at hl 1 rfl) ?_
        obtain ⟨hn3, hF⟩ := ite_S hF
        refine as_14 hx hb htm hown hE hP hS hw hj0 hn3 dX4_add_61 (fun H locs hP hS => ?_)
        refine lv_aload_n hx hb dX4_add_62 rfl (lv_at hl 0 rfl) ?_
        refine gf_13_1 hx hb htm hown hE hP hw hj0 (htm _ qw_41) dX4_add_63 ?_
        refine lv_aload_n hx hb dX4_add_66 rfl (lv_at hl 0 rfl) ?_
        refine gf_13_2 hx hb htm hown hE hP hw hj0 (htm _ qw_71) dX4_add_67 ?_
        refine lv_iconst (v := 1) hx hb dX4_add_70 (by decide) ?_
        obtain ⟨hn4, hF⟩ := ite_S hF
        refine as_15 hx hb htm hown hE hP hS hw hj0 hn4 dX4_add_71 (fun H locs hP hS => ?_)
        refine lv_aload_n hx hb dX4_add_72 rfl (lv_at hl 0 rfl) ?_
        refine lv_dup hx hb dX4_add_73 rfl ?_
        refine gf_13_2 hx hb htm hown hE hP hw hj0 (htm _ qw_71) dX4_add_74 ?_
        refine lv_iconst (v := 1) hx hb dX4_add_77 (by decide) ?_
        refine lv_iadd hx hb dX4_add_78 ?_
        refine pf_13_2 hx hb htm hown hE hP hS hw hj0 (htm _ qw_71) dX4_add_79 (fun H locs hP hS => ?_)
        have e1 := Option.some.inj hF
        subst e1
        exact m_vret X hS hP dX4_add_82
    · have hF := ite_F c1 hF
      refine lv_iload_n hx hb dX4_add_10 rfl (lv_at hl 2 rfl) ?_
      refine lv_bipush (v := 24) hx hb dX4_add_11 (by decide) ?_
      refine lv_icmp_ge (tgt := 43) hx hb dX4_add_13 (by decide) (fun c5 => ?_) (fun c5 => ?_)
      · have hF := ite_T c5 hF
        refine lv_aload_n hx hb dX4_add_43 rfl (lv_at hl 0 rfl) ?_
        refine gf_13_2 hx hb htm hown hE hP hw hj0 (htm _ qw_71) dX4_add_44 ?_
        refine lv_bipush (v := 24) hx hb dX4_add_47 (by decide) ?_
        refine lv_icmp_ge (tgt := 82) hx hb dX4_add_49 (by decide) (fun c6 => ?_) (fun c6 => ?_)
        · have hF := ite_T c6 hF
          have e1 := Option.some.inj hF
          subst e1
          exact m_vret X hS hP dX4_add_82
        · have hF := ite_F c6 hF
          refine lv_aload_n hx hb dX4_add_52 rfl (lv_at hl 0 rfl) ?_
          refine gf_13_0 hx hb htm hown hE hP hw hj0 (htm _ qw_40) dX4_add_53 ?_
          refine lv_aload_n hx hb dX4_add_56 rfl (lv_at hl 0 rfl) ?_
          refine gf_13_2 hx hb htm hown hE hP hw hj0 (htm _ qw_71) dX4_add_57 ?_
          refine lv_iload_n hx hb dX4_add_60 rfl (lv_at hl 1 rfl) ?_
          obtain ⟨hn7, hF⟩ := ite_S hF
          refine as_14 hx hb htm hown hE hP hS hw hj0 hn7 dX4_add_61 (fun H locs hP hS => ?_)
          refine lv_aload_n hx hb dX4_add_62 rfl (lv_at hl 0 rfl) ?_
          refine gf_13_1 hx hb htm hown hE hP hw hj0 (htm _ qw_41) dX4_add_63 ?_
          refine lv_aload_n hx hb dX4_add_66 rfl (lv_at hl 0 rfl) ?_
          refine gf_13_2 hx hb htm hown hE hP hw hj0 (htm _ qw_71) dX4_add_67 ?_
          refine lv_iconst (v := 1) hx hb dX4_add_70 (by decide) ?_
          obtain ⟨hn8, hF⟩ := ite_S hF
          refine as_15 hx hb htm hown hE hP hS hw hj0 hn8 dX4_add_71 (fun H locs hP hS => ?_)
          refine lv_aload_n hx hb dX4_add_72 rfl (lv_at hl 0 rfl) ?_
          refine lv_dup hx hb dX4_add_73 rfl ?_
          refine gf_13_2 hx hb htm hown hE hP hw hj0 (htm _ qw_71) dX4_add_74 ?_
          refine lv_iconst (v := 1) hx hb dX4_add_77 (by decide) ?_
          refine lv_iadd hx hb dX4_add_78 ?_
          refine pf_13_2 hx hb htm hown hE hP hS hw hj0 (htm _ qw_71) dX4_add_79 (fun H locs hP hS => ?_)
          have e1 := Option.some.inj hF
          subst e1
          exact m_vret X hS hP dX4_add_82
      · have hF := ite_F c5 hF
        refine lv_aload_n hx hb dX4_add_16 rfl (lv_at hl 0 rfl) ?_
        refine gf_13_0 hx hb htm hown hE hP hw hj0 (htm _ qw_40) dX4_add_17 ?_
        refine lv_iload_n hx hb dX4_add_20 rfl (lv_at hl 2 rfl) ?_
        obtain ⟨hn9, hF⟩ := ite_S hF
        refine al_14 hx hb htm hown hE hP hw hj0 hn9 dX4_add_21 ?_
        refine lv_iload_n hx hb dX4_add_22 rfl (lv_at hl 1 rfl) ?_
        refine lv_icmp_ne (tgt := 37) hx hb dX4_add_23 (by decide) (fun c10 => ?_) (fun c10 => ?_)
        · have hF := ite_F c10 hF
          refine lv_iinc (v := y2 + 1) (lv' := [(2, .int (y2 + 1)), (0, .ref (ad w 13 j0)), (1, .int y1)]) hx hb dX4_add_37 hl (k := 2) rfl rfl (by decide) rfl (fun ls hl => ?_)
          refine lv_goto (tgt := 2) hx hb dX4_add_40 (by decide) ?_
          exact ih2 _ _ _ _ hj0 hP hS (lv_sub hl [1, 2, 0] rfl) hF
        · have hF := ite_T c10 hF
          refine lv_aload_n hx hb dX4_add_26 rfl (lv_at hl 0 rfl) ?_
          refine gf_13_1 hx hb htm hown hE hP hw hj0 (htm _ qw_41) dX4_add_27 ?_
          refine lv_iload_n hx hb dX4_add_30 rfl (lv_at hl 2 rfl) ?_
          refine lv_dup2_11 hx hb dX4_add_31 rfl rfl ?_
          obtain ⟨hn11, hF⟩ := ite_S hF
          refine al_15 hx hb htm hown hE hP hw hj0 hn11 dX4_add_32 ?_
          refine lv_iconst (v := 1) hx hb dX4_add_33 (by decide) ?_
          refine lv_iadd hx hb dX4_add_34 ?_
          obtain ⟨hn12, hF⟩ := ite_S hF
          refine as_15 hx hb htm hown hE hP hS hw hj0 hn12 dX4_add_35 (fun H locs hP hS => ?_)
          have e1 := Option.some.inj hF
          subst e1
          exact m_vret X hS hP dX4_add_36
set_option maxRecDepth 20000 in
set_option maxHeartbeats 4000000 in
theorem c_X4_add {l : Launch} {D : va_G} {ad : Nat → Nat → Nat → Nat} {cI cZ cP : ClassId} {A : Nat → Prop} {w : Nat} (hw : w < 2) {G V U : MT} {i0 : Nat} {x1 : Int32} {V' : MT}  (hi0 : i0 < 24) (hF : f_X4_add V i0 x1 = some V') : Met l yX4_add (.code yX4_add cX4_add 3 none :: WM) rm_X4_add (PcM D ad cI cZ cP A [.ref (ad w 13 i0), .int x1] (Pic D ad cI cZ cP w G V U)) (QcV A (Pic D ad cI cZ cP w G V' U)) 0 0 A := by
  refine m_entry (by decide) (Nat.le_of_ble_eq_true rfl) (fun p e s m below meth c ls X hP hS hl => ?_)
  have X : MX p s m _ meth c cX4_add RX4 3 none D ad cI cZ cP A := X
  obtain ⟨hx, hb, hml, hown, htm, hr, hlk, hE⟩ := id X
  have hl : lv_has ls 3 [(0, .ref (ad w 13 i0)), (1, .int x1)] := hl
  refine lv_iconst (v := 0) hx hb dX4_add_0 (by decide) ?_
  refine lv_istore_n (lv' := [(2, .int 0), (0, .ref (ad w 13 i0)), (1, .int x1)]) hx hb dX4_add_1 rfl hl (by decide) rfl (fun ls hl => ?_)
  exact l_X4_add_2 X hw  30 _ _ _ _ hi0 hP hS (lv_sub hl [1, 2, 0] rfl) hF
def f_X4_copyFrom (V U : MT) (i0 : Nat) (i1 : Nat) : Option (MT) :=
  some (pt (ct (ct V 14 i0 (U 14 i1) 24) 15 i0 (U 15 i1) 24) 13 i0 2 (U 13 i1 2))
def rm_X4_copyFrom : Room := { frames := 1, cells := 0, slots := 0, locals := 40 }
set_option maxRecDepth 20000 in
set_option maxHeartbeats 4000000 in
theorem c_X4_copyFrom {l : Launch} {D : va_G} {ad : Nat → Nat → Nat → Nat} {cI cZ cP : ClassId} {A : Nat → Prop} {w w' : Nat} (hw : w < 2) (hw' : w' < 2) (hww : w + w' = 1) {G V U : MT} {i0 : Nat} {i1 : Nat} {V' : MT}  (hi0 : i0 < 24) (hi1 : i1 < 24) (hF : f_X4_copyFrom V U i0 i1 = some V') : Met l yX4_copyFrom (.code yX4_copyFrom cX4_copyFrom 2 none :: WM) rm_X4_copyFrom (PcM D ad cI cZ cP A [.ref (ad w 13 i0), .ref (ad w' 13 i1)] (Pic D ad cI cZ cP w G V U)) (QcV A (Pic D ad cI cZ cP w G V' U)) 0 0 A := by
  refine m_entry (by decide) (Nat.le_of_ble_eq_true rfl) (fun p e s m below meth c ls X hP hS hl => ?_)
  have X : MX p s m _ meth c cX4_copyFrom RX4 2 none D ad cI cZ cP A := X
  obtain ⟨hx, hb, hml, hown, htm, hr, hlk, hE⟩ := id X
  have hl : lv_has ls 2 [(0, .ref (ad w 13 i0)), (1, .ref (ad w' 13 i1))] := hl
  refine lv_aload_n hx hb dX4_copyFrom_0 rfl (lv_at hl 1 rfl) ?_
  refine gf_13_0 hx hb htm hown hE (hP.swap hww) hw' hi1 (htm _ qw_40) dX4_copyFrom_1 ?_
  refine lv_iconst (v := 0) hx hb dX4_copyFrom_4 (by decide) ?_
  refine lv_aload_n hx hb dX4_copyFrom_5 rfl (lv_at hl 0 rfl) ?_
  refine gf_13_0 hx hb htm hown hE hP hw hi0 (htm _ qw_40) dX4_copyFrom_6 ?_
  refine lv_iconst (v := 0) hx hb dX4_copyFrom_9 (by decide) ?_
  refine lv_bipush (v := 24) hx hb dX4_copyFrom_10 (by decide) ?_
  refine cp_14 hx hb (hml.trans hl.1.symm) hown htm hE hP hS hw hw' hww hi0 hi1 (htm _ qw_70) (Nat.le_of_ble_eq_true rfl) (Nat.le_of_ble_eq_true rfl) dX4_copyFrom_12 (fun H locs hP hS => ?_)
  refine lv_aload_n hx hb dX4_copyFrom_15 rfl (lv_at hl 1 rfl) ?_
  refine gf_13_1 hx hb htm hown hE (hP.swap hww) hw' hi1 (htm _ qw_41) dX4_copyFrom_16 ?_
  refine lv_iconst (v := 0) hx hb dX4_copyFrom_19 (by decide) ?_
  refine lv_aload_n hx hb dX4_copyFrom_20 rfl (lv_at hl 0 rfl) ?_
  refine gf_13_1 hx hb htm hown hE hP hw hi0 (htm _ qw_41) dX4_copyFrom_21 ?_
  refine lv_iconst (v := 0) hx hb dX4_copyFrom_24 (by decide) ?_
  refine lv_bipush (v := 24) hx hb dX4_copyFrom_25 (by decide) ?_
  refine cp_15 hx hb (hml.trans hl.1.symm) hown htm hE hP hS hw hw' hww hi0 hi1 (htm _ qw_70) (Nat.le_of_ble_eq_true rfl) (Nat.le_of_ble_eq_true rfl) dX4_copyFrom_27 (fun H locs hP hS => ?_)
  refine lv_aload_n hx hb dX4_copyFrom_30 rfl (lv_at hl 0 rfl) ?_
  refine lv_aload_n hx hb dX4_copyFrom_31 rfl (lv_at hl 1 rfl) ?_
  refine gf_13_2 hx hb htm hown hE (hP.swap hww) hw' hi1 (htm _ qw_71) dX4_copyFrom_32 ?_
  refine pf_13_2 hx hb htm hown hE hP hS hw hi0 (htm _ qw_71) dX4_copyFrom_35 (fun H locs hP hS => ?_)
  have e1 := Option.some.inj hF
  subst e1
  exact m_vret X hS hP dX4_copyFrom_38
def f_X0_put (V : MT) (i0 : Nat) (x1 : Int32) (x2 : Int32) : Option (Int32 × MT) :=
  if V 10 i0 2 < 8 then (if ¬ (V 10 i0 2 < 0 ∨ 8 ≤ Int32.toNatClampNeg (V 10 i0 2)) then (if ¬ ((pt V 11 i0 (Int32.toNatClampNeg (V 10 i0 2)) x1) 10 i0 2 < 0 ∨ 8 ≤ Int32.toNatClampNeg ((pt V 11 i0 (Int32.toNatClampNeg (V 10 i0 2)) x1) 10 i0 2)) then (some (1, (pt (pt (pt V 11 i0 (Int32.toNatClampNeg (V 10 i0 2)) x1) 12 i0 (Int32.toNatClampNeg ((pt V 11 i0 (Int32.toNatClampNeg (V 10 i0 2)) x1) 10 i0 2)) x2) 10 i0 2 (((pt (pt V 11 i0 (Int32.toNatClampNeg (V 10 i0 2)) x1) 12 i0 (Int32.toNatClampNeg ((pt V 11 i0 (Int32.toNatClampNeg (V 10 i0 2)) x1) 10 i0 2)) x2) 10 i0 2) + 1)))) else none) else none) else (some (0, V))
def rm_X0_put : Room := { frames := 0, cells := 0, slots := 0, locals := 0 }
set_option maxRecDepth 20000 in
set_option maxHeartbeats 4000000 in
theorem c_X0_put {l : Launch} {D : va_G} {ad : Nat → Nat → Nat → Nat} {cI cZ cP : ClassId} {A : Nat → Prop} {w : Nat} (hw : w < 2) {G V U : MT} {i0 : Nat} {x1 : Int32} {x2 : Int32} {r : Int32} {V' : MT}  (hi0 : i0 < 24) (hF : f_X0_put V i0 x1 x2 = some (r, V')) : Met l yX0_put (.code yX0_put cX0_put 3 (some .boolean) :: WM) rm_X0_put (PcM D ad cI cZ cP A [.ref (ad w 10 i0), .int x1, .int x2] (Pic D ad cI cZ cP w G V U)) (QcI A r (Pic D ad cI cZ cP w G V' U)) 0 0 A := by
  refine m_entry (by decide) (Nat.le_of_ble_eq_true rfl) (fun p e s m below meth c ls X hP hS hl => ?_)
  have X : MX p s m _ meth c cX0_put RX0 3 (some .boolean) D ad cI cZ cP A := X
  obtain ⟨hx, hb, hml, hown, htm, hr, hlk, hE⟩ := id X
  have hl : lv_has ls 3 [(0, .ref (ad w 10 i0)), (1, .int x1), (2, .int x2)] := hl
  refine lv_aload_n hx hb dX0_put_0 rfl (lv_at hl 0 rfl) ?_
  refine gf_10_2 hx hb htm hown hE hP hw hi0 (htm _ qw_7) dX0_put_1 ?_
  refine lv_bipush (v := 8) hx hb dX0_put_4 (by decide) ?_
  refine lv_icmp_lt (tgt := 11) hx hb dX0_put_6 (by decide) (fun c1 => ?_) (fun c1 => ?_)
  · have hF := ite_T c1 hF
    refine lv_aload_n hx hb dX0_put_11 rfl (lv_at hl 0 rfl) ?_
    refine gf_10_0 hx hb htm hown hE hP hw hi0 (htm _ qw_4) dX0_put_12 ?_
    refine lv_aload_n hx hb dX0_put_15 rfl (lv_at hl 0 rfl) ?_
    refine gf_10_2 hx hb htm hown hE hP hw hi0 (htm _ qw_7) dX0_put_16 ?_
    refine lv_iload_n hx hb dX0_put_19 rfl (lv_at hl 1 rfl) ?_
    obtain ⟨hn2, hF⟩ := ite_S hF
    refine as_11 hx hb htm hown hE hP hS hw hi0 hn2 dX0_put_20 (fun H locs hP hS => ?_)
    refine lv_aload_n hx hb dX0_put_21 rfl (lv_at hl 0 rfl) ?_
    refine gf_10_1 hx hb htm hown hE hP hw hi0 (htm _ qw_5) dX0_put_22 ?_
    refine lv_aload_n hx hb dX0_put_25 rfl (lv_at hl 0 rfl) ?_
    refine gf_10_2 hx hb htm hown hE hP hw hi0 (htm _ qw_7) dX0_put_26 ?_
    refine lv_iload_n hx hb dX0_put_29 rfl (lv_at hl 2 rfl) ?_
    obtain ⟨hn3, hF⟩ := ite_S hF
    refine as_12 hx hb htm hown hE hP hS hw hi0 hn3 dX0_put_30 (fun H locs hP hS => ?_)
    refine lv_aload_n hx hb dX0_put_31 rfl (lv_at hl 0 rfl) ?_
    refine lv_dup hx hb dX0_put_32 rfl ?_
    refine gf_10_2 hx hb htm hown hE hP hw hi0 (htm _ qw_7) dX0_put_33 ?_
    refine lv_iconst (v := 1) hx hb dX0_put_36 (by decide) ?_
    refine lv_iadd hx hb dX0_put_37 ?_
    refine pf_10_2 hx hb htm hown hE hP hS hw hi0 (htm _ qw_7) dX0_put_38 (fun H locs hP hS => ?_)
    refine lv_iconst (v := 1) hx hb dX0_put_41 (by decide) ?_
    obtain ⟨e1, e2⟩ := Prod.mk.inj (Option.some.inj hF)
    subst e1
    subst e2
    exact m_zret X hS hP rfl (Or.inr rfl) dX0_put_42
  · have hF := ite_F c1 hF
    refine lv_iconst (v := 0) hx hb dX0_put_9 (by decide) ?_
    obtain ⟨e1, e2⟩ := Prod.mk.inj (Option.some.inj hF)
    subst e1
    subst e2
    exact m_zret X hS hP rfl (Or.inl rfl) dX0_put_10
def f_X0_firstOf_2 (V : MT) : Nat → Nat → Int32 → Int32 → Option (Int32)
  | 0, _, _, _ => none
  | n + 1, j0, y1, y2 => if V 10 j0 2 ≤ y2 then (some (-1)) else (if 8 ≤ y2 then (some (-1)) else (if y1 = 4 then (some y2) else (if ¬ (y2 < 0 ∨ 8 ≤ Int32.toNatClampNeg y2) then (if V 11 j0 (Int32.toNatClampNeg y2) = y1 then (some y2) else ((f_X0_firstOf_2 V n) j0 y1 (y2 + 1))) else none)))
def f_X0_firstOf (V : MT) (i0 : Nat) (x1 : Int32) : Option (Int32) :=
  f_X0_firstOf_2 V  30 i0 x1 0
def rm_X0_firstOf : Room := { frames := 0, cells := 0, slots := 0, locals := 0 }
set_option maxRecDepth 20000 in
set_option maxHeartbeats 4000000 in
theorem l_X0_firstOf_2 {p : Program} {l : Launch} {e : Env} {s : State} {m : MethodId} {args : Array Value} {below : List Frame} {meth : Method} {c : Code} {D : va_G} {ad : Nat → Nat → Nat → Nat} {cI cZ cP : ClassId} {A : Nat → Prop} {G V U : MT} {r : Int32} (X : MX p s m args meth c cX0_firstOf RX0 3 (some .int) D ad cI cZ cP A) {w : Nat} (hw : w < 2) (n : Nat) : ∀ {H : Heap} {locs : List Loc} {ls : Array Slot} (j0 : Nat) (y1 : Int32) (y2 : Int32), j0 < 24 → Pic D ad cI cZ cP w G V U H → va_S A s.heap H locs → lv_has ls 3 [(0, .ref (ad w 10 j0)), (1, .int y1), (2, .int y2)] → f_X0_firstOf_2 V n j0 y1 y2 = some r → W p l e rm_X0_firstOf s m args below meth c H locs 0 0 (MQ below (QcI A r (Pic D ad cI cZ cP w G V U)) args s 0 0 A) (F0 m 2 ls []) := by
  obtain ⟨hx, hb, hml, hown, htm, hr, hlk, hE⟩ := id X
  induction n with
  | zero =>
    intros
    exact ns_S (by assumption)
  | succ n ih2 =>
    intro H locs ls j0 y1 y2 hj0  hP hS hl hF
    rw [f_X0_firstOf_2] at hF
    refine lv_iload_n hx hb dX0_firstOf_2 rfl (lv_at hl 2 rfl) ?_
    refine lv_aload_n hx hb dX0_firstOf_3 rfl (lv_at hl 0 rfl) ?_
    refine gf_10_2 hx hb htm hown hE hP hw hj0 (htm _ qw_7) dX0_firstOf_4 ?_
    refine lv_icmp_ge (tgt := 39) hx hb dX0_firstOf_7 (by decide) (fun c1 => ?_) (fun c1 => ?_)
    · have hF := ite_T c1 hF
      refine lv_iconst (v := (-1)) hx hb dX0_firstOf_39 (by decide) ?_
      have e1 := Option.some.inj hF
      subst e1
      exact m_iret X hS hP rfl dX0_firstOf_40
    · have hF := ite_F c1 hF
      refine lv_iload_n hx hb dX0_firstOf_10 rfl (lv_at hl 2 rfl) ?_
      refine lv_bipush (v := 8) hx hb dX0_firstOf_11 (by decide) ?_
      refine lv_icmp_ge (tgt := 39) hx hb dX0_firstOf_13 (by decide) (fun c2 => ?_) (fun c2 => ?_)
      · have hF := ite_T c2 hF
        refine lv_iconst (v := (-1)) hx hb dX0_firstOf_39 (by decide) ?_
        have e1 := Option.some.inj hF
        subst e1
        exact m_iret X hS hP rfl dX0_firstOf_40
      · have hF := ite_F c2 hF
        refine lv_iload_n hx hb dX0_firstOf_16 rfl (lv_at hl 1 rfl) ?_
        refine lv_iconst (v := 4) hx hb dX0_firstOf_17 (by decide) ?_
        refine lv_icmp_eq (tgt := 31) hx hb dX0_firstOf_18 (by decide) (fun c3 => ?_) (fun c3 => ?_)
        · have hF := ite_T c3 hF
          refine lv_iload_n hx hb dX0_firstOf_31 rfl (lv_at hl 2 rfl) ?_
          have e1 := Option.some.inj hF
          subst e1
          exact m_iret X hS hP rfl dX0_firstOf_32
        · have hF := ite_F c3 hF
          refine lv_aload_n hx hb dX0_firstOf_21 rfl (lv_at hl 0 rfl) ?_
          refine gf_10_0 hx hb htm hown hE hP hw hj0 (htm _ qw_4) dX0_firstOf_22 ?_
          refine lv_iload_n hx hb dX0_firstOf_25 rfl (lv_at hl 2 rfl) ?_
          obtain ⟨hn4, hF⟩ := ite_S hF
          refine al_11 hx hb htm hown hE hP hw hj0 hn4 dX0_firstOf_26 ?_
          refine lv_iload_n hx hb dX0_firstOf_27 rfl (lv_at hl 1 rfl) ?_
          refine lv_icmp_ne (tgt := 33) hx hb dX0_firstOf_28 (by decide) (fun c5 => ?_) (fun c5 => ?_)
          · have hF := ite_F c5 hF
            refine lv_iinc (v := y2 + 1) (lv' := [(2, .int (y2 + 1)), (0, .ref (ad w 10 j0)), (1, .int y1)]) hx hb dX0_firstOf_33 hl (k := 2) rfl rfl (by decide) rfl (fun ls hl => ?_)
            refine lv_goto (tgt := 2) hx hb dX0_firstOf_36 (by decide) ?_
            exact ih2 _ _ _ hj0 hP hS (lv_sub hl [1, 2, 0] rfl) hF
          · have hF := ite_T c5 hF
            refine lv_iload_n hx hb dX0_firstOf_31 rfl (lv_at hl 2 rfl) ?_
            have e1 := Option.some.inj hF
            subst e1
            exact m_iret X hS hP rfl dX0_firstOf_32
set_option maxRecDepth 20000 in
set_option maxHeartbeats 4000000 in
theorem c_X0_firstOf {l : Launch} {D : va_G} {ad : Nat → Nat → Nat → Nat} {cI cZ cP : ClassId} {A : Nat → Prop} {w : Nat} (hw : w < 2) {G V U : MT} {i0 : Nat} {x1 : Int32} {r : Int32}  (hi0 : i0 < 24) (hF : f_X0_firstOf V i0 x1 = some r) : Met l yX0_firstOf (.code yX0_firstOf cX0_firstOf 3 (some .int) :: WM) rm_X0_firstOf (PcM D ad cI cZ cP A [.ref (ad w 10 i0), .int x1] (Pic D ad cI cZ cP w G V U)) (QcI A r (Pic D ad cI cZ cP w G V U)) 0 0 A := by
  refine m_entry (by decide) (Nat.le_of_ble_eq_true rfl) (fun p e s m below meth c ls X hP hS hl => ?_)
  have X : MX p s m _ meth c cX0_firstOf RX0 3 (some .int) D ad cI cZ cP A := X
  obtain ⟨hx, hb, hml, hown, htm, hr, hlk, hE⟩ := id X
  have hl : lv_has ls 3 [(0, .ref (ad w 10 i0)), (1, .int x1)] := hl
  refine lv_iconst (v := 0) hx hb dX0_firstOf_0 (by decide) ?_
  refine lv_istore_n (lv' := [(2, .int 0), (0, .ref (ad w 10 i0)), (1, .int x1)]) hx hb dX0_firstOf_1 rfl hl (by decide) rfl (fun ls hl => ?_)
  exact l_X0_firstOf_2 X hw  30 _ _ _ hi0 hP hS (lv_sub hl [1, 2, 0] rfl) hF
def f_X0_takeOut_33 : Nat → Nat → Int32 → Int32 → MT → Option (Int32 × MT)
  | 0, _, _, _, _ => none
  | n + 1, j0, y2, y3, V => if V 10 j0 2 ≤ y3 then (some (y2, (pt V 10 j0 2 ((V 10 j0 2) - 1)))) else (if 8 ≤ y3 then (some (y2, (pt V 10 j0 2 ((V 10 j0 2) - 1)))) else (if ¬ (y3 < 0 ∨ 8 ≤ Int32.toNatClampNeg y3) then (if ¬ (y3 - 1 < 0 ∨ 8 ≤ Int32.toNatClampNeg (y3 - 1)) then (if ¬ (y3 < 0 ∨ 8 ≤ Int32.toNatClampNeg y3) then (if ¬ (y3 - 1 < 0 ∨ 8 ≤ Int32.toNatClampNeg (y3 - 1)) then ((f_X0_takeOut_33 n) j0 y2 (y3 + 1) (pt (pt V 11 j0 (Int32.toNatClampNeg (y3 - 1)) (V 11 j0 (Int32.toNatClampNeg y3))) 12 j0 (Int32.toNatClampNeg (y3 - 1)) ((pt V 11 j0 (Int32.toNatClampNeg (y3 - 1)) (V 11 j0 (Int32.toNatClampNeg y3))) 12 j0 (Int32.toNatClampNeg y3)))) else none) else none) else none) else none))
def f_X0_takeOut (V : MT) (i0 : Nat) (x1 : Int32) : Option (Int32 × MT) :=
  (f_X6_isWithin x1 0 ((V 10 i0 2) - 1)).bind (fun q1_ => if q1_ = 0 then (some ((-1), V)) else (if x1 < 8 then (if ¬ (x1 < 0 ∨ 8 ≤ Int32.toNatClampNeg x1) then (f_X0_takeOut_33   30 i0 (V 12 i0 (Int32.toNatClampNeg x1)) (x1 + 1) V) else none) else (some ((-1), V))))
def rm_X0_takeOut : Room := { frames := 1, cells := 0, slots := 0, locals := 22 }
set_option maxRecDepth 20000 in
set_option maxHeartbeats 4000000 in
theorem l_X0_takeOut_33 {p : Program} {l : Launch} {e : Env} {s : State} {m : MethodId} {args : Array Value} {below : List Frame} {meth : Method} {c : Code} {D : va_G} {ad : Nat → Nat → Nat → Nat} {cI cZ cP : ClassId} {A : Nat → Prop} {G U : MT} {r : Int32} {V' : MT} (X : MX p s m args meth c cX0_takeOut RX0 4 (some .int) D ad cI cZ cP A) {w : Nat} (hw : w < 2) (n : Nat) : ∀ {H : Heap} {locs : List Loc} {ls : Array Slot} (j0 : Nat) (y2 : Int32) (y3 : Int32) (V : MT), j0 < 24 → Pic D ad cI cZ cP w G V U H → va_S A s.heap H locs → lv_has ls 4 [(0, .ref (ad w 10 j0)), (2, .int y2), (3, .int y3)] → f_X0_takeOut_33 n j0 y2 y3 V = some (r, V') → W p l e rm_X0_takeOut s m args below meth c H locs 0 0 (MQ below (QcI A r (Pic D ad cI cZ cP w G V' U)) args s 0 0 A) (F0 m 33 ls []) := by
  obtain ⟨hx, hb, hml, hown, htm, hr, hlk, hE⟩ := id X
  induction n with
  | zero =>
    intros
    exact ns_S (by assumption)
  | succ n ih33 =>
    intro H locs ls j0 y2 y3 V hj0  hP hS hl hF
    rw [f_X0_takeOut_33] at hF
    refine lv_iload_n hx hb dX0_takeOut_33 rfl (lv_at hl 2 rfl) ?_
    refine lv_aload_n hx hb dX0_takeOut_34 rfl (lv_at hl 0 rfl) ?_
    refine gf_10_2 hx hb htm hown hE hP hw hj0 (htm _ qw_7) dX0_takeOut_35 ?_
    refine lv_icmp_ge (tgt := 81) hx hb dX0_takeOut_38 (by decide) (fun c5 => ?_) (fun c5 => ?_)
    · have hF := ite_T c5 hF
      refine lv_aload_n hx hb dX0_takeOut_81 rfl (lv_at hl 0 rfl) ?_
      refine lv_dup hx hb dX0_takeOut_82 rfl ?_
      refine gf_10_2 hx hb htm hown hE hP hw hj0 (htm _ qw_7) dX0_takeOut_83 ?_
      refine lv_iconst (v := 1) hx hb dX0_takeOut_86 (by decide) ?_
      refine lv_isub hx hb dX0_takeOut_87 ?_
      refine pf_10_2 hx hb htm hown hE hP hS hw hj0 (htm _ qw_7) dX0_takeOut_88 (fun H locs hP hS => ?_)
      refine lv_iload_n hx hb dX0_takeOut_91 rfl (lv_at hl 1 rfl) ?_
      obtain ⟨e1, e2⟩ := Prod.mk.inj (Option.some.inj hF)
      subst e1
      subst e2
      exact m_iret X hS hP rfl dX0_takeOut_92
    · have hF := ite_F c5 hF
      refine lv_iload_n hx hb dX0_takeOut_41 rfl (lv_at hl 2 rfl) ?_
      refine lv_bipush (v := 8) hx hb dX0_takeOut_42 (by decide) ?_
      refine lv_icmp_ge (tgt := 81) hx hb dX0_takeOut_44 (by decide) (fun c6 => ?_) (fun c6 => ?_)
      · have hF := ite_T c6 hF
        refine lv_aload_n hx hb dX0_takeOut_81 rfl (lv_at hl 0 rfl) ?_
        refine lv_dup hx hb dX0_takeOut_82 rfl ?_
        refine gf_10_2 hx hb htm hown hE hP hw hj0 (htm _ qw_7) dX0_takeOut_83 ?_
        refine lv_iconst (v := 1) hx hb dX0_takeOut_86 (by decide) ?_
        refine lv_isub hx hb dX0_takeOut_87 ?_
        refine pf_10_2 hx hb htm hown hE hP hS hw hj0 (htm _ qw_7) dX0_takeOut_88 (fun H locs hP hS => ?_)
        refine lv_iload_n hx hb dX0_takeOut_91 rfl (lv_at hl 1 rfl) ?_
        obtain ⟨e1, e2⟩ := Prod.mk.inj (Option.some.inj hF)
        subst e1
        subst e2
        exact m_iret X hS hP rfl dX0_takeOut_92
      · have hF := ite_F c6 hF
        refine lv_aload_n hx hb dX0_takeOut_47 rfl (lv_at hl 0 rfl) ?_
        refine gf_10_0 hx hb htm hown hE hP hw hj0 (htm _ qw_4) dX0_takeOut_48 ?_
        refine lv_iload_n hx hb dX0_takeOut_51 rfl (lv_at hl 2 rfl) ?_
        refine lv_iconst (v := 1) hx hb dX0_takeOut_52 (by decide) ?_
        refine lv_isub hx hb dX0_takeOut_53 ?_
        refine lv_aload_n hx hb dX0_takeOut_54 rfl (lv_at hl 0 rfl) ?_
        refine gf_10_0 hx hb htm hown hE hP hw hj0 (htm _ qw_4) dX0_takeOut_55 ?_
        refine lv_iload_n hx hb dX0_takeOut_58 rfl (lv_at hl 2 rfl) ?_
        obtain ⟨hn7, hF⟩ := ite_S hF
        refine al_11 hx hb htm hown hE hP hw hj0 hn7 dX0_takeOut_59 ?_
        obtain ⟨hn8, hF⟩ := ite_S hF
        refine as_11 hx hb htm hown hE hP hS hw hj0 hn8 dX0_takeOut_60 (fun H locs hP hS => ?_)
        refine lv_aload_n hx hb dX0_takeOut_61 rfl (lv_at hl 0 rfl) ?_
        refine gf_10_1 hx hb htm hown hE hP hw hj0 (htm _ qw_5) dX0_takeOut_62 ?_
        refine lv_iload_n hx hb dX0_takeOut_65 rfl (lv_at hl 2 rfl) ?_
        refine lv_iconst (v := 1) hx hb dX0_takeOut_66 (by decide) ?_
        refine lv_isub hx hb dX0_takeOut_67 ?_
        refine lv_aload_n hx hb dX0_takeOut_68 rfl (lv_at hl 0 rfl) ?_
        refine gf_10_1 hx hb htm hown hE hP hw hj0 (htm _ qw_5) dX0_takeOut_69 ?_
        refine lv_iload_n hx hb dX0_takeOut_72 rfl (lv_at hl 2 rfl) ?_
        obtain ⟨hn9, hF⟩ := ite_S hF
        refine al_12 hx hb htm hown hE hP hw hj0 hn9 dX0_takeOut_73 ?_
        obtain ⟨hn10, hF⟩ := ite_S hF
        refine as_12 hx hb htm hown hE hP hS hw hj0 hn10 dX0_takeOut_74 (fun H locs hP hS => ?_)
        refine lv_iinc (v := y3 + 1) (lv' := [(3, .int (y3 + 1)), (0, .ref (ad w 10 j0)), (2, .int y2)]) hx hb dX0_takeOut_75 hl (k := 2) rfl rfl (by decide) rfl (fun ls hl => ?_)
        refine lv_goto (tgt := 33) hx hb dX0_takeOut_78 (by decide) ?_
        exact ih33 _ _ _ _ hj0 hP hS (lv_sub hl [1, 2, 0] rfl) hF
set_option maxRecDepth 20000 in
set_option maxHeartbeats 4000000 in
theorem c_X0_takeOut {l : Launch} {D : va_G} {ad : Nat → Nat → Nat → Nat} {cI cZ cP : ClassId} {A : Nat → Prop} {w : Nat} (hw : w < 2) {G V U : MT} {i0 : Nat} {x1 : Int32} {r : Int32} {V' : MT}  (hi0 : i0 < 24) (hF : f_X0_takeOut V i0 x1 = some (r, V')) : Met l yX0_takeOut (.code yX0_takeOut cX0_takeOut 4 (some .int) :: WM) rm_X0_takeOut (PcM D ad cI cZ cP A [.ref (ad w 10 i0), .int x1] (Pic D ad cI cZ cP w G V U)) (QcI A r (Pic D ad cI cZ cP w G V' U)) 0 0 A := by
  refine m_entry (by decide) (Nat.le_of_ble_eq_true rfl) (fun p e s m below meth c ls X hP hS hl => ?_)
  have X : MX p s m _ meth c cX0_takeOut RX0 4 (some .int) D ad cI cZ cP A := X
  obtain ⟨hx, hb, hml, hown, htm, hr, hlk, hE⟩ := id X
  have hl : lv_has ls 4 [(0, .ref (ad w 10 i0)), (1, .int x1)] := hl
  refine lv_iload_n hx hb dX0_takeOut_0 rfl (lv_at hl 1 rfl) ?_
  refine lv_iconst (v := 0) hx hb dX0_takeOut_1 (by decide) ?_
  refine lv_aload_n hx hb dX0_takeOut_2 rfl (lv_at hl 0 rfl) ?_
  refine gf_10_2 hx hb htm hown hE hP hw hi0 (htm _ qw_7) dX0_takeOut_3 ?_
  refine lv_iconst (v := 1) hx hb dX0_takeOut_6 (by decide) ?_
  refine lv_isub hx hb dX0_takeOut_7 ?_
  obtain ⟨r1, hc1, hF⟩ := ob_S hF
  refine m_cNi X hS sw_X6_isWithin nst_0_22 (c_X6_isWithin hc1) ⟨rfl, rfl⟩ ⟨Nat.le_of_ble_eq_true rfl, Nat.le_of_ble_eq_true rfl⟩ hP rfl hl.1 (rest := []) rfl (Nat.le_of_ble_eq_true rfl) dX0_takeOut_8 (fun H locs hP hS => ?_)
  refine lv_if_eq (tgt := 20) hx hb dX0_takeOut_11 (by decide) (fun c2 => ?_) (fun c2 => ?_)
  · have hF := ite_T c2 hF
    refine lv_iconst (v := (-1)) hx hb dX0_takeOut_20 (by decide) ?_
    obtain ⟨e1, e2⟩ := Prod.mk.inj (Option.some.inj hF)
    subst e1
    subst e2
    exact m_iret X hS hP rfl dX0_takeOut_21
  · have hF := ite_F c2 hF
    refine lv_iload_n hx hb dX0_takeOut_14 rfl (lv_at hl 1 rfl) ?_
    refine lv_bipush (v := 8) hx hb dX0_takeOut_15 (by decide) ?_
    refine lv_icmp_lt (tgt := 22) hx hb dX0_takeOut_17 (by decide) (fun c3 => ?_) (fun c3 => ?_)
    · have hF := ite_T c3 hF
      refine lv_aload_n hx hb dX0_takeOut_22 rfl (lv_at hl 0 rfl) ?_
      refine gf_10_1 hx hb htm hown hE hP hw hi0 (htm _ qw_5) dX0_takeOut_23 ?_
      refine lv_iload_n hx hb dX0_takeOut_26 rfl (lv_at hl 1 rfl) ?_
      obtain ⟨hn4, hF⟩ := ite_S hF
      refine al_12 hx hb htm hown hE hP hw hi0 hn4 dX0_takeOut_27 ?_
      refine lv_istore_n (lv' := [(2, .int (V 12 i0 (Int32.toNatClampNeg x1))), (0, .ref (ad w 10 i0)), (1, .int x1)]) hx hb dX0_takeOut_28 rfl hl (by decide) rfl (fun ls hl => ?_)
      refine lv_iload_n hx hb dX0_takeOut_29 rfl (lv_at hl 2 rfl) ?_
      refine lv_iconst (v := 1) hx hb dX0_takeOut_30 (by decide) ?_
      refine lv_iadd hx hb dX0_takeOut_31 ?_
      refine lv_istore_n (lv' := [(3, .int (x1 + 1)), (2, .int (V 12 i0 (Int32.toNatClampNeg x1))), (0, .ref (ad w 10 i0)), (1, .int x1)]) hx hb dX0_takeOut_32 rfl hl (by decide) rfl (fun ls hl => ?_)
      exact l_X0_takeOut_33 X hw  30 _ _ _ _ hi0 hP hS (lv_sub hl [2, 1, 0] rfl) hF
    · have hF := ite_F c3 hF
      refine lv_iconst (v := (-1)) hx hb dX0_takeOut_20 (by decide) ?_
      obtain ⟨e1, e2⟩ := Prod.mk.inj (Option.some.inj hF)
      subst e1
      subst e2
      exact m_iret X hS hP rfl dX0_takeOut_21
def f_X0_copyFrom (V U : MT) (i0 : Nat) (i1 : Nat) : Option (MT) :=
  some (pt (ct (ct V 11 i0 (U 11 i1) 8) 12 i0 (U 12 i1) 8) 10 i0 2 (U 10 i1 2))
def rm_X0_copyFrom : Room := { frames := 1, cells := 0, slots := 0, locals := 40 }
set_option maxRecDepth 20000 in
set_option maxHeartbeats 4000000 in
theorem c_X0_copyFrom {l : Launch} {D : va_G} {ad : Nat → Nat → Nat → Nat} {cI cZ cP : ClassId} {A : Nat → Prop} {w w' : Nat} (hw : w < 2) (hw' : w' < 2) (hww : w + w' = 1) {G V U : MT} {i0 : Nat} {i1 : Nat} {V' : MT}  (hi0 : i0 < 24) (hi1 : i1 < 24) (hF : f_X0_copyFrom V U i0 i1 = some V') : Met l yX0_copyFrom (.code yX0_copyFrom cX0_copyFrom 2 none :: WM) rm_X0_copyFrom (PcM D ad cI cZ cP A [.ref (ad w 10 i0), .ref (ad w' 10 i1)] (Pic D ad cI cZ cP w G V U)) (QcV A (Pic D ad cI cZ cP w G V' U)) 0 0 A := by
  refine m_entry (by decide) (Nat.le_of_ble_eq_true rfl) (fun p e s m below meth c ls X hP hS hl => ?_)
  have X : MX p s m _ meth c cX0_copyFrom RX0 2 none D ad cI cZ cP A := X
  obtain ⟨hx, hb, hml, hown, htm, hr, hlk, hE⟩ := id X
  have hl : lv_has ls 2 [(0, .ref (ad w 10 i0)), (1, .ref (ad w' 10 i1))] := hl
  refine lv_aload_n hx hb dX0_copyFrom_0 rfl (lv_at hl 1 rfl) ?_
  refine gf_10_0 hx hb htm hown hE (hP.swap hww) hw' hi1 (htm _ qw_4) dX0_copyFrom_1 ?_
  refine lv_iconst (v := 0) hx hb dX0_copyFrom_4 (by decide) ?_
  refine lv_aload_n hx hb dX0_copyFrom_5 rfl (lv_at hl 0 rfl) ?_
  refine gf_10_0 hx hb htm hown hE hP hw hi0 (htm _ qw_4) dX0_copyFrom_6 ?_
  refine lv_iconst (v := 0) hx hb dX0_copyFrom_9 (by decide) ?_
  refine lv_bipush (v := 8) hx hb dX0_copyFrom_10 (by decide) ?_
  refine cp_11 hx hb (hml.trans hl.1.symm) hown htm hE hP hS hw hw' hww hi0 hi1 (htm _ qw_14) (Nat.le_of_ble_eq_true rfl) (Nat.le_of_ble_eq_true rfl) dX0_copyFrom_12 (fun H locs hP hS => ?_)
  refine lv_aload_n hx hb dX0_copyFrom_15 rfl (lv_at hl 1 rfl) ?_
  refine gf_10_1 hx hb htm hown hE (hP.swap hww) hw' hi1 (htm _ qw_5) dX0_copyFrom_16 ?_
  refine lv_iconst (v := 0) hx hb dX0_copyFrom_19 (by decide) ?_
  refine lv_aload_n hx hb dX0_copyFrom_20 rfl (lv_at hl 0 rfl) ?_
  refine gf_10_1 hx hb htm hown hE hP hw hi0 (htm _ qw_5) dX0_copyFrom_21 ?_
  refine lv_iconst (v := 0) hx hb dX0_copyFrom_24 (by decide) ?_
  refine lv_bipush (v := 8) hx hb dX0_copyFrom_25 (by decide) ?_
  refine cp_12 hx hb (hml.trans hl.1.symm) hown htm hE hP hS hw hw' hww hi0 hi1 (htm _ qw_14) (Nat.le_of_ble_eq_true rfl) (Nat.le_of_ble_eq_true rfl) dX0_copyFrom_27 (fun H locs hP hS => ?_)
  refine lv_aload_n hx hb dX0_copyFrom_30 rfl (lv_at hl 0 rfl) ?_
  refine lv_aload_n hx hb dX0_copyFrom_31 rfl (lv_at hl 1 rfl) ?_
  refine gf_10_2 hx hb htm hown hE (hP.swap hww) hw' hi1 (htm _ qw_7) dX0_copyFrom_32 ?_
  refine pf_10_2 hx hb htm hown hE hP hS hw hi0 (htm _ qw_7) dX0_copyFrom_35 (fun H locs hP hS => ?_)
  have e1 := Option.some.inj hF
  subst e1
  exact m_vret X hS hP dX0_copyFrom_38
def f_X1_hasModule (G : MT) (x1 : Int32) : Option (Int32) :=
  if x1 < 0 then (some 0) else (if G 17 0 0 ≤ x1 then (some 0) else (if 4 ≤ x1 then (some 0) else (some 1)))
def rm_X1_hasModule : Room := { frames := 0, cells := 0, slots := 0, locals := 0 }
set_option maxRecDepth 20000 in
set_option maxHeartbeats 4000000 in
theorem c_X1_hasModule {l : Launch} {D : va_G} {ad : Nat → Nat → Nat → Nat} {cI cZ cP : ClassId} {A : Nat → Prop} {w : Nat} (hw : w < 2) {G V U : MT} {x1 : Int32} {r : Int32}  (hF : f_X1_hasModule G x1 = some r) : Met l yX1_hasModule (.code yX1_hasModule cX1_hasModule 2 (some .boolean) :: WM) rm_X1_hasModule (PcM D ad cI cZ cP A [.ref (ad 2 17 0), .int x1] (Pic D ad cI cZ cP w G V U)) (QcI A r (Pic D ad cI cZ cP w G V U)) 0 0 A := by
  refine m_entry (by decide) (Nat.le_of_ble_eq_true rfl) (fun p e s m below meth c ls X hP hS hl => ?_)
  have X : MX p s m _ meth c cX1_hasModule RX1 2 (some .boolean) D ad cI cZ cP A := X
  obtain ⟨hx, hb, hml, hown, htm, hr, hlk, hE⟩ := id X
  have hl : lv_has ls 2 [(0, .ref (ad 2 17 0)), (1, .int x1)] := hl
  refine lv_iload_n hx hb dX1_hasModule_0 rfl (lv_at hl 1 rfl) ?_
  refine lv_if_lt (tgt := 21) hx hb dX1_hasModule_1 (by decide) (fun c1 => ?_) (fun c1 => ?_)
  · have hF := ite_T c1 hF
    refine lv_iconst (v := 0) hx hb dX1_hasModule_21 (by decide) ?_
    have e1 := Option.some.inj hF
    subst e1
    exact m_zret X hS hP rfl (Or.inl rfl) dX1_hasModule_22
  · have hF := ite_F c1 hF
    refine lv_iload_n hx hb dX1_hasModule_4 rfl (lv_at hl 1 rfl) ?_
    refine lv_aload_n hx hb dX1_hasModule_5 rfl (lv_at hl 0 rfl) ?_
    refine gf_17_0 hx hb htm hown hE hP (htm _ qw_25) dX1_hasModule_6 ?_
    refine lv_icmp_ge (tgt := 21) hx hb dX1_hasModule_9 (by decide) (fun c2 => ?_) (fun c2 => ?_)
    · have hF := ite_T c2 hF
      refine lv_iconst (v := 0) hx hb dX1_hasModule_21 (by decide) ?_
      have e1 := Option.some.inj hF
      subst e1
      exact m_zret X hS hP rfl (Or.inl rfl) dX1_hasModule_22
    · have hF := ite_F c2 hF
      refine lv_iload_n hx hb dX1_hasModule_12 rfl (lv_at hl 1 rfl) ?_
      refine lv_iconst (v := 4) hx hb dX1_hasModule_13 (by decide) ?_
      refine lv_icmp_ge (tgt := 21) hx hb dX1_hasModule_14 (by decide) (fun c3 => ?_) (fun c3 => ?_)
      · have hF := ite_T c3 hF
        refine lv_iconst (v := 0) hx hb dX1_hasModule_21 (by decide) ?_
        have e1 := Option.some.inj hF
        subst e1
        exact m_zret X hS hP rfl (Or.inl rfl) dX1_hasModule_22
      · have hF := ite_F c3 hF
        refine lv_iconst (v := 1) hx hb dX1_hasModule_17 (by decide) ?_
        refine lv_goto (tgt := 22) hx hb dX1_hasModule_18 (by decide) ?_
        have e1 := Option.some.inj hF
        subst e1
        exact m_zret X hS hP rfl (Or.inr rfl) dX1_hasModule_22
def f_X1_rowOf (G : MT) (x1 : Int32) (x2 : Int32) : Option (Int32) :=
  (f_X1_hasModule G x1).bind (fun q1_ => if q1_ = 0 then (some (-1)) else ((f_X6_isWithin x2 0 3).bind (fun q3_ => if q3_ = 0 then (some (-1)) else (some ((x1 * 4) + x2)))))
def rm_X1_rowOf : Room := { frames := 1, cells := 0, slots := 0, locals := 22 }
set_option maxRecDepth 20000 in
set_option maxHeartbeats 4000000 in
theorem c_X1_rowOf {l : Launch} {D : va_G} {ad : Nat → Nat → Nat → Nat} {cI cZ cP : ClassId} {A : Nat → Prop} {w : Nat} (hw : w < 2) {G V U : MT} {x1 : Int32} {x2 : Int32} {r : Int32}  (hF : f_X1_rowOf G x1 x2 = some r) : Met l yX1_rowOf (.code yX1_rowOf cX1_rowOf 3 (some .int) :: WM) rm_X1_rowOf (PcM D ad cI cZ cP A [.ref (ad 2 17 0), .int x1, .int x2] (Pic D ad cI cZ cP w G V U)) (QcI A r (Pic D ad cI cZ cP w G V U)) 0 0 A := by
  refine m_entry (by decide) (Nat.le_of_ble_eq_true rfl) (fun p e s m below meth c ls X hP hS hl => ?_)
  have X : MX p s m _ meth c cX1_rowOf RX1 3 (some .int) D ad cI cZ cP A := X
  obtain ⟨hx, hb, hml, hown, htm, hr, hlk, hE⟩ := id X
  have hl : lv_has ls 3 [(0, .ref (ad 2 17 0)), (1, .int x1), (2, .int x2)] := hl
  refine lv_aload_n hx hb dX1_rowOf_0 rfl (lv_at hl 0 rfl) ?_
  refine lv_iload_n hx hb dX1_rowOf_1 rfl (lv_at hl 1 rfl) ?_
  obtain ⟨r1, hc1, hF⟩ := ob_S hF
  refine m_cVi X hS vw_X1_hasModule qw_27 (c_X1_hasModule hw hc1) ⟨rfl, rfl⟩ ⟨Nat.le_of_ble_eq_true rfl, Nat.le_of_ble_eq_true rfl⟩ (rc_17 hE hP) hP rfl hl.1 (rest := []) rfl (Nat.le_of_ble_eq_true rfl) dX1_rowOf_2 (fun H locs hP hS => ?_)
  refine lv_if_eq (tgt := 17) hx hb dX1_rowOf_5 (by decide) (fun c2 => ?_) (fun c2 => ?_)
  · have hF := ite_T c2 hF
    refine lv_iconst (v := (-1)) hx hb dX1_rowOf_17 (by decide) ?_
    have e1 := Option.some.inj hF
    subst e1
    exact m_iret X hS hP rfl dX1_rowOf_18
  · have hF := ite_F c2 hF
    refine lv_iload_n hx hb dX1_rowOf_8 rfl (lv_at hl 2 rfl) ?_
    refine lv_iconst (v := 0) hx hb dX1_rowOf_9 (by decide) ?_
    refine lv_iconst (v := 3) hx hb dX1_rowOf_10 (by decide) ?_
    obtain ⟨r3, hc3, hF⟩ := ob_S hF
    refine m_cNi X hS sw_X6_isWithin nst_1_32 (c_X6_isWithin hc3) ⟨rfl, rfl⟩ ⟨Nat.le_of_ble_eq_true rfl, Nat.le_of_ble_eq_true rfl⟩ hP rfl hl.1 (rest := []) rfl (Nat.le_of_ble_eq_true rfl) dX1_rowOf_11 (fun H locs hP hS => ?_)
    refine lv_if_ne (tgt := 19) hx hb dX1_rowOf_14 (by decide) (fun c4 => ?_) (fun c4 => ?_)
    · have hF := ite_F c4 hF
      refine lv_iload_n hx hb dX1_rowOf_19 rfl (lv_at hl 1 rfl) ?_
      refine lv_iconst (v := 4) hx hb dX1_rowOf_20 (by decide) ?_
      refine lv_imul hx hb dX1_rowOf_21 ?_
      refine lv_iload_n hx hb dX1_rowOf_22 rfl (lv_at hl 2 rfl) ?_
      refine lv_iadd hx hb dX1_rowOf_23 ?_
      have e1 := Option.some.inj hF
      subst e1
      exact m_iret X hS hP rfl dX1_rowOf_24
    · have hF := ite_T c4 hF
      refine lv_iconst (v := (-1)) hx hb dX1_rowOf_17 (by decide) ?_
      have e1 := Option.some.inj hF
      subst e1
      exact m_iret X hS hP rfl dX1_rowOf_18
def f_X1_linesOf (G : MT) (x1 : Int32) (x2 : Int32) : Option (Int32) :=
  (f_X1_rowOf G x1 x2).bind (fun q1_ => if q1_ = (-1) then (some 0) else (if ¬ (q1_ < 0 ∨ 16 ≤ Int32.toNatClampNeg q1_) then (some (G 18 0 (Int32.toNatClampNeg q1_))) else none))
def rm_X1_linesOf : Room := { frames := 2, cells := 0, slots := 0, locals := 44 }
set_option maxRecDepth 20000 in
set_option maxHeartbeats 4000000 in
theorem c_X1_linesOf {l : Launch} {D : va_G} {ad : Nat → Nat → Nat → Nat} {cI cZ cP : ClassId} {A : Nat → Prop} {w : Nat} (hw : w < 2) {G V U : MT} {x1 : Int32} {x2 : Int32} {r : Int32}  (hF : f_X1_linesOf G x1 x2 = some r) : Met l yX1_linesOf (.code yX1_linesOf cX1_linesOf 4 (some .int) :: WM) rm_X1_linesOf (PcM D ad cI cZ cP A [.ref (ad 2 17 0), .int x1, .int x2] (Pic D ad cI cZ cP w G V U)) (QcI A r (Pic D ad cI cZ cP w G V U)) 0 0 A := by
  refine m_entry (by decide) (Nat.le_of_ble_eq_true rfl) (fun p e s m below meth c ls X hP hS hl => ?_)
  have X : MX p s m _ meth c cX1_linesOf RX1 4 (some .int) D ad cI cZ cP A := X
  obtain ⟨hx, hb, hml, hown, htm, hr, hlk, hE⟩ := id X
  have hl : lv_has ls 4 [(0, .ref (ad 2 17 0)), (1, .int x1), (2, .int x2)] := hl
  refine lv_aload_n hx hb dX1_linesOf_0 rfl (lv_at hl 0 rfl) ?_
  refine lv_iload_n hx hb dX1_linesOf_1 rfl (lv_at hl 1 rfl) ?_
  refine lv_iload_n hx hb dX1_linesOf_2 rfl (lv_at hl 2 rfl) ?_
  obtain ⟨r1, hc1, hF⟩ := ob_S hF
  refine m_cVi X hS vw_X1_rowOf qw_32 (c_X1_rowOf hw hc1) ⟨rfl, rfl⟩ ⟨Nat.le_of_ble_eq_true rfl, Nat.le_of_ble_eq_true rfl⟩ (rc_17 hE hP) hP rfl hl.1 (rest := []) rfl (Nat.le_of_ble_eq_true rfl) dX1_linesOf_3 (fun H locs hP hS => ?_)
  refine lv_istore_n (lv' := [(3, .int r1), (0, .ref (ad 2 17 0)), (1, .int x1), (2, .int x2)]) hx hb dX1_linesOf_6 rfl hl (by decide) rfl (fun ls hl => ?_)
  refine lv_iload_n hx hb dX1_linesOf_7 rfl (lv_at hl 0 rfl) ?_
  refine lv_iconst (v := (-1)) hx hb dX1_linesOf_8 (by decide) ?_
  refine lv_icmp_ne (tgt := 16) hx hb dX1_linesOf_9 (by decide) (fun c2 => ?_) (fun c2 => ?_)
  · have hF := ite_F c2 hF
    refine lv_aload_n hx hb dX1_linesOf_16 rfl (lv_at hl 1 rfl) ?_
    refine gf_17_1 hx hb htm hown hE hP (htm _ qw_20) dX1_linesOf_17 ?_
    refine lv_iload_n hx hb dX1_linesOf_20 rfl (lv_at hl 0 rfl) ?_
    obtain ⟨hn3, hF⟩ := ite_S hF
    refine al_18 hx hb htm hown hE hP hn3 dX1_linesOf_21 ?_
    have e1 := Option.some.inj hF
    subst e1
    exact m_iret X hS hP rfl dX1_linesOf_22
  · have hF := ite_T c2 hF
    refine lv_iconst (v := 0) hx hb dX1_linesOf_12 (by decide) ?_
    refine lv_goto (tgt := 22) hx hb dX1_linesOf_13 (by decide) ?_
    have e1 := Option.some.inj hF
    subst e1
    exact m_iret X hS hP rfl dX1_linesOf_22
def f_X1_lineAt (G : MT) (x1 : Int32) (x2 : Int32) (x3 : Int32) : Option (Int32) :=
  (f_X1_rowOf G x1 x2).bind (fun q1_ => if q1_ = (-1) then (some (-1)) else (if ¬ (q1_ < 0 ∨ 16 ≤ Int32.toNatClampNeg q1_) then ((f_X6_isWithin x3 0 ((G 18 0 (Int32.toNatClampNeg q1_)) - 1)).bind (fun q4_ => if q4_ = 0 then (some (-1)) else (if x3 < 12 then (some ((q1_ * 12) + x3)) else (some (-1))))) else none))
def rm_X1_lineAt : Room := { frames := 2, cells := 0, slots := 0, locals := 44 }
set_option maxRecDepth 20000 in
set_option maxHeartbeats 4000000 in
theorem c_X1_lineAt {l : Launch} {D : va_G} {ad : Nat → Nat → Nat → Nat} {cI cZ cP : ClassId} {A : Nat → Prop} {w : Nat} (hw : w < 2) {G V U : MT} {x1 : Int32} {x2 : Int32} {x3 : Int32} {r : Int32}  (hF : f_X1_lineAt G x1 x2 x3 = some r) : Met l yX1_lineAt (.code yX1_lineAt cX1_lineAt 5 (some .int) :: WM) rm_X1_lineAt (PcM D ad cI cZ cP A [.ref (ad 2 17 0), .int x1, .int x2, .int x3] (Pic D ad cI cZ cP w G V U)) (QcI A r (Pic D ad cI cZ cP w G V U)) 0 0 A := by
  refine m_entry (by decide) (Nat.le_of_ble_eq_true rfl) (fun p e s m below meth c ls X hP hS hl => ?_)
  have X : MX p s m _ meth c cX1_lineAt RX1 5 (some .int) D ad cI cZ cP A := X
  obtain ⟨hx, hb, hml, hown, htm, hr, hlk, hE⟩ := id X
  have hl : lv_has ls 5 [(0, .ref (ad 2 17 0)), (1, .int x1), (2, .int x2), (3, .int x3)] := hl
  refine lv_aload_n hx hb dX1_lineAt_0 rfl (lv_at hl 0 rfl) ?_
  refine lv_iload_n hx hb dX1_lineAt_1 rfl (lv_at hl 1 rfl) ?_
  refine lv_iload_n hx hb dX1_lineAt_2 rfl (lv_at hl 2 rfl) ?_
  obtain ⟨r1, hc1, hF⟩ := ob_S hF
  refine m_cVi X hS vw_X1_rowOf qw_32 (c_X1_rowOf hw hc1) ⟨rfl, rfl⟩ ⟨Nat.le_of_ble_eq_true rfl, Nat.le_of_ble_eq_true rfl⟩ (rc_17 hE hP) hP rfl hl.1 (rest := []) rfl (Nat.le_of_ble_eq_true rfl) dX1_lineAt_3 (fun H locs hP hS => ?_)
  refine lv_istore (lv' := [(4, .int r1), (0, .ref (ad 2 17 0)), (1, .int x1), (2, .int x2), (3, .int x3)]) hx hb dX1_lineAt_6 hl (by decide) rfl (fun ls hl => ?_)
  refine lv_iload hx hb dX1_lineAt_8 (lv_at hl 0 rfl) ?_
  refine lv_iconst (v := (-1)) hx hb dX1_lineAt_10 (by decide) ?_
  refine lv_icmp_eq (tgt := 37) hx hb dX1_lineAt_11 (by decide) (fun c2 => ?_) (fun c2 => ?_)
  · have hF := ite_T c2 hF
    refine lv_iconst (v := (-1)) hx hb dX1_lineAt_37 (by decide) ?_
    have e1 := Option.some.inj hF
    subst e1
    exact m_iret X hS hP rfl dX1_lineAt_38
  · have hF := ite_F c2 hF
    refine lv_iload_n hx hb dX1_lineAt_14 rfl (lv_at hl 4 rfl) ?_
    refine lv_iconst (v := 0) hx hb dX1_lineAt_15 (by decide) ?_
    refine lv_aload_n hx hb dX1_lineAt_16 rfl (lv_at hl 1 rfl) ?_
    refine gf_17_1 hx hb htm hown hE hP (htm _ qw_20) dX1_lineAt_17 ?_
    refine lv_iload hx hb dX1_lineAt_20 (lv_at hl 0 rfl) ?_
    obtain ⟨hn3, hF⟩ := ite_S hF
    refine al_18 hx hb htm hown hE hP hn3 dX1_lineAt_22 ?_
    refine lv_iconst (v := 1) hx hb dX1_lineAt_23 (by decide) ?_
    refine lv_isub hx hb dX1_lineAt_24 ?_
    obtain ⟨r4, hc4, hF⟩ := ob_S hF
    refine m_cNi X hS sw_X6_isWithin nst_1_32 (c_X6_isWithin hc4) ⟨rfl, rfl⟩ ⟨Nat.le_of_ble_eq_true rfl, Nat.le_of_ble_eq_true rfl⟩ hP rfl hl.1 (rest := []) rfl (Nat.le_of_ble_eq_true rfl) dX1_lineAt_25 (fun H locs hP hS => ?_)
    refine lv_if_eq (tgt := 37) hx hb dX1_lineAt_28 (by decide) (fun c5 => ?_) (fun c5 => ?_)
    · have hF := ite_T c5 hF
      refine lv_iconst (v := (-1)) hx hb dX1_lineAt_37 (by decide) ?_
      have e1 := Option.some.inj hF
      subst e1
      exact m_iret X hS hP rfl dX1_lineAt_38
    · have hF := ite_F c5 hF
      refine lv_iload_n hx hb dX1_lineAt_31 rfl (lv_at hl 4 rfl) ?_
      refine lv_bipush (v := 12) hx hb dX1_lineAt_32 (by decide) ?_
      refine lv_icmp_lt (tgt := 39) hx hb dX1_lineAt_34 (by decide) (fun c6 => ?_) (fun c6 => ?_)
      · have hF := ite_T c6 hF
        refine lv_iload hx hb dX1_lineAt_39 (lv_at hl 0 rfl) ?_
        refine lv_bipush (v := 12) hx hb dX1_lineAt_41 (by decide) ?_
        refine lv_imul hx hb dX1_lineAt_43 ?_
        refine lv_iload_n hx hb dX1_lineAt_44 rfl (lv_at hl 4 rfl) ?_
        refine lv_iadd hx hb dX1_lineAt_45 ?_
        have e1 := Option.some.inj hF
        subst e1
        exact m_iret X hS hP rfl dX1_lineAt_46
      · have hF := ite_F c6 hF
        refine lv_iconst (v := (-1)) hx hb dX1_lineAt_37 (by decide) ?_
        have e1 := Option.some.inj hF
        subst e1
        exact m_iret X hS hP rfl dX1_lineAt_38
def f_X1_addLine (G : MT) (x1 : Int32) (x2 : Int32) (x3 : Int32) (x4 : Int32) (x5 : Int32) : Option (Int32 × MT) :=
  (f_X1_rowOf G x1 x2).bind (fun q1_ => if q1_ = (-1) then (some ((-1), G)) else (if ¬ (q1_ < 0 ∨ 16 ≤ Int32.toNatClampNeg q1_) then (if G 18 0 (Int32.toNatClampNeg q1_) < 12 then (if ¬ (q1_ < 0 ∨ 16 ≤ Int32.toNatClampNeg q1_) then (if ¬ (q1_ < 0 ∨ 16 ≤ Int32.toNatClampNeg q1_) then (if ¬ ((q1_ * 12) + (G 18 0 (Int32.toNatClampNeg q1_)) < 0 ∨ 192 ≤ Int32.toNatClampNeg ((q1_ * 12) + (G 18 0 (Int32.toNatClampNeg q1_)))) then (if ¬ ((q1_ * 12) + (G 18 0 (Int32.toNatClampNeg q1_)) < 0 ∨ 192 ≤ Int32.toNatClampNeg ((q1_ * 12) + (G 18 0 (Int32.toNatClampNeg q1_)))) then (if ¬ ((q1_ * 12) + (G 18 0 (Int32.toNatClampNeg q1_)) < 0 ∨ 192 ≤ Int32.toNatClampNeg ((q1_ * 12) + (G 18 0 (Int32.toNatClampNeg q1_)))) then (some (G 18 0 (Int32.toNatClampNeg q1_), (pt (pt (pt (pt G 18 0 (Int32.toNatClampNeg q1_) ((G 18 0 (Int32.toNatClampNeg q1_)) + 1)) 19 0 (Int32.toNatClampNeg ((q1_ * 12) + (G 18 0 (Int32.toNatClampNeg q1_)))) x3) 20 0 (Int32.toNatClampNeg ((q1_ * 12) + (G 18 0 (Int32.toNatClampNeg q1_)))) x4) 21 0 (Int32.toNatClampNeg ((q1_ * 12) + (G 18 0 (Int32.toNatClampNeg q1_)))) x5))) else none) else none) else none) else none) else none) else (some ((-1), G))) else none))
def rm_X1_addLine : Room := { frames := 2, cells := 0, slots := 0, locals := 44 }
set_option maxRecDepth 20000 in
set_option maxHeartbeats 4000000 in
theorem c_X1_addLine {l : Launch} {D : va_G} {ad : Nat → Nat → Nat → Nat} {cI cZ cP : ClassId} {A : Nat → Prop} {w : Nat} (hw : w < 2) {G V U : MT} {x1 : Int32} {x2 : Int32} {x3 : Int32} {x4 : Int32} {x5 : Int32} {r : Int32} {G' : MT}  (hF : f_X1_addLine G x1 x2 x3 x4 x5 = some (r, G')) : Met l yX1_addLine (.code yX1_addLine cX1_addLine 9 (some .int) :: WM) rm_X1_addLine (PcM D ad cI cZ cP A [.ref (ad 2 17 0), .int x1, .int x2, .int x3, .int x4, .int x5] (Pic D ad cI cZ cP w G V U)) (QcI A r (Pic D ad cI cZ cP w G' V U)) 0 0 A := by
  refine m_entry (by decide) (Nat.le_of_ble_eq_true rfl) (fun p e s m below meth c ls X hP hS hl => ?_)
  have X : MX p s m _ meth c cX1_addLine RX1 9 (some .int) D ad cI cZ cP A := X
  obtain ⟨hx, hb, hml, hown, htm, hr, hlk, hE⟩ := id X
  have hl : lv_has ls 9 [(0, .ref (ad 2 17 0)), (1, .int x1), (2, .int x2), (3, .int x3), (4, .int x4), (5, .int x5)] := hl
  refine lv_aload_n hx hb dX1_addLine_0 rfl (lv_at hl 0 rfl) ?_
  refine lv_iload_n hx hb dX1_addLine_1 rfl (lv_at hl 1 rfl) ?_
  refine lv_iload_n hx hb dX1_addLine_2 rfl (lv_at hl 2 rfl) ?_
  obtain ⟨r1, hc1, hF⟩ := ob_S hF
  refine m_cVi X hS vw_X1_rowOf qw_32 (c_X1_rowOf hw hc1) ⟨rfl, rfl⟩ ⟨Nat.le_of_ble_eq_true rfl, Nat.le_of_ble_eq_true rfl⟩ (rc_17 hE hP) hP rfl hl.1 (rest := []) rfl (Nat.le_of_ble_eq_true rfl) dX1_addLine_3 (fun H locs hP hS => ?_)
  refine lv_istore (lv' := [(6, .int r1), (0, .ref (ad 2 17 0)), (1, .int x1), (2, .int x2), (3, .int x3), (4, .int x4), (5, .int x5)]) hx hb dX1_addLine_6 hl (by decide) rfl (fun ls hl => ?_)
  refine lv_iload hx hb dX1_addLine_8 (lv_at hl 0 rfl) ?_
  refine lv_iconst (v := (-1)) hx hb dX1_addLine_10 (by decide) ?_
  refine lv_icmp_eq (tgt := 26) hx hb dX1_addLine_11 (by decide) (fun c2 => ?_) (fun c2 => ?_)
  · have hF := ite_T c2 hF
    refine lv_iconst (v := (-1)) hx hb dX1_addLine_26 (by decide) ?_
    obtain ⟨e1, e2⟩ := Prod.mk.inj (Option.some.inj hF)
    subst e1
    subst e2
    exact m_iret X hS hP rfl dX1_addLine_27
  · have hF := ite_F c2 hF
    refine lv_aload_n hx hb dX1_addLine_14 rfl (lv_at hl 1 rfl) ?_
    refine gf_17_1 hx hb htm hown hE hP (htm _ qw_20) dX1_addLine_15 ?_
    refine lv_iload hx hb dX1_addLine_18 (lv_at hl 0 rfl) ?_
    obtain ⟨hn3, hF⟩ := ite_S hF
    refine al_18 hx hb htm hown hE hP hn3 dX1_addLine_20 ?_
    refine lv_bipush (v := 12) hx hb dX1_addLine_21 (by decide) ?_
    refine lv_icmp_lt (tgt := 28) hx hb dX1_addLine_23 (by decide) (fun c4 => ?_) (fun c4 => ?_)
    · have hF := ite_T c4 hF
      refine lv_aload_n hx hb dX1_addLine_28 rfl (lv_at hl 1 rfl) ?_
      refine gf_17_1 hx hb htm hown hE hP (htm _ qw_20) dX1_addLine_29 ?_
      refine lv_iload hx hb dX1_addLine_32 (lv_at hl 0 rfl) ?_
      obtain ⟨hn5, hF⟩ := ite_S hF
      refine al_18 hx hb htm hown hE hP hn5 dX1_addLine_34 ?_
      refine lv_istore (lv' := [(7, .int (G 18 0 (Int32.toNatClampNeg r1))), (6, .int r1), (0, .ref (ad 2 17 0)), (1, .int x1), (2, .int x2), (3, .int x3), (4, .int x4), (5, .int x5)]) hx hb dX1_addLine_35 hl (by decide) rfl (fun ls hl => ?_)
      refine lv_aload_n hx hb dX1_addLine_37 rfl (lv_at hl 2 rfl) ?_
      refine gf_17_1 hx hb htm hown hE hP (htm _ qw_20) dX1_addLine_38 ?_
      refine lv_iload hx hb dX1_addLine_41 (lv_at hl 1 rfl) ?_
      refine lv_iload hx hb dX1_addLine_43 (lv_at hl 0 rfl) ?_
      refine lv_iconst (v := 1) hx hb dX1_addLine_45 (by decide) ?_
      refine lv_iadd hx hb dX1_addLine_46 ?_
      obtain ⟨hn6, hF⟩ := ite_S hF
      refine as_18 hx hb htm hown hE hP hS hn6 dX1_addLine_47 (fun H locs hP hS => ?_)
      refine lv_iload hx hb dX1_addLine_48 (lv_at hl 1 rfl) ?_
      refine lv_bipush (v := 12) hx hb dX1_addLine_50 (by decide) ?_
      refine lv_imul hx hb dX1_addLine_52 ?_
      refine lv_iload hx hb dX1_addLine_53 (lv_at hl 0 rfl) ?_
      refine lv_iadd hx hb dX1_addLine_55 ?_
      refine lv_istore (lv' := [(8, .int ((r1 * 12) + (G 18 0 (Int32.toNatClampNeg r1)))), (7, .int (G 18 0 (Int32.toNatClampNeg r1))), (6, .int r1), (0, .ref (ad 2 17 0)), (1, .int x1), (2, .int x2), (3, .int x3), (4, .int x4), (5, .int x5)]) hx hb dX1_addLine_56 hl (by decide) rfl (fun ls hl => ?_)
      refine lv_aload_n hx hb dX1_addLine_58 rfl (lv_at hl 3 rfl) ?_
      refine gf_17_2 hx hb htm hown hE hP (htm _ qw_21) dX1_addLine_59 ?_
      refine lv_iload hx hb dX1_addLine_62 (lv_at hl 0 rfl) ?_
      refine lv_iload_n hx hb dX1_addLine_64 rfl (lv_at hl 6 rfl) ?_
      obtain ⟨hn7, hF⟩ := ite_S hF
      refine as_19 hx hb htm hown hE hP hS hn7 dX1_addLine_65 (fun H locs hP hS => ?_)
      refine lv_aload_n hx hb dX1_addLine_66 rfl (lv_at hl 3 rfl) ?_
      refine gf_17_3 hx hb htm hown hE hP (htm _ qw_22) dX1_addLine_67 ?_
      refine lv_iload hx hb dX1_addLine_70 (lv_at hl 0 rfl) ?_
      refine lv_iload hx hb dX1_addLine_72 (lv_at hl 7 rfl) ?_
      obtain ⟨hn8, hF⟩ := ite_S hF
      refine as_20 hx hb htm hown hE hP hS hn8 dX1_addLine_74 (fun H locs hP hS => ?_)
      refine lv_aload_n hx hb dX1_addLine_75 rfl (lv_at hl 3 rfl) ?_
      refine gf_17_4 hx hb htm hown hE hP (htm _ qw_23) dX1_addLine_76 ?_
      refine lv_iload hx hb dX1_addLine_79 (lv_at hl 0 rfl) ?_
      refine lv_iload hx hb dX1_addLine_81 (lv_at hl 8 rfl) ?_
      obtain ⟨hn9, hF⟩ := ite_S hF
      refine as_21 hx hb htm hown hE hP hS hn9 dX1_addLine_83 (fun H locs hP hS => ?_)
      refine lv_iload hx hb dX1_addLine_84 (lv_at hl 1 rfl) ?_
      obtain ⟨e1, e2⟩ := Prod.mk.inj (Option.some.inj hF)
      subst e1
      subst e2
      exact m_iret X hS hP rfl dX1_addLine_86
    · have hF := ite_F c4 hF
      refine lv_iconst (v := (-1)) hx hb dX1_addLine_26 (by decide) ?_
      obtain ⟨e1, e2⟩ := Prod.mk.inj (Option.some.inj hF)
      subst e1
      subst e2
      exact m_iret X hS hP rfl dX1_addLine_27
def f_X1_isLine (G : MT) (x1 : Int32) (x2 : Int32) (x3 : Int32) (x4 : Int32) : Option (Int32) :=
  (f_X6_isWithin x1 0 17).bind (fun q1_ => if q1_ = 0 then (some 0) else (if ¬ (x1 < 0 ∨ 18 ≤ Int32.toNatClampNeg x1) then (if ¬ (x1 < 0 ∨ 18 ≤ Int32.toNatClampNeg x1) then ((f_X6_isWithin x2 (tS0 (Int32.toNatClampNeg x1)) (tS1 (Int32.toNatClampNeg x1))).bind (fun q7_ => if q7_ = 0 then (some 0) else (if x1 = 4 then (if x1 = 3 then ((f_X6_isWithin x3 (x4 + 1) x4).bind (fun q22_ => if q22_ = 0 ∨ q22_ = 1 then some q22_ else none)) else (if ¬ (x1 < 0 ∨ 18 ≤ Int32.toNatClampNeg x1) then ((f_X6_isWithin x3 (x4 + 1) (tS2 (Int32.toNatClampNeg x1))).bind (fun q20_ => if q20_ = 0 ∨ q20_ = 1 then some q20_ else none)) else none)) else (if x1 = 3 then ((f_X6_isWithin x3 0 x4).bind (fun q15_ => if q15_ = 0 ∨ q15_ = 1 then some q15_ else none)) else (if ¬ (x1 < 0 ∨ 18 ≤ Int32.toNatClampNeg x1) then ((f_X6_isWithin x3 0 (tS2 (Int32.toNatClampNeg x1))).bind (fun q13_ => if q13_ = 0 ∨ q13_ = 1 then some q13_ else none)) else none))))) else none) else none))
def rm_X1_isLine : Room := { frames := 1, cells := 0, slots := 0, locals := 22 }
set_option maxRecDepth 20000 in
set_option maxHeartbeats 4000000 in
theorem c_X1_isLine {l : Launch} {D : va_G} {ad : Nat → Nat → Nat → Nat} {cI cZ cP : ClassId} {A : Nat → Prop} {w : Nat} (hw : w < 2) {G V U : MT} {x1 : Int32} {x2 : Int32} {x3 : Int32} {x4 : Int32} {r : Int32}  (hF : f_X1_isLine G x1 x2 x3 x4 = some r) : Met l yX1_isLine (.code yX1_isLine cX1_isLine 7 (some .boolean) :: WM) rm_X1_isLine (PcM D ad cI cZ cP A [.ref (ad 2 17 0), .int x1, .int x2, .int x3, .int x4] (Pic D ad cI cZ cP w G V U)) (QcI A r (Pic D ad cI cZ cP w G V U)) 0 0 A := by
  refine m_entry (by decide) (Nat.le_of_ble_eq_true rfl) (fun p e s m below meth c ls X hP hS hl => ?_)
  have X : MX p s m _ meth c cX1_isLine RX1 7 (some .boolean) D ad cI cZ cP A := X
  obtain ⟨hx, hb, hml, hown, htm, hr, hlk, hE⟩ := id X
  have hl : lv_has ls 7 [(0, .ref (ad 2 17 0)), (1, .int x1), (2, .int x2), (3, .int x3), (4, .int x4)] := hl
  refine lv_iload_n hx hb dX1_isLine_0 rfl (lv_at hl 1 rfl) ?_
  refine lv_iconst (v := 0) hx hb dX1_isLine_1 (by decide) ?_
  refine lv_bipush (v := 17) hx hb dX1_isLine_2 (by decide) ?_
  obtain ⟨r1, hc1, hF⟩ := ob_S hF
  refine m_cNi X hS sw_X6_isWithin nst_1_32 (c_X6_isWithin hc1) ⟨rfl, rfl⟩ ⟨Nat.le_of_ble_eq_true rfl, Nat.le_of_ble_eq_true rfl⟩ hP rfl hl.1 (rest := []) rfl (Nat.le_of_ble_eq_true rfl) dX1_isLine_4 (fun H locs hP hS => ?_)
  refine lv_if_eq (tgt := 27) hx hb dX1_isLine_7 (by decide) (fun c2 => ?_) (fun c2 => ?_)
  · have hF := ite_T c2 hF
    refine lv_iconst (v := 0) hx hb dX1_isLine_27 (by decide) ?_
    have e1 := Option.some.inj hF
    subst e1
    exact m_zret X hS hP rfl (Or.inl rfl) dX1_isLine_28
  · have hF := ite_F c2 hF
    refine lv_iload_n hx hb dX1_isLine_10 rfl (lv_at hl 2 rfl) ?_
    obtain ⟨t3, hz3, hT3⟩ := hE.2.2.2.1.1
    refine va_getsN hx hb hz3 hS hown (va_Nw.use rfl (hE.2.2.2.2 _ nf_0)) (fun _ h9 => h9) dX1_isLine_11 ?_
    refine lv_iload_n hx hb dX1_isLine_14 rfl (lv_at hl 1 rfl) ?_
    obtain ⟨hn4, hF⟩ := ite_S hF
    refine va_ti (v := .int (tS0 (Int32.toNatClampNeg x1))) hx hb hT3 hS hn4 rfl dX1_isLine_15 ?_
    obtain ⟨t5, hz5, hT5⟩ := hE.2.2.2.1.2.1
    refine va_getsN hx hb hz5 hS hown (va_Nw.use rfl (hE.2.2.2.2 _ nf_1)) (fun _ h9 => h9) dX1_isLine_16 ?_
    refine lv_iload_n hx hb dX1_isLine_19 rfl (lv_at hl 1 rfl) ?_
    obtain ⟨hn6, hF⟩ := ite_S hF
    refine va_ti (v := .int (tS1 (Int32.toNatClampNeg x1))) hx hb hT5 hS hn6 rfl dX1_isLine_20 ?_
    obtain ⟨r7, hc7, hF⟩ := ob_S hF
    refine m_cNi X hS sw_X6_isWithin nst_1_32 (c_X6_isWithin hc7) ⟨rfl, rfl⟩ ⟨Nat.le_of_ble_eq_true rfl, Nat.le_of_ble_eq_true rfl⟩ hP rfl hl.1 (rest := []) rfl (Nat.le_of_ble_eq_true rfl) dX1_isLine_21 (fun H locs hP hS => ?_)
    refine lv_if_ne (tgt := 29) hx hb dX1_isLine_24 (by decide) (fun c8 => ?_) (fun c8 => ?_)
    · have hF := ite_F c8 hF
      refine lv_iload_n hx hb dX1_isLine_29 rfl (lv_at hl 1 rfl) ?_
      refine lv_iconst (v := 4) hx hb dX1_isLine_30 (by decide) ?_
      refine lv_icmp_ne (tgt := 41) hx hb dX1_isLine_31 (by decide) (fun c9 => ?_) (fun c9 => ?_)
      · have hF := ite_F c9 hF
        refine lv_iconst (v := 0) hx hb dX1_isLine_41 (by decide) ?_
        refine lv_istore (lv' := [(5, .int 0), (0, .ref (ad 2 17 0)), (1, .int x1), (2, .int x2), (3, .int x3), (4, .int x4)]) hx hb dX1_isLine_42 hl (by decide) rfl (fun ls hl => ?_)
        refine lv_iload_n hx hb dX1_isLine_44 rfl (lv_at hl 2 rfl) ?_
        refine lv_iconst (v := 3) hx hb dX1_isLine_45 (by decide) ?_
        refine lv_icmp_ne (tgt := 54) hx hb dX1_isLine_46 (by decide) (fun c10 => ?_) (fun c10 => ?_)
        · have hF := ite_F c10 hF
          obtain ⟨t11, hz11, hT11⟩ := hE.2.2.2.1.2.2
          refine va_getsN hx hb hz11 hS hown (va_Nw.use rfl (hE.2.2.2.2 _ nf_2)) (fun _ h9 => h9) dX1_isLine_54 ?_
          refine lv_iload_n hx hb dX1_isLine_57 rfl (lv_at hl 2 rfl) ?_
          obtain ⟨hn12, hF⟩ := ite_S hF
          refine va_ti (v := .int (tS2 (Int32.toNatClampNeg x1))) hx hb hT11 hS hn12 rfl dX1_isLine_58 ?_
          refine lv_istore (lv' := [(6, .int (tS2 (Int32.toNatClampNeg x1))), (5, .int 0), (0, .ref (ad 2 17 0)), (1, .int x1), (2, .int x2), (3, .int x3), (4, .int x4)]) hx hb dX1_isLine_59 hl (by decide) rfl (fun ls hl => ?_)
          refine lv_iload_n hx hb dX1_isLine_61 rfl (lv_at hl 5 rfl) ?_
          refine lv_iload hx hb dX1_isLine_62 (lv_at hl 1 rfl) ?_
          refine lv_iload hx hb dX1_isLine_64 (lv_at hl 0 rfl) ?_
          obtain ⟨r13, hc13, hF⟩ := ob_S hF
          refine m_cNi X hS sw_X6_isWithin nst_1_32 (c_X6_isWithin hc13) ⟨rfl, rfl⟩ ⟨Nat.le_of_ble_eq_true rfl, Nat.le_of_ble_eq_true rfl⟩ hP rfl hl.1 (rest := []) rfl (Nat.le_of_ble_eq_true rfl) dX1_isLine_66 (fun H locs hP hS => ?_)
          obtain ⟨hz14, hF⟩ := ite_S hF
          have e1 := Option.some.inj hF
          subst e1
          exact m_zret X hS hP rfl hz14 dX1_isLine_69
        · have hF := ite_T c10 hF
          refine lv_iload hx hb dX1_isLine_49 (lv_at hl 5 rfl) ?_
          refine lv_goto (tgt := 59) hx hb dX1_isLine_51 (by decide) ?_
          refine lv_istore (lv' := [(6, .int x4), (5, .int 0), (0, .ref (ad 2 17 0)), (1, .int x1), (2, .int x2), (3, .int x3), (4, .int x4)]) hx hb dX1_isLine_59 hl (by decide) rfl (fun ls hl => ?_)
          refine lv_iload_n hx hb dX1_isLine_61 rfl (lv_at hl 5 rfl) ?_
          refine lv_iload hx hb dX1_isLine_62 (lv_at hl 1 rfl) ?_
          refine lv_iload hx hb dX1_isLine_64 (lv_at hl 0 rfl) ?_
          obtain ⟨r15, hc15, hF⟩ := ob_S hF
          refine m_cNi X hS sw_X6_isWithin nst_1_32 (c_X6_isWithin hc15) ⟨rfl, rfl⟩ ⟨Nat.le_of_ble_eq_true rfl, Nat.le_of_ble_eq_true rfl⟩ hP rfl hl.1 (rest := []) rfl (Nat.le_of_ble_eq_true rfl) dX1_isLine_66 (fun H locs hP hS => ?_)
          obtain ⟨hz16, hF⟩ := ite_S hF
          have e1 := Option.some.inj hF
          subst e1
          exact m_zret X hS hP rfl hz16 dX1_isLine_69
      · have hF := ite_T c9 hF
        refine lv_iload hx hb dX1_isLine_34 (lv_at hl 4 rfl) ?_
        refine lv_iconst (v := 1) hx hb dX1_isLine_36 (by decide) ?_
        refine lv_iadd hx hb dX1_isLine_37 ?_
        refine lv_goto (tgt := 42) hx hb dX1_isLine_38 (by decide) ?_
        refine lv_istore (lv' := [(5, .int (x4 + 1)), (0, .ref (ad 2 17 0)), (1, .int x1), (2, .int x2), (3, .int x3), (4, .int x4)]) hx hb dX1_isLine_42 hl (by decide) rfl (fun ls hl => ?_)
        refine lv_iload_n hx hb dX1_isLine_44 rfl (lv_at hl 2 rfl) ?_
        refine lv_iconst (v := 3) hx hb dX1_isLine_45 (by decide) ?_
        refine lv_icmp_ne (tgt := 54) hx hb dX1_isLine_46 (by decide) (fun c17 => ?_) (fun c17 => ?_)
        · have hF := ite_F c17 hF
          obtain ⟨t18, hz18, hT18⟩ := hE.2.2.2.1.2.2
          refine va_getsN hx hb hz18 hS hown (va_Nw.use rfl (hE.2.2.2.2 _ nf_2)) (fun _ h9 => h9) dX1_isLine_54 ?_
          refine lv_iload_n hx hb dX1_isLine_57 rfl (lv_at hl 2 rfl) ?_
          obtain ⟨hn19, hF⟩ := ite_S hF
          refine va_ti (v := .int (tS2 (Int32.toNatClampNeg x1))) hx hb hT18 hS hn19 rfl dX1_isLine_58 ?_
          refine lv_istore (lv' := [(6, .int (tS2 (Int32.toNatClampNeg x1))), (5, .int (x4 + 1)), (0, .ref (ad 2 17 0)), (1, .int x1), (2, .int x2), (3, .int x3), (4, .int x4)]) hx hb dX1_isLine_59 hl (by decide) rfl (fun ls hl => ?_)
          refine lv_iload_n hx hb dX1_isLine_61 rfl (lv_at hl 5 rfl) ?_
          refine lv_iload hx hb dX1_isLine_62 (lv_at hl 1 rfl) ?_
          refine lv_iload hx hb dX1_isLine_64 (lv_at hl 0 rfl) ?_
          obtain ⟨r20, hc20, hF⟩ := ob_S hF
          refine m_cNi X hS sw_X6_isWithin nst_1_32 (c_X6_isWithin hc20) ⟨rfl, rfl⟩ ⟨Nat.le_of_ble_eq_true rfl, Nat.le_of_ble_eq_true rfl⟩ hP rfl hl.1 (rest := []) rfl (Nat.le_of_ble_eq_true rfl) dX1_isLine_66 (fun H locs hP hS => ?_)
          obtain ⟨hz21, hF⟩ := ite_S hF
          have e1 := Option.some.inj hF
          subst e1
          exact m_zret X hS hP rfl hz21 dX1_isLine_69
        · have hF := ite_T c17 hF
          refine lv_iload hx hb dX1_isLine_49 (lv_at hl 5 rfl) ?_
          refine lv_goto (tgt := 59) hx hb dX1_isLine_51 (by decide) ?_
          refine lv_istore (lv' := [(6, .int x4), (5, .int (x4 + 1)), (0, .ref (ad 2 17 0)), (1, .int x1), (2, .int x2), (3, .int x3), (4, .int x4)]) hx hb dX1_isLine_59 hl (by decide) rfl (fun ls hl => ?_)
          refine lv_iload_n hx hb dX1_isLine_61 rfl (lv_at hl 5 rfl) ?_
          refine lv_iload hx hb dX1_isLine_62 (lv_at hl 1 rfl) ?_
          refine lv_iload hx hb dX1_isLine_64 (lv_at hl 0 rfl) ?_
          obtain ⟨r22, hc22, hF⟩ := ob_S hF
          refine m_cNi X hS sw_X6_isWithin nst_1_32 (c_X6_isWithin hc22) ⟨rfl, rfl⟩ ⟨Nat.le_of_ble_eq_true rfl, Nat.le_of_ble_eq_true rfl⟩ hP rfl hl.1 (rest := []) rfl (Nat.le_of_ble_eq_true rfl) dX1_isLine_66 (fun H locs hP hS => ?_)
          obtain ⟨hz23, hF⟩ := ite_S hF
          have e1 := Option.some.inj hF
          subst e1
          exact m_zret X hS hP rfl hz23 dX1_isLine_69
    · have hF := ite_T c8 hF
      refine lv_iconst (v := 0) hx hb dX1_isLine_27 (by decide) ?_
      have e1 := Option.some.inj hF
      subst e1
      exact m_zret X hS hP rfl (Or.inl rfl) dX1_isLine_28
