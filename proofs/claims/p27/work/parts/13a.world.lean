theorem vw_X5_procAt : VW RX5 yX5_procAt cX5_procAt 2 (some (.object "MailDen$Proc")) 1 := ⟨qw_214, qw_215, qw_203, qw_169, ⟨rfl, by decide, by decide, by decide +kernel⟩⟩
theorem vw_X5_living : VW RX5 yX5_living cX5_living 2 (some (.object "MailDen$Proc")) 1 := ⟨qw_218, qw_219, qw_203, qw_171, ⟨rfl, by decide, by decide, by decide +kernel⟩⟩
theorem vw_X5_currentOf : VW RX5 yX5_currentOf cX5_currentOf 2 (some .int) 1 := ⟨qw_335, qw_336, qw_203, qw_173, ⟨rfl, by decide, by decide, by decide +kernel⟩⟩
theorem vw_X5_holderOf : VW RX5 yX5_holderOf cX5_holderOf 2 (some .int) 1 := ⟨qw_303, qw_304, qw_203, qw_174, ⟨rfl, by decide, by decide, by decide +kernel⟩⟩
theorem vw_X5_comesOfModule : VW RX5 yX5_comesOfModule cX5_comesOfModule 4 (some (.object "MailDen$Proc")) 2 := ⟨qw_205, qw_206, qw_203, qw_180, ⟨rfl, by decide, by decide, by decide +kernel⟩⟩
def f_X5_procAt (G V : MT) (x1 : Int32) : Option (Option Nat) :=
  if x1 < 0 then (some none) else (if V 0 0 5 ≤ x1 then (some none) else (if 24 ≤ x1 then (some none) else (if ¬ (x1 < 0 ∨ 24 ≤ Int32.toNatClampNeg x1) then (some (some (Int32.toNatClampNeg x1))) else none)))
def rm_X5_procAt : Room := { frames := 0, cells := 0, slots := 0, locals := 0 }
set_option maxRecDepth 20000 in
set_option maxHeartbeats 4000000 in
theorem c_X5_procAt {l : Launch} {D : va_G} {ad : Nat → Nat → Nat → Nat} {cI cZ cP : ClassId} {A : Nat → Prop} {w : Nat} (hw : w < 2) {G V U : MT} {x1 : Int32} {r : Option Nat}  (hF : f_X5_procAt G V x1 = some r) : Met l yX5_procAt (.code yX5_procAt cX5_procAt 2 (some (.object "MailDen$Proc")) :: WM) rm_X5_procAt (PcM D ad cI cZ cP A [.ref (ad w 0 0), .int x1] (Pic D ad cI cZ cP w G V U)) (QcQ A (r.map (ad w 7)) (Pic D ad cI cZ cP w G V U)) 0 0 A := by
  refine m_entry (by decide) (Nat.le_of_ble_eq_true rfl) (fun p e s m below meth c ls X hP hS hl => ?_)
  have X : MX p s m _ meth c cX5_procAt RX5 2 (some (.object "MailDen$Proc")) D ad cI cZ cP A := X
  obtain ⟨hx, hb, hml, hown, htm, hr, hlk, hE⟩ := id X
  have hl : lv_has ls 2 [(0, .ref (ad w 0 0)), (1, .int x1)] := hl
  refine lv_iload_n hx hb dX5_procAt_0 rfl (lv_at hl 1 rfl) ?_
  refine lv_if_lt (tgt := 27) hx hb dX5_procAt_1 (by decide) (fun c1 => ?_) (fun c1 => ?_)
  · have hF := ite_T c1 hF
    refine lv_null hx hb dX5_procAt_27 ?_
    have e1 := Option.some.inj hF
    subst e1
    exact m_aretN X hS hP rfl dX5_procAt_28
  · have hF := ite_F c1 hF
    refine lv_iload_n hx hb dX5_procAt_4 rfl (lv_at hl 1 rfl) ?_
    refine lv_aload_n hx hb dX5_procAt_5 rfl (lv_at hl 0 rfl) ?_
    refine gf_0_5 hx hb htm hown hE hP hw (htm _ qw_155) dX5_procAt_6 ?_
    refine lv_icmp_ge (tgt := 27) hx hb dX5_procAt_9 (by decide) (fun c2 => ?_) (fun c2 => ?_)
    · have hF := ite_T c2 hF
      refine lv_null hx hb dX5_procAt_27 ?_
      have e1 := Option.some.inj hF
      subst e1
      exact m_aretN X hS hP rfl dX5_procAt_28
    · have hF := ite_F c2 hF
      refine lv_iload_n hx hb dX5_procAt_12 rfl (lv_at hl 1 rfl) ?_
      refine lv_bipush (v := 24) hx hb dX5_procAt_13 (by decide) ?_
      refine lv_icmp_ge (tgt := 27) hx hb dX5_procAt_15 (by decide) (fun c3 => ?_) (fun c3 => ?_)
      · have hF := ite_T c3 hF
        refine lv_null hx hb dX5_procAt_27 ?_
        have e1 := Option.some.inj hF
        subst e1
        exact m_aretN X hS hP rfl dX5_procAt_28
      · have hF := ite_F c3 hF
        refine lv_aload_n hx hb dX5_procAt_18 rfl (lv_at hl 0 rfl) ?_
        refine gf_0_4 hx hb htm hown hE hP hw (htm _ qw_143) dX5_procAt_19 ?_
        refine lv_iload_n hx hb dX5_procAt_22 rfl (lv_at hl 1 rfl) ?_
        obtain ⟨hn4, hF⟩ := ite_S hF
        refine mql hx hb htm hown hE hP hw hn4 dX5_procAt_23 ?_
        have hj5 : Int32.toNatClampNeg x1 < 24 := Nat.not_le.mp fun q => hn4 (Or.inr q)
        refine lv_goto (tgt := 28) hx hb dX5_procAt_24 (by decide) ?_
        have e1 := Option.some.inj hF
        subst e1
        exact m_aretR X hS hP rfl dX5_procAt_28
def f_X5_living (G V : MT) (x1 : Int32) : Option (Option Nat) :=
  if x1 < 0 then (some none) else (if V 0 0 5 ≤ x1 then (some none) else (if x1 < 24 then (if ¬ (x1 < 0 ∨ 24 ≤ Int32.toNatClampNeg x1) then (if V 7 (Int32.toNatClampNeg x1) 5 = 2 then (some none) else (if ¬ (x1 < 0 ∨ 24 ≤ Int32.toNatClampNeg x1) then (some (some (Int32.toNatClampNeg x1))) else none)) else none) else (some none)))
def rm_X5_living : Room := { frames := 0, cells := 0, slots := 0, locals := 0 }
set_option maxRecDepth 20000 in
set_option maxHeartbeats 4000000 in
theorem c_X5_living {l : Launch} {D : va_G} {ad : Nat → Nat → Nat → Nat} {cI cZ cP : ClassId} {A : Nat → Prop} {w : Nat} (hw : w < 2) {G V U : MT} {x1 : Int32} {r : Option Nat}  (hF : f_X5_living G V x1 = some r) : Met l yX5_living (.code yX5_living cX5_living 2 (some (.object "MailDen$Proc")) :: WM) rm_X5_living (PcM D ad cI cZ cP A [.ref (ad w 0 0), .int x1] (Pic D ad cI cZ cP w G V U)) (QcQ A (r.map (ad w 7)) (Pic D ad cI cZ cP w G V U)) 0 0 A := by
  refine m_entry (by decide) (Nat.le_of_ble_eq_true rfl) (fun p e s m below meth c ls X hP hS hl => ?_)
  have X : MX p s m _ meth c cX5_living RX5 2 (some (.object "MailDen$Proc")) D ad cI cZ cP A := X
  obtain ⟨hx, hb, hml, hown, htm, hr, hlk, hE⟩ := id X
  have hl : lv_has ls 2 [(0, .ref (ad w 0 0)), (1, .int x1)] := hl
  refine lv_iload_n hx hb dX5_living_0 rfl (lv_at hl 1 rfl) ?_
  refine lv_if_lt (tgt := 18) hx hb dX5_living_1 (by decide) (fun c1 => ?_) (fun c1 => ?_)
  · have hF := ite_T c1 hF
    refine lv_null hx hb dX5_living_18 ?_
    have e1 := Option.some.inj hF
    subst e1
    exact m_aretN X hS hP rfl dX5_living_19
  · have hF := ite_F c1 hF
    refine lv_iload_n hx hb dX5_living_4 rfl (lv_at hl 1 rfl) ?_
    refine lv_aload_n hx hb dX5_living_5 rfl (lv_at hl 0 rfl) ?_
    refine gf_0_5 hx hb htm hown hE hP hw (htm _ qw_155) dX5_living_6 ?_
    refine lv_icmp_ge (tgt := 18) hx hb dX5_living_9 (by decide) (fun c2 => ?_) (fun c2 => ?_)
    · have hF := ite_T c2 hF
      refine lv_null hx hb dX5_living_18 ?_
      have e1 := Option.some.inj hF
      subst e1
      exact m_aretN X hS hP rfl dX5_living_19
    · have hF := ite_F c2 hF
      refine lv_iload_n hx hb dX5_living_12 rfl (lv_at hl 1 rfl) ?_
      refine lv_bipush (v := 24) hx hb dX5_living_13 (by decide) ?_
      refine lv_icmp_lt (tgt := 20) hx hb dX5_living_15 (by decide) (fun c3 => ?_) (fun c3 => ?_)
      · have hF := ite_T c3 hF
        refine lv_aload_n hx hb dX5_living_20 rfl (lv_at hl 0 rfl) ?_
        refine gf_0_4 hx hb htm hown hE hP hw (htm _ qw_143) dX5_living_21 ?_
        refine lv_iload_n hx hb dX5_living_24 rfl (lv_at hl 1 rfl) ?_
        obtain ⟨hn4, hF⟩ := ite_S hF
        refine mql hx hb htm hown hE hP hw hn4 dX5_living_25 ?_
        have hj5 : Int32.toNatClampNeg x1 < 24 := Nat.not_le.mp fun q => hn4 (Or.inr q)
        refine gf_7_5 hx hb htm hown hE hP hw hj5 (htm _ qw_170) dX5_living_26 ?_
        refine lv_iconst (v := 2) hx hb dX5_living_29 (by decide) ?_
        refine lv_icmp_ne (tgt := 37) hx hb dX5_living_30 (by decide) (fun c6 => ?_) (fun c6 => ?_)
        · have hF := ite_F c6 hF
          refine lv_aload_n hx hb dX5_living_37 rfl (lv_at hl 0 rfl) ?_
          refine gf_0_4 hx hb htm hown hE hP hw (htm _ qw_143) dX5_living_38 ?_
          refine lv_iload_n hx hb dX5_living_41 rfl (lv_at hl 1 rfl) ?_
          obtain ⟨hn7, hF⟩ := ite_S hF
          refine mql hx hb htm hown hE hP hw hn7 dX5_living_42 ?_
          have hj8 : Int32.toNatClampNeg x1 < 24 := Nat.not_le.mp fun q => hn7 (Or.inr q)
          have e1 := Option.some.inj hF
          subst e1
          exact m_aretR X hS hP rfl dX5_living_43
        · have hF := ite_T c6 hF
          refine lv_null hx hb dX5_living_33 ?_
          refine lv_goto (tgt := 43) hx hb dX5_living_34 (by decide) ?_
          have e1 := Option.some.inj hF
          subst e1
          exact m_aretN X hS hP rfl dX5_living_43
      · have hF := ite_F c3 hF
        refine lv_null hx hb dX5_living_18 ?_
        have e1 := Option.some.inj hF
        subst e1
        exact m_aretN X hS hP rfl dX5_living_19
def f_X5_currentOf (G V : MT) (x1 : Int32) : Option (Int32) :=
  (f_X1_hasModule G x1).bind (fun q1_ => if q1_ = 0 then (some (-1)) else (if ¬ (x1 < 0 ∨ 4 ≤ Int32.toNatClampNeg x1) then (some (V 1 0 (Int32.toNatClampNeg x1))) else none))
def rm_X5_currentOf : Room := { frames := 1, cells := 0, slots := 0, locals := 21 }
set_option maxRecDepth 20000 in
set_option maxHeartbeats 4000000 in
theorem c_X5_currentOf {l : Launch} {D : va_G} {ad : Nat → Nat → Nat → Nat} {cI cZ cP : ClassId} {A : Nat → Prop} {w : Nat} (hw : w < 2) {G V U : MT} {x1 : Int32} {r : Int32}  (hF : f_X5_currentOf G V x1 = some r) : Met l yX5_currentOf (.code yX5_currentOf cX5_currentOf 2 (some .int) :: WM) rm_X5_currentOf (PcM D ad cI cZ cP A [.ref (ad w 0 0), .int x1] (Pic D ad cI cZ cP w G V U)) (QcI A r (Pic D ad cI cZ cP w G V U)) 0 0 A := by
  refine m_entry (by decide) (Nat.le_of_ble_eq_true rfl) (fun p e s m below meth c ls X hP hS hl => ?_)
  have X : MX p s m _ meth c cX5_currentOf RX5 2 (some .int) D ad cI cZ cP A := X
  obtain ⟨hx, hb, hml, hown, htm, hr, hlk, hE⟩ := id X
  have hl : lv_has ls 2 [(0, .ref (ad w 0 0)), (1, .int x1)] := hl
  refine lv_aload_n hx hb dX5_currentOf_0 rfl (lv_at hl 0 rfl) ?_
  refine gf_0_0 hx hb htm hown hE hP hw (htm _ qw_147) dX5_currentOf_1 ?_
  refine lv_iload_n hx hb dX5_currentOf_4 rfl (lv_at hl 1 rfl) ?_
  obtain ⟨r1, hc1, hF⟩ := ob_S hF
  refine m_cVi X hS vw_X1_hasModule qw_172 (c_X1_hasModule hw hc1) ⟨rfl, rfl⟩ ⟨Nat.le_of_ble_eq_true rfl, Nat.le_of_ble_eq_true rfl⟩ (rc_17 hE hP) hP rfl hl.1 (rest := []) rfl (Nat.le_of_ble_eq_true rfl) dX5_currentOf_5 (fun H locs hP hS => ?_)
  refine lv_if_eq (tgt := 20) hx hb dX5_currentOf_8 (by decide) (fun c2 => ?_) (fun c2 => ?_)
  · have hF := ite_T c2 hF
    refine lv_iconst (v := (-1)) hx hb dX5_currentOf_20 (by decide) ?_
    have e1 := Option.some.inj hF
    subst e1
    exact m_iret X hS hP rfl dX5_currentOf_21
  · have hF := ite_F c2 hF
    refine lv_aload_n hx hb dX5_currentOf_11 rfl (lv_at hl 0 rfl) ?_
    refine gf_0_2 hx hb htm hown hE hP hw (htm _ qw_140) dX5_currentOf_12 ?_
    refine lv_iload_n hx hb dX5_currentOf_15 rfl (lv_at hl 1 rfl) ?_
    obtain ⟨hn3, hF⟩ := ite_S hF
    refine al_1 hx hb htm hown hE hP hw hn3 dX5_currentOf_16 ?_
    refine lv_goto (tgt := 21) hx hb dX5_currentOf_17 (by decide) ?_
    have e1 := Option.some.inj hF
    subst e1
    exact m_iret X hS hP rfl dX5_currentOf_21
def f_X5_holderOf (G V : MT) (x1 : Int32) : Option (Int32) :=
  (f_X6_isWithin x1 0 3).bind (fun q1_ => if q1_ = 0 then (some (-1)) else (if ¬ (x1 < 0 ∨ 4 ≤ Int32.toNatClampNeg x1) then (some (V 2 0 (Int32.toNatClampNeg x1))) else none))
def rm_X5_holderOf : Room := { frames := 1, cells := 0, slots := 0, locals := 22 }
set_option maxRecDepth 20000 in
set_option maxHeartbeats 4000000 in
theorem c_X5_holderOf {l : Launch} {D : va_G} {ad : Nat → Nat → Nat → Nat} {cI cZ cP : ClassId} {A : Nat → Prop} {w : Nat} (hw : w < 2) {G V U : MT} {x1 : Int32} {r : Int32}  (hF : f_X5_holderOf G V x1 = some r) : Met l yX5_holderOf (.code yX5_holderOf cX5_holderOf 2 (some .int) :: WM) rm_X5_holderOf (PcM D ad cI cZ cP A [.ref (ad w 0 0), .int x1] (Pic D ad cI cZ cP w G V U)) (QcI A r (Pic D ad cI cZ cP w G V U)) 0 0 A := by
  refine m_entry (by decide) (Nat.le_of_ble_eq_true rfl) (fun p e s m below meth c ls X hP hS hl => ?_)
  have X : MX p s m _ meth c cX5_holderOf RX5 2 (some .int) D ad cI cZ cP A := X
  obtain ⟨hx, hb, hml, hown, htm, hr, hlk, hE⟩ := id X
  have hl : lv_has ls 2 [(0, .ref (ad w 0 0)), (1, .int x1)] := hl
  refine lv_iload_n hx hb dX5_holderOf_0 rfl (lv_at hl 1 rfl) ?_
  refine lv_iconst (v := 0) hx hb dX5_holderOf_1 (by decide) ?_
  refine lv_iconst (v := 3) hx hb dX5_holderOf_2 (by decide) ?_
  obtain ⟨r1, hc1, hF⟩ := ob_S hF
  refine m_cNi X hS sw_X6_isWithin nst_5_103 (c_X6_isWithin hc1) ⟨rfl, rfl⟩ ⟨Nat.le_of_ble_eq_true rfl, Nat.le_of_ble_eq_true rfl⟩ hP rfl hl.1 (rest := []) rfl (Nat.le_of_ble_eq_true rfl) dX5_holderOf_3 (fun H locs hP hS => ?_)
  refine lv_if_eq (tgt := 18) hx hb dX5_holderOf_6 (by decide) (fun c2 => ?_) (fun c2 => ?_)
  · have hF := ite_T c2 hF
    refine lv_iconst (v := (-1)) hx hb dX5_holderOf_18 (by decide) ?_
    have e1 := Option.some.inj hF
    subst e1
    exact m_iret X hS hP rfl dX5_holderOf_19
  · have hF := ite_F c2 hF
    refine lv_aload_n hx hb dX5_holderOf_9 rfl (lv_at hl 0 rfl) ?_
    refine gf_0_3 hx hb htm hown hE hP hw (htm _ qw_141) dX5_holderOf_10 ?_
    refine lv_iload_n hx hb dX5_holderOf_13 rfl (lv_at hl 1 rfl) ?_
    obtain ⟨hn3, hF⟩ := ite_S hF
    refine al_2 hx hb htm hown hE hP hw hn3 dX5_holderOf_14 ?_
    refine lv_goto (tgt := 19) hx hb dX5_holderOf_15 (by decide) ?_
    have e1 := Option.some.inj hF
    subst e1
    exact m_iret X hS hP rfl dX5_holderOf_19
def f_X5_comesOfModule (G V : MT) (x1 : Int32) (x2 : Int32) : Option (Option Nat × MT) :=
  if x1 < 0 then (some (none, V)) else (if G 17 0 0 ≤ x1 then (some (none, V)) else (if 4 ≤ x1 then (some (none, V)) else (if V 0 0 5 < 24 then (if ¬ (V 0 0 5 < 0 ∨ 24 ≤ Int32.toNatClampNeg (V 0 0 5)) then (if ¬ (x1 < 0 ∨ 4 ≤ Int32.toNatClampNeg x1) then (some ((some (Int32.toNatClampNeg (V 0 0 5))), (pt (pt (pt (pt (pt (pt (pt V 0 0 5 ((V 0 0 5) + 1)) 7 (Int32.toNatClampNeg (V 0 0 5)) 1 x1) 7 (Int32.toNatClampNeg (V 0 0 5)) 2 ((pt (pt V 0 0 5 ((V 0 0 5) + 1)) 7 (Int32.toNatClampNeg (V 0 0 5)) 1 x1) 1 0 (Int32.toNatClampNeg x1))) 7 (Int32.toNatClampNeg (V 0 0 5)) 4 x2) 7 (Int32.toNatClampNeg (V 0 0 5)) 5 0) 7 (Int32.toNatClampNeg (V 0 0 5)) 11 ((pt (pt (pt (pt (pt V 0 0 5 ((V 0 0 5) + 1)) 7 (Int32.toNatClampNeg (V 0 0 5)) 1 x1) 7 (Int32.toNatClampNeg (V 0 0 5)) 2 ((pt (pt V 0 0 5 ((V 0 0 5) + 1)) 7 (Int32.toNatClampNeg (V 0 0 5)) 1 x1) 1 0 (Int32.toNatClampNeg x1))) 7 (Int32.toNatClampNeg (V 0 0 5)) 4 x2) 7 (Int32.toNatClampNeg (V 0 0 5)) 5 0) 0 0 10)) 0 0 10 (((pt (pt (pt (pt (pt (pt V 0 0 5 ((V 0 0 5) + 1)) 7 (Int32.toNatClampNeg (V 0 0 5)) 1 x1) 7 (Int32.toNatClampNeg (V 0 0 5)) 2 ((pt (pt V 0 0 5 ((V 0 0 5) + 1)) 7 (Int32.toNatClampNeg (V 0 0 5)) 1 x1) 1 0 (Int32.toNatClampNeg x1))) 7 (Int32.toNatClampNeg (V 0 0 5)) 4 x2) 7 (Int32.toNatClampNeg (V 0 0 5)) 5 0) 7 (Int32.toNatClampNeg (V 0 0 5)) 11 ((pt (pt (pt (pt (pt V 0 0 5 ((V 0 0 5) + 1)) 7 (Int32.toNatClampNeg (V 0 0 5)) 1 x1) 7 (Int32.toNatClampNeg (V 0 0 5)) 2 ((pt (pt V 0 0 5 ((V 0 0 5) + 1)) 7 (Int32.toNatClampNeg (V 0 0 5)) 1 x1) 1 0 (Int32.toNatClampNeg x1))) 7 (Int32.toNatClampNeg (V 0 0 5)) 4 x2) 7 (Int32.toNatClampNeg (V 0 0 5)) 5 0) 0 0 10)) 0 0 10) + 1)))) else none) else none) else (some (none, V)))))
def rm_X5_comesOfModule : Room := { frames := 0, cells := 0, slots := 0, locals := 0 }
set_option maxRecDepth 20000 in
set_option maxHeartbeats 4000000 in
theorem c_X5_comesOfModule {l : Launch} {D : va_G} {ad : Nat → Nat → Nat → Nat} {cI cZ cP : ClassId} {A : Nat → Prop} {w : Nat} (hw : w < 2) {G V U : MT} {x1 : Int32} {x2 : Int32} {r : Option Nat} {V' : MT}  (hF : f_X5_comesOfModule G V x1 x2 = some (r, V')) : Met l yX5_comesOfModule (.code yX5_comesOfModule cX5_comesOfModule 4 (some (.object "MailDen$Proc")) :: WM) rm_X5_comesOfModule (PcM D ad cI cZ cP A [.ref (ad w 0 0), .int x1, .int x2] (Pic D ad cI cZ cP w G V U)) (QcQ A (r.map (ad w 7)) (Pic D ad cI cZ cP w G V' U)) 0 0 A := by
  refine m_entry (by decide) (Nat.le_of_ble_eq_true rfl) (fun p e s m below meth c ls X hP hS hl => ?_)
  have X : MX p s m _ meth c cX5_comesOfModule RX5 4 (some (.object "MailDen$Proc")) D ad cI cZ cP A := X
  obtain ⟨hx, hb, hml, hown, htm, hr, hlk, hE⟩ := id X
  have hl : lv_has ls 4 [(0, .ref (ad w 0 0)), (1, .int x1), (2, .int x2)] := hl
  refine lv_iload_n hx hb dX5_comesOfModule_0 rfl (lv_at hl 1 rfl) ?_
  refine lv_if_lt (tgt := 29) hx hb dX5_comesOfModule_1 (by decide) (fun c1 => ?_) (fun c1 => ?_)
  · have hF := ite_T c1 hF
    refine lv_null hx hb dX5_comesOfModule_29 ?_
    obtain ⟨e1, e2⟩ := Prod.mk.inj (Option.some.inj hF)
    subst e1
    subst e2
    exact m_aretN X hS hP rfl dX5_comesOfModule_30
  · have hF := ite_F c1 hF
    refine lv_iload_n hx hb dX5_comesOfModule_4 rfl (lv_at hl 1 rfl) ?_
    refine lv_aload_n hx hb dX5_comesOfModule_5 rfl (lv_at hl 0 rfl) ?_
    refine gf_0_0 hx hb htm hown hE hP hw (htm _ qw_147) dX5_comesOfModule_6 ?_
    refine gf_17_0 hx hb htm hown hE hP (htm _ qw_175) dX5_comesOfModule_9 ?_
    refine lv_icmp_ge (tgt := 29) hx hb dX5_comesOfModule_12 (by decide) (fun c2 => ?_) (fun c2 => ?_)
    · have hF := ite_T c2 hF
      refine lv_null hx hb dX5_comesOfModule_29 ?_
      obtain ⟨e1, e2⟩ := Prod.mk.inj (Option.some.inj hF)
      subst e1
      subst e2
      exact m_aretN X hS hP rfl dX5_comesOfModule_30
    · have hF := ite_F c2 hF
      refine lv_iload_n hx hb dX5_comesOfModule_15 rfl (lv_at hl 1 rfl) ?_
      refine lv_iconst (v := 4) hx hb dX5_comesOfModule_16 (by decide) ?_
      refine lv_icmp_ge (tgt := 29) hx hb dX5_comesOfModule_17 (by decide) (fun c3 => ?_) (fun c3 => ?_)
      · have hF := ite_T c3 hF
        refine lv_null hx hb dX5_comesOfModule_29 ?_
        obtain ⟨e1, e2⟩ := Prod.mk.inj (Option.some.inj hF)
        subst e1
        subst e2
        exact m_aretN X hS hP rfl dX5_comesOfModule_30
      · have hF := ite_F c3 hF
        refine lv_aload_n hx hb dX5_comesOfModule_20 rfl (lv_at hl 0 rfl) ?_
        refine gf_0_5 hx hb htm hown hE hP hw (htm _ qw_155) dX5_comesOfModule_21 ?_
        refine lv_bipush (v := 24) hx hb dX5_comesOfModule_24 (by decide) ?_
        refine lv_icmp_lt (tgt := 31) hx hb dX5_comesOfModule_26 (by decide) (fun c4 => ?_) (fun c4 => ?_)
        · have hF := ite_T c4 hF
          refine lv_aload_n hx hb dX5_comesOfModule_31 rfl (lv_at hl 0 rfl) ?_
          refine gf_0_4 hx hb htm hown hE hP hw (htm _ qw_143) dX5_comesOfModule_32 ?_
          refine lv_aload_n hx hb dX5_comesOfModule_35 rfl (lv_at hl 0 rfl) ?_
          refine gf_0_5 hx hb htm hown hE hP hw (htm _ qw_155) dX5_comesOfModule_36 ?_
          obtain ⟨hn5, hF⟩ := ite_S hF
          refine mql hx hb htm hown hE hP hw hn5 dX5_comesOfModule_39 ?_
          have hj6 : Int32.toNatClampNeg (V 0 0 5) < 24 := Nat.not_le.mp fun q => hn5 (Or.inr q)
          refine lv_astore_n (lv' := [(3, .ref (ad w 7 (Int32.toNatClampNeg (V 0 0 5)))), (0, .ref (ad w 0 0)), (1, .int x1), (2, .int x2)]) hx hb dX5_comesOfModule_40 rfl hl (by decide) rfl (fun ls hl => ?_)
          refine lv_aload_n hx hb dX5_comesOfModule_41 rfl (lv_at hl 1 rfl) ?_
          refine lv_dup hx hb dX5_comesOfModule_42 rfl ?_
          refine gf_0_5 hx hb htm hown hE hP hw (htm _ qw_155) dX5_comesOfModule_43 ?_
          refine lv_iconst (v := 1) hx hb dX5_comesOfModule_46 (by decide) ?_
          refine lv_iadd hx hb dX5_comesOfModule_47 ?_
          refine pf_0_5 hx hb htm hown hE hP hS hw (htm _ qw_155) dX5_comesOfModule_48 (fun H locs hP hS => ?_)
          refine lv_aload_n hx hb dX5_comesOfModule_51 rfl (lv_at hl 0 rfl) ?_
          refine lv_iload_n hx hb dX5_comesOfModule_52 rfl (lv_at hl 2 rfl) ?_
          refine pf_7_1 hx hb htm hown hE hP hS hw hj6 (htm _ qw_176) dX5_comesOfModule_53 (fun H locs hP hS => ?_)
          refine lv_aload_n hx hb dX5_comesOfModule_56 rfl (lv_at hl 0 rfl) ?_
          refine lv_aload_n hx hb dX5_comesOfModule_57 rfl (lv_at hl 1 rfl) ?_
          refine gf_0_2 hx hb htm hown hE hP hw (htm _ qw_140) dX5_comesOfModule_58 ?_
          refine lv_iload_n hx hb dX5_comesOfModule_61 rfl (lv_at hl 2 rfl) ?_
          obtain ⟨hn7, hF⟩ := ite_S hF
          refine al_1 hx hb htm hown hE hP hw hn7 dX5_comesOfModule_62 ?_
          refine pf_7_2 hx hb htm hown hE hP hS hw hj6 (htm _ qw_177) dX5_comesOfModule_63 (fun H locs hP hS => ?_)
          refine lv_aload_n hx hb dX5_comesOfModule_66 rfl (lv_at hl 0 rfl) ?_
          refine lv_iload_n hx hb dX5_comesOfModule_67 rfl (lv_at hl 3 rfl) ?_
          refine pf_7_4 hx hb htm hown hE hP hS hw hj6 (htm _ qw_178) dX5_comesOfModule_68 (fun H locs hP hS => ?_)
          refine lv_aload_n hx hb dX5_comesOfModule_71 rfl (lv_at hl 0 rfl) ?_
          refine lv_iconst (v := 0) hx hb dX5_comesOfModule_72 (by decide) ?_
          refine pf_7_5 hx hb htm hown hE hP hS hw hj6 (htm _ qw_170) dX5_comesOfModule_73 (fun H locs hP hS => ?_)
          refine lv_aload_n hx hb dX5_comesOfModule_76 rfl (lv_at hl 0 rfl) ?_
          refine lv_aload_n hx hb dX5_comesOfModule_77 rfl (lv_at hl 1 rfl) ?_
          refine gf_0_10 hx hb htm hown hE hP hw (htm _ qw_161) dX5_comesOfModule_78 ?_
          refine pf_7_11 hx hb htm hown hE hP hS hw hj6 (htm _ qw_179) dX5_comesOfModule_81 (fun H locs hP hS => ?_)
          refine lv_aload_n hx hb dX5_comesOfModule_84 rfl (lv_at hl 1 rfl) ?_
          refine lv_dup hx hb dX5_comesOfModule_85 rfl ?_
          refine gf_0_10 hx hb htm hown hE hP hw (htm _ qw_161) dX5_comesOfModule_86 ?_
          refine lv_iconst (v := 1) hx hb dX5_comesOfModule_89 (by decide) ?_
          refine lv_iadd hx hb dX5_comesOfModule_90 ?_
          refine pf_0_10 hx hb htm hown hE hP hS hw (htm _ qw_161) dX5_comesOfModule_91 (fun H locs hP hS => ?_)
          refine lv_aload_n hx hb dX5_comesOfModule_94 rfl (lv_at hl 0 rfl) ?_
          obtain ⟨e1, e2⟩ := Prod.mk.inj (Option.some.inj hF)
          subst e1
          subst e2
          exact m_aretR X hS hP rfl dX5_comesOfModule_95
        · have hF := ite_F c4 hF
          refine lv_null hx hb dX5_comesOfModule_29 ?_
          obtain ⟨e1, e2⟩ := Prod.mk.inj (Option.some.inj hF)
          subst e1
          subst e2
          exact m_aretN X hS hP rfl dX5_comesOfModule_30
