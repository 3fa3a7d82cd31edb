theorem sw_X6_isWithin : SW RX6 yX6_isWithin cX6_isWithin 3 (some .boolean) 3 := ⟨qw_11, qw_12, qw_10, ⟨rfl, by decide, by decide, by decide +kernel⟩⟩
theorem sw_X6_checkIndex : SW RX6 yX6_checkIndex cX6_checkIndex 1 none 1 := ⟨qw_398, qw_12, qw_394, ⟨rfl, by decide, by decide, by decide +kernel⟩⟩
theorem sw_X6_checkArgument : SW RX6 yX6_checkArgument cX6_checkArgument 1 none 1 := ⟨qw_407, qw_12, qw_395, ⟨rfl, by decide, by decide, by decide +kernel⟩⟩
theorem sw_X6_checkState : SW RX6 yX6_checkState cX6_checkState 1 none 1 := ⟨qw_392, qw_12, qw_389, ⟨rfl, by decide, by decide, by decide +kernel⟩⟩
theorem sw_X5_goesOut : SW RX5 yX5_goesOut cX5_goesOut 1 (some .boolean) 1 := ⟨qw_348, qw_203, qw_296, ⟨rfl, by decide, by decide, by decide +kernel⟩⟩
theorem sw_J6_bitCount_0f7a4 : SW RJ6 yJ6_bitCount_0f7a4 cJ6_bitCount_0f7a4 1 (some .int) 1 := ⟨qw_365, qw_366, qw_367, ⟨rfl, by decide, by decide, by decide +kernel⟩⟩
def f_X6_isWithin (x0 : Int32) (x1 : Int32) (x2 : Int32) : Option (Int32) :=
  if x0 < x1 then (some 0) else (if x2 < x0 then (some 0) else (some 1))
def rm_X6_isWithin : Room := { frames := 0, cells := 0, slots := 0, locals := 0 }
set_option maxRecDepth 20000 in
set_option maxHeartbeats 4000000 in
theorem c_X6_isWithin {l : Launch} {D : va_G} {ad : Nat → Nat → Nat → Nat} {cI cZ cP : ClassId} {A : Nat → Prop} {w : Nat} {G V U : MT} {x0 : Int32} {x1 : Int32} {x2 : Int32} {r : Int32}  (hF : f_X6_isWithin x0 x1 x2 = some r) : Met l yX6_isWithin (.code yX6_isWithin cX6_isWithin 3 (some .boolean) :: WM) rm_X6_isWithin (PcM D ad cI cZ cP A [.int x0, .int x1, .int x2] (Pic D ad cI cZ cP w G V U)) (QcI A r (Pic D ad cI cZ cP w G V U)) 0 0 A := by
  refine m_entry (by decide) (Nat.le_of_ble_eq_true rfl) (fun p e s m below meth c ls X hP hS hl => ?_)
  have X : MX p s m _ meth c cX6_isWithin RX6 3 (some .boolean) D ad cI cZ cP A := X
  obtain ⟨hx, hb, hml, hown, htm, hr, hlk, hE⟩ := id X
  have hl : lv_has ls 3 [(0, .int x0), (1, .int x1), (2, .int x2)] := hl
  refine lv_iload_n hx hb dX6_isWithin_0 rfl (lv_at hl 0 rfl) ?_
  refine lv_iload_n hx hb dX6_isWithin_1 rfl (lv_at hl 1 rfl) ?_
  refine lv_icmp_lt (tgt := 14) hx hb dX6_isWithin_2 (by decide) (fun c1 => ?_) (fun c1 => ?_)
  · have hF := ite_T c1 hF
    refine lv_iconst (v := 0) hx hb dX6_isWithin_14 (by decide) ?_
    have e1 := Option.some.inj hF
    subst e1
    exact m_zret X hS hP rfl (Or.inl rfl) dX6_isWithin_15
  · have hF := ite_F c1 hF
    refine lv_iload_n hx hb dX6_isWithin_5 rfl (lv_at hl 0 rfl) ?_
    refine lv_iload_n hx hb dX6_isWithin_6 rfl (lv_at hl 2 rfl) ?_
    refine lv_icmp_gt (tgt := 14) hx hb dX6_isWithin_7 (by decide) (fun c2 => ?_) (fun c2 => ?_)
    · have hF := ite_T c2 hF
      refine lv_iconst (v := 0) hx hb dX6_isWithin_14 (by decide) ?_
      have e1 := Option.some.inj hF
      subst e1
      exact m_zret X hS hP rfl (Or.inl rfl) dX6_isWithin_15
    · have hF := ite_F c2 hF
      refine lv_iconst (v := 1) hx hb dX6_isWithin_10 (by decide) ?_
      refine lv_goto (tgt := 15) hx hb dX6_isWithin_11 (by decide) ?_
      have e1 := Option.some.inj hF
      subst e1
      exact m_zret X hS hP rfl (Or.inr rfl) dX6_isWithin_15
def f_X6_checkIndex (x0 : Int32) : Option (Unit) :=
  if x0 = 0 then (none) else (some ())
def rm_X6_checkIndex : Room := { frames := 0, cells := 0, slots := 0, locals := 0 }
set_option maxRecDepth 20000 in
set_option maxHeartbeats 4000000 in
theorem c_X6_checkIndex {l : Launch} {D : va_G} {ad : Nat → Nat → Nat → Nat} {cI cZ cP : ClassId} {A : Nat → Prop} {w : Nat} {G V U : MT} {x0 : Int32}  (hF : f_X6_checkIndex x0 = some ()) : Met l yX6_checkIndex (.code yX6_checkIndex cX6_checkIndex 1 none :: WM) rm_X6_checkIndex (PcM D ad cI cZ cP A [.int x0] (Pic D ad cI cZ cP w G V U)) (QcV A (Pic D ad cI cZ cP w G V U)) 0 0 A := by
  refine m_entry (by decide) (Nat.le_of_ble_eq_true rfl) (fun p e s m below meth c ls X hP hS hl => ?_)
  have X : MX p s m _ meth c cX6_checkIndex RX6 1 none D ad cI cZ cP A := X
  obtain ⟨hx, hb, hml, hown, htm, hr, hlk, hE⟩ := id X
  have hl : lv_has ls 1 [(0, .int x0)] := hl
  refine lv_iload_n hx hb dX6_checkIndex_0 rfl (lv_at hl 0 rfl) ?_
  refine lv_if_ne (tgt := 12) hx hb dX6_checkIndex_1 (by decide) (fun c1 => ?_) (fun c1 => ?_)
  · have hF := ite_F c1 hF
    exact m_vret X hS hP dX6_checkIndex_12
  · have hF := ite_T c1 hF
    exact ns_S hF
def f_X6_checkArgument (x0 : Int32) : Option (Unit) :=
  if x0 = 0 then (none) else (some ())
def rm_X6_checkArgument : Room := { frames := 0, cells := 0, slots := 0, locals := 0 }
set_option maxRecDepth 20000 in
set_option maxHeartbeats 4000000 in
theorem c_X6_checkArgument {l : Launch} {D : va_G} {ad : Nat → Nat → Nat → Nat} {cI cZ cP : ClassId} {A : Nat → Prop} {w : Nat} {G V U : MT} {x0 : Int32}  (hF : f_X6_checkArgument x0 = some ()) : Met l yX6_checkArgument (.code yX6_checkArgument cX6_checkArgument 1 none :: WM) rm_X6_checkArgument (PcM D ad cI cZ cP A [.int x0] (Pic D ad cI cZ cP w G V U)) (QcV A (Pic D ad cI cZ cP w G V U)) 0 0 A := by
  refine m_entry (by decide) (Nat.le_of_ble_eq_true rfl) (fun p e s m below meth c ls X hP hS hl => ?_)
  have X : MX p s m _ meth c cX6_checkArgument RX6 1 none D ad cI cZ cP A := X
  obtain ⟨hx, hb, hml, hown, htm, hr, hlk, hE⟩ := id X
  have hl : lv_has ls 1 [(0, .int x0)] := hl
  refine lv_iload_n hx hb dX6_checkArgument_0 rfl (lv_at hl 0 rfl) ?_
  refine lv_if_ne (tgt := 12) hx hb dX6_checkArgument_1 (by decide) (fun c1 => ?_) (fun c1 => ?_)
  · have hF := ite_F c1 hF
    exact m_vret X hS hP dX6_checkArgument_12
  · have hF := ite_T c1 hF
    exact ns_S hF
def f_X6_checkState (x0 : Int32) : Option (Unit) :=
  if x0 = 0 then (none) else (some ())
def rm_X6_checkState : Room := { frames := 0, cells := 0, slots := 0, locals := 0 }
set_option maxRecDepth 20000 in
set_option maxHeartbeats 4000000 in
theorem c_X6_checkState {l : Launch} {D : va_G} {ad : Nat → Nat → Nat → Nat} {cI cZ cP : ClassId} {A : Nat → Prop} {w : Nat} {G V U : MT} {x0 : Int32}  (hF : f_X6_checkState x0 = some ()) : Met l yX6_checkState (.code yX6_checkState cX6_checkState 1 none :: WM) rm_X6_checkState (PcM D ad cI cZ cP A [.int x0] (Pic D ad cI cZ cP w G V U)) (QcV A (Pic D ad cI cZ cP w G V U)) 0 0 A := by
  refine m_entry (by decide) (Nat.le_of_ble_eq_true rfl) (fun p e s m below meth c ls X hP hS hl => ?_)
  have X : MX p s m _ meth c cX6_checkState RX6 1 none D ad cI cZ cP A := X
  obtain ⟨hx, hb, hml, hown, htm, hr, hlk, hE⟩ := id X
  have hl : lv_has ls 1 [(0, .int x0)] := hl
  refine lv_iload_n hx hb dX6_checkState_0 rfl (lv_at hl 0 rfl) ?_
  refine lv_if_ne (tgt := 12) hx hb dX6_checkState_1 (by decide) (fun c1 => ?_) (fun c1 => ?_)
  · have hF := ite_F c1 hF
    exact m_vret X hS hP dX6_checkState_12
  · have hF := ite_T c1 hF
    exact ns_S hF
def f_X5_goesOut (x0 : Int32) : Option (Int32) :=
  if x0 = 6 then (some 1) else (if x0 = 7 then (some 1) else (if x0 = 8 then (some 1) else (if x0 = 9 then (some 1) else (if x0 = 10 then (some 0) else (if x0 = 11 then (some 1) else (if x0 = 12 then (some 1) else (if x0 = 13 then (some 1) else (if x0 = 14 then (some 0) else (if x0 = 15 then (some 0) else (if x0 = 16 then (some 0) else (if x0 = 17 then (some 1) else (some 0))))))))))))
def rm_X5_goesOut : Room := { frames := 0, cells := 0, slots := 0, locals := 0 }
set_option maxRecDepth 20000 in
set_option maxHeartbeats 4000000 in
theorem c_X5_goesOut {l : Launch} {D : va_G} {ad : Nat → Nat → Nat → Nat} {cI cZ cP : ClassId} {A : Nat → Prop} {w : Nat} {G V U : MT} {x0 : Int32} {r : Int32}  (hF : f_X5_goesOut x0 = some r) : Met l yX5_goesOut (.code yX5_goesOut cX5_goesOut 1 (some .boolean) :: WM) rm_X5_goesOut (PcM D ad cI cZ cP A [.int x0] (Pic D ad cI cZ cP w G V U)) (QcI A r (Pic D ad cI cZ cP w G V U)) 0 0 A := by
  refine m_entry (by decide) (Nat.le_of_ble_eq_true rfl) (fun p e s m below meth c ls X hP hS hl => ?_)
  have X : MX p s m _ meth c cX5_goesOut RX5 1 (some .boolean) D ad cI cZ cP A := X
  obtain ⟨hx, hb, hml, hown, htm, hr, hlk, hE⟩ := id X
  have hl : lv_has ls 1 [(0, .int x0)] := hl
  refine lv_iload_n hx hb dX5_goesOut_0 rfl (lv_at hl 0 rfl) ?_
  by_cases c1 : x0 = 6
  · have hF := ite_T c1 hF
    refine lv_tableIn (off := 63) (tgt := 64) hx hb dX5_goesOut_1 (by rw [c1]; decide) (by rw [c1]; decide) (by rw [c1]; rfl) (by decide) ?_
    refine lv_iconst (v := 1) hx hb dX5_goesOut_64 (by decide) ?_
    have e1 := Option.some.inj hF
    subst e1
    exact m_zret X hS hP rfl (Or.inr rfl) dX5_goesOut_65
  have hF := ite_F c1 hF
  by_cases c2 : x0 = 7
  · have hF := ite_T c2 hF
    refine lv_tableIn (off := 63) (tgt := 64) hx hb dX5_goesOut_1 (by rw [c2]; decide) (by rw [c2]; decide) (by rw [c2]; rfl) (by decide) ?_
    refine lv_iconst (v := 1) hx hb dX5_goesOut_64 (by decide) ?_
    have e1 := Option.some.inj hF
    subst e1
    exact m_zret X hS hP rfl (Or.inr rfl) dX5_goesOut_65
  have hF := ite_F c2 hF
  by_cases c3 : x0 = 8
  · have hF := ite_T c3 hF
    refine lv_tableIn (off := 63) (tgt := 64) hx hb dX5_goesOut_1 (by rw [c3]; decide) (by rw [c3]; decide) (by rw [c3]; rfl) (by decide) ?_
    refine lv_iconst (v := 1) hx hb dX5_goesOut_64 (by decide) ?_
    have e1 := Option.some.inj hF
    subst e1
    exact m_zret X hS hP rfl (Or.inr rfl) dX5_goesOut_65
  have hF := ite_F c3 hF
  by_cases c4 : x0 = 9
  · have hF := ite_T c4 hF
    refine lv_tableIn (off := 63) (tgt := 64) hx hb dX5_goesOut_1 (by rw [c4]; decide) (by rw [c4]; decide) (by rw [c4]; rfl) (by decide) ?_
    refine lv_iconst (v := 1) hx hb dX5_goesOut_64 (by decide) ?_
    have e1 := Option.some.inj hF
    subst e1
    exact m_zret X hS hP rfl (Or.inr rfl) dX5_goesOut_65
  have hF := ite_F c4 hF
  by_cases c5 : x0 = 10
  · have hF := ite_T c5 hF
    refine lv_tableIn (off := 65) (tgt := 66) hx hb dX5_goesOut_1 (by rw [c5]; decide) (by rw [c5]; decide) (by rw [c5]; rfl) (by decide) ?_
    refine lv_iconst (v := 0) hx hb dX5_goesOut_66 (by decide) ?_
    have e1 := Option.some.inj hF
    subst e1
    exact m_zret X hS hP rfl (Or.inl rfl) dX5_goesOut_67
  have hF := ite_F c5 hF
  by_cases c6 : x0 = 11
  · have hF := ite_T c6 hF
    refine lv_tableIn (off := 63) (tgt := 64) hx hb dX5_goesOut_1 (by rw [c6]; decide) (by rw [c6]; decide) (by rw [c6]; rfl) (by decide) ?_
    refine lv_iconst (v := 1) hx hb dX5_goesOut_64 (by decide) ?_
    have e1 := Option.some.inj hF
    subst e1
    exact m_zret X hS hP rfl (Or.inr rfl) dX5_goesOut_65
  have hF := ite_F c6 hF
  by_cases c7 : x0 = 12
  · have hF := ite_T c7 hF
    refine lv_tableIn (off := 63) (tgt := 64) hx hb dX5_goesOut_1 (by rw [c7]; decide) (by rw [c7]; decide) (by rw [c7]; rfl) (by decide) ?_
    refine lv_iconst (v := 1) hx hb dX5_goesOut_64 (by decide) ?_
    have e1 := Option.some.inj hF
    subst e1
    exact m_zret X hS hP rfl (Or.inr rfl) dX5_goesOut_65
  have hF := ite_F c7 hF
  by_cases c8 : x0 = 13
  · have hF := ite_T c8 hF
    refine lv_tableIn (off := 63) (tgt := 64) hx hb dX5_goesOut_1 (by rw [c8]; decide) (by rw [c8]; decide) (by rw [c8]; rfl) (by decide) ?_
    refine lv_iconst (v := 1) hx hb dX5_goesOut_64 (by decide) ?_
    have e1 := Option.some.inj hF
    subst e1
    exact m_zret X hS hP rfl (Or.inr rfl) dX5_goesOut_65
  have hF := ite_F c8 hF
  by_cases c9 : x0 = 14
  · have hF := ite_T c9 hF
    refine lv_tableIn (off := 65) (tgt := 66) hx hb dX5_goesOut_1 (by rw [c9]; decide) (by rw [c9]; decide) (by rw [c9]; rfl) (by decide) ?_
    refine lv_iconst (v := 0) hx hb dX5_goesOut_66 (by decide) ?_
    have e1 := Option.some.inj hF
    subst e1
    exact m_zret X hS hP rfl (Or.inl rfl) dX5_goesOut_67
  have hF := ite_F c9 hF
  by_cases c10 : x0 = 15
  · have hF := ite_T c10 hF
    refine lv_tableIn (off := 65) (tgt := 66) hx hb dX5_goesOut_1 (by rw [c10]; decide) (by rw [c10]; decide) (by rw [c10]; rfl) (by decide) ?_
    refine lv_iconst (v := 0) hx hb dX5_goesOut_66 (by decide) ?_
    have e1 := Option.some.inj hF
    subst e1
    exact m_zret X hS hP rfl (Or.inl rfl) dX5_goesOut_67
  have hF := ite_F c10 hF
  by_cases c11 : x0 = 16
  · have hF := ite_T c11 hF
    refine lv_tableIn (off := 65) (tgt := 66) hx hb dX5_goesOut_1 (by rw [c11]; decide) (by rw [c11]; decide) (by rw [c11]; rfl) (by decide) ?_
    refine lv_iconst (v := 0) hx hb dX5_goesOut_66 (by decide) ?_
    have e1 := Option.some.inj hF
    subst e1
    exact m_zret X hS hP rfl (Or.inl rfl) dX5_goesOut_67
  have hF := ite_F c11 hF
  by_cases c12 : x0 = 17
  · have hF := ite_T c12 hF
    refine lv_tableIn (off := 63) (tgt := 64) hx hb dX5_goesOut_1 (by rw [c12]; decide) (by rw [c12]; decide) (by rw [c12]; rfl) (by decide) ?_
    refine lv_iconst (v := 1) hx hb dX5_goesOut_64 (by decide) ?_
    have e1 := Option.some.inj hF
    subst e1
    exact m_zret X hS hP rfl (Or.inr rfl) dX5_goesOut_65
  have hF := ite_F c12 hF
  refine lv_tableOut (tgt := 66) hx hb dX5_goesOut_1 (by have hc1 := lv_neT c1 (a := 6) rfl; have hc2 := lv_neT c2 (a := 7) rfl; have hc3 := lv_neT c3 (a := 8) rfl; have hc4 := lv_neT c4 (a := 9) rfl; have hc5 := lv_neT c5 (a := 10) rfl; have hc6 := lv_neT c6 (a := 11) rfl; have hc7 := lv_neT c7 (a := 12) rfl; have hc8 := lv_neT c8 (a := 13) rfl; have hc9 := lv_neT c9 (a := 14) rfl; have hc10 := lv_neT c10 (a := 15) rfl; have hc11 := lv_neT c11 (a := 16) rfl; have hc12 := lv_neT c12 (a := 17) rfl; omega) (by decide) ?_
  refine lv_iconst (v := 0) hx hb dX5_goesOut_66 (by decide) ?_
  have e1 := Option.some.inj hF
  subst e1
  exact m_zret X hS hP rfl (Or.inl rfl) dX5_goesOut_67
def f_J6_bitCount_0f7a4 (x0 : Int32) : Option (Int32) :=
  some ((((((((x0 - ((us x0 1) &&& 1431655765)) &&& 858993459) + ((us (x0 - ((us x0 1) &&& 1431655765)) 2) &&& 858993459)) + (us (((x0 - ((us x0 1) &&& 1431655765)) &&& 858993459) + ((us (x0 - ((us x0 1) &&& 1431655765)) 2) &&& 858993459)) 4)) &&& 252645135) + (us (((((x0 - ((us x0 1) &&& 1431655765)) &&& 858993459) + ((us (x0 - ((us x0 1) &&& 1431655765)) 2) &&& 858993459)) + (us (((x0 - ((us x0 1) &&& 1431655765)) &&& 858993459) + ((us (x0 - ((us x0 1) &&& 1431655765)) 2) &&& 858993459)) 4)) &&& 252645135) 8)) + (us ((((((x0 - ((us x0 1) &&& 1431655765)) &&& 858993459) + ((us (x0 - ((us x0 1) &&& 1431655765)) 2) &&& 858993459)) + (us (((x0 - ((us x0 1) &&& 1431655765)) &&& 858993459) + ((us (x0 - ((us x0 1) &&& 1431655765)) 2) &&& 858993459)) 4)) &&& 252645135) + (us (((((x0 - ((us x0 1) &&& 1431655765)) &&& 858993459) + ((us (x0 - ((us x0 1) &&& 1431655765)) 2) &&& 858993459)) + (us (((x0 - ((us x0 1) &&& 1431655765)) &&& 858993459) + ((us (x0 - ((us x0 1) &&& 1431655765)) 2) &&& 858993459)) 4)) &&& 252645135) 8)) 16)) &&& 63)
def rm_J6_bitCount_0f7a4 : Room := { frames := 0, cells := 0, slots := 0, locals := 0 }
set_option maxRecDepth 20000 in
set_option maxHeartbeats 4000000 in
theorem c_J6_bitCount_0f7a4 {l : Launch} {D : va_G} {ad : Nat → Nat → Nat → Nat} {cI cZ cP : ClassId} {A : Nat → Prop} {w : Nat} {G V U : MT} {x0 : Int32} {r : Int32}  (hF : f_J6_bitCount_0f7a4 x0 = some r) : Met l yJ6_bitCount_0f7a4 (.code yJ6_bitCount_0f7a4 cJ6_bitCount_0f7a4 1 (some .int) :: WM) rm_J6_bitCount_0f7a4 (PcM D ad cI cZ cP A [.int x0] (Pic D ad cI cZ cP w G V U)) (QcI A r (Pic D ad cI cZ cP w G V U)) 0 0 A := by
  refine m_entry (by decide) (Nat.le_of_ble_eq_true rfl) (fun p e s m below meth c ls X hP hS hl => ?_)
  have X : MX p s m _ meth c cJ6_bitCount_0f7a4 RJ6 1 (some .int) D ad cI cZ cP A := X
  obtain ⟨hx, hb, hml, hown, htm, hr, hlk, hE⟩ := id X
  have hl : lv_has ls 1 [(0, .int x0)] := hl
  refine lv_iload_n hx hb dJ6_bitCount_0f7a4_0 rfl (lv_at hl 0 rfl) ?_
  refine lv_iload_n hx hb dJ6_bitCount_0f7a4_1 rfl (lv_at hl 0 rfl) ?_
  refine lv_iconst (v := 1) hx hb dJ6_bitCount_0f7a4_2 (by decide) ?_
  refine lv_iushr (v := us x0 1) hx hb dJ6_bitCount_0f7a4_3 rfl ?_
  refine lv_ldcw (v := 1431655765) hx hb hown (htm _ qw_368) dJ6_bitCount_0f7a4_4 ?_
  refine lv_iand hx hb dJ6_bitCount_0f7a4_7 ?_
  refine lv_isub hx hb dJ6_bitCount_0f7a4_8 ?_
  refine lv_istore_n (lv' := [(0, .int (x0 - ((us x0 1) &&& 1431655765)))]) hx hb dJ6_bitCount_0f7a4_9 rfl hl (by decide) rfl (fun ls hl => ?_)
  refine lv_iload_n hx hb dJ6_bitCount_0f7a4_10 rfl (lv_at hl 0 rfl) ?_
  refine lv_ldcw (v := 858993459) hx hb hown (htm _ qw_369) dJ6_bitCount_0f7a4_11 ?_
  refine lv_iand hx hb dJ6_bitCount_0f7a4_14 ?_
  refine lv_iload_n hx hb dJ6_bitCount_0f7a4_15 rfl (lv_at hl 0 rfl) ?_
  refine lv_iconst (v := 2) hx hb dJ6_bitCount_0f7a4_16 (by decide) ?_
  refine lv_iushr (v := us (x0 - ((us x0 1) &&& 1431655765)) 2) hx hb dJ6_bitCount_0f7a4_17 rfl ?_
  refine lv_ldcw (v := 858993459) hx hb hown (htm _ qw_369) dJ6_bitCount_0f7a4_18 ?_
  refine lv_iand hx hb dJ6_bitCount_0f7a4_21 ?_
  refine lv_iadd hx hb dJ6_bitCount_0f7a4_22 ?_
  refine lv_istore_n (lv' := [(0, .int (((x0 - ((us x0 1) &&& 1431655765)) &&& 858993459) + ((us (x0 - ((us x0 1) &&& 1431655765)) 2) &&& 858993459)))]) hx hb dJ6_bitCount_0f7a4_23 rfl hl (by decide) rfl (fun ls hl => ?_)
  refine lv_iload_n hx hb dJ6_bitCount_0f7a4_24 rfl (lv_at hl 0 rfl) ?_
  refine lv_iload_n hx hb dJ6_bitCount_0f7a4_25 rfl (lv_at hl 0 rfl) ?_
  refine lv_iconst (v := 4) hx hb dJ6_bitCount_0f7a4_26 (by decide) ?_
  refine lv_iushr (v := us (((x0 - ((us x0 1) &&& 1431655765)) &&& 858993459) + ((us (x0 - ((us x0 1) &&& 1431655765)) 2) &&& 858993459)) 4) hx hb dJ6_bitCount_0f7a4_27 rfl ?_
  refine lv_iadd hx hb dJ6_bitCount_0f7a4_28 ?_
  refine lv_ldcw (v := 252645135) hx hb hown (htm _ qw_370) dJ6_bitCount_0f7a4_29 ?_
  refine lv_iand hx hb dJ6_bitCount_0f7a4_32 ?_
  refine lv_istore_n (lv' := [(0, .int (((((x0 - ((us x0 1) &&& 1431655765)) &&& 858993459) + ((us (x0 - ((us x0 1) &&& 1431655765)) 2) &&& 858993459)) + (us (((x0 - ((us x0 1) &&& 1431655765)) &&& 858993459) + ((us (x0 - ((us x0 1) &&& 1431655765)) 2) &&& 858993459)) 4)) &&& 252645135))]) hx hb dJ6_bitCount_0f7a4_33 rfl hl (by decide) rfl (fun ls hl => ?_)
  refine lv_iload_n hx hb dJ6_bitCount_0f7a4_34 rfl (lv_at hl 0 rfl) ?_
  refine lv_iload_n hx hb dJ6_bitCount_0f7a4_35 rfl (lv_at hl 0 rfl) ?_
  refine lv_bipush (v := 8) hx hb dJ6_bitCount_0f7a4_36 (by decide) ?_
  refine lv_iushr (v := us (((((x0 - ((us x0 1) &&& 1431655765)) &&& 858993459) + ((us (x0 - ((us x0 1) &&& 1431655765)) 2) &&& 858993459)) + (us (((x0 - ((us x0 1) &&& 1431655765)) &&& 858993459) + ((us (x0 - ((us x0 1) &&& 1431655765)) 2) &&& 858993459)) 4)) &&& 252645135) 8) hx hb dJ6_bitCount_0f7a4_38 rfl ?_
  refine lv_iadd hx hb dJ6_bitCount_0f7a4_39 ?_
  refine lv_istore_n (lv' := [(0, .int ((((((x0 - ((us x0 1) &&& 1431655765)) &&& 858993459) + ((us (x0 - ((us x0 1) &&& 1431655765)) 2) &&& 858993459)) + (us (((x0 - ((us x0 1) &&& 1431655765)) &&& 858993459) + ((us (x0 - ((us x0 1) &&& 1431655765)) 2) &&& 858993459)) 4)) &&& 252645135) + (us (((((x0 - ((us x0 1) &&& 1431655765)) &&& 858993459) + ((us (x0 - ((us x0 1) &&& 1431655765)) 2) &&& 858993459)) + (us (((x0 - ((us x0 1) &&& 1431655765)) &&& 858993459) + ((us (x0 - ((us x0 1) &&& 1431655765)) 2) &&& 858993459)) 4)) &&& 252645135) 8)))]) hx hb dJ6_bitCount_0f7a4_40 rfl hl (by decide) rfl (fun ls hl => ?_)
  refine lv_iload_n hx hb dJ6_bitCount_0f7a4_41 rfl (lv_at hl 0 rfl) ?_
  refine lv_iload_n hx hb dJ6_bitCount_0f7a4_42 rfl (lv_at hl 0 rfl) ?_
  refine lv_bipush (v := 16) hx hb dJ6_bitCount_0f7a4_43 (by decide) ?_
  refine lv_iushr (v := us ((((((x0 - ((us x0 1) &&& 1431655765)) &&& 858993459) + ((us (x0 - ((us x0 1) &&& 1431655765)) 2) &&& 858993459)) + (us (((x0 - ((us x0 1) &&& 1431655765)) &&& 858993459) + ((us (x0 - ((us x0 1) &&& 1431655765)) 2) &&& 858993459)) 4)) &&& 252645135) + (us (((((x0 - ((us x0 1) &&& 1431655765)) &&& 858993459) + ((us (x0 - ((us x0 1) &&& 1431655765)) 2) &&& 858993459)) + (us (((x0 - ((us x0 1) &&& 1431655765)) &&& 858993459) + ((us (x0 - ((us x0 1) &&& 1431655765)) 2) &&& 858993459)) 4)) &&& 252645135) 8)) 16) hx hb dJ6_bitCount_0f7a4_45 rfl ?_
  refine lv_iadd hx hb dJ6_bitCount_0f7a4_46 ?_
  refine lv_istore_n (lv' := [(0, .int (((((((x0 - ((us x0 1) &&& 1431655765)) &&& 858993459) + ((us (x0 - ((us x0 1) &&& 1431655765)) 2) &&& 858993459)) + (us (((x0 - ((us x0 1) &&& 1431655765)) &&& 858993459) + ((us (x0 - ((us x0 1) &&& 1431655765)) 2) &&& 858993459)) 4)) &&& 252645135) + (us (((((x0 - ((us x0 1) &&& 1431655765)) &&& 858993459) + ((us (x0 - ((us x0 1) &&& 1431655765)) 2) &&& 858993459)) + (us (((x0 - ((us x0 1) &&& 1431655765)) &&& 858993459) + ((us (x0 - ((us x0 1) &&& 1431655765)) 2) &&& 858993459)) 4)) &&& 252645135) 8)) + (us ((((((x0 - ((us x0 1) &&& 1431655765)) &&& 858993459) + ((us (x0 - ((us x0 1) &&& 1431655765)) 2) &&& 858993459)) + (us (((x0 - ((us x0 1) &&& 1431655765)) &&& 858993459) + ((us (x0 - ((us x0 1) &&& 1431655765)) 2) &&& 858993459)) 4)) &&& 252645135) + (us (((((x0 - ((us x0 1) &&& 1431655765)) &&& 858993459) + ((us (x0 - ((us x0 1) &&& 1431655765)) 2) &&& 858993459)) + (us (((x0 - ((us x0 1) &&& 1431655765)) &&& 858993459) + ((us (x0 - ((us x0 1) &&& 1431655765)) 2) &&& 858993459)) 4)) &&& 252645135) 8)) 16)))]) hx hb dJ6_bitCount_0f7a4_47 rfl hl (by decide) rfl (fun ls hl => ?_)
  refine lv_iload_n hx hb dJ6_bitCount_0f7a4_48 rfl (lv_at hl 0 rfl) ?_
  refine lv_bipush (v := 63) hx hb dJ6_bitCount_0f7a4_49 (by decide) ?_
  refine lv_iand hx hb dJ6_bitCount_0f7a4_51 ?_
  have e1 := Option.some.inj hF
  subst e1
  exact m_iret X hS hP rfl dJ6_bitCount_0f7a4_52
