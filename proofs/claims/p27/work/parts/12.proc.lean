theorem vw_X2_copyFrom : VW RX2 yX2_copyFrom cX2_copyFrom 2 none 1 := ⟨qw_166, qw_167, qw_109, qw_86, ⟨rfl, by decide, by decide, by decide +kernel⟩⟩
theorem vw_X2_isSupervisor : VW RX2 yX2_isSupervisor cX2_isSupervisor 1 (some .boolean) 0 := ⟨qw_221, qw_222, qw_109, qw_87, ⟨rfl, by decide, by decide, by decide +kernel⟩⟩
theorem vw_X2_isLinkedWith : VW RX2 yX2_isLinkedWith cX2_isLinkedWith 2 (some .boolean) 1 := ⟨qw_274, qw_275, qw_109, qw_88, ⟨rfl, by decide, by decide, by decide +kernel⟩⟩
theorem vw_X2_isEmptyPlace : VW RX2 yX2_isEmptyPlace cX2_isEmptyPlace 2 (some .boolean) 1 := ⟨qw_198, qw_199, qw_109, qw_89, ⟨rfl, by decide, by decide, by decide +kernel⟩⟩
theorem vw_X2_localAt : VW RX2 yX2_localAt cX2_localAt 2 (some .int) 1 := ⟨qw_320, qw_321, qw_109, qw_90, ⟨rfl, by decide, by decide, by decide +kernel⟩⟩
theorem vw_X2_putLocal : VW RX2 yX2_putLocal cX2_putLocal 3 none 2 := ⟨qw_328, qw_329, qw_109, qw_91, ⟨rfl, by decide, by decide, by decide +kernel⟩⟩
theorem vw_X2_hold : VW RX2 yX2_hold cX2_hold 2 none 1 := ⟨qw_107, qw_108, qw_109, qw_99, ⟨rfl, by decide, by decide, by decide +kernel⟩⟩
theorem vw_X2_takeMail : VW RX2 yX2_takeMail cX2_takeMail 3 (some .boolean) 1 := ⟨qw_114, qw_115, qw_109, qw_110, ⟨rfl, by decide, by decide, by decide +kernel⟩⟩
theorem vw_X2_waitFor : VW RX2 yX2_waitFor cX2_waitFor 3 none 2 := ⟨qw_332, qw_333, qw_109, qw_111, ⟨rfl, by decide, by decide, by decide +kernel⟩⟩
theorem vw_X2_waitsForMail : VW RX2 yX2_waitsForMail cX2_waitsForMail 2 (some .boolean) 1 := ⟨qw_227, qw_228, qw_109, qw_112, ⟨rfl, by decide, by decide, by decide +kernel⟩⟩
theorem vw_X2_resume : VW RX2 yX2_resume cX2_resume 1 none 0 := ⟨qw_342, qw_343, qw_109, qw_116, ⟨rfl, by decide, by decide, by decide +kernel⟩⟩
theorem vw_X2_placeOf : VW RX2 yX2_placeOf cX2_placeOf 3 (some .int) 1 := ⟨qw_258, qw_259, qw_109, qw_117, ⟨rfl, by decide, by decide, by decide +kernel⟩⟩
def f_X2_copyFrom (V U : MT) (i0 : Nat) (i1 : Nat) : Option (MT) :=
  if U 7 i1 12 = 0 ∨ U 7 i1 12 = 1 then ((f_X0_copyFrom (ct (ct (pt (pt (pt (pt (pt (pt (pt (pt (pt (pt (pt (pt (pt (pt V 7 i0 1 (U 7 i1 1)) 7 i0 2 (U 7 i1 2)) 7 i0 3 (U 7 i1 3)) 7 i0 4 (U 7 i1 4)) 7 i0 5 (U 7 i1 5)) 7 i0 6 (U 7 i1 6)) 7 i0 7 (U 7 i1 7)) 7 i0 8 (U 7 i1 8)) 7 i0 9 (U 7 i1 9)) 7 i0 10 (U 7 i1 10)) 7 i0 11 (U 7 i1 11)) 7 i0 12 (U 7 i1 12)) 7 i0 13 (U 7 i1 13)) 7 i0 14 (U 7 i1 14)) 8 i0 (U 8 i1) 4) 9 i0 (U 9 i1) 4) U i0 i1).bind (fun q2_ => (f_X4_copyFrom q2_ U i0 i1).bind (fun q3_ => some q3_))) else none
def rm_X2_copyFrom : Room := { frames := 2, cells := 0, slots := 0, locals := 61 }
set_option maxRecDepth 20000 in
set_option maxHeartbeats 4000000 in
theorem c_X2_copyFrom {l : Launch} {D : va_G} {ad : Nat → Nat → Nat → Nat} {cI cZ cP : ClassId} {A : Nat → Prop} {w w' : Nat} (hw : w < 2) (hw' : w' < 2) (hww : w + w' = 1) {G V U : MT} {i0 : Nat} {i1 : Nat} {V' : MT}  (hi0 : i0 < 24) (hi1 : i1 < 24) (hF : f_X2_copyFrom V U i0 i1 = some V') : Met l yX2_copyFrom (.code yX2_copyFrom cX2_copyFrom 2 none :: WM) rm_X2_copyFrom (PcM D ad cI cZ cP A [.ref (ad w 7 i0), .ref (ad w' 7 i1)] (Pic D ad cI cZ cP w G V U)) (QcV A (Pic D ad cI cZ cP w G V' U)) 0 0 A := by
  refine m_entry (by decide) (Nat.le_of_ble_eq_true rfl) (fun p e s m below meth c ls X hP hS hl => ?_)
  have X : MX p s m _ meth c cX2_copyFrom RX2 2 none D ad cI cZ cP A := X
  obtain ⟨hx, hb, hml, hown, htm, hr, hlk, hE⟩ := id X
  have hl : lv_has ls 2 [(0, .ref (ad w 7 i0)), (1, .ref (ad w' 7 i1))] := hl
  refine lv_aload_n hx hb dX2_copyFrom_0 rfl (lv_at hl 0 rfl) ?_
  refine lv_aload_n hx hb dX2_copyFrom_1 rfl (lv_at hl 1 rfl) ?_
  refine gf_7_1 hx hb htm hown hE (hP.swap hww) hw' hi1 (htm _ qw_44) dX2_copyFrom_2 ?_
  refine pf_7_1 hx hb htm hown hE hP hS hw hi0 (htm _ qw_44) dX2_copyFrom_5 (fun H locs hP hS => ?_)
  refine lv_aload_n hx hb dX2_copyFrom_8 rfl (lv_at hl 0 rfl) ?_
  refine lv_aload_n hx hb dX2_copyFrom_9 rfl (lv_at hl 1 rfl) ?_
  refine gf_7_2 hx hb htm hown hE (hP.swap hww) hw' hi1 (htm _ qw_45) dX2_copyFrom_10 ?_
  refine pf_7_2 hx hb htm hown hE hP hS hw hi0 (htm _ qw_45) dX2_copyFrom_13 (fun H locs hP hS => ?_)
  refine lv_aload_n hx hb dX2_copyFrom_16 rfl (lv_at hl 0 rfl) ?_
  refine lv_aload_n hx hb dX2_copyFrom_17 rfl (lv_at hl 1 rfl) ?_
  refine gf_7_3 hx hb htm hown hE (hP.swap hww) hw' hi1 (htm _ qw_46) dX2_copyFrom_18 ?_
  refine pf_7_3 hx hb htm hown hE hP hS hw hi0 (htm _ qw_46) dX2_copyFrom_21 (fun H locs hP hS => ?_)
  refine lv_aload_n hx hb dX2_copyFrom_24 rfl (lv_at hl 0 rfl) ?_
  refine lv_aload_n hx hb dX2_copyFrom_25 rfl (lv_at hl 1 rfl) ?_
  refine gf_7_4 hx hb htm hown hE (hP.swap hww) hw' hi1 (htm _ qw_47) dX2_copyFrom_26 ?_
  refine pf_7_4 hx hb htm hown hE hP hS hw hi0 (htm _ qw_47) dX2_copyFrom_29 (fun H locs hP hS => ?_)
  refine lv_aload_n hx hb dX2_copyFrom_32 rfl (lv_at hl 0 rfl) ?_
  refine lv_aload_n hx hb dX2_copyFrom_33 rfl (lv_at hl 1 rfl) ?_
  refine gf_7_5 hx hb htm hown hE (hP.swap hww) hw' hi1 (htm _ qw_48) dX2_copyFrom_34 ?_
  refine pf_7_5 hx hb htm hown hE hP hS hw hi0 (htm _ qw_48) dX2_copyFrom_37 (fun H locs hP hS => ?_)
  refine lv_aload_n hx hb dX2_copyFrom_40 rfl (lv_at hl 0 rfl) ?_
  refine lv_aload_n hx hb dX2_copyFrom_41 rfl (lv_at hl 1 rfl) ?_
  refine gf_7_6 hx hb htm hown hE (hP.swap hww) hw' hi1 (htm _ qw_49) dX2_copyFrom_42 ?_
  refine pf_7_6 hx hb htm hown hE hP hS hw hi0 (htm _ qw_49) dX2_copyFrom_45 (fun H locs hP hS => ?_)
  refine lv_aload_n hx hb dX2_copyFrom_48 rfl (lv_at hl 0 rfl) ?_
  refine lv_aload_n hx hb dX2_copyFrom_49 rfl (lv_at hl 1 rfl) ?_
  refine gf_7_7 hx hb htm hown hE (hP.swap hww) hw' hi1 (htm _ qw_73) dX2_copyFrom_50 ?_
  refine pf_7_7 hx hb htm hown hE hP hS hw hi0 (htm _ qw_73) dX2_copyFrom_53 (fun H locs hP hS => ?_)
  refine lv_aload_n hx hb dX2_copyFrom_56 rfl (lv_at hl 0 rfl) ?_
  refine lv_aload_n hx hb dX2_copyFrom_57 rfl (lv_at hl 1 rfl) ?_
  refine gf_7_8 hx hb htm hown hE (hP.swap hww) hw' hi1 (htm _ qw_74) dX2_copyFrom_58 ?_
  refine pf_7_8 hx hb htm hown hE hP hS hw hi0 (htm _ qw_74) dX2_copyFrom_61 (fun H locs hP hS => ?_)
  refine lv_aload_n hx hb dX2_copyFrom_64 rfl (lv_at hl 0 rfl) ?_
  refine lv_aload_n hx hb dX2_copyFrom_65 rfl (lv_at hl 1 rfl) ?_
  refine gf_7_9 hx hb htm hown hE (hP.swap hww) hw' hi1 (htm _ qw_50) dX2_copyFrom_66 ?_
  refine pf_7_9 hx hb htm hown hE hP hS hw hi0 (htm _ qw_50) dX2_copyFrom_69 (fun H locs hP hS => ?_)
  refine lv_aload_n hx hb dX2_copyFrom_72 rfl (lv_at hl 0 rfl) ?_
  refine lv_aload_n hx hb dX2_copyFrom_73 rfl (lv_at hl 1 rfl) ?_
  refine gf_7_10 hx hb htm hown hE (hP.swap hww) hw' hi1 (htm _ qw_51) dX2_copyFrom_74 ?_
  refine pf_7_10 hx hb htm hown hE hP hS hw hi0 (htm _ qw_51) dX2_copyFrom_77 (fun H locs hP hS => ?_)
  refine lv_aload_n hx hb dX2_copyFrom_80 rfl (lv_at hl 0 rfl) ?_
  refine lv_aload_n hx hb dX2_copyFrom_81 rfl (lv_at hl 1 rfl) ?_
  refine gf_7_11 hx hb htm hown hE (hP.swap hww) hw' hi1 (htm _ qw_75) dX2_copyFrom_82 ?_
  refine pf_7_11 hx hb htm hown hE hP hS hw hi0 (htm _ qw_75) dX2_copyFrom_85 (fun H locs hP hS => ?_)
  refine lv_aload_n hx hb dX2_copyFrom_88 rfl (lv_at hl 0 rfl) ?_
  refine lv_aload_n hx hb dX2_copyFrom_89 rfl (lv_at hl 1 rfl) ?_
  refine gf_7_12 hx hb htm hown hE (hP.swap hww) hw' hi1 (htm _ qw_76) dX2_copyFrom_90 ?_
  obtain ⟨hz1, hF⟩ := ite_S hF
  refine pf_7_12 hx hb htm hown hE hP hS hw hi0 (htm _ qw_76) hz1 dX2_copyFrom_93 (fun H locs hP hS => ?_)
  refine lv_aload_n hx hb dX2_copyFrom_96 rfl (lv_at hl 0 rfl) ?_
  refine lv_aload_n hx hb dX2_copyFrom_97 rfl (lv_at hl 1 rfl) ?_
  refine gf_7_13 hx hb htm hown hE (hP.swap hww) hw' hi1 (htm _ qw_77) dX2_copyFrom_98 ?_
  refine pf_7_13 hx hb htm hown hE hP hS hw hi0 (htm _ qw_77) dX2_copyFrom_101 (fun H locs hP hS => ?_)
  refine lv_aload_n hx hb dX2_copyFrom_104 rfl (lv_at hl 0 rfl) ?_
  refine lv_aload_n hx hb dX2_copyFrom_105 rfl (lv_at hl 1 rfl) ?_
  refine gf_7_14 hx hb htm hown hE (hP.swap hww) hw' hi1 (htm _ qw_78) dX2_copyFrom_106 ?_
  refine pf_7_14 hx hb htm hown hE hP hS hw hi0 (htm _ qw_78) dX2_copyFrom_109 (fun H locs hP hS => ?_)
  refine lv_aload_n hx hb dX2_copyFrom_112 rfl (lv_at hl 1 rfl) ?_
  refine gf_7_15 hx hb htm hown hE (hP.swap hww) hw' hi1 (htm _ qw_52) dX2_copyFrom_113 ?_
  refine lv_iconst (v := 0) hx hb dX2_copyFrom_116 (by decide) ?_
  refine lv_aload_n hx hb dX2_copyFrom_117 rfl (lv_at hl 0 rfl) ?_
  refine gf_7_15 hx hb htm hown hE hP hw hi0 (htm _ qw_52) dX2_copyFrom_118 ?_
  refine lv_iconst (v := 0) hx hb dX2_copyFrom_121 (by decide) ?_
  refine lv_iconst (v := 4) hx hb dX2_copyFrom_122 (by decide) ?_
  refine cp_8 hx hb (hml.trans hl.1.symm) hown htm hE hP hS hw hw' hww hi0 hi1 (htm _ qw_79) (Nat.le_of_ble_eq_true rfl) (Nat.le_of_ble_eq_true rfl) dX2_copyFrom_123 (fun H locs hP hS => ?_)
  refine lv_aload_n hx hb dX2_copyFrom_126 rfl (lv_at hl 1 rfl) ?_
  refine gf_7_16 hx hb htm hown hE (hP.swap hww) hw' hi1 (htm _ qw_53) dX2_copyFrom_127 ?_
  refine lv_iconst (v := 0) hx hb dX2_copyFrom_130 (by decide) ?_
  refine lv_aload_n hx hb dX2_copyFrom_131 rfl (lv_at hl 0 rfl) ?_
  refine gf_7_16 hx hb htm hown hE hP hw hi0 (htm _ qw_53) dX2_copyFrom_132 ?_
  refine lv_iconst (v := 0) hx hb dX2_copyFrom_135 (by decide) ?_
  refine lv_iconst (v := 4) hx hb dX2_copyFrom_136 (by decide) ?_
  refine cp_9 hx hb (hml.trans hl.1.symm) hown htm hE hP hS hw hw' hww hi0 hi1 (htm _ qw_79) (Nat.le_of_ble_eq_true rfl) (Nat.le_of_ble_eq_true rfl) dX2_copyFrom_137 (fun H locs hP hS => ?_)
  refine lv_aload_n hx hb dX2_copyFrom_140 rfl (lv_at hl 0 rfl) ?_
  refine gf_7_17 hx hb htm hown hE hP hw hi0 (htm _ qw_57) dX2_copyFrom_141 ?_
  refine lv_aload_n hx hb dX2_copyFrom_144 rfl (lv_at hl 1 rfl) ?_
  refine gf_7_17 hx hb htm hown hE (hP.swap hww) hw' hi1 (htm _ qw_57) dX2_copyFrom_145 ?_
  obtain ⟨V2, hc2, hF⟩ := ob_S hF
  refine m_cVv X hS vw_X0_copyFrom qw_80 (c_X0_copyFrom hw hw' hww hi0 hi1 hc2) ⟨rfl, rfl⟩ ⟨Nat.le_of_ble_eq_true rfl, Nat.le_of_ble_eq_true rfl⟩ (rc_10 hE hP hw hi0) hP rfl hl.1 (rest := []) rfl (Nat.le_of_ble_eq_true rfl) dX2_copyFrom_148 (fun H locs hP hS => ?_)
  refine lv_aload_n hx hb dX2_copyFrom_151 rfl (lv_at hl 0 rfl) ?_
  refine gf_7_18 hx hb htm hown hE hP hw hi0 (htm _ qw_61) dX2_copyFrom_152 ?_
  refine lv_aload_n hx hb dX2_copyFrom_155 rfl (lv_at hl 1 rfl) ?_
  refine gf_7_18 hx hb htm hown hE (hP.swap hww) hw' hi1 (htm _ qw_61) dX2_copyFrom_156 ?_
  obtain ⟨V3, hc3, hF⟩ := ob_S hF
  refine m_cVv X hS vw_X4_copyFrom qw_83 (c_X4_copyFrom hw hw' hww hi0 hi1 hc3) ⟨rfl, rfl⟩ ⟨Nat.le_of_ble_eq_true rfl, Nat.le_of_ble_eq_true rfl⟩ (rc_13 hE hP hw hi0) hP rfl hl.1 (rest := []) rfl (Nat.le_of_ble_eq_true rfl) dX2_copyFrom_159 (fun H locs hP hS => ?_)
  have e1 := Option.some.inj hF
  subst e1
  exact m_vret X hS hP dX2_copyFrom_162
def f_X2_isSupervisor (V : MT) (i0 : Nat) : Option (Int32) :=
  if V 7 i0 3 = (-1) then (some 0) else (some 1)
def rm_X2_isSupervisor : Room := { frames := 0, cells := 0, slots := 0, locals := 0 }
set_option maxRecDepth 20000 in
set_option maxHeartbeats 4000000 in
theorem c_X2_isSupervisor {l : Launch} {D : va_G} {ad : Nat → Nat → Nat → Nat} {cI cZ cP : ClassId} {A : Nat → Prop} {w : Nat} (hw : w < 2) {G V U : MT} {i0 : Nat} {r : Int32}  (hi0 : i0 < 24) (hF : f_X2_isSupervisor V i0 = some r) : Met l yX2_isSupervisor (.code yX2_isSupervisor cX2_isSupervisor 1 (some .boolean) :: WM) rm_X2_isSupervisor (PcM D ad cI cZ cP A [.ref (ad w 7 i0)] (Pic D ad cI cZ cP w G V U)) (QcI A r (Pic D ad cI cZ cP w G V U)) 0 0 A := by
  refine m_entry (by decide) (Nat.le_of_ble_eq_true rfl) (fun p e s m below meth c ls X hP hS hl => ?_)
  have X : MX p s m _ meth c cX2_isSupervisor RX2 1 (some .boolean) D ad cI cZ cP A := X
  obtain ⟨hx, hb, hml, hown, htm, hr, hlk, hE⟩ := id X
  have hl : lv_has ls 1 [(0, .ref (ad w 7 i0))] := hl
  refine lv_aload_n hx hb dX2_isSupervisor_0 rfl (lv_at hl 0 rfl) ?_
  refine gf_7_3 hx hb htm hown hE hP hw hi0 (htm _ qw_46) dX2_isSupervisor_1 ?_
  refine lv_iconst (v := (-1)) hx hb dX2_isSupervisor_4 (by decide) ?_
  refine lv_icmp_eq (tgt := 12) hx hb dX2_isSupervisor_5 (by decide) (fun c1 => ?_) (fun c1 => ?_)
  · have hF := ite_T c1 hF
    refine lv_iconst (v := 0) hx hb dX2_isSupervisor_12 (by decide) ?_
    have e1 := Option.some.inj hF
    subst e1
    exact m_zret X hS hP rfl (Or.inl rfl) dX2_isSupervisor_13
  · have hF := ite_F c1 hF
    refine lv_iconst (v := 1) hx hb dX2_isSupervisor_8 (by decide) ?_
    refine lv_goto (tgt := 13) hx hb dX2_isSupervisor_9 (by decide) ?_
    have e1 := Option.some.inj hF
    subst e1
    exact m_zret X hS hP rfl (Or.inr rfl) dX2_isSupervisor_13
def f_X2_isLinkedWith (V : MT) (i0 : Nat) (x1 : Int32) : Option (Int32) :=
  if (V 7 i0 13) &&& (1 <<< (x1 &&& 31)) = 0 then (some 0) else (some 1)
def rm_X2_isLinkedWith : Room := { frames := 0, cells := 0, slots := 0, locals := 0 }
set_option maxRecDepth 20000 in
set_option maxHeartbeats 4000000 in
theorem c_X2_isLinkedWith {l : Launch} {D : va_G} {ad : Nat → Nat → Nat → Nat} {cI cZ cP : ClassId} {A : Nat → Prop} {w : Nat} (hw : w < 2) {G V U : MT} {i0 : Nat} {x1 : Int32} {r : Int32}  (hi0 : i0 < 24) (hF : f_X2_isLinkedWith V i0 x1 = some r) : Met l yX2_isLinkedWith (.code yX2_isLinkedWith cX2_isLinkedWith 2 (some .boolean) :: WM) rm_X2_isLinkedWith (PcM D ad cI cZ cP A [.ref (ad w 7 i0), .int x1] (Pic D ad cI cZ cP w G V U)) (QcI A r (Pic D ad cI cZ cP w G V U)) 0 0 A := by
  refine m_entry (by decide) (Nat.le_of_ble_eq_true rfl) (fun p e s m below meth c ls X hP hS hl => ?_)
  have X : MX p s m _ meth c cX2_isLinkedWith RX2 2 (some .boolean) D ad cI cZ cP A := X
  obtain ⟨hx, hb, hml, hown, htm, hr, hlk, hE⟩ := id X
  have hl : lv_has ls 2 [(0, .ref (ad w 7 i0)), (1, .int x1)] := hl
  refine lv_aload_n hx hb dX2_isLinkedWith_0 rfl (lv_at hl 0 rfl) ?_
  refine gf_7_13 hx hb htm hown hE hP hw hi0 (htm _ qw_77) dX2_isLinkedWith_1 ?_
  refine lv_iconst (v := 1) hx hb dX2_isLinkedWith_4 (by decide) ?_
  refine lv_iload_n hx hb dX2_isLinkedWith_5 rfl (lv_at hl 1 rfl) ?_
  refine lv_ishl hx hb dX2_isLinkedWith_6 ?_
  refine lv_iand hx hb dX2_isLinkedWith_7 ?_
  refine lv_if_eq (tgt := 15) hx hb dX2_isLinkedWith_8 (by decide) (fun c1 => ?_) (fun c1 => ?_)
  · have hF := ite_T c1 hF
    refine lv_iconst (v := 0) hx hb dX2_isLinkedWith_15 (by decide) ?_
    have e1 := Option.some.inj hF
    subst e1
    exact m_zret X hS hP rfl (Or.inl rfl) dX2_isLinkedWith_16
  · have hF := ite_F c1 hF
    refine lv_iconst (v := 1) hx hb dX2_isLinkedWith_11 (by decide) ?_
    refine lv_goto (tgt := 16) hx hb dX2_isLinkedWith_12 (by decide) ?_
    have e1 := Option.some.inj hF
    subst e1
    exact m_zret X hS hP rfl (Or.inr rfl) dX2_isLinkedWith_16
def f_X2_isEmptyPlace (V : MT) (i0 : Nat) (x1 : Int32) : Option (Int32) :=
  if (V 7 i0 14) &&& (1 <<< (x1 &&& 31)) = 0 then (some 0) else (some 1)
def rm_X2_isEmptyPlace : Room := { frames := 0, cells := 0, slots := 0, locals := 0 }
set_option maxRecDepth 20000 in
set_option maxHeartbeats 4000000 in
theorem c_X2_isEmptyPlace {l : Launch} {D : va_G} {ad : Nat → Nat → Nat → Nat} {cI cZ cP : ClassId} {A : Nat → Prop} {w : Nat} (hw : w < 2) {G V U : MT} {i0 : Nat} {x1 : Int32} {r : Int32}  (hi0 : i0 < 24) (hF : f_X2_isEmptyPlace V i0 x1 = some r) : Met l yX2_isEmptyPlace (.code yX2_isEmptyPlace cX2_isEmptyPlace 2 (some .boolean) :: WM) rm_X2_isEmptyPlace (PcM D ad cI cZ cP A [.ref (ad w 7 i0), .int x1] (Pic D ad cI cZ cP w G V U)) (QcI A r (Pic D ad cI cZ cP w G V U)) 0 0 A := by
  refine m_entry (by decide) (Nat.le_of_ble_eq_true rfl) (fun p e s m below meth c ls X hP hS hl => ?_)
  have X : MX p s m _ meth c cX2_isEmptyPlace RX2 2 (some .boolean) D ad cI cZ cP A := X
  obtain ⟨hx, hb, hml, hown, htm, hr, hlk, hE⟩ := id X
  have hl : lv_has ls 2 [(0, .ref (ad w 7 i0)), (1, .int x1)] := hl
  refine lv_aload_n hx hb dX2_isEmptyPlace_0 rfl (lv_at hl 0 rfl) ?_
  refine gf_7_14 hx hb htm hown hE hP hw hi0 (htm _ qw_78) dX2_isEmptyPlace_1 ?_
  refine lv_iconst (v := 1) hx hb dX2_isEmptyPlace_4 (by decide) ?_
  refine lv_iload_n hx hb dX2_isEmptyPlace_5 rfl (lv_at hl 1 rfl) ?_
  refine lv_ishl hx hb dX2_isEmptyPlace_6 ?_
  refine lv_iand hx hb dX2_isEmptyPlace_7 ?_
  refine lv_if_eq (tgt := 15) hx hb dX2_isEmptyPlace_8 (by decide) (fun c1 => ?_) (fun c1 => ?_)
  · have hF := ite_T c1 hF
    refine lv_iconst (v := 0) hx hb dX2_isEmptyPlace_15 (by decide) ?_
    have e1 := Option.some.inj hF
    subst e1
    exact m_zret X hS hP rfl (Or.inl rfl) dX2_isEmptyPlace_16
  · have hF := ite_F c1 hF
    refine lv_iconst (v := 1) hx hb dX2_isEmptyPlace_11 (by decide) ?_
    refine lv_goto (tgt := 16) hx hb dX2_isEmptyPlace_12 (by decide) ?_
    have e1 := Option.some.inj hF
    subst e1
    exact m_zret X hS hP rfl (Or.inr rfl) dX2_isEmptyPlace_16
def f_X2_localAt (V : MT) (i0 : Nat) (x1 : Int32) : Option (Int32) :=
  (f_X6_isWithin x1 0 3).bind (fun q1_ => if q1_ = 0 then (some 0) else (if ¬ (x1 < 0 ∨ 4 ≤ Int32.toNatClampNeg x1) then (some (V 8 i0 (Int32.toNatClampNeg x1))) else none))
def rm_X2_localAt : Room := { frames := 1, cells := 0, slots := 0, locals := 22 }
set_option maxRecDepth 20000 in
set_option maxHeartbeats 4000000 in
theorem c_X2_localAt {l : Launch} {D : va_G} {ad : Nat → Nat → Nat → Nat} {cI cZ cP : ClassId} {A : Nat → Prop} {w : Nat} (hw : w < 2) {G V U : MT} {i0 : Nat} {x1 : Int32} {r : Int32}  (hi0 : i0 < 24) (hF : f_X2_localAt V i0 x1 = some r) : Met l yX2_localAt (.code yX2_localAt cX2_localAt 2 (some .int) :: WM) rm_X2_localAt (PcM D ad cI cZ cP A [.ref (ad w 7 i0), .int x1] (Pic D ad cI cZ cP w G V U)) (QcI A r (Pic D ad cI cZ cP w G V U)) 0 0 A := by
  refine m_entry (by decide) (Nat.le_of_ble_eq_true rfl) (fun p e s m below meth c ls X hP hS hl => ?_)
  have X : MX p s m _ meth c cX2_localAt RX2 2 (some .int) D ad cI cZ cP A := X
  obtain ⟨hx, hb, hml, hown, htm, hr, hlk, hE⟩ := id X
  have hl : lv_has ls 2 [(0, .ref (ad w 7 i0)), (1, .int x1)] := hl
  refine lv_iload_n hx hb dX2_localAt_0 rfl (lv_at hl 1 rfl) ?_
  refine lv_iconst (v := 0) hx hb dX2_localAt_1 (by decide) ?_
  refine lv_iconst (v := 3) hx hb dX2_localAt_2 (by decide) ?_
  obtain ⟨r1, hc1, hF⟩ := ob_S hF
  refine m_cNi X hS sw_X6_isWithin nst_2_98 (c_X6_isWithin hc1) ⟨rfl, rfl⟩ ⟨Nat.le_of_ble_eq_true rfl, Nat.le_of_ble_eq_true rfl⟩ hP rfl hl.1 (rest := []) rfl (Nat.le_of_ble_eq_true rfl) dX2_localAt_3 (fun H locs hP hS => ?_)
  refine lv_if_eq (tgt := 18) hx hb dX2_localAt_6 (by decide) (fun c2 => ?_) (fun c2 => ?_)
  · have hF := ite_T c2 hF
    refine lv_iconst (v := 0) hx hb dX2_localAt_18 (by decide) ?_
    have e1 := Option.some.inj hF
    subst e1
    exact m_iret X hS hP rfl dX2_localAt_19
  · have hF := ite_F c2 hF
    refine lv_aload_n hx hb dX2_localAt_9 rfl (lv_at hl 0 rfl) ?_
    refine gf_7_15 hx hb htm hown hE hP hw hi0 (htm _ qw_52) dX2_localAt_10 ?_
    refine lv_iload_n hx hb dX2_localAt_13 rfl (lv_at hl 1 rfl) ?_
    obtain ⟨hn3, hF⟩ := ite_S hF
    refine al_8 hx hb htm hown hE hP hw hi0 hn3 dX2_localAt_14 ?_
    refine lv_goto (tgt := 19) hx hb dX2_localAt_15 (by decide) ?_
    have e1 := Option.some.inj hF
    subst e1
    exact m_iret X hS hP rfl dX2_localAt_19
def f_X2_putLocal (V : MT) (i0 : Nat) (x1 : Int32) (x2 : Int32) : Option (MT) :=
  (f_X6_isWithin x1 0 3).bind (fun q1_ => if q1_ = 0 then (some V) else (if ¬ (x1 < 0 ∨ 4 ≤ Int32.toNatClampNeg x1) then (some (pt V 8 i0 (Int32.toNatClampNeg x1) x2)) else none))
def rm_X2_putLocal : Room := { frames := 1, cells := 0, slots := 0, locals := 22 }
set_option maxRecDepth 20000 in
set_option maxHeartbeats 4000000 in
theorem c_X2_putLocal {l : Launch} {D : va_G} {ad : Nat → Nat → Nat → Nat} {cI cZ cP : ClassId} {A : Nat → Prop} {w : Nat} (hw : w < 2) {G V U : MT} {i0 : Nat} {x1 : Int32} {x2 : Int32} {V' : MT}  (hi0 : i0 < 24) (hF : f_X2_putLocal V i0 x1 x2 = some V') : Met l yX2_putLocal (.code yX2_putLocal cX2_putLocal 3 none :: WM) rm_X2_putLocal (PcM D ad cI cZ cP A [.ref (ad w 7 i0), .int x1, .int x2] (Pic D ad cI cZ cP w G V U)) (QcV A (Pic D ad cI cZ cP w G V' U)) 0 0 A := by
  refine m_entry (by decide) (Nat.le_of_ble_eq_true rfl) (fun p e s m below meth c ls X hP hS hl => ?_)
  have X : MX p s m _ meth c cX2_putLocal RX2 3 none D ad cI cZ cP A := X
  obtain ⟨hx, hb, hml, hown, htm, hr, hlk, hE⟩ := id X
  have hl : lv_has ls 3 [(0, .ref (ad w 7 i0)), (1, .int x1), (2, .int x2)] := hl
  refine lv_iload_n hx hb dX2_putLocal_0 rfl (lv_at hl 1 rfl) ?_
  refine lv_iconst (v := 0) hx hb dX2_putLocal_1 (by decide) ?_
  refine lv_iconst (v := 3) hx hb dX2_putLocal_2 (by decide) ?_
  obtain ⟨r1, hc1, hF⟩ := ob_S hF
  refine m_cNi X hS sw_X6_isWithin nst_2_98 (c_X6_isWithin hc1) ⟨rfl, rfl⟩ ⟨Nat.le_of_ble_eq_true rfl, Nat.le_of_ble_eq_true rfl⟩ hP rfl hl.1 (rest := []) rfl (Nat.le_of_ble_eq_true rfl) dX2_putLocal_3 (fun H locs hP hS => ?_)
  refine lv_if_eq (tgt := 16) hx hb dX2_putLocal_6 (by decide) (fun c2 => ?_) (fun c2 => ?_)
  · have hF := ite_T c2 hF
    have e1 := Option.some.inj hF
    subst e1
    exact m_vret X hS hP dX2_putLocal_16
  · have hF := ite_F c2 hF
    refine lv_aload_n hx hb dX2_putLocal_9 rfl (lv_at hl 0 rfl) ?_
    refine gf_7_15 hx hb htm hown hE hP hw hi0 (htm _ qw_52) dX2_putLocal_10 ?_
    refine lv_iload_n hx hb dX2_putLocal_13 rfl (lv_at hl 1 rfl) ?_
    refine lv_iload_n hx hb dX2_putLocal_14 rfl (lv_at hl 2 rfl) ?_
    obtain ⟨hn3, hF⟩ := ite_S hF
    refine as_8 hx hb htm hown hE hP hS hw hi0 hn3 dX2_putLocal_15 (fun H locs hP hS => ?_)
    have e1 := Option.some.inj hF
    subst e1
    exact m_vret X hS hP dX2_putLocal_16
def f_X2_hold (V : MT) (i0 : Nat) (x1 : Int32) : Option (MT) :=
  some (pt V 7 i0 7 (if (-9999) < if x1 < 9999 then x1 else 9999 then if x1 < 9999 then x1 else 9999 else (-9999)))
def rm_X2_hold : Room := { frames := 1, cells := 0, slots := 0, locals := 22 }
set_option maxRecDepth 20000 in
set_option maxHeartbeats 4000000 in
theorem c_X2_hold {l : Launch} {D : va_G} {ad : Nat → Nat → Nat → Nat} {cI cZ cP : ClassId} {A : Nat → Prop} {w : Nat} (hw : w < 2) {G V U : MT} {i0 : Nat} {x1 : Int32} {V' : MT}  (hi0 : i0 < 24) (hF : f_X2_hold V i0 x1 = some V') : Met l yX2_hold (.code yX2_hold cX2_hold 2 none :: WM) rm_X2_hold (PcM D ad cI cZ cP A [.ref (ad w 7 i0), .int x1] (Pic D ad cI cZ cP w G V U)) (QcV A (Pic D ad cI cZ cP w G V' U)) 0 0 A := by
  refine m_entry (by decide) (Nat.le_of_ble_eq_true rfl) (fun p e s m below meth c ls X hP hS hl => ?_)
  have X : MX p s m _ meth c cX2_hold RX2 2 none D ad cI cZ cP A := X
  obtain ⟨hx, hb, hml, hown, htm, hr, hlk, hE⟩ := id X
  have hl : lv_has ls 2 [(0, .ref (ad w 7 i0)), (1, .int x1)] := hl
  refine lv_aload_n hx hb dX2_hold_0 rfl (lv_at hl 0 rfl) ?_
  refine lv_sipush (v := (-9999)) hx hb dX2_hold_1 (by decide) ?_
  refine lv_sipush (v := 9999) hx hb dX2_hold_4 (by decide) ?_
  refine lv_iload_n hx hb dX2_hold_7 rfl (lv_at hl 1 rfl) ?_
  refine va_mmin hx hb (hml.trans hl.1.symm) hown (htm _ qw_92) (htm _ qw_93) (htm _ qw_94) (htm _ qw_95) (Nat.le_of_ble_eq_true rfl) (Nat.le_of_ble_eq_true rfl) (Nat.zero_le _) (Nat.zero_le _) dX2_hold_8 ?_
  refine va_mmax hx hb (hml.trans hl.1.symm) hown (htm _ qw_96) (htm _ qw_97) (htm _ qw_94) (htm _ qw_98) (Nat.le_of_ble_eq_true rfl) (Nat.le_of_ble_eq_true rfl) (Nat.zero_le _) (Nat.zero_le _) dX2_hold_11 ?_
  refine pf_7_7 hx hb htm hown hE hP hS hw hi0 (htm _ qw_73) dX2_hold_14 (fun H locs hP hS => ?_)
  have e1 := Option.some.inj hF
  subst e1
  exact m_vret X hS hP dX2_hold_17
def f_X2_takeMail (V : MT) (i0 : Nat) (x1 : Int32) : Option (Int32 × MT) :=
  (f_X0_firstOf V i0 x1).bind (fun q1_ => if q1_ = (-1) then (some (0, V)) else ((f_X0_takeOut V i0 q1_).bind (fun q3_ => (f_X2_hold q3_.2 i0 q3_.1).bind (fun q4_ => some (1, q4_)))))
def rm_X2_takeMail : Room := { frames := 2, cells := 0, slots := 0, locals := 45 }
set_option maxRecDepth 20000 in
set_option maxHeartbeats 4000000 in
theorem c_X2_takeMail {l : Launch} {D : va_G} {ad : Nat → Nat → Nat → Nat} {cI cZ cP : ClassId} {A : Nat → Prop} {w : Nat} (hw : w < 2) {G V U : MT} {i0 : Nat} {x1 : Int32} {r : Int32} {V' : MT}  (hi0 : i0 < 24) (hF : f_X2_takeMail V i0 x1 = some (r, V')) : Met l yX2_takeMail (.code yX2_takeMail cX2_takeMail 3 (some .boolean) :: WM) rm_X2_takeMail (PcM D ad cI cZ cP A [.ref (ad w 7 i0), .int x1] (Pic D ad cI cZ cP w G V U)) (QcI A r (Pic D ad cI cZ cP w G V' U)) 0 0 A := by
  refine m_entry (by decide) (Nat.le_of_ble_eq_true rfl) (fun p e s m below meth c ls X hP hS hl => ?_)
  have X : MX p s m _ meth c cX2_takeMail RX2 3 (some .boolean) D ad cI cZ cP A := X
  obtain ⟨hx, hb, hml, hown, htm, hr, hlk, hE⟩ := id X
  have hl : lv_has ls 3 [(0, .ref (ad w 7 i0)), (1, .int x1)] := hl
  refine lv_aload_n hx hb dX2_takeMail_0 rfl (lv_at hl 0 rfl) ?_
  refine gf_7_17 hx hb htm hown hE hP hw hi0 (htm _ qw_57) dX2_takeMail_1 ?_
  refine lv_iload_n hx hb dX2_takeMail_4 rfl (lv_at hl 1 rfl) ?_
  obtain ⟨r1, hc1, hF⟩ := ob_S hF
  refine m_cVi X hS vw_X0_firstOf qw_100 (c_X0_firstOf hw hi0 hc1) ⟨rfl, rfl⟩ ⟨Nat.le_of_ble_eq_true rfl, Nat.le_of_ble_eq_true rfl⟩ (rc_10 hE hP hw hi0) hP rfl hl.1 (rest := []) rfl (Nat.le_of_ble_eq_true rfl) dX2_takeMail_5 (fun H locs hP hS => ?_)
  refine lv_istore_n (lv' := [(2, .int r1), (0, .ref (ad w 7 i0)), (1, .int x1)]) hx hb dX2_takeMail_8 rfl hl (by decide) rfl (fun ls hl => ?_)
  refine lv_iload_n hx hb dX2_takeMail_9 rfl (lv_at hl 0 rfl) ?_
  refine lv_iconst (v := (-1)) hx hb dX2_takeMail_10 (by decide) ?_
  refine lv_icmp_ne (tgt := 16) hx hb dX2_takeMail_11 (by decide) (fun c2 => ?_) (fun c2 => ?_)
  · have hF := ite_F c2 hF
    refine lv_aload_n hx hb dX2_takeMail_16 rfl (lv_at hl 1 rfl) ?_
    refine lv_aload_n hx hb dX2_takeMail_17 rfl (lv_at hl 1 rfl) ?_
    refine gf_7_17 hx hb htm hown hE hP hw hi0 (htm _ qw_57) dX2_takeMail_18 ?_
    refine lv_iload_n hx hb dX2_takeMail_21 rfl (lv_at hl 0 rfl) ?_
    obtain ⟨⟨r3, V3⟩, hc3, hF⟩ := ob_S hF
    refine m_cVi X hS vw_X0_takeOut qw_103 (c_X0_takeOut hw hi0 hc3) ⟨rfl, rfl⟩ ⟨Nat.le_of_ble_eq_true rfl, Nat.le_of_ble_eq_true rfl⟩ (rc_10 hE hP hw hi0) hP rfl hl.1 (rest := [.ref (ad w 7 i0)]) rfl (Nat.le_of_ble_eq_true rfl) dX2_takeMail_22 (fun H locs hP hS => ?_)
    obtain ⟨V4, hc4, hF⟩ := ob_S hF
    refine m_cVv X hS vw_X2_hold qw_106 (c_X2_hold hw hi0 hc4) ⟨rfl, rfl⟩ ⟨Nat.le_of_ble_eq_true rfl, Nat.le_of_ble_eq_true rfl⟩ (rc_7 hE hP hw hi0) hP rfl hl.1 (rest := []) rfl (Nat.le_of_ble_eq_true rfl) dX2_takeMail_25 (fun H locs hP hS => ?_)
    refine lv_iconst (v := 1) hx hb dX2_takeMail_28 (by decide) ?_
    obtain ⟨e1, e2⟩ := Prod.mk.inj (Option.some.inj hF)
    subst e1
    subst e2
    exact m_zret X hS hP rfl (Or.inr rfl) dX2_takeMail_29
  · have hF := ite_T c2 hF
    refine lv_iconst (v := 0) hx hb dX2_takeMail_14 (by decide) ?_
    obtain ⟨e1, e2⟩ := Prod.mk.inj (Option.some.inj hF)
    subst e1
    subst e2
    exact m_zret X hS hP rfl (Or.inl rfl) dX2_takeMail_15
def f_X2_waitFor (V : MT) (i0 : Nat) (x1 : Int32) (x2 : Int32) : Option (MT) :=
  some (pt (pt (pt V 7 i0 5 1) 7 i0 10 x1) 7 i0 9 x2)
def rm_X2_waitFor : Room := { frames := 0, cells := 0, slots := 0, locals := 0 }
set_option maxRecDepth 20000 in
set_option maxHeartbeats 4000000 in
theorem c_X2_waitFor {l : Launch} {D : va_G} {ad : Nat → Nat → Nat → Nat} {cI cZ cP : ClassId} {A : Nat → Prop} {w : Nat} (hw : w < 2) {G V U : MT} {i0 : Nat} {x1 : Int32} {x2 : Int32} {V' : MT}  (hi0 : i0 < 24) (hF : f_X2_waitFor V i0 x1 x2 = some V') : Met l yX2_waitFor (.code yX2_waitFor cX2_waitFor 3 none :: WM) rm_X2_waitFor (PcM D ad cI cZ cP A [.ref (ad w 7 i0), .int x1, .int x2] (Pic D ad cI cZ cP w G V U)) (QcV A (Pic D ad cI cZ cP w G V' U)) 0 0 A := by
  refine m_entry (by decide) (Nat.le_of_ble_eq_true rfl) (fun p e s m below meth c ls X hP hS hl => ?_)
  have X : MX p s m _ meth c cX2_waitFor RX2 3 none D ad cI cZ cP A := X
  obtain ⟨hx, hb, hml, hown, htm, hr, hlk, hE⟩ := id X
  have hl : lv_has ls 3 [(0, .ref (ad w 7 i0)), (1, .int x1), (2, .int x2)] := hl
  refine lv_aload_n hx hb dX2_waitFor_0 rfl (lv_at hl 0 rfl) ?_
  refine lv_iconst (v := 1) hx hb dX2_waitFor_1 (by decide) ?_
  refine pf_7_5 hx hb htm hown hE hP hS hw hi0 (htm _ qw_48) dX2_waitFor_2 (fun H locs hP hS => ?_)
  refine lv_aload_n hx hb dX2_waitFor_5 rfl (lv_at hl 0 rfl) ?_
  refine lv_iload_n hx hb dX2_waitFor_6 rfl (lv_at hl 1 rfl) ?_
  refine pf_7_10 hx hb htm hown hE hP hS hw hi0 (htm _ qw_51) dX2_waitFor_7 (fun H locs hP hS => ?_)
  refine lv_aload_n hx hb dX2_waitFor_10 rfl (lv_at hl 0 rfl) ?_
  refine lv_iload_n hx hb dX2_waitFor_11 rfl (lv_at hl 2 rfl) ?_
  refine pf_7_9 hx hb htm hown hE hP hS hw hi0 (htm _ qw_50) dX2_waitFor_12 (fun H locs hP hS => ?_)
  have e1 := Option.some.inj hF
  subst e1
  exact m_vret X hS hP dX2_waitFor_15
def f_X2_waitsForMail (V : MT) (i0 : Nat) (x1 : Int32) : Option (Int32) :=
  if V 7 i0 5 = 1 then (if V 7 i0 10 = x1 then (some 1) else (if V 7 i0 10 = 4 then (some 1) else (some 0))) else (some 0)
def rm_X2_waitsForMail : Room := { frames := 0, cells := 0, slots := 0, locals := 0 }
set_option maxRecDepth 20000 in
set_option maxHeartbeats 4000000 in
theorem c_X2_waitsForMail {l : Launch} {D : va_G} {ad : Nat → Nat → Nat → Nat} {cI cZ cP : ClassId} {A : Nat → Prop} {w : Nat} (hw : w < 2) {G V U : MT} {i0 : Nat} {x1 : Int32} {r : Int32}  (hi0 : i0 < 24) (hF : f_X2_waitsForMail V i0 x1 = some r) : Met l yX2_waitsForMail (.code yX2_waitsForMail cX2_waitsForMail 2 (some .boolean) :: WM) rm_X2_waitsForMail (PcM D ad cI cZ cP A [.ref (ad w 7 i0), .int x1] (Pic D ad cI cZ cP w G V U)) (QcI A r (Pic D ad cI cZ cP w G V U)) 0 0 A := by
  refine m_entry (by decide) (Nat.le_of_ble_eq_true rfl) (fun p e s m below meth c ls X hP hS hl => ?_)
  have X : MX p s m _ meth c cX2_waitsForMail RX2 2 (some .boolean) D ad cI cZ cP A := X
  obtain ⟨hx, hb, hml, hown, htm, hr, hlk, hE⟩ := id X
  have hl : lv_has ls 2 [(0, .ref (ad w 7 i0)), (1, .int x1)] := hl
  refine lv_aload_n hx hb dX2_waitsForMail_0 rfl (lv_at hl 0 rfl) ?_
  refine gf_7_5 hx hb htm hown hE hP hw hi0 (htm _ qw_48) dX2_waitsForMail_1 ?_
  refine lv_iconst (v := 1) hx hb dX2_waitsForMail_4 (by decide) ?_
  refine lv_icmp_ne (tgt := 28) hx hb dX2_waitsForMail_5 (by decide) (fun c1 => ?_) (fun c1 => ?_)
  · have hF := ite_F c1 hF
    refine lv_iconst (v := 0) hx hb dX2_waitsForMail_28 (by decide) ?_
    have e1 := Option.some.inj hF
    subst e1
    exact m_zret X hS hP rfl (Or.inl rfl) dX2_waitsForMail_29
  · have hF := ite_T c1 hF
    refine lv_aload_n hx hb dX2_waitsForMail_8 rfl (lv_at hl 0 rfl) ?_
    refine gf_7_10 hx hb htm hown hE hP hw hi0 (htm _ qw_51) dX2_waitsForMail_9 ?_
    refine lv_iload_n hx hb dX2_waitsForMail_12 rfl (lv_at hl 1 rfl) ?_
    refine lv_icmp_eq (tgt := 24) hx hb dX2_waitsForMail_13 (by decide) (fun c2 => ?_) (fun c2 => ?_)
    · have hF := ite_T c2 hF
      refine lv_iconst (v := 1) hx hb dX2_waitsForMail_24 (by decide) ?_
      refine lv_goto (tgt := 29) hx hb dX2_waitsForMail_25 (by decide) ?_
      have e1 := Option.some.inj hF
      subst e1
      exact m_zret X hS hP rfl (Or.inr rfl) dX2_waitsForMail_29
    · have hF := ite_F c2 hF
      refine lv_aload_n hx hb dX2_waitsForMail_16 rfl (lv_at hl 0 rfl) ?_
      refine gf_7_10 hx hb htm hown hE hP hw hi0 (htm _ qw_51) dX2_waitsForMail_17 ?_
      refine lv_iconst (v := 4) hx hb dX2_waitsForMail_20 (by decide) ?_
      refine lv_icmp_ne (tgt := 28) hx hb dX2_waitsForMail_21 (by decide) (fun c3 => ?_) (fun c3 => ?_)
      · have hF := ite_F c3 hF
        refine lv_iconst (v := 0) hx hb dX2_waitsForMail_28 (by decide) ?_
        have e1 := Option.some.inj hF
        subst e1
        exact m_zret X hS hP rfl (Or.inl rfl) dX2_waitsForMail_29
      · have hF := ite_T c3 hF
        refine lv_iconst (v := 1) hx hb dX2_waitsForMail_24 (by decide) ?_
        refine lv_goto (tgt := 29) hx hb dX2_waitsForMail_25 (by decide) ?_
        have e1 := Option.some.inj hF
        subst e1
        exact m_zret X hS hP rfl (Or.inr rfl) dX2_waitsForMail_29
def f_X2_resume (V : MT) (i0 : Nat) : Option (MT) :=
  if V 7 i0 10 = (-1) then (some V) else (if V 7 i0 10 = 5 then (some (pt (pt V 7 i0 10 (-1)) 7 i0 8 (((pt V 7 i0 10 (-1)) 7 i0 8) + 1))) else ((f_X2_takeMail V i0 (V 7 i0 10)).bind (fun q3_ => if q3_.1 = 0 then (some (pt (pt (pt q3_.2 7 i0 7 (-1)) 7 i0 10 (-1)) 7 i0 8 (((pt (pt q3_.2 7 i0 7 (-1)) 7 i0 10 (-1)) 7 i0 8) + 1))) else (some (pt (pt q3_.2 7 i0 10 (-1)) 7 i0 8 (((pt q3_.2 7 i0 10 (-1)) 7 i0 8) + 1))))))
def rm_X2_resume : Room := { frames := 3, cells := 0, slots := 0, locals := 67 }
set_option maxRecDepth 20000 in
set_option maxHeartbeats 4000000 in
theorem c_X2_resume {l : Launch} {D : va_G} {ad : Nat → Nat → Nat → Nat} {cI cZ cP : ClassId} {A : Nat → Prop} {w : Nat} (hw : w < 2) {G V U : MT} {i0 : Nat} {V' : MT}  (hi0 : i0 < 24) (hF : f_X2_resume V i0 = some V') : Met l yX2_resume (.code yX2_resume cX2_resume 1 none :: WM) rm_X2_resume (PcM D ad cI cZ cP A [.ref (ad w 7 i0)] (Pic D ad cI cZ cP w G V U)) (QcV A (Pic D ad cI cZ cP w G V' U)) 0 0 A := by
  refine m_entry (by decide) (Nat.le_of_ble_eq_true rfl) (fun p e s m below meth c ls X hP hS hl => ?_)
  have X : MX p s m _ meth c cX2_resume RX2 1 none D ad cI cZ cP A := X
  obtain ⟨hx, hb, hml, hown, htm, hr, hlk, hE⟩ := id X
  have hl : lv_has ls 1 [(0, .ref (ad w 7 i0))] := hl
  refine lv_aload_n hx hb dX2_resume_0 rfl (lv_at hl 0 rfl) ?_
  refine gf_7_10 hx hb htm hown hE hP hw hi0 (htm _ qw_51) dX2_resume_1 ?_
  refine lv_iconst (v := (-1)) hx hb dX2_resume_4 (by decide) ?_
  refine lv_icmp_ne (tgt := 9) hx hb dX2_resume_5 (by decide) (fun c1 => ?_) (fun c1 => ?_)
  · have hF := ite_F c1 hF
    refine lv_aload_n hx hb dX2_resume_9 rfl (lv_at hl 0 rfl) ?_
    refine gf_7_10 hx hb htm hown hE hP hw hi0 (htm _ qw_51) dX2_resume_10 ?_
    refine lv_iconst (v := 5) hx hb dX2_resume_13 (by decide) ?_
    refine lv_icmp_eq (tgt := 33) hx hb dX2_resume_14 (by decide) (fun c2 => ?_) (fun c2 => ?_)
    · have hF := ite_T c2 hF
      refine lv_aload_n hx hb dX2_resume_33 rfl (lv_at hl 0 rfl) ?_
      refine lv_iconst (v := (-1)) hx hb dX2_resume_34 (by decide) ?_
      refine pf_7_10 hx hb htm hown hE hP hS hw hi0 (htm _ qw_51) dX2_resume_35 (fun H locs hP hS => ?_)
      refine lv_aload_n hx hb dX2_resume_38 rfl (lv_at hl 0 rfl) ?_
      refine lv_dup hx hb dX2_resume_39 rfl ?_
      refine gf_7_8 hx hb htm hown hE hP hw hi0 (htm _ qw_74) dX2_resume_40 ?_
      refine lv_iconst (v := 1) hx hb dX2_resume_43 (by decide) ?_
      refine lv_iadd hx hb dX2_resume_44 ?_
      refine pf_7_8 hx hb htm hown hE hP hS hw hi0 (htm _ qw_74) dX2_resume_45 (fun H locs hP hS => ?_)
      have e1 := Option.some.inj hF
      subst e1
      exact m_vret X hS hP dX2_resume_48
    · have hF := ite_F c2 hF
      refine lv_aload_n hx hb dX2_resume_17 rfl (lv_at hl 0 rfl) ?_
      refine lv_aload_n hx hb dX2_resume_18 rfl (lv_at hl 0 rfl) ?_
      refine gf_7_10 hx hb htm hown hE hP hw hi0 (htm _ qw_51) dX2_resume_19 ?_
      obtain ⟨⟨r3, V3⟩, hc3, hF⟩ := ob_S hF
      refine m_cVi X hS vw_X2_takeMail qw_113 (c_X2_takeMail hw hi0 hc3) ⟨rfl, rfl⟩ ⟨Nat.le_of_ble_eq_true rfl, Nat.le_of_ble_eq_true rfl⟩ (rc_7 hE hP hw hi0) hP rfl hl.1 (rest := []) rfl (Nat.le_of_ble_eq_true rfl) dX2_resume_22 (fun H locs hP hS => ?_)
      refine lv_if_ne (tgt := 33) hx hb dX2_resume_25 (by decide) (fun c4 => ?_) (fun c4 => ?_)
      · have hF := ite_F c4 hF
        refine lv_aload_n hx hb dX2_resume_33 rfl (lv_at hl 0 rfl) ?_
        refine lv_iconst (v := (-1)) hx hb dX2_resume_34 (by decide) ?_
        refine pf_7_10 hx hb htm hown hE hP hS hw hi0 (htm _ qw_51) dX2_resume_35 (fun H locs hP hS => ?_)
        refine lv_aload_n hx hb dX2_resume_38 rfl (lv_at hl 0 rfl) ?_
        refine lv_dup hx hb dX2_resume_39 rfl ?_
        refine gf_7_8 hx hb htm hown hE hP hw hi0 (htm _ qw_74) dX2_resume_40 ?_
        refine lv_iconst (v := 1) hx hb dX2_resume_43 (by decide) ?_
        refine lv_iadd hx hb dX2_resume_44 ?_
        refine pf_7_8 hx hb htm hown hE hP hS hw hi0 (htm _ qw_74) dX2_resume_45 (fun H locs hP hS => ?_)
        have e1 := Option.some.inj hF
        subst e1
        exact m_vret X hS hP dX2_resume_48
      · have hF := ite_T c4 hF
        refine lv_aload_n hx hb dX2_resume_28 rfl (lv_at hl 0 rfl) ?_
        refine lv_iconst (v := (-1)) hx hb dX2_resume_29 (by decide) ?_
        refine pf_7_7 hx hb htm hown hE hP hS hw hi0 (htm _ qw_73) dX2_resume_30 (fun H locs hP hS => ?_)
        refine lv_aload_n hx hb dX2_resume_33 rfl (lv_at hl 0 rfl) ?_
        refine lv_iconst (v := (-1)) hx hb dX2_resume_34 (by decide) ?_
        refine pf_7_10 hx hb htm hown hE hP hS hw hi0 (htm _ qw_51) dX2_resume_35 (fun H locs hP hS => ?_)
        refine lv_aload_n hx hb dX2_resume_38 rfl (lv_at hl 0 rfl) ?_
        refine lv_dup hx hb dX2_resume_39 rfl ?_
        refine gf_7_8 hx hb htm hown hE hP hw hi0 (htm _ qw_74) dX2_resume_40 ?_
        refine lv_iconst (v := 1) hx hb dX2_resume_43 (by decide) ?_
        refine lv_iadd hx hb dX2_resume_44 ?_
        refine pf_7_8 hx hb htm hown hE hP hS hw hi0 (htm _ qw_74) dX2_resume_45 (fun H locs hP hS => ?_)
        have e1 := Option.some.inj hF
        subst e1
        exact m_vret X hS hP dX2_resume_48
  · have hF := ite_T c1 hF
    have e1 := Option.some.inj hF
    subst e1
    exact m_vret X hS hP dX2_resume_8
def f_X2_placeOf_2 (V : MT) : Nat → Nat → Int32 → Int32 → Option (Int32)
  | 0, _, _, _ => none
  | n + 1, j0, y1, y2 => if 4 ≤ y2 then (some (-1)) else (if ¬ (y2 < 0 ∨ 4 ≤ Int32.toNatClampNeg y2) then (if V 9 j0 (Int32.toNatClampNeg y2) = y1 then (some y2) else ((f_X2_placeOf_2 V n) j0 y1 (y2 + 1))) else none)
def f_X2_placeOf (V : MT) (i0 : Nat) (x1 : Int32) : Option (Int32) :=
  f_X2_placeOf_2 V  30 i0 x1 0
def rm_X2_placeOf : Room := { frames := 0, cells := 0, slots := 0, locals := 0 }
set_option maxRecDepth 20000 in
set_option maxHeartbeats 4000000 in
theorem l_X2_placeOf_2 {p : Program} {l : Launch} {e : Env} {s : State} {m : MethodId} {args : Array Value} {below : List Frame} {meth : Method} {c : Code} {D : va_G} {ad : Nat → Nat → Nat → Nat} {cI cZ cP : ClassId} {A : Nat → Prop} {G V U : MT} {r : Int32} (X : MX p s m args meth c cX2_placeOf RX2 3 (some .int) D ad cI cZ cP A) {w : Nat} (hw : w < 2) (n : Nat) : ∀ {H : Heap} {locs : List Loc} {ls : Array Slot} (j0 : Nat) (y1 : Int32) (y2 : Int32), j0 < 24 → Pic D ad cI cZ cP w G V U H → va_S A s.heap H locs → lv_has ls 3 [(0, .ref (ad w 7 j0)), (1, .int y1), (2, .int y2)] → f_X2_placeOf_2 V n j0 y1 y2 = some r → W p l e rm_X2_placeOf s m args below meth c H locs 0 0 (MQ below (QcI A r (Pic D ad cI cZ cP w G V U)) args s 0 0 A) (F0 m 2 ls []) := by
  obtain ⟨hx, hb, hml, hown, htm, hr, hlk, hE⟩ := id X
  induction n with
  | zero =>
    intros
    exact ns_S (by assumption)
  | succ n ih2 =>
    intro H locs ls j0 y1 y2 hj0  hP hS hl hF
    rw [f_X2_placeOf_2] at hF
    refine lv_iload_n hx hb dX2_placeOf_2 rfl (lv_at hl 2 rfl) ?_
    refine lv_iconst (v := 4) hx hb dX2_placeOf_3 (by decide) ?_
    refine lv_icmp_ge (tgt := 25) hx hb dX2_placeOf_4 (by decide) (fun c1 => ?_) (fun c1 => ?_)
    · have hF := ite_T c1 hF
      refine lv_iconst (v := (-1)) hx hb dX2_placeOf_25 (by decide) ?_
      have e1 := Option.some.inj hF
      subst e1
      exact m_iret X hS hP rfl dX2_placeOf_26
    · have hF := ite_F c1 hF
      refine lv_aload_n hx hb dX2_placeOf_7 rfl (lv_at hl 0 rfl) ?_
      refine gf_7_16 hx hb htm hown hE hP hw hj0 (htm _ qw_53) dX2_placeOf_8 ?_
      refine lv_iload_n hx hb dX2_placeOf_11 rfl (lv_at hl 2 rfl) ?_
      obtain ⟨hn2, hF⟩ := ite_S hF
      refine al_9 hx hb htm hown hE hP hw hj0 hn2 dX2_placeOf_12 ?_
      refine lv_iload_n hx hb dX2_placeOf_13 rfl (lv_at hl 1 rfl) ?_
      refine lv_icmp_ne (tgt := 19) hx hb dX2_placeOf_14 (by decide) (fun c3 => ?_) (fun c3 => ?_)
      · have hF := ite_F c3 hF
        refine lv_iinc (v := y2 + 1) (lv' := [(2, .int (y2 + 1)), (0, .ref (ad w 7 j0)), (1, .int y1)]) hx hb dX2_placeOf_19 hl (k := 2) rfl rfl (by decide) rfl (fun ls hl => ?_)
        refine lv_goto (tgt := 2) hx hb dX2_placeOf_22 (by decide) ?_
        exact ih2 _ _ _ hj0 hP hS (lv_sub hl [1, 2, 0] rfl) hF
      · have hF := ite_T c3 hF
        refine lv_iload_n hx hb dX2_placeOf_17 rfl (lv_at hl 2 rfl) ?_
        have e1 := Option.some.inj hF
        subst e1
        exact m_iret X hS hP rfl dX2_placeOf_18
set_option maxRecDepth 20000 in
set_option maxHeartbeats 4000000 in
theorem c_X2_placeOf {l : Launch} {D : va_G} {ad : Nat → Nat → Nat → Nat} {cI cZ cP : ClassId} {A : Nat → Prop} {w : Nat} (hw : w < 2) {G V U : MT} {i0 : Nat} {x1 : Int32} {r : Int32}  (hi0 : i0 < 24) (hF : f_X2_placeOf V i0 x1 = some r) : Met l yX2_placeOf (.code yX2_placeOf cX2_placeOf 3 (some .int) :: WM) rm_X2_placeOf (PcM D ad cI cZ cP A [.ref (ad w 7 i0), .int x1] (Pic D ad cI cZ cP w G V U)) (QcI A r (Pic D ad cI cZ cP w G V U)) 0 0 A := by
  refine m_entry (by decide) (Nat.le_of_ble_eq_true rfl) (fun p e s m below meth c ls X hP hS hl => ?_)
  have X : MX p s m _ meth c cX2_placeOf RX2 3 (some .int) D ad cI cZ cP A := X
  obtain ⟨hx, hb, hml, hown, htm, hr, hlk, hE⟩ := id X
  have hl : lv_has ls 3 [(0, .ref (ad w 7 i0)), (1, .int x1)] := hl
  refine lv_iconst (v := 0) hx hb dX2_placeOf_0 (by decide) ?_
  refine lv_istore_n (lv' := [(2, .int 0), (0, .ref (ad w 7 i0)), (1, .int x1)]) hx hb dX2_placeOf_1 rfl hl (by decide) rfl (fun ls hl => ?_)
  exact l_X2_placeOf_2 X hw  30 _ _ _ hi0 hP hS (lv_sub hl [1, 2, 0] rfl) hF
