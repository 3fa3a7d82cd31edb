theorem vw_X5_doLine : VW RX5 yX5_doLine cX5_doLine 6 (some .int) 2 := ⟨qw_353, qw_354, qw_203, qw_337, ⟨rfl, by decide, by decide, by decide +kernel⟩⟩
theorem vw_X5_doLineOut : VW RX5 yX5_doLineOut cX5_doLineOut 6 (some .int) 2 := ⟨qw_350, qw_351, qw_203, qw_325, ⟨rfl, by decide, by decide, by decide +kernel⟩⟩
def f_X5_doLine (G V : MT) (i1 : Nat) (x2 : Int32) : Option (Int32 × MT) :=
  if ¬ (x2 < 0 ∨ 192 ≤ Int32.toNatClampNeg x2) then (if ¬ (x2 < 0 ∨ 192 ≤ Int32.toNatClampNeg x2) then (if ¬ (x2 < 0 ∨ 192 ≤ Int32.toNatClampNeg x2) then (if G 19 0 (Int32.toNatClampNeg x2) = 0 then ((f_X2_hold V i1 ((V 7 i1 7) + (G 20 0 (Int32.toNatClampNeg x2)))).bind (fun q5_ => some ((V 7 i1 8) + 1, q5_))) else (if G 19 0 (Int32.toNatClampNeg x2) = 1 then ((f_X2_localAt V i1 (G 20 0 (Int32.toNatClampNeg x2))).bind (fun q7_ => some ((V 7 i1 8) + 1, (pt V 7 i1 7 q7_)))) else (if G 19 0 (Int32.toNatClampNeg x2) = 2 then ((f_X2_putLocal V i1 (G 20 0 (Int32.toNatClampNeg x2)) (V 7 i1 7)).bind (fun q9_ => some ((V 7 i1 8) + 1, q9_))) else (if G 19 0 (Int32.toNatClampNeg x2) = 3 then ((f_X2_localAt V i1 (G 20 0 (Int32.toNatClampNeg x2))).bind (fun q11_ => if 0 < q11_ then ((f_X2_localAt V i1 (G 20 0 (Int32.toNatClampNeg x2))).bind (fun q13_ => (f_X2_putLocal V i1 (G 20 0 (Int32.toNatClampNeg x2)) (q13_ - 1)).bind (fun q14_ => some (G 21 0 (Int32.toNatClampNeg x2), q14_)))) else (some ((V 7 i1 8) + 1, V)))) else (if G 19 0 (Int32.toNatClampNeg x2) = 4 then (if 0 < V 7 i1 7 then (some ((V 7 i1 8) + 1, V)) else (some (G 21 0 (Int32.toNatClampNeg x2), V))) else (if G 19 0 (Int32.toNatClampNeg x2) = 5 then ((f_X5_end G V i1 (G 20 0 (Int32.toNatClampNeg x2))).bind (fun q18_ => some ((V 7 i1 8) + 1, q18_))) else (if G 19 0 (Int32.toNatClampNeg x2) = 6 then ((f_X5_currentOf G V (V 7 i1 1)).bind (fun q20_ => some (0, (pt V 7 i1 2 q20_)))) else (if G 19 0 (Int32.toNatClampNeg x2) = 7 then ((f_X5_currentOf G V (V 7 i1 1)).bind (fun q22_ => some (0, (pt V 7 i1 2 q22_)))) else (if G 19 0 (Int32.toNatClampNeg x2) = 8 then ((f_X5_currentOf G V (V 7 i1 1)).bind (fun q24_ => some (0, (pt V 7 i1 2 q24_)))) else (if G 19 0 (Int32.toNatClampNeg x2) = 9 then ((f_X5_currentOf G V (V 7 i1 1)).bind (fun q26_ => some (0, (pt V 7 i1 2 q26_)))) else (if G 19 0 (Int32.toNatClampNeg x2) = 10 then (if G 20 0 (Int32.toNatClampNeg x2) = 1 then (some ((V 7 i1 8) + 1, (pt V 7 i1 12 1))) else (some ((V 7 i1 8) + 1, (pt V 7 i1 12 0)))) else (if G 19 0 (Int32.toNatClampNeg x2) = 11 then ((f_X5_currentOf G V (V 7 i1 1)).bind (fun q30_ => some (0, (pt V 7 i1 2 q30_)))) else (if G 19 0 (Int32.toNatClampNeg x2) = 12 then ((f_X5_currentOf G V (V 7 i1 1)).bind (fun q32_ => some (0, (pt V 7 i1 2 q32_)))) else (if G 19 0 (Int32.toNatClampNeg x2) = 13 then ((f_X5_currentOf G V (V 7 i1 1)).bind (fun q34_ => some (0, (pt V 7 i1 2 q34_)))) else (if G 19 0 (Int32.toNatClampNeg x2) = 14 then ((f_X2_takeMail V i1 (G 20 0 (Int32.toNatClampNeg x2))).bind (fun q36_ => if q36_.1 = 0 then (if G 21 0 (Int32.toNatClampNeg x2) ≤ 0 then ((f_X2_waitFor q36_.2 i1 (G 20 0 (Int32.toNatClampNeg x2)) (-1)).bind (fun q39_ => some ((V 7 i1 8) + 1, q39_))) else ((f_X2_waitFor q36_.2 i1 (G 20 0 (Int32.toNatClampNeg x2)) ((q36_.2 0 0 6) + (G 21 0 (Int32.toNatClampNeg x2)))).bind (fun q40_ => some ((V 7 i1 8) + 1, q40_)))) else (some ((V 7 i1 8) + 1, q36_.2)))) else (if G 19 0 (Int32.toNatClampNeg x2) = 15 then ((f_X2_waitFor V i1 5 ((V 0 0 6) + (G 20 0 (Int32.toNatClampNeg x2)))).bind (fun q42_ => some ((V 7 i1 8) + 1, q42_))) else ((f_X5_currentOf G V (V 7 i1 1)).bind (fun q43_ => some (0, (pt V 7 i1 2 q43_)))))))))))))))))))) else none) else none) else none
def rm_X5_doLine : Room := { frames := 3, cells := 0, slots := 0, locals := 67 }
set_option maxRecDepth 20000 in
set_option maxHeartbeats 4000000 in
theorem c_X5_doLine {l : Launch} {D : va_G} {ad : Nat → Nat → Nat → Nat} {cI cZ cP : ClassId} {A : Nat → Prop} {w : Nat} (hw : w < 2) {G V U : MT} {i1 : Nat} {x2 : Int32} {r : Int32} {V' : MT}  (hi1 : i1 < 24) (hF : f_X5_doLine G V i1 x2 = some (r, V')) : Met l yX5_doLine (.code yX5_doLine cX5_doLine 6 (some .int) :: WM) rm_X5_doLine (PcM D ad cI cZ cP A [.ref (ad w 0 0), .ref (ad w 7 i1), .int x2] (Pic D ad cI cZ cP w G V U)) (QcI A r (Pic D ad cI cZ cP w G V' U)) 0 0 A := by
  refine m_entry (by decide) (Nat.le_of_ble_eq_true rfl) (fun p e s m below meth c ls X hP hS hl => ?_)
  have X : MX p s m _ meth c cX5_doLine RX5 6 (some .int) D ad cI cZ cP A := X
  obtain ⟨hx, hb, hml, hown, htm, hr, hlk, hE⟩ := id X
  have hl : lv_has ls 6 [(0, .ref (ad w 0 0)), (1, .ref (ad w 7 i1)), (2, .int x2)] := hl
  refine lv_aload_n hx hb dX5_doLine_0 rfl (lv_at hl 0 rfl) ?_
  refine gf_0_0 hx hb htm hown hE hP hw (htm _ qw_147) dX5_doLine_1 ?_
  refine gf_17_3 hx hb htm hown hE hP (htm _ qw_307) dX5_doLine_4 ?_
  refine lv_iload_n hx hb dX5_doLine_7 rfl (lv_at hl 2 rfl) ?_
  obtain ⟨hn1, hF⟩ := ite_S hF
  refine al_20 hx hb htm hown hE hP hn1 dX5_doLine_8 ?_
  refine lv_istore_n (lv' := [(3, .int (G 20 0 (Int32.toNatClampNeg x2))), (0, .ref (ad w 0 0)), (1, .ref (ad w 7 i1)), (2, .int x2)]) hx hb dX5_doLine_9 rfl hl (by decide) rfl (fun ls hl => ?_)
  refine lv_aload_n hx hb dX5_doLine_10 rfl (lv_at hl 1 rfl) ?_
  refine gf_0_0 hx hb htm hown hE hP hw (htm _ qw_147) dX5_doLine_11 ?_
  refine gf_17_4 hx hb htm hown hE hP (htm _ qw_308) dX5_doLine_14 ?_
  refine lv_iload_n hx hb dX5_doLine_17 rfl (lv_at hl 3 rfl) ?_
  obtain ⟨hn2, hF⟩ := ite_S hF
  refine al_21 hx hb htm hown hE hP hn2 dX5_doLine_18 ?_
  refine lv_istore (lv' := [(4, .int (G 21 0 (Int32.toNatClampNeg x2))), (3, .int (G 20 0 (Int32.toNatClampNeg x2))), (0, .ref (ad w 0 0)), (1, .ref (ad w 7 i1)), (2, .int x2)]) hx hb dX5_doLine_19 hl (by decide) rfl (fun ls hl => ?_)
  refine lv_aload_n hx hb dX5_doLine_21 rfl (lv_at hl 3 rfl) ?_
  refine gf_7_8 hx hb htm hown hE hP hw hi1 (htm _ qw_182) dX5_doLine_22 ?_
  refine lv_iconst (v := 1) hx hb dX5_doLine_25 (by decide) ?_
  refine lv_iadd hx hb dX5_doLine_26 ?_
  refine lv_istore (lv' := [(5, .int ((V 7 i1 8) + 1)), (4, .int (G 21 0 (Int32.toNatClampNeg x2))), (3, .int (G 20 0 (Int32.toNatClampNeg x2))), (0, .ref (ad w 0 0)), (1, .ref (ad w 7 i1)), (2, .int x2)]) hx hb dX5_doLine_27 hl (by decide) rfl (fun ls hl => ?_)
  refine lv_aload_n hx hb dX5_doLine_29 rfl (lv_at hl 3 rfl) ?_
  refine gf_0_0 hx hb htm hown hE hP hw (htm _ qw_147) dX5_doLine_30 ?_
  refine gf_17_2 hx hb htm hown hE hP (htm _ qw_309) dX5_doLine_33 ?_
  refine lv_iload_n hx hb dX5_doLine_36 rfl (lv_at hl 5 rfl) ?_
  obtain ⟨hn3, hF⟩ := ite_S hF
  refine al_19 hx hb htm hown hE hP hn3 dX5_doLine_37 ?_
  by_cases c4 : G 19 0 (Int32.toNatClampNeg x2) = 0
  · have hF := ite_T c4 hF
    refine lv_tableIn (off := 78) (tgt := 116) hx hb dX5_doLine_38 (by rw [c4]; decide) (by rw [c4]; decide) (by rw [c4]; rfl) (by decide) ?_
    refine lv_aload_n hx hb dX5_doLine_116 rfl (lv_at hl 4 rfl) ?_
    refine lv_aload_n hx hb dX5_doLine_117 rfl (lv_at hl 4 rfl) ?_
    refine gf_7_7 hx hb htm hown hE hP hw hi1 (htm _ qw_297) dX5_doLine_118 ?_
    refine lv_iload_n hx hb dX5_doLine_121 rfl (lv_at hl 2 rfl) ?_
    refine lv_iadd hx hb dX5_doLine_122 ?_
    obtain ⟨V5, hc5, hF⟩ := ob_S hF
    refine m_cVv X hS vw_X2_hold qw_326 (c_X2_hold hw hi1 hc5) ⟨rfl, rfl⟩ ⟨Nat.le_of_ble_eq_true rfl, Nat.le_of_ble_eq_true rfl⟩ (rc_7 hE hP hw hi1) hP rfl hl.1 (rest := []) rfl (Nat.le_of_ble_eq_true rfl) dX5_doLine_123 (fun H locs hP hS => ?_)
    refine lv_iload hx hb dX5_doLine_126 (lv_at hl 0 rfl) ?_
    obtain ⟨e1, e2⟩ := Prod.mk.inj (Option.some.inj hF)
    subst e1
    subst e2
    exact m_iret X hS hP rfl dX5_doLine_128
  have hF := ite_F c4 hF
  by_cases c6 : G 19 0 (Int32.toNatClampNeg x2) = 1
  · have hF := ite_T c6 hF
    refine lv_tableIn (off := 91) (tgt := 129) hx hb dX5_doLine_38 (by rw [c6]; decide) (by rw [c6]; decide) (by rw [c6]; rfl) (by decide) ?_
    refine lv_aload_n hx hb dX5_doLine_129 rfl (lv_at hl 4 rfl) ?_
    refine lv_aload_n hx hb dX5_doLine_130 rfl (lv_at hl 4 rfl) ?_
    refine lv_iload_n hx hb dX5_doLine_131 rfl (lv_at hl 2 rfl) ?_
    obtain ⟨r7, hc7, hF⟩ := ob_S hF
    refine m_cVi X hS vw_X2_localAt qw_319 (c_X2_localAt hw hi1 hc7) ⟨rfl, rfl⟩ ⟨Nat.le_of_ble_eq_true rfl, Nat.le_of_ble_eq_true rfl⟩ (rc_7 hE hP hw hi1) hP rfl hl.1 (rest := [.ref (ad w 7 i1)]) rfl (Nat.le_of_ble_eq_true rfl) dX5_doLine_132 (fun H locs hP hS => ?_)
    refine pf_7_7 hx hb htm hown hE hP hS hw hi1 (htm _ qw_297) dX5_doLine_135 (fun H locs hP hS => ?_)
    refine lv_iload hx hb dX5_doLine_138 (lv_at hl 0 rfl) ?_
    obtain ⟨e1, e2⟩ := Prod.mk.inj (Option.some.inj hF)
    subst e1
    subst e2
    exact m_iret X hS hP rfl dX5_doLine_140
  have hF := ite_F c6 hF
  by_cases c8 : G 19 0 (Int32.toNatClampNeg x2) = 2
  · have hF := ite_T c8 hF
    refine lv_tableIn (off := 103) (tgt := 141) hx hb dX5_doLine_38 (by rw [c8]; decide) (by rw [c8]; decide) (by rw [c8]; rfl) (by decide) ?_
    refine lv_aload_n hx hb dX5_doLine_141 rfl (lv_at hl 4 rfl) ?_
    refine lv_iload_n hx hb dX5_doLine_142 rfl (lv_at hl 2 rfl) ?_
    refine lv_aload_n hx hb dX5_doLine_143 rfl (lv_at hl 4 rfl) ?_
    refine gf_7_7 hx hb htm hown hE hP hw hi1 (htm _ qw_297) dX5_doLine_144 ?_
    obtain ⟨V9, hc9, hF⟩ := ob_S hF
    refine m_cVv X hS vw_X2_putLocal qw_327 (c_X2_putLocal hw hi1 hc9) ⟨rfl, rfl⟩ ⟨Nat.le_of_ble_eq_true rfl, Nat.le_of_ble_eq_true rfl⟩ (rc_7 hE hP hw hi1) hP rfl hl.1 (rest := []) rfl (Nat.le_of_ble_eq_true rfl) dX5_doLine_147 (fun H locs hP hS => ?_)
    refine lv_iload hx hb dX5_doLine_150 (lv_at hl 0 rfl) ?_
    obtain ⟨e1, e2⟩ := Prod.mk.inj (Option.some.inj hF)
    subst e1
    subst e2
    exact m_iret X hS hP rfl dX5_doLine_152
  have hF := ite_F c8 hF
  by_cases c10 : G 19 0 (Int32.toNatClampNeg x2) = 3
  · have hF := ite_T c10 hF
    refine lv_tableIn (off := 115) (tgt := 153) hx hb dX5_doLine_38 (by rw [c10]; decide) (by rw [c10]; decide) (by rw [c10]; rfl) (by decide) ?_
    refine lv_aload_n hx hb dX5_doLine_153 rfl (lv_at hl 4 rfl) ?_
    refine lv_iload_n hx hb dX5_doLine_154 rfl (lv_at hl 2 rfl) ?_
    obtain ⟨r11, hc11, hF⟩ := ob_S hF
    refine m_cVi X hS vw_X2_localAt qw_319 (c_X2_localAt hw hi1 hc11) ⟨rfl, rfl⟩ ⟨Nat.le_of_ble_eq_true rfl, Nat.le_of_ble_eq_true rfl⟩ (rc_7 hE hP hw hi1) hP rfl hl.1 (rest := []) rfl (Nat.le_of_ble_eq_true rfl) dX5_doLine_155 (fun H locs hP hS => ?_)
    refine lv_if_gt (tgt := 164) hx hb dX5_doLine_158 (by decide) (fun c12 => ?_) (fun c12 => ?_)
    · have hF := ite_T c12 hF
      refine lv_aload_n hx hb dX5_doLine_164 rfl (lv_at hl 4 rfl) ?_
      refine lv_iload_n hx hb dX5_doLine_165 rfl (lv_at hl 2 rfl) ?_
      refine lv_aload_n hx hb dX5_doLine_166 rfl (lv_at hl 4 rfl) ?_
      refine lv_iload_n hx hb dX5_doLine_167 rfl (lv_at hl 2 rfl) ?_
      obtain ⟨r13, hc13, hF⟩ := ob_S hF
      refine m_cVi X hS vw_X2_localAt qw_319 (c_X2_localAt hw hi1 hc13) ⟨rfl, rfl⟩ ⟨Nat.le_of_ble_eq_true rfl, Nat.le_of_ble_eq_true rfl⟩ (rc_7 hE hP hw hi1) hP rfl hl.1 (rest := [.int (G 20 0 (Int32.toNatClampNeg x2)), .ref (ad w 7 i1)]) rfl (Nat.le_of_ble_eq_true rfl) dX5_doLine_168 (fun H locs hP hS => ?_)
      refine lv_iconst (v := 1) hx hb dX5_doLine_171 (by decide) ?_
      refine lv_isub hx hb dX5_doLine_172 ?_
      obtain ⟨V14, hc14, hF⟩ := ob_S hF
      refine m_cVv X hS vw_X2_putLocal qw_327 (c_X2_putLocal hw hi1 hc14) ⟨rfl, rfl⟩ ⟨Nat.le_of_ble_eq_true rfl, Nat.le_of_ble_eq_true rfl⟩ (rc_7 hE hP hw hi1) hP rfl hl.1 (rest := []) rfl (Nat.le_of_ble_eq_true rfl) dX5_doLine_173 (fun H locs hP hS => ?_)
      refine lv_iload hx hb dX5_doLine_176 (lv_at hl 1 rfl) ?_
      obtain ⟨e1, e2⟩ := Prod.mk.inj (Option.some.inj hF)
      subst e1
      subst e2
      exact m_iret X hS hP rfl dX5_doLine_178
    · have hF := ite_F c12 hF
      refine lv_iload hx hb dX5_doLine_161 (lv_at hl 0 rfl) ?_
      obtain ⟨e1, e2⟩ := Prod.mk.inj (Option.some.inj hF)
      subst e1
      subst e2
      exact m_iret X hS hP rfl dX5_doLine_163
  have hF := ite_F c10 hF
  by_cases c15 : G 19 0 (Int32.toNatClampNeg x2) = 4
  · have hF := ite_T c15 hF
    refine lv_tableIn (off := 141) (tgt := 179) hx hb dX5_doLine_38 (by rw [c15]; decide) (by rw [c15]; decide) (by rw [c15]; rfl) (by decide) ?_
    refine lv_aload_n hx hb dX5_doLine_179 rfl (lv_at hl 4 rfl) ?_
    refine gf_7_7 hx hb htm hown hE hP hw hi1 (htm _ qw_297) dX5_doLine_180 ?_
    refine lv_if_gt (tgt := 191) hx hb dX5_doLine_183 (by decide) (fun c16 => ?_) (fun c16 => ?_)
    · have hF := ite_T c16 hF
      refine lv_iload hx hb dX5_doLine_191 (lv_at hl 0 rfl) ?_
      obtain ⟨e1, e2⟩ := Prod.mk.inj (Option.some.inj hF)
      subst e1
      subst e2
      exact m_iret X hS hP rfl dX5_doLine_193
    · have hF := ite_F c16 hF
      refine lv_iload hx hb dX5_doLine_186 (lv_at hl 1 rfl) ?_
      refine lv_goto (tgt := 193) hx hb dX5_doLine_188 (by decide) ?_
      obtain ⟨e1, e2⟩ := Prod.mk.inj (Option.some.inj hF)
      subst e1
      subst e2
      exact m_iret X hS hP rfl dX5_doLine_193
  have hF := ite_F c15 hF
  by_cases c17 : G 19 0 (Int32.toNatClampNeg x2) = 5
  · have hF := ite_T c17 hF
    refine lv_tableIn (off := 156) (tgt := 194) hx hb dX5_doLine_38 (by rw [c17]; decide) (by rw [c17]; decide) (by rw [c17]; rfl) (by decide) ?_
    refine lv_aload_n hx hb dX5_doLine_194 rfl (lv_at hl 3 rfl) ?_
    refine lv_aload_n hx hb dX5_doLine_195 rfl (lv_at hl 4 rfl) ?_
    refine lv_iload_n hx hb dX5_doLine_196 rfl (lv_at hl 2 rfl) ?_
    obtain ⟨V18, hc18, hF⟩ := ob_S hF
    refine m_cVv X hS vw_X5_end qw_207 (c_X5_end hw hi1 hc18) ⟨rfl, rfl⟩ ⟨Nat.le_of_ble_eq_true rfl, Nat.le_of_ble_eq_true rfl⟩ (rc_0 hE hP hw) hP rfl hl.1 (rest := []) rfl (Nat.le_of_ble_eq_true rfl) dX5_doLine_197 (fun H locs hP hS => ?_)
    refine lv_iload hx hb dX5_doLine_200 (lv_at hl 0 rfl) ?_
    obtain ⟨e1, e2⟩ := Prod.mk.inj (Option.some.inj hF)
    subst e1
    subst e2
    exact m_iret X hS hP rfl dX5_doLine_202
  have hF := ite_F c17 hF
  by_cases c19 : G 19 0 (Int32.toNatClampNeg x2) = 6
  · have hF := ite_T c19 hF
    refine lv_tableIn (off := 228) (tgt := 266) hx hb dX5_doLine_38 (by rw [c19]; decide) (by rw [c19]; decide) (by rw [c19]; rfl) (by decide) ?_
    refine lv_aload_n hx hb dX5_doLine_266 rfl (lv_at hl 4 rfl) ?_
    refine lv_aload_n hx hb dX5_doLine_267 rfl (lv_at hl 3 rfl) ?_
    refine lv_aload_n hx hb dX5_doLine_268 rfl (lv_at hl 4 rfl) ?_
    refine gf_7_1 hx hb htm hown hE hP hw hi1 (htm _ qw_176) dX5_doLine_269 ?_
    obtain ⟨r20, hc20, hF⟩ := ob_S hF
    refine m_cVi X hS vw_X5_currentOf qw_334 (c_X5_currentOf hw hc20) ⟨rfl, rfl⟩ ⟨Nat.le_of_ble_eq_true rfl, Nat.le_of_ble_eq_true rfl⟩ (rc_0 hE hP hw) hP rfl hl.1 (rest := [.ref (ad w 7 i1)]) rfl (Nat.le_of_ble_eq_true rfl) dX5_doLine_272 (fun H locs hP hS => ?_)
    refine pf_7_2 hx hb htm hown hE hP hS hw hi1 (htm _ qw_177) dX5_doLine_275 (fun H locs hP hS => ?_)
    refine lv_iconst (v := 0) hx hb dX5_doLine_278 (by decide) ?_
    obtain ⟨e1, e2⟩ := Prod.mk.inj (Option.some.inj hF)
    subst e1
    subst e2
    exact m_iret X hS hP rfl dX5_doLine_279
  have hF := ite_F c19 hF
  by_cases c21 : G 19 0 (Int32.toNatClampNeg x2) = 7
  · have hF := ite_T c21 hF
    refine lv_tableIn (off := 228) (tgt := 266) hx hb dX5_doLine_38 (by rw [c21]; decide) (by rw [c21]; decide) (by rw [c21]; rfl) (by decide) ?_
    refine lv_aload_n hx hb dX5_doLine_266 rfl (lv_at hl 4 rfl) ?_
    refine lv_aload_n hx hb dX5_doLine_267 rfl (lv_at hl 3 rfl) ?_
    refine lv_aload_n hx hb dX5_doLine_268 rfl (lv_at hl 4 rfl) ?_
    refine gf_7_1 hx hb htm hown hE hP hw hi1 (htm _ qw_176) dX5_doLine_269 ?_
    obtain ⟨r22, hc22, hF⟩ := ob_S hF
    refine m_cVi X hS vw_X5_currentOf qw_334 (c_X5_currentOf hw hc22) ⟨rfl, rfl⟩ ⟨Nat.le_of_ble_eq_true rfl, Nat.le_of_ble_eq_true rfl⟩ (rc_0 hE hP hw) hP rfl hl.1 (rest := [.ref (ad w 7 i1)]) rfl (Nat.le_of_ble_eq_true rfl) dX5_doLine_272 (fun H locs hP hS => ?_)
    refine pf_7_2 hx hb htm hown hE hP hS hw hi1 (htm _ qw_177) dX5_doLine_275 (fun H locs hP hS => ?_)
    refine lv_iconst (v := 0) hx hb dX5_doLine_278 (by decide) ?_
    obtain ⟨e1, e2⟩ := Prod.mk.inj (Option.some.inj hF)
    subst e1
    subst e2
    exact m_iret X hS hP rfl dX5_doLine_279
  have hF := ite_F c21 hF
  by_cases c23 : G 19 0 (Int32.toNatClampNeg x2) = 8
  · have hF := ite_T c23 hF
    refine lv_tableIn (off := 228) (tgt := 266) hx hb dX5_doLine_38 (by rw [c23]; decide) (by rw [c23]; decide) (by rw [c23]; rfl) (by decide) ?_
    refine lv_aload_n hx hb dX5_doLine_266 rfl (lv_at hl 4 rfl) ?_
    refine lv_aload_n hx hb dX5_doLine_267 rfl (lv_at hl 3 rfl) ?_
    refine lv_aload_n hx hb dX5_doLine_268 rfl (lv_at hl 4 rfl) ?_
    refine gf_7_1 hx hb htm hown hE hP hw hi1 (htm _ qw_176) dX5_doLine_269 ?_
    obtain ⟨r24, hc24, hF⟩ := ob_S hF
    refine m_cVi X hS vw_X5_currentOf qw_334 (c_X5_currentOf hw hc24) ⟨rfl, rfl⟩ ⟨Nat.le_of_ble_eq_true rfl, Nat.le_of_ble_eq_true rfl⟩ (rc_0 hE hP hw) hP rfl hl.1 (rest := [.ref (ad w 7 i1)]) rfl (Nat.le_of_ble_eq_true rfl) dX5_doLine_272 (fun H locs hP hS => ?_)
    refine pf_7_2 hx hb htm hown hE hP hS hw hi1 (htm _ qw_177) dX5_doLine_275 (fun H locs hP hS => ?_)
    refine lv_iconst (v := 0) hx hb dX5_doLine_278 (by decide) ?_
    obtain ⟨e1, e2⟩ := Prod.mk.inj (Option.some.inj hF)
    subst e1
    subst e2
    exact m_iret X hS hP rfl dX5_doLine_279
  have hF := ite_F c23 hF
  by_cases c25 : G 19 0 (Int32.toNatClampNeg x2) = 9
  · have hF := ite_T c25 hF
    refine lv_tableIn (off := 228) (tgt := 266) hx hb dX5_doLine_38 (by rw [c25]; decide) (by rw [c25]; decide) (by rw [c25]; rfl) (by decide) ?_
    refine lv_aload_n hx hb dX5_doLine_266 rfl (lv_at hl 4 rfl) ?_
    refine lv_aload_n hx hb dX5_doLine_267 rfl (lv_at hl 3 rfl) ?_
    refine lv_aload_n hx hb dX5_doLine_268 rfl (lv_at hl 4 rfl) ?_
    refine gf_7_1 hx hb htm hown hE hP hw hi1 (htm _ qw_176) dX5_doLine_269 ?_
    obtain ⟨r26, hc26, hF⟩ := ob_S hF
    refine m_cVi X hS vw_X5_currentOf qw_334 (c_X5_currentOf hw hc26) ⟨rfl, rfl⟩ ⟨Nat.le_of_ble_eq_true rfl, Nat.le_of_ble_eq_true rfl⟩ (rc_0 hE hP hw) hP rfl hl.1 (rest := [.ref (ad w 7 i1)]) rfl (Nat.le_of_ble_eq_true rfl) dX5_doLine_272 (fun H locs hP hS => ?_)
    refine pf_7_2 hx hb htm hown hE hP hS hw hi1 (htm _ qw_177) dX5_doLine_275 (fun H locs hP hS => ?_)
    refine lv_iconst (v := 0) hx hb dX5_doLine_278 (by decide) ?_
    obtain ⟨e1, e2⟩ := Prod.mk.inj (Option.some.inj hF)
    subst e1
    subst e2
    exact m_iret X hS hP rfl dX5_doLine_279
  have hF := ite_F c25 hF
  by_cases c27 : G 19 0 (Int32.toNatClampNeg x2) = 10
  · have hF := ite_T c27 hF
    refine lv_tableIn (off := 165) (tgt := 203) hx hb dX5_doLine_38 (by rw [c27]; decide) (by rw [c27]; decide) (by rw [c27]; rfl) (by decide) ?_
    refine lv_aload_n hx hb dX5_doLine_203 rfl (lv_at hl 4 rfl) ?_
    refine lv_iload_n hx hb dX5_doLine_204 rfl (lv_at hl 2 rfl) ?_
    refine lv_iconst (v := 1) hx hb dX5_doLine_205 (by decide) ?_
    refine lv_icmp_ne (tgt := 213) hx hb dX5_doLine_206 (by decide) (fun c28 => ?_) (fun c28 => ?_)
    · have hF := ite_F c28 hF
      refine lv_iconst (v := 0) hx hb dX5_doLine_213 (by decide) ?_
      refine pf_7_12 hx hb htm hown hE hP hS hw hi1 (htm _ qw_243) (Or.inl rfl) dX5_doLine_214 (fun H locs hP hS => ?_)
      refine lv_iload hx hb dX5_doLine_217 (lv_at hl 0 rfl) ?_
      obtain ⟨e1, e2⟩ := Prod.mk.inj (Option.some.inj hF)
      subst e1
      subst e2
      exact m_iret X hS hP rfl dX5_doLine_219
    · have hF := ite_T c28 hF
      refine lv_iconst (v := 1) hx hb dX5_doLine_209 (by decide) ?_
      refine lv_goto (tgt := 214) hx hb dX5_doLine_210 (by decide) ?_
      refine pf_7_12 hx hb htm hown hE hP hS hw hi1 (htm _ qw_243) (Or.inr rfl) dX5_doLine_214 (fun H locs hP hS => ?_)
      refine lv_iload hx hb dX5_doLine_217 (lv_at hl 0 rfl) ?_
      obtain ⟨e1, e2⟩ := Prod.mk.inj (Option.some.inj hF)
      subst e1
      subst e2
      exact m_iret X hS hP rfl dX5_doLine_219
  have hF := ite_F c27 hF
  by_cases c29 : G 19 0 (Int32.toNatClampNeg x2) = 11
  · have hF := ite_T c29 hF
    refine lv_tableIn (off := 228) (tgt := 266) hx hb dX5_doLine_38 (by rw [c29]; decide) (by rw [c29]; decide) (by rw [c29]; rfl) (by decide) ?_
    refine lv_aload_n hx hb dX5_doLine_266 rfl (lv_at hl 4 rfl) ?_
    refine lv_aload_n hx hb dX5_doLine_267 rfl (lv_at hl 3 rfl) ?_
    refine lv_aload_n hx hb dX5_doLine_268 rfl (lv_at hl 4 rfl) ?_
    refine gf_7_1 hx hb htm hown hE hP hw hi1 (htm _ qw_176) dX5_doLine_269 ?_
    obtain ⟨r30, hc30, hF⟩ := ob_S hF
    refine m_cVi X hS vw_X5_currentOf qw_334 (c_X5_currentOf hw hc30) ⟨rfl, rfl⟩ ⟨Nat.le_of_ble_eq_true rfl, Nat.le_of_ble_eq_true rfl⟩ (rc_0 hE hP hw) hP rfl hl.1 (rest := [.ref (ad w 7 i1)]) rfl (Nat.le_of_ble_eq_true rfl) dX5_doLine_272 (fun H locs hP hS => ?_)
    refine pf_7_2 hx hb htm hown hE hP hS hw hi1 (htm _ qw_177) dX5_doLine_275 (fun H locs hP hS => ?_)
    refine lv_iconst (v := 0) hx hb dX5_doLine_278 (by decide) ?_
    obtain ⟨e1, e2⟩ := Prod.mk.inj (Option.some.inj hF)
    subst e1
    subst e2
    exact m_iret X hS hP rfl dX5_doLine_279
  have hF := ite_F c29 hF
  by_cases c31 : G 19 0 (Int32.toNatClampNeg x2) = 12
  · have hF := ite_T c31 hF
    refine lv_tableIn (off := 228) (tgt := 266) hx hb dX5_doLine_38 (by rw [c31]; decide) (by rw [c31]; decide) (by rw [c31]; rfl) (by decide) ?_
    refine lv_aload_n hx hb dX5_doLine_266 rfl (lv_at hl 4 rfl) ?_
    refine lv_aload_n hx hb dX5_doLine_267 rfl (lv_at hl 3 rfl) ?_
    refine lv_aload_n hx hb dX5_doLine_268 rfl (lv_at hl 4 rfl) ?_
    refine gf_7_1 hx hb htm hown hE hP hw hi1 (htm _ qw_176) dX5_doLine_269 ?_
    obtain ⟨r32, hc32, hF⟩ := ob_S hF
    refine m_cVi X hS vw_X5_currentOf qw_334 (c_X5_currentOf hw hc32) ⟨rfl, rfl⟩ ⟨Nat.le_of_ble_eq_true rfl, Nat.le_of_ble_eq_true rfl⟩ (rc_0 hE hP hw) hP rfl hl.1 (rest := [.ref (ad w 7 i1)]) rfl (Nat.le_of_ble_eq_true rfl) dX5_doLine_272 (fun H locs hP hS => ?_)
    refine pf_7_2 hx hb htm hown hE hP hS hw hi1 (htm _ qw_177) dX5_doLine_275 (fun H locs hP hS => ?_)
    refine lv_iconst (v := 0) hx hb dX5_doLine_278 (by decide) ?_
    obtain ⟨e1, e2⟩ := Prod.mk.inj (Option.some.inj hF)
    subst e1
    subst e2
    exact m_iret X hS hP rfl dX5_doLine_279
  have hF := ite_F c31 hF
  by_cases c33 : G 19 0 (Int32.toNatClampNeg x2) = 13
  · have hF := ite_T c33 hF
    refine lv_tableIn (off := 228) (tgt := 266) hx hb dX5_doLine_38 (by rw [c33]; decide) (by rw [c33]; decide) (by rw [c33]; rfl) (by decide) ?_
    refine lv_aload_n hx hb dX5_doLine_266 rfl (lv_at hl 4 rfl) ?_
    refine lv_aload_n hx hb dX5_doLine_267 rfl (lv_at hl 3 rfl) ?_
    refine lv_aload_n hx hb dX5_doLine_268 rfl (lv_at hl 4 rfl) ?_
    refine gf_7_1 hx hb htm hown hE hP hw hi1 (htm _ qw_176) dX5_doLine_269 ?_
    obtain ⟨r34, hc34, hF⟩ := ob_S hF
    refine m_cVi X hS vw_X5_currentOf qw_334 (c_X5_currentOf hw hc34) ⟨rfl, rfl⟩ ⟨Nat.le_of_ble_eq_true rfl, Nat.le_of_ble_eq_true rfl⟩ (rc_0 hE hP hw) hP rfl hl.1 (rest := [.ref (ad w 7 i1)]) rfl (Nat.le_of_ble_eq_true rfl) dX5_doLine_272 (fun H locs hP hS => ?_)
    refine pf_7_2 hx hb htm hown hE hP hS hw hi1 (htm _ qw_177) dX5_doLine_275 (fun H locs hP hS => ?_)
    refine lv_iconst (v := 0) hx hb dX5_doLine_278 (by decide) ?_
    obtain ⟨e1, e2⟩ := Prod.mk.inj (Option.some.inj hF)
    subst e1
    subst e2
    exact m_iret X hS hP rfl dX5_doLine_279
  have hF := ite_F c33 hF
  by_cases c35 : G 19 0 (Int32.toNatClampNeg x2) = 14
  · have hF := ite_T c35 hF
    refine lv_tableIn (off := 182) (tgt := 220) hx hb dX5_doLine_38 (by rw [c35]; decide) (by rw [c35]; decide) (by rw [c35]; rfl) (by decide) ?_
    refine lv_aload_n hx hb dX5_doLine_220 rfl (lv_at hl 4 rfl) ?_
    refine lv_iload_n hx hb dX5_doLine_221 rfl (lv_at hl 2 rfl) ?_
    obtain ⟨⟨r36, V36⟩, hc36, hF⟩ := ob_S hF
    refine m_cVi X hS vw_X2_takeMail qw_330 (c_X2_takeMail hw hi1 hc36) ⟨rfl, rfl⟩ ⟨Nat.le_of_ble_eq_true rfl, Nat.le_of_ble_eq_true rfl⟩ (rc_7 hE hP hw hi1) hP rfl hl.1 (rest := []) rfl (Nat.le_of_ble_eq_true rfl) dX5_doLine_222 (fun H locs hP hS => ?_)
    refine lv_if_ne (tgt := 249) hx hb dX5_doLine_225 (by decide) (fun c37 => ?_) (fun c37 => ?_)
    · have hF := ite_F c37 hF
      refine lv_iload hx hb dX5_doLine_249 (lv_at hl 0 rfl) ?_
      obtain ⟨e1, e2⟩ := Prod.mk.inj (Option.some.inj hF)
      subst e1
      subst e2
      exact m_iret X hS hP rfl dX5_doLine_251
    · have hF := ite_T c37 hF
      refine lv_aload_n hx hb dX5_doLine_228 rfl (lv_at hl 4 rfl) ?_
      refine lv_iload_n hx hb dX5_doLine_229 rfl (lv_at hl 2 rfl) ?_
      refine lv_iload hx hb dX5_doLine_230 (lv_at hl 1 rfl) ?_
      refine lv_if_le (tgt := 245) hx hb dX5_doLine_232 (by decide) (fun c38 => ?_) (fun c38 => ?_)
      · have hF := ite_T c38 hF
        refine lv_iconst (v := (-1)) hx hb dX5_doLine_245 (by decide) ?_
        obtain ⟨V39, hc39, hF⟩ := ob_S hF
        refine m_cVv X hS vw_X2_waitFor qw_331 (c_X2_waitFor hw hi1 hc39) ⟨rfl, rfl⟩ ⟨Nat.le_of_ble_eq_true rfl, Nat.le_of_ble_eq_true rfl⟩ (rc_7 hE hP hw hi1) hP rfl hl.1 (rest := []) rfl (Nat.le_of_ble_eq_true rfl) dX5_doLine_246 (fun H locs hP hS => ?_)
        refine lv_iload hx hb dX5_doLine_249 (lv_at hl 0 rfl) ?_
        obtain ⟨e1, e2⟩ := Prod.mk.inj (Option.some.inj hF)
        subst e1
        subst e2
        exact m_iret X hS hP rfl dX5_doLine_251
      · have hF := ite_F c38 hF
        refine lv_aload_n hx hb dX5_doLine_235 rfl (lv_at hl 3 rfl) ?_
        refine gf_0_6 hx hb htm hown hE hP hw (htm _ qw_157) dX5_doLine_236 ?_
        refine lv_iload hx hb dX5_doLine_239 (lv_at hl 1 rfl) ?_
        refine lv_iadd hx hb dX5_doLine_241 ?_
        refine lv_goto (tgt := 246) hx hb dX5_doLine_242 (by decide) ?_
        obtain ⟨V40, hc40, hF⟩ := ob_S hF
        refine m_cVv X hS vw_X2_waitFor qw_331 (c_X2_waitFor hw hi1 hc40) ⟨rfl, rfl⟩ ⟨Nat.le_of_ble_eq_true rfl, Nat.le_of_ble_eq_true rfl⟩ (rc_7 hE hP hw hi1) hP rfl hl.1 (rest := []) rfl (Nat.le_of_ble_eq_true rfl) dX5_doLine_246 (fun H locs hP hS => ?_)
        refine lv_iload hx hb dX5_doLine_249 (lv_at hl 0 rfl) ?_
        obtain ⟨e1, e2⟩ := Prod.mk.inj (Option.some.inj hF)
        subst e1
        subst e2
        exact m_iret X hS hP rfl dX5_doLine_251
  have hF := ite_F c35 hF
  by_cases c41 : G 19 0 (Int32.toNatClampNeg x2) = 15
  · have hF := ite_T c41 hF
    refine lv_tableIn (off := 214) (tgt := 252) hx hb dX5_doLine_38 (by rw [c41]; decide) (by rw [c41]; decide) (by rw [c41]; rfl) (by decide) ?_
    refine lv_aload_n hx hb dX5_doLine_252 rfl (lv_at hl 4 rfl) ?_
    refine lv_iconst (v := 5) hx hb dX5_doLine_253 (by decide) ?_
    refine lv_aload_n hx hb dX5_doLine_254 rfl (lv_at hl 3 rfl) ?_
    refine gf_0_6 hx hb htm hown hE hP hw (htm _ qw_157) dX5_doLine_255 ?_
    refine lv_iload_n hx hb dX5_doLine_258 rfl (lv_at hl 2 rfl) ?_
    refine lv_iadd hx hb dX5_doLine_259 ?_
    obtain ⟨V42, hc42, hF⟩ := ob_S hF
    refine m_cVv X hS vw_X2_waitFor qw_331 (c_X2_waitFor hw hi1 hc42) ⟨rfl, rfl⟩ ⟨Nat.le_of_ble_eq_true rfl, Nat.le_of_ble_eq_true rfl⟩ (rc_7 hE hP hw hi1) hP rfl hl.1 (rest := []) rfl (Nat.le_of_ble_eq_true rfl) dX5_doLine_260 (fun H locs hP hS => ?_)
    refine lv_iload hx hb dX5_doLine_263 (lv_at hl 0 rfl) ?_
    obtain ⟨e1, e2⟩ := Prod.mk.inj (Option.some.inj hF)
    subst e1
    subst e2
    exact m_iret X hS hP rfl dX5_doLine_265
  have hF := ite_F c41 hF
  refine lv_tableOut (tgt := 266) hx hb dX5_doLine_38 (by have hc4 := lv_neT c4 (a := 0) rfl; have hc6 := lv_neT c6 (a := 1) rfl; have hc8 := lv_neT c8 (a := 2) rfl; have hc10 := lv_neT c10 (a := 3) rfl; have hc15 := lv_neT c15 (a := 4) rfl; have hc17 := lv_neT c17 (a := 5) rfl; have hc19 := lv_neT c19 (a := 6) rfl; have hc21 := lv_neT c21 (a := 7) rfl; have hc23 := lv_neT c23 (a := 8) rfl; have hc25 := lv_neT c25 (a := 9) rfl; have hc27 := lv_neT c27 (a := 10) rfl; have hc29 := lv_neT c29 (a := 11) rfl; have hc31 := lv_neT c31 (a := 12) rfl; have hc33 := lv_neT c33 (a := 13) rfl; have hc35 := lv_neT c35 (a := 14) rfl; have hc41 := lv_neT c41 (a := 15) rfl; omega) (by decide) ?_
  refine lv_aload_n hx hb dX5_doLine_266 rfl (lv_at hl 4 rfl) ?_
  refine lv_aload_n hx hb dX5_doLine_267 rfl (lv_at hl 3 rfl) ?_
  refine lv_aload_n hx hb dX5_doLine_268 rfl (lv_at hl 4 rfl) ?_
  refine gf_7_1 hx hb htm hown hE hP hw hi1 (htm _ qw_176) dX5_doLine_269 ?_
  obtain ⟨r43, hc43, hF⟩ := ob_S hF
  refine m_cVi X hS vw_X5_currentOf qw_334 (c_X5_currentOf hw hc43) ⟨rfl, rfl⟩ ⟨Nat.le_of_ble_eq_true rfl, Nat.le_of_ble_eq_true rfl⟩ (rc_0 hE hP hw) hP rfl hl.1 (rest := [.ref (ad w 7 i1)]) rfl (Nat.le_of_ble_eq_true rfl) dX5_doLine_272 (fun H locs hP hS => ?_)
  refine pf_7_2 hx hb htm hown hE hP hS hw hi1 (htm _ qw_177) dX5_doLine_275 (fun H locs hP hS => ?_)
  refine lv_iconst (v := 0) hx hb dX5_doLine_278 (by decide) ?_
  obtain ⟨e1, e2⟩ := Prod.mk.inj (Option.some.inj hF)
  subst e1
  subst e2
  exact m_iret X hS hP rfl dX5_doLine_279
def f_X5_doLineOut (G V : MT) (i1 : Nat) (x2 : Int32) : Option (Int32 × MT) :=
  if ¬ (x2 < 0 ∨ 192 ≤ Int32.toNatClampNeg x2) then (if ¬ (x2 < 0 ∨ 192 ≤ Int32.toNatClampNeg x2) then ((f_X5_living G V (V 7 i1 7)).bind (fun q3_ => oc q3_ (if ¬ (x2 < 0 ∨ 192 ≤ Int32.toNatClampNeg x2) then (if G 19 0 (Int32.toNatClampNeg x2) = 6 then (if G 21 0 (Int32.toNatClampNeg x2) = 1 then ((f_X5_spawn G V i1 (G 20 0 (Int32.toNatClampNeg x2)) 1).bind (fun q8_ => some ((q8_ 7 i1 8) + 1, q8_))) else ((f_X5_spawn G V i1 (G 20 0 (Int32.toNatClampNeg x2)) 0).bind (fun q7_ => some ((q7_ 7 i1 8) + 1, q7_)))) else (if G 19 0 (Int32.toNatClampNeg x2) = 7 then ((f_X5_signalTo G V (nI i1) (V 7 i1 7) 7).bind (fun q10_ => some ((q10_ 7 i1 8) + 1, q10_))) else (if G 19 0 (Int32.toNatClampNeg x2) = 8 then (some ((V 7 i1 8) + 1, V)) else (if G 19 0 (Int32.toNatClampNeg x2) = 9 then ((f_X5_putMail G V (nI i1) 2 ((10 * (V 7 i1 7)) + 7)).bind (fun q13_ => some ((q13_.2 7 i1 8) + 1, q13_.2))) else (if G 19 0 (Int32.toNatClampNeg x2) = 10 then ((f_X5_signalTo G V (V 7 i1 7) (nI i1) (G 20 0 (Int32.toNatClampNeg x2))).bind (fun q15_ => some ((q15_ 7 i1 8) + 1, q15_))) else (if G 19 0 (Int32.toNatClampNeg x2) = 11 then ((f_X5_takeName G V i1 (G 20 0 (Int32.toNatClampNeg x2))).bind (fun q17_ => some ((q17_ 7 i1 8) + 1, q17_))) else (if G 19 0 (Int32.toNatClampNeg x2) = 12 then ((f_X2_localAt V i1 3).bind (fun q19_ => (f_X5_putMail G V (V 7 i1 7) (G 20 0 (Int32.toNatClampNeg x2)) q19_).bind (fun q20_ => some ((q20_.2 7 i1 8) + 1, q20_.2)))) else (if G 19 0 (Int32.toNatClampNeg x2) = 13 then ((f_X5_callName G V i1 (G 20 0 (Int32.toNatClampNeg x2)) (G 21 0 (Int32.toNatClampNeg x2))).bind (fun q22_ => some ((q22_ 7 i1 8) + 1, q22_))) else ((f_X5_signalTo G V (V 7 i1 7) (nI i1) (G 20 0 (Int32.toNatClampNeg x2))).bind (fun q23_ => some ((q23_ 7 i1 8) + 1, q23_))))))))))) else none) (fun e3 => if e3 < 24 then (if ¬ (x2 < 0 ∨ 192 ≤ Int32.toNatClampNeg x2) then (if G 19 0 (Int32.toNatClampNeg x2) = 6 then (if G 21 0 (Int32.toNatClampNeg x2) = 1 then ((f_X5_spawn G V i1 (G 20 0 (Int32.toNatClampNeg x2)) 1).bind (fun q28_ => some ((q28_ 7 i1 8) + 1, q28_))) else ((f_X5_spawn G V i1 (G 20 0 (Int32.toNatClampNeg x2)) 0).bind (fun q27_ => some ((q27_ 7 i1 8) + 1, q27_)))) else (if G 19 0 (Int32.toNatClampNeg x2) = 7 then ((f_X5_link G V i1 e3).bind (fun q30_ => some ((q30_ 7 i1 8) + 1, q30_))) else (if G 19 0 (Int32.toNatClampNeg x2) = 8 then ((f_X5_unlink G V i1 e3).bind (fun q32_ => some ((q32_ 7 i1 8) + 1, q32_))) else (if G 19 0 (Int32.toNatClampNeg x2) = 9 then ((f_X4_add V e3 (nI i1)).bind (fun q34_ => some ((q34_ 7 i1 8) + 1, q34_))) else (if G 19 0 (Int32.toNatClampNeg x2) = 10 then ((f_X5_signalTo G V (V 7 i1 7) (nI i1) (G 20 0 (Int32.toNatClampNeg x2))).bind (fun q36_ => some ((q36_ 7 i1 8) + 1, q36_))) else (if G 19 0 (Int32.toNatClampNeg x2) = 11 then ((f_X5_takeName G V i1 (G 20 0 (Int32.toNatClampNeg x2))).bind (fun q38_ => some ((q38_ 7 i1 8) + 1, q38_))) else (if G 19 0 (Int32.toNatClampNeg x2) = 12 then ((f_X2_localAt V i1 3).bind (fun q40_ => (f_X5_putMail G V (V 7 i1 7) (G 20 0 (Int32.toNatClampNeg x2)) q40_).bind (fun q41_ => some ((q41_.2 7 i1 8) + 1, q41_.2)))) else (if G 19 0 (Int32.toNatClampNeg x2) = 13 then ((f_X5_callName G V i1 (G 20 0 (Int32.toNatClampNeg x2)) (G 21 0 (Int32.toNatClampNeg x2))).bind (fun q43_ => some ((q43_ 7 i1 8) + 1, q43_))) else ((f_X5_signalTo G V (V 7 i1 7) (nI i1) (G 20 0 (Int32.toNatClampNeg x2))).bind (fun q44_ => some ((q44_ 7 i1 8) + 1, q44_))))))))))) else none) else none))) else none) else none
def rm_X5_doLineOut : Room := { frames := 3, cells := 0, slots := 0, locals := 70 }
set_option maxRecDepth 20000 in
set_option maxHeartbeats 4000000 in
theorem c_X5_doLineOut {l : Launch} {D : va_G} {ad : Nat → Nat → Nat → Nat} {cI cZ cP : ClassId} {A : Nat → Prop} {w : Nat} (hw : w < 2) {G V U : MT} {i1 : Nat} {x2 : Int32} {r : Int32} {V' : MT}  (hi1 : i1 < 24) (hF : f_X5_doLineOut G V i1 x2 = some (r, V')) : Met l yX5_doLineOut (.code yX5_doLineOut cX5_doLineOut 6 (some .int) :: WM) rm_X5_doLineOut (PcM D ad cI cZ cP A [.ref (ad w 0 0), .ref (ad w 7 i1), .int x2] (Pic D ad cI cZ cP w G V U)) (QcI A r (Pic D ad cI cZ cP w G V' U)) 0 0 A := by
  refine m_entry (by decide) (Nat.le_of_ble_eq_true rfl) (fun p e s m below meth c ls X hP hS hl => ?_)
  have X : MX p s m _ meth c cX5_doLineOut RX5 6 (some .int) D ad cI cZ cP A := X
  obtain ⟨hx, hb, hml, hown, htm, hr, hlk, hE⟩ := id X
  have hl : lv_has ls 6 [(0, .ref (ad w 0 0)), (1, .ref (ad w 7 i1)), (2, .int x2)] := hl
  refine lv_aload_n hx hb dX5_doLineOut_0 rfl (lv_at hl 0 rfl) ?_
  refine gf_0_0 hx hb htm hown hE hP hw (htm _ qw_147) dX5_doLineOut_1 ?_
  refine gf_17_3 hx hb htm hown hE hP (htm _ qw_307) dX5_doLineOut_4 ?_
  refine lv_iload_n hx hb dX5_doLineOut_7 rfl (lv_at hl 2 rfl) ?_
  obtain ⟨hn1, hF⟩ := ite_S hF
  refine al_20 hx hb htm hown hE hP hn1 dX5_doLineOut_8 ?_
  refine lv_istore_n (lv' := [(3, .int (G 20 0 (Int32.toNatClampNeg x2))), (0, .ref (ad w 0 0)), (1, .ref (ad w 7 i1)), (2, .int x2)]) hx hb dX5_doLineOut_9 rfl hl (by decide) rfl (fun ls hl => ?_)
  refine lv_aload_n hx hb dX5_doLineOut_10 rfl (lv_at hl 1 rfl) ?_
  refine gf_0_0 hx hb htm hown hE hP hw (htm _ qw_147) dX5_doLineOut_11 ?_
  refine gf_17_4 hx hb htm hown hE hP (htm _ qw_308) dX5_doLineOut_14 ?_
  refine lv_iload_n hx hb dX5_doLineOut_17 rfl (lv_at hl 3 rfl) ?_
  obtain ⟨hn2, hF⟩ := ite_S hF
  refine al_21 hx hb htm hown hE hP hn2 dX5_doLineOut_18 ?_
  refine lv_istore (lv' := [(4, .int (G 21 0 (Int32.toNatClampNeg x2))), (3, .int (G 20 0 (Int32.toNatClampNeg x2))), (0, .ref (ad w 0 0)), (1, .ref (ad w 7 i1)), (2, .int x2)]) hx hb dX5_doLineOut_19 hl (by decide) rfl (fun ls hl => ?_)
  refine lv_aload_n hx hb dX5_doLineOut_21 rfl (lv_at hl 2 rfl) ?_
  refine lv_aload_n hx hb dX5_doLineOut_22 rfl (lv_at hl 3 rfl) ?_
  refine gf_7_7 hx hb htm hown hE hP hw hi1 (htm _ qw_297) dX5_doLineOut_23 ?_
  obtain ⟨r3, hc3, hF⟩ := ob_S hF
  refine m_cVq X hS vw_X5_living qw_217 (c_X5_living hw hc3) ⟨rfl, rfl⟩ ⟨Nat.le_of_ble_eq_true rfl, Nat.le_of_ble_eq_true rfl⟩ (rc_0 hE hP hw) hP rfl hl.1 (rest := []) rfl (Nat.le_of_ble_eq_true rfl) dX5_doLineOut_26 (fun H locs hP hS => ?_)
  rcases r3 with _ | e3
  · have hF := oc_N hF
    refine lv_astoreN (lv' := [(5, .null), (4, .int (G 21 0 (Int32.toNatClampNeg x2))), (3, .int (G 20 0 (Int32.toNatClampNeg x2))), (0, .ref (ad w 0 0)), (1, .ref (ad w 7 i1)), (2, .int x2)]) hx hb dX5_doLineOut_29 hl (by decide) rfl (fun ls hl => ?_)
    refine lv_aload_n hx hb dX5_doLineOut_31 rfl (lv_at hl 3 rfl) ?_
    refine gf_0_0 hx hb htm hown hE hP hw (htm _ qw_147) dX5_doLineOut_32 ?_
    refine gf_17_2 hx hb htm hown hE hP (htm _ qw_309) dX5_doLineOut_35 ?_
    refine lv_iload_n hx hb dX5_doLineOut_38 rfl (lv_at hl 5 rfl) ?_
    obtain ⟨hn4, hF⟩ := ite_S hF
    refine al_19 hx hb htm hown hE hP hn4 dX5_doLineOut_39 ?_
    by_cases c5 : G 19 0 (Int32.toNatClampNeg x2) = 6
    · have hF := ite_T c5 hF
      refine lv_tableIn (off := 48) (tgt := 88) hx hb dX5_doLineOut_40 (by rw [c5]; decide) (by rw [c5]; decide) (by rw [c5]; rfl) (by decide) ?_
      refine lv_aload_n hx hb dX5_doLineOut_88 rfl (lv_at hl 3 rfl) ?_
      refine lv_aload_n hx hb dX5_doLineOut_89 rfl (lv_at hl 4 rfl) ?_
      refine lv_iload_n hx hb dX5_doLineOut_90 rfl (lv_at hl 2 rfl) ?_
      refine lv_iload hx hb dX5_doLineOut_91 (lv_at hl 1 rfl) ?_
      refine lv_iconst (v := 1) hx hb dX5_doLineOut_93 (by decide) ?_
      refine lv_icmp_ne (tgt := 101) hx hb dX5_doLineOut_94 (by decide) (fun c6 => ?_) (fun c6 => ?_)
      · have hF := ite_F c6 hF
        refine lv_iconst (v := 0) hx hb dX5_doLineOut_101 (by decide) ?_
        obtain ⟨V7, hc7, hF⟩ := ob_S hF
        refine m_cVv X hS vw_X5_spawn qw_310 (c_X5_spawn hw hi1 hc7) ⟨rfl, rfl⟩ ⟨Nat.le_of_ble_eq_true rfl, Nat.le_of_ble_eq_true rfl⟩ (rc_0 hE hP hw) hP rfl hl.1 (rest := []) rfl (Nat.le_of_ble_eq_true rfl) dX5_doLineOut_102 (fun H locs hP hS => ?_)
        refine lv_goto (tgt := 249) hx hb dX5_doLineOut_105 (by decide) ?_
        refine lv_aload_n hx hb dX5_doLineOut_249 rfl (lv_at hl 4 rfl) ?_
        refine gf_7_8 hx hb htm hown hE hP hw hi1 (htm _ qw_182) dX5_doLineOut_250 ?_
        refine lv_iconst (v := 1) hx hb dX5_doLineOut_253 (by decide) ?_
        refine lv_iadd hx hb dX5_doLineOut_254 ?_
        obtain ⟨e1, e2⟩ := Prod.mk.inj (Option.some.inj hF)
        subst e1
        subst e2
        exact m_iret X hS hP rfl dX5_doLineOut_255
      · have hF := ite_T c6 hF
        refine lv_iconst (v := 1) hx hb dX5_doLineOut_97 (by decide) ?_
        refine lv_goto (tgt := 102) hx hb dX5_doLineOut_98 (by decide) ?_
        obtain ⟨V8, hc8, hF⟩ := ob_S hF
        refine m_cVv X hS vw_X5_spawn qw_310 (c_X5_spawn hw hi1 hc8) ⟨rfl, rfl⟩ ⟨Nat.le_of_ble_eq_true rfl, Nat.le_of_ble_eq_true rfl⟩ (rc_0 hE hP hw) hP rfl hl.1 (rest := []) rfl (Nat.le_of_ble_eq_true rfl) dX5_doLineOut_102 (fun H locs hP hS => ?_)
        refine lv_goto (tgt := 249) hx hb dX5_doLineOut_105 (by decide) ?_
        refine lv_aload_n hx hb dX5_doLineOut_249 rfl (lv_at hl 4 rfl) ?_
        refine gf_7_8 hx hb htm hown hE hP hw hi1 (htm _ qw_182) dX5_doLineOut_250 ?_
        refine lv_iconst (v := 1) hx hb dX5_doLineOut_253 (by decide) ?_
        refine lv_iadd hx hb dX5_doLineOut_254 ?_
        obtain ⟨e1, e2⟩ := Prod.mk.inj (Option.some.inj hF)
        subst e1
        subst e2
        exact m_iret X hS hP rfl dX5_doLineOut_255
    have hF := ite_F c5 hF
    by_cases c9 : G 19 0 (Int32.toNatClampNeg x2) = 7
    · have hF := ite_T c9 hF
      refine lv_tableIn (off := 68) (tgt := 108) hx hb dX5_doLineOut_40 (by rw [c9]; decide) (by rw [c9]; decide) (by rw [c9]; rfl) (by decide) ?_
      refine lv_aloadN hx hb dX5_doLineOut_108 (lv_at hl 0 rfl) ?_
      refine lv_ifnonnullN hx hb dX5_doLineOut_110 ?_
      refine lv_aload_n hx hb dX5_doLineOut_113 rfl (lv_at hl 3 rfl) ?_
      refine lv_aload_n hx hb dX5_doLineOut_114 rfl (lv_at hl 4 rfl) ?_
      refine gf_7_0 hx hb htm hown hE hP hw hi1 (htm _ qw_189) dX5_doLineOut_115 ?_
      refine lv_aload_n hx hb dX5_doLineOut_118 rfl (lv_at hl 4 rfl) ?_
      refine gf_7_7 hx hb htm hown hE hP hw hi1 (htm _ qw_297) dX5_doLineOut_119 ?_
      refine lv_bipush (v := 7) hx hb dX5_doLineOut_122 (by decide) ?_
      obtain ⟨V10, hc10, hF⟩ := ob_S hF
      refine m_cVv X hS vw_X5_signalTo qw_279 (c_X5_signalTo hw hc10) ⟨rfl, rfl⟩ ⟨Nat.le_of_ble_eq_true rfl, Nat.le_of_ble_eq_true rfl⟩ (rc_0 hE hP hw) hP rfl hl.1 (rest := []) rfl (Nat.le_of_ble_eq_true rfl) dX5_doLineOut_124 (fun H locs hP hS => ?_)
      refine lv_goto (tgt := 249) hx hb dX5_doLineOut_127 (by decide) ?_
      refine lv_aload_n hx hb dX5_doLineOut_249 rfl (lv_at hl 4 rfl) ?_
      refine gf_7_8 hx hb htm hown hE hP hw hi1 (htm _ qw_182) dX5_doLineOut_250 ?_
      refine lv_iconst (v := 1) hx hb dX5_doLineOut_253 (by decide) ?_
      refine lv_iadd hx hb dX5_doLineOut_254 ?_
      obtain ⟨e1, e2⟩ := Prod.mk.inj (Option.some.inj hF)
      subst e1
      subst e2
      exact m_iret X hS hP rfl dX5_doLineOut_255
    have hF := ite_F c9 hF
    by_cases c11 : G 19 0 (Int32.toNatClampNeg x2) = 8
    · have hF := ite_T c11 hF
      refine lv_tableIn (off := 100) (tgt := 140) hx hb dX5_doLineOut_40 (by rw [c11]; decide) (by rw [c11]; decide) (by rw [c11]; rfl) (by decide) ?_
      refine lv_aloadN hx hb dX5_doLineOut_140 (lv_at hl 0 rfl) ?_
      refine lv_ifnullN (tgt := 249) hx hb dX5_doLineOut_142 (by decide) ?_
      refine lv_aload_n hx hb dX5_doLineOut_249 rfl (lv_at hl 4 rfl) ?_
      refine gf_7_8 hx hb htm hown hE hP hw hi1 (htm _ qw_182) dX5_doLineOut_250 ?_
      refine lv_iconst (v := 1) hx hb dX5_doLineOut_253 (by decide) ?_
      refine lv_iadd hx hb dX5_doLineOut_254 ?_
      obtain ⟨e1, e2⟩ := Prod.mk.inj (Option.some.inj hF)
      subst e1
      subst e2
      exact m_iret X hS hP rfl dX5_doLineOut_255
    have hF := ite_F c11 hF
    by_cases c12 : G 19 0 (Int32.toNatClampNeg x2) = 9
    · have hF := ite_T c12 hF
      refine lv_tableIn (off := 115) (tgt := 155) hx hb dX5_doLineOut_40 (by rw [c12]; decide) (by rw [c12]; decide) (by rw [c12]; rfl) (by decide) ?_
      refine lv_aloadN hx hb dX5_doLineOut_155 (lv_at hl 0 rfl) ?_
      refine lv_ifnonnullN hx hb dX5_doLineOut_157 ?_
      refine lv_aload_n hx hb dX5_doLineOut_160 rfl (lv_at hl 3 rfl) ?_
      refine lv_aload_n hx hb dX5_doLineOut_161 rfl (lv_at hl 4 rfl) ?_
      refine gf_7_0 hx hb htm hown hE hP hw hi1 (htm _ qw_189) dX5_doLineOut_162 ?_
      refine lv_iconst (v := 2) hx hb dX5_doLineOut_165 (by decide) ?_
      refine lv_bipush (v := 10) hx hb dX5_doLineOut_166 (by decide) ?_
      refine lv_aload_n hx hb dX5_doLineOut_168 rfl (lv_at hl 4 rfl) ?_
      refine gf_7_7 hx hb htm hown hE hP hw hi1 (htm _ qw_297) dX5_doLineOut_169 ?_
      refine lv_imul hx hb dX5_doLineOut_172 ?_
      refine lv_bipush (v := 7) hx hb dX5_doLineOut_173 (by decide) ?_
      refine lv_iadd hx hb dX5_doLineOut_175 ?_
      obtain ⟨⟨r13, V13⟩, hc13, hF⟩ := ob_S hF
      refine m_cVi X hS vw_X5_putMail qw_237 (c_X5_putMail hw hc13) ⟨rfl, rfl⟩ ⟨Nat.le_of_ble_eq_true rfl, Nat.le_of_ble_eq_true rfl⟩ (rc_0 hE hP hw) hP rfl hl.1 (rest := []) rfl (Nat.le_of_ble_eq_true rfl) dX5_doLineOut_176 (fun H locs hP hS => ?_)
      refine lv_pop hx hb dX5_doLineOut_179 rfl ?_
      refine lv_goto (tgt := 249) hx hb dX5_doLineOut_180 (by decide) ?_
      refine lv_aload_n hx hb dX5_doLineOut_249 rfl (lv_at hl 4 rfl) ?_
      refine gf_7_8 hx hb htm hown hE hP hw hi1 (htm _ qw_182) dX5_doLineOut_250 ?_
      refine lv_iconst (v := 1) hx hb dX5_doLineOut_253 (by decide) ?_
      refine lv_iadd hx hb dX5_doLineOut_254 ?_
      obtain ⟨e1, e2⟩ := Prod.mk.inj (Option.some.inj hF)
      subst e1
      subst e2
      exact m_iret X hS hP rfl dX5_doLineOut_255
    have hF := ite_F c12 hF
    by_cases c14 : G 19 0 (Int32.toNatClampNeg x2) = 10
    · have hF := ite_T c14 hF
      refine lv_tableIn (off := 196) (tgt := 236) hx hb dX5_doLineOut_40 (by rw [c14]; decide) (by rw [c14]; decide) (by rw [c14]; rfl) (by decide) ?_
      refine lv_aload_n hx hb dX5_doLineOut_236 rfl (lv_at hl 3 rfl) ?_
      refine lv_aload_n hx hb dX5_doLineOut_237 rfl (lv_at hl 4 rfl) ?_
      refine gf_7_7 hx hb htm hown hE hP hw hi1 (htm _ qw_297) dX5_doLineOut_238 ?_
      refine lv_aload_n hx hb dX5_doLineOut_241 rfl (lv_at hl 4 rfl) ?_
      refine gf_7_0 hx hb htm hown hE hP hw hi1 (htm _ qw_189) dX5_doLineOut_242 ?_
      refine lv_iload_n hx hb dX5_doLineOut_245 rfl (lv_at hl 2 rfl) ?_
      obtain ⟨V15, hc15, hF⟩ := ob_S hF
      refine m_cVv X hS vw_X5_signalTo qw_279 (c_X5_signalTo hw hc15) ⟨rfl, rfl⟩ ⟨Nat.le_of_ble_eq_true rfl, Nat.le_of_ble_eq_true rfl⟩ (rc_0 hE hP hw) hP rfl hl.1 (rest := []) rfl (Nat.le_of_ble_eq_true rfl) dX5_doLineOut_246 (fun H locs hP hS => ?_)
      refine lv_aload_n hx hb dX5_doLineOut_249 rfl (lv_at hl 4 rfl) ?_
      refine gf_7_8 hx hb htm hown hE hP hw hi1 (htm _ qw_182) dX5_doLineOut_250 ?_
      refine lv_iconst (v := 1) hx hb dX5_doLineOut_253 (by decide) ?_
      refine lv_iadd hx hb dX5_doLineOut_254 ?_
      obtain ⟨e1, e2⟩ := Prod.mk.inj (Option.some.inj hF)
      subst e1
      subst e2
      exact m_iret X hS hP rfl dX5_doLineOut_255
    have hF := ite_F c14 hF
    by_cases c16 : G 19 0 (Int32.toNatClampNeg x2) = 11
    · have hF := ite_T c16 hF
      refine lv_tableIn (off := 158) (tgt := 198) hx hb dX5_doLineOut_40 (by rw [c16]; decide) (by rw [c16]; decide) (by rw [c16]; rfl) (by decide) ?_
      refine lv_aload_n hx hb dX5_doLineOut_198 rfl (lv_at hl 3 rfl) ?_
      refine lv_aload_n hx hb dX5_doLineOut_199 rfl (lv_at hl 4 rfl) ?_
      refine lv_iload_n hx hb dX5_doLineOut_200 rfl (lv_at hl 2 rfl) ?_
      obtain ⟨V17, hc17, hF⟩ := ob_S hF
      refine m_cVv X hS vw_X5_takeName qw_316 (c_X5_takeName hw hi1 hc17) ⟨rfl, rfl⟩ ⟨Nat.le_of_ble_eq_true rfl, Nat.le_of_ble_eq_true rfl⟩ (rc_0 hE hP hw) hP rfl hl.1 (rest := []) rfl (Nat.le_of_ble_eq_true rfl) dX5_doLineOut_201 (fun H locs hP hS => ?_)
      refine lv_goto (tgt := 249) hx hb dX5_doLineOut_204 (by decide) ?_
      refine lv_aload_n hx hb dX5_doLineOut_249 rfl (lv_at hl 4 rfl) ?_
      refine gf_7_8 hx hb htm hown hE hP hw hi1 (htm _ qw_182) dX5_doLineOut_250 ?_
      refine lv_iconst (v := 1) hx hb dX5_doLineOut_253 (by decide) ?_
      refine lv_iadd hx hb dX5_doLineOut_254 ?_
      obtain ⟨e1, e2⟩ := Prod.mk.inj (Option.some.inj hF)
      subst e1
      subst e2
      exact m_iret X hS hP rfl dX5_doLineOut_255
    have hF := ite_F c16 hF
    by_cases c18 : G 19 0 (Int32.toNatClampNeg x2) = 12
    · have hF := ite_T c18 hF
      refine lv_tableIn (off := 167) (tgt := 207) hx hb dX5_doLineOut_40 (by rw [c18]; decide) (by rw [c18]; decide) (by rw [c18]; rfl) (by decide) ?_
      refine lv_aload_n hx hb dX5_doLineOut_207 rfl (lv_at hl 3 rfl) ?_
      refine lv_aload_n hx hb dX5_doLineOut_208 rfl (lv_at hl 4 rfl) ?_
      refine gf_7_7 hx hb htm hown hE hP hw hi1 (htm _ qw_297) dX5_doLineOut_209 ?_
      refine lv_iload_n hx hb dX5_doLineOut_212 rfl (lv_at hl 2 rfl) ?_
      refine lv_aload_n hx hb dX5_doLineOut_213 rfl (lv_at hl 4 rfl) ?_
      refine lv_iconst (v := 3) hx hb dX5_doLineOut_214 (by decide) ?_
      obtain ⟨r19, hc19, hF⟩ := ob_S hF
      refine m_cVi X hS vw_X2_localAt qw_319 (c_X2_localAt hw hi1 hc19) ⟨rfl, rfl⟩ ⟨Nat.le_of_ble_eq_true rfl, Nat.le_of_ble_eq_true rfl⟩ (rc_7 hE hP hw hi1) hP rfl hl.1 (rest := [.int (G 20 0 (Int32.toNatClampNeg x2)), .int (V 7 i1 7), .ref (ad w 0 0)]) rfl (Nat.le_of_ble_eq_true rfl) dX5_doLineOut_215 (fun H locs hP hS => ?_)
      obtain ⟨⟨r20, V20⟩, hc20, hF⟩ := ob_S hF
      refine m_cVi X hS vw_X5_putMail qw_237 (c_X5_putMail hw hc20) ⟨rfl, rfl⟩ ⟨Nat.le_of_ble_eq_true rfl, Nat.le_of_ble_eq_true rfl⟩ (rc_0 hE hP hw) hP rfl hl.1 (rest := []) rfl (Nat.le_of_ble_eq_true rfl) dX5_doLineOut_218 (fun H locs hP hS => ?_)
      refine lv_pop hx hb dX5_doLineOut_221 rfl ?_
      refine lv_goto (tgt := 249) hx hb dX5_doLineOut_222 (by decide) ?_
      refine lv_aload_n hx hb dX5_doLineOut_249 rfl (lv_at hl 4 rfl) ?_
      refine gf_7_8 hx hb htm hown hE hP hw hi1 (htm _ qw_182) dX5_doLineOut_250 ?_
      refine lv_iconst (v := 1) hx hb dX5_doLineOut_253 (by decide) ?_
      refine lv_iadd hx hb dX5_doLineOut_254 ?_
      obtain ⟨e1, e2⟩ := Prod.mk.inj (Option.some.inj hF)
      subst e1
      subst e2
      exact m_iret X hS hP rfl dX5_doLineOut_255
    have hF := ite_F c18 hF
    by_cases c21 : G 19 0 (Int32.toNatClampNeg x2) = 13
    · have hF := ite_T c21 hF
      refine lv_tableIn (off := 185) (tgt := 225) hx hb dX5_doLineOut_40 (by rw [c21]; decide) (by rw [c21]; decide) (by rw [c21]; rfl) (by decide) ?_
      refine lv_aload_n hx hb dX5_doLineOut_225 rfl (lv_at hl 3 rfl) ?_
      refine lv_aload_n hx hb dX5_doLineOut_226 rfl (lv_at hl 4 rfl) ?_
      refine lv_iload_n hx hb dX5_doLineOut_227 rfl (lv_at hl 2 rfl) ?_
      refine lv_iload hx hb dX5_doLineOut_228 (lv_at hl 1 rfl) ?_
      obtain ⟨V22, hc22, hF⟩ := ob_S hF
      refine m_cVv X hS vw_X5_callName qw_322 (c_X5_callName hw hi1 hc22) ⟨rfl, rfl⟩ ⟨Nat.le_of_ble_eq_true rfl, Nat.le_of_ble_eq_true rfl⟩ (rc_0 hE hP hw) hP rfl hl.1 (rest := []) rfl (Nat.le_of_ble_eq_true rfl) dX5_doLineOut_230 (fun H locs hP hS => ?_)
      refine lv_goto (tgt := 249) hx hb dX5_doLineOut_233 (by decide) ?_
      refine lv_aload_n hx hb dX5_doLineOut_249 rfl (lv_at hl 4 rfl) ?_
      refine gf_7_8 hx hb htm hown hE hP hw hi1 (htm _ qw_182) dX5_doLineOut_250 ?_
      refine lv_iconst (v := 1) hx hb dX5_doLineOut_253 (by decide) ?_
      refine lv_iadd hx hb dX5_doLineOut_254 ?_
      obtain ⟨e1, e2⟩ := Prod.mk.inj (Option.some.inj hF)
      subst e1
      subst e2
      exact m_iret X hS hP rfl dX5_doLineOut_255
    have hF := ite_F c21 hF
    refine lv_tableOut (tgt := 236) hx hb dX5_doLineOut_40 (by have hc5 := lv_neT c5 (a := 6) rfl; have hc9 := lv_neT c9 (a := 7) rfl; have hc11 := lv_neT c11 (a := 8) rfl; have hc12 := lv_neT c12 (a := 9) rfl; have hc14 := lv_neT c14 (a := 10) rfl; have hc16 := lv_neT c16 (a := 11) rfl; have hc18 := lv_neT c18 (a := 12) rfl; have hc21 := lv_neT c21 (a := 13) rfl; omega) (by decide) ?_
    refine lv_aload_n hx hb dX5_doLineOut_236 rfl (lv_at hl 3 rfl) ?_
    refine lv_aload_n hx hb dX5_doLineOut_237 rfl (lv_at hl 4 rfl) ?_
    refine gf_7_7 hx hb htm hown hE hP hw hi1 (htm _ qw_297) dX5_doLineOut_238 ?_
    refine lv_aload_n hx hb dX5_doLineOut_241 rfl (lv_at hl 4 rfl) ?_
    refine gf_7_0 hx hb htm hown hE hP hw hi1 (htm _ qw_189) dX5_doLineOut_242 ?_
    refine lv_iload_n hx hb dX5_doLineOut_245 rfl (lv_at hl 2 rfl) ?_
    obtain ⟨V23, hc23, hF⟩ := ob_S hF
    refine m_cVv X hS vw_X5_signalTo qw_279 (c_X5_signalTo hw hc23) ⟨rfl, rfl⟩ ⟨Nat.le_of_ble_eq_true rfl, Nat.le_of_ble_eq_true rfl⟩ (rc_0 hE hP hw) hP rfl hl.1 (rest := []) rfl (Nat.le_of_ble_eq_true rfl) dX5_doLineOut_246 (fun H locs hP hS => ?_)
    refine lv_aload_n hx hb dX5_doLineOut_249 rfl (lv_at hl 4 rfl) ?_
    refine gf_7_8 hx hb htm hown hE hP hw hi1 (htm _ qw_182) dX5_doLineOut_250 ?_
    refine lv_iconst (v := 1) hx hb dX5_doLineOut_253 (by decide) ?_
    refine lv_iadd hx hb dX5_doLineOut_254 ?_
    obtain ⟨e1, e2⟩ := Prod.mk.inj (Option.some.inj hF)
    subst e1
    subst e2
    exact m_iret X hS hP rfl dX5_doLineOut_255
  · obtain ⟨he3, hF⟩ := ite_S (oc_J hF)
    refine lv_astore (lv' := [(5, .ref (ad w 7 e3)), (4, .int (G 21 0 (Int32.toNatClampNeg x2))), (3, .int (G 20 0 (Int32.toNatClampNeg x2))), (0, .ref (ad w 0 0)), (1, .ref (ad w 7 i1)), (2, .int x2)]) hx hb dX5_doLineOut_29 hl (by decide) rfl (fun ls hl => ?_)
    refine lv_aload_n hx hb dX5_doLineOut_31 rfl (lv_at hl 3 rfl) ?_
    refine gf_0_0 hx hb htm hown hE hP hw (htm _ qw_147) dX5_doLineOut_32 ?_
    refine gf_17_2 hx hb htm hown hE hP (htm _ qw_309) dX5_doLineOut_35 ?_
    refine lv_iload_n hx hb dX5_doLineOut_38 rfl (lv_at hl 5 rfl) ?_
    obtain ⟨hn24, hF⟩ := ite_S hF
    refine al_19 hx hb htm hown hE hP hn24 dX5_doLineOut_39 ?_
    by_cases c25 : G 19 0 (Int32.toNatClampNeg x2) = 6
    · have hF := ite_T c25 hF
      refine lv_tableIn (off := 48) (tgt := 88) hx hb dX5_doLineOut_40 (by rw [c25]; decide) (by rw [c25]; decide) (by rw [c25]; rfl) (by decide) ?_
      refine lv_aload_n hx hb dX5_doLineOut_88 rfl (lv_at hl 3 rfl) ?_
      refine lv_aload_n hx hb dX5_doLineOut_89 rfl (lv_at hl 4 rfl) ?_
      refine lv_iload_n hx hb dX5_doLineOut_90 rfl (lv_at hl 2 rfl) ?_
      refine lv_iload hx hb dX5_doLineOut_91 (lv_at hl 1 rfl) ?_
      refine lv_iconst (v := 1) hx hb dX5_doLineOut_93 (by decide) ?_
      refine lv_icmp_ne (tgt := 101) hx hb dX5_doLineOut_94 (by decide) (fun c26 => ?_) (fun c26 => ?_)
      · have hF := ite_F c26 hF
        refine lv_iconst (v := 0) hx hb dX5_doLineOut_101 (by decide) ?_
        obtain ⟨V27, hc27, hF⟩ := ob_S hF
        refine m_cVv X hS vw_X5_spawn qw_310 (c_X5_spawn hw hi1 hc27) ⟨rfl, rfl⟩ ⟨Nat.le_of_ble_eq_true rfl, Nat.le_of_ble_eq_true rfl⟩ (rc_0 hE hP hw) hP rfl hl.1 (rest := []) rfl (Nat.le_of_ble_eq_true rfl) dX5_doLineOut_102 (fun H locs hP hS => ?_)
        refine lv_goto (tgt := 249) hx hb dX5_doLineOut_105 (by decide) ?_
        refine lv_aload_n hx hb dX5_doLineOut_249 rfl (lv_at hl 4 rfl) ?_
        refine gf_7_8 hx hb htm hown hE hP hw hi1 (htm _ qw_182) dX5_doLineOut_250 ?_
        refine lv_iconst (v := 1) hx hb dX5_doLineOut_253 (by decide) ?_
        refine lv_iadd hx hb dX5_doLineOut_254 ?_
        obtain ⟨e1, e2⟩ := Prod.mk.inj (Option.some.inj hF)
        subst e1
        subst e2
        exact m_iret X hS hP rfl dX5_doLineOut_255
      · have hF := ite_T c26 hF
        refine lv_iconst (v := 1) hx hb dX5_doLineOut_97 (by decide) ?_
        refine lv_goto (tgt := 102) hx hb dX5_doLineOut_98 (by decide) ?_
        obtain ⟨V28, hc28, hF⟩ := ob_S hF
        refine m_cVv X hS vw_X5_spawn qw_310 (c_X5_spawn hw hi1 hc28) ⟨rfl, rfl⟩ ⟨Nat.le_of_ble_eq_true rfl, Nat.le_of_ble_eq_true rfl⟩ (rc_0 hE hP hw) hP rfl hl.1 (rest := []) rfl (Nat.le_of_ble_eq_true rfl) dX5_doLineOut_102 (fun H locs hP hS => ?_)
        refine lv_goto (tgt := 249) hx hb dX5_doLineOut_105 (by decide) ?_
        refine lv_aload_n hx hb dX5_doLineOut_249 rfl (lv_at hl 4 rfl) ?_
        refine gf_7_8 hx hb htm hown hE hP hw hi1 (htm _ qw_182) dX5_doLineOut_250 ?_
        refine lv_iconst (v := 1) hx hb dX5_doLineOut_253 (by decide) ?_
        refine lv_iadd hx hb dX5_doLineOut_254 ?_
        obtain ⟨e1, e2⟩ := Prod.mk.inj (Option.some.inj hF)
        subst e1
        subst e2
        exact m_iret X hS hP rfl dX5_doLineOut_255
    have hF := ite_F c25 hF
    by_cases c29 : G 19 0 (Int32.toNatClampNeg x2) = 7
    · have hF := ite_T c29 hF
      refine lv_tableIn (off := 68) (tgt := 108) hx hb dX5_doLineOut_40 (by rw [c29]; decide) (by rw [c29]; decide) (by rw [c29]; rfl) (by decide) ?_
      refine lv_aload hx hb dX5_doLineOut_108 (lv_at hl 0 rfl) ?_
      refine lv_ifnonnull (tgt := 130) hx hb dX5_doLineOut_110 (by decide) ?_
      refine lv_aload_n hx hb dX5_doLineOut_130 rfl (lv_at hl 3 rfl) ?_
      refine lv_aload_n hx hb dX5_doLineOut_131 rfl (lv_at hl 4 rfl) ?_
      refine lv_aload hx hb dX5_doLineOut_132 (lv_at hl 0 rfl) ?_
      obtain ⟨V30, hc30, hF⟩ := ob_S hF
      refine m_cVv X hS vw_X5_link qw_298 (c_X5_link hw hi1 he3 hc30) ⟨rfl, rfl⟩ ⟨Nat.le_of_ble_eq_true rfl, Nat.le_of_ble_eq_true rfl⟩ (rc_0 hE hP hw) hP rfl hl.1 (rest := []) rfl (Nat.le_of_ble_eq_true rfl) dX5_doLineOut_134 (fun H locs hP hS => ?_)
      refine lv_goto (tgt := 249) hx hb dX5_doLineOut_137 (by decide) ?_
      refine lv_aload_n hx hb dX5_doLineOut_249 rfl (lv_at hl 4 rfl) ?_
      refine gf_7_8 hx hb htm hown hE hP hw hi1 (htm _ qw_182) dX5_doLineOut_250 ?_
      refine lv_iconst (v := 1) hx hb dX5_doLineOut_253 (by decide) ?_
      refine lv_iadd hx hb dX5_doLineOut_254 ?_
      obtain ⟨e1, e2⟩ := Prod.mk.inj (Option.some.inj hF)
      subst e1
      subst e2
      exact m_iret X hS hP rfl dX5_doLineOut_255
    have hF := ite_F c29 hF
    by_cases c31 : G 19 0 (Int32.toNatClampNeg x2) = 8
    · have hF := ite_T c31 hF
      refine lv_tableIn (off := 100) (tgt := 140) hx hb dX5_doLineOut_40 (by rw [c31]; decide) (by rw [c31]; decide) (by rw [c31]; rfl) (by decide) ?_
      refine lv_aload hx hb dX5_doLineOut_140 (lv_at hl 0 rfl) ?_
      refine lv_ifnull hx hb dX5_doLineOut_142 ?_
      refine lv_aload_n hx hb dX5_doLineOut_145 rfl (lv_at hl 3 rfl) ?_
      refine lv_aload_n hx hb dX5_doLineOut_146 rfl (lv_at hl 4 rfl) ?_
      refine lv_aload hx hb dX5_doLineOut_147 (lv_at hl 0 rfl) ?_
      obtain ⟨V32, hc32, hF⟩ := ob_S hF
      refine m_cVv X hS vw_X5_unlink qw_276 (c_X5_unlink hw hi1 he3 hc32) ⟨rfl, rfl⟩ ⟨Nat.le_of_ble_eq_true rfl, Nat.le_of_ble_eq_true rfl⟩ (rc_0 hE hP hw) hP rfl hl.1 (rest := []) rfl (Nat.le_of_ble_eq_true rfl) dX5_doLineOut_149 (fun H locs hP hS => ?_)
      refine lv_goto (tgt := 249) hx hb dX5_doLineOut_152 (by decide) ?_
      refine lv_aload_n hx hb dX5_doLineOut_249 rfl (lv_at hl 4 rfl) ?_
      refine gf_7_8 hx hb htm hown hE hP hw hi1 (htm _ qw_182) dX5_doLineOut_250 ?_
      refine lv_iconst (v := 1) hx hb dX5_doLineOut_253 (by decide) ?_
      refine lv_iadd hx hb dX5_doLineOut_254 ?_
      obtain ⟨e1, e2⟩ := Prod.mk.inj (Option.some.inj hF)
      subst e1
      subst e2
      exact m_iret X hS hP rfl dX5_doLineOut_255
    have hF := ite_F c31 hF
    by_cases c33 : G 19 0 (Int32.toNatClampNeg x2) = 9
    · have hF := ite_T c33 hF
      refine lv_tableIn (off := 115) (tgt := 155) hx hb dX5_doLineOut_40 (by rw [c33]; decide) (by rw [c33]; decide) (by rw [c33]; rfl) (by decide) ?_
      refine lv_aload hx hb dX5_doLineOut_155 (lv_at hl 0 rfl) ?_
      refine lv_ifnonnull (tgt := 183) hx hb dX5_doLineOut_157 (by decide) ?_
      refine lv_aload hx hb dX5_doLineOut_183 (lv_at hl 0 rfl) ?_
      refine gf_7_18 hx hb htm hown hE hP hw he3 (htm _ qw_233) dX5_doLineOut_185 ?_
      refine lv_aload_n hx hb dX5_doLineOut_188 rfl (lv_at hl 4 rfl) ?_
      refine gf_7_0 hx hb htm hown hE hP hw hi1 (htm _ qw_189) dX5_doLineOut_189 ?_
      obtain ⟨V34, hc34, hF⟩ := ob_S hF
      refine m_cVv X hS vw_X4_add qw_313 (c_X4_add hw he3 hc34) ⟨rfl, rfl⟩ ⟨Nat.le_of_ble_eq_true rfl, Nat.le_of_ble_eq_true rfl⟩ (rc_13 hE hP hw he3) hP rfl hl.1 (rest := []) rfl (Nat.le_of_ble_eq_true rfl) dX5_doLineOut_192 (fun H locs hP hS => ?_)
      refine lv_goto (tgt := 249) hx hb dX5_doLineOut_195 (by decide) ?_
      refine lv_aload_n hx hb dX5_doLineOut_249 rfl (lv_at hl 4 rfl) ?_
      refine gf_7_8 hx hb htm hown hE hP hw hi1 (htm _ qw_182) dX5_doLineOut_250 ?_
      refine lv_iconst (v := 1) hx hb dX5_doLineOut_253 (by decide) ?_
      refine lv_iadd hx hb dX5_doLineOut_254 ?_
      obtain ⟨e1, e2⟩ := Prod.mk.inj (Option.some.inj hF)
      subst e1
      subst e2
      exact m_iret X hS hP rfl dX5_doLineOut_255
    have hF := ite_F c33 hF
    by_cases c35 : G 19 0 (Int32.toNatClampNeg x2) = 10
    · have hF := ite_T c35 hF
      refine lv_tableIn (off := 196) (tgt := 236) hx hb dX5_doLineOut_40 (by rw [c35]; decide) (by rw [c35]; decide) (by rw [c35]; rfl) (by decide) ?_
      refine lv_aload_n hx hb dX5_doLineOut_236 rfl (lv_at hl 3 rfl) ?_
      refine lv_aload_n hx hb dX5_doLineOut_237 rfl (lv_at hl 4 rfl) ?_
      refine gf_7_7 hx hb htm hown hE hP hw hi1 (htm _ qw_297) dX5_doLineOut_238 ?_
      refine lv_aload_n hx hb dX5_doLineOut_241 rfl (lv_at hl 4 rfl) ?_
      refine gf_7_0 hx hb htm hown hE hP hw hi1 (htm _ qw_189) dX5_doLineOut_242 ?_
      refine lv_iload_n hx hb dX5_doLineOut_245 rfl (lv_at hl 2 rfl) ?_
      obtain ⟨V36, hc36, hF⟩ := ob_S hF
      refine m_cVv X hS vw_X5_signalTo qw_279 (c_X5_signalTo hw hc36) ⟨rfl, rfl⟩ ⟨Nat.le_of_ble_eq_true rfl, Nat.le_of_ble_eq_true rfl⟩ (rc_0 hE hP hw) hP rfl hl.1 (rest := []) rfl (Nat.le_of_ble_eq_true rfl) dX5_doLineOut_246 (fun H locs hP hS => ?_)
      refine lv_aload_n hx hb dX5_doLineOut_249 rfl (lv_at hl 4 rfl) ?_
      refine gf_7_8 hx hb htm hown hE hP hw hi1 (htm _ qw_182) dX5_doLineOut_250 ?_
      refine lv_iconst (v := 1) hx hb dX5_doLineOut_253 (by decide) ?_
      refine lv_iadd hx hb dX5_doLineOut_254 ?_
      obtain ⟨e1, e2⟩ := Prod.mk.inj (Option.some.inj hF)
      subst e1
      subst e2
      exact m_iret X hS hP rfl dX5_doLineOut_255
    have hF := ite_F c35 hF
    by_cases c37 : G 19 0 (Int32.toNatClampNeg x2) = 11
    · have hF := ite_T c37 hF
      refine lv_tableIn (off := 158) (tgt := 198) hx hb dX5_doLineOut_40 (by rw [c37]; decide) (by rw [c37]; decide) (by rw [c37]; rfl) (by decide) ?_
      refine lv_aload_n hx hb dX5_doLineOut_198 rfl (lv_at hl 3 rfl) ?_
      refine lv_aload_n hx hb dX5_doLineOut_199 rfl (lv_at hl 4 rfl) ?_
      refine lv_iload_n hx hb dX5_doLineOut_200 rfl (lv_at hl 2 rfl) ?_
      obtain ⟨V38, hc38, hF⟩ := ob_S hF
      refine m_cVv X hS vw_X5_takeName qw_316 (c_X5_takeName hw hi1 hc38) ⟨rfl, rfl⟩ ⟨Nat.le_of_ble_eq_true rfl, Nat.le_of_ble_eq_true rfl⟩ (rc_0 hE hP hw) hP rfl hl.1 (rest := []) rfl (Nat.le_of_ble_eq_true rfl) dX5_doLineOut_201 (fun H locs hP hS => ?_)
      refine lv_goto (tgt := 249) hx hb dX5_doLineOut_204 (by decide) ?_
      refine lv_aload_n hx hb dX5_doLineOut_249 rfl (lv_at hl 4 rfl) ?_
      refine gf_7_8 hx hb htm hown hE hP hw hi1 (htm _ qw_182) dX5_doLineOut_250 ?_
      refine lv_iconst (v := 1) hx hb dX5_doLineOut_253 (by decide) ?_
      refine lv_iadd hx hb dX5_doLineOut_254 ?_
      obtain ⟨e1, e2⟩ := Prod.mk.inj (Option.some.inj hF)
      subst e1
      subst e2
      exact m_iret X hS hP rfl dX5_doLineOut_255
    have hF := ite_F c37 hF
    by_cases c39 : G 19 0 (Int32.toNatClampNeg x2) = 12
    · have hF := ite_T c39 hF
      refine lv_tableIn (off := 167) (tgt := 207) hx hb dX5_doLineOut_40 (by rw [c39]; decide) (by rw [c39]; decide) (by rw [c39]; rfl) (by decide) ?_
      refine lv_aload_n hx hb dX5_doLineOut_207 rfl (lv_at hl 3 rfl) ?_
      refine lv_aload_n hx hb dX5_doLineOut_208 rfl (lv_at hl 4 rfl) ?_
      refine gf_7_7 hx hb htm hown hE hP hw hi1 (htm _ qw_297) dX5_doLineOut_209 ?_
      refine lv_iload_n hx hb dX5_doLineOut_212 rfl (lv_at hl 2 rfl) ?_
      refine lv_aload_n hx hb dX5_doLineOut_213 rfl (lv_at hl 4 rfl) ?_
      refine lv_iconst (v := 3) hx hb dX5_doLineOut_214 (by decide) ?_
      obtain ⟨r40, hc40, hF⟩ := ob_S hF
      refine m_cVi X hS vw_X2_localAt qw_319 (c_X2_localAt hw hi1 hc40) ⟨rfl, rfl⟩ ⟨Nat.le_of_ble_eq_true rfl, Nat.le_of_ble_eq_true rfl⟩ (rc_7 hE hP hw hi1) hP rfl hl.1 (rest := [.int (G 20 0 (Int32.toNatClampNeg x2)), .int (V 7 i1 7), .ref (ad w 0 0)]) rfl (Nat.le_of_ble_eq_true rfl) dX5_doLineOut_215 (fun H locs hP hS => ?_)
      obtain ⟨⟨r41, V41⟩, hc41, hF⟩ := ob_S hF
      refine m_cVi X hS vw_X5_putMail qw_237 (c_X5_putMail hw hc41) ⟨rfl, rfl⟩ ⟨Nat.le_of_ble_eq_true rfl, Nat.le_of_ble_eq_true rfl⟩ (rc_0 hE hP hw) hP rfl hl.1 (rest := []) rfl (Nat.le_of_ble_eq_true rfl) dX5_doLineOut_218 (fun H locs hP hS => ?_)
      refine lv_pop hx hb dX5_doLineOut_221 rfl ?_
      refine lv_goto (tgt := 249) hx hb dX5_doLineOut_222 (by decide) ?_
      refine lv_aload_n hx hb dX5_doLineOut_249 rfl (lv_at hl 4 rfl) ?_
      refine gf_7_8 hx hb htm hown hE hP hw hi1 (htm _ qw_182) dX5_doLineOut_250 ?_
      refine lv_iconst (v := 1) hx hb dX5_doLineOut_253 (by decide) ?_
      refine lv_iadd hx hb dX5_doLineOut_254 ?_
      obtain ⟨e1, e2⟩ := Prod.mk.inj (Option.some.inj hF)
      subst e1
      subst e2
      exact m_iret X hS hP rfl dX5_doLineOut_255
    have hF := ite_F c39 hF
    by_cases c42 : G 19 0 (Int32.toNatClampNeg x2) = 13
    · have hF := ite_T c42 hF
      refine lv_tableIn (off := 185) (tgt := 225) hx hb dX5_doLineOut_40 (by rw [c42]; decide) (by rw [c42]; decide) (by rw [c42]; rfl) (by decide) ?_
      refine lv_aload_n hx hb dX5_doLineOut_225 rfl (lv_at hl 3 rfl) ?_
      refine lv_aload_n hx hb dX5_doLineOut_226 rfl (lv_at hl 4 rfl) ?_
      refine lv_iload_n hx hb dX5_doLineOut_227 rfl (lv_at hl 2 rfl) ?_
      refine lv_iload hx hb dX5_doLineOut_228 (lv_at hl 1 rfl) ?_
      obtain ⟨V43, hc43, hF⟩ := ob_S hF
      refine m_cVv X hS vw_X5_callName qw_322 (c_X5_callName hw hi1 hc43) ⟨rfl, rfl⟩ ⟨Nat.le_of_ble_eq_true rfl, Nat.le_of_ble_eq_true rfl⟩ (rc_0 hE hP hw) hP rfl hl.1 (rest := []) rfl (Nat.le_of_ble_eq_true rfl) dX5_doLineOut_230 (fun H locs hP hS => ?_)
      refine lv_goto (tgt := 249) hx hb dX5_doLineOut_233 (by decide) ?_
      refine lv_aload_n hx hb dX5_doLineOut_249 rfl (lv_at hl 4 rfl) ?_
      refine gf_7_8 hx hb htm hown hE hP hw hi1 (htm _ qw_182) dX5_doLineOut_250 ?_
      refine lv_iconst (v := 1) hx hb dX5_doLineOut_253 (by decide) ?_
      refine lv_iadd hx hb dX5_doLineOut_254 ?_
      obtain ⟨e1, e2⟩ := Prod.mk.inj (Option.some.inj hF)
      subst e1
      subst e2
      exact m_iret X hS hP rfl dX5_doLineOut_255
    have hF := ite_F c42 hF
    refine lv_tableOut (tgt := 236) hx hb dX5_doLineOut_40 (by have hc25 := lv_neT c25 (a := 6) rfl; have hc29 := lv_neT c29 (a := 7) rfl; have hc31 := lv_neT c31 (a := 8) rfl; have hc33 := lv_neT c33 (a := 9) rfl; have hc35 := lv_neT c35 (a := 10) rfl; have hc37 := lv_neT c37 (a := 11) rfl; have hc39 := lv_neT c39 (a := 12) rfl; have hc42 := lv_neT c42 (a := 13) rfl; omega) (by decide) ?_
    refine lv_aload_n hx hb dX5_doLineOut_236 rfl (lv_at hl 3 rfl) ?_
    refine lv_aload_n hx hb dX5_doLineOut_237 rfl (lv_at hl 4 rfl) ?_
    refine gf_7_7 hx hb htm hown hE hP hw hi1 (htm _ qw_297) dX5_doLineOut_238 ?_
    refine lv_aload_n hx hb dX5_doLineOut_241 rfl (lv_at hl 4 rfl) ?_
    refine gf_7_0 hx hb htm hown hE hP hw hi1 (htm _ qw_189) dX5_doLineOut_242 ?_
    refine lv_iload_n hx hb dX5_doLineOut_245 rfl (lv_at hl 2 rfl) ?_
    obtain ⟨V44, hc44, hF⟩ := ob_S hF
    refine m_cVv X hS vw_X5_signalTo qw_279 (c_X5_signalTo hw hc44) ⟨rfl, rfl⟩ ⟨Nat.le_of_ble_eq_true rfl, Nat.le_of_ble_eq_true rfl⟩ (rc_0 hE hP hw) hP rfl hl.1 (rest := []) rfl (Nat.le_of_ble_eq_true rfl) dX5_doLineOut_246 (fun H locs hP hS => ?_)
    refine lv_aload_n hx hb dX5_doLineOut_249 rfl (lv_at hl 4 rfl) ?_
    refine gf_7_8 hx hb htm hown hE hP hw hi1 (htm _ qw_182) dX5_doLineOut_250 ?_
    refine lv_iconst (v := 1) hx hb dX5_doLineOut_253 (by decide) ?_
    refine lv_iadd hx hb dX5_doLineOut_254 ?_
    obtain ⟨e1, e2⟩ := Prod.mk.inj (Option.some.inj hF)
    subst e1
    subst e2
    exact m_iret X hS hP rfl dX5_doLineOut_255
