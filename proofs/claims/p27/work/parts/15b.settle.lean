theorem vw_X5_superviseEnd : VW RX5 yX5_superviseEnd cX5_superviseEnd 8 none 1 := ⟨qw_283, qw_284, qw_203, qw_269, ⟨rfl, by decide, by decide, by decide +kernel⟩⟩
theorem vw_X5_settle : VW RX5 yX5_settle cX5_settle 3 none 0 := ⟨qw_287, qw_288, qw_203, qw_285, ⟨rfl, by decide, by decide, by decide +kernel⟩⟩
theorem vw_X5_comesFromOutside : VW RX5 yX5_comesFromOutside cX5_comesFromOutside 3 (some .int) 1 := ⟨qw_449, qw_450, qw_203, qw_289, ⟨rfl, by decide, by decide, by decide +kernel⟩⟩
theorem vw_X5_loadModule : VW RX5 yX5_loadModule cX5_loadModule 5 none 1 := ⟨qw_417, qw_418, qw_203, qw_293, ⟨rfl, by decide, by decide, by decide +kernel⟩⟩
def f_X5_superviseEnd (G V : MT) (i1 : Nat) : Option (MT) :=
  (f_X5_living G V (V 7 i1 4)).bind (fun q1_ => oc q1_ (some V) (fun e1 => if e1 < 24 then ((f_X2_placeOf V e1 (nI i1)).bind (fun q2_ => (f_X3_placeAt G (V 7 e1 3) q2_).bind (fun q3_ => if q3_ = (-1) then (some V) else ((f_X3_hasSpec G (V 7 e1 3)).bind (fun q5_ => if q5_ = 0 then (some V) else (if ¬ (q3_ < 0 ∨ 20 ≤ Int32.toNatClampNeg q3_) then (if G 29 0 (Int32.toNatClampNeg q3_) = 2 then (if ¬ (q2_ < 0 ∨ 4 ≤ Int32.toNatClampNeg q2_) then (some (pt (pt V 9 e1 (Int32.toNatClampNeg q2_) (-1)) 7 e1 14 (((pt V 9 e1 (Int32.toNatClampNeg q2_) (-1)) 7 e1 14) ||| (1 <<< (q2_ &&& 31))))) else none) else (if G 29 0 (Int32.toNatClampNeg q3_) = 1 then (if V 7 i1 6 = 0 then (if ¬ (q2_ < 0 ∨ 4 ≤ Int32.toNatClampNeg q2_) then (some (pt (pt V 9 e1 (Int32.toNatClampNeg q2_) (-1)) 7 e1 14 (((pt V 9 e1 (Int32.toNatClampNeg q2_) (-1)) 7 e1 14) ||| (1 <<< (q2_ &&& 31))))) else none) else ((f_X5_noteRestart G V (nI e1)).bind (fun q25_ => (f_X5_restartsLately G q25_ e1).bind (fun q26_ => if ¬ (q25_ 7 e1 3 < 0 ∨ 5 ≤ Int32.toNatClampNeg (q25_ 7 e1 3)) then (if q26_ ≤ G 24 0 (Int32.toNatClampNeg (q25_ 7 e1 3)) then (if ¬ (q25_ 7 e1 3 < 0 ∨ 5 ≤ Int32.toNatClampNeg (q25_ 7 e1 3)) then (if G 23 0 (Int32.toNatClampNeg (q25_ 7 e1 3)) = 0 then ((f_X5_startPlaces G 7 e1 q2_ (q2_ + 1) 0 q25_).bind (fun q36_ => some q36_)) else (if G 23 0 (Int32.toNatClampNeg (q25_ 7 e1 3)) = 1 then ((f_X5_endChildren G q25_ e1 0 q2_).bind (fun q34_ => (f_X5_startPlaces G 7 e1 0 4 0 q34_).bind (fun q35_ => some q35_))) else ((f_X5_endChildren G q25_ e1 q2_ q2_).bind (fun q32_ => (f_X5_startPlaces G 7 e1 q2_ 4 0 q32_).bind (fun q33_ => some q33_))))) else none) else ((f_X5_end G q25_ e1 5).bind (fun q37_ => some q37_))) else none)))) else ((f_X5_noteRestart G V (nI e1)).bind (fun q11_ => (f_X5_restartsLately G q11_ e1).bind (fun q12_ => if ¬ (q11_ 7 e1 3 < 0 ∨ 5 ≤ Int32.toNatClampNeg (q11_ 7 e1 3)) then (if q12_ ≤ G 24 0 (Int32.toNatClampNeg (q11_ 7 e1 3)) then (if ¬ (q11_ 7 e1 3 < 0 ∨ 5 ≤ Int32.toNatClampNeg (q11_ 7 e1 3)) then (if G 23 0 (Int32.toNatClampNeg (q11_ 7 e1 3)) = 0 then ((f_X5_startPlaces G 7 e1 q2_ (q2_ + 1) 0 q11_).bind (fun q22_ => some q22_)) else (if G 23 0 (Int32.toNatClampNeg (q11_ 7 e1 3)) = 1 then ((f_X5_endChildren G q11_ e1 0 q2_).bind (fun q20_ => (f_X5_startPlaces G 7 e1 0 4 0 q20_).bind (fun q21_ => some q21_))) else ((f_X5_endChildren G q11_ e1 q2_ q2_).bind (fun q18_ => (f_X5_startPlaces G 7 e1 q2_ 4 0 q18_).bind (fun q19_ => some q19_))))) else none) else ((f_X5_end G q11_ e1 5).bind (fun q23_ => some q23_))) else none))))) else none)))))) else none))
def rm_X5_superviseEnd : Room := { frames := 9, cells := 0, slots := 0, locals := 255 }
set_option maxRecDepth 20000 in
set_option maxHeartbeats 4000000 in
theorem c_X5_superviseEnd {l : Launch} {D : va_G} {ad : Nat → Nat → Nat → Nat} {cI cZ cP : ClassId} {A : Nat → Prop} {w : Nat} (hw : w < 2) {G V U : MT} {i1 : Nat} {V' : MT}  (hi1 : i1 < 24) (hF : f_X5_superviseEnd G V i1 = some V') : Met l yX5_superviseEnd (.code yX5_superviseEnd cX5_superviseEnd 8 none :: WM) rm_X5_superviseEnd (PcM D ad cI cZ cP A [.ref (ad w 0 0), .ref (ad w 7 i1)] (Pic D ad cI cZ cP w G V U)) (QcV A (Pic D ad cI cZ cP w G V' U)) 0 0 A := by
  refine m_entry (by decide) (Nat.le_of_ble_eq_true rfl) (fun p e s m below meth c ls X hP hS hl => ?_)
  have X : MX p s m _ meth c cX5_superviseEnd RX5 8 none D ad cI cZ cP A := X
  obtain ⟨hx, hb, hml, hown, htm, hr, hlk, hE⟩ := id X
  have hl : lv_has ls 8 [(0, .ref (ad w 0 0)), (1, .ref (ad w 7 i1))] := hl
  refine lv_aload_n hx hb dX5_superviseEnd_0 rfl (lv_at hl 0 rfl) ?_
  refine lv_aload_n hx hb dX5_superviseEnd_1 rfl (lv_at hl 1 rfl) ?_
  refine gf_7_4 hx hb htm hown hE hP hw hi1 (htm _ qw_178) dX5_superviseEnd_2 ?_
  obtain ⟨r1, hc1, hF⟩ := ob_S hF
  refine m_cVq X hS vw_X5_living qw_217 (c_X5_living hw hc1) ⟨rfl, rfl⟩ ⟨Nat.le_of_ble_eq_true rfl, Nat.le_of_ble_eq_true rfl⟩ (rc_0 hE hP hw) hP rfl hl.1 (rest := []) rfl (Nat.le_of_ble_eq_true rfl) dX5_superviseEnd_5 (fun H locs hP hS => ?_)
  rcases r1 with _ | e1
  · have hF := oc_N hF
    refine lv_astore_nN (lv' := [(2, .null), (0, .ref (ad w 0 0)), (1, .ref (ad w 7 i1))]) hx hb dX5_superviseEnd_8 rfl hl (by decide) rfl (fun ls hl => ?_)
    refine lv_aload_nN hx hb dX5_superviseEnd_9 rfl (lv_at hl 0 rfl) ?_
    refine lv_ifnonnullN hx hb dX5_superviseEnd_10 ?_
    refine lv_iconst (v := (-1)) hx hb dX5_superviseEnd_13 (by decide) ?_
    refine lv_goto (tgt := 25) hx hb dX5_superviseEnd_14 (by decide) ?_
    refine lv_istore_n (lv' := [(3, .int (-1)), (2, .null), (0, .ref (ad w 0 0)), (1, .ref (ad w 7 i1))]) hx hb dX5_superviseEnd_25 rfl hl (by decide) rfl (fun ls hl => ?_)
    refine lv_aload_nN hx hb dX5_superviseEnd_26 rfl (lv_at hl 1 rfl) ?_
    refine lv_ifnonnullN hx hb dX5_superviseEnd_27 ?_
    refine lv_iconst (v := (-1)) hx hb dX5_superviseEnd_30 (by decide) ?_
    refine lv_goto (tgt := 46) hx hb dX5_superviseEnd_31 (by decide) ?_
    refine lv_istore (lv' := [(4, .int (-1)), (3, .int (-1)), (2, .null), (0, .ref (ad w 0 0)), (1, .ref (ad w 7 i1))]) hx hb dX5_superviseEnd_46 hl (by decide) rfl (fun ls hl => ?_)
    refine lv_aload_nN hx hb dX5_superviseEnd_48 rfl (lv_at hl 2 rfl) ?_
    refine lv_ifnullN (tgt := 72) hx hb dX5_superviseEnd_49 (by decide) ?_
    have e1 := Option.some.inj hF
    subst e1
    exact m_vret X hS hP dX5_superviseEnd_72
  · obtain ⟨he1, hF⟩ := ite_S (oc_J hF)
    refine lv_astore_n (lv' := [(2, .ref (ad w 7 e1)), (0, .ref (ad w 0 0)), (1, .ref (ad w 7 i1))]) hx hb dX5_superviseEnd_8 rfl hl (by decide) rfl (fun ls hl => ?_)
    refine lv_aload_n hx hb dX5_superviseEnd_9 rfl (lv_at hl 0 rfl) ?_
    refine lv_ifnonnull (tgt := 17) hx hb dX5_superviseEnd_10 (by decide) ?_
    refine lv_aload_n hx hb dX5_superviseEnd_17 rfl (lv_at hl 0 rfl) ?_
    refine lv_aload_n hx hb dX5_superviseEnd_18 rfl (lv_at hl 2 rfl) ?_
    refine gf_7_0 hx hb htm hown hE hP hw hi1 (htm _ qw_189) dX5_superviseEnd_19 ?_
    obtain ⟨r2, hc2, hF⟩ := ob_S hF
    refine m_cVi X hS vw_X2_placeOf qw_257 (c_X2_placeOf hw he1 hc2) ⟨rfl, rfl⟩ ⟨Nat.le_of_ble_eq_true rfl, Nat.le_of_ble_eq_true rfl⟩ (rc_7 hE hP hw he1) hP rfl hl.1 (rest := []) rfl (Nat.le_of_ble_eq_true rfl) dX5_superviseEnd_22 (fun H locs hP hS => ?_)
    refine lv_istore_n (lv' := [(3, .int r2), (2, .ref (ad w 7 e1)), (0, .ref (ad w 0 0)), (1, .ref (ad w 7 i1))]) hx hb dX5_superviseEnd_25 rfl hl (by decide) rfl (fun ls hl => ?_)
    refine lv_aload_n hx hb dX5_superviseEnd_26 rfl (lv_at hl 1 rfl) ?_
    refine lv_ifnonnull (tgt := 34) hx hb dX5_superviseEnd_27 (by decide) ?_
    refine lv_aload_n hx hb dX5_superviseEnd_34 rfl (lv_at hl 2 rfl) ?_
    refine gf_0_1 hx hb htm hown hE hP hw (htm _ qw_148) dX5_superviseEnd_35 ?_
    refine lv_aload_n hx hb dX5_superviseEnd_38 rfl (lv_at hl 1 rfl) ?_
    refine gf_7_3 hx hb htm hown hE hP hw he1 (htm _ qw_181) dX5_superviseEnd_39 ?_
    refine lv_iload_n hx hb dX5_superviseEnd_42 rfl (lv_at hl 0 rfl) ?_
    obtain ⟨r3, hc3, hF⟩ := ob_S hF
    refine m_cVi X hS vw_X3_placeAt qw_194 (c_X3_placeAt hw hc3) ⟨rfl, rfl⟩ ⟨Nat.le_of_ble_eq_true rfl, Nat.le_of_ble_eq_true rfl⟩ (rc_22 hE hP) hP rfl hl.1 (rest := []) rfl (Nat.le_of_ble_eq_true rfl) dX5_superviseEnd_43 (fun H locs hP hS => ?_)
    refine lv_istore (lv' := [(4, .int r3), (3, .int r2), (2, .ref (ad w 7 e1)), (0, .ref (ad w 0 0)), (1, .ref (ad w 7 i1))]) hx hb dX5_superviseEnd_46 hl (by decide) rfl (fun ls hl => ?_)
    refine lv_aload_n hx hb dX5_superviseEnd_48 rfl (lv_at hl 2 rfl) ?_
    refine lv_ifnull hx hb dX5_superviseEnd_49 ?_
    refine lv_iload hx hb dX5_superviseEnd_52 (lv_at hl 0 rfl) ?_
    refine lv_iconst (v := (-1)) hx hb dX5_superviseEnd_54 (by decide) ?_
    refine lv_icmp_eq (tgt := 72) hx hb dX5_superviseEnd_55 (by decide) (fun c4 => ?_) (fun c4 => ?_)
    · have hF := ite_T c4 hF
      have e1 := Option.some.inj hF
      subst e1
      exact m_vret X hS hP dX5_superviseEnd_72
    · have hF := ite_F c4 hF
      refine lv_aload_n hx hb dX5_superviseEnd_58 rfl (lv_at hl 3 rfl) ?_
      refine gf_0_1 hx hb htm hown hE hP hw (htm _ qw_148) dX5_superviseEnd_59 ?_
      refine lv_aload_n hx hb dX5_superviseEnd_62 rfl (lv_at hl 2 rfl) ?_
      refine gf_7_3 hx hb htm hown hE hP hw he1 (htm _ qw_181) dX5_superviseEnd_63 ?_
      obtain ⟨r5, hc5, hF⟩ := ob_S hF
      refine m_cVi X hS vw_X3_hasSpec qw_248 (c_X3_hasSpec hw hc5) ⟨rfl, rfl⟩ ⟨Nat.le_of_ble_eq_true rfl, Nat.le_of_ble_eq_true rfl⟩ (rc_22 hE hP) hP rfl hl.1 (rest := []) rfl (Nat.le_of_ble_eq_true rfl) dX5_superviseEnd_66 (fun H locs hP hS => ?_)
      refine lv_if_ne (tgt := 73) hx hb dX5_superviseEnd_69 (by decide) (fun c6 => ?_) (fun c6 => ?_)
      · have hF := ite_F c6 hF
        refine lv_aload_n hx hb dX5_superviseEnd_73 rfl (lv_at hl 3 rfl) ?_
        refine gf_0_1 hx hb htm hown hE hP hw (htm _ qw_148) dX5_superviseEnd_74 ?_
        refine gf_22_7 hx hb htm hown hE hP (htm _ qw_253) dX5_superviseEnd_77 ?_
        refine lv_iload hx hb dX5_superviseEnd_80 (lv_at hl 0 rfl) ?_
        obtain ⟨hn7, hF⟩ := ite_S hF
        refine al_29 hx hb htm hown hE hP hn7 dX5_superviseEnd_82 ?_
        refine lv_istore (lv' := [(5, .int (G 29 0 (Int32.toNatClampNeg r3))), (4, .int r3), (3, .int r2), (2, .ref (ad w 7 e1)), (0, .ref (ad w 0 0)), (1, .ref (ad w 7 i1))]) hx hb dX5_superviseEnd_83 hl (by decide) rfl (fun ls hl => ?_)
        refine lv_iload hx hb dX5_superviseEnd_85 (lv_at hl 0 rfl) ?_
        refine lv_iconst (v := 2) hx hb dX5_superviseEnd_87 (by decide) ?_
        refine lv_icmp_eq (tgt := 104) hx hb dX5_superviseEnd_88 (by decide) (fun c8 => ?_) (fun c8 => ?_)
        · have hF := ite_T c8 hF
          refine lv_aload_n hx hb dX5_superviseEnd_104 rfl (lv_at hl 3 rfl) ?_
          refine gf_7_16 hx hb htm hown hE hP hw he1 (htm _ qw_193) dX5_superviseEnd_105 ?_
          refine lv_iload_n hx hb dX5_superviseEnd_108 rfl (lv_at hl 2 rfl) ?_
          refine lv_iconst (v := (-1)) hx hb dX5_superviseEnd_109 (by decide) ?_
          obtain ⟨hn9, hF⟩ := ite_S hF
          refine as_9 hx hb htm hown hE hP hS hw he1 hn9 dX5_superviseEnd_110 (fun H locs hP hS => ?_)
          refine lv_aload_n hx hb dX5_superviseEnd_111 rfl (lv_at hl 3 rfl) ?_
          refine lv_dup hx hb dX5_superviseEnd_112 rfl ?_
          refine gf_7_14 hx hb htm hown hE hP hw he1 (htm _ qw_254) dX5_superviseEnd_113 ?_
          refine lv_iconst (v := 1) hx hb dX5_superviseEnd_116 (by decide) ?_
          refine lv_iload_n hx hb dX5_superviseEnd_117 rfl (lv_at hl 2 rfl) ?_
          refine lv_ishl hx hb dX5_superviseEnd_118 ?_
          refine lv_ior hx hb dX5_superviseEnd_119 ?_
          refine pf_7_14 hx hb htm hown hE hP hS hw he1 (htm _ qw_254) dX5_superviseEnd_120 (fun H locs hP hS => ?_)
          have e1 := Option.some.inj hF
          subst e1
          exact m_vret X hS hP dX5_superviseEnd_123
        · have hF := ite_F c8 hF
          refine lv_iload hx hb dX5_superviseEnd_91 (lv_at hl 0 rfl) ?_
          refine lv_iconst (v := 1) hx hb dX5_superviseEnd_93 (by decide) ?_
          refine lv_icmp_ne (tgt := 124) hx hb dX5_superviseEnd_94 (by decide) (fun c10 => ?_) (fun c10 => ?_)
          · have hF := ite_F c10 hF
            refine lv_aload_n hx hb dX5_superviseEnd_124 rfl (lv_at hl 4 rfl) ?_
            refine lv_aload_n hx hb dX5_superviseEnd_125 rfl (lv_at hl 3 rfl) ?_
            refine gf_7_0 hx hb htm hown hE hP hw he1 (htm _ qw_189) dX5_superviseEnd_126 ?_
            obtain ⟨V11, hc11, hF⟩ := ob_S hF
            refine m_cVv X hS vw_X5_noteRestart qw_260 (c_X5_noteRestart hw hc11) ⟨rfl, rfl⟩ ⟨Nat.le_of_ble_eq_true rfl, Nat.le_of_ble_eq_true rfl⟩ (rc_0 hE hP hw) hP rfl hl.1 (rest := []) rfl (Nat.le_of_ble_eq_true rfl) dX5_superviseEnd_129 (fun H locs hP hS => ?_)
            refine lv_aload_n hx hb dX5_superviseEnd_132 rfl (lv_at hl 4 rfl) ?_
            refine lv_aload_n hx hb dX5_superviseEnd_133 rfl (lv_at hl 3 rfl) ?_
            obtain ⟨r12, hc12, hF⟩ := ob_S hF
            refine m_cVi X hS vw_X5_restartsLately qw_263 (c_X5_restartsLately hw he1 hc12) ⟨rfl, rfl⟩ ⟨Nat.le_of_ble_eq_true rfl, Nat.le_of_ble_eq_true rfl⟩ (rc_0 hE hP hw) hP rfl hl.1 (rest := []) rfl (Nat.le_of_ble_eq_true rfl) dX5_superviseEnd_134 (fun H locs hP hS => ?_)
            refine lv_aload_n hx hb dX5_superviseEnd_137 rfl (lv_at hl 4 rfl) ?_
            refine gf_0_1 hx hb htm hown hE hP hw (htm _ qw_148) dX5_superviseEnd_138 ?_
            refine gf_22_2 hx hb htm hown hE hP (htm _ qw_255) dX5_superviseEnd_141 ?_
            refine lv_aload_n hx hb dX5_superviseEnd_144 rfl (lv_at hl 3 rfl) ?_
            refine gf_7_3 hx hb htm hown hE hP hw he1 (htm _ qw_181) dX5_superviseEnd_145 ?_
            obtain ⟨hn13, hF⟩ := ite_S hF
            refine al_24 hx hb htm hown hE hP hn13 dX5_superviseEnd_148 ?_
            refine lv_icmp_le (tgt := 159) hx hb dX5_superviseEnd_149 (by decide) (fun c14 => ?_) (fun c14 => ?_)
            · have hF := ite_T c14 hF
              refine lv_aload_n hx hb dX5_superviseEnd_159 rfl (lv_at hl 4 rfl) ?_
              refine gf_0_1 hx hb htm hown hE hP hw (htm _ qw_148) dX5_superviseEnd_160 ?_
              refine gf_22_1 hx hb htm hown hE hP (htm _ qw_256) dX5_superviseEnd_163 ?_
              refine lv_aload_n hx hb dX5_superviseEnd_166 rfl (lv_at hl 3 rfl) ?_
              refine gf_7_3 hx hb htm hown hE hP hw he1 (htm _ qw_181) dX5_superviseEnd_167 ?_
              obtain ⟨hn15, hF⟩ := ite_S hF
              refine al_23 hx hb htm hown hE hP hn15 dX5_superviseEnd_170 ?_
              refine lv_istore (lv' := [(6, .int (G 23 0 (Int32.toNatClampNeg (V11 7 e1 3)))), (5, .int (G 29 0 (Int32.toNatClampNeg r3))), (4, .int r3), (3, .int r2), (2, .ref (ad w 7 e1)), (0, .ref (ad w 0 0)), (1, .ref (ad w 7 i1))]) hx hb dX5_superviseEnd_171 hl (by decide) rfl (fun ls hl => ?_)
              refine lv_iload hx hb dX5_superviseEnd_173 (lv_at hl 0 rfl) ?_
              refine lv_if_ne (tgt := 189) hx hb dX5_superviseEnd_175 (by decide) (fun c16 => ?_) (fun c16 => ?_)
              · have hF := ite_F c16 hF
                refine lv_iload hx hb dX5_superviseEnd_189 (lv_at hl 0 rfl) ?_
                refine lv_iconst (v := 1) hx hb dX5_superviseEnd_191 (by decide) ?_
                refine lv_icmp_ne (tgt := 199) hx hb dX5_superviseEnd_192 (by decide) (fun c17 => ?_) (fun c17 => ?_)
                · have hF := ite_F c17 hF
                  refine lv_iload_n hx hb dX5_superviseEnd_199 rfl (lv_at hl 3 rfl) ?_
                  refine lv_istore (lv' := [(7, .int r2), (6, .int (G 23 0 (Int32.toNatClampNeg (V11 7 e1 3)))), (5, .int (G 29 0 (Int32.toNatClampNeg r3))), (4, .int r3), (3, .int r2), (2, .ref (ad w 7 e1)), (0, .ref (ad w 0 0)), (1, .ref (ad w 7 i1))]) hx hb dX5_superviseEnd_200 hl (by decide) rfl (fun ls hl => ?_)
                  refine lv_aload_n hx hb dX5_superviseEnd_202 rfl (lv_at hl 6 rfl) ?_
                  refine lv_aload_n hx hb dX5_superviseEnd_203 rfl (lv_at hl 5 rfl) ?_
                  refine lv_iload hx hb dX5_superviseEnd_204 (lv_at hl 0 rfl) ?_
                  refine lv_iload_n hx hb dX5_superviseEnd_206 rfl (lv_at hl 4 rfl) ?_
                  obtain ⟨V18, hc18, hF⟩ := ob_S hF
                  refine m_cVv X hS vw_X5_endChildren qw_266 (c_X5_endChildren hw he1 hc18) ⟨rfl, rfl⟩ ⟨Nat.le_of_ble_eq_true rfl, Nat.le_of_ble_eq_true rfl⟩ (rc_0 hE hP hw) hP rfl hl.1 (rest := []) rfl (Nat.le_of_ble_eq_true rfl) dX5_superviseEnd_207 (fun H locs hP hS => ?_)
                  refine lv_aload_n hx hb dX5_superviseEnd_210 rfl (lv_at hl 6 rfl) ?_
                  refine lv_aload_n hx hb dX5_superviseEnd_211 rfl (lv_at hl 5 rfl) ?_
                  refine lv_iload hx hb dX5_superviseEnd_212 (lv_at hl 0 rfl) ?_
                  refine lv_iconst (v := 4) hx hb dX5_superviseEnd_214 (by decide) ?_
                  refine lv_iconst (v := 0) hx hb dX5_superviseEnd_215 (by decide) ?_
                  obtain ⟨V19, hc19, hF⟩ := ob_S hF
                  refine m_cSv X hS sw_X5_startPlaces qw_210 (c_X5_startPlaces hw 7 he1 hc19) ⟨rfl, rfl⟩ ⟨Nat.le_of_ble_eq_true rfl, Nat.le_of_ble_eq_true rfl⟩ hP rfl hl.1 (rest := []) rfl (Nat.le_of_ble_eq_true rfl) dX5_superviseEnd_216 (fun H locs hP hS => ?_)
                  have e1 := Option.some.inj hF
                  subst e1
                  exact m_vret X hS hP dX5_superviseEnd_219
                · have hF := ite_T c17 hF
                  refine lv_iconst (v := 0) hx hb dX5_superviseEnd_195 (by decide) ?_
                  refine lv_goto (tgt := 200) hx hb dX5_superviseEnd_196 (by decide) ?_
                  refine lv_istore (lv' := [(7, .int 0), (6, .int (G 23 0 (Int32.toNatClampNeg (V11 7 e1 3)))), (5, .int (G 29 0 (Int32.toNatClampNeg r3))), (4, .int r3), (3, .int r2), (2, .ref (ad w 7 e1)), (0, .ref (ad w 0 0)), (1, .ref (ad w 7 i1))]) hx hb dX5_superviseEnd_200 hl (by decide) rfl (fun ls hl => ?_)
                  refine lv_aload_n hx hb dX5_superviseEnd_202 rfl (lv_at hl 6 rfl) ?_
                  refine lv_aload_n hx hb dX5_superviseEnd_203 rfl (lv_at hl 5 rfl) ?_
                  refine lv_iload hx hb dX5_superviseEnd_204 (lv_at hl 0 rfl) ?_
                  refine lv_iload_n hx hb dX5_superviseEnd_206 rfl (lv_at hl 4 rfl) ?_
                  obtain ⟨V20, hc20, hF⟩ := ob_S hF
                  refine m_cVv X hS vw_X5_endChildren qw_266 (c_X5_endChildren hw he1 hc20) ⟨rfl, rfl⟩ ⟨Nat.le_of_ble_eq_true rfl, Nat.le_of_ble_eq_true rfl⟩ (rc_0 hE hP hw) hP rfl hl.1 (rest := []) rfl (Nat.le_of_ble_eq_true rfl) dX5_superviseEnd_207 (fun H locs hP hS => ?_)
                  refine lv_aload_n hx hb dX5_superviseEnd_210 rfl (lv_at hl 6 rfl) ?_
                  refine lv_aload_n hx hb dX5_superviseEnd_211 rfl (lv_at hl 5 rfl) ?_
                  refine lv_iload hx hb dX5_superviseEnd_212 (lv_at hl 0 rfl) ?_
                  refine lv_iconst (v := 4) hx hb dX5_superviseEnd_214 (by decide) ?_
                  refine lv_iconst (v := 0) hx hb dX5_superviseEnd_215 (by decide) ?_
                  obtain ⟨V21, hc21, hF⟩ := ob_S hF
                  refine m_cSv X hS sw_X5_startPlaces qw_210 (c_X5_startPlaces hw 7 he1 hc21) ⟨rfl, rfl⟩ ⟨Nat.le_of_ble_eq_true rfl, Nat.le_of_ble_eq_true rfl⟩ hP rfl hl.1 (rest := []) rfl (Nat.le_of_ble_eq_true rfl) dX5_superviseEnd_216 (fun H locs hP hS => ?_)
                  have e1 := Option.some.inj hF
                  subst e1
                  exact m_vret X hS hP dX5_superviseEnd_219
              · have hF := ite_T c16 hF
                refine lv_aload_n hx hb dX5_superviseEnd_178 rfl (lv_at hl 5 rfl) ?_
                refine lv_aload_n hx hb dX5_superviseEnd_179 rfl (lv_at hl 4 rfl) ?_
                refine lv_iload_n hx hb dX5_superviseEnd_180 rfl (lv_at hl 3 rfl) ?_
                refine lv_iload_n hx hb dX5_superviseEnd_181 rfl (lv_at hl 3 rfl) ?_
                refine lv_iconst (v := 1) hx hb dX5_superviseEnd_182 (by decide) ?_
                refine lv_iadd hx hb dX5_superviseEnd_183 ?_
                refine lv_iconst (v := 0) hx hb dX5_superviseEnd_184 (by decide) ?_
                obtain ⟨V22, hc22, hF⟩ := ob_S hF
                refine m_cSv X hS sw_X5_startPlaces qw_210 (c_X5_startPlaces hw 7 he1 hc22) ⟨rfl, rfl⟩ ⟨Nat.le_of_ble_eq_true rfl, Nat.le_of_ble_eq_true rfl⟩ hP rfl hl.1 (rest := []) rfl (Nat.le_of_ble_eq_true rfl) dX5_superviseEnd_185 (fun H locs hP hS => ?_)
                have e1 := Option.some.inj hF
                subst e1
                exact m_vret X hS hP dX5_superviseEnd_188
            · have hF := ite_F c14 hF
              refine lv_aload_n hx hb dX5_superviseEnd_152 rfl (lv_at hl 4 rfl) ?_
              refine lv_aload_n hx hb dX5_superviseEnd_153 rfl (lv_at hl 3 rfl) ?_
              refine lv_iconst (v := 5) hx hb dX5_superviseEnd_154 (by decide) ?_
              obtain ⟨V23, hc23, hF⟩ := ob_S hF
              refine m_cVv X hS vw_X5_end qw_207 (c_X5_end hw he1 hc23) ⟨rfl, rfl⟩ ⟨Nat.le_of_ble_eq_true rfl, Nat.le_of_ble_eq_true rfl⟩ (rc_0 hE hP hw) hP rfl hl.1 (rest := []) rfl (Nat.le_of_ble_eq_true rfl) dX5_superviseEnd_155 (fun H locs hP hS => ?_)
              have e1 := Option.some.inj hF
              subst e1
              exact m_vret X hS hP dX5_superviseEnd_158
          · have hF := ite_T c10 hF
            refine lv_aload_n hx hb dX5_superviseEnd_97 rfl (lv_at hl 5 rfl) ?_
            refine gf_7_6 hx hb htm hown hE hP hw hi1 (htm _ qw_186) dX5_superviseEnd_98 ?_
            refine lv_if_ne (tgt := 124) hx hb dX5_superviseEnd_101 (by decide) (fun c24 => ?_) (fun c24 => ?_)
            · have hF := ite_F c24 hF
              refine lv_aload_n hx hb dX5_superviseEnd_124 rfl (lv_at hl 4 rfl) ?_
              refine lv_aload_n hx hb dX5_superviseEnd_125 rfl (lv_at hl 3 rfl) ?_
              refine gf_7_0 hx hb htm hown hE hP hw he1 (htm _ qw_189) dX5_superviseEnd_126 ?_
              obtain ⟨V25, hc25, hF⟩ := ob_S hF
              refine m_cVv X hS vw_X5_noteRestart qw_260 (c_X5_noteRestart hw hc25) ⟨rfl, rfl⟩ ⟨Nat.le_of_ble_eq_true rfl, Nat.le_of_ble_eq_true rfl⟩ (rc_0 hE hP hw) hP rfl hl.1 (rest := []) rfl (Nat.le_of_ble_eq_true rfl) dX5_superviseEnd_129 (fun H locs hP hS => ?_)
              refine lv_aload_n hx hb dX5_superviseEnd_132 rfl (lv_at hl 4 rfl) ?_
              refine lv_aload_n hx hb dX5_superviseEnd_133 rfl (lv_at hl 3 rfl) ?_
              obtain ⟨r26, hc26, hF⟩ := ob_S hF
              refine m_cVi X hS vw_X5_restartsLately qw_263 (c_X5_restartsLately hw he1 hc26) ⟨rfl, rfl⟩ ⟨Nat.le_of_ble_eq_true rfl, Nat.le_of_ble_eq_true rfl⟩ (rc_0 hE hP hw) hP rfl hl.1 (rest := []) rfl (Nat.le_of_ble_eq_true rfl) dX5_superviseEnd_134 (fun H locs hP hS => ?_)
              refine lv_aload_n hx hb dX5_superviseEnd_137 rfl (lv_at hl 4 rfl) ?_
              refine gf_0_1 hx hb htm hown hE hP hw (htm _ qw_148) dX5_superviseEnd_138 ?_
              refine gf_22_2 hx hb htm hown hE hP (htm _ qw_255) dX5_superviseEnd_141 ?_
              refine lv_aload_n hx hb dX5_superviseEnd_144 rfl (lv_at hl 3 rfl) ?_
              refine gf_7_3 hx hb htm hown hE hP hw he1 (htm _ qw_181) dX5_superviseEnd_145 ?_
              obtain ⟨hn27, hF⟩ := ite_S hF
              refine al_24 hx hb htm hown hE hP hn27 dX5_superviseEnd_148 ?_
              refine lv_icmp_le (tgt := 159) hx hb dX5_superviseEnd_149 (by decide) (fun c28 => ?_) (fun c28 => ?_)
              · have hF := ite_T c28 hF
                refine lv_aload_n hx hb dX5_superviseEnd_159 rfl (lv_at hl 4 rfl) ?_
                refine gf_0_1 hx hb htm hown hE hP hw (htm _ qw_148) dX5_superviseEnd_160 ?_
                refine gf_22_1 hx hb htm hown hE hP (htm _ qw_256) dX5_superviseEnd_163 ?_
                refine lv_aload_n hx hb dX5_superviseEnd_166 rfl (lv_at hl 3 rfl) ?_
                refine gf_7_3 hx hb htm hown hE hP hw he1 (htm _ qw_181) dX5_superviseEnd_167 ?_
                obtain ⟨hn29, hF⟩ := ite_S hF
                refine al_23 hx hb htm hown hE hP hn29 dX5_superviseEnd_170 ?_
                refine lv_istore (lv' := [(6, .int (G 23 0 (Int32.toNatClampNeg (V25 7 e1 3)))), (5, .int (G 29 0 (Int32.toNatClampNeg r3))), (4, .int r3), (3, .int r2), (2, .ref (ad w 7 e1)), (0, .ref (ad w 0 0)), (1, .ref (ad w 7 i1))]) hx hb dX5_superviseEnd_171 hl (by decide) rfl (fun ls hl => ?_)
                refine lv_iload hx hb dX5_superviseEnd_173 (lv_at hl 0 rfl) ?_
                refine lv_if_ne (tgt := 189) hx hb dX5_superviseEnd_175 (by decide) (fun c30 => ?_) (fun c30 => ?_)
                · have hF := ite_F c30 hF
                  refine lv_iload hx hb dX5_superviseEnd_189 (lv_at hl 0 rfl) ?_
                  refine lv_iconst (v := 1) hx hb dX5_superviseEnd_191 (by decide) ?_
                  refine lv_icmp_ne (tgt := 199) hx hb dX5_superviseEnd_192 (by decide) (fun c31 => ?_) (fun c31 => ?_)
                  · have hF := ite_F c31 hF
                    refine lv_iload_n hx hb dX5_superviseEnd_199 rfl (lv_at hl 3 rfl) ?_
                    refine lv_istore (lv' := [(7, .int r2), (6, .int (G 23 0 (Int32.toNatClampNeg (V25 7 e1 3)))), (5, .int (G 29 0 (Int32.toNatClampNeg r3))), (4, .int r3), (3, .int r2), (2, .ref (ad w 7 e1)), (0, .ref (ad w 0 0)), (1, .ref (ad w 7 i1))]) hx hb dX5_superviseEnd_200 hl (by decide) rfl (fun ls hl => ?_)
                    refine lv_aload_n hx hb dX5_superviseEnd_202 rfl (lv_at hl 6 rfl) ?_
                    refine lv_aload_n hx hb dX5_superviseEnd_203 rfl (lv_at hl 5 rfl) ?_
                    refine lv_iload hx hb dX5_superviseEnd_204 (lv_at hl 0 rfl) ?_
                    refine lv_iload_n hx hb dX5_superviseEnd_206 rfl (lv_at hl 4 rfl) ?_
                    obtain ⟨V32, hc32, hF⟩ := ob_S hF
                    refine m_cVv X hS vw_X5_endChildren qw_266 (c_X5_endChildren hw he1 hc32) ⟨rfl, rfl⟩ ⟨Nat.le_of_ble_eq_true rfl, Nat.le_of_ble_eq_true rfl⟩ (rc_0 hE hP hw) hP rfl hl.1 (rest := []) rfl (Nat.le_of_ble_eq_true rfl) dX5_superviseEnd_207 (fun H locs hP hS => ?_)
                    refine lv_aload_n hx hb dX5_superviseEnd_210 rfl (lv_at hl 6 rfl) ?_
                    refine lv_aload_n hx hb dX5_superviseEnd_211 rfl (lv_at hl 5 rfl) ?_
                    refine lv_iload hx hb dX5_superviseEnd_212 (lv_at hl 0 rfl) ?_
                    refine lv_iconst (v := 4) hx hb dX5_superviseEnd_214 (by decide) ?_
                    refine lv_iconst (v := 0) hx hb dX5_superviseEnd_215 (by decide) ?_
                    obtain ⟨V33, hc33, hF⟩ := ob_S hF
                    refine m_cSv X hS sw_X5_startPlaces qw_210 (c_X5_startPlaces hw 7 he1 hc33) ⟨rfl, rfl⟩ ⟨Nat.le_of_ble_eq_true rfl, Nat.le_of_ble_eq_true rfl⟩ hP rfl hl.1 (rest := []) rfl (Nat.le_of_ble_eq_true rfl) dX5_superviseEnd_216 (fun H locs hP hS => ?_)
                    have e1 := Option.some.inj hF
                    subst e1
                    exact m_vret X hS hP dX5_superviseEnd_219
                  · have hF := ite_T c31 hF
                    refine lv_iconst (v := 0) hx hb dX5_superviseEnd_195 (by decide) ?_
                    refine lv_goto (tgt := 200) hx hb dX5_superviseEnd_196 (by decide) ?_
                    refine lv_istore (lv' := [(7, .int 0), (6, .int (G 23 0 (Int32.toNatClampNeg (V25 7 e1 3)))), (5, .int (G 29 0 (Int32.toNatClampNeg r3))), (4, .int r3), (3, .int r2), (2, .ref (ad w 7 e1)), (0, .ref (ad w 0 0)), (1, .ref (ad w 7 i1))]) hx hb dX5_superviseEnd_200 hl (by decide) rfl (fun ls hl => ?_)
                    refine lv_aload_n hx hb dX5_superviseEnd_202 rfl (lv_at hl 6 rfl) ?_
                    refine lv_aload_n hx hb dX5_superviseEnd_203 rfl (lv_at hl 5 rfl) ?_
                    refine lv_iload hx hb dX5_superviseEnd_204 (lv_at hl 0 rfl) ?_
                    refine lv_iload_n hx hb dX5_superviseEnd_206 rfl (lv_at hl 4 rfl) ?_
                    obtain ⟨V34, hc34, hF⟩ := ob_S hF
                    refine m_cVv X hS vw_X5_endChildren qw_266 (c_X5_endChildren hw he1 hc34) ⟨rfl, rfl⟩ ⟨Nat.le_of_ble_eq_true rfl, Nat.le_of_ble_eq_true rfl⟩ (rc_0 hE hP hw) hP rfl hl.1 (rest := []) rfl (Nat.le_of_ble_eq_true rfl) dX5_superviseEnd_207 (fun H locs hP hS => ?_)
                    refine lv_aload_n hx hb dX5_superviseEnd_210 rfl (lv_at hl 6 rfl) ?_
                    refine lv_aload_n hx hb dX5_superviseEnd_211 rfl (lv_at hl 5 rfl) ?_
                    refine lv_iload hx hb dX5_superviseEnd_212 (lv_at hl 0 rfl) ?_
                    refine lv_iconst (v := 4) hx hb dX5_superviseEnd_214 (by decide) ?_
                    refine lv_iconst (v := 0) hx hb dX5_superviseEnd_215 (by decide) ?_
                    obtain ⟨V35, hc35, hF⟩ := ob_S hF
                    refine m_cSv X hS sw_X5_startPlaces qw_210 (c_X5_startPlaces hw 7 he1 hc35) ⟨rfl, rfl⟩ ⟨Nat.le_of_ble_eq_true rfl, Nat.le_of_ble_eq_true rfl⟩ hP rfl hl.1 (rest := []) rfl (Nat.le_of_ble_eq_true rfl) dX5_superviseEnd_216 (fun H locs hP hS => ?_)
                    have e1 := Option.some.inj hF
                    subst e1
                    exact m_vret X hS hP dX5_superviseEnd_219
                · have hF := ite_T c30 hF
                  refine lv_aload_n hx hb dX5_superviseEnd_178 rfl (lv_at hl 5 rfl) ?_
                  refine lv_aload_n hx hb dX5_superviseEnd_179 rfl (lv_at hl 4 rfl) ?_
                  refine lv_iload_n hx hb dX5_superviseEnd_180 rfl (lv_at hl 3 rfl) ?_
                  refine lv_iload_n hx hb dX5_superviseEnd_181 rfl (lv_at hl 3 rfl) ?_
                  refine lv_iconst (v := 1) hx hb dX5_superviseEnd_182 (by decide) ?_
                  refine lv_iadd hx hb dX5_superviseEnd_183 ?_
                  refine lv_iconst (v := 0) hx hb dX5_superviseEnd_184 (by decide) ?_
                  obtain ⟨V36, hc36, hF⟩ := ob_S hF
                  refine m_cSv X hS sw_X5_startPlaces qw_210 (c_X5_startPlaces hw 7 he1 hc36) ⟨rfl, rfl⟩ ⟨Nat.le_of_ble_eq_true rfl, Nat.le_of_ble_eq_true rfl⟩ hP rfl hl.1 (rest := []) rfl (Nat.le_of_ble_eq_true rfl) dX5_superviseEnd_185 (fun H locs hP hS => ?_)
                  have e1 := Option.some.inj hF
                  subst e1
                  exact m_vret X hS hP dX5_superviseEnd_188
              · have hF := ite_F c28 hF
                refine lv_aload_n hx hb dX5_superviseEnd_152 rfl (lv_at hl 4 rfl) ?_
                refine lv_aload_n hx hb dX5_superviseEnd_153 rfl (lv_at hl 3 rfl) ?_
                refine lv_iconst (v := 5) hx hb dX5_superviseEnd_154 (by decide) ?_
                obtain ⟨V37, hc37, hF⟩ := ob_S hF
                refine m_cVv X hS vw_X5_end qw_207 (c_X5_end hw he1 hc37) ⟨rfl, rfl⟩ ⟨Nat.le_of_ble_eq_true rfl, Nat.le_of_ble_eq_true rfl⟩ (rc_0 hE hP hw) hP rfl hl.1 (rest := []) rfl (Nat.le_of_ble_eq_true rfl) dX5_superviseEnd_155 (fun H locs hP hS => ?_)
                have e1 := Option.some.inj hF
                subst e1
                exact m_vret X hS hP dX5_superviseEnd_158
            · have hF := ite_T c24 hF
              refine lv_aload_n hx hb dX5_superviseEnd_104 rfl (lv_at hl 3 rfl) ?_
              refine gf_7_16 hx hb htm hown hE hP hw he1 (htm _ qw_193) dX5_superviseEnd_105 ?_
              refine lv_iload_n hx hb dX5_superviseEnd_108 rfl (lv_at hl 2 rfl) ?_
              refine lv_iconst (v := (-1)) hx hb dX5_superviseEnd_109 (by decide) ?_
              obtain ⟨hn38, hF⟩ := ite_S hF
              refine as_9 hx hb htm hown hE hP hS hw he1 hn38 dX5_superviseEnd_110 (fun H locs hP hS => ?_)
              refine lv_aload_n hx hb dX5_superviseEnd_111 rfl (lv_at hl 3 rfl) ?_
              refine lv_dup hx hb dX5_superviseEnd_112 rfl ?_
              refine gf_7_14 hx hb htm hown hE hP hw he1 (htm _ qw_254) dX5_superviseEnd_113 ?_
              refine lv_iconst (v := 1) hx hb dX5_superviseEnd_116 (by decide) ?_
              refine lv_iload_n hx hb dX5_superviseEnd_117 rfl (lv_at hl 2 rfl) ?_
              refine lv_ishl hx hb dX5_superviseEnd_118 ?_
              refine lv_ior hx hb dX5_superviseEnd_119 ?_
              refine pf_7_14 hx hb htm hown hE hP hS hw he1 (htm _ qw_254) dX5_superviseEnd_120 (fun H locs hP hS => ?_)
              have e1 := Option.some.inj hF
              subst e1
              exact m_vret X hS hP dX5_superviseEnd_123
      · have hF := ite_T c6 hF
        have e1 := Option.some.inj hF
        subst e1
        exact m_vret X hS hP dX5_superviseEnd_72
def f_X5_settle_62 (G : MT) (k0 : MT → Option (MT)) : Nat → Nat → Int32 → MT → Option (MT)
  | 0, _, _, _ => none
  | n + 1, j1, y2, V => if V 0 0 5 ≤ y2 then ((f_X5_superviseEnd G V j1).bind (fun q9_ => k0 (pt q9_ 0 0 13 ((q9_ 0 0 13) + 1)))) else (if 24 ≤ y2 then ((f_X5_superviseEnd G V j1).bind (fun q11_ => k0 (pt q11_ 0 0 13 ((q11_ 0 0 13) + 1)))) else ((f_X2_isLinkedWith V j1 y2).bind (fun q12_ => if q12_ = 0 then ((f_X5_settle_62 G k0 n) j1 (y2 + 1) V) else (if ¬ (y2 < 0 ∨ 24 ≤ Int32.toNatClampNeg y2) then ((f_X5_unlink G V j1 (Int32.toNatClampNeg y2)).bind (fun q16_ => (f_X5_signalTo G q16_ y2 (nI j1) (q16_ 7 j1 6)).bind (fun q17_ => (f_X5_settle_62 G k0 n) j1 (y2 + 1) q17_))) else none))))
def f_X5_settle_0 (G : MT) : Nat → MT → Option (MT)
  | 0, _ => none
  | n + 1, V => if V 0 0 12 ≤ V 0 0 13 then (some V) else (if 24 ≤ V 0 0 13 then (some V) else (if ¬ (V 0 0 13 < 0 ∨ 24 ≤ Int32.toNatClampNeg (V 0 0 13)) then ((f_X5_procAt G V (V 4 0 (Int32.toNatClampNeg (V 0 0 13)))).bind (fun q4_ => oc q4_ ((f_X5_settle_0 G n) (pt V 0 0 13 ((V 0 0 13) + 1))) (fun e4 => if e4 < 24 then ((f_X2_isSupervisor V e4).bind (fun q5_ => if q5_ = 0 then ((f_X5_tellWatchers G V e4).bind (fun q7_ => f_X5_settle_62 G (f_X5_settle_0 G n) 30 e4 0 q7_)) else ((f_X5_endChildren G V e4 0 (-1)).bind (fun q18_ => (f_X5_tellWatchers G q18_ e4).bind (fun q19_ => f_X5_settle_62 G (f_X5_settle_0 G n) 30 e4 0 q19_))))) else none))) else none))
def f_X5_settle (G V : MT)  : Option (MT) :=
  f_X5_settle_0 G  30 V
def rm_X5_settle : Room := { frames := 10, cells := 0, slots := 0, locals := 282 }
set_option maxRecDepth 20000 in
set_option maxHeartbeats 4000000 in
theorem l_X5_settle_62 {p : Program} {l : Launch} {e : Env} {s : State} {m : MethodId} {args : Array Value} {below : List Frame} {meth : Method} {c : Code} {D : va_G} {ad : Nat → Nat → Nat → Nat} {cI cZ cP : ClassId} {A : Nat → Prop} {G U : MT} {V' : MT} (X : MX p s m args meth c cX5_settle RX5 3 none D ad cI cZ cP A) {w : Nat} (hw : w < 2) (k0 : MT → Option (MT)) (ih0 : ∀ {H : Heap} {locs : List Loc} {ls : Array Slot}  (V : MT), Pic D ad cI cZ cP w G V U H → va_S A s.heap H locs → lv_has ls 3 [(0, .ref (ad w 0 0))] → k0 V = some V' → W p l e rm_X5_settle s m args below meth c H locs 0 0 (MQ below (QcV A (Pic D ad cI cZ cP w G V' U)) args s 0 0 A) (F0 m 0 ls [])) (n : Nat) : ∀ {H : Heap} {locs : List Loc} {ls : Array Slot} (j1 : Nat) (y2 : Int32) (V : MT), j1 < 24 → Pic D ad cI cZ cP w G V U H → va_S A s.heap H locs → lv_has ls 3 [(0, .ref (ad w 0 0)), (1, .ref (ad w 7 j1)), (2, .int y2)] → f_X5_settle_62 G k0 n j1 y2 V = some V' → W p l e rm_X5_settle s m args below meth c H locs 0 0 (MQ below (QcV A (Pic D ad cI cZ cP w G V' U)) args s 0 0 A) (F0 m 62 ls []) := by
  obtain ⟨hx, hb, hml, hown, htm, hr, hlk, hE⟩ := id X
  induction n with
  | zero =>
    intros
    exact ns_S (by assumption)
  | succ n ih62 =>
    intro H locs ls j1 y2 V hj1  hP hS hl hF
    rw [f_X5_settle_62] at hF
    refine lv_iload_n hx hb dX5_settle_62 rfl (lv_at hl 2 rfl) ?_
    refine lv_aload_n hx hb dX5_settle_63 rfl (lv_at hl 0 rfl) ?_
    refine gf_0_5 hx hb htm hown hE hP hw (htm _ qw_155) dX5_settle_64 ?_
    refine lv_icmp_ge (tgt := 114) hx hb dX5_settle_67 (by decide) (fun c8 => ?_) (fun c8 => ?_)
    · have hF := ite_T c8 hF
      refine lv_aload_n hx hb dX5_settle_114 rfl (lv_at hl 0 rfl) ?_
      refine lv_aload_n hx hb dX5_settle_115 rfl (lv_at hl 1 rfl) ?_
      obtain ⟨V9, hc9, hF⟩ := ob_S hF
      refine m_cVv X hS vw_X5_superviseEnd qw_282 (c_X5_superviseEnd hw hj1 hc9) ⟨rfl, rfl⟩ ⟨Nat.le_of_ble_eq_true rfl, Nat.le_of_ble_eq_true rfl⟩ (rc_0 hE hP hw) hP rfl hl.1 (rest := []) rfl (Nat.le_of_ble_eq_true rfl) dX5_settle_116 (fun H locs hP hS => ?_)
      refine lv_aload_n hx hb dX5_settle_119 rfl (lv_at hl 0 rfl) ?_
      refine lv_dup hx hb dX5_settle_120 rfl ?_
      refine gf_0_13 hx hb htm hown hE hP hw (htm _ qw_163) dX5_settle_121 ?_
      refine lv_iconst (v := 1) hx hb dX5_settle_124 (by decide) ?_
      refine lv_iadd hx hb dX5_settle_125 ?_
      refine pf_0_13 hx hb htm hown hE hP hS hw (htm _ qw_163) dX5_settle_126 (fun H locs hP hS => ?_)
      refine lv_goto (tgt := 0) hx hb dX5_settle_129 (by decide) ?_
      exact ih0 _  hP hS (lv_sub hl [0] rfl) hF
    · have hF := ite_F c8 hF
      refine lv_iload_n hx hb dX5_settle_70 rfl (lv_at hl 2 rfl) ?_
      refine lv_bipush (v := 24) hx hb dX5_settle_71 (by decide) ?_
      refine lv_icmp_ge (tgt := 114) hx hb dX5_settle_73 (by decide) (fun c10 => ?_) (fun c10 => ?_)
      · have hF := ite_T c10 hF
        refine lv_aload_n hx hb dX5_settle_114 rfl (lv_at hl 0 rfl) ?_
        refine lv_aload_n hx hb dX5_settle_115 rfl (lv_at hl 1 rfl) ?_
        obtain ⟨V11, hc11, hF⟩ := ob_S hF
        refine m_cVv X hS vw_X5_superviseEnd qw_282 (c_X5_superviseEnd hw hj1 hc11) ⟨rfl, rfl⟩ ⟨Nat.le_of_ble_eq_true rfl, Nat.le_of_ble_eq_true rfl⟩ (rc_0 hE hP hw) hP rfl hl.1 (rest := []) rfl (Nat.le_of_ble_eq_true rfl) dX5_settle_116 (fun H locs hP hS => ?_)
        refine lv_aload_n hx hb dX5_settle_119 rfl (lv_at hl 0 rfl) ?_
        refine lv_dup hx hb dX5_settle_120 rfl ?_
        refine gf_0_13 hx hb htm hown hE hP hw (htm _ qw_163) dX5_settle_121 ?_
        refine lv_iconst (v := 1) hx hb dX5_settle_124 (by decide) ?_
        refine lv_iadd hx hb dX5_settle_125 ?_
        refine pf_0_13 hx hb htm hown hE hP hS hw (htm _ qw_163) dX5_settle_126 (fun H locs hP hS => ?_)
        refine lv_goto (tgt := 0) hx hb dX5_settle_129 (by decide) ?_
        exact ih0 _  hP hS (lv_sub hl [0] rfl) hF
      · have hF := ite_F c10 hF
        refine lv_aload_n hx hb dX5_settle_76 rfl (lv_at hl 1 rfl) ?_
        refine lv_iload_n hx hb dX5_settle_77 rfl (lv_at hl 2 rfl) ?_
        obtain ⟨r12, hc12, hF⟩ := ob_S hF
        refine m_cVi X hS vw_X2_isLinkedWith qw_273 (c_X2_isLinkedWith hw hj1 hc12) ⟨rfl, rfl⟩ ⟨Nat.le_of_ble_eq_true rfl, Nat.le_of_ble_eq_true rfl⟩ (rc_7 hE hP hw hj1) hP rfl hl.1 (rest := []) rfl (Nat.le_of_ble_eq_true rfl) dX5_settle_78 (fun H locs hP hS => ?_)
        refine lv_if_eq (tgt := 108) hx hb dX5_settle_81 (by decide) (fun c13 => ?_) (fun c13 => ?_)
        · have hF := ite_T c13 hF
          refine lv_iinc (v := y2 + 1) (lv' := [(2, .int (y2 + 1)), (0, .ref (ad w 0 0)), (1, .ref (ad w 7 j1))]) hx hb dX5_settle_108 hl (k := 2) rfl rfl (by decide) rfl (fun ls hl => ?_)
          refine lv_goto (tgt := 62) hx hb dX5_settle_111 (by decide) ?_
          exact ih62 _ _ _ hj1 hP hS (lv_sub hl [1, 2, 0] rfl) hF
        · have hF := ite_F c13 hF
          refine lv_aload_n hx hb dX5_settle_84 rfl (lv_at hl 0 rfl) ?_
          refine lv_aload_n hx hb dX5_settle_85 rfl (lv_at hl 1 rfl) ?_
          refine lv_aload_n hx hb dX5_settle_86 rfl (lv_at hl 0 rfl) ?_
          refine gf_0_4 hx hb htm hown hE hP hw (htm _ qw_143) dX5_settle_87 ?_
          refine lv_iload_n hx hb dX5_settle_90 rfl (lv_at hl 2 rfl) ?_
          obtain ⟨hn14, hF⟩ := ite_S hF
          refine mql hx hb htm hown hE hP hw hn14 dX5_settle_91 ?_
          have hj15 : Int32.toNatClampNeg y2 < 24 := Nat.not_le.mp fun q => hn14 (Or.inr q)
          obtain ⟨V16, hc16, hF⟩ := ob_S hF
          refine m_cVv X hS vw_X5_unlink qw_276 (c_X5_unlink hw hj1 hj15 hc16) ⟨rfl, rfl⟩ ⟨Nat.le_of_ble_eq_true rfl, Nat.le_of_ble_eq_true rfl⟩ (rc_0 hE hP hw) hP rfl hl.1 (rest := []) rfl (Nat.le_of_ble_eq_true rfl) dX5_settle_92 (fun H locs hP hS => ?_)
          refine lv_aload_n hx hb dX5_settle_95 rfl (lv_at hl 0 rfl) ?_
          refine lv_iload_n hx hb dX5_settle_96 rfl (lv_at hl 2 rfl) ?_
          refine lv_aload_n hx hb dX5_settle_97 rfl (lv_at hl 1 rfl) ?_
          refine gf_7_0 hx hb htm hown hE hP hw hj1 (htm _ qw_189) dX5_settle_98 ?_
          refine lv_aload_n hx hb dX5_settle_101 rfl (lv_at hl 1 rfl) ?_
          refine gf_7_6 hx hb htm hown hE hP hw hj1 (htm _ qw_186) dX5_settle_102 ?_
          obtain ⟨V17, hc17, hF⟩ := ob_S hF
          refine m_cVv X hS vw_X5_signalTo qw_279 (c_X5_signalTo hw hc17) ⟨rfl, rfl⟩ ⟨Nat.le_of_ble_eq_true rfl, Nat.le_of_ble_eq_true rfl⟩ (rc_0 hE hP hw) hP rfl hl.1 (rest := []) rfl (Nat.le_of_ble_eq_true rfl) dX5_settle_105 (fun H locs hP hS => ?_)
          refine lv_iinc (v := y2 + 1) (lv' := [(2, .int (y2 + 1)), (0, .ref (ad w 0 0)), (1, .ref (ad w 7 j1))]) hx hb dX5_settle_108 hl (k := 2) rfl rfl (by decide) rfl (fun ls hl => ?_)
          refine lv_goto (tgt := 62) hx hb dX5_settle_111 (by decide) ?_
          exact ih62 _ _ _ hj1 hP hS (lv_sub hl [1, 2, 0] rfl) hF
set_option maxRecDepth 20000 in
set_option maxHeartbeats 4000000 in
theorem l_X5_settle_0 {p : Program} {l : Launch} {e : Env} {s : State} {m : MethodId} {args : Array Value} {below : List Frame} {meth : Method} {c : Code} {D : va_G} {ad : Nat → Nat → Nat → Nat} {cI cZ cP : ClassId} {A : Nat → Prop} {G U : MT} {V' : MT} (X : MX p s m args meth c cX5_settle RX5 3 none D ad cI cZ cP A) {w : Nat} (hw : w < 2) (n : Nat) : ∀ {H : Heap} {locs : List Loc} {ls : Array Slot}  (V : MT), Pic D ad cI cZ cP w G V U H → va_S A s.heap H locs → lv_has ls 3 [(0, .ref (ad w 0 0))] → f_X5_settle_0 G n V = some V' → W p l e rm_X5_settle s m args below meth c H locs 0 0 (MQ below (QcV A (Pic D ad cI cZ cP w G V' U)) args s 0 0 A) (F0 m 0 ls []) := by
  obtain ⟨hx, hb, hml, hown, htm, hr, hlk, hE⟩ := id X
  induction n with
  | zero =>
    intros
    exact ns_S (by assumption)
  | succ n ih0 =>
    intro H locs ls V   hP hS hl hF
    rw [f_X5_settle_0] at hF
    refine lv_aload_n hx hb dX5_settle_0 rfl (lv_at hl 0 rfl) ?_
    refine gf_0_13 hx hb htm hown hE hP hw (htm _ qw_163) dX5_settle_1 ?_
    refine lv_aload_n hx hb dX5_settle_4 rfl (lv_at hl 0 rfl) ?_
    refine gf_0_12 hx hb htm hown hE hP hw (htm _ qw_162) dX5_settle_5 ?_
    refine lv_icmp_ge (tgt := 132) hx hb dX5_settle_8 (by decide) (fun c1 => ?_) (fun c1 => ?_)
    · have hF := ite_T c1 hF
      have e1 := Option.some.inj hF
      subst e1
      exact m_vret X hS hP dX5_settle_132
    · have hF := ite_F c1 hF
      refine lv_aload_n hx hb dX5_settle_11 rfl (lv_at hl 0 rfl) ?_
      refine gf_0_13 hx hb htm hown hE hP hw (htm _ qw_163) dX5_settle_12 ?_
      refine lv_bipush (v := 24) hx hb dX5_settle_15 (by decide) ?_
      refine lv_icmp_ge (tgt := 132) hx hb dX5_settle_17 (by decide) (fun c2 => ?_) (fun c2 => ?_)
      · have hF := ite_T c2 hF
        have e1 := Option.some.inj hF
        subst e1
        exact m_vret X hS hP dX5_settle_132
      · have hF := ite_F c2 hF
        refine lv_aload_n hx hb dX5_settle_20 rfl (lv_at hl 0 rfl) ?_
        refine lv_aload_n hx hb dX5_settle_21 rfl (lv_at hl 0 rfl) ?_
        refine gf_0_11 hx hb htm hown hE hP hw (htm _ qw_144) dX5_settle_22 ?_
        refine lv_aload_n hx hb dX5_settle_25 rfl (lv_at hl 0 rfl) ?_
        refine gf_0_13 hx hb htm hown hE hP hw (htm _ qw_163) dX5_settle_26 ?_
        obtain ⟨hn3, hF⟩ := ite_S hF
        refine al_4 hx hb htm hown hE hP hw hn3 dX5_settle_29 ?_
        obtain ⟨r4, hc4, hF⟩ := ob_S hF
        refine m_cVq X hS vw_X5_procAt qw_213 (c_X5_procAt hw hc4) ⟨rfl, rfl⟩ ⟨Nat.le_of_ble_eq_true rfl, Nat.le_of_ble_eq_true rfl⟩ (rc_0 hE hP hw) hP rfl hl.1 (rest := []) rfl (Nat.le_of_ble_eq_true rfl) dX5_settle_30 (fun H locs hP hS => ?_)
        rcases r4 with _ | e4
        · have hF := oc_N hF
          refine lv_astore_nN (lv' := [(1, .null), (0, .ref (ad w 0 0))]) hx hb dX5_settle_33 rfl hl (by decide) rfl (fun ls hl => ?_)
          refine lv_aload_nN hx hb dX5_settle_34 rfl (lv_at hl 0 rfl) ?_
          refine lv_ifnonnullN hx hb dX5_settle_35 ?_
          refine lv_goto (tgt := 119) hx hb dX5_settle_38 (by decide) ?_
          refine lv_aload_n hx hb dX5_settle_119 rfl (lv_at hl 1 rfl) ?_
          refine lv_dup hx hb dX5_settle_120 rfl ?_
          refine gf_0_13 hx hb htm hown hE hP hw (htm _ qw_163) dX5_settle_121 ?_
          refine lv_iconst (v := 1) hx hb dX5_settle_124 (by decide) ?_
          refine lv_iadd hx hb dX5_settle_125 ?_
          refine pf_0_13 hx hb htm hown hE hP hS hw (htm _ qw_163) dX5_settle_126 (fun H locs hP hS => ?_)
          refine lv_goto (tgt := 0) hx hb dX5_settle_129 (by decide) ?_
          exact ih0 _  hP hS (lv_sub hl [1] rfl) hF
        · obtain ⟨he4, hF⟩ := ite_S (oc_J hF)
          refine lv_astore_n (lv' := [(1, .ref (ad w 7 e4)), (0, .ref (ad w 0 0))]) hx hb dX5_settle_33 rfl hl (by decide) rfl (fun ls hl => ?_)
          refine lv_aload_n hx hb dX5_settle_34 rfl (lv_at hl 0 rfl) ?_
          refine lv_ifnonnull (tgt := 41) hx hb dX5_settle_35 (by decide) ?_
          refine lv_aload_n hx hb dX5_settle_41 rfl (lv_at hl 0 rfl) ?_
          obtain ⟨r5, hc5, hF⟩ := ob_S hF
          refine m_cVi X hS vw_X2_isSupervisor qw_220 (c_X2_isSupervisor hw he4 hc5) ⟨rfl, rfl⟩ ⟨Nat.le_of_ble_eq_true rfl, Nat.le_of_ble_eq_true rfl⟩ (rc_7 hE hP hw he4) hP rfl hl.1 (rest := []) rfl (Nat.le_of_ble_eq_true rfl) dX5_settle_42 (fun H locs hP hS => ?_)
          refine lv_if_eq (tgt := 55) hx hb dX5_settle_45 (by decide) (fun c6 => ?_) (fun c6 => ?_)
          · have hF := ite_T c6 hF
            refine lv_aload_n hx hb dX5_settle_55 rfl (lv_at hl 1 rfl) ?_
            refine lv_aload_n hx hb dX5_settle_56 rfl (lv_at hl 0 rfl) ?_
            obtain ⟨V7, hc7, hF⟩ := ob_S hF
            refine m_cVv X hS vw_X5_tellWatchers qw_270 (c_X5_tellWatchers hw he4 hc7) ⟨rfl, rfl⟩ ⟨Nat.le_of_ble_eq_true rfl, Nat.le_of_ble_eq_true rfl⟩ (rc_0 hE hP hw) hP rfl hl.1 (rest := []) rfl (Nat.le_of_ble_eq_true rfl) dX5_settle_57 (fun H locs hP hS => ?_)
            refine lv_iconst (v := 0) hx hb dX5_settle_60 (by decide) ?_
            refine lv_istore_n (lv' := [(2, .int 0), (1, .ref (ad w 7 e4)), (0, .ref (ad w 0 0))]) hx hb dX5_settle_61 rfl hl (by decide) rfl (fun ls hl => ?_)
            exact l_X5_settle_62 X hw (f_X5_settle_0 G n) ih0 30 _ _ _ he4 hP hS (lv_sub hl [2, 1, 0] rfl) hF
          · have hF := ite_F c6 hF
            refine lv_aload_n hx hb dX5_settle_48 rfl (lv_at hl 1 rfl) ?_
            refine lv_aload_n hx hb dX5_settle_49 rfl (lv_at hl 0 rfl) ?_
            refine lv_iconst (v := 0) hx hb dX5_settle_50 (by decide) ?_
            refine lv_iconst (v := (-1)) hx hb dX5_settle_51 (by decide) ?_
            obtain ⟨V18, hc18, hF⟩ := ob_S hF
            refine m_cVv X hS vw_X5_endChildren qw_266 (c_X5_endChildren hw he4 hc18) ⟨rfl, rfl⟩ ⟨Nat.le_of_ble_eq_true rfl, Nat.le_of_ble_eq_true rfl⟩ (rc_0 hE hP hw) hP rfl hl.1 (rest := []) rfl (Nat.le_of_ble_eq_true rfl) dX5_settle_52 (fun H locs hP hS => ?_)
            refine lv_aload_n hx hb dX5_settle_55 rfl (lv_at hl 1 rfl) ?_
            refine lv_aload_n hx hb dX5_settle_56 rfl (lv_at hl 0 rfl) ?_
            obtain ⟨V19, hc19, hF⟩ := ob_S hF
            refine m_cVv X hS vw_X5_tellWatchers qw_270 (c_X5_tellWatchers hw he4 hc19) ⟨rfl, rfl⟩ ⟨Nat.le_of_ble_eq_true rfl, Nat.le_of_ble_eq_true rfl⟩ (rc_0 hE hP hw) hP rfl hl.1 (rest := []) rfl (Nat.le_of_ble_eq_true rfl) dX5_settle_57 (fun H locs hP hS => ?_)
            refine lv_iconst (v := 0) hx hb dX5_settle_60 (by decide) ?_
            refine lv_istore_n (lv' := [(2, .int 0), (1, .ref (ad w 7 e4)), (0, .ref (ad w 0 0))]) hx hb dX5_settle_61 rfl hl (by decide) rfl (fun ls hl => ?_)
            exact l_X5_settle_62 X hw (f_X5_settle_0 G n) ih0 30 _ _ _ he4 hP hS (lv_sub hl [2, 1, 0] rfl) hF
set_option maxRecDepth 20000 in
set_option maxHeartbeats 4000000 in
theorem c_X5_settle {l : Launch} {D : va_G} {ad : Nat → Nat → Nat → Nat} {cI cZ cP : ClassId} {A : Nat → Prop} {w : Nat} (hw : w < 2) {G V U : MT}  {V' : MT}  (hF : f_X5_settle G V  = some V') : Met l yX5_settle (.code yX5_settle cX5_settle 3 none :: WM) rm_X5_settle (PcM D ad cI cZ cP A [.ref (ad w 0 0)] (Pic D ad cI cZ cP w G V U)) (QcV A (Pic D ad cI cZ cP w G V' U)) 0 0 A := by
  refine m_entry (by decide) (Nat.le_of_ble_eq_true rfl) (fun p e s m below meth c ls X hP hS hl => ?_)
  have X : MX p s m _ meth c cX5_settle RX5 3 none D ad cI cZ cP A := X
  obtain ⟨hx, hb, hml, hown, htm, hr, hlk, hE⟩ := id X
  have hl : lv_has ls 3 [(0, .ref (ad w 0 0))] := hl
  exact l_X5_settle_0 X hw  30 _ hP hS (lv_sub hl [0] rfl) hF
def f_X5_comesFromOutside (G V : MT) (x1 : Int32) : Option (Int32 × MT) :=
  (f_X5_comesOfSpec G V x1 (-1)).bind (fun q1_ => oc q1_.1 (some ((-1), q1_.2)) (fun e1 => if e1 < 24 then ((f_X5_startPlaces G 7 e1 0 4 0 q1_.2).bind (fun q2_ => (f_X5_settle G q2_).bind (fun q3_ => some (nI e1, q3_)))) else none))
def rm_X5_comesFromOutside : Room := { frames := 11, cells := 0, slots := 0, locals := 304 }
set_option maxRecDepth 20000 in
set_option maxHeartbeats 4000000 in
theorem c_X5_comesFromOutside {l : Launch} {D : va_G} {ad : Nat → Nat → Nat → Nat} {cI cZ cP : ClassId} {A : Nat → Prop} {w : Nat} (hw : w < 2) {G V U : MT} {x1 : Int32} {r : Int32} {V' : MT}  (hF : f_X5_comesFromOutside G V x1 = some (r, V')) : Met l yX5_comesFromOutside (.code yX5_comesFromOutside cX5_comesFromOutside 3 (some .int) :: WM) rm_X5_comesFromOutside (PcM D ad cI cZ cP A [.ref (ad w 0 0), .int x1] (Pic D ad cI cZ cP w G V U)) (QcI A r (Pic D ad cI cZ cP w G V' U)) 0 0 A := by
  refine m_entry (by decide) (Nat.le_of_ble_eq_true rfl) (fun p e s m below meth c ls X hP hS hl => ?_)
  have X : MX p s m _ meth c cX5_comesFromOutside RX5 3 (some .int) D ad cI cZ cP A := X
  obtain ⟨hx, hb, hml, hown, htm, hr, hlk, hE⟩ := id X
  have hl : lv_has ls 3 [(0, .ref (ad w 0 0)), (1, .int x1)] := hl
  refine lv_aload_n hx hb dX5_comesFromOutside_0 rfl (lv_at hl 0 rfl) ?_
  refine lv_iload_n hx hb dX5_comesFromOutside_1 rfl (lv_at hl 1 rfl) ?_
  refine lv_iconst (v := (-1)) hx hb dX5_comesFromOutside_2 (by decide) ?_
  obtain ⟨⟨r1, V1⟩, hc1, hF⟩ := ob_S hF
  refine m_cVq X hS vw_X5_comesOfSpec qw_200 (c_X5_comesOfSpec hw hc1) ⟨rfl, rfl⟩ ⟨Nat.le_of_ble_eq_true rfl, Nat.le_of_ble_eq_true rfl⟩ (rc_0 hE hP hw) hP rfl hl.1 (rest := []) rfl (Nat.le_of_ble_eq_true rfl) dX5_comesFromOutside_3 (fun H locs hP hS => ?_)
  rcases r1 with _ | e1
  · have hF := oc_N hF
    refine lv_astore_nN (lv' := [(2, .null), (0, .ref (ad w 0 0)), (1, .int x1)]) hx hb dX5_comesFromOutside_6 rfl hl (by decide) rfl (fun ls hl => ?_)
    refine lv_aload_nN hx hb dX5_comesFromOutside_7 rfl (lv_at hl 0 rfl) ?_
    refine lv_ifnonnullN hx hb dX5_comesFromOutside_8 ?_
    refine lv_iconst (v := (-1)) hx hb dX5_comesFromOutside_11 (by decide) ?_
    obtain ⟨e1, e2⟩ := Prod.mk.inj (Option.some.inj hF)
    subst e1
    subst e2
    exact m_iret X hS hP rfl dX5_comesFromOutside_12
  · obtain ⟨he1, hF⟩ := ite_S (oc_J hF)
    refine lv_astore_n (lv' := [(2, .ref (ad w 7 e1)), (0, .ref (ad w 0 0)), (1, .int x1)]) hx hb dX5_comesFromOutside_6 rfl hl (by decide) rfl (fun ls hl => ?_)
    refine lv_aload_n hx hb dX5_comesFromOutside_7 rfl (lv_at hl 0 rfl) ?_
    refine lv_ifnonnull (tgt := 13) hx hb dX5_comesFromOutside_8 (by decide) ?_
    refine lv_aload_n hx hb dX5_comesFromOutside_13 rfl (lv_at hl 1 rfl) ?_
    refine lv_aload_n hx hb dX5_comesFromOutside_14 rfl (lv_at hl 0 rfl) ?_
    refine lv_iconst (v := 0) hx hb dX5_comesFromOutside_15 (by decide) ?_
    refine lv_iconst (v := 4) hx hb dX5_comesFromOutside_16 (by decide) ?_
    refine lv_iconst (v := 0) hx hb dX5_comesFromOutside_17 (by decide) ?_
    obtain ⟨V2, hc2, hF⟩ := ob_S hF
    refine m_cSv X hS sw_X5_startPlaces qw_210 (c_X5_startPlaces hw 7 he1 hc2) ⟨rfl, rfl⟩ ⟨Nat.le_of_ble_eq_true rfl, Nat.le_of_ble_eq_true rfl⟩ hP rfl hl.1 (rest := []) rfl (Nat.le_of_ble_eq_true rfl) dX5_comesFromOutside_18 (fun H locs hP hS => ?_)
    refine lv_aload_n hx hb dX5_comesFromOutside_21 rfl (lv_at hl 1 rfl) ?_
    obtain ⟨V3, hc3, hF⟩ := ob_S hF
    refine m_cVv X hS vw_X5_settle qw_286 (c_X5_settle hw hc3) ⟨rfl, rfl⟩ ⟨Nat.le_of_ble_eq_true rfl, Nat.le_of_ble_eq_true rfl⟩ (rc_0 hE hP hw) hP rfl hl.1 (rest := []) rfl (Nat.le_of_ble_eq_true rfl) dX5_comesFromOutside_22 (fun H locs hP hS => ?_)
    refine lv_aload_n hx hb dX5_comesFromOutside_25 rfl (lv_at hl 0 rfl) ?_
    refine gf_7_0 hx hb htm hown hE hP hw he1 (htm _ qw_189) dX5_comesFromOutside_26 ?_
    obtain ⟨e1, e2⟩ := Prod.mk.inj (Option.some.inj hF)
    subst e1
    subst e2
    exact m_iret X hS hP rfl dX5_comesFromOutside_29
def f_X5_loadModule_30 (G : MT) : Nat → Int32 → Int32 → Int32 → MT → Option (MT)
  | 0, _, _, _, _ => none
  | n + 1, y1, y2, y3, V => if V 0 0 5 ≤ y3 then (some V) else (if 24 ≤ y3 then (some V) else (if ¬ (y3 < 0 ∨ 24 ≤ Int32.toNatClampNeg y3) then (if V 7 (Int32.toNatClampNeg y3) 5 = 2 then ((f_X5_loadModule_30 G n) y1 y2 (y3 + 1) V) else (if V 7 (Int32.toNatClampNeg y3) 1 = y1 then (if y2 ≤ V 7 (Int32.toNatClampNeg y3) 2 then ((f_X5_loadModule_30 G n) y1 y2 (y3 + 1) V) else ((f_X5_end G V (Int32.toNatClampNeg y3) 8).bind (fun q12_ => (f_X5_settle G q12_).bind (fun q13_ => (f_X5_loadModule_30 G n) y1 y2 (y3 + 1) q13_)))) else ((f_X5_loadModule_30 G n) y1 y2 (y3 + 1) V))) else none))
def f_X5_loadModule (G V : MT) (x1 : Int32) : Option (MT) :=
  (f_X1_hasModule G x1).bind (fun q1_ => if q1_ = 0 then (some V) else (if ¬ (x1 < 0 ∨ 4 ≤ Int32.toNatClampNeg x1) then (if ¬ (x1 < 0 ∨ 4 ≤ Int32.toNatClampNeg x1) then (f_X5_loadModule_30 G  30 x1 (V 1 0 (Int32.toNatClampNeg x1)) 0 (pt V 1 0 (Int32.toNatClampNeg x1) ((V 1 0 (Int32.toNatClampNeg x1)) + 1))) else none) else none))
def rm_X5_loadModule : Room := { frames := 11, cells := 0, slots := 0, locals := 304 }
set_option maxRecDepth 20000 in
set_option maxHeartbeats 4000000 in
theorem l_X5_loadModule_30 {p : Program} {l : Launch} {e : Env} {s : State} {m : MethodId} {args : Array Value} {below : List Frame} {meth : Method} {c : Code} {D : va_G} {ad : Nat → Nat → Nat → Nat} {cI cZ cP : ClassId} {A : Nat → Prop} {G U : MT} {V' : MT} (X : MX p s m args meth c cX5_loadModule RX5 5 none D ad cI cZ cP A) {w : Nat} (hw : w < 2) (n : Nat) : ∀ {H : Heap} {locs : List Loc} {ls : Array Slot} (y1 : Int32) (y2 : Int32) (y3 : Int32) (V : MT), Pic D ad cI cZ cP w G V U H → va_S A s.heap H locs → lv_has ls 5 [(0, .ref (ad w 0 0)), (1, .int y1), (2, .int y2), (3, .int y3)] → f_X5_loadModule_30 G n y1 y2 y3 V = some V' → W p l e rm_X5_loadModule s m args below meth c H locs 0 0 (MQ below (QcV A (Pic D ad cI cZ cP w G V' U)) args s 0 0 A) (F0 m 30 ls []) := by
  obtain ⟨hx, hb, hml, hown, htm, hr, hlk, hE⟩ := id X
  induction n with
  | zero =>
    intros
    exact ns_S (by assumption)
  | succ n ih30 =>
    intro H locs ls y1 y2 y3 V   hP hS hl hF
    rw [f_X5_loadModule_30] at hF
    refine lv_iload_n hx hb dX5_loadModule_30 rfl (lv_at hl 3 rfl) ?_
    refine lv_aload_n hx hb dX5_loadModule_31 rfl (lv_at hl 0 rfl) ?_
    refine gf_0_5 hx hb htm hown hE hP hw (htm _ qw_155) dX5_loadModule_32 ?_
    refine lv_icmp_ge (tgt := 97) hx hb dX5_loadModule_35 (by decide) (fun c5 => ?_) (fun c5 => ?_)
    · have hF := ite_T c5 hF
      have e1 := Option.some.inj hF
      subst e1
      exact m_vret X hS hP dX5_loadModule_97
    · have hF := ite_F c5 hF
      refine lv_iload_n hx hb dX5_loadModule_38 rfl (lv_at hl 3 rfl) ?_
      refine lv_bipush (v := 24) hx hb dX5_loadModule_39 (by decide) ?_
      refine lv_icmp_ge (tgt := 97) hx hb dX5_loadModule_41 (by decide) (fun c6 => ?_) (fun c6 => ?_)
      · have hF := ite_T c6 hF
        have e1 := Option.some.inj hF
        subst e1
        exact m_vret X hS hP dX5_loadModule_97
      · have hF := ite_F c6 hF
        refine lv_aload_n hx hb dX5_loadModule_44 rfl (lv_at hl 0 rfl) ?_
        refine gf_0_4 hx hb htm hown hE hP hw (htm _ qw_143) dX5_loadModule_45 ?_
        refine lv_iload_n hx hb dX5_loadModule_48 rfl (lv_at hl 3 rfl) ?_
        obtain ⟨hn7, hF⟩ := ite_S hF
        refine mql hx hb htm hown hE hP hw hn7 dX5_loadModule_49 ?_
        have hj8 : Int32.toNatClampNeg y3 < 24 := Nat.not_le.mp fun q => hn7 (Or.inr q)
        refine lv_astore (lv' := [(4, .ref (ad w 7 (Int32.toNatClampNeg y3))), (0, .ref (ad w 0 0)), (1, .int y1), (2, .int y2), (3, .int y3)]) hx hb dX5_loadModule_50 hl (by decide) rfl (fun ls hl => ?_)
        refine lv_aload hx hb dX5_loadModule_52 (lv_at hl 0 rfl) ?_
        refine gf_7_5 hx hb htm hown hE hP hw hj8 (htm _ qw_170) dX5_loadModule_54 ?_
        refine lv_iconst (v := 2) hx hb dX5_loadModule_57 (by decide) ?_
        refine lv_icmp_eq (tgt := 91) hx hb dX5_loadModule_58 (by decide) (fun c9 => ?_) (fun c9 => ?_)
        · have hF := ite_T c9 hF
          refine lv_iinc (v := y3 + 1) (lv' := [(3, .int (y3 + 1)), (4, .ref (ad w 7 (Int32.toNatClampNeg y3))), (0, .ref (ad w 0 0)), (1, .int y1), (2, .int y2)]) hx hb dX5_loadModule_91 hl (k := 4) rfl rfl (by decide) rfl (fun ls hl => ?_)
          refine lv_goto (tgt := 30) hx hb dX5_loadModule_94 (by decide) ?_
          exact ih30 _ _ _ _  hP hS (lv_sub hl [2, 3, 4, 0] rfl) hF
        · have hF := ite_F c9 hF
          refine lv_aload hx hb dX5_loadModule_61 (lv_at hl 0 rfl) ?_
          refine gf_7_1 hx hb htm hown hE hP hw hj8 (htm _ qw_176) dX5_loadModule_63 ?_
          refine lv_iload_n hx hb dX5_loadModule_66 rfl (lv_at hl 2 rfl) ?_
          refine lv_icmp_ne (tgt := 91) hx hb dX5_loadModule_67 (by decide) (fun c10 => ?_) (fun c10 => ?_)
          · have hF := ite_F c10 hF
            refine lv_iinc (v := y3 + 1) (lv' := [(3, .int (y3 + 1)), (4, .ref (ad w 7 (Int32.toNatClampNeg y3))), (0, .ref (ad w 0 0)), (1, .int y1), (2, .int y2)]) hx hb dX5_loadModule_91 hl (k := 4) rfl rfl (by decide) rfl (fun ls hl => ?_)
            refine lv_goto (tgt := 30) hx hb dX5_loadModule_94 (by decide) ?_
            exact ih30 _ _ _ _  hP hS (lv_sub hl [2, 3, 4, 0] rfl) hF
          · have hF := ite_T c10 hF
            refine lv_aload hx hb dX5_loadModule_70 (lv_at hl 0 rfl) ?_
            refine gf_7_2 hx hb htm hown hE hP hw hj8 (htm _ qw_177) dX5_loadModule_72 ?_
            refine lv_iload_n hx hb dX5_loadModule_75 rfl (lv_at hl 3 rfl) ?_
            refine lv_icmp_ge (tgt := 91) hx hb dX5_loadModule_76 (by decide) (fun c11 => ?_) (fun c11 => ?_)
            · have hF := ite_T c11 hF
              refine lv_iinc (v := y3 + 1) (lv' := [(3, .int (y3 + 1)), (4, .ref (ad w 7 (Int32.toNatClampNeg y3))), (0, .ref (ad w 0 0)), (1, .int y1), (2, .int y2)]) hx hb dX5_loadModule_91 hl (k := 4) rfl rfl (by decide) rfl (fun ls hl => ?_)
              refine lv_goto (tgt := 30) hx hb dX5_loadModule_94 (by decide) ?_
              exact ih30 _ _ _ _  hP hS (lv_sub hl [2, 3, 4, 0] rfl) hF
            · have hF := ite_F c11 hF
              refine lv_aload_n hx hb dX5_loadModule_79 rfl (lv_at hl 1 rfl) ?_
              refine lv_aload hx hb dX5_loadModule_80 (lv_at hl 0 rfl) ?_
              refine lv_bipush (v := 8) hx hb dX5_loadModule_82 (by decide) ?_
              obtain ⟨V12, hc12, hF⟩ := ob_S hF
              refine m_cVv X hS vw_X5_end qw_207 (c_X5_end hw hj8 hc12) ⟨rfl, rfl⟩ ⟨Nat.le_of_ble_eq_true rfl, Nat.le_of_ble_eq_true rfl⟩ (rc_0 hE hP hw) hP rfl hl.1 (rest := []) rfl (Nat.le_of_ble_eq_true rfl) dX5_loadModule_84 (fun H locs hP hS => ?_)
              refine lv_aload_n hx hb dX5_loadModule_87 rfl (lv_at hl 1 rfl) ?_
              obtain ⟨V13, hc13, hF⟩ := ob_S hF
              refine m_cVv X hS vw_X5_settle qw_286 (c_X5_settle hw hc13) ⟨rfl, rfl⟩ ⟨Nat.le_of_ble_eq_true rfl, Nat.le_of_ble_eq_true rfl⟩ (rc_0 hE hP hw) hP rfl hl.1 (rest := []) rfl (Nat.le_of_ble_eq_true rfl) dX5_loadModule_88 (fun H locs hP hS => ?_)
              refine lv_iinc (v := y3 + 1) (lv' := [(3, .int (y3 + 1)), (4, .ref (ad w 7 (Int32.toNatClampNeg y3))), (0, .ref (ad w 0 0)), (1, .int y1), (2, .int y2)]) hx hb dX5_loadModule_91 hl (k := 4) rfl rfl (by decide) rfl (fun ls hl => ?_)
              refine lv_goto (tgt := 30) hx hb dX5_loadModule_94 (by decide) ?_
              exact ih30 _ _ _ _  hP hS (lv_sub hl [2, 3, 4, 0] rfl) hF
set_option maxRecDepth 20000 in
set_option maxHeartbeats 4000000 in
theorem c_X5_loadModule {l : Launch} {D : va_G} {ad : Nat → Nat → Nat → Nat} {cI cZ cP : ClassId} {A : Nat → Prop} {w : Nat} (hw : w < 2) {G V U : MT} {x1 : Int32} {V' : MT}  (hF : f_X5_loadModule G V x1 = some V') : Met l yX5_loadModule (.code yX5_loadModule cX5_loadModule 5 none :: WM) rm_X5_loadModule (PcM D ad cI cZ cP A [.ref (ad w 0 0), .int x1] (Pic D ad cI cZ cP w G V U)) (QcV A (Pic D ad cI cZ cP w G V' U)) 0 0 A := by
  refine m_entry (by decide) (Nat.le_of_ble_eq_true rfl) (fun p e s m below meth c ls X hP hS hl => ?_)
  have X : MX p s m _ meth c cX5_loadModule RX5 5 none D ad cI cZ cP A := X
  obtain ⟨hx, hb, hml, hown, htm, hr, hlk, hE⟩ := id X
  have hl : lv_has ls 5 [(0, .ref (ad w 0 0)), (1, .int x1)] := hl
  refine lv_aload_n hx hb dX5_loadModule_0 rfl (lv_at hl 0 rfl) ?_
  refine gf_0_0 hx hb htm hown hE hP hw (htm _ qw_147) dX5_loadModule_1 ?_
  refine lv_iload_n hx hb dX5_loadModule_4 rfl (lv_at hl 1 rfl) ?_
  obtain ⟨r1, hc1, hF⟩ := ob_S hF
  refine m_cVi X hS vw_X1_hasModule qw_172 (c_X1_hasModule hw hc1) ⟨rfl, rfl⟩ ⟨Nat.le_of_ble_eq_true rfl, Nat.le_of_ble_eq_true rfl⟩ (rc_17 hE hP) hP rfl hl.1 (rest := []) rfl (Nat.le_of_ble_eq_true rfl) dX5_loadModule_5 (fun H locs hP hS => ?_)
  refine lv_if_ne (tgt := 12) hx hb dX5_loadModule_8 (by decide) (fun c2 => ?_) (fun c2 => ?_)
  · have hF := ite_F c2 hF
    refine lv_aload_n hx hb dX5_loadModule_12 rfl (lv_at hl 0 rfl) ?_
    refine gf_0_2 hx hb htm hown hE hP hw (htm _ qw_140) dX5_loadModule_13 ?_
    refine lv_iload_n hx hb dX5_loadModule_16 rfl (lv_at hl 1 rfl) ?_
    obtain ⟨hn3, hF⟩ := ite_S hF
    refine al_1 hx hb htm hown hE hP hw hn3 dX5_loadModule_17 ?_
    refine lv_istore_n (lv' := [(2, .int (V 1 0 (Int32.toNatClampNeg x1))), (0, .ref (ad w 0 0)), (1, .int x1)]) hx hb dX5_loadModule_18 rfl hl (by decide) rfl (fun ls hl => ?_)
    refine lv_aload_n hx hb dX5_loadModule_19 rfl (lv_at hl 1 rfl) ?_
    refine gf_0_2 hx hb htm hown hE hP hw (htm _ qw_140) dX5_loadModule_20 ?_
    refine lv_iload_n hx hb dX5_loadModule_23 rfl (lv_at hl 2 rfl) ?_
    refine lv_iload_n hx hb dX5_loadModule_24 rfl (lv_at hl 0 rfl) ?_
    refine lv_iconst (v := 1) hx hb dX5_loadModule_25 (by decide) ?_
    refine lv_iadd hx hb dX5_loadModule_26 ?_
    obtain ⟨hn4, hF⟩ := ite_S hF
    refine as_1 hx hb htm hown hE hP hS hw hn4 dX5_loadModule_27 (fun H locs hP hS => ?_)
    refine lv_iconst (v := 0) hx hb dX5_loadModule_28 (by decide) ?_
    refine lv_istore_n (lv' := [(3, .int 0), (2, .int (V 1 0 (Int32.toNatClampNeg x1))), (0, .ref (ad w 0 0)), (1, .int x1)]) hx hb dX5_loadModule_29 rfl hl (by decide) rfl (fun ls hl => ?_)
    exact l_X5_loadModule_30 X hw  30 _ _ _ _ hP hS (lv_sub hl [2, 3, 1, 0] rfl) hF
  · have hF := ite_T c2 hF
    have e1 := Option.some.inj hF
    subst e1
    exact m_vret X hS hP dX5_loadModule_11
