theorem sw_X5_startPlaces : SW RX5 yX5_startPlaces cX5_startPlaces 10 none 5 := ⟨qw_211, qw_203, qw_212, ⟨rfl, by decide, by decide, by decide +kernel⟩⟩
def f_X5_startPlaces_3 (G : MT) (kR : Nat → Int32 → Int32 → Int32 → MT → Option (MT)) : Nat → Nat → Int32 → Int32 → Int32 → MT → Option (MT)
  | 0, _, _, _, _, _ => none
  | n + 1, j1, y3, y4, y5, V => if y3 ≤ y5 then (some V) else (if 4 ≤ y5 then (some V) else (if 5 ≤ y4 then (some V) else ((f_X3_placeAt G (V 7 j1 3) y5).bind (fun q4_ => if q4_ = (-1) then ((f_X5_startPlaces_3 G kR n) j1 y3 y4 (y5 + 1) V) else ((f_X2_isEmptyPlace V j1 y5).bind (fun q6_ => if q6_ = 0 then (if ¬ (q4_ < 0 ∨ 20 ≤ Int32.toNatClampNeg q4_) then (if ¬ (q4_ < 0 ∨ 20 ≤ Int32.toNatClampNeg q4_) then (if G 27 0 (Int32.toNatClampNeg q4_) = 0 then ((f_X5_comesOfModule G V (G 28 0 (Int32.toNatClampNeg q4_)) (nI j1)).bind (fun q11_ => oc q11_.1 ((f_X5_end G q11_.2 j1 5).bind (fun q12_ => some q12_)) (fun e11 => if e11 < 24 then (if ¬ (y5 < 0 ∨ 4 ≤ Int32.toNatClampNeg y5) then (if G 27 0 (Int32.toNatClampNeg q4_) = 0 then ((f_X5_startPlaces_3 G kR n) j1 y3 y4 (y5 + 1) (pt q11_.2 9 j1 (Int32.toNatClampNeg y5) (nI e11))) else ((kR e11 0 4 (y4 + 1) (pt q11_.2 9 j1 (Int32.toNatClampNeg y5) (nI e11))).bind (fun q15_ => (f_X5_startPlaces_3 G kR n) j1 y3 y4 (y5 + 1) q15_))) else none) else none))) else ((f_X5_comesOfSpec G V (G 28 0 (Int32.toNatClampNeg q4_)) (nI j1)).bind (fun q16_ => oc q16_.1 ((f_X5_end G q16_.2 j1 5).bind (fun q17_ => some q17_)) (fun e16 => if e16 < 24 then (if ¬ (y5 < 0 ∨ 4 ≤ Int32.toNatClampNeg y5) then (if G 27 0 (Int32.toNatClampNeg q4_) = 0 then ((f_X5_startPlaces_3 G kR n) j1 y3 y4 (y5 + 1) (pt q16_.2 9 j1 (Int32.toNatClampNeg y5) (nI e16))) else ((kR e16 0 4 (y4 + 1) (pt q16_.2 9 j1 (Int32.toNatClampNeg y5) (nI e16))).bind (fun q20_ => (f_X5_startPlaces_3 G kR n) j1 y3 y4 (y5 + 1) q20_))) else none) else none)))) else none) else none) else ((f_X5_startPlaces_3 G kR n) j1 y3 y4 (y5 + 1) V)))))))
def f_X5_startPlaces (G : MT) : Nat → Nat → Int32 → Int32 → Int32 → MT → Option (MT)
  | 0, _, _, _, _, _ => none
  | d + 1, i1, x2, x3, x4, V => f_X5_startPlaces_3 G (f_X5_startPlaces G d)  30 i1 x3 x4 x2 V
def rm_X5_startPlaces (d : Nat) : Room := { frames := 1 + d, cells := 0, slots := 0, locals := 23 + 29 * d }
set_option maxRecDepth 20000 in
set_option maxHeartbeats 4000000 in
theorem l_X5_startPlaces_3 {p : Program} {l : Launch} {e : Env} {s : State} {m : MethodId} {args : Array Value} {below : List Frame} {meth : Method} {c : Code} {D : va_G} {ad : Nat → Nat → Nat → Nat} {cI cZ cP : ClassId} {A : Nat → Prop} {G U : MT} {V' : MT} (X : MX p s m args meth c cX5_startPlaces RX5 10 none D ad cI cZ cP A) {w : Nat} (hw : w < 2) {d : Nat} (kR : Nat → Int32 → Int32 → Int32 → MT → Option (MT)) (ihR : ∀ {i1 : Nat} {x2 : Int32} {x3 : Int32} {x4 : Int32} {V : MT} {V' : MT}, i1 < 24 → kR i1 x2 x3 x4 V = some V' → Met l yX5_startPlaces (.code yX5_startPlaces cX5_startPlaces 10 none :: WM) (rm_X5_startPlaces d) (PcM D ad cI cZ cP A [.ref (ad w 0 0), .ref (ad w 7 i1), .int x2, .int x3, .int x4] (Pic D ad cI cZ cP w G V U)) (QcV A (Pic D ad cI cZ cP w G V' U)) 0 0 A) (n : Nat) : ∀ {H : Heap} {locs : List Loc} {ls : Array Slot} (j1 : Nat) (y3 : Int32) (y4 : Int32) (y5 : Int32) (V : MT), j1 < 24 → Pic D ad cI cZ cP w G V U H → va_S A s.heap H locs → lv_has ls 10 [(0, .ref (ad w 0 0)), (1, .ref (ad w 7 j1)), (3, .int y3), (4, .int y4), (5, .int y5)] → f_X5_startPlaces_3 G kR n j1 y3 y4 y5 V = some V' → W p l e (rm_X5_startPlaces (d + 1)) s m args below meth c H locs 0 0 (MQ below (QcV A (Pic D ad cI cZ cP w G V' U)) args s 0 0 A) (F0 m 3 ls []) := by
  obtain ⟨hx, hb, hml, hown, htm, hr, hlk, hE⟩ := id X
  induction n with
  | zero =>
    intros
    exact ns_S (by assumption)
  | succ n ih3 =>
    intro H locs ls j1 y3 y4 y5 V hj1  hP hS hl hF
    rw [f_X5_startPlaces_3] at hF
    refine lv_iload hx hb dX5_startPlaces_3 (lv_at hl 4 rfl) ?_
    refine lv_iload_n hx hb dX5_startPlaces_5 rfl (lv_at hl 2 rfl) ?_
    refine lv_icmp_ge (tgt := 155) hx hb dX5_startPlaces_6 (by decide) (fun c1 => ?_) (fun c1 => ?_)
    · have hF := ite_T c1 hF
      have e1 := Option.some.inj hF
      subst e1
      exact m_vret X hS hP dX5_startPlaces_155
    · have hF := ite_F c1 hF
      refine lv_iload hx hb dX5_startPlaces_9 (lv_at hl 4 rfl) ?_
      refine lv_iconst (v := 4) hx hb dX5_startPlaces_11 (by decide) ?_
      refine lv_icmp_ge (tgt := 155) hx hb dX5_startPlaces_12 (by decide) (fun c2 => ?_) (fun c2 => ?_)
      · have hF := ite_T c2 hF
        have e1 := Option.some.inj hF
        subst e1
        exact m_vret X hS hP dX5_startPlaces_155
      · have hF := ite_F c2 hF
        refine lv_iload hx hb dX5_startPlaces_15 (lv_at hl 3 rfl) ?_
        refine lv_iconst (v := 5) hx hb dX5_startPlaces_17 (by decide) ?_
        refine lv_icmp_ge (tgt := 155) hx hb dX5_startPlaces_18 (by decide) (fun c3 => ?_) (fun c3 => ?_)
        · have hF := ite_T c3 hF
          have e1 := Option.some.inj hF
          subst e1
          exact m_vret X hS hP dX5_startPlaces_155
        · have hF := ite_F c3 hF
          refine lv_aload_n hx hb dX5_startPlaces_21 rfl (lv_at hl 0 rfl) ?_
          refine gf_0_1 hx hb htm hown hE hP hw (htm _ qw_148) dX5_startPlaces_22 ?_
          refine lv_aload_n hx hb dX5_startPlaces_25 rfl (lv_at hl 1 rfl) ?_
          refine gf_7_3 hx hb htm hown hE hP hw hj1 (htm _ qw_181) dX5_startPlaces_26 ?_
          refine lv_iload hx hb dX5_startPlaces_29 (lv_at hl 4 rfl) ?_
          obtain ⟨r4, hc4, hF⟩ := ob_S hF
          refine m_cVi X hS vw_X3_placeAt qw_194 (c_X3_placeAt hw hc4) ⟨rfl, rfl⟩ ⟨by simp only [rm_X5_startPlaces, rm_X3_placeAt]; omega, by simp only [rm_X5_startPlaces, rm_X3_placeAt]; omega⟩ (rc_22 hE hP) hP rfl hl.1 (rest := []) rfl (Nat.le_of_ble_eq_true rfl) dX5_startPlaces_31 (fun H locs hP hS => ?_)
          refine lv_istore (lv' := [(6, .int r4), (0, .ref (ad w 0 0)), (1, .ref (ad w 7 j1)), (3, .int y3), (4, .int y4), (5, .int y5)]) hx hb dX5_startPlaces_34 hl (by decide) rfl (fun ls hl => ?_)
          refine lv_iload hx hb dX5_startPlaces_36 (lv_at hl 0 rfl) ?_
          refine lv_iconst (v := (-1)) hx hb dX5_startPlaces_38 (by decide) ?_
          refine lv_icmp_eq (tgt := 149) hx hb dX5_startPlaces_39 (by decide) (fun c5 => ?_) (fun c5 => ?_)
          · have hF := ite_T c5 hF
            refine lv_iinc (v := y5 + 1) (lv' := [(5, .int (y5 + 1)), (6, .int r4), (0, .ref (ad w 0 0)), (1, .ref (ad w 7 j1)), (3, .int y3), (4, .int y4)]) hx hb dX5_startPlaces_149 hl (k := 5) rfl rfl (by decide) rfl (fun ls hl => ?_)
            refine lv_goto (tgt := 3) hx hb dX5_startPlaces_152 (by decide) ?_
            exact ih3 _ _ _ _ _ hj1 hP hS (lv_sub hl [2, 3, 4, 5, 0] rfl) hF
          · have hF := ite_F c5 hF
            refine lv_aload_n hx hb dX5_startPlaces_42 rfl (lv_at hl 2 rfl) ?_
            refine lv_iload hx hb dX5_startPlaces_43 (lv_at hl 5 rfl) ?_
            obtain ⟨r6, hc6, hF⟩ := ob_S hF
            refine m_cVi X hS vw_X2_isEmptyPlace qw_197 (c_X2_isEmptyPlace hw hj1 hc6) ⟨rfl, rfl⟩ ⟨by simp only [rm_X5_startPlaces, rm_X2_isEmptyPlace]; omega, by simp only [rm_X5_startPlaces, rm_X2_isEmptyPlace]; omega⟩ (rc_7 hE hP hw hj1) hP rfl hl.1 (rest := []) rfl (Nat.le_of_ble_eq_true rfl) dX5_startPlaces_45 (fun H locs hP hS => ?_)
            refine lv_if_eq (tgt := 54) hx hb dX5_startPlaces_48 (by decide) (fun c7 => ?_) (fun c7 => ?_)
            · have hF := ite_T c7 hF
              refine lv_aload_n hx hb dX5_startPlaces_54 rfl (lv_at hl 1 rfl) ?_
              refine gf_0_1 hx hb htm hown hE hP hw (htm _ qw_148) dX5_startPlaces_55 ?_
              refine gf_22_5 hx hb htm hown hE hP (htm _ qw_191) dX5_startPlaces_58 ?_
              refine lv_iload hx hb dX5_startPlaces_61 (lv_at hl 0 rfl) ?_
              obtain ⟨hn8, hF⟩ := ite_S hF
              refine mzl hx hb htm hown hE hP hn8 dX5_startPlaces_63 ?_
              refine lv_istore (lv' := [(7, .int (G 27 0 (Int32.toNatClampNeg r4))), (6, .int r4), (0, .ref (ad w 0 0)), (1, .ref (ad w 7 j1)), (3, .int y3), (4, .int y4), (5, .int y5)]) hx hb dX5_startPlaces_64 hl (by decide) rfl (fun ls hl => ?_)
              refine lv_aload_n hx hb dX5_startPlaces_66 rfl (lv_at hl 2 rfl) ?_
              refine gf_0_1 hx hb htm hown hE hP hw (htm _ qw_148) dX5_startPlaces_67 ?_
              refine gf_22_6 hx hb htm hown hE hP (htm _ qw_192) dX5_startPlaces_70 ?_
              refine lv_iload hx hb dX5_startPlaces_73 (lv_at hl 1 rfl) ?_
              obtain ⟨hn9, hF⟩ := ite_S hF
              refine al_28 hx hb htm hown hE hP hn9 dX5_startPlaces_75 ?_
              refine lv_istore (lv' := [(8, .int (G 28 0 (Int32.toNatClampNeg r4))), (7, .int (G 27 0 (Int32.toNatClampNeg r4))), (6, .int r4), (0, .ref (ad w 0 0)), (1, .ref (ad w 7 j1)), (3, .int y3), (4, .int y4), (5, .int y5)]) hx hb dX5_startPlaces_76 hl (by decide) rfl (fun ls hl => ?_)
              refine lv_iload hx hb dX5_startPlaces_78 (lv_at hl 1 rfl) ?_
              refine lv_if_eq (tgt := 96) hx hb dX5_startPlaces_80 (by decide) (fun c10 => ?_) (fun c10 => ?_)
              · have hF := ite_T c10 hF
                refine lv_aload_n hx hb dX5_startPlaces_96 rfl (lv_at hl 3 rfl) ?_
                refine lv_iload hx hb dX5_startPlaces_97 (lv_at hl 0 rfl) ?_
                refine lv_aload_n hx hb dX5_startPlaces_99 rfl (lv_at hl 4 rfl) ?_
                refine gf_7_0 hx hb htm hown hE hP hw hj1 (htm _ qw_189) dX5_startPlaces_100 ?_
                obtain ⟨⟨r11, V11⟩, hc11, hF⟩ := ob_S hF
                refine m_cVq X hS vw_X5_comesOfModule qw_204 (c_X5_comesOfModule hw hc11) ⟨rfl, rfl⟩ ⟨by simp only [rm_X5_startPlaces, rm_X5_comesOfModule]; omega, by simp only [rm_X5_startPlaces, rm_X5_comesOfModule]; omega⟩ (rc_0 hE hP hw) hP rfl hl.1 (rest := []) rfl (Nat.le_of_ble_eq_true rfl) dX5_startPlaces_103 (fun H locs hP hS => ?_)
                rcases r11 with _ | e11
                · have hF := oc_N hF
                  refine lv_astoreN (lv' := [(9, .null), (8, .int (G 28 0 (Int32.toNatClampNeg r4))), (7, .int (G 27 0 (Int32.toNatClampNeg r4))), (6, .int r4), (0, .ref (ad w 0 0)), (1, .ref (ad w 7 j1)), (3, .int y3), (4, .int y4), (5, .int y5)]) hx hb dX5_startPlaces_106 hl (by decide) rfl (fun ls hl => ?_)
                  refine lv_aloadN hx hb dX5_startPlaces_108 (lv_at hl 0 rfl) ?_
                  refine lv_ifnonnullN hx hb dX5_startPlaces_110 ?_
                  refine lv_aload_n hx hb dX5_startPlaces_113 rfl (lv_at hl 4 rfl) ?_
                  refine lv_aload_n hx hb dX5_startPlaces_114 rfl (lv_at hl 5 rfl) ?_
                  refine lv_iconst (v := 5) hx hb dX5_startPlaces_115 (by decide) ?_
                  obtain ⟨V12, hc12, hF⟩ := ob_S hF
                  refine m_cVv X hS vw_X5_end qw_207 (c_X5_end hw hj1 hc12) ⟨rfl, rfl⟩ ⟨by simp only [rm_X5_startPlaces, rm_X5_end]; omega, by simp only [rm_X5_startPlaces, rm_X5_end]; omega⟩ (rc_0 hE hP hw) hP rfl hl.1 (rest := []) rfl (Nat.le_of_ble_eq_true rfl) dX5_startPlaces_116 (fun H locs hP hS => ?_)
                  have e1 := Option.some.inj hF
                  subst e1
                  exact m_vret X hS hP dX5_startPlaces_119
                · obtain ⟨he11, hF⟩ := ite_S (oc_J hF)
                  refine lv_astore (lv' := [(9, .ref (ad w 7 e11)), (8, .int (G 28 0 (Int32.toNatClampNeg r4))), (7, .int (G 27 0 (Int32.toNatClampNeg r4))), (6, .int r4), (0, .ref (ad w 0 0)), (1, .ref (ad w 7 j1)), (3, .int y3), (4, .int y4), (5, .int y5)]) hx hb dX5_startPlaces_106 hl (by decide) rfl (fun ls hl => ?_)
                  refine lv_aload hx hb dX5_startPlaces_108 (lv_at hl 0 rfl) ?_
                  refine lv_ifnonnull (tgt := 120) hx hb dX5_startPlaces_110 (by decide) ?_
                  refine lv_aload_n hx hb dX5_startPlaces_120 rfl (lv_at hl 5 rfl) ?_
                  refine gf_7_16 hx hb htm hown hE hP hw hj1 (htm _ qw_193) dX5_startPlaces_121 ?_
                  refine lv_iload hx hb dX5_startPlaces_124 (lv_at hl 8 rfl) ?_
                  refine lv_aload hx hb dX5_startPlaces_126 (lv_at hl 0 rfl) ?_
                  refine gf_7_0 hx hb htm hown hE hP hw he11 (htm _ qw_189) dX5_startPlaces_128 ?_
                  obtain ⟨hn13, hF⟩ := ite_S hF
                  refine as_9 hx hb htm hown hE hP hS hw hj1 hn13 dX5_startPlaces_131 (fun H locs hP hS => ?_)
                  refine lv_iload hx hb dX5_startPlaces_132 (lv_at hl 2 rfl) ?_
                  refine lv_if_eq (tgt := 149) hx hb dX5_startPlaces_134 (by decide) (fun c14 => ?_) (fun c14 => ?_)
                  · have hF := ite_T c14 hF
                    refine lv_iinc (v := y5 + 1) (lv' := [(5, .int (y5 + 1)), (9, .ref (ad w 7 e11)), (8, .int (G 28 0 (Int32.toNatClampNeg r4))), (7, .int (G 27 0 (Int32.toNatClampNeg r4))), (6, .int r4), (0, .ref (ad w 0 0)), (1, .ref (ad w 7 j1)), (3, .int y3), (4, .int y4)]) hx hb dX5_startPlaces_149 hl (k := 8) rfl rfl (by decide) rfl (fun ls hl => ?_)
                    refine lv_goto (tgt := 3) hx hb dX5_startPlaces_152 (by decide) ?_
                    exact ih3 _ _ _ _ _ hj1 hP hS (lv_sub hl [5, 6, 7, 8, 0] rfl) hF
                  · have hF := ite_F c14 hF
                    refine lv_aload_n hx hb dX5_startPlaces_137 rfl (lv_at hl 4 rfl) ?_
                    refine lv_aload hx hb dX5_startPlaces_138 (lv_at hl 0 rfl) ?_
                    refine lv_iconst (v := 0) hx hb dX5_startPlaces_140 (by decide) ?_
                    refine lv_iconst (v := 4) hx hb dX5_startPlaces_141 (by decide) ?_
                    refine lv_iload hx hb dX5_startPlaces_142 (lv_at hl 7 rfl) ?_
                    refine lv_iconst (v := 1) hx hb dX5_startPlaces_144 (by decide) ?_
                    refine lv_iadd hx hb dX5_startPlaces_145 ?_
                    obtain ⟨V15, hc15, hF⟩ := ob_S hF
                    refine m_cSv X hS sw_X5_startPlaces qw_210 (ihR he11 hc15) ⟨rfl, rfl⟩ ⟨by simp only [rm_X5_startPlaces, rm_X5_startPlaces]; omega, by simp only [rm_X5_startPlaces, rm_X5_startPlaces]; omega⟩ hP rfl hl.1 (rest := []) rfl (Nat.le_of_ble_eq_true rfl) dX5_startPlaces_146 (fun H locs hP hS => ?_)
                    refine lv_iinc (v := y5 + 1) (lv' := [(5, .int (y5 + 1)), (9, .ref (ad w 7 e11)), (8, .int (G 28 0 (Int32.toNatClampNeg r4))), (7, .int (G 27 0 (Int32.toNatClampNeg r4))), (6, .int r4), (0, .ref (ad w 0 0)), (1, .ref (ad w 7 j1)), (3, .int y3), (4, .int y4)]) hx hb dX5_startPlaces_149 hl (k := 8) rfl rfl (by decide) rfl (fun ls hl => ?_)
                    refine lv_goto (tgt := 3) hx hb dX5_startPlaces_152 (by decide) ?_
                    exact ih3 _ _ _ _ _ hj1 hP hS (lv_sub hl [5, 6, 7, 8, 0] rfl) hF
              · have hF := ite_F c10 hF
                refine lv_aload_n hx hb dX5_startPlaces_83 rfl (lv_at hl 3 rfl) ?_
                refine lv_iload hx hb dX5_startPlaces_84 (lv_at hl 0 rfl) ?_
                refine lv_aload_n hx hb dX5_startPlaces_86 rfl (lv_at hl 4 rfl) ?_
                refine gf_7_0 hx hb htm hown hE hP hw hj1 (htm _ qw_189) dX5_startPlaces_87 ?_
                obtain ⟨⟨r16, V16⟩, hc16, hF⟩ := ob_S hF
                refine m_cVq X hS vw_X5_comesOfSpec qw_200 (c_X5_comesOfSpec hw hc16) ⟨rfl, rfl⟩ ⟨by simp only [rm_X5_startPlaces, rm_X5_comesOfSpec]; omega, by simp only [rm_X5_startPlaces, rm_X5_comesOfSpec]; omega⟩ (rc_0 hE hP hw) hP rfl hl.1 (rest := []) rfl (Nat.le_of_ble_eq_true rfl) dX5_startPlaces_90 (fun H locs hP hS => ?_)
                rcases r16 with _ | e16
                · have hF := oc_N hF
                  refine lv_goto (tgt := 106) hx hb dX5_startPlaces_93 (by decide) ?_
                  refine lv_astoreN (lv' := [(9, .null), (8, .int (G 28 0 (Int32.toNatClampNeg r4))), (7, .int (G 27 0 (Int32.toNatClampNeg r4))), (6, .int r4), (0, .ref (ad w 0 0)), (1, .ref (ad w 7 j1)), (3, .int y3), (4, .int y4), (5, .int y5)]) hx hb dX5_startPlaces_106 hl (by decide) rfl (fun ls hl => ?_)
                  refine lv_aloadN hx hb dX5_startPlaces_108 (lv_at hl 0 rfl) ?_
                  refine lv_ifnonnullN hx hb dX5_startPlaces_110 ?_
                  refine lv_aload_n hx hb dX5_startPlaces_113 rfl (lv_at hl 4 rfl) ?_
                  refine lv_aload_n hx hb dX5_startPlaces_114 rfl (lv_at hl 5 rfl) ?_
                  refine lv_iconst (v := 5) hx hb dX5_startPlaces_115 (by decide) ?_
                  obtain ⟨V17, hc17, hF⟩ := ob_S hF
                  refine m_cVv X hS vw_X5_end qw_207 (c_X5_end hw hj1 hc17) ⟨rfl, rfl⟩ ⟨by simp only [rm_X5_startPlaces, rm_X5_end]; omega, by simp only [rm_X5_startPlaces, rm_X5_end]; omega⟩ (rc_0 hE hP hw) hP rfl hl.1 (rest := []) rfl (Nat.le_of_ble_eq_true rfl) dX5_startPlaces_116 (fun H locs hP hS => ?_)
                  have e1 := Option.some.inj hF
                  subst e1
                  exact m_vret X hS hP dX5_startPlaces_119
                · obtain ⟨he16, hF⟩ := ite_S (oc_J hF)
                  refine lv_goto (tgt := 106) hx hb dX5_startPlaces_93 (by decide) ?_
                  refine lv_astore (lv' := [(9, .ref (ad w 7 e16)), (8, .int (G 28 0 (Int32.toNatClampNeg r4))), (7, .int (G 27 0 (Int32.toNatClampNeg r4))), (6, .int r4), (0, .ref (ad w 0 0)), (1, .ref (ad w 7 j1)), (3, .int y3), (4, .int y4), (5, .int y5)]) hx hb dX5_startPlaces_106 hl (by decide) rfl (fun ls hl => ?_)
                  refine lv_aload hx hb dX5_startPlaces_108 (lv_at hl 0 rfl) ?_
                  refine lv_ifnonnull (tgt := 120) hx hb dX5_startPlaces_110 (by decide) ?_
                  refine lv_aload_n hx hb dX5_startPlaces_120 rfl (lv_at hl 5 rfl) ?_
                  refine gf_7_16 hx hb htm hown hE hP hw hj1 (htm _ qw_193) dX5_startPlaces_121 ?_
                  refine lv_iload hx hb dX5_startPlaces_124 (lv_at hl 8 rfl) ?_
                  refine lv_aload hx hb dX5_startPlaces_126 (lv_at hl 0 rfl) ?_
                  refine gf_7_0 hx hb htm hown hE hP hw he16 (htm _ qw_189) dX5_startPlaces_128 ?_
                  obtain ⟨hn18, hF⟩ := ite_S hF
                  refine as_9 hx hb htm hown hE hP hS hw hj1 hn18 dX5_startPlaces_131 (fun H locs hP hS => ?_)
                  refine lv_iload hx hb dX5_startPlaces_132 (lv_at hl 2 rfl) ?_
                  refine lv_if_eq (tgt := 149) hx hb dX5_startPlaces_134 (by decide) (fun c19 => ?_) (fun c19 => ?_)
                  · have hF := ite_T c19 hF
                    refine lv_iinc (v := y5 + 1) (lv' := [(5, .int (y5 + 1)), (9, .ref (ad w 7 e16)), (8, .int (G 28 0 (Int32.toNatClampNeg r4))), (7, .int (G 27 0 (Int32.toNatClampNeg r4))), (6, .int r4), (0, .ref (ad w 0 0)), (1, .ref (ad w 7 j1)), (3, .int y3), (4, .int y4)]) hx hb dX5_startPlaces_149 hl (k := 8) rfl rfl (by decide) rfl (fun ls hl => ?_)
                    refine lv_goto (tgt := 3) hx hb dX5_startPlaces_152 (by decide) ?_
                    exact ih3 _ _ _ _ _ hj1 hP hS (lv_sub hl [5, 6, 7, 8, 0] rfl) hF
                  · have hF := ite_F c19 hF
                    refine lv_aload_n hx hb dX5_startPlaces_137 rfl (lv_at hl 4 rfl) ?_
                    refine lv_aload hx hb dX5_startPlaces_138 (lv_at hl 0 rfl) ?_
                    refine lv_iconst (v := 0) hx hb dX5_startPlaces_140 (by decide) ?_
                    refine lv_iconst (v := 4) hx hb dX5_startPlaces_141 (by decide) ?_
                    refine lv_iload hx hb dX5_startPlaces_142 (lv_at hl 7 rfl) ?_
                    refine lv_iconst (v := 1) hx hb dX5_startPlaces_144 (by decide) ?_
                    refine lv_iadd hx hb dX5_startPlaces_145 ?_
                    obtain ⟨V20, hc20, hF⟩ := ob_S hF
                    refine m_cSv X hS sw_X5_startPlaces qw_210 (ihR he16 hc20) ⟨rfl, rfl⟩ ⟨by simp only [rm_X5_startPlaces, rm_X5_startPlaces]; omega, by simp only [rm_X5_startPlaces, rm_X5_startPlaces]; omega⟩ hP rfl hl.1 (rest := []) rfl (Nat.le_of_ble_eq_true rfl) dX5_startPlaces_146 (fun H locs hP hS => ?_)
                    refine lv_iinc (v := y5 + 1) (lv' := [(5, .int (y5 + 1)), (9, .ref (ad w 7 e16)), (8, .int (G 28 0 (Int32.toNatClampNeg r4))), (7, .int (G 27 0 (Int32.toNatClampNeg r4))), (6, .int r4), (0, .ref (ad w 0 0)), (1, .ref (ad w 7 j1)), (3, .int y3), (4, .int y4)]) hx hb dX5_startPlaces_149 hl (k := 8) rfl rfl (by decide) rfl (fun ls hl => ?_)
                    refine lv_goto (tgt := 3) hx hb dX5_startPlaces_152 (by decide) ?_
                    exact ih3 _ _ _ _ _ hj1 hP hS (lv_sub hl [5, 6, 7, 8, 0] rfl) hF
            · have hF := ite_F c7 hF
              refine lv_goto (tgt := 149) hx hb dX5_startPlaces_51 (by decide) ?_
              refine lv_iinc (v := y5 + 1) (lv' := [(5, .int (y5 + 1)), (6, .int r4), (0, .ref (ad w 0 0)), (1, .ref (ad w 7 j1)), (3, .int y3), (4, .int y4)]) hx hb dX5_startPlaces_149 hl (k := 5) rfl rfl (by decide) rfl (fun ls hl => ?_)
              refine lv_goto (tgt := 3) hx hb dX5_startPlaces_152 (by decide) ?_
              exact ih3 _ _ _ _ _ hj1 hP hS (lv_sub hl [2, 3, 4, 5, 0] rfl) hF
set_option maxRecDepth 20000 in
set_option maxHeartbeats 4000000 in
theorem c_X5_startPlaces {l : Launch} {D : va_G} {ad : Nat → Nat → Nat → Nat} {cI cZ cP : ClassId} {A : Nat → Prop} {w : Nat} (hw : w < 2) {G U : MT} (d : Nat) : ∀ {i1 : Nat} {x2 : Int32} {x3 : Int32} {x4 : Int32} {V : MT} {V' : MT}, i1 < 24 → f_X5_startPlaces G d i1 x2 x3 x4 V = some V' → Met l yX5_startPlaces (.code yX5_startPlaces cX5_startPlaces 10 none :: WM) (rm_X5_startPlaces d) (PcM D ad cI cZ cP A [.ref (ad w 0 0), .ref (ad w 7 i1), .int x2, .int x3, .int x4] (Pic D ad cI cZ cP w G V U)) (QcV A (Pic D ad cI cZ cP w G V' U)) 0 0 A := by
  induction d with
  | zero =>
    intros
    exact ns_S (by assumption)
  | succ d ihR =>
  intro i1 x2 x3 x4 V V' hi1 hF
  rw [f_X5_startPlaces] at hF
  refine m_entry (by decide) (Nat.le_of_ble_eq_true rfl) (fun p e s m below meth c ls X hP hS hl => ?_)
  have X : MX p s m _ meth c cX5_startPlaces RX5 10 none D ad cI cZ cP A := X
  obtain ⟨hx, hb, hml, hown, htm, hr, hlk, hE⟩ := id X
  have hl : lv_has ls 10 [(0, .ref (ad w 0 0)), (1, .ref (ad w 7 i1)), (2, .int x2), (3, .int x3), (4, .int x4)] := hl
  refine lv_iload_n hx hb dX5_startPlaces_0 rfl (lv_at hl 2 rfl) ?_
  refine lv_istore (lv' := [(5, .int x2), (0, .ref (ad w 0 0)), (1, .ref (ad w 7 i1)), (2, .int x2), (3, .int x3), (4, .int x4)]) hx hb dX5_startPlaces_1 hl (by decide) rfl (fun ls hl => ?_)
  exact l_X5_startPlaces_3 X hw (f_X5_startPlaces G d) ihR  30 _ _ _ _ _ hi1 hP hS (lv_sub hl [1, 2, 4, 5, 0] rfl) hF
