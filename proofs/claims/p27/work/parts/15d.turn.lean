theorem vw_X5_doTurn : VW RX5 yX5_doTurn cX5_doTurn 5 (some .boolean) 0 := ⟨qw_453, qw_454, qw_203, qw_355, ⟨rfl, by decide, by decide, by decide +kernel⟩⟩
def f_X5_doTurn_27 (G : MT) : Nat → Nat → Int32 → MT → Option (Int32 × MT)
  | 0, _, _, _ => none
  | n + 1, j1, y2, V => if 20 ≤ y2 then (if V 7 j1 5 = 0 then ((f_X5_ready G V j1).bind (fun q5_ => some (1, q5_))) else (some (1, V))) else (if V 7 j1 5 = 0 then ((f_X1_lineAt G (V 7 j1 1) (V 7 j1 2) (V 7 j1 8)).bind (fun q9_ => if q9_ = (-1) then ((f_X5_end G V j1 0).bind (fun q20_ => (f_X5_settle G q20_).bind (fun q21_ => if q21_ 7 j1 5 = 0 then ((f_X5_doTurn_27 G n) j1 (y2 + 1) (pt q21_ 7 j1 8 (V 7 j1 8))) else ((f_X5_doTurn_27 G n) j1 (y2 + 1) q21_)))) else (if ¬ (q9_ < 0 ∨ 192 ≤ Int32.toNatClampNeg q9_) then ((f_X5_goesOut (G 19 0 (Int32.toNatClampNeg q9_))).bind (fun q12_ => if q12_ = 0 then ((f_X5_doLine G (pt V 0 0 9 ((V 0 0 9) + 1)) j1 q9_).bind (fun q14_ => (f_X5_settle G q14_.2).bind (fun q15_ => if q15_ 7 j1 5 = 0 then ((f_X5_doTurn_27 G n) j1 (y2 + 1) (pt q15_ 7 j1 8 q14_.1)) else ((f_X5_doTurn_27 G n) j1 (y2 + 1) q15_)))) else ((f_X5_doLineOut G (pt V 0 0 9 ((V 0 0 9) + 1)) j1 q9_).bind (fun q17_ => (f_X5_settle G q17_.2).bind (fun q18_ => if q18_ 7 j1 5 = 0 then ((f_X5_doTurn_27 G n) j1 (y2 + 1) (pt q18_ 7 j1 8 q17_.1)) else ((f_X5_doTurn_27 G n) j1 (y2 + 1) q18_)))))) else none))) else (if V 7 j1 5 = 0 then ((f_X5_ready G V j1).bind (fun q8_ => some (1, q8_))) else (some (1, V))))
def f_X5_doTurn (G V : MT)  : Option (Int32 × MT) :=
  (f_X5_firstReady G V).bind (fun q1_ => oc q1_ (some (0, V)) (fun e1 => if e1 < 24 then ((f_X2_resume (pt V 0 0 8 ((V 0 0 8) + 1)) e1).bind (fun q2_ => f_X5_doTurn_27 G  30 e1 0 q2_)) else none))
def rm_X5_doTurn : Room := { frames := 11, cells := 0, slots := 0, locals := 304 }
set_option maxRecDepth 20000 in
set_option maxHeartbeats 4000000 in
theorem l_X5_doTurn_27 {p : Program} {l : Launch} {e : Env} {s : State} {m : MethodId} {args : Array Value} {below : List Frame} {meth : Method} {c : Code} {D : va_G} {ad : Nat → Nat → Nat → Nat} {cI cZ cP : ClassId} {A : Nat → Prop} {G U : MT} {r : Int32} {V' : MT} (X : MX p s m args meth c cX5_doTurn RX5 5 (some .boolean) D ad cI cZ cP A) {w : Nat} (hw : w < 2) (n : Nat) : ∀ {H : Heap} {locs : List Loc} {ls : Array Slot} (j1 : Nat) (y2 : Int32) (V : MT), j1 < 24 → Pic D ad cI cZ cP w G V U H → va_S A s.heap H locs → lv_has ls 5 [(0, .ref (ad w 0 0)), (1, .ref (ad w 7 j1)), (2, .int y2)] → f_X5_doTurn_27 G n j1 y2 V = some (r, V') → W p l e rm_X5_doTurn s m args below meth c H locs 0 0 (MQ below (QcI A r (Pic D ad cI cZ cP w G V' U)) args s 0 0 A) (F0 m 27 ls []) := by
  obtain ⟨hx, hb, hml, hown, htm, hr, hlk, hE⟩ := id X
  induction n with
  | zero =>
    intros
    exact ns_S (by assumption)
  | succ n ih27 =>
    intro H locs ls j1 y2 V hj1  hP hS hl hF
    rw [f_X5_doTurn_27] at hF
    refine lv_iload_n hx hb dX5_doTurn_27 rfl (lv_at hl 2 rfl) ?_
    refine lv_bipush (v := 20) hx hb dX5_doTurn_28 (by decide) ?_
    refine lv_icmp_ge (tgt := 145) hx hb dX5_doTurn_30 (by decide) (fun c3 => ?_) (fun c3 => ?_)
    · have hF := ite_T c3 hF
      refine lv_aload_n hx hb dX5_doTurn_145 rfl (lv_at hl 1 rfl) ?_
      refine gf_7_5 hx hb htm hown hE hP hw hj1 (htm _ qw_170) dX5_doTurn_146 ?_
      refine lv_if_ne (tgt := 157) hx hb dX5_doTurn_149 (by decide) (fun c4 => ?_) (fun c4 => ?_)
      · have hF := ite_F c4 hF
        refine lv_iconst (v := 1) hx hb dX5_doTurn_157 (by decide) ?_
        obtain ⟨e1, e2⟩ := Prod.mk.inj (Option.some.inj hF)
        subst e1
        subst e2
        exact m_zret X hS hP rfl (Or.inr rfl) dX5_doTurn_158
      · have hF := ite_T c4 hF
        refine lv_aload_n hx hb dX5_doTurn_152 rfl (lv_at hl 0 rfl) ?_
        refine lv_aload_n hx hb dX5_doTurn_153 rfl (lv_at hl 1 rfl) ?_
        obtain ⟨V5, hc5, hF⟩ := ob_S hF
        refine m_cVv X hS vw_X5_ready qw_229 (c_X5_ready hw hj1 hc5) ⟨rfl, rfl⟩ ⟨Nat.le_of_ble_eq_true rfl, Nat.le_of_ble_eq_true rfl⟩ (rc_0 hE hP hw) hP rfl hl.1 (rest := []) rfl (Nat.le_of_ble_eq_true rfl) dX5_doTurn_154 (fun H locs hP hS => ?_)
        refine lv_iconst (v := 1) hx hb dX5_doTurn_157 (by decide) ?_
        obtain ⟨e1, e2⟩ := Prod.mk.inj (Option.some.inj hF)
        subst e1
        subst e2
        exact m_zret X hS hP rfl (Or.inr rfl) dX5_doTurn_158
    · have hF := ite_F c3 hF
      refine lv_aload_n hx hb dX5_doTurn_33 rfl (lv_at hl 1 rfl) ?_
      refine gf_7_5 hx hb htm hown hE hP hw hj1 (htm _ qw_170) dX5_doTurn_34 ?_
      refine lv_if_ne (tgt := 145) hx hb dX5_doTurn_37 (by decide) (fun c6 => ?_) (fun c6 => ?_)
      · have hF := ite_F c6 hF
        refine lv_aload_n hx hb dX5_doTurn_145 rfl (lv_at hl 1 rfl) ?_
        refine gf_7_5 hx hb htm hown hE hP hw hj1 (htm _ qw_170) dX5_doTurn_146 ?_
        refine lv_if_ne (tgt := 157) hx hb dX5_doTurn_149 (by decide) (fun c7 => ?_) (fun c7 => ?_)
        · have hF := ite_F c7 hF
          refine lv_iconst (v := 1) hx hb dX5_doTurn_157 (by decide) ?_
          obtain ⟨e1, e2⟩ := Prod.mk.inj (Option.some.inj hF)
          subst e1
          subst e2
          exact m_zret X hS hP rfl (Or.inr rfl) dX5_doTurn_158
        · have hF := ite_T c7 hF
          refine lv_aload_n hx hb dX5_doTurn_152 rfl (lv_at hl 0 rfl) ?_
          refine lv_aload_n hx hb dX5_doTurn_153 rfl (lv_at hl 1 rfl) ?_
          obtain ⟨V8, hc8, hF⟩ := ob_S hF
          refine m_cVv X hS vw_X5_ready qw_229 (c_X5_ready hw hj1 hc8) ⟨rfl, rfl⟩ ⟨Nat.le_of_ble_eq_true rfl, Nat.le_of_ble_eq_true rfl⟩ (rc_0 hE hP hw) hP rfl hl.1 (rest := []) rfl (Nat.le_of_ble_eq_true rfl) dX5_doTurn_154 (fun H locs hP hS => ?_)
          refine lv_iconst (v := 1) hx hb dX5_doTurn_157 (by decide) ?_
          obtain ⟨e1, e2⟩ := Prod.mk.inj (Option.some.inj hF)
          subst e1
          subst e2
          exact m_zret X hS hP rfl (Or.inr rfl) dX5_doTurn_158
      · have hF := ite_T c6 hF
        refine lv_aload_n hx hb dX5_doTurn_40 rfl (lv_at hl 0 rfl) ?_
        refine gf_0_0 hx hb htm hown hE hP hw (htm _ qw_147) dX5_doTurn_41 ?_
        refine lv_aload_n hx hb dX5_doTurn_44 rfl (lv_at hl 1 rfl) ?_
        refine gf_7_1 hx hb htm hown hE hP hw hj1 (htm _ qw_176) dX5_doTurn_45 ?_
        refine lv_aload_n hx hb dX5_doTurn_48 rfl (lv_at hl 1 rfl) ?_
        refine gf_7_2 hx hb htm hown hE hP hw hj1 (htm _ qw_177) dX5_doTurn_49 ?_
        refine lv_aload_n hx hb dX5_doTurn_52 rfl (lv_at hl 1 rfl) ?_
        refine gf_7_8 hx hb htm hown hE hP hw hj1 (htm _ qw_182) dX5_doTurn_53 ?_
        obtain ⟨r9, hc9, hF⟩ := ob_S hF
        refine m_cVi X hS vw_X1_lineAt qw_344 (c_X1_lineAt hw hc9) ⟨rfl, rfl⟩ ⟨Nat.le_of_ble_eq_true rfl, Nat.le_of_ble_eq_true rfl⟩ (rc_17 hE hP) hP rfl hl.1 (rest := []) rfl (Nat.le_of_ble_eq_true rfl) dX5_doTurn_56 (fun H locs hP hS => ?_)
        refine lv_istore_n (lv' := [(3, .int r9), (0, .ref (ad w 0 0)), (1, .ref (ad w 7 j1)), (2, .int y2)]) hx hb dX5_doTurn_59 rfl hl (by decide) rfl (fun ls hl => ?_)
        refine lv_aload_n hx hb dX5_doTurn_60 rfl (lv_at hl 2 rfl) ?_
        refine gf_7_8 hx hb htm hown hE hP hw hj1 (htm _ qw_182) dX5_doTurn_61 ?_
        refine lv_istore (lv' := [(4, .int (V 7 j1 8)), (3, .int r9), (0, .ref (ad w 0 0)), (1, .ref (ad w 7 j1)), (2, .int y2)]) hx hb dX5_doTurn_64 hl (by decide) rfl (fun ls hl => ?_)
        refine lv_iload_n hx hb dX5_doTurn_66 rfl (lv_at hl 1 rfl) ?_
        refine lv_iconst (v := (-1)) hx hb dX5_doTurn_67 (by decide) ?_
        refine lv_icmp_ne (tgt := 80) hx hb dX5_doTurn_68 (by decide) (fun c10 => ?_) (fun c10 => ?_)
        · have hF := ite_F c10 hF
          refine lv_aload_n hx hb dX5_doTurn_80 rfl (lv_at hl 2 rfl) ?_
          refine lv_dup hx hb dX5_doTurn_81 rfl ?_
          refine gf_0_9 hx hb htm hown hE hP hw (htm _ qw_160) dX5_doTurn_82 ?_
          refine lv_iconst (v := 1) hx hb dX5_doTurn_85 (by decide) ?_
          refine lv_iadd hx hb dX5_doTurn_86 ?_
          refine pf_0_9 hx hb htm hown hE hP hS hw (htm _ qw_160) dX5_doTurn_87 (fun H locs hP hS => ?_)
          refine lv_aload_n hx hb dX5_doTurn_90 rfl (lv_at hl 2 rfl) ?_
          refine gf_0_0 hx hb htm hown hE hP hw (htm _ qw_147) dX5_doTurn_91 ?_
          refine gf_17_2 hx hb htm hown hE hP (htm _ qw_309) dX5_doTurn_94 ?_
          refine lv_iload_n hx hb dX5_doTurn_97 rfl (lv_at hl 1 rfl) ?_
          obtain ⟨hn11, hF⟩ := ite_S hF
          refine al_19 hx hb htm hown hE hP hn11 dX5_doTurn_98 ?_
          obtain ⟨r12, hc12, hF⟩ := ob_S hF
          refine m_cSi X hS sw_X5_goesOut qw_347 (c_X5_goesOut hc12) ⟨rfl, rfl⟩ ⟨Nat.le_of_ble_eq_true rfl, Nat.le_of_ble_eq_true rfl⟩ hP rfl hl.1 (rest := []) rfl (Nat.le_of_ble_eq_true rfl) dX5_doTurn_99 (fun H locs hP hS => ?_)
          refine lv_if_eq (tgt := 114) hx hb dX5_doTurn_102 (by decide) (fun c13 => ?_) (fun c13 => ?_)
          · have hF := ite_T c13 hF
            refine lv_aload_n hx hb dX5_doTurn_114 rfl (lv_at hl 2 rfl) ?_
            refine lv_aload_n hx hb dX5_doTurn_115 rfl (lv_at hl 3 rfl) ?_
            refine lv_iload_n hx hb dX5_doTurn_116 rfl (lv_at hl 1 rfl) ?_
            obtain ⟨⟨r14, V14⟩, hc14, hF⟩ := ob_S hF
            refine m_cVi X hS vw_X5_doLine qw_352 (c_X5_doLine hw hj1 hc14) ⟨rfl, rfl⟩ ⟨Nat.le_of_ble_eq_true rfl, Nat.le_of_ble_eq_true rfl⟩ (rc_0 hE hP hw) hP rfl hl.1 (rest := []) rfl (Nat.le_of_ble_eq_true rfl) dX5_doTurn_117 (fun H locs hP hS => ?_)
            refine lv_istore (lv' := [(4, .int r14), (3, .int r9), (0, .ref (ad w 0 0)), (1, .ref (ad w 7 j1)), (2, .int y2)]) hx hb dX5_doTurn_120 hl (by decide) rfl (fun ls hl => ?_)
            refine lv_aload_n hx hb dX5_doTurn_122 rfl (lv_at hl 2 rfl) ?_
            obtain ⟨V15, hc15, hF⟩ := ob_S hF
            refine m_cVv X hS vw_X5_settle qw_286 (c_X5_settle hw hc15) ⟨rfl, rfl⟩ ⟨Nat.le_of_ble_eq_true rfl, Nat.le_of_ble_eq_true rfl⟩ (rc_0 hE hP hw) hP rfl hl.1 (rest := []) rfl (Nat.le_of_ble_eq_true rfl) dX5_doTurn_123 (fun H locs hP hS => ?_)
            refine lv_aload_n hx hb dX5_doTurn_126 rfl (lv_at hl 3 rfl) ?_
            refine gf_7_5 hx hb htm hown hE hP hw hj1 (htm _ qw_170) dX5_doTurn_127 ?_
            refine lv_if_ne (tgt := 139) hx hb dX5_doTurn_130 (by decide) (fun c16 => ?_) (fun c16 => ?_)
            · have hF := ite_F c16 hF
              refine lv_iinc (v := y2 + 1) (lv' := [(2, .int (y2 + 1)), (4, .int r14), (3, .int r9), (0, .ref (ad w 0 0)), (1, .ref (ad w 7 j1))]) hx hb dX5_doTurn_139 hl (k := 4) rfl rfl (by decide) rfl (fun ls hl => ?_)
              refine lv_goto (tgt := 27) hx hb dX5_doTurn_142 (by decide) ?_
              exact ih27 _ _ _ hj1 hP hS (lv_sub hl [3, 4, 0] rfl) hF
            · have hF := ite_T c16 hF
              refine lv_aload_n hx hb dX5_doTurn_133 rfl (lv_at hl 3 rfl) ?_
              refine lv_iload hx hb dX5_doTurn_134 (lv_at hl 0 rfl) ?_
              refine pf_7_8 hx hb htm hown hE hP hS hw hj1 (htm _ qw_182) dX5_doTurn_136 (fun H locs hP hS => ?_)
              refine lv_iinc (v := y2 + 1) (lv' := [(2, .int (y2 + 1)), (4, .int r14), (3, .int r9), (0, .ref (ad w 0 0)), (1, .ref (ad w 7 j1))]) hx hb dX5_doTurn_139 hl (k := 4) rfl rfl (by decide) rfl (fun ls hl => ?_)
              refine lv_goto (tgt := 27) hx hb dX5_doTurn_142 (by decide) ?_
              exact ih27 _ _ _ hj1 hP hS (lv_sub hl [3, 4, 0] rfl) hF
          · have hF := ite_F c13 hF
            refine lv_aload_n hx hb dX5_doTurn_105 rfl (lv_at hl 2 rfl) ?_
            refine lv_aload_n hx hb dX5_doTurn_106 rfl (lv_at hl 3 rfl) ?_
            refine lv_iload_n hx hb dX5_doTurn_107 rfl (lv_at hl 1 rfl) ?_
            obtain ⟨⟨r17, V17⟩, hc17, hF⟩ := ob_S hF
            refine m_cVi X hS vw_X5_doLineOut qw_349 (c_X5_doLineOut hw hj1 hc17) ⟨rfl, rfl⟩ ⟨Nat.le_of_ble_eq_true rfl, Nat.le_of_ble_eq_true rfl⟩ (rc_0 hE hP hw) hP rfl hl.1 (rest := []) rfl (Nat.le_of_ble_eq_true rfl) dX5_doTurn_108 (fun H locs hP hS => ?_)
            refine lv_goto (tgt := 120) hx hb dX5_doTurn_111 (by decide) ?_
            refine lv_istore (lv' := [(4, .int r17), (3, .int r9), (0, .ref (ad w 0 0)), (1, .ref (ad w 7 j1)), (2, .int y2)]) hx hb dX5_doTurn_120 hl (by decide) rfl (fun ls hl => ?_)
            refine lv_aload_n hx hb dX5_doTurn_122 rfl (lv_at hl 2 rfl) ?_
            obtain ⟨V18, hc18, hF⟩ := ob_S hF
            refine m_cVv X hS vw_X5_settle qw_286 (c_X5_settle hw hc18) ⟨rfl, rfl⟩ ⟨Nat.le_of_ble_eq_true rfl, Nat.le_of_ble_eq_true rfl⟩ (rc_0 hE hP hw) hP rfl hl.1 (rest := []) rfl (Nat.le_of_ble_eq_true rfl) dX5_doTurn_123 (fun H locs hP hS => ?_)
            refine lv_aload_n hx hb dX5_doTurn_126 rfl (lv_at hl 3 rfl) ?_
            refine gf_7_5 hx hb htm hown hE hP hw hj1 (htm _ qw_170) dX5_doTurn_127 ?_
            refine lv_if_ne (tgt := 139) hx hb dX5_doTurn_130 (by decide) (fun c19 => ?_) (fun c19 => ?_)
            · have hF := ite_F c19 hF
              refine lv_iinc (v := y2 + 1) (lv' := [(2, .int (y2 + 1)), (4, .int r17), (3, .int r9), (0, .ref (ad w 0 0)), (1, .ref (ad w 7 j1))]) hx hb dX5_doTurn_139 hl (k := 4) rfl rfl (by decide) rfl (fun ls hl => ?_)
              refine lv_goto (tgt := 27) hx hb dX5_doTurn_142 (by decide) ?_
              exact ih27 _ _ _ hj1 hP hS (lv_sub hl [3, 4, 0] rfl) hF
            · have hF := ite_T c19 hF
              refine lv_aload_n hx hb dX5_doTurn_133 rfl (lv_at hl 3 rfl) ?_
              refine lv_iload hx hb dX5_doTurn_134 (lv_at hl 0 rfl) ?_
              refine pf_7_8 hx hb htm hown hE hP hS hw hj1 (htm _ qw_182) dX5_doTurn_136 (fun H locs hP hS => ?_)
              refine lv_iinc (v := y2 + 1) (lv' := [(2, .int (y2 + 1)), (4, .int r17), (3, .int r9), (0, .ref (ad w 0 0)), (1, .ref (ad w 7 j1))]) hx hb dX5_doTurn_139 hl (k := 4) rfl rfl (by decide) rfl (fun ls hl => ?_)
              refine lv_goto (tgt := 27) hx hb dX5_doTurn_142 (by decide) ?_
              exact ih27 _ _ _ hj1 hP hS (lv_sub hl [3, 4, 0] rfl) hF
        · have hF := ite_T c10 hF
          refine lv_aload_n hx hb dX5_doTurn_71 rfl (lv_at hl 2 rfl) ?_
          refine lv_aload_n hx hb dX5_doTurn_72 rfl (lv_at hl 3 rfl) ?_
          refine lv_iconst (v := 0) hx hb dX5_doTurn_73 (by decide) ?_
          obtain ⟨V20, hc20, hF⟩ := ob_S hF
          refine m_cVv X hS vw_X5_end qw_207 (c_X5_end hw hj1 hc20) ⟨rfl, rfl⟩ ⟨Nat.le_of_ble_eq_true rfl, Nat.le_of_ble_eq_true rfl⟩ (rc_0 hE hP hw) hP rfl hl.1 (rest := []) rfl (Nat.le_of_ble_eq_true rfl) dX5_doTurn_74 (fun H locs hP hS => ?_)
          refine lv_goto (tgt := 122) hx hb dX5_doTurn_77 (by decide) ?_
          refine lv_aload_n hx hb dX5_doTurn_122 rfl (lv_at hl 2 rfl) ?_
          obtain ⟨V21, hc21, hF⟩ := ob_S hF
          refine m_cVv X hS vw_X5_settle qw_286 (c_X5_settle hw hc21) ⟨rfl, rfl⟩ ⟨Nat.le_of_ble_eq_true rfl, Nat.le_of_ble_eq_true rfl⟩ (rc_0 hE hP hw) hP rfl hl.1 (rest := []) rfl (Nat.le_of_ble_eq_true rfl) dX5_doTurn_123 (fun H locs hP hS => ?_)
          refine lv_aload_n hx hb dX5_doTurn_126 rfl (lv_at hl 3 rfl) ?_
          refine gf_7_5 hx hb htm hown hE hP hw hj1 (htm _ qw_170) dX5_doTurn_127 ?_
          refine lv_if_ne (tgt := 139) hx hb dX5_doTurn_130 (by decide) (fun c22 => ?_) (fun c22 => ?_)
          · have hF := ite_F c22 hF
            refine lv_iinc (v := y2 + 1) (lv' := [(2, .int (y2 + 1)), (4, .int (V 7 j1 8)), (3, .int r9), (0, .ref (ad w 0 0)), (1, .ref (ad w 7 j1))]) hx hb dX5_doTurn_139 hl (k := 4) rfl rfl (by decide) rfl (fun ls hl => ?_)
            refine lv_goto (tgt := 27) hx hb dX5_doTurn_142 (by decide) ?_
            exact ih27 _ _ _ hj1 hP hS (lv_sub hl [3, 4, 0] rfl) hF
          · have hF := ite_T c22 hF
            refine lv_aload_n hx hb dX5_doTurn_133 rfl (lv_at hl 3 rfl) ?_
            refine lv_iload hx hb dX5_doTurn_134 (lv_at hl 0 rfl) ?_
            refine pf_7_8 hx hb htm hown hE hP hS hw hj1 (htm _ qw_182) dX5_doTurn_136 (fun H locs hP hS => ?_)
            refine lv_iinc (v := y2 + 1) (lv' := [(2, .int (y2 + 1)), (4, .int (V 7 j1 8)), (3, .int r9), (0, .ref (ad w 0 0)), (1, .ref (ad w 7 j1))]) hx hb dX5_doTurn_139 hl (k := 4) rfl rfl (by decide) rfl (fun ls hl => ?_)
            refine lv_goto (tgt := 27) hx hb dX5_doTurn_142 (by decide) ?_
            exact ih27 _ _ _ hj1 hP hS (lv_sub hl [3, 4, 0] rfl) hF
set_option maxRecDepth 20000 in
set_option maxHeartbeats 4000000 in
theorem c_X5_doTurn {l : Launch} {D : va_G} {ad : Nat → Nat → Nat → Nat} {cI cZ cP : ClassId} {A : Nat → Prop} {w : Nat} (hw : w < 2) {G V U : MT}  {r : Int32} {V' : MT}  (hF : f_X5_doTurn G V  = some (r, V')) : Met l yX5_doTurn (.code yX5_doTurn cX5_doTurn 5 (some .boolean) :: WM) rm_X5_doTurn (PcM D ad cI cZ cP A [.ref (ad w 0 0)] (Pic D ad cI cZ cP w G V U)) (QcI A r (Pic D ad cI cZ cP w G V' U)) 0 0 A := by
  refine m_entry (by decide) (Nat.le_of_ble_eq_true rfl) (fun p e s m below meth c ls X hP hS hl => ?_)
  have X : MX p s m _ meth c cX5_doTurn RX5 5 (some .boolean) D ad cI cZ cP A := X
  obtain ⟨hx, hb, hml, hown, htm, hr, hlk, hE⟩ := id X
  have hl : lv_has ls 5 [(0, .ref (ad w 0 0))] := hl
  refine lv_aload_n hx hb dX5_doTurn_0 rfl (lv_at hl 0 rfl) ?_
  obtain ⟨r1, hc1, hF⟩ := ob_S hF
  refine m_cVq X hS vw_X5_firstReady qw_338 (c_X5_firstReady hw hc1) ⟨rfl, rfl⟩ ⟨Nat.le_of_ble_eq_true rfl, Nat.le_of_ble_eq_true rfl⟩ (rc_0 hE hP hw) hP rfl hl.1 (rest := []) rfl (Nat.le_of_ble_eq_true rfl) dX5_doTurn_1 (fun H locs hP hS => ?_)
  rcases r1 with _ | e1
  · have hF := oc_N hF
    refine lv_astore_nN (lv' := [(1, .null), (0, .ref (ad w 0 0))]) hx hb dX5_doTurn_4 rfl hl (by decide) rfl (fun ls hl => ?_)
    refine lv_aload_nN hx hb dX5_doTurn_5 rfl (lv_at hl 0 rfl) ?_
    refine lv_ifnonnullN hx hb dX5_doTurn_6 ?_
    refine lv_iconst (v := 0) hx hb dX5_doTurn_9 (by decide) ?_
    obtain ⟨e1, e2⟩ := Prod.mk.inj (Option.some.inj hF)
    subst e1
    subst e2
    exact m_zret X hS hP rfl (Or.inl rfl) dX5_doTurn_10
  · obtain ⟨he1, hF⟩ := ite_S (oc_J hF)
    refine lv_astore_n (lv' := [(1, .ref (ad w 7 e1)), (0, .ref (ad w 0 0))]) hx hb dX5_doTurn_4 rfl hl (by decide) rfl (fun ls hl => ?_)
    refine lv_aload_n hx hb dX5_doTurn_5 rfl (lv_at hl 0 rfl) ?_
    refine lv_ifnonnull (tgt := 11) hx hb dX5_doTurn_6 (by decide) ?_
    refine lv_aload_n hx hb dX5_doTurn_11 rfl (lv_at hl 1 rfl) ?_
    refine lv_dup hx hb dX5_doTurn_12 rfl ?_
    refine gf_0_8 hx hb htm hown hE hP hw (htm _ qw_159) dX5_doTurn_13 ?_
    refine lv_iconst (v := 1) hx hb dX5_doTurn_16 (by decide) ?_
    refine lv_iadd hx hb dX5_doTurn_17 ?_
    refine pf_0_8 hx hb htm hown hE hP hS hw (htm _ qw_159) dX5_doTurn_18 (fun H locs hP hS => ?_)
    refine lv_aload_n hx hb dX5_doTurn_21 rfl (lv_at hl 0 rfl) ?_
    obtain ⟨V2, hc2, hF⟩ := ob_S hF
    refine m_cVv X hS vw_X2_resume qw_341 (c_X2_resume hw he1 hc2) ⟨rfl, rfl⟩ ⟨Nat.le_of_ble_eq_true rfl, Nat.le_of_ble_eq_true rfl⟩ (rc_7 hE hP hw he1) hP rfl hl.1 (rest := []) rfl (Nat.le_of_ble_eq_true rfl) dX5_doTurn_22 (fun H locs hP hS => ?_)
    refine lv_iconst (v := 0) hx hb dX5_doTurn_25 (by decide) ?_
    refine lv_istore_n (lv' := [(2, .int 0), (1, .ref (ad w 7 e1)), (0, .ref (ad w 0 0))]) hx hb dX5_doTurn_26 rfl hl (by decide) rfl (fun ls hl => ?_)
    exact l_X5_doTurn_27 X hw  30 _ _ _ he1 hP hS (lv_sub hl [2, 1, 0] rfl) hF
