theorem vw_X5_tellWatchers : VW RX5 yX5_tellWatchers cX5_tellWatchers 6 none 1 := ⟨qw_271, qw_272, qw_203, qw_240, ⟨rfl, by decide, by decide, by decide +kernel⟩⟩
def f_X5_tellWatchers_44 (G : MT) (k7 : Nat → Nat → Int32 → MT → Option (MT)) : Nat → Nat → Nat → Int32 → Int32 → Int32 → MT → Option (MT)
  | 0, _, _, _, _, _, _ => none
  | n + 1, j1, j2, y3, y4, y5, V => if ¬ (y3 < 0 ∨ 24 ≤ Int32.toNatClampNeg y3) then (if V 15 j2 (Int32.toNatClampNeg y3) ≤ y5 then (if ¬ (y3 < 0 ∨ 24 ≤ Int32.toNatClampNeg y3) then (k7 j1 j2 (y3 + 1) (pt V 0 0 7 ((V 0 0 7) + (if 0 < (V 15 j2 (Int32.toNatClampNeg y3)) - 8 then (V 15 j2 (Int32.toNatClampNeg y3)) - 8 else 0)))) else none) else (if 8 ≤ y5 then (if ¬ (y3 < 0 ∨ 24 ≤ Int32.toNatClampNeg y3) then (k7 j1 j2 (y3 + 1) (pt V 0 0 7 ((V 0 0 7) + (if 0 < (V 15 j2 (Int32.toNatClampNeg y3)) - 8 then (V 15 j2 (Int32.toNatClampNeg y3)) - 8 else 0)))) else none) else ((f_X5_putMail G V y4 2 ((10 * (nI j1)) + (V 7 j1 6))).bind (fun q10_ => (f_X5_tellWatchers_44 G k7 n) j1 j2 y3 y4 (y5 + 1) q10_.2)))) else none
def f_X5_tellWatchers_7 (G : MT) : Nat → Nat → Nat → Int32 → MT → Option (MT)
  | 0, _, _, _, _ => none
  | n + 1, j1, j2, y3, V => if V 13 j2 2 ≤ y3 then (some V) else (if 24 ≤ y3 then (some V) else (if ¬ (y3 < 0 ∨ 24 ≤ Int32.toNatClampNeg y3) then ((f_X5_living G V (V 14 j2 (Int32.toNatClampNeg y3))).bind (fun q4_ => oc q4_ ((f_X5_tellWatchers_7 G n) j1 j2 (y3 + 1) V) (fun e4 => if e4 < 24 then (f_X5_tellWatchers_44 G (f_X5_tellWatchers_7 G n) 30 j1 j2 y3 (V 14 j2 (Int32.toNatClampNeg y3)) 0 V) else none))) else none))
def f_X5_tellWatchers (G V : MT) (i1 : Nat) : Option (MT) :=
  f_X5_tellWatchers_7 G  30 i1 i1 0 V
def rm_X5_tellWatchers : Room := { frames := 2, cells := 0, slots := 0, locals := 46 }
set_option maxRecDepth 20000 in
set_option maxHeartbeats 4000000 in
theorem l_X5_tellWatchers_44 {p : Program} {l : Launch} {e : Env} {s : State} {m : MethodId} {args : Array Value} {below : List Frame} {meth : Method} {c : Code} {D : va_G} {ad : Nat → Nat → Nat → Nat} {cI cZ cP : ClassId} {A : Nat → Prop} {G U : MT} {V' : MT} (X : MX p s m args meth c cX5_tellWatchers RX5 6 none D ad cI cZ cP A) {w : Nat} (hw : w < 2) (k7 : Nat → Nat → Int32 → MT → Option (MT)) (ih7 : ∀ {H : Heap} {locs : List Loc} {ls : Array Slot} (j1 : Nat) (j2 : Nat) (y3 : Int32) (V : MT), j1 < 24 → j2 < 24 → Pic D ad cI cZ cP w G V U H → va_S A s.heap H locs → lv_has ls 6 [(0, .ref (ad w 0 0)), (1, .ref (ad w 7 j1)), (2, .ref (ad w 13 j2)), (3, .int y3)] → k7 j1 j2 y3 V = some V' → W p l e rm_X5_tellWatchers s m args below meth c H locs 0 0 (MQ below (QcV A (Pic D ad cI cZ cP w G V' U)) args s 0 0 A) (F0 m 7 ls [])) (n : Nat) : ∀ {H : Heap} {locs : List Loc} {ls : Array Slot} (j1 : Nat) (j2 : Nat) (y3 : Int32) (y4 : Int32) (y5 : Int32) (V : MT), j1 < 24 → j2 < 24 → Pic D ad cI cZ cP w G V U H → va_S A s.heap H locs → lv_has ls 6 [(0, .ref (ad w 0 0)), (1, .ref (ad w 7 j1)), (2, .ref (ad w 13 j2)), (3, .int y3), (4, .int y4), (5, .int y5)] → f_X5_tellWatchers_44 G k7 n j1 j2 y3 y4 y5 V = some V' → W p l e rm_X5_tellWatchers s m args below meth c H locs 0 0 (MQ below (QcV A (Pic D ad cI cZ cP w G V' U)) args s 0 0 A) (F0 m 44 ls []) := by
  obtain ⟨hx, hb, hml, hown, htm, hr, hlk, hE⟩ := id X
  induction n with
  | zero =>
    intros
    exact ns_S (by assumption)
  | succ n ih44 =>
    intro H locs ls j1 j2 y3 y4 y5 V hj1 hj2  hP hS hl hF
    rw [f_X5_tellWatchers_44] at hF
    refine lv_iload hx hb dX5_tellWatchers_44 (lv_at hl 5 rfl) ?_
    refine lv_aload_n hx hb dX5_tellWatchers_46 rfl (lv_at hl 2 rfl) ?_
    refine gf_13_1 hx hb htm hown hE hP hw hj2 (htm _ qw_236) dX5_tellWatchers_47 ?_
    refine lv_iload_n hx hb dX5_tellWatchers_50 rfl (lv_at hl 3 rfl) ?_
    obtain ⟨hn5, hF⟩ := ite_S hF
    refine al_15 hx hb htm hown hE hP hw hj2 hn5 dX5_tellWatchers_51 ?_
    refine lv_icmp_ge (tgt := 88) hx hb dX5_tellWatchers_52 (by decide) (fun c6 => ?_) (fun c6 => ?_)
    · have hF := ite_T c6 hF
      refine lv_aload_n hx hb dX5_tellWatchers_88 rfl (lv_at hl 0 rfl) ?_
      refine lv_dup hx hb dX5_tellWatchers_89 rfl ?_
      refine gf_0_7 hx hb htm hown hE hP hw (htm _ qw_158) dX5_tellWatchers_90 ?_
      refine lv_iconst (v := 0) hx hb dX5_tellWatchers_93 (by decide) ?_
      refine lv_aload_n hx hb dX5_tellWatchers_94 rfl (lv_at hl 2 rfl) ?_
      refine gf_13_1 hx hb htm hown hE hP hw hj2 (htm _ qw_236) dX5_tellWatchers_95 ?_
      refine lv_iload_n hx hb dX5_tellWatchers_98 rfl (lv_at hl 3 rfl) ?_
      obtain ⟨hn7, hF⟩ := ite_S hF
      refine al_15 hx hb htm hown hE hP hw hj2 hn7 dX5_tellWatchers_99 ?_
      refine lv_bipush (v := 8) hx hb dX5_tellWatchers_100 (by decide) ?_
      refine lv_isub hx hb dX5_tellWatchers_102 ?_
      refine va_mmax hx hb (hml.trans hl.1.symm) hown (htm _ qw_156) (htm _ qw_97) (htm _ qw_94) (htm _ qw_98) (Nat.le_of_ble_eq_true rfl) (Nat.le_of_ble_eq_true rfl) (Nat.zero_le _) (Nat.zero_le _) dX5_tellWatchers_103 ?_
      refine lv_iadd hx hb dX5_tellWatchers_106 ?_
      refine pf_0_7 hx hb htm hown hE hP hS hw (htm _ qw_158) dX5_tellWatchers_107 (fun H locs hP hS => ?_)
      refine lv_iinc (v := y3 + 1) (lv' := [(3, .int (y3 + 1)), (0, .ref (ad w 0 0)), (1, .ref (ad w 7 j1)), (2, .ref (ad w 13 j2)), (4, .int y4), (5, .int y5)]) hx hb dX5_tellWatchers_110 hl (k := 3) rfl rfl (by decide) rfl (fun ls hl => ?_)
      refine lv_goto (tgt := 7) hx hb dX5_tellWatchers_113 (by decide) ?_
      exact ih7 _ _ _ _ hj1 hj2 hP hS (lv_sub hl [1, 2, 3, 0] rfl) hF
    · have hF := ite_F c6 hF
      refine lv_iload hx hb dX5_tellWatchers_55 (lv_at hl 5 rfl) ?_
      refine lv_bipush (v := 8) hx hb dX5_tellWatchers_57 (by decide) ?_
      refine lv_icmp_ge (tgt := 88) hx hb dX5_tellWatchers_59 (by decide) (fun c8 => ?_) (fun c8 => ?_)
      · have hF := ite_T c8 hF
        refine lv_aload_n hx hb dX5_tellWatchers_88 rfl (lv_at hl 0 rfl) ?_
        refine lv_dup hx hb dX5_tellWatchers_89 rfl ?_
        refine gf_0_7 hx hb htm hown hE hP hw (htm _ qw_158) dX5_tellWatchers_90 ?_
        refine lv_iconst (v := 0) hx hb dX5_tellWatchers_93 (by decide) ?_
        refine lv_aload_n hx hb dX5_tellWatchers_94 rfl (lv_at hl 2 rfl) ?_
        refine gf_13_1 hx hb htm hown hE hP hw hj2 (htm _ qw_236) dX5_tellWatchers_95 ?_
        refine lv_iload_n hx hb dX5_tellWatchers_98 rfl (lv_at hl 3 rfl) ?_
        obtain ⟨hn9, hF⟩ := ite_S hF
        refine al_15 hx hb htm hown hE hP hw hj2 hn9 dX5_tellWatchers_99 ?_
        refine lv_bipush (v := 8) hx hb dX5_tellWatchers_100 (by decide) ?_
        refine lv_isub hx hb dX5_tellWatchers_102 ?_
        refine va_mmax hx hb (hml.trans hl.1.symm) hown (htm _ qw_156) (htm _ qw_97) (htm _ qw_94) (htm _ qw_98) (Nat.le_of_ble_eq_true rfl) (Nat.le_of_ble_eq_true rfl) (Nat.zero_le _) (Nat.zero_le _) dX5_tellWatchers_103 ?_
        refine lv_iadd hx hb dX5_tellWatchers_106 ?_
        refine pf_0_7 hx hb htm hown hE hP hS hw (htm _ qw_158) dX5_tellWatchers_107 (fun H locs hP hS => ?_)
        refine lv_iinc (v := y3 + 1) (lv' := [(3, .int (y3 + 1)), (0, .ref (ad w 0 0)), (1, .ref (ad w 7 j1)), (2, .ref (ad w 13 j2)), (4, .int y4), (5, .int y5)]) hx hb dX5_tellWatchers_110 hl (k := 3) rfl rfl (by decide) rfl (fun ls hl => ?_)
        refine lv_goto (tgt := 7) hx hb dX5_tellWatchers_113 (by decide) ?_
        exact ih7 _ _ _ _ hj1 hj2 hP hS (lv_sub hl [1, 2, 3, 0] rfl) hF
      · have hF := ite_F c8 hF
        refine lv_aload_n hx hb dX5_tellWatchers_62 rfl (lv_at hl 0 rfl) ?_
        refine lv_iload hx hb dX5_tellWatchers_63 (lv_at hl 4 rfl) ?_
        refine lv_iconst (v := 2) hx hb dX5_tellWatchers_65 (by decide) ?_
        refine lv_bipush (v := 10) hx hb dX5_tellWatchers_66 (by decide) ?_
        refine lv_aload_n hx hb dX5_tellWatchers_68 rfl (lv_at hl 1 rfl) ?_
        refine gf_7_0 hx hb htm hown hE hP hw hj1 (htm _ qw_189) dX5_tellWatchers_69 ?_
        refine lv_imul hx hb dX5_tellWatchers_72 ?_
        refine lv_aload_n hx hb dX5_tellWatchers_73 rfl (lv_at hl 1 rfl) ?_
        refine gf_7_6 hx hb htm hown hE hP hw hj1 (htm _ qw_186) dX5_tellWatchers_74 ?_
        refine lv_iadd hx hb dX5_tellWatchers_77 ?_
        obtain ⟨⟨r10, V10⟩, hc10, hF⟩ := ob_S hF
        refine m_cVi X hS vw_X5_putMail qw_237 (c_X5_putMail hw hc10) ⟨rfl, rfl⟩ ⟨Nat.le_of_ble_eq_true rfl, Nat.le_of_ble_eq_true rfl⟩ (rc_0 hE hP hw) hP rfl hl.1 (rest := []) rfl (Nat.le_of_ble_eq_true rfl) dX5_tellWatchers_78 (fun H locs hP hS => ?_)
        refine lv_pop hx hb dX5_tellWatchers_81 rfl ?_
        refine lv_iinc (v := y5 + 1) (lv' := [(5, .int (y5 + 1)), (0, .ref (ad w 0 0)), (1, .ref (ad w 7 j1)), (2, .ref (ad w 13 j2)), (3, .int y3), (4, .int y4)]) hx hb dX5_tellWatchers_82 hl (k := 5) rfl rfl (by decide) rfl (fun ls hl => ?_)
        refine lv_goto (tgt := 44) hx hb dX5_tellWatchers_85 (by decide) ?_
        exact ih44 _ _ _ _ _ _ hj1 hj2 hP hS (lv_sub hl [1, 2, 3, 4, 5, 0] rfl) hF
set_option maxRecDepth 20000 in
set_option maxHeartbeats 4000000 in
theorem l_X5_tellWatchers_7 {p : Program} {l : Launch} {e : Env} {s : State} {m : MethodId} {args : Array Value} {below : List Frame} {meth : Method} {c : Code} {D : va_G} {ad : Nat → Nat → Nat → Nat} {cI cZ cP : ClassId} {A : Nat → Prop} {G U : MT} {V' : MT} (X : MX p s m args meth c cX5_tellWatchers RX5 6 none D ad cI cZ cP A) {w : Nat} (hw : w < 2) (n : Nat) : ∀ {H : Heap} {locs : List Loc} {ls : Array Slot} (j1 : Nat) (j2 : Nat) (y3 : Int32) (V : MT), j1 < 24 → j2 < 24 → Pic D ad cI cZ cP w G V U H → va_S A s.heap H locs → lv_has ls 6 [(0, .ref (ad w 0 0)), (1, .ref (ad w 7 j1)), (2, .ref (ad w 13 j2)), (3, .int y3)] → f_X5_tellWatchers_7 G n j1 j2 y3 V = some V' → W p l e rm_X5_tellWatchers s m args below meth c H locs 0 0 (MQ below (QcV A (Pic D ad cI cZ cP w G V' U)) args s 0 0 A) (F0 m 7 ls []) := by
  obtain ⟨hx, hb, hml, hown, htm, hr, hlk, hE⟩ := id X
  induction n with
  | zero =>
    intros
    exact ns_S (by assumption)
  | succ n ih7 =>
    intro H locs ls j1 j2 y3 V hj1 hj2  hP hS hl hF
    rw [f_X5_tellWatchers_7] at hF
    refine lv_iload_n hx hb dX5_tellWatchers_7 rfl (lv_at hl 3 rfl) ?_
    refine lv_aload_n hx hb dX5_tellWatchers_8 rfl (lv_at hl 2 rfl) ?_
    refine gf_13_2 hx hb htm hown hE hP hw hj2 (htm _ qw_234) dX5_tellWatchers_9 ?_
    refine lv_icmp_ge (tgt := 116) hx hb dX5_tellWatchers_12 (by decide) (fun c1 => ?_) (fun c1 => ?_)
    · have hF := ite_T c1 hF
      have e1 := Option.some.inj hF
      subst e1
      exact m_vret X hS hP dX5_tellWatchers_116
    · have hF := ite_F c1 hF
      refine lv_iload_n hx hb dX5_tellWatchers_15 rfl (lv_at hl 3 rfl) ?_
      refine lv_bipush (v := 24) hx hb dX5_tellWatchers_16 (by decide) ?_
      refine lv_icmp_ge (tgt := 116) hx hb dX5_tellWatchers_18 (by decide) (fun c2 => ?_) (fun c2 => ?_)
      · have hF := ite_T c2 hF
        have e1 := Option.some.inj hF
        subst e1
        exact m_vret X hS hP dX5_tellWatchers_116
      · have hF := ite_F c2 hF
        refine lv_aload_n hx hb dX5_tellWatchers_21 rfl (lv_at hl 2 rfl) ?_
        refine gf_13_0 hx hb htm hown hE hP hw hj2 (htm _ qw_235) dX5_tellWatchers_22 ?_
        refine lv_iload_n hx hb dX5_tellWatchers_25 rfl (lv_at hl 3 rfl) ?_
        obtain ⟨hn3, hF⟩ := ite_S hF
        refine al_14 hx hb htm hown hE hP hw hj2 hn3 dX5_tellWatchers_26 ?_
        refine lv_istore (lv' := [(4, .int (V 14 j2 (Int32.toNatClampNeg y3))), (0, .ref (ad w 0 0)), (1, .ref (ad w 7 j1)), (2, .ref (ad w 13 j2)), (3, .int y3)]) hx hb dX5_tellWatchers_27 hl (by decide) rfl (fun ls hl => ?_)
        refine lv_aload_n hx hb dX5_tellWatchers_29 rfl (lv_at hl 1 rfl) ?_
        refine lv_iload hx hb dX5_tellWatchers_30 (lv_at hl 0 rfl) ?_
        obtain ⟨r4, hc4, hF⟩ := ob_S hF
        refine m_cVq X hS vw_X5_living qw_217 (c_X5_living hw hc4) ⟨rfl, rfl⟩ ⟨Nat.le_of_ble_eq_true rfl, Nat.le_of_ble_eq_true rfl⟩ (rc_0 hE hP hw) hP rfl hl.1 (rest := []) rfl (Nat.le_of_ble_eq_true rfl) dX5_tellWatchers_32 (fun H locs hP hS => ?_)
        rcases r4 with _ | e4
        · have hF := oc_N hF
          refine lv_ifnonnullN hx hb dX5_tellWatchers_35 ?_
          refine lv_goto (tgt := 110) hx hb dX5_tellWatchers_38 (by decide) ?_
          refine lv_iinc (v := y3 + 1) (lv' := [(3, .int (y3 + 1)), (4, .int (V 14 j2 (Int32.toNatClampNeg y3))), (0, .ref (ad w 0 0)), (1, .ref (ad w 7 j1)), (2, .ref (ad w 13 j2))]) hx hb dX5_tellWatchers_110 hl (k := 4) rfl rfl (by decide) rfl (fun ls hl => ?_)
          refine lv_goto (tgt := 7) hx hb dX5_tellWatchers_113 (by decide) ?_
          exact ih7 _ _ _ _ hj1 hj2 hP hS (lv_sub hl [2, 3, 4, 0] rfl) hF
        · obtain ⟨he4, hF⟩ := ite_S (oc_J hF)
          refine lv_ifnonnull (tgt := 41) hx hb dX5_tellWatchers_35 (by decide) ?_
          refine lv_iconst (v := 0) hx hb dX5_tellWatchers_41 (by decide) ?_
          refine lv_istore (lv' := [(5, .int 0), (4, .int (V 14 j2 (Int32.toNatClampNeg y3))), (0, .ref (ad w 0 0)), (1, .ref (ad w 7 j1)), (2, .ref (ad w 13 j2)), (3, .int y3)]) hx hb dX5_tellWatchers_42 hl (by decide) rfl (fun ls hl => ?_)
          exact l_X5_tellWatchers_44 X hw (f_X5_tellWatchers_7 G n) ih7 30 _ _ _ _ _ _ hj1 hj2 hP hS (lv_sub hl [2, 3, 4, 5, 1, 0] rfl) hF
set_option maxRecDepth 20000 in
set_option maxHeartbeats 4000000 in
theorem c_X5_tellWatchers {l : Launch} {D : va_G} {ad : Nat → Nat → Nat → Nat} {cI cZ cP : ClassId} {A : Nat → Prop} {w : Nat} (hw : w < 2) {G V U : MT} {i1 : Nat} {V' : MT}  (hi1 : i1 < 24) (hF : f_X5_tellWatchers G V i1 = some V') : Met l yX5_tellWatchers (.code yX5_tellWatchers cX5_tellWatchers 6 none :: WM) rm_X5_tellWatchers (PcM D ad cI cZ cP A [.ref (ad w 0 0), .ref (ad w 7 i1)] (Pic D ad cI cZ cP w G V U)) (QcV A (Pic D ad cI cZ cP w G V' U)) 0 0 A := by
  refine m_entry (by decide) (Nat.le_of_ble_eq_true rfl) (fun p e s m below meth c ls X hP hS hl => ?_)
  have X : MX p s m _ meth c cX5_tellWatchers RX5 6 none D ad cI cZ cP A := X
  obtain ⟨hx, hb, hml, hown, htm, hr, hlk, hE⟩ := id X
  have hl : lv_has ls 6 [(0, .ref (ad w 0 0)), (1, .ref (ad w 7 i1))] := hl
  refine lv_aload_n hx hb dX5_tellWatchers_0 rfl (lv_at hl 1 rfl) ?_
  refine gf_7_18 hx hb htm hown hE hP hw hi1 (htm _ qw_233) dX5_tellWatchers_1 ?_
  refine lv_astore_n (lv' := [(2, .ref (ad w 13 i1)), (0, .ref (ad w 0 0)), (1, .ref (ad w 7 i1))]) hx hb dX5_tellWatchers_4 rfl hl (by decide) rfl (fun ls hl => ?_)
  refine lv_iconst (v := 0) hx hb dX5_tellWatchers_5 (by decide) ?_
  refine lv_istore_n (lv' := [(3, .int 0), (2, .ref (ad w 13 i1)), (0, .ref (ad w 0 0)), (1, .ref (ad w 7 i1))]) hx hb dX5_tellWatchers_6 rfl hl (by decide) rfl (fun ls hl => ?_)
  exact l_X5_tellWatchers_7 X hw  30 _ _ _ _ hi1 hi1 hP hS (lv_sub hl [2, 3, 1, 0] rfl) hF
