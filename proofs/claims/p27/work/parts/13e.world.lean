theorem vw_X5_noteRestart : VW RX5 yX5_noteRestart cX5_noteRestart 2 none 1 := ⟨qw_261, qw_262, qw_203, qw_245, ⟨rfl, by decide, by decide, by decide +kernel⟩⟩
theorem vw_X5_restartsAbove : VW RX5 yX5_restartsAbove cX5_restartsAbove 5 (some .int) 2 := ⟨qw_250, qw_251, qw_203, qw_246, ⟨rfl, by decide, by decide, by decide +kernel⟩⟩
theorem vw_X5_restartsEver : VW RX5 yX5_restartsEver cX5_restartsEver 2 (some .int) 1 := ⟨qw_498, qw_499, qw_203, qw_291, ⟨rfl, by decide, by decide, by decide +kernel⟩⟩
theorem vw_X5_restartsLately : VW RX5 yX5_restartsLately cX5_restartsLately 2 (some .int) 1 := ⟨qw_264, qw_265, qw_203, qw_252, ⟨rfl, by decide, by decide, by decide +kernel⟩⟩
def f_X5_noteRestart (G V : MT) (x1 : Int32) : Option (MT) :=
  if 24 ≤ V 0 0 16 then (some V) else (if ¬ (V 0 0 16 < 0 ∨ 24 ≤ Int32.toNatClampNeg (V 0 0 16)) then (if ¬ ((pt V 5 0 (Int32.toNatClampNeg (V 0 0 16)) x1) 0 0 16 < 0 ∨ 24 ≤ Int32.toNatClampNeg ((pt V 5 0 (Int32.toNatClampNeg (V 0 0 16)) x1) 0 0 16)) then (some (pt (pt (pt V 5 0 (Int32.toNatClampNeg (V 0 0 16)) x1) 6 0 (Int32.toNatClampNeg ((pt V 5 0 (Int32.toNatClampNeg (V 0 0 16)) x1) 0 0 16)) ((pt V 5 0 (Int32.toNatClampNeg (V 0 0 16)) x1) 0 0 6)) 0 0 16 (((pt (pt V 5 0 (Int32.toNatClampNeg (V 0 0 16)) x1) 6 0 (Int32.toNatClampNeg ((pt V 5 0 (Int32.toNatClampNeg (V 0 0 16)) x1) 0 0 16)) ((pt V 5 0 (Int32.toNatClampNeg (V 0 0 16)) x1) 0 0 6)) 0 0 16) + 1))) else none) else none)
def rm_X5_noteRestart : Room := { frames := 0, cells := 0, slots := 0, locals := 0 }
set_option maxRecDepth 20000 in
set_option maxHeartbeats 4000000 in
theorem c_X5_noteRestart {l : Launch} {D : va_G} {ad : Nat → Nat → Nat → Nat} {cI cZ cP : ClassId} {A : Nat → Prop} {w : Nat} (hw : w < 2) {G V U : MT} {x1 : Int32} {V' : MT}  (hF : f_X5_noteRestart G V x1 = some V') : Met l yX5_noteRestart (.code yX5_noteRestart cX5_noteRestart 2 none :: WM) rm_X5_noteRestart (PcM D ad cI cZ cP A [.ref (ad w 0 0), .int x1] (Pic D ad cI cZ cP w G V U)) (QcV A (Pic D ad cI cZ cP w G V' U)) 0 0 A := by
  refine m_entry (by decide) (Nat.le_of_ble_eq_true rfl) (fun p e s m below meth c ls X hP hS hl => ?_)
  have X : MX p s m _ meth c cX5_noteRestart RX5 2 none D ad cI cZ cP A := X
  obtain ⟨hx, hb, hml, hown, htm, hr, hlk, hE⟩ := id X
  have hl : lv_has ls 2 [(0, .ref (ad w 0 0)), (1, .int x1)] := hl
  refine lv_aload_n hx hb dX5_noteRestart_0 rfl (lv_at hl 0 rfl) ?_
  refine gf_0_16 hx hb htm hown hE hP hw (htm _ qw_164) dX5_noteRestart_1 ?_
  refine lv_bipush (v := 24) hx hb dX5_noteRestart_4 (by decide) ?_
  refine lv_icmp_ge (tgt := 42) hx hb dX5_noteRestart_6 (by decide) (fun c1 => ?_) (fun c1 => ?_)
  · have hF := ite_T c1 hF
    have e1 := Option.some.inj hF
    subst e1
    exact m_vret X hS hP dX5_noteRestart_42
  · have hF := ite_F c1 hF
    refine lv_aload_n hx hb dX5_noteRestart_9 rfl (lv_at hl 0 rfl) ?_
    refine gf_0_14 hx hb htm hown hE hP hw (htm _ qw_145) dX5_noteRestart_10 ?_
    refine lv_aload_n hx hb dX5_noteRestart_13 rfl (lv_at hl 0 rfl) ?_
    refine gf_0_16 hx hb htm hown hE hP hw (htm _ qw_164) dX5_noteRestart_14 ?_
    refine lv_iload_n hx hb dX5_noteRestart_17 rfl (lv_at hl 1 rfl) ?_
    obtain ⟨hn2, hF⟩ := ite_S hF
    refine as_5 hx hb htm hown hE hP hS hw hn2 dX5_noteRestart_18 (fun H locs hP hS => ?_)
    refine lv_aload_n hx hb dX5_noteRestart_19 rfl (lv_at hl 0 rfl) ?_
    refine gf_0_15 hx hb htm hown hE hP hw (htm _ qw_146) dX5_noteRestart_20 ?_
    refine lv_aload_n hx hb dX5_noteRestart_23 rfl (lv_at hl 0 rfl) ?_
    refine gf_0_16 hx hb htm hown hE hP hw (htm _ qw_164) dX5_noteRestart_24 ?_
    refine lv_aload_n hx hb dX5_noteRestart_27 rfl (lv_at hl 0 rfl) ?_
    refine gf_0_6 hx hb htm hown hE hP hw (htm _ qw_157) dX5_noteRestart_28 ?_
    obtain ⟨hn3, hF⟩ := ite_S hF
    refine as_6 hx hb htm hown hE hP hS hw hn3 dX5_noteRestart_31 (fun H locs hP hS => ?_)
    refine lv_aload_n hx hb dX5_noteRestart_32 rfl (lv_at hl 0 rfl) ?_
    refine lv_dup hx hb dX5_noteRestart_33 rfl ?_
    refine gf_0_16 hx hb htm hown hE hP hw (htm _ qw_164) dX5_noteRestart_34 ?_
    refine lv_iconst (v := 1) hx hb dX5_noteRestart_37 (by decide) ?_
    refine lv_iadd hx hb dX5_noteRestart_38 ?_
    refine pf_0_16 hx hb htm hown hE hP hS hw (htm _ qw_164) dX5_noteRestart_39 (fun H locs hP hS => ?_)
    have e1 := Option.some.inj hF
    subst e1
    exact m_vret X hS hP dX5_noteRestart_42
def f_X5_restartsAbove_5 (G V : MT) : Nat → Nat → Int32 → Int32 → Int32 → Option (Int32)
  | 0, _, _, _, _ => none
  | n + 1, j1, y2, y3, y4 => if V 0 0 16 ≤ y4 then (some y3) else (if 24 ≤ y4 then (some y3) else (if ¬ (y4 < 0 ∨ 24 ≤ Int32.toNatClampNeg y4) then (if V 5 0 (Int32.toNatClampNeg y4) = nI j1 then (if ¬ (y4 < 0 ∨ 24 ≤ Int32.toNatClampNeg y4) then (if V 6 0 (Int32.toNatClampNeg y4) ≤ y2 then ((f_X5_restartsAbove_5 G V n) j1 y2 y3 (y4 + 1)) else ((f_X5_restartsAbove_5 G V n) j1 y2 (y3 + 1) (y4 + 1))) else none) else ((f_X5_restartsAbove_5 G V n) j1 y2 y3 (y4 + 1))) else none))
def f_X5_restartsAbove (G V : MT) (i1 : Nat) (x2 : Int32) : Option (Int32) :=
  f_X5_restartsAbove_5 G V  60 i1 x2 0 0
def rm_X5_restartsAbove : Room := { frames := 0, cells := 0, slots := 0, locals := 0 }
set_option maxRecDepth 20000 in
set_option maxHeartbeats 4000000 in
theorem l_X5_restartsAbove_5 {p : Program} {l : Launch} {e : Env} {s : State} {m : MethodId} {args : Array Value} {below : List Frame} {meth : Method} {c : Code} {D : va_G} {ad : Nat → Nat → Nat → Nat} {cI cZ cP : ClassId} {A : Nat → Prop} {G V U : MT} {r : Int32} (X : MX p s m args meth c cX5_restartsAbove RX5 5 (some .int) D ad cI cZ cP A) {w : Nat} (hw : w < 2) (n : Nat) : ∀ {H : Heap} {locs : List Loc} {ls : Array Slot} (j1 : Nat) (y2 : Int32) (y3 : Int32) (y4 : Int32), j1 < 24 → Pic D ad cI cZ cP w G V U H → va_S A s.heap H locs → lv_has ls 5 [(0, .ref (ad w 0 0)), (1, .ref (ad w 7 j1)), (2, .int y2), (3, .int y3), (4, .int y4)] → f_X5_restartsAbove_5 G V n j1 y2 y3 y4 = some r → W p l e rm_X5_restartsAbove s m args below meth c H locs 0 0 (MQ below (QcI A r (Pic D ad cI cZ cP w G V U)) args s 0 0 A) (F0 m 5 ls []) := by
  obtain ⟨hx, hb, hml, hown, htm, hr, hlk, hE⟩ := id X
  induction n with
  | zero =>
    intros
    exact ns_S (by assumption)
  | succ n ih5 =>
    intro H locs ls j1 y2 y3 y4 hj1  hP hS hl hF
    rw [f_X5_restartsAbove_5] at hF
    refine lv_iload hx hb dX5_restartsAbove_5 (lv_at hl 4 rfl) ?_
    refine lv_aload_n hx hb dX5_restartsAbove_7 rfl (lv_at hl 0 rfl) ?_
    refine gf_0_16 hx hb htm hown hE hP hw (htm _ qw_164) dX5_restartsAbove_8 ?_
    refine lv_icmp_ge (tgt := 55) hx hb dX5_restartsAbove_11 (by decide) (fun c1 => ?_) (fun c1 => ?_)
    · have hF := ite_T c1 hF
      refine lv_iload_n hx hb dX5_restartsAbove_55 rfl (lv_at hl 3 rfl) ?_
      have e1 := Option.some.inj hF
      subst e1
      exact m_iret X hS hP rfl dX5_restartsAbove_56
    · have hF := ite_F c1 hF
      refine lv_iload hx hb dX5_restartsAbove_14 (lv_at hl 4 rfl) ?_
      refine lv_bipush (v := 24) hx hb dX5_restartsAbove_16 (by decide) ?_
      refine lv_icmp_ge (tgt := 55) hx hb dX5_restartsAbove_18 (by decide) (fun c2 => ?_) (fun c2 => ?_)
      · have hF := ite_T c2 hF
        refine lv_iload_n hx hb dX5_restartsAbove_55 rfl (lv_at hl 3 rfl) ?_
        have e1 := Option.some.inj hF
        subst e1
        exact m_iret X hS hP rfl dX5_restartsAbove_56
      · have hF := ite_F c2 hF
        refine lv_aload_n hx hb dX5_restartsAbove_21 rfl (lv_at hl 0 rfl) ?_
        refine gf_0_14 hx hb htm hown hE hP hw (htm _ qw_145) dX5_restartsAbove_22 ?_
        refine lv_iload hx hb dX5_restartsAbove_25 (lv_at hl 4 rfl) ?_
        obtain ⟨hn3, hF⟩ := ite_S hF
        refine al_5 hx hb htm hown hE hP hw hn3 dX5_restartsAbove_27 ?_
        refine lv_aload_n hx hb dX5_restartsAbove_28 rfl (lv_at hl 1 rfl) ?_
        refine gf_7_0 hx hb htm hown hE hP hw hj1 (htm _ qw_189) dX5_restartsAbove_29 ?_
        refine lv_icmp_ne (tgt := 49) hx hb dX5_restartsAbove_32 (by decide) (fun c4 => ?_) (fun c4 => ?_)
        · have hF := ite_F c4 hF
          refine lv_iinc (v := y4 + 1) (lv' := [(4, .int (y4 + 1)), (0, .ref (ad w 0 0)), (1, .ref (ad w 7 j1)), (2, .int y2), (3, .int y3)]) hx hb dX5_restartsAbove_49 hl (k := 4) rfl rfl (by decide) rfl (fun ls hl => ?_)
          refine lv_goto (tgt := 5) hx hb dX5_restartsAbove_52 (by decide) ?_
          exact ih5 _ _ _ _ hj1 hP hS (lv_sub hl [1, 2, 3, 4, 0] rfl) hF
        · have hF := ite_T c4 hF
          refine lv_aload_n hx hb dX5_restartsAbove_35 rfl (lv_at hl 0 rfl) ?_
          refine gf_0_15 hx hb htm hown hE hP hw (htm _ qw_146) dX5_restartsAbove_36 ?_
          refine lv_iload hx hb dX5_restartsAbove_39 (lv_at hl 4 rfl) ?_
          obtain ⟨hn5, hF⟩ := ite_S hF
          refine al_6 hx hb htm hown hE hP hw hn5 dX5_restartsAbove_41 ?_
          refine lv_iload_n hx hb dX5_restartsAbove_42 rfl (lv_at hl 2 rfl) ?_
          refine lv_icmp_le (tgt := 49) hx hb dX5_restartsAbove_43 (by decide) (fun c6 => ?_) (fun c6 => ?_)
          · have hF := ite_T c6 hF
            refine lv_iinc (v := y4 + 1) (lv' := [(4, .int (y4 + 1)), (0, .ref (ad w 0 0)), (1, .ref (ad w 7 j1)), (2, .int y2), (3, .int y3)]) hx hb dX5_restartsAbove_49 hl (k := 4) rfl rfl (by decide) rfl (fun ls hl => ?_)
            refine lv_goto (tgt := 5) hx hb dX5_restartsAbove_52 (by decide) ?_
            exact ih5 _ _ _ _ hj1 hP hS (lv_sub hl [1, 2, 3, 4, 0] rfl) hF
          · have hF := ite_F c6 hF
            refine lv_iinc (v := y3 + 1) (lv' := [(3, .int (y3 + 1)), (0, .ref (ad w 0 0)), (1, .ref (ad w 7 j1)), (2, .int y2), (4, .int y4)]) hx hb dX5_restartsAbove_46 hl (k := 3) rfl rfl (by decide) rfl (fun ls hl => ?_)
            refine lv_iinc (v := y4 + 1) (lv' := [(4, .int (y4 + 1)), (3, .int (y3 + 1)), (0, .ref (ad w 0 0)), (1, .ref (ad w 7 j1)), (2, .int y2)]) hx hb dX5_restartsAbove_49 hl (k := 4) rfl rfl (by decide) rfl (fun ls hl => ?_)
            refine lv_goto (tgt := 5) hx hb dX5_restartsAbove_52 (by decide) ?_
            exact ih5 _ _ _ _ hj1 hP hS (lv_sub hl [2, 3, 4, 1, 0] rfl) hF
set_option maxRecDepth 20000 in
set_option maxHeartbeats 4000000 in
theorem c_X5_restartsAbove {l : Launch} {D : va_G} {ad : Nat → Nat → Nat → Nat} {cI cZ cP : ClassId} {A : Nat → Prop} {w : Nat} (hw : w < 2) {G V U : MT} {i1 : Nat} {x2 : Int32} {r : Int32}  (hi1 : i1 < 24) (hF : f_X5_restartsAbove G V i1 x2 = some r) : Met l yX5_restartsAbove (.code yX5_restartsAbove cX5_restartsAbove 5 (some .int) :: WM) rm_X5_restartsAbove (PcM D ad cI cZ cP A [.ref (ad w 0 0), .ref (ad w 7 i1), .int x2] (Pic D ad cI cZ cP w G V U)) (QcI A r (Pic D ad cI cZ cP w G V U)) 0 0 A := by
  refine m_entry (by decide) (Nat.le_of_ble_eq_true rfl) (fun p e s m below meth c ls X hP hS hl => ?_)
  have X : MX p s m _ meth c cX5_restartsAbove RX5 5 (some .int) D ad cI cZ cP A := X
  obtain ⟨hx, hb, hml, hown, htm, hr, hlk, hE⟩ := id X
  have hl : lv_has ls 5 [(0, .ref (ad w 0 0)), (1, .ref (ad w 7 i1)), (2, .int x2)] := hl
  refine lv_iconst (v := 0) hx hb dX5_restartsAbove_0 (by decide) ?_
  refine lv_istore_n (lv' := [(3, .int 0), (0, .ref (ad w 0 0)), (1, .ref (ad w 7 i1)), (2, .int x2)]) hx hb dX5_restartsAbove_1 rfl hl (by decide) rfl (fun ls hl => ?_)
  refine lv_iconst (v := 0) hx hb dX5_restartsAbove_2 (by decide) ?_
  refine lv_istore (lv' := [(4, .int 0), (3, .int 0), (0, .ref (ad w 0 0)), (1, .ref (ad w 7 i1)), (2, .int x2)]) hx hb dX5_restartsAbove_3 hl (by decide) rfl (fun ls hl => ?_)
  exact l_X5_restartsAbove_5 X hw  60 _ _ _ _ hi1 hP hS (lv_sub hl [2, 3, 4, 1, 0] rfl) hF
def f_X5_restartsEver (G V : MT) (i1 : Nat) : Option (Int32) :=
  (f_X5_restartsAbove G V i1 (-1)).bind (fun q1_ => some q1_)
def rm_X5_restartsEver : Room := { frames := 1, cells := 0, slots := 0, locals := 24 }
set_option maxRecDepth 20000 in
set_option maxHeartbeats 4000000 in
theorem c_X5_restartsEver {l : Launch} {D : va_G} {ad : Nat → Nat → Nat → Nat} {cI cZ cP : ClassId} {A : Nat → Prop} {w : Nat} (hw : w < 2) {G V U : MT} {i1 : Nat} {r : Int32}  (hi1 : i1 < 24) (hF : f_X5_restartsEver G V i1 = some r) : Met l yX5_restartsEver (.code yX5_restartsEver cX5_restartsEver 2 (some .int) :: WM) rm_X5_restartsEver (PcM D ad cI cZ cP A [.ref (ad w 0 0), .ref (ad w 7 i1)] (Pic D ad cI cZ cP w G V U)) (QcI A r (Pic D ad cI cZ cP w G V U)) 0 0 A := by
  refine m_entry (by decide) (Nat.le_of_ble_eq_true rfl) (fun p e s m below meth c ls X hP hS hl => ?_)
  have X : MX p s m _ meth c cX5_restartsEver RX5 2 (some .int) D ad cI cZ cP A := X
  obtain ⟨hx, hb, hml, hown, htm, hr, hlk, hE⟩ := id X
  have hl : lv_has ls 2 [(0, .ref (ad w 0 0)), (1, .ref (ad w 7 i1))] := hl
  refine lv_aload_n hx hb dX5_restartsEver_0 rfl (lv_at hl 0 rfl) ?_
  refine lv_aload_n hx hb dX5_restartsEver_1 rfl (lv_at hl 1 rfl) ?_
  refine lv_iconst (v := (-1)) hx hb dX5_restartsEver_2 (by decide) ?_
  obtain ⟨r1, hc1, hF⟩ := ob_S hF
  refine m_cVi X hS vw_X5_restartsAbove qw_249 (c_X5_restartsAbove hw hi1 hc1) ⟨rfl, rfl⟩ ⟨Nat.le_of_ble_eq_true rfl, Nat.le_of_ble_eq_true rfl⟩ (rc_0 hE hP hw) hP rfl hl.1 (rest := []) rfl (Nat.le_of_ble_eq_true rfl) dX5_restartsEver_3 (fun H locs hP hS => ?_)
  have e1 := Option.some.inj hF
  subst e1
  exact m_iret X hS hP rfl dX5_restartsEver_6
def f_X5_restartsLately (G V : MT) (i1 : Nat) : Option (Int32) :=
  (f_X3_hasSpec G (V 7 i1 3)).bind (fun q1_ => if q1_ = 0 then (some 0) else (if ¬ (V 7 i1 3 < 0 ∨ 5 ≤ Int32.toNatClampNeg (V 7 i1 3)) then ((f_X5_restartsAbove G V i1 ((V 0 0 6) - (G 25 0 (Int32.toNatClampNeg (V 7 i1 3))))).bind (fun q4_ => some q4_)) else none))
def rm_X5_restartsLately : Room := { frames := 1, cells := 0, slots := 0, locals := 24 }
set_option maxRecDepth 20000 in
set_option maxHeartbeats 4000000 in
theorem c_X5_restartsLately {l : Launch} {D : va_G} {ad : Nat → Nat → Nat → Nat} {cI cZ cP : ClassId} {A : Nat → Prop} {w : Nat} (hw : w < 2) {G V U : MT} {i1 : Nat} {r : Int32}  (hi1 : i1 < 24) (hF : f_X5_restartsLately G V i1 = some r) : Met l yX5_restartsLately (.code yX5_restartsLately cX5_restartsLately 2 (some .int) :: WM) rm_X5_restartsLately (PcM D ad cI cZ cP A [.ref (ad w 0 0), .ref (ad w 7 i1)] (Pic D ad cI cZ cP w G V U)) (QcI A r (Pic D ad cI cZ cP w G V U)) 0 0 A := by
  refine m_entry (by decide) (Nat.le_of_ble_eq_true rfl) (fun p e s m below meth c ls X hP hS hl => ?_)
  have X : MX p s m _ meth c cX5_restartsLately RX5 2 (some .int) D ad cI cZ cP A := X
  obtain ⟨hx, hb, hml, hown, htm, hr, hlk, hE⟩ := id X
  have hl : lv_has ls 2 [(0, .ref (ad w 0 0)), (1, .ref (ad w 7 i1))] := hl
  refine lv_aload_n hx hb dX5_restartsLately_0 rfl (lv_at hl 0 rfl) ?_
  refine gf_0_1 hx hb htm hown hE hP hw (htm _ qw_148) dX5_restartsLately_1 ?_
  refine lv_aload_n hx hb dX5_restartsLately_4 rfl (lv_at hl 1 rfl) ?_
  refine gf_7_3 hx hb htm hown hE hP hw hi1 (htm _ qw_181) dX5_restartsLately_5 ?_
  obtain ⟨r1, hc1, hF⟩ := ob_S hF
  refine m_cVi X hS vw_X3_hasSpec qw_248 (c_X3_hasSpec hw hc1) ⟨rfl, rfl⟩ ⟨Nat.le_of_ble_eq_true rfl, Nat.le_of_ble_eq_true rfl⟩ (rc_22 hE hP) hP rfl hl.1 (rest := []) rfl (Nat.le_of_ble_eq_true rfl) dX5_restartsLately_8 (fun H locs hP hS => ?_)
  refine lv_if_eq (tgt := 39) hx hb dX5_restartsLately_11 (by decide) (fun c2 => ?_) (fun c2 => ?_)
  · have hF := ite_T c2 hF
    refine lv_iconst (v := 0) hx hb dX5_restartsLately_39 (by decide) ?_
    have e1 := Option.some.inj hF
    subst e1
    exact m_iret X hS hP rfl dX5_restartsLately_40
  · have hF := ite_F c2 hF
    refine lv_aload_n hx hb dX5_restartsLately_14 rfl (lv_at hl 0 rfl) ?_
    refine lv_aload_n hx hb dX5_restartsLately_15 rfl (lv_at hl 1 rfl) ?_
    refine lv_aload_n hx hb dX5_restartsLately_16 rfl (lv_at hl 0 rfl) ?_
    refine gf_0_6 hx hb htm hown hE hP hw (htm _ qw_157) dX5_restartsLately_17 ?_
    refine lv_aload_n hx hb dX5_restartsLately_20 rfl (lv_at hl 0 rfl) ?_
    refine gf_0_1 hx hb htm hown hE hP hw (htm _ qw_148) dX5_restartsLately_21 ?_
    refine gf_22_3 hx hb htm hown hE hP (htm _ qw_247) dX5_restartsLately_24 ?_
    refine lv_aload_n hx hb dX5_restartsLately_27 rfl (lv_at hl 1 rfl) ?_
    refine gf_7_3 hx hb htm hown hE hP hw hi1 (htm _ qw_181) dX5_restartsLately_28 ?_
    obtain ⟨hn3, hF⟩ := ite_S hF
    refine al_25 hx hb htm hown hE hP hn3 dX5_restartsLately_31 ?_
    refine lv_isub hx hb dX5_restartsLately_32 ?_
    obtain ⟨r4, hc4, hF⟩ := ob_S hF
    refine m_cVi X hS vw_X5_restartsAbove qw_249 (c_X5_restartsAbove hw hi1 hc4) ⟨rfl, rfl⟩ ⟨Nat.le_of_ble_eq_true rfl, Nat.le_of_ble_eq_true rfl⟩ (rc_0 hE hP hw) hP rfl hl.1 (rest := []) rfl (Nat.le_of_ble_eq_true rfl) dX5_restartsLately_33 (fun H locs hP hS => ?_)
    refine lv_goto (tgt := 40) hx hb dX5_restartsLately_36 (by decide) ?_
    have e1 := Option.some.inj hF
    subst e1
    exact m_iret X hS hP rfl dX5_restartsLately_40
