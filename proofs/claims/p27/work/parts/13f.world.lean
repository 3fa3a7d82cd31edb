theorem vw_X5_endedBehind : VW RX5 yX5_endedBehind cX5_endedBehind 4 (some .int) 1 := ⟨qw_525, qw_526, qw_203, qw_292, ⟨rfl, by decide, by decide, by decide +kernel⟩⟩
theorem vw_X5_link : VW RX5 yX5_link cX5_link 3 none 2 := ⟨qw_299, qw_300, qw_203, qw_290, ⟨rfl, by decide, by decide, by decide +kernel⟩⟩
theorem vw_X5_unlink : VW RX5 yX5_unlink cX5_unlink 3 none 2 := ⟨qw_277, qw_278, qw_203, qw_242, ⟨rfl, by decide, by decide, by decide +kernel⟩⟩
def f_X5_endedBehind_8 (G V : MT) : Nat → Int32 → Int32 → Option (Int32)
  | 0, _, _ => none
  | n + 1, y2, y3 => if V 0 0 12 ≤ y3 then (some y2) else (if 24 ≤ y3 then (some y2) else (if ¬ (y3 < 0 ∨ 24 ≤ Int32.toNatClampNeg y3) then ((f_X5_endedBehind_8 G V n) (y2 ||| (1 <<< ((V 4 0 (Int32.toNatClampNeg y3)) &&& 31))) (y3 + 1)) else none))
def f_X5_endedBehind (G V : MT) (x1 : Int32) : Option (Int32) :=
  f_X5_endedBehind_8 G V  30 0 (if 0 < x1 then x1 else 0)
def rm_X5_endedBehind : Room := { frames := 1, cells := 0, slots := 0, locals := 22 }
set_option maxRecDepth 20000 in
set_option maxHeartbeats 4000000 in
theorem l_X5_endedBehind_8 {p : Program} {l : Launch} {e : Env} {s : State} {m : MethodId} {args : Array Value} {below : List Frame} {meth : Method} {c : Code} {D : va_G} {ad : Nat → Nat → Nat → Nat} {cI cZ cP : ClassId} {A : Nat → Prop} {G V U : MT} {r : Int32} (X : MX p s m args meth c cX5_endedBehind RX5 4 (some .int) D ad cI cZ cP A) {w : Nat} (hw : w < 2) (n : Nat) : ∀ {H : Heap} {locs : List Loc} {ls : Array Slot} (y2 : Int32) (y3 : Int32), Pic D ad cI cZ cP w G V U H → va_S A s.heap H locs → lv_has ls 4 [(0, .ref (ad w 0 0)), (2, .int y2), (3, .int y3)] → f_X5_endedBehind_8 G V n y2 y3 = some r → W p l e rm_X5_endedBehind s m args below meth c H locs 0 0 (MQ below (QcI A r (Pic D ad cI cZ cP w G V U)) args s 0 0 A) (F0 m 8 ls []) := by
  obtain ⟨hx, hb, hml, hown, htm, hr, hlk, hE⟩ := id X
  induction n with
  | zero =>
    intros
    exact ns_S (by assumption)
  | succ n ih8 =>
    intro H locs ls y2 y3   hP hS hl hF
    rw [f_X5_endedBehind_8] at hF
    refine lv_iload_n hx hb dX5_endedBehind_8 rfl (lv_at hl 2 rfl) ?_
    refine lv_aload_n hx hb dX5_endedBehind_9 rfl (lv_at hl 0 rfl) ?_
    refine gf_0_12 hx hb htm hown hE hP hw (htm _ qw_162) dX5_endedBehind_10 ?_
    refine lv_icmp_ge (tgt := 39) hx hb dX5_endedBehind_13 (by decide) (fun c1 => ?_) (fun c1 => ?_)
    · have hF := ite_T c1 hF
      refine lv_iload_n hx hb dX5_endedBehind_39 rfl (lv_at hl 1 rfl) ?_
      have e1 := Option.some.inj hF
      subst e1
      exact m_iret X hS hP rfl dX5_endedBehind_40
    · have hF := ite_F c1 hF
      refine lv_iload_n hx hb dX5_endedBehind_16 rfl (lv_at hl 2 rfl) ?_
      refine lv_bipush (v := 24) hx hb dX5_endedBehind_17 (by decide) ?_
      refine lv_icmp_ge (tgt := 39) hx hb dX5_endedBehind_19 (by decide) (fun c2 => ?_) (fun c2 => ?_)
      · have hF := ite_T c2 hF
        refine lv_iload_n hx hb dX5_endedBehind_39 rfl (lv_at hl 1 rfl) ?_
        have e1 := Option.some.inj hF
        subst e1
        exact m_iret X hS hP rfl dX5_endedBehind_40
      · have hF := ite_F c2 hF
        refine lv_iload_n hx hb dX5_endedBehind_22 rfl (lv_at hl 1 rfl) ?_
        refine lv_iconst (v := 1) hx hb dX5_endedBehind_23 (by decide) ?_
        refine lv_aload_n hx hb dX5_endedBehind_24 rfl (lv_at hl 0 rfl) ?_
        refine gf_0_11 hx hb htm hown hE hP hw (htm _ qw_144) dX5_endedBehind_25 ?_
        refine lv_iload_n hx hb dX5_endedBehind_28 rfl (lv_at hl 2 rfl) ?_
        obtain ⟨hn3, hF⟩ := ite_S hF
        refine al_4 hx hb htm hown hE hP hw hn3 dX5_endedBehind_29 ?_
        refine lv_ishl hx hb dX5_endedBehind_30 ?_
        refine lv_ior hx hb dX5_endedBehind_31 ?_
        refine lv_istore_n (lv' := [(2, .int (y2 ||| (1 <<< ((V 4 0 (Int32.toNatClampNeg y3)) &&& 31)))), (0, .ref (ad w 0 0)), (3, .int y3)]) hx hb dX5_endedBehind_32 rfl hl (by decide) rfl (fun ls hl => ?_)
        refine lv_iinc (v := y3 + 1) (lv' := [(3, .int (y3 + 1)), (2, .int (y2 ||| (1 <<< ((V 4 0 (Int32.toNatClampNeg y3)) &&& 31)))), (0, .ref (ad w 0 0))]) hx hb dX5_endedBehind_33 hl (k := 2) rfl rfl (by decide) rfl (fun ls hl => ?_)
        refine lv_goto (tgt := 8) hx hb dX5_endedBehind_36 (by decide) ?_
        exact ih8 _ _  hP hS (lv_sub hl [2, 1, 0] rfl) hF
set_option maxRecDepth 20000 in
set_option maxHeartbeats 4000000 in
theorem c_X5_endedBehind {l : Launch} {D : va_G} {ad : Nat → Nat → Nat → Nat} {cI cZ cP : ClassId} {A : Nat → Prop} {w : Nat} (hw : w < 2) {G V U : MT} {x1 : Int32} {r : Int32}  (hF : f_X5_endedBehind G V x1 = some r) : Met l yX5_endedBehind (.code yX5_endedBehind cX5_endedBehind 4 (some .int) :: WM) rm_X5_endedBehind (PcM D ad cI cZ cP A [.ref (ad w 0 0), .int x1] (Pic D ad cI cZ cP w G V U)) (QcI A r (Pic D ad cI cZ cP w G V U)) 0 0 A := by
  refine m_entry (by decide) (Nat.le_of_ble_eq_true rfl) (fun p e s m below meth c ls X hP hS hl => ?_)
  have X : MX p s m _ meth c cX5_endedBehind RX5 4 (some .int) D ad cI cZ cP A := X
  obtain ⟨hx, hb, hml, hown, htm, hr, hlk, hE⟩ := id X
  have hl : lv_has ls 4 [(0, .ref (ad w 0 0)), (1, .int x1)] := hl
  refine lv_iconst (v := 0) hx hb dX5_endedBehind_0 (by decide) ?_
  refine lv_istore_n (lv' := [(2, .int 0), (0, .ref (ad w 0 0)), (1, .int x1)]) hx hb dX5_endedBehind_1 rfl hl (by decide) rfl (fun ls hl => ?_)
  refine lv_iconst (v := 0) hx hb dX5_endedBehind_2 (by decide) ?_
  refine lv_iload_n hx hb dX5_endedBehind_3 rfl (lv_at hl 2 rfl) ?_
  refine va_mmax hx hb (hml.trans hl.1.symm) hown (htm _ qw_156) (htm _ qw_97) (htm _ qw_94) (htm _ qw_98) (Nat.le_of_ble_eq_true rfl) (Nat.le_of_ble_eq_true rfl) (Nat.zero_le _) (Nat.zero_le _) dX5_endedBehind_4 ?_
  refine lv_istore_n (lv' := [(3, .int (if 0 < x1 then x1 else 0)), (2, .int 0), (0, .ref (ad w 0 0)), (1, .int x1)]) hx hb dX5_endedBehind_7 rfl hl (by decide) rfl (fun ls hl => ?_)
  exact l_X5_endedBehind_8 X hw  30 _ _ hP hS (lv_sub hl [2, 1, 0] rfl) hF
def f_X5_link (G V : MT) (i1 : Nat) (i2 : Nat) : Option (MT) :=
  if i1 = i2 then (some V) else (some (pt (pt V 7 i1 13 ((V 7 i1 13) ||| (1 <<< ((nI i2) &&& 31)))) 7 i2 13 (((pt V 7 i1 13 ((V 7 i1 13) ||| (1 <<< ((nI i2) &&& 31)))) 7 i2 13) ||| (1 <<< ((nI i1) &&& 31)))))
def rm_X5_link : Room := { frames := 0, cells := 0, slots := 0, locals := 0 }
set_option maxRecDepth 20000 in
set_option maxHeartbeats 4000000 in
theorem c_X5_link {l : Launch} {D : va_G} {ad : Nat → Nat → Nat → Nat} {cI cZ cP : ClassId} {A : Nat → Prop} {w : Nat} (hw : w < 2) {G V U : MT} {i1 : Nat} {i2 : Nat} {V' : MT}  (hi1 : i1 < 24) (hi2 : i2 < 24) (hF : f_X5_link G V i1 i2 = some V') : Met l yX5_link (.code yX5_link cX5_link 3 none :: WM) rm_X5_link (PcM D ad cI cZ cP A [.ref (ad w 0 0), .ref (ad w 7 i1), .ref (ad w 7 i2)] (Pic D ad cI cZ cP w G V U)) (QcV A (Pic D ad cI cZ cP w G V' U)) 0 0 A := by
  refine m_entry (by decide) (Nat.le_of_ble_eq_true rfl) (fun p e s m below meth c ls X hP hS hl => ?_)
  have X : MX p s m _ meth c cX5_link RX5 3 none D ad cI cZ cP A := X
  obtain ⟨hx, hb, hml, hown, htm, hr, hlk, hE⟩ := id X
  have hl : lv_has ls 3 [(0, .ref (ad w 0 0)), (1, .ref (ad w 7 i1)), (2, .ref (ad w 7 i2))] := hl
  refine lv_aload_n hx hb dX5_link_0 rfl (lv_at hl 1 rfl) ?_
  refine lv_aload_n hx hb dX5_link_1 rfl (lv_at hl 2 rfl) ?_
  refine lv_acmp_eq (rx := some (ad w 7 i1)) (ry := some (ad w 7 i2)) (tgt := 35) hx hb dX5_link_2 (by decide) (fun c1 => ?_) (fun c1 => ?_)
  · have hF := ite_T (ac_eq hE.2.2.1 hw hi1 hi2 c1) hF
    have e1 := Option.some.inj hF
    subst e1
    exact m_vret X hS hP dX5_link_35
  · have hF := ite_F (ac_ne c1) hF
    refine lv_aload_n hx hb dX5_link_5 rfl (lv_at hl 1 rfl) ?_
    refine lv_dup hx hb dX5_link_6 rfl ?_
    refine gf_7_13 hx hb htm hown hE hP hw hi1 (htm _ qw_241) dX5_link_7 ?_
    refine lv_iconst (v := 1) hx hb dX5_link_10 (by decide) ?_
    refine lv_aload_n hx hb dX5_link_11 rfl (lv_at hl 2 rfl) ?_
    refine gf_7_0 hx hb htm hown hE hP hw hi2 (htm _ qw_189) dX5_link_12 ?_
    refine lv_ishl hx hb dX5_link_15 ?_
    refine lv_ior hx hb dX5_link_16 ?_
    refine pf_7_13 hx hb htm hown hE hP hS hw hi1 (htm _ qw_241) dX5_link_17 (fun H locs hP hS => ?_)
    refine lv_aload_n hx hb dX5_link_20 rfl (lv_at hl 2 rfl) ?_
    refine lv_dup hx hb dX5_link_21 rfl ?_
    refine gf_7_13 hx hb htm hown hE hP hw hi2 (htm _ qw_241) dX5_link_22 ?_
    refine lv_iconst (v := 1) hx hb dX5_link_25 (by decide) ?_
    refine lv_aload_n hx hb dX5_link_26 rfl (lv_at hl 1 rfl) ?_
    refine gf_7_0 hx hb htm hown hE hP hw hi1 (htm _ qw_189) dX5_link_27 ?_
    refine lv_ishl hx hb dX5_link_30 ?_
    refine lv_ior hx hb dX5_link_31 ?_
    refine pf_7_13 hx hb htm hown hE hP hS hw hi2 (htm _ qw_241) dX5_link_32 (fun H locs hP hS => ?_)
    have e1 := Option.some.inj hF
    subst e1
    exact m_vret X hS hP dX5_link_35
def f_X5_unlink (G V : MT) (i1 : Nat) (i2 : Nat) : Option (MT) :=
  some (pt (pt V 7 i1 13 ((V 7 i1 13) &&& ((1 <<< ((nI i2) &&& 31)) ^^^ (-1)))) 7 i2 13 (((pt V 7 i1 13 ((V 7 i1 13) &&& ((1 <<< ((nI i2) &&& 31)) ^^^ (-1)))) 7 i2 13) &&& ((1 <<< ((nI i1) &&& 31)) ^^^ (-1))))
def rm_X5_unlink : Room := { frames := 0, cells := 0, slots := 0, locals := 0 }
set_option maxRecDepth 20000 in
set_option maxHeartbeats 4000000 in
theorem c_X5_unlink {l : Launch} {D : va_G} {ad : Nat → Nat → Nat → Nat} {cI cZ cP : ClassId} {A : Nat → Prop} {w : Nat} (hw : w < 2) {G V U : MT} {i1 : Nat} {i2 : Nat} {V' : MT}  (hi1 : i1 < 24) (hi2 : i2 < 24) (hF : f_X5_unlink G V i1 i2 = some V') : Met l yX5_unlink (.code yX5_unlink cX5_unlink 3 none :: WM) rm_X5_unlink (PcM D ad cI cZ cP A [.ref (ad w 0 0), .ref (ad w 7 i1), .ref (ad w 7 i2)] (Pic D ad cI cZ cP w G V U)) (QcV A (Pic D ad cI cZ cP w G V' U)) 0 0 A := by
  refine m_entry (by decide) (Nat.le_of_ble_eq_true rfl) (fun p e s m below meth c ls X hP hS hl => ?_)
  have X : MX p s m _ meth c cX5_unlink RX5 3 none D ad cI cZ cP A := X
  obtain ⟨hx, hb, hml, hown, htm, hr, hlk, hE⟩ := id X
  have hl : lv_has ls 3 [(0, .ref (ad w 0 0)), (1, .ref (ad w 7 i1)), (2, .ref (ad w 7 i2))] := hl
  refine lv_aload_n hx hb dX5_unlink_0 rfl (lv_at hl 1 rfl) ?_
  refine lv_dup hx hb dX5_unlink_1 rfl ?_
  refine gf_7_13 hx hb htm hown hE hP hw hi1 (htm _ qw_241) dX5_unlink_2 ?_
  refine lv_iconst (v := 1) hx hb dX5_unlink_5 (by decide) ?_
  refine lv_aload_n hx hb dX5_unlink_6 rfl (lv_at hl 2 rfl) ?_
  refine gf_7_0 hx hb htm hown hE hP hw hi2 (htm _ qw_189) dX5_unlink_7 ?_
  refine lv_ishl hx hb dX5_unlink_10 ?_
  refine lv_iconst (v := (-1)) hx hb dX5_unlink_11 (by decide) ?_
  refine lv_ixor hx hb dX5_unlink_12 ?_
  refine lv_iand hx hb dX5_unlink_13 ?_
  refine pf_7_13 hx hb htm hown hE hP hS hw hi1 (htm _ qw_241) dX5_unlink_14 (fun H locs hP hS => ?_)
  refine lv_aload_n hx hb dX5_unlink_17 rfl (lv_at hl 2 rfl) ?_
  refine lv_dup hx hb dX5_unlink_18 rfl ?_
  refine gf_7_13 hx hb htm hown hE hP hw hi2 (htm _ qw_241) dX5_unlink_19 ?_
  refine lv_iconst (v := 1) hx hb dX5_unlink_22 (by decide) ?_
  refine lv_aload_n hx hb dX5_unlink_23 rfl (lv_at hl 1 rfl) ?_
  refine gf_7_0 hx hb htm hown hE hP hw hi1 (htm _ qw_189) dX5_unlink_24 ?_
  refine lv_ishl hx hb dX5_unlink_27 ?_
  refine lv_iconst (v := (-1)) hx hb dX5_unlink_28 (by decide) ?_
  refine lv_ixor hx hb dX5_unlink_29 ?_
  refine lv_iand hx hb dX5_unlink_30 ?_
  refine pf_7_13 hx hb htm hown hE hP hS hw hi2 (htm _ qw_241) dX5_unlink_31 (fun H locs hP hS => ?_)
  have e1 := Option.some.inj hF
  subst e1
  exact m_vret X hS hP dX5_unlink_34
