theorem vw_X5_end : VW RX5 yX5_end cX5_end 4 none 2 := ⟨qw_208, qw_209, qw_203, qw_190, ⟨rfl, by decide, by decide, by decide +kernel⟩⟩
def f_X5_end_43 (G : MT) : Nat → Nat → Int32 → MT → Option (MT)
  | 0, _, _, _ => none
  | n + 1, j1, y3, V => if 4 ≤ y3 then (if ¬ (V 0 0 12 < 0 ∨ 24 ≤ Int32.toNatClampNeg (V 0 0 12)) then (some (pt (pt V 4 0 (Int32.toNatClampNeg (V 0 0 12)) (nI j1)) 0 0 12 (((pt V 4 0 (Int32.toNatClampNeg (V 0 0 12)) (nI j1)) 0 0 12) + 1))) else none) else (if ¬ (y3 < 0 ∨ 4 ≤ Int32.toNatClampNeg y3) then (if V 2 0 (Int32.toNatClampNeg y3) = nI j1 then (if ¬ (y3 < 0 ∨ 4 ≤ Int32.toNatClampNeg y3) then ((f_X5_end_43 G n) j1 (y3 + 1) (pt V 2 0 (Int32.toNatClampNeg y3) (-1))) else none) else ((f_X5_end_43 G n) j1 (y3 + 1) V)) else none)
def f_X5_end (G V : MT) (i1 : Nat) (x2 : Int32) : Option (MT) :=
  if V 7 i1 5 = 2 then (some V) else (if V 0 0 12 < 24 then (f_X5_end_43 G  30 i1 0 (pt (pt (pt (pt V 7 i1 5 2) 7 i1 6 x2) 7 i1 9 (-1)) 10 i1 2 0)) else (some V))
def rm_X5_end : Room := { frames := 0, cells := 0, slots := 0, locals := 0 }
set_option maxRecDepth 20000 in
set_option maxHeartbeats 4000000 in
theorem l_X5_end_43 {p : Program} {l : Launch} {e : Env} {s : State} {m : MethodId} {args : Array Value} {below : List Frame} {meth : Method} {c : Code} {D : va_G} {ad : Nat → Nat → Nat → Nat} {cI cZ cP : ClassId} {A : Nat → Prop} {G U : MT} {V' : MT} (X : MX p s m args meth c cX5_end RX5 4 none D ad cI cZ cP A) {w : Nat} (hw : w < 2) (n : Nat) : ∀ {H : Heap} {locs : List Loc} {ls : Array Slot} (j1 : Nat) (y3 : Int32) (V : MT), j1 < 24 → Pic D ad cI cZ cP w G V U H → va_S A s.heap H locs → lv_has ls 4 [(0, .ref (ad w 0 0)), (1, .ref (ad w 7 j1)), (3, .int y3)] → f_X5_end_43 G n j1 y3 V = some V' → W p l e rm_X5_end s m args below meth c H locs 0 0 (MQ below (QcV A (Pic D ad cI cZ cP w G V' U)) args s 0 0 A) (F0 m 43 ls []) := by
  obtain ⟨hx, hb, hml, hown, htm, hr, hlk, hE⟩ := id X
  induction n with
  | zero =>
    intros
    exact ns_S (by assumption)
  | succ n ih43 =>
    intro H locs ls j1 y3 V hj1  hP hS hl hF
    rw [f_X5_end_43] at hF
    refine lv_iload_n hx hb dX5_end_43 rfl (lv_at hl 2 rfl) ?_
    refine lv_iconst (v := 4) hx hb dX5_end_44 (by decide) ?_
    refine lv_icmp_ge (tgt := 74) hx hb dX5_end_45 (by decide) (fun c3 => ?_) (fun c3 => ?_)
    · have hF := ite_T c3 hF
      refine lv_aload_n hx hb dX5_end_74 rfl (lv_at hl 0 rfl) ?_
      refine gf_0_11 hx hb htm hown hE hP hw (htm _ qw_144) dX5_end_75 ?_
      refine lv_aload_n hx hb dX5_end_78 rfl (lv_at hl 0 rfl) ?_
      refine gf_0_12 hx hb htm hown hE hP hw (htm _ qw_162) dX5_end_79 ?_
      refine lv_aload_n hx hb dX5_end_82 rfl (lv_at hl 1 rfl) ?_
      refine gf_7_0 hx hb htm hown hE hP hw hj1 (htm _ qw_189) dX5_end_83 ?_
      obtain ⟨hn4, hF⟩ := ite_S hF
      refine as_4 hx hb htm hown hE hP hS hw hn4 dX5_end_86 (fun H locs hP hS => ?_)
      refine lv_aload_n hx hb dX5_end_87 rfl (lv_at hl 0 rfl) ?_
      refine lv_dup hx hb dX5_end_88 rfl ?_
      refine gf_0_12 hx hb htm hown hE hP hw (htm _ qw_162) dX5_end_89 ?_
      refine lv_iconst (v := 1) hx hb dX5_end_92 (by decide) ?_
      refine lv_iadd hx hb dX5_end_93 ?_
      refine pf_0_12 hx hb htm hown hE hP hS hw (htm _ qw_162) dX5_end_94 (fun H locs hP hS => ?_)
      have e1 := Option.some.inj hF
      subst e1
      exact m_vret X hS hP dX5_end_97
    · have hF := ite_F c3 hF
      refine lv_aload_n hx hb dX5_end_48 rfl (lv_at hl 0 rfl) ?_
      refine gf_0_3 hx hb htm hown hE hP hw (htm _ qw_141) dX5_end_49 ?_
      refine lv_iload_n hx hb dX5_end_52 rfl (lv_at hl 2 rfl) ?_
      obtain ⟨hn5, hF⟩ := ite_S hF
      refine al_2 hx hb htm hown hE hP hw hn5 dX5_end_53 ?_
      refine lv_aload_n hx hb dX5_end_54 rfl (lv_at hl 1 rfl) ?_
      refine gf_7_0 hx hb htm hown hE hP hw hj1 (htm _ qw_189) dX5_end_55 ?_
      refine lv_icmp_ne (tgt := 68) hx hb dX5_end_58 (by decide) (fun c6 => ?_) (fun c6 => ?_)
      · have hF := ite_F c6 hF
        refine lv_iinc (v := y3 + 1) (lv' := [(3, .int (y3 + 1)), (0, .ref (ad w 0 0)), (1, .ref (ad w 7 j1))]) hx hb dX5_end_68 hl (k := 2) rfl rfl (by decide) rfl (fun ls hl => ?_)
        refine lv_goto (tgt := 43) hx hb dX5_end_71 (by decide) ?_
        exact ih43 _ _ _ hj1 hP hS (lv_sub hl [1, 2, 0] rfl) hF
      · have hF := ite_T c6 hF
        refine lv_aload_n hx hb dX5_end_61 rfl (lv_at hl 0 rfl) ?_
        refine gf_0_3 hx hb htm hown hE hP hw (htm _ qw_141) dX5_end_62 ?_
        refine lv_iload_n hx hb dX5_end_65 rfl (lv_at hl 2 rfl) ?_
        refine lv_iconst (v := (-1)) hx hb dX5_end_66 (by decide) ?_
        obtain ⟨hn7, hF⟩ := ite_S hF
        refine as_2 hx hb htm hown hE hP hS hw hn7 dX5_end_67 (fun H locs hP hS => ?_)
        refine lv_iinc (v := y3 + 1) (lv' := [(3, .int (y3 + 1)), (0, .ref (ad w 0 0)), (1, .ref (ad w 7 j1))]) hx hb dX5_end_68 hl (k := 2) rfl rfl (by decide) rfl (fun ls hl => ?_)
        refine lv_goto (tgt := 43) hx hb dX5_end_71 (by decide) ?_
        exact ih43 _ _ _ hj1 hP hS (lv_sub hl [1, 2, 0] rfl) hF
set_option maxRecDepth 20000 in
set_option maxHeartbeats 4000000 in
theorem c_X5_end {l : Launch} {D : va_G} {ad : Nat → Nat → Nat → Nat} {cI cZ cP : ClassId} {A : Nat → Prop} {w : Nat} (hw : w < 2) {G V U : MT} {i1 : Nat} {x2 : Int32} {V' : MT}  (hi1 : i1 < 24) (hF : f_X5_end G V i1 x2 = some V') : Met l yX5_end (.code yX5_end cX5_end 4 none :: WM) rm_X5_end (PcM D ad cI cZ cP A [.ref (ad w 0 0), .ref (ad w 7 i1), .int x2] (Pic D ad cI cZ cP w G V U)) (QcV A (Pic D ad cI cZ cP w G V' U)) 0 0 A := by
  refine m_entry (by decide) (Nat.le_of_ble_eq_true rfl) (fun p e s m below meth c ls X hP hS hl => ?_)
  have X : MX p s m _ meth c cX5_end RX5 4 none D ad cI cZ cP A := X
  obtain ⟨hx, hb, hml, hown, htm, hr, hlk, hE⟩ := id X
  have hl : lv_has ls 4 [(0, .ref (ad w 0 0)), (1, .ref (ad w 7 i1)), (2, .int x2)] := hl
  refine lv_aload_n hx hb dX5_end_0 rfl (lv_at hl 1 rfl) ?_
  refine gf_7_5 hx hb htm hown hE hP hw hi1 (htm _ qw_170) dX5_end_1 ?_
  refine lv_iconst (v := 2) hx hb dX5_end_4 (by decide) ?_
  refine lv_icmp_eq (tgt := 17) hx hb dX5_end_5 (by decide) (fun c1 => ?_) (fun c1 => ?_)
  · have hF := ite_T c1 hF
    have e1 := Option.some.inj hF
    subst e1
    exact m_vret X hS hP dX5_end_17
  · have hF := ite_F c1 hF
    refine lv_aload_n hx hb dX5_end_8 rfl (lv_at hl 0 rfl) ?_
    refine gf_0_12 hx hb htm hown hE hP hw (htm _ qw_162) dX5_end_9 ?_
    refine lv_bipush (v := 24) hx hb dX5_end_12 (by decide) ?_
    refine lv_icmp_lt (tgt := 18) hx hb dX5_end_14 (by decide) (fun c2 => ?_) (fun c2 => ?_)
    · have hF := ite_T c2 hF
      refine lv_aload_n hx hb dX5_end_18 rfl (lv_at hl 1 rfl) ?_
      refine lv_iconst (v := 2) hx hb dX5_end_19 (by decide) ?_
      refine pf_7_5 hx hb htm hown hE hP hS hw hi1 (htm _ qw_170) dX5_end_20 (fun H locs hP hS => ?_)
      refine lv_aload_n hx hb dX5_end_23 rfl (lv_at hl 1 rfl) ?_
      refine lv_iload_n hx hb dX5_end_24 rfl (lv_at hl 2 rfl) ?_
      refine pf_7_6 hx hb htm hown hE hP hS hw hi1 (htm _ qw_186) dX5_end_25 (fun H locs hP hS => ?_)
      refine lv_aload_n hx hb dX5_end_28 rfl (lv_at hl 1 rfl) ?_
      refine lv_iconst (v := (-1)) hx hb dX5_end_29 (by decide) ?_
      refine pf_7_9 hx hb htm hown hE hP hS hw hi1 (htm _ qw_184) dX5_end_30 (fun H locs hP hS => ?_)
      refine lv_aload_n hx hb dX5_end_33 rfl (lv_at hl 1 rfl) ?_
      refine gf_7_17 hx hb htm hown hE hP hw hi1 (htm _ qw_187) dX5_end_34 ?_
      refine lv_iconst (v := 0) hx hb dX5_end_37 (by decide) ?_
      refine pf_10_2 hx hb htm hown hE hP hS hw hi1 (htm _ qw_188) dX5_end_38 (fun H locs hP hS => ?_)
      refine lv_iconst (v := 0) hx hb dX5_end_41 (by decide) ?_
      refine lv_istore_n (lv' := [(3, .int 0), (0, .ref (ad w 0 0)), (1, .ref (ad w 7 i1)), (2, .int x2)]) hx hb dX5_end_42 rfl hl (by decide) rfl (fun ls hl => ?_)
      exact l_X5_end_43 X hw  30 _ _ _ hi1 hP hS (lv_sub hl [1, 2, 0] rfl) hF
    · have hF := ite_F c2 hF
      have e1 := Option.some.inj hF
      subst e1
      exact m_vret X hS hP dX5_end_17
