theorem vw_X6_digest : VW RX6 yX6_digest cX6_digest 5 (some .long) 0 := ⟨qw_646, qw_647, qw_12, qw_571, ⟨rfl, by decide, by decide, by decide +kernel⟩⟩
def f_X6_digest_121 (G V : MT) : Nat → Int64 → Int32 → MT → Option (Int64 × MT)
  | 0, _, _, _ => none
  | n + 1, y1, y3, U => if 4 ≤ y3 then ((f_X6_overBy G V U 1 5).bind (fun q5_ => (f_X6_overBy G V q5_.2 3 10).bind (fun q6_ => some ((((y1 * 31) + (Int32.toInt64 q5_.1)) * 31) + (Int32.toInt64 q6_.1), q6_.2)))) else ((f_X6_named G V U y3).bind (fun q7_ => (f_X6_digest_121 G V n) ((y1 * 31) + (Int32.toInt64 q7_)) (y3 + 1) U))
def f_X6_digest_95 (G V : MT) : Nat → Int64 → Int32 → MT → Option (Int64 × MT)
  | 0, _, _, _ => none
  | n + 1, y1, y3, U => if V 0 0 5 ≤ y3 then (f_X6_digest_121 G V  30 y1 0 U) else ((f_X6_digestOfProcess G V U y1 y3).bind (fun q8_ => (f_X6_digest_95 G V n) q8_.1 (y3 + 1) q8_.2))
def f_X6_digest_47 (G V : MT) (k33 : Int64 → Int32 → MT → Option (Int64 × MT)) : Nat → Int64 → Int32 → Int32 → MT → Option (Int64 × MT)
  | 0, _, _, _, _ => none
  | n + 1, y1, y3, y4, U => if 4 < y4 then ((f_X6_wouldPurge G V U y3).bind (fun q10_ => k33 ((y1 * 31) + (Int32.toInt64 q10_.1)) (y3 + 1) q10_.2)) else ((f_X6_ofModule G V U y3 y4).bind (fun q11_ => (f_X6_digest_47 G V k33 n) ((y1 * 31) + (Int32.toInt64 q11_)) y3 (y4 + 1) U))
def f_X6_digest_33 (G V : MT) : Nat → Int64 → Int32 → MT → Option (Int64 × MT)
  | 0, _, _, _ => none
  | n + 1, y1, y3, U => if G 17 0 0 ≤ y3 then (f_X6_digest_95 G V  30 y1 0 U) else (f_X6_digest_47 G V (f_X6_digest_33 G V n) 30 y1 y3 0 U)
def f_X6_digest_6 (G V : MT) : Nat → Int64 → Int32 → MT → Option (Int64 × MT)
  | 0, _, _, _ => none
  | n + 1, y1, y3, U => if 12 < y3 then (f_X6_digest_33 G V  30 y1 0 U) else ((f_X6_many G V U y3).bind (fun q12_ => (f_X6_digest_6 G V n) ((y1 * 31) + (Int32.toInt64 q12_)) (y3 + 1) U))
def f_X6_digest (G V U : MT)  : Option (Int64 × MT) :=
  f_X6_digest_6 G V  30 58144 0 U
def rm_X6_digest : Room := { frames := 13, cells := 0, slots := 0, locals := 353 }
set_option maxRecDepth 20000 in
set_option maxHeartbeats 4000000 in
theorem l_X6_digest_121 {p : Program} {l : Launch} {e : Env} {s : State} {m : MethodId} {args : Array Value} {below : List Frame} {meth : Method} {c : Code} {D : va_G} {ad : Nat → Nat → Nat → Nat} {cI cZ cP : ClassId} {A : Nat → Prop} {G V : MT} {r : Int64} {U' : MT} (X : MX p s m args meth c cX6_digest RX6 5 (some .long) D ad cI cZ cP A) (n : Nat) : ∀ {H : Heap} {locs : List Loc} {ls : Array Slot} (y1 : Int64) (y3 : Int32) (U : MT), Pic D ad cI cZ cP 0 G V U H → va_S A s.heap H locs → lv_has ls 5 [(0, .ref (ad 2 16 0)), (1, .long y1), (3, .int y3)] → f_X6_digest_121 G V n y1 y3 U = some (r, U') → W p l e rm_X6_digest s m args below meth c H locs 0 0 (MQ below (QcL A r (Pic D ad cI cZ cP 0 G V U')) args s 0 0 A) (F0 m 121 ls []) := by
  obtain ⟨hx, hb, hml, hown, htm, hr, hlk, hE⟩ := id X
  induction n with
  | zero =>
    intros
    exact ns_S (by assumption)
  | succ n ih121 =>
    intro H locs ls y1 y3 U   hP hS hl hF
    rw [f_X6_digest_121] at hF
    refine lv_iload_n hx hb dX6_digest_121 rfl (lv_at hl 2 rfl) ?_
    refine lv_iconst (v := 4) hx hb dX6_digest_122 (by decide) ?_
    refine lv_icmp_ge (tgt := 145) hx hb dX6_digest_123 (by decide) (fun c4 => ?_) (fun c4 => ?_)
    · have hF := ite_T c4 hF
      refine lv_lload_n hx hb dX6_digest_145 rfl (lv_at hl 1 rfl) ?_
      refine lv_ldc2 (v := 31) hx hb hown (htm _ qw_532) dX6_digest_146 ?_
      refine lv_lmul hx hb dX6_digest_149 ?_
      refine lv_aload_n hx hb dX6_digest_150 rfl (lv_at hl 0 rfl) ?_
      refine lv_iconst (v := 1) hx hb dX6_digest_151 (by decide) ?_
      refine lv_iconst (v := 5) hx hb dX6_digest_152 (by decide) ?_
      obtain ⟨⟨r5, U5⟩, hc5, hF⟩ := ob_S hF
      refine m_cVi X hS vw_X6_overBy qw_568 (c_X6_overBy hc5) ⟨rfl, rfl⟩ ⟨Nat.le_of_ble_eq_true rfl, Nat.le_of_ble_eq_true rfl⟩ (rc_16 hE hP) hP rfl hl.1 (rest := [.long (y1 * 31)]) rfl (Nat.le_of_ble_eq_true rfl) dX6_digest_153 (fun H locs hP hS => ?_)
      refine lv_i2l (v := Int32.toInt64 r5) hx hb dX6_digest_156 rfl ?_
      refine lv_ladd hx hb dX6_digest_157 ?_
      refine lv_lstore_n (lv' := [(1, .long ((y1 * 31) + (Int32.toInt64 r5))), (0, .ref (ad 2 16 0)), (3, .int y3)]) hx hb dX6_digest_158 rfl hl (by decide) rfl (fun ls hl => ?_)
      refine lv_lload_n hx hb dX6_digest_159 rfl (lv_at hl 0 rfl) ?_
      refine lv_ldc2 (v := 31) hx hb hown (htm _ qw_532) dX6_digest_160 ?_
      refine lv_lmul hx hb dX6_digest_163 ?_
      refine lv_aload_n hx hb dX6_digest_164 rfl (lv_at hl 1 rfl) ?_
      refine lv_iconst (v := 3) hx hb dX6_digest_165 (by decide) ?_
      refine lv_bipush (v := 10) hx hb dX6_digest_166 (by decide) ?_
      obtain ⟨⟨r6, U6⟩, hc6, hF⟩ := ob_S hF
      refine m_cVi X hS vw_X6_overBy qw_568 (c_X6_overBy hc6) ⟨rfl, rfl⟩ ⟨Nat.le_of_ble_eq_true rfl, Nat.le_of_ble_eq_true rfl⟩ (rc_16 hE hP) hP rfl hl.1 (rest := [.long (((y1 * 31) + (Int32.toInt64 r5)) * 31)]) rfl (Nat.le_of_ble_eq_true rfl) dX6_digest_168 (fun H locs hP hS => ?_)
      refine lv_i2l (v := Int32.toInt64 r6) hx hb dX6_digest_171 rfl ?_
      refine lv_ladd hx hb dX6_digest_172 ?_
      obtain ⟨e1, e2⟩ := Prod.mk.inj (Option.some.inj hF)
      subst e1
      subst e2
      exact m_lret X hS hP rfl dX6_digest_173
    · have hF := ite_F c4 hF
      refine lv_lload_n hx hb dX6_digest_126 rfl (lv_at hl 1 rfl) ?_
      refine lv_ldc2 (v := 31) hx hb hown (htm _ qw_532) dX6_digest_127 ?_
      refine lv_lmul hx hb dX6_digest_130 ?_
      refine lv_aload_n hx hb dX6_digest_131 rfl (lv_at hl 0 rfl) ?_
      refine lv_iload_n hx hb dX6_digest_132 rfl (lv_at hl 2 rfl) ?_
      obtain ⟨r7, hc7, hF⟩ := ob_S hF
      refine m_cVi X hS vw_X6_named qw_565 (c_X6_named hc7) ⟨rfl, rfl⟩ ⟨Nat.le_of_ble_eq_true rfl, Nat.le_of_ble_eq_true rfl⟩ (rc_16 hE hP) hP rfl hl.1 (rest := [.long (y1 * 31)]) rfl (Nat.le_of_ble_eq_true rfl) dX6_digest_133 (fun H locs hP hS => ?_)
      refine lv_i2l (v := Int32.toInt64 r7) hx hb dX6_digest_136 rfl ?_
      refine lv_ladd hx hb dX6_digest_137 ?_
      refine lv_lstore_n (lv' := [(1, .long ((y1 * 31) + (Int32.toInt64 r7))), (0, .ref (ad 2 16 0)), (3, .int y3)]) hx hb dX6_digest_138 rfl hl (by decide) rfl (fun ls hl => ?_)
      refine lv_iinc (v := y3 + 1) (lv' := [(3, .int (y3 + 1)), (1, .long ((y1 * 31) + (Int32.toInt64 r7))), (0, .ref (ad 2 16 0))]) hx hb dX6_digest_139 hl (k := 2) rfl rfl (by decide) rfl (fun ls hl => ?_)
      refine lv_goto (tgt := 121) hx hb dX6_digest_142 (by decide) ?_
      exact ih121 _ _ _  hP hS (lv_sub hl [2, 1, 0] rfl) hF
set_option maxRecDepth 20000 in
set_option maxHeartbeats 4000000 in
theorem l_X6_digest_95 {p : Program} {l : Launch} {e : Env} {s : State} {m : MethodId} {args : Array Value} {below : List Frame} {meth : Method} {c : Code} {D : va_G} {ad : Nat → Nat → Nat → Nat} {cI cZ cP : ClassId} {A : Nat → Prop} {G V : MT} {r : Int64} {U' : MT} (X : MX p s m args meth c cX6_digest RX6 5 (some .long) D ad cI cZ cP A) (n : Nat) : ∀ {H : Heap} {locs : List Loc} {ls : Array Slot} (y1 : Int64) (y3 : Int32) (U : MT), Pic D ad cI cZ cP 0 G V U H → va_S A s.heap H locs → lv_has ls 5 [(0, .ref (ad 2 16 0)), (1, .long y1), (3, .int y3)] → f_X6_digest_95 G V n y1 y3 U = some (r, U') → W p l e rm_X6_digest s m args below meth c H locs 0 0 (MQ below (QcL A r (Pic D ad cI cZ cP 0 G V U')) args s 0 0 A) (F0 m 95 ls []) := by
  obtain ⟨hx, hb, hml, hown, htm, hr, hlk, hE⟩ := id X
  induction n with
  | zero =>
    intros
    exact ns_S (by assumption)
  | succ n ih95 =>
    intro H locs ls y1 y3 U   hP hS hl hF
    rw [f_X6_digest_95] at hF
    refine lv_iload_n hx hb dX6_digest_95 rfl (lv_at hl 2 rfl) ?_
    refine lv_aload_n hx hb dX6_digest_96 rfl (lv_at hl 0 rfl) ?_
    refine gf_16_2 hx hb htm hown hE hP (htm _ qw_382) dX6_digest_97 ?_
    refine gf_0_5 hx hb htm hown hE hP (by decide) (htm _ qw_447) dX6_digest_100 ?_
    refine lv_icmp_ge (tgt := 119) hx hb dX6_digest_103 (by decide) (fun c3 => ?_) (fun c3 => ?_)
    · have hF := ite_T c3 hF
      refine lv_iconst (v := 0) hx hb dX6_digest_119 (by decide) ?_
      refine lv_istore_n (lv' := [(3, .int 0), (0, .ref (ad 2 16 0)), (1, .long y1)]) hx hb dX6_digest_120 rfl hl (by decide) rfl (fun ls hl => ?_)
      exact l_X6_digest_121 X  30 _ _ _ hP hS (lv_sub hl [1, 2, 0] rfl) hF
    · have hF := ite_F c3 hF
      refine lv_aload_n hx hb dX6_digest_106 rfl (lv_at hl 0 rfl) ?_
      refine lv_lload_n hx hb dX6_digest_107 rfl (lv_at hl 1 rfl) ?_
      refine lv_iload_n hx hb dX6_digest_108 rfl (lv_at hl 2 rfl) ?_
      obtain ⟨⟨r8, U8⟩, hc8, hF⟩ := ob_S hF
      refine m_cVl X hS vw_X6_digestOfProcess qw_562 (c_X6_digestOfProcess hc8) ⟨rfl, rfl⟩ ⟨Nat.le_of_ble_eq_true rfl, Nat.le_of_ble_eq_true rfl⟩ (rc_16 hE hP) hP rfl hl.1 (rest := []) rfl (Nat.le_of_ble_eq_true rfl) dX6_digest_109 (fun H locs hP hS => ?_)
      refine lv_lstore_n (lv' := [(1, .long r8), (0, .ref (ad 2 16 0)), (3, .int y3)]) hx hb dX6_digest_112 rfl hl (by decide) rfl (fun ls hl => ?_)
      refine lv_iinc (v := y3 + 1) (lv' := [(3, .int (y3 + 1)), (1, .long r8), (0, .ref (ad 2 16 0))]) hx hb dX6_digest_113 hl (k := 2) rfl rfl (by decide) rfl (fun ls hl => ?_)
      refine lv_goto (tgt := 95) hx hb dX6_digest_116 (by decide) ?_
      exact ih95 _ _ _  hP hS (lv_sub hl [2, 1, 0] rfl) hF
set_option maxRecDepth 20000 in
set_option maxHeartbeats 4000000 in
theorem l_X6_digest_47 {p : Program} {l : Launch} {e : Env} {s : State} {m : MethodId} {args : Array Value} {below : List Frame} {meth : Method} {c : Code} {D : va_G} {ad : Nat → Nat → Nat → Nat} {cI cZ cP : ClassId} {A : Nat → Prop} {G V : MT} {r : Int64} {U' : MT} (X : MX p s m args meth c cX6_digest RX6 5 (some .long) D ad cI cZ cP A) (k33 : Int64 → Int32 → MT → Option (Int64 × MT)) (ih33 : ∀ {H : Heap} {locs : List Loc} {ls : Array Slot} (y1 : Int64) (y3 : Int32) (U : MT), Pic D ad cI cZ cP 0 G V U H → va_S A s.heap H locs → lv_has ls 5 [(0, .ref (ad 2 16 0)), (1, .long y1), (3, .int y3)] → k33 y1 y3 U = some (r, U') → W p l e rm_X6_digest s m args below meth c H locs 0 0 (MQ below (QcL A r (Pic D ad cI cZ cP 0 G V U')) args s 0 0 A) (F0 m 33 ls [])) (n : Nat) : ∀ {H : Heap} {locs : List Loc} {ls : Array Slot} (y1 : Int64) (y3 : Int32) (y4 : Int32) (U : MT), Pic D ad cI cZ cP 0 G V U H → va_S A s.heap H locs → lv_has ls 5 [(0, .ref (ad 2 16 0)), (1, .long y1), (3, .int y3), (4, .int y4)] → f_X6_digest_47 G V k33 n y1 y3 y4 U = some (r, U') → W p l e rm_X6_digest s m args below meth c H locs 0 0 (MQ below (QcL A r (Pic D ad cI cZ cP 0 G V U')) args s 0 0 A) (F0 m 47 ls []) := by
  obtain ⟨hx, hb, hml, hown, htm, hr, hlk, hE⟩ := id X
  induction n with
  | zero =>
    intros
    exact ns_S (by assumption)
  | succ n ih47 =>
    intro H locs ls y1 y3 y4 U   hP hS hl hF
    rw [f_X6_digest_47] at hF
    refine lv_iload hx hb dX6_digest_47 (lv_at hl 3 rfl) ?_
    refine lv_iconst (v := 4) hx hb dX6_digest_49 (by decide) ?_
    refine lv_icmp_gt (tgt := 74) hx hb dX6_digest_50 (by decide) (fun c9 => ?_) (fun c9 => ?_)
    · have hF := ite_T c9 hF
      refine lv_lload_n hx hb dX6_digest_74 rfl (lv_at hl 1 rfl) ?_
      refine lv_ldc2 (v := 31) hx hb hown (htm _ qw_532) dX6_digest_75 ?_
      refine lv_lmul hx hb dX6_digest_78 ?_
      refine lv_aload_n hx hb dX6_digest_79 rfl (lv_at hl 0 rfl) ?_
      refine lv_iload_n hx hb dX6_digest_80 rfl (lv_at hl 2 rfl) ?_
      obtain ⟨⟨r10, U10⟩, hc10, hF⟩ := ob_S hF
      refine m_cVi X hS vw_X6_wouldPurge qw_559 (c_X6_wouldPurge hc10) ⟨rfl, rfl⟩ ⟨Nat.le_of_ble_eq_true rfl, Nat.le_of_ble_eq_true rfl⟩ (rc_16 hE hP) hP rfl hl.1 (rest := [.long (y1 * 31)]) rfl (Nat.le_of_ble_eq_true rfl) dX6_digest_81 (fun H locs hP hS => ?_)
      refine lv_i2l (v := Int32.toInt64 r10) hx hb dX6_digest_84 rfl ?_
      refine lv_ladd hx hb dX6_digest_85 ?_
      refine lv_lstore_n (lv' := [(1, .long ((y1 * 31) + (Int32.toInt64 r10))), (0, .ref (ad 2 16 0)), (3, .int y3), (4, .int y4)]) hx hb dX6_digest_86 rfl hl (by decide) rfl (fun ls hl => ?_)
      refine lv_iinc (v := y3 + 1) (lv' := [(3, .int (y3 + 1)), (1, .long ((y1 * 31) + (Int32.toInt64 r10))), (0, .ref (ad 2 16 0)), (4, .int y4)]) hx hb dX6_digest_87 hl (k := 2) rfl rfl (by decide) rfl (fun ls hl => ?_)
      refine lv_goto (tgt := 33) hx hb dX6_digest_90 (by decide) ?_
      exact ih33 _ _ _  hP hS (lv_sub hl [2, 1, 0] rfl) hF
    · have hF := ite_F c9 hF
      refine lv_lload_n hx hb dX6_digest_53 rfl (lv_at hl 1 rfl) ?_
      refine lv_ldc2 (v := 31) hx hb hown (htm _ qw_532) dX6_digest_54 ?_
      refine lv_lmul hx hb dX6_digest_57 ?_
      refine lv_aload_n hx hb dX6_digest_58 rfl (lv_at hl 0 rfl) ?_
      refine lv_iload_n hx hb dX6_digest_59 rfl (lv_at hl 2 rfl) ?_
      refine lv_iload hx hb dX6_digest_60 (lv_at hl 3 rfl) ?_
      obtain ⟨r11, hc11, hF⟩ := ob_S hF
      refine m_cVi X hS vw_X6_ofModule qw_556 (c_X6_ofModule hc11) ⟨rfl, rfl⟩ ⟨Nat.le_of_ble_eq_true rfl, Nat.le_of_ble_eq_true rfl⟩ (rc_16 hE hP) hP rfl hl.1 (rest := [.long (y1 * 31)]) rfl (Nat.le_of_ble_eq_true rfl) dX6_digest_62 (fun H locs hP hS => ?_)
      refine lv_i2l (v := Int32.toInt64 r11) hx hb dX6_digest_65 rfl ?_
      refine lv_ladd hx hb dX6_digest_66 ?_
      refine lv_lstore_n (lv' := [(1, .long ((y1 * 31) + (Int32.toInt64 r11))), (0, .ref (ad 2 16 0)), (3, .int y3), (4, .int y4)]) hx hb dX6_digest_67 rfl hl (by decide) rfl (fun ls hl => ?_)
      refine lv_iinc (v := y4 + 1) (lv' := [(4, .int (y4 + 1)), (1, .long ((y1 * 31) + (Int32.toInt64 r11))), (0, .ref (ad 2 16 0)), (3, .int y3)]) hx hb dX6_digest_68 hl (k := 3) rfl rfl (by decide) rfl (fun ls hl => ?_)
      refine lv_goto (tgt := 47) hx hb dX6_digest_71 (by decide) ?_
      exact ih47 _ _ _ _  hP hS (lv_sub hl [2, 1, 3, 0] rfl) hF
set_option maxRecDepth 20000 in
set_option maxHeartbeats 4000000 in
theorem l_X6_digest_33 {p : Program} {l : Launch} {e : Env} {s : State} {m : MethodId} {args : Array Value} {below : List Frame} {meth : Method} {c : Code} {D : va_G} {ad : Nat → Nat → Nat → Nat} {cI cZ cP : ClassId} {A : Nat → Prop} {G V : MT} {r : Int64} {U' : MT} (X : MX p s m args meth c cX6_digest RX6 5 (some .long) D ad cI cZ cP A) (n : Nat) : ∀ {H : Heap} {locs : List Loc} {ls : Array Slot} (y1 : Int64) (y3 : Int32) (U : MT), Pic D ad cI cZ cP 0 G V U H → va_S A s.heap H locs → lv_has ls 5 [(0, .ref (ad 2 16 0)), (1, .long y1), (3, .int y3)] → f_X6_digest_33 G V n y1 y3 U = some (r, U') → W p l e rm_X6_digest s m args below meth c H locs 0 0 (MQ below (QcL A r (Pic D ad cI cZ cP 0 G V U')) args s 0 0 A) (F0 m 33 ls []) := by
  obtain ⟨hx, hb, hml, hown, htm, hr, hlk, hE⟩ := id X
  induction n with
  | zero =>
    intros
    exact ns_S (by assumption)
  | succ n ih33 =>
    intro H locs ls y1 y3 U   hP hS hl hF
    rw [f_X6_digest_33] at hF
    refine lv_iload_n hx hb dX6_digest_33 rfl (lv_at hl 2 rfl) ?_
    refine lv_aload_n hx hb dX6_digest_34 rfl (lv_at hl 0 rfl) ?_
    refine gf_16_0 hx hb htm hown hE hP (htm _ qw_376) dX6_digest_35 ?_
    refine gf_17_0 hx hb htm hown hE hP (htm _ qw_390) dX6_digest_38 ?_
    refine lv_icmp_ge (tgt := 93) hx hb dX6_digest_41 (by decide) (fun c2 => ?_) (fun c2 => ?_)
    · have hF := ite_T c2 hF
      refine lv_iconst (v := 0) hx hb dX6_digest_93 (by decide) ?_
      refine lv_istore_n (lv' := [(3, .int 0), (0, .ref (ad 2 16 0)), (1, .long y1)]) hx hb dX6_digest_94 rfl hl (by decide) rfl (fun ls hl => ?_)
      exact l_X6_digest_95 X  30 _ _ _ hP hS (lv_sub hl [1, 2, 0] rfl) hF
    · have hF := ite_F c2 hF
      refine lv_iconst (v := 0) hx hb dX6_digest_44 (by decide) ?_
      refine lv_istore (lv' := [(4, .int 0), (0, .ref (ad 2 16 0)), (1, .long y1), (3, .int y3)]) hx hb dX6_digest_45 hl (by decide) rfl (fun ls hl => ?_)
      exact l_X6_digest_47 X (f_X6_digest_33 G V n) ih33 30 _ _ _ _ hP hS (lv_sub hl [1, 2, 3, 0] rfl) hF
set_option maxRecDepth 20000 in
set_option maxHeartbeats 4000000 in
theorem l_X6_digest_6 {p : Program} {l : Launch} {e : Env} {s : State} {m : MethodId} {args : Array Value} {below : List Frame} {meth : Method} {c : Code} {D : va_G} {ad : Nat → Nat → Nat → Nat} {cI cZ cP : ClassId} {A : Nat → Prop} {G V : MT} {r : Int64} {U' : MT} (X : MX p s m args meth c cX6_digest RX6 5 (some .long) D ad cI cZ cP A) (n : Nat) : ∀ {H : Heap} {locs : List Loc} {ls : Array Slot} (y1 : Int64) (y3 : Int32) (U : MT), Pic D ad cI cZ cP 0 G V U H → va_S A s.heap H locs → lv_has ls 5 [(0, .ref (ad 2 16 0)), (1, .long y1), (3, .int y3)] → f_X6_digest_6 G V n y1 y3 U = some (r, U') → W p l e rm_X6_digest s m args below meth c H locs 0 0 (MQ below (QcL A r (Pic D ad cI cZ cP 0 G V U')) args s 0 0 A) (F0 m 6 ls []) := by
  obtain ⟨hx, hb, hml, hown, htm, hr, hlk, hE⟩ := id X
  induction n with
  | zero =>
    intros
    exact ns_S (by assumption)
  | succ n ih6 =>
    intro H locs ls y1 y3 U   hP hS hl hF
    rw [f_X6_digest_6] at hF
    refine lv_iload_n hx hb dX6_digest_6 rfl (lv_at hl 2 rfl) ?_
    refine lv_bipush (v := 12) hx hb dX6_digest_7 (by decide) ?_
    refine lv_icmp_gt (tgt := 31) hx hb dX6_digest_9 (by decide) (fun c1 => ?_) (fun c1 => ?_)
    · have hF := ite_T c1 hF
      refine lv_iconst (v := 0) hx hb dX6_digest_31 (by decide) ?_
      refine lv_istore_n (lv' := [(3, .int 0), (0, .ref (ad 2 16 0)), (1, .long y1)]) hx hb dX6_digest_32 rfl hl (by decide) rfl (fun ls hl => ?_)
      exact l_X6_digest_33 X  30 _ _ _ hP hS (lv_sub hl [1, 2, 0] rfl) hF
    · have hF := ite_F c1 hF
      refine lv_lload_n hx hb dX6_digest_12 rfl (lv_at hl 1 rfl) ?_
      refine lv_ldc2 (v := 31) hx hb hown (htm _ qw_532) dX6_digest_13 ?_
      refine lv_lmul hx hb dX6_digest_16 ?_
      refine lv_aload_n hx hb dX6_digest_17 rfl (lv_at hl 0 rfl) ?_
      refine lv_iload_n hx hb dX6_digest_18 rfl (lv_at hl 2 rfl) ?_
      obtain ⟨r12, hc12, hF⟩ := ob_S hF
      refine m_cVi X hS vw_X6_many qw_553 (c_X6_many hc12) ⟨rfl, rfl⟩ ⟨Nat.le_of_ble_eq_true rfl, Nat.le_of_ble_eq_true rfl⟩ (rc_16 hE hP) hP rfl hl.1 (rest := [.long (y1 * 31)]) rfl (Nat.le_of_ble_eq_true rfl) dX6_digest_19 (fun H locs hP hS => ?_)
      refine lv_i2l (v := Int32.toInt64 r12) hx hb dX6_digest_22 rfl ?_
      refine lv_ladd hx hb dX6_digest_23 ?_
      refine lv_lstore_n (lv' := [(1, .long ((y1 * 31) + (Int32.toInt64 r12))), (0, .ref (ad 2 16 0)), (3, .int y3)]) hx hb dX6_digest_24 rfl hl (by decide) rfl (fun ls hl => ?_)
      refine lv_iinc (v := y3 + 1) (lv' := [(3, .int (y3 + 1)), (1, .long ((y1 * 31) + (Int32.toInt64 r12))), (0, .ref (ad 2 16 0))]) hx hb dX6_digest_25 hl (k := 2) rfl rfl (by decide) rfl (fun ls hl => ?_)
      refine lv_goto (tgt := 6) hx hb dX6_digest_28 (by decide) ?_
      exact ih6 _ _ _  hP hS (lv_sub hl [2, 1, 0] rfl) hF
set_option maxRecDepth 20000 in
set_option maxHeartbeats 4000000 in
theorem c_X6_digest {l : Launch} {D : va_G} {ad : Nat → Nat → Nat → Nat} {cI cZ cP : ClassId} {A : Nat → Prop} {G V U : MT}  {r : Int64} {U' : MT}  (hF : f_X6_digest G V U  = some (r, U')) : Met l yX6_digest (.code yX6_digest cX6_digest 5 (some .long) :: WM) rm_X6_digest (PcM D ad cI cZ cP A [.ref (ad 2 16 0)] (Pic D ad cI cZ cP 0 G V U)) (QcL A r (Pic D ad cI cZ cP 0 G V U')) 0 0 A := by
  refine m_entry (by decide) (Nat.le_of_ble_eq_true rfl) (fun p e s m below meth c ls X hP hS hl => ?_)
  have X : MX p s m _ meth c cX6_digest RX6 5 (some .long) D ad cI cZ cP A := X
  obtain ⟨hx, hb, hml, hown, htm, hr, hlk, hE⟩ := id X
  have hl : lv_has ls 5 [(0, .ref (ad 2 16 0))] := hl
  refine lv_ldc2 (v := 58144) hx hb hown (htm _ qw_552) dX6_digest_0 ?_
  refine lv_lstore_n (lv' := [(1, .long 58144), (0, .ref (ad 2 16 0))]) hx hb dX6_digest_3 rfl hl (by decide) rfl (fun ls hl => ?_)
  refine lv_iconst (v := 0) hx hb dX6_digest_4 (by decide) ?_
  refine lv_istore_n (lv' := [(3, .int 0), (1, .long 58144), (0, .ref (ad 2 16 0))]) hx hb dX6_digest_5 rfl hl (by decide) rfl (fun ls hl => ?_)
  exact l_X6_digest_6 X  30 _ _ _ hP hS (lv_sub hl [2, 1, 0] rfl) hF
