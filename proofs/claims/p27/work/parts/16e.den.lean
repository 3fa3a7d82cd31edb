theorem vw_X6_digestOfProcess : VW RX6 yX6_digestOfProcess cX6_digestOfProcess 8 (some .long) 2 := ⟨qw_563, qw_564, qw_12, qw_551, ⟨rfl, by decide, by decide, by decide +kernel⟩⟩
def f_X6_digestOfProcess_132 (G V : MT) : Nat → Int32 → Int64 → Int32 → MT → Option (Int64 × MT)
  | 0, _, _, _, _ => none
  | n + 1, y3, y4, y7, U => if 6 < y7 then ((f_X6_wouldFall G V U y3 0).bind (fun q6_ => (f_X6_wouldFall G V q6_.2 y3 1).bind (fun q7_ => (f_X6_wouldFall G V q7_.2 y3 9).bind (fun q8_ => (f_X6_passedOver G V q8_.2 y3 1).bind (fun q9_ => some ((((((((y4 * 31) + (Int32.toInt64 q6_.1)) * 31) + (Int32.toInt64 q7_.1)) * 31) + (Int32.toInt64 q8_.1)) * 31) + (Int32.toInt64 q9_), q8_.2)))))) else ((f_X6_ofSupervisor G V U y3 y7).bind (fun q10_ => (f_X6_digestOfProcess_132 G V n) y3 ((y4 * 31) + (Int32.toInt64 q10_)) (y7 + 1) U))
def f_X6_digestOfProcess_80 (G V : MT) : Nat → Int32 → Int64 → Int32 → Int32 → MT → Option (Int64 × MT)
  | 0, _, _, _, _, _ => none
  | n + 1, y3, y4, y6, y7, U => if y6 ≤ y7 then (f_X6_digestOfProcess_132 G V  30 y3 y4 0 U) else ((f_X6_mail G V U y3 y7 0).bind (fun q11_ => (f_X6_mail G V U y3 y7 1).bind (fun q12_ => (f_X6_digestOfProcess_80 G V n) y3 ((((y4 * 31) + (Int32.toInt64 q11_)) * 31) + (Int32.toInt64 q12_)) y6 (y7 + 1) U)))
def f_X6_digestOfProcess_39 (G V : MT) : Nat → Int32 → Int64 → Int32 → MT → Option (Int64 × MT)
  | 0, _, _, _, _ => none
  | n + 1, y3, y4, y6, U => if 4 ≤ y6 then ((f_X6_ofProcess G V U y3 8).bind (fun q3_ => f_X6_digestOfProcess_80 G V  30 y3 y4 q3_ 0 U)) else ((f_X6_local G V U y3 y6).bind (fun q13_ => (f_X6_digestOfProcess_39 G V n) y3 ((y4 * 31) + (Int32.toInt64 q13_)) (y6 + 1) U))
def f_X6_digestOfProcess_6 (G V : MT) : Nat → Int32 → Int64 → Int32 → MT → Option (Int64 × MT)
  | 0, _, _, _, _ => none
  | n + 1, y3, y4, y6, U => if 12 < y6 then (f_X6_digestOfProcess_39 G V  30 y3 y4 0 U) else ((f_X6_ofProcess G V U y3 y6).bind (fun q14_ => (f_X6_digestOfProcess_6 G V n) y3 ((y4 * 31) + (Int32.toInt64 q14_)) (y6 + 1) U))
def f_X6_digestOfProcess (G V U : MT) (x1 : Int64) (x3 : Int32) : Option (Int64 × MT) :=
  f_X6_digestOfProcess_6 G V  30 x3 x1 0 U
def rm_X6_digestOfProcess : Room := { frames := 12, cells := 0, slots := 0, locals := 326 }
set_option maxRecDepth 20000 in
set_option maxHeartbeats 4000000 in
theorem l_X6_digestOfProcess_132 {p : Program} {l : Launch} {e : Env} {s : State} {m : MethodId} {args : Array Value} {below : List Frame} {meth : Method} {c : Code} {D : va_G} {ad : Nat → Nat → Nat → Nat} {cI cZ cP : ClassId} {A : Nat → Prop} {G V : MT} {r : Int64} {U' : MT} (X : MX p s m args meth c cX6_digestOfProcess RX6 8 (some .long) D ad cI cZ cP A) (n : Nat) : ∀ {H : Heap} {locs : List Loc} {ls : Array Slot} (y3 : Int32) (y4 : Int64) (y7 : Int32) (U : MT), Pic D ad cI cZ cP 0 G V U H → va_S A s.heap H locs → lv_has ls 8 [(0, .ref (ad 2 16 0)), (3, .int y3), (4, .long y4), (7, .int y7)] → f_X6_digestOfProcess_132 G V n y3 y4 y7 U = some (r, U') → W p l e rm_X6_digestOfProcess s m args below meth c H locs 0 0 (MQ below (QcL A r (Pic D ad cI cZ cP 0 G V U')) args s 0 0 A) (F0 m 132 ls []) := by
  obtain ⟨hx, hb, hml, hown, htm, hr, hlk, hE⟩ := id X
  induction n with
  | zero =>
    intros
    exact ns_S (by assumption)
  | succ n ih132 =>
    intro H locs ls y3 y4 y7 U   hP hS hl hF
    rw [f_X6_digestOfProcess_132] at hF
    refine lv_iload hx hb dX6_digestOfProcess_132 (lv_at hl 3 rfl) ?_
    refine lv_bipush (v := 6) hx hb dX6_digestOfProcess_134 (by decide) ?_
    refine lv_icmp_gt (tgt := 162) hx hb dX6_digestOfProcess_136 (by decide) (fun c5 => ?_) (fun c5 => ?_)
    · have hF := ite_T c5 hF
      refine lv_lload hx hb dX6_digestOfProcess_162 (lv_at hl 2 rfl) ?_
      refine lv_ldc2 (v := 31) hx hb hown (htm _ qw_532) dX6_digestOfProcess_164 ?_
      refine lv_lmul hx hb dX6_digestOfProcess_167 ?_
      refine lv_aload_n hx hb dX6_digestOfProcess_168 rfl (lv_at hl 0 rfl) ?_
      refine lv_iload_n hx hb dX6_digestOfProcess_169 rfl (lv_at hl 1 rfl) ?_
      refine lv_iconst (v := 0) hx hb dX6_digestOfProcess_170 (by decide) ?_
      obtain ⟨⟨r6, U6⟩, hc6, hF⟩ := ob_S hF
      refine m_cVi X hS vw_X6_wouldFall qw_545 (c_X6_wouldFall hc6) ⟨rfl, rfl⟩ ⟨Nat.le_of_ble_eq_true rfl, Nat.le_of_ble_eq_true rfl⟩ (rc_16 hE hP) hP rfl hl.1 (rest := [.long (y4 * 31)]) rfl (Nat.le_of_ble_eq_true rfl) dX6_digestOfProcess_171 (fun H locs hP hS => ?_)
      refine lv_i2l (v := Int32.toInt64 r6) hx hb dX6_digestOfProcess_174 rfl ?_
      refine lv_ladd hx hb dX6_digestOfProcess_175 ?_
      refine lv_lstore (lv' := [(4, .long ((y4 * 31) + (Int32.toInt64 r6))), (0, .ref (ad 2 16 0)), (3, .int y3), (7, .int y7)]) hx hb dX6_digestOfProcess_176 hl (by decide) rfl (fun ls hl => ?_)
      refine lv_lload hx hb dX6_digestOfProcess_178 (lv_at hl 0 rfl) ?_
      refine lv_ldc2 (v := 31) hx hb hown (htm _ qw_532) dX6_digestOfProcess_180 ?_
      refine lv_lmul hx hb dX6_digestOfProcess_183 ?_
      refine lv_aload_n hx hb dX6_digestOfProcess_184 rfl (lv_at hl 1 rfl) ?_
      refine lv_iload_n hx hb dX6_digestOfProcess_185 rfl (lv_at hl 2 rfl) ?_
      refine lv_iconst (v := 1) hx hb dX6_digestOfProcess_186 (by decide) ?_
      obtain ⟨⟨r7, U7⟩, hc7, hF⟩ := ob_S hF
      refine m_cVi X hS vw_X6_wouldFall qw_545 (c_X6_wouldFall hc7) ⟨rfl, rfl⟩ ⟨Nat.le_of_ble_eq_true rfl, Nat.le_of_ble_eq_true rfl⟩ (rc_16 hE hP) hP rfl hl.1 (rest := [.long (((y4 * 31) + (Int32.toInt64 r6)) * 31)]) rfl (Nat.le_of_ble_eq_true rfl) dX6_digestOfProcess_187 (fun H locs hP hS => ?_)
      refine lv_i2l (v := Int32.toInt64 r7) hx hb dX6_digestOfProcess_190 rfl ?_
      refine lv_ladd hx hb dX6_digestOfProcess_191 ?_
      refine lv_lstore (lv' := [(4, .long ((((y4 * 31) + (Int32.toInt64 r6)) * 31) + (Int32.toInt64 r7))), (0, .ref (ad 2 16 0)), (3, .int y3), (7, .int y7)]) hx hb dX6_digestOfProcess_192 hl (by decide) rfl (fun ls hl => ?_)
      refine lv_lload hx hb dX6_digestOfProcess_194 (lv_at hl 0 rfl) ?_
      refine lv_ldc2 (v := 31) hx hb hown (htm _ qw_532) dX6_digestOfProcess_196 ?_
      refine lv_lmul hx hb dX6_digestOfProcess_199 ?_
      refine lv_aload_n hx hb dX6_digestOfProcess_200 rfl (lv_at hl 1 rfl) ?_
      refine lv_iload_n hx hb dX6_digestOfProcess_201 rfl (lv_at hl 2 rfl) ?_
      refine lv_bipush (v := 9) hx hb dX6_digestOfProcess_202 (by decide) ?_
      obtain ⟨⟨r8, U8⟩, hc8, hF⟩ := ob_S hF
      refine m_cVi X hS vw_X6_wouldFall qw_545 (c_X6_wouldFall hc8) ⟨rfl, rfl⟩ ⟨Nat.le_of_ble_eq_true rfl, Nat.le_of_ble_eq_true rfl⟩ (rc_16 hE hP) hP rfl hl.1 (rest := [.long (((((y4 * 31) + (Int32.toInt64 r6)) * 31) + (Int32.toInt64 r7)) * 31)]) rfl (Nat.le_of_ble_eq_true rfl) dX6_digestOfProcess_204 (fun H locs hP hS => ?_)
      refine lv_i2l (v := Int32.toInt64 r8) hx hb dX6_digestOfProcess_207 rfl ?_
      refine lv_ladd hx hb dX6_digestOfProcess_208 ?_
      refine lv_lstore (lv' := [(4, .long ((((((y4 * 31) + (Int32.toInt64 r6)) * 31) + (Int32.toInt64 r7)) * 31) + (Int32.toInt64 r8))), (0, .ref (ad 2 16 0)), (3, .int y3), (7, .int y7)]) hx hb dX6_digestOfProcess_209 hl (by decide) rfl (fun ls hl => ?_)
      refine lv_lload hx hb dX6_digestOfProcess_211 (lv_at hl 0 rfl) ?_
      refine lv_ldc2 (v := 31) hx hb hown (htm _ qw_532) dX6_digestOfProcess_213 ?_
      refine lv_lmul hx hb dX6_digestOfProcess_216 ?_
      refine lv_aload_n hx hb dX6_digestOfProcess_217 rfl (lv_at hl 1 rfl) ?_
      refine lv_iload_n hx hb dX6_digestOfProcess_218 rfl (lv_at hl 2 rfl) ?_
      refine lv_iconst (v := 1) hx hb dX6_digestOfProcess_219 (by decide) ?_
      obtain ⟨r9, hc9, hF⟩ := ob_S hF
      refine m_cVi X hS vw_X6_passedOver qw_548 (c_X6_passedOver hc9) ⟨rfl, rfl⟩ ⟨Nat.le_of_ble_eq_true rfl, Nat.le_of_ble_eq_true rfl⟩ (rc_16 hE hP) hP rfl hl.1 (rest := [.long (((((((y4 * 31) + (Int32.toInt64 r6)) * 31) + (Int32.toInt64 r7)) * 31) + (Int32.toInt64 r8)) * 31)]) rfl (Nat.le_of_ble_eq_true rfl) dX6_digestOfProcess_220 (fun H locs hP hS => ?_)
      refine lv_i2l (v := Int32.toInt64 r9) hx hb dX6_digestOfProcess_223 rfl ?_
      refine lv_ladd hx hb dX6_digestOfProcess_224 ?_
      obtain ⟨e1, e2⟩ := Prod.mk.inj (Option.some.inj hF)
      subst e1
      subst e2
      exact m_lret X hS hP rfl dX6_digestOfProcess_225
    · have hF := ite_F c5 hF
      refine lv_lload hx hb dX6_digestOfProcess_139 (lv_at hl 2 rfl) ?_
      refine lv_ldc2 (v := 31) hx hb hown (htm _ qw_532) dX6_digestOfProcess_141 ?_
      refine lv_lmul hx hb dX6_digestOfProcess_144 ?_
      refine lv_aload_n hx hb dX6_digestOfProcess_145 rfl (lv_at hl 0 rfl) ?_
      refine lv_iload_n hx hb dX6_digestOfProcess_146 rfl (lv_at hl 1 rfl) ?_
      refine lv_iload hx hb dX6_digestOfProcess_147 (lv_at hl 3 rfl) ?_
      obtain ⟨r10, hc10, hF⟩ := ob_S hF
      refine m_cVi X hS vw_X6_ofSupervisor qw_542 (c_X6_ofSupervisor hc10) ⟨rfl, rfl⟩ ⟨Nat.le_of_ble_eq_true rfl, Nat.le_of_ble_eq_true rfl⟩ (rc_16 hE hP) hP rfl hl.1 (rest := [.long (y4 * 31)]) rfl (Nat.le_of_ble_eq_true rfl) dX6_digestOfProcess_149 (fun H locs hP hS => ?_)
      refine lv_i2l (v := Int32.toInt64 r10) hx hb dX6_digestOfProcess_152 rfl ?_
      refine lv_ladd hx hb dX6_digestOfProcess_153 ?_
      refine lv_lstore (lv' := [(4, .long ((y4 * 31) + (Int32.toInt64 r10))), (0, .ref (ad 2 16 0)), (3, .int y3), (7, .int y7)]) hx hb dX6_digestOfProcess_154 hl (by decide) rfl (fun ls hl => ?_)
      refine lv_iinc (v := y7 + 1) (lv' := [(7, .int (y7 + 1)), (4, .long ((y4 * 31) + (Int32.toInt64 r10))), (0, .ref (ad 2 16 0)), (3, .int y3)]) hx hb dX6_digestOfProcess_156 hl (k := 3) rfl rfl (by decide) rfl (fun ls hl => ?_)
      refine lv_goto (tgt := 132) hx hb dX6_digestOfProcess_159 (by decide) ?_
      exact ih132 _ _ _ _  hP hS (lv_sub hl [2, 3, 1, 0] rfl) hF
set_option maxRecDepth 20000 in
set_option maxHeartbeats 4000000 in
theorem l_X6_digestOfProcess_80 {p : Program} {l : Launch} {e : Env} {s : State} {m : MethodId} {args : Array Value} {below : List Frame} {meth : Method} {c : Code} {D : va_G} {ad : Nat → Nat → Nat → Nat} {cI cZ cP : ClassId} {A : Nat → Prop} {G V : MT} {r : Int64} {U' : MT} (X : MX p s m args meth c cX6_digestOfProcess RX6 8 (some .long) D ad cI cZ cP A) (n : Nat) : ∀ {H : Heap} {locs : List Loc} {ls : Array Slot} (y3 : Int32) (y4 : Int64) (y6 : Int32) (y7 : Int32) (U : MT), Pic D ad cI cZ cP 0 G V U H → va_S A s.heap H locs → lv_has ls 8 [(0, .ref (ad 2 16 0)), (3, .int y3), (4, .long y4), (6, .int y6), (7, .int y7)] → f_X6_digestOfProcess_80 G V n y3 y4 y6 y7 U = some (r, U') → W p l e rm_X6_digestOfProcess s m args below meth c H locs 0 0 (MQ below (QcL A r (Pic D ad cI cZ cP 0 G V U')) args s 0 0 A) (F0 m 80 ls []) := by
  obtain ⟨hx, hb, hml, hown, htm, hr, hlk, hE⟩ := id X
  induction n with
  | zero =>
    intros
    exact ns_S (by assumption)
  | succ n ih80 =>
    intro H locs ls y3 y4 y6 y7 U   hP hS hl hF
    rw [f_X6_digestOfProcess_80] at hF
    refine lv_iload hx hb dX6_digestOfProcess_80 (lv_at hl 4 rfl) ?_
    refine lv_iload hx hb dX6_digestOfProcess_82 (lv_at hl 3 rfl) ?_
    refine lv_icmp_ge (tgt := 129) hx hb dX6_digestOfProcess_84 (by decide) (fun c4 => ?_) (fun c4 => ?_)
    · have hF := ite_T c4 hF
      refine lv_iconst (v := 0) hx hb dX6_digestOfProcess_129 (by decide) ?_
      refine lv_istore (lv' := [(7, .int 0), (0, .ref (ad 2 16 0)), (3, .int y3), (4, .long y4), (6, .int y6)]) hx hb dX6_digestOfProcess_130 hl (by decide) rfl (fun ls hl => ?_)
      exact l_X6_digestOfProcess_132 X  30 _ _ _ _ hP hS (lv_sub hl [1, 2, 3, 0] rfl) hF
    · have hF := ite_F c4 hF
      refine lv_lload hx hb dX6_digestOfProcess_87 (lv_at hl 2 rfl) ?_
      refine lv_ldc2 (v := 31) hx hb hown (htm _ qw_532) dX6_digestOfProcess_89 ?_
      refine lv_lmul hx hb dX6_digestOfProcess_92 ?_
      refine lv_aload_n hx hb dX6_digestOfProcess_93 rfl (lv_at hl 0 rfl) ?_
      refine lv_iload_n hx hb dX6_digestOfProcess_94 rfl (lv_at hl 1 rfl) ?_
      refine lv_iload hx hb dX6_digestOfProcess_95 (lv_at hl 4 rfl) ?_
      refine lv_iconst (v := 0) hx hb dX6_digestOfProcess_97 (by decide) ?_
      obtain ⟨r11, hc11, hF⟩ := ob_S hF
      refine m_cVi X hS vw_X6_mail qw_539 (c_X6_mail hc11) ⟨rfl, rfl⟩ ⟨Nat.le_of_ble_eq_true rfl, Nat.le_of_ble_eq_true rfl⟩ (rc_16 hE hP) hP rfl hl.1 (rest := [.long (y4 * 31)]) rfl (Nat.le_of_ble_eq_true rfl) dX6_digestOfProcess_98 (fun H locs hP hS => ?_)
      refine lv_i2l (v := Int32.toInt64 r11) hx hb dX6_digestOfProcess_101 rfl ?_
      refine lv_ladd hx hb dX6_digestOfProcess_102 ?_
      refine lv_lstore (lv' := [(4, .long ((y4 * 31) + (Int32.toInt64 r11))), (0, .ref (ad 2 16 0)), (3, .int y3), (6, .int y6), (7, .int y7)]) hx hb dX6_digestOfProcess_103 hl (by decide) rfl (fun ls hl => ?_)
      refine lv_lload hx hb dX6_digestOfProcess_105 (lv_at hl 0 rfl) ?_
      refine lv_ldc2 (v := 31) hx hb hown (htm _ qw_532) dX6_digestOfProcess_107 ?_
      refine lv_lmul hx hb dX6_digestOfProcess_110 ?_
      refine lv_aload_n hx hb dX6_digestOfProcess_111 rfl (lv_at hl 1 rfl) ?_
      refine lv_iload_n hx hb dX6_digestOfProcess_112 rfl (lv_at hl 2 rfl) ?_
      refine lv_iload hx hb dX6_digestOfProcess_113 (lv_at hl 4 rfl) ?_
      refine lv_iconst (v := 1) hx hb dX6_digestOfProcess_115 (by decide) ?_
      obtain ⟨r12, hc12, hF⟩ := ob_S hF
      refine m_cVi X hS vw_X6_mail qw_539 (c_X6_mail hc12) ⟨rfl, rfl⟩ ⟨Nat.le_of_ble_eq_true rfl, Nat.le_of_ble_eq_true rfl⟩ (rc_16 hE hP) hP rfl hl.1 (rest := [.long (((y4 * 31) + (Int32.toInt64 r11)) * 31)]) rfl (Nat.le_of_ble_eq_true rfl) dX6_digestOfProcess_116 (fun H locs hP hS => ?_)
      refine lv_i2l (v := Int32.toInt64 r12) hx hb dX6_digestOfProcess_119 rfl ?_
      refine lv_ladd hx hb dX6_digestOfProcess_120 ?_
      refine lv_lstore (lv' := [(4, .long ((((y4 * 31) + (Int32.toInt64 r11)) * 31) + (Int32.toInt64 r12))), (0, .ref (ad 2 16 0)), (3, .int y3), (6, .int y6), (7, .int y7)]) hx hb dX6_digestOfProcess_121 hl (by decide) rfl (fun ls hl => ?_)
      refine lv_iinc (v := y7 + 1) (lv' := [(7, .int (y7 + 1)), (4, .long ((((y4 * 31) + (Int32.toInt64 r11)) * 31) + (Int32.toInt64 r12))), (0, .ref (ad 2 16 0)), (3, .int y3), (6, .int y6)]) hx hb dX6_digestOfProcess_123 hl (k := 4) rfl rfl (by decide) rfl (fun ls hl => ?_)
      refine lv_goto (tgt := 80) hx hb dX6_digestOfProcess_126 (by decide) ?_
      exact ih80 _ _ _ _ _  hP hS (lv_sub hl [2, 3, 1, 4, 0] rfl) hF
set_option maxRecDepth 20000 in
set_option maxHeartbeats 4000000 in
theorem l_X6_digestOfProcess_39 {p : Program} {l : Launch} {e : Env} {s : State} {m : MethodId} {args : Array Value} {below : List Frame} {meth : Method} {c : Code} {D : va_G} {ad : Nat → Nat → Nat → Nat} {cI cZ cP : ClassId} {A : Nat → Prop} {G V : MT} {r : Int64} {U' : MT} (X : MX p s m args meth c cX6_digestOfProcess RX6 8 (some .long) D ad cI cZ cP A) (n : Nat) : ∀ {H : Heap} {locs : List Loc} {ls : Array Slot} (y3 : Int32) (y4 : Int64) (y6 : Int32) (U : MT), Pic D ad cI cZ cP 0 G V U H → va_S A s.heap H locs → lv_has ls 8 [(0, .ref (ad 2 16 0)), (3, .int y3), (4, .long y4), (6, .int y6)] → f_X6_digestOfProcess_39 G V n y3 y4 y6 U = some (r, U') → W p l e rm_X6_digestOfProcess s m args below meth c H locs 0 0 (MQ below (QcL A r (Pic D ad cI cZ cP 0 G V U')) args s 0 0 A) (F0 m 39 ls []) := by
  obtain ⟨hx, hb, hml, hown, htm, hr, hlk, hE⟩ := id X
  induction n with
  | zero =>
    intros
    exact ns_S (by assumption)
  | succ n ih39 =>
    intro H locs ls y3 y4 y6 U   hP hS hl hF
    rw [f_X6_digestOfProcess_39] at hF
    refine lv_iload hx hb dX6_digestOfProcess_39 (lv_at hl 3 rfl) ?_
    refine lv_iconst (v := 4) hx hb dX6_digestOfProcess_41 (by decide) ?_
    refine lv_icmp_ge (tgt := 68) hx hb dX6_digestOfProcess_42 (by decide) (fun c2 => ?_) (fun c2 => ?_)
    · have hF := ite_T c2 hF
      refine lv_aload_n hx hb dX6_digestOfProcess_68 rfl (lv_at hl 0 rfl) ?_
      refine lv_iload_n hx hb dX6_digestOfProcess_69 rfl (lv_at hl 1 rfl) ?_
      refine lv_bipush (v := 8) hx hb dX6_digestOfProcess_70 (by decide) ?_
      obtain ⟨r3, hc3, hF⟩ := ob_S hF
      refine m_cVi X hS vw_X6_ofProcess qw_533 (c_X6_ofProcess hc3) ⟨rfl, rfl⟩ ⟨Nat.le_of_ble_eq_true rfl, Nat.le_of_ble_eq_true rfl⟩ (rc_16 hE hP) hP rfl hl.1 (rest := []) rfl (Nat.le_of_ble_eq_true rfl) dX6_digestOfProcess_72 (fun H locs hP hS => ?_)
      refine lv_istore (lv' := [(6, .int r3), (0, .ref (ad 2 16 0)), (3, .int y3), (4, .long y4)]) hx hb dX6_digestOfProcess_75 hl (by decide) rfl (fun ls hl => ?_)
      refine lv_iconst (v := 0) hx hb dX6_digestOfProcess_77 (by decide) ?_
      refine lv_istore (lv' := [(7, .int 0), (6, .int r3), (0, .ref (ad 2 16 0)), (3, .int y3), (4, .long y4)]) hx hb dX6_digestOfProcess_78 hl (by decide) rfl (fun ls hl => ?_)
      exact l_X6_digestOfProcess_80 X  30 _ _ _ _ _ hP hS (lv_sub hl [2, 3, 4, 1, 0] rfl) hF
    · have hF := ite_F c2 hF
      refine lv_lload hx hb dX6_digestOfProcess_45 (lv_at hl 2 rfl) ?_
      refine lv_ldc2 (v := 31) hx hb hown (htm _ qw_532) dX6_digestOfProcess_47 ?_
      refine lv_lmul hx hb dX6_digestOfProcess_50 ?_
      refine lv_aload_n hx hb dX6_digestOfProcess_51 rfl (lv_at hl 0 rfl) ?_
      refine lv_iload_n hx hb dX6_digestOfProcess_52 rfl (lv_at hl 1 rfl) ?_
      refine lv_iload hx hb dX6_digestOfProcess_53 (lv_at hl 3 rfl) ?_
      obtain ⟨r13, hc13, hF⟩ := ob_S hF
      refine m_cVi X hS vw_X6_local qw_536 (c_X6_local hc13) ⟨rfl, rfl⟩ ⟨Nat.le_of_ble_eq_true rfl, Nat.le_of_ble_eq_true rfl⟩ (rc_16 hE hP) hP rfl hl.1 (rest := [.long (y4 * 31)]) rfl (Nat.le_of_ble_eq_true rfl) dX6_digestOfProcess_55 (fun H locs hP hS => ?_)
      refine lv_i2l (v := Int32.toInt64 r13) hx hb dX6_digestOfProcess_58 rfl ?_
      refine lv_ladd hx hb dX6_digestOfProcess_59 ?_
      refine lv_lstore (lv' := [(4, .long ((y4 * 31) + (Int32.toInt64 r13))), (0, .ref (ad 2 16 0)), (3, .int y3), (6, .int y6)]) hx hb dX6_digestOfProcess_60 hl (by decide) rfl (fun ls hl => ?_)
      refine lv_iinc (v := y6 + 1) (lv' := [(6, .int (y6 + 1)), (4, .long ((y4 * 31) + (Int32.toInt64 r13))), (0, .ref (ad 2 16 0)), (3, .int y3)]) hx hb dX6_digestOfProcess_62 hl (k := 3) rfl rfl (by decide) rfl (fun ls hl => ?_)
      refine lv_goto (tgt := 39) hx hb dX6_digestOfProcess_65 (by decide) ?_
      exact ih39 _ _ _ _  hP hS (lv_sub hl [2, 3, 1, 0] rfl) hF
set_option maxRecDepth 20000 in
set_option maxHeartbeats 4000000 in
theorem l_X6_digestOfProcess_6 {p : Program} {l : Launch} {e : Env} {s : State} {m : MethodId} {args : Array Value} {below : List Frame} {meth : Method} {c : Code} {D : va_G} {ad : Nat → Nat → Nat → Nat} {cI cZ cP : ClassId} {A : Nat → Prop} {G V : MT} {r : Int64} {U' : MT} (X : MX p s m args meth c cX6_digestOfProcess RX6 8 (some .long) D ad cI cZ cP A) (n : Nat) : ∀ {H : Heap} {locs : List Loc} {ls : Array Slot} (y3 : Int32) (y4 : Int64) (y6 : Int32) (U : MT), Pic D ad cI cZ cP 0 G V U H → va_S A s.heap H locs → lv_has ls 8 [(0, .ref (ad 2 16 0)), (3, .int y3), (4, .long y4), (6, .int y6)] → f_X6_digestOfProcess_6 G V n y3 y4 y6 U = some (r, U') → W p l e rm_X6_digestOfProcess s m args below meth c H locs 0 0 (MQ below (QcL A r (Pic D ad cI cZ cP 0 G V U')) args s 0 0 A) (F0 m 6 ls []) := by
  obtain ⟨hx, hb, hml, hown, htm, hr, hlk, hE⟩ := id X
  induction n with
  | zero =>
    intros
    exact ns_S (by assumption)
  | succ n ih6 =>
    intro H locs ls y3 y4 y6 U   hP hS hl hF
    rw [f_X6_digestOfProcess_6] at hF
    refine lv_iload hx hb dX6_digestOfProcess_6 (lv_at hl 3 rfl) ?_
    refine lv_bipush (v := 12) hx hb dX6_digestOfProcess_8 (by decide) ?_
    refine lv_icmp_gt (tgt := 36) hx hb dX6_digestOfProcess_10 (by decide) (fun c1 => ?_) (fun c1 => ?_)
    · have hF := ite_T c1 hF
      refine lv_iconst (v := 0) hx hb dX6_digestOfProcess_36 (by decide) ?_
      refine lv_istore (lv' := [(6, .int 0), (0, .ref (ad 2 16 0)), (3, .int y3), (4, .long y4)]) hx hb dX6_digestOfProcess_37 hl (by decide) rfl (fun ls hl => ?_)
      exact l_X6_digestOfProcess_39 X  30 _ _ _ _ hP hS (lv_sub hl [1, 2, 3, 0] rfl) hF
    · have hF := ite_F c1 hF
      refine lv_lload hx hb dX6_digestOfProcess_13 (lv_at hl 2 rfl) ?_
      refine lv_ldc2 (v := 31) hx hb hown (htm _ qw_532) dX6_digestOfProcess_15 ?_
      refine lv_lmul hx hb dX6_digestOfProcess_18 ?_
      refine lv_aload_n hx hb dX6_digestOfProcess_19 rfl (lv_at hl 0 rfl) ?_
      refine lv_iload_n hx hb dX6_digestOfProcess_20 rfl (lv_at hl 1 rfl) ?_
      refine lv_iload hx hb dX6_digestOfProcess_21 (lv_at hl 3 rfl) ?_
      obtain ⟨r14, hc14, hF⟩ := ob_S hF
      refine m_cVi X hS vw_X6_ofProcess qw_533 (c_X6_ofProcess hc14) ⟨rfl, rfl⟩ ⟨Nat.le_of_ble_eq_true rfl, Nat.le_of_ble_eq_true rfl⟩ (rc_16 hE hP) hP rfl hl.1 (rest := [.long (y4 * 31)]) rfl (Nat.le_of_ble_eq_true rfl) dX6_digestOfProcess_23 (fun H locs hP hS => ?_)
      refine lv_i2l (v := Int32.toInt64 r14) hx hb dX6_digestOfProcess_26 rfl ?_
      refine lv_ladd hx hb dX6_digestOfProcess_27 ?_
      refine lv_lstore (lv' := [(4, .long ((y4 * 31) + (Int32.toInt64 r14))), (0, .ref (ad 2 16 0)), (3, .int y3), (6, .int y6)]) hx hb dX6_digestOfProcess_28 hl (by decide) rfl (fun ls hl => ?_)
      refine lv_iinc (v := y6 + 1) (lv' := [(6, .int (y6 + 1)), (4, .long ((y4 * 31) + (Int32.toInt64 r14))), (0, .ref (ad 2 16 0)), (3, .int y3)]) hx hb dX6_digestOfProcess_30 hl (k := 3) rfl rfl (by decide) rfl (fun ls hl => ?_)
      refine lv_goto (tgt := 6) hx hb dX6_digestOfProcess_33 (by decide) ?_
      exact ih6 _ _ _ _  hP hS (lv_sub hl [2, 3, 1, 0] rfl) hF
set_option maxRecDepth 20000 in
set_option maxHeartbeats 4000000 in
theorem c_X6_digestOfProcess {l : Launch} {D : va_G} {ad : Nat → Nat → Nat → Nat} {cI cZ cP : ClassId} {A : Nat → Prop} {G V U : MT} {x1 : Int64} {x3 : Int32} {r : Int64} {U' : MT}  (hF : f_X6_digestOfProcess G V U x1 x3 = some (r, U')) : Met l yX6_digestOfProcess (.code yX6_digestOfProcess cX6_digestOfProcess 8 (some .long) :: WM) rm_X6_digestOfProcess (PcM D ad cI cZ cP A [.ref (ad 2 16 0), .long x1, .int x3] (Pic D ad cI cZ cP 0 G V U)) (QcL A r (Pic D ad cI cZ cP 0 G V U')) 0 0 A := by
  refine m_entry (by decide) (Nat.le_of_ble_eq_true rfl) (fun p e s m below meth c ls X hP hS hl => ?_)
  have X : MX p s m _ meth c cX6_digestOfProcess RX6 8 (some .long) D ad cI cZ cP A := X
  obtain ⟨hx, hb, hml, hown, htm, hr, hlk, hE⟩ := id X
  have hl : lv_has ls 8 [(0, .ref (ad 2 16 0)), (1, .long x1), (3, .int x3)] := hl
  refine lv_lload_n hx hb dX6_digestOfProcess_0 rfl (lv_at hl 1 rfl) ?_
  refine lv_lstore (lv' := [(4, .long x1), (0, .ref (ad 2 16 0)), (1, .long x1), (3, .int x3)]) hx hb dX6_digestOfProcess_1 hl (by decide) rfl (fun ls hl => ?_)
  refine lv_iconst (v := 0) hx hb dX6_digestOfProcess_3 (by decide) ?_
  refine lv_istore (lv' := [(6, .int 0), (4, .long x1), (0, .ref (ad 2 16 0)), (1, .long x1), (3, .int x3)]) hx hb dX6_digestOfProcess_4 hl (by decide) rfl (fun ls hl => ?_)
  exact l_X6_digestOfProcess_6 X  30 _ _ _ _ hP hS (lv_sub hl [2, 4, 1, 0] rfl) hF
