theorem sw_L_below : SW RL yL_below cL_below 2 (some .int) 2 := ⟨qw_581, qw_579, qw_573, ⟨rfl, by decide, by decide, by decide +kernel⟩⟩
theorem sw_L_isLost : SW RL yL_isLost cL_isLost 3 (some .boolean) 3 := ⟨qw_600, qw_579, qw_587, ⟨rfl, by decide, by decide, by decide +kernel⟩⟩
theorem sw_L_areOver : SW RL yL_areOver cL_areOver 3 (some .boolean) 2 := ⟨qw_610, qw_579, qw_589, ⟨rfl, by decide, by decide, by decide +kernel⟩⟩
theorem sw_L_isKnown : SW RL yL_isKnown cL_isKnown 5 (some .boolean) 3 := ⟨qw_623, qw_579, qw_621, ⟨rfl, by decide, by decide, by decide +kernel⟩⟩
theorem sw_L_isActed : SW RL yL_isActed cL_isActed 13 (some .boolean) 5 := ⟨qw_642, qw_579, qw_619, ⟨rfl, by decide, by decide, by decide +kernel⟩⟩
def f_L_below (x0 : Int32) (x1 : Int32) : Option (Int32) :=
  if ¬ x1 = 0 then (some ((x0 &&& 2147483647) - (x0 &&& 2147483647) / x1 * x1)) else none
def rm_L_below : Room := { frames := 0, cells := 0, slots := 0, locals := 0 }
set_option maxRecDepth 20000 in
set_option maxHeartbeats 4000000 in
theorem c_L_below {l : Launch} {D : va_G} {ad : Nat → Nat → Nat → Nat} {cI cZ cP : ClassId} {A : Nat → Prop} {w : Nat} {G V U : MT} {x0 : Int32} {x1 : Int32} {r : Int32}  (hF : f_L_below x0 x1 = some r) : Met l yL_below (.code yL_below cL_below 2 (some .int) :: WM) rm_L_below (PcM D ad cI cZ cP A [.int x0, .int x1] (Pic D ad cI cZ cP w G V U)) (QcI A r (Pic D ad cI cZ cP w G V U)) 0 0 A := by
  refine m_entry (by decide) (Nat.le_of_ble_eq_true rfl) (fun p e s m below meth c ls X hP hS hl => ?_)
  have X : MX p s m _ meth c cL_below RL 2 (some .int) D ad cI cZ cP A := X
  obtain ⟨hx, hb, hml, hown, htm, hr, hlk, hE⟩ := id X
  have hl : lv_has ls 2 [(0, .int x0), (1, .int x1)] := hl
  refine lv_iload_n hx hb dL_below_0 rfl (lv_at hl 0 rfl) ?_
  refine lv_ldc (v := 2147483647) hx hb hown (htm _ qw_572) dL_below_1 ?_
  refine lv_iand hx hb dL_below_3 ?_
  refine lv_iload_n hx hb dL_below_4 rfl (lv_at hl 1 rfl) ?_
  obtain ⟨hn1, hF⟩ := ite_S hF
  refine lv_irem hx hb dL_below_5 hn1 ?_
  have e1 := Option.some.inj hF
  subst e1
  exact m_iret X hS hP rfl dL_below_6
def f_L_isLost (G V U : MT) (x1 : Int32) (x2 : Int32) : Option (Int32) :=
  if x2 ≤ x1 then (some 0) else ((f_X6_ofProcess G V U x1 2).bind (fun q2_ => if q2_ = 2 then (some 1) else ((f_X6_ofProcess G V U x1 0).bind (fun q4_ => if 0 ≤ q4_ then (some 0) else (some 1)))))
def rm_L_isLost : Room := { frames := 3, cells := 0, slots := 0, locals := 67 }
set_option maxRecDepth 20000 in
set_option maxHeartbeats 4000000 in
theorem c_L_isLost {l : Launch} {D : va_G} {ad : Nat → Nat → Nat → Nat} {cI cZ cP : ClassId} {A : Nat → Prop} {G V U : MT} {x1 : Int32} {x2 : Int32} {r : Int32}  (hF : f_L_isLost G V U x1 x2 = some r) : Met l yL_isLost (.code yL_isLost cL_isLost 3 (some .boolean) :: WM) rm_L_isLost (PcM D ad cI cZ cP A [.ref (ad 2 16 0), .int x1, .int x2] (Pic D ad cI cZ cP 0 G V U)) (QcI A r (Pic D ad cI cZ cP 0 G V U)) 0 0 A := by
  refine m_entry (by decide) (Nat.le_of_ble_eq_true rfl) (fun p e s m below meth c ls X hP hS hl => ?_)
  have X : MX p s m _ meth c cL_isLost RL 3 (some .boolean) D ad cI cZ cP A := X
  obtain ⟨hx, hb, hml, hown, htm, hr, hlk, hE⟩ := id X
  have hl : lv_has ls 3 [(0, .ref (ad 2 16 0)), (1, .int x1), (2, .int x2)] := hl
  refine lv_iload_n hx hb dL_isLost_0 rfl (lv_at hl 1 rfl) ?_
  refine lv_iload_n hx hb dL_isLost_1 rfl (lv_at hl 2 rfl) ?_
  refine lv_icmp_ge (tgt := 28) hx hb dL_isLost_2 (by decide) (fun c1 => ?_) (fun c1 => ?_)
  · have hF := ite_T c1 hF
    refine lv_iconst (v := 0) hx hb dL_isLost_28 (by decide) ?_
    have e1 := Option.some.inj hF
    subst e1
    exact m_zret X hS hP rfl (Or.inl rfl) dL_isLost_29
  · have hF := ite_F c1 hF
    refine lv_aload_n hx hb dL_isLost_5 rfl (lv_at hl 0 rfl) ?_
    refine lv_iload_n hx hb dL_isLost_6 rfl (lv_at hl 1 rfl) ?_
    refine lv_iconst (v := 2) hx hb dL_isLost_7 (by decide) ?_
    obtain ⟨r2, hc2, hF⟩ := ob_S hF
    refine m_cVi X hS vw_X6_ofProcess qw_586 (c_X6_ofProcess hc2) ⟨rfl, rfl⟩ ⟨Nat.le_of_ble_eq_true rfl, Nat.le_of_ble_eq_true rfl⟩ (rc_16 hE hP) hP rfl hl.1 (rest := []) rfl (Nat.le_of_ble_eq_true rfl) dL_isLost_8 (fun H locs hP hS => ?_)
    refine lv_iconst (v := 2) hx hb dL_isLost_11 (by decide) ?_
    refine lv_icmp_eq (tgt := 24) hx hb dL_isLost_12 (by decide) (fun c3 => ?_) (fun c3 => ?_)
    · have hF := ite_T c3 hF
      refine lv_iconst (v := 1) hx hb dL_isLost_24 (by decide) ?_
      refine lv_goto (tgt := 29) hx hb dL_isLost_25 (by decide) ?_
      have e1 := Option.some.inj hF
      subst e1
      exact m_zret X hS hP rfl (Or.inr rfl) dL_isLost_29
    · have hF := ite_F c3 hF
      refine lv_aload_n hx hb dL_isLost_15 rfl (lv_at hl 0 rfl) ?_
      refine lv_iload_n hx hb dL_isLost_16 rfl (lv_at hl 1 rfl) ?_
      refine lv_iconst (v := 0) hx hb dL_isLost_17 (by decide) ?_
      obtain ⟨r4, hc4, hF⟩ := ob_S hF
      refine m_cVi X hS vw_X6_ofProcess qw_586 (c_X6_ofProcess hc4) ⟨rfl, rfl⟩ ⟨Nat.le_of_ble_eq_true rfl, Nat.le_of_ble_eq_true rfl⟩ (rc_16 hE hP) hP rfl hl.1 (rest := []) rfl (Nat.le_of_ble_eq_true rfl) dL_isLost_18 (fun H locs hP hS => ?_)
      refine lv_if_ge (tgt := 28) hx hb dL_isLost_21 (by decide) (fun c5 => ?_) (fun c5 => ?_)
      · have hF := ite_T c5 hF
        refine lv_iconst (v := 0) hx hb dL_isLost_28 (by decide) ?_
        have e1 := Option.some.inj hF
        subst e1
        exact m_zret X hS hP rfl (Or.inl rfl) dL_isLost_29
      · have hF := ite_F c5 hF
        refine lv_iconst (v := 1) hx hb dL_isLost_24 (by decide) ?_
        refine lv_goto (tgt := 29) hx hb dL_isLost_25 (by decide) ?_
        have e1 := Option.some.inj hF
        subst e1
        exact m_zret X hS hP rfl (Or.inr rfl) dL_isLost_29
def f_L_areOver_2 (G V U : MT) : Nat → Int32 → Int32 → Option (Int32)
  | 0, _, _ => none
  | n + 1, y1, y2 => (f_X6_many G V U 2).bind (fun q1_ => if q1_ ≤ y2 then (some 1) else (if (y1 >>> (y2 &&& 31)) &&& 1 = 1 then ((f_X6_ofProcess G V U y2 2).bind (fun q4_ => if q4_ = 2 then ((f_L_areOver_2 G V U n) y1 (y2 + 1)) else (some 0))) else ((f_L_areOver_2 G V U n) y1 (y2 + 1))))
def f_L_areOver (G V U : MT) (x1 : Int32) : Option (Int32) :=
  f_L_areOver_2 G V U  30 x1 0
def rm_L_areOver : Room := { frames := 3, cells := 0, slots := 0, locals := 67 }
set_option maxRecDepth 20000 in
set_option maxHeartbeats 4000000 in
theorem l_L_areOver_2 {p : Program} {l : Launch} {e : Env} {s : State} {m : MethodId} {args : Array Value} {below : List Frame} {meth : Method} {c : Code} {D : va_G} {ad : Nat → Nat → Nat → Nat} {cI cZ cP : ClassId} {A : Nat → Prop} {G V U : MT} {r : Int32} (X : MX p s m args meth c cL_areOver RL 3 (some .boolean) D ad cI cZ cP A) (n : Nat) : ∀ {H : Heap} {locs : List Loc} {ls : Array Slot} (y1 : Int32) (y2 : Int32), Pic D ad cI cZ cP 0 G V U H → va_S A s.heap H locs → lv_has ls 3 [(0, .ref (ad 2 16 0)), (1, .int y1), (2, .int y2)] → f_L_areOver_2 G V U n y1 y2 = some r → W p l e rm_L_areOver s m args below meth c H locs 0 0 (MQ below (QcI A r (Pic D ad cI cZ cP 0 G V U)) args s 0 0 A) (F0 m 2 ls []) := by
  obtain ⟨hx, hb, hml, hown, htm, hr, hlk, hE⟩ := id X
  induction n with
  | zero =>
    intros
    exact ns_S (by assumption)
  | succ n ih2 =>
    intro H locs ls y1 y2   hP hS hl hF
    rw [f_L_areOver_2] at hF
    refine lv_iload_n hx hb dL_areOver_2 rfl (lv_at hl 2 rfl) ?_
    refine lv_aload_n hx hb dL_areOver_3 rfl (lv_at hl 0 rfl) ?_
    refine lv_iconst (v := 2) hx hb dL_areOver_4 (by decide) ?_
    obtain ⟨r1, hc1, hF⟩ := ob_S hF
    refine m_cVi X hS vw_X6_many qw_588 (c_X6_many hc1) ⟨rfl, rfl⟩ ⟨Nat.le_of_ble_eq_true rfl, Nat.le_of_ble_eq_true rfl⟩ (rc_16 hE hP) hP rfl hl.1 (rest := [.int y2]) rfl (Nat.le_of_ble_eq_true rfl) dL_areOver_5 (fun H locs hP hS => ?_)
    refine lv_icmp_ge (tgt := 38) hx hb dL_areOver_8 (by decide) (fun c2 => ?_) (fun c2 => ?_)
    · have hF := ite_T c2 hF
      refine lv_iconst (v := 1) hx hb dL_areOver_38 (by decide) ?_
      have e1 := Option.some.inj hF
      subst e1
      exact m_zret X hS hP rfl (Or.inr rfl) dL_areOver_39
    · have hF := ite_F c2 hF
      refine lv_iload_n hx hb dL_areOver_11 rfl (lv_at hl 1 rfl) ?_
      refine lv_iload_n hx hb dL_areOver_12 rfl (lv_at hl 2 rfl) ?_
      refine lv_ishr hx hb dL_areOver_13 ?_
      refine lv_iconst (v := 1) hx hb dL_areOver_14 (by decide) ?_
      refine lv_iand hx hb dL_areOver_15 ?_
      refine lv_iconst (v := 1) hx hb dL_areOver_16 (by decide) ?_
      refine lv_icmp_ne (tgt := 32) hx hb dL_areOver_17 (by decide) (fun c3 => ?_) (fun c3 => ?_)
      · have hF := ite_F c3 hF
        refine lv_iinc (v := y2 + 1) (lv' := [(2, .int (y2 + 1)), (0, .ref (ad 2 16 0)), (1, .int y1)]) hx hb dL_areOver_32 hl (k := 2) rfl rfl (by decide) rfl (fun ls hl => ?_)
        refine lv_goto (tgt := 2) hx hb dL_areOver_35 (by decide) ?_
        exact ih2 _ _  hP hS (lv_sub hl [1, 2, 0] rfl) hF
      · have hF := ite_T c3 hF
        refine lv_aload_n hx hb dL_areOver_20 rfl (lv_at hl 0 rfl) ?_
        refine lv_iload_n hx hb dL_areOver_21 rfl (lv_at hl 2 rfl) ?_
        refine lv_iconst (v := 2) hx hb dL_areOver_22 (by decide) ?_
        obtain ⟨r4, hc4, hF⟩ := ob_S hF
        refine m_cVi X hS vw_X6_ofProcess qw_586 (c_X6_ofProcess hc4) ⟨rfl, rfl⟩ ⟨Nat.le_of_ble_eq_true rfl, Nat.le_of_ble_eq_true rfl⟩ (rc_16 hE hP) hP rfl hl.1 (rest := []) rfl (Nat.le_of_ble_eq_true rfl) dL_areOver_23 (fun H locs hP hS => ?_)
        refine lv_iconst (v := 2) hx hb dL_areOver_26 (by decide) ?_
        refine lv_icmp_eq (tgt := 32) hx hb dL_areOver_27 (by decide) (fun c5 => ?_) (fun c5 => ?_)
        · have hF := ite_T c5 hF
          refine lv_iinc (v := y2 + 1) (lv' := [(2, .int (y2 + 1)), (0, .ref (ad 2 16 0)), (1, .int y1)]) hx hb dL_areOver_32 hl (k := 2) rfl rfl (by decide) rfl (fun ls hl => ?_)
          refine lv_goto (tgt := 2) hx hb dL_areOver_35 (by decide) ?_
          exact ih2 _ _  hP hS (lv_sub hl [1, 2, 0] rfl) hF
        · have hF := ite_F c5 hF
          refine lv_iconst (v := 0) hx hb dL_areOver_30 (by decide) ?_
          have e1 := Option.some.inj hF
          subst e1
          exact m_zret X hS hP rfl (Or.inl rfl) dL_areOver_31
set_option maxRecDepth 20000 in
set_option maxHeartbeats 4000000 in
theorem c_L_areOver {l : Launch} {D : va_G} {ad : Nat → Nat → Nat → Nat} {cI cZ cP : ClassId} {A : Nat → Prop} {G V U : MT} {x1 : Int32} {r : Int32}  (hF : f_L_areOver G V U x1 = some r) : Met l yL_areOver (.code yL_areOver cL_areOver 3 (some .boolean) :: WM) rm_L_areOver (PcM D ad cI cZ cP A [.ref (ad 2 16 0), .int x1] (Pic D ad cI cZ cP 0 G V U)) (QcI A r (Pic D ad cI cZ cP 0 G V U)) 0 0 A := by
  refine m_entry (by decide) (Nat.le_of_ble_eq_true rfl) (fun p e s m below meth c ls X hP hS hl => ?_)
  have X : MX p s m _ meth c cL_areOver RL 3 (some .boolean) D ad cI cZ cP A := X
  obtain ⟨hx, hb, hml, hown, htm, hr, hlk, hE⟩ := id X
  have hl : lv_has ls 3 [(0, .ref (ad 2 16 0)), (1, .int x1)] := hl
  refine lv_iconst (v := 0) hx hb dL_areOver_0 (by decide) ?_
  refine lv_istore_n (lv' := [(2, .int 0), (0, .ref (ad 2 16 0)), (1, .int x1)]) hx hb dL_areOver_1 rfl hl (by decide) rfl (fun ls hl => ?_)
  exact l_L_areOver_2 X  30 _ _ hP hS (lv_sub hl [1, 2, 0] rfl) hF
def f_L_isKnown_11 (G V U : MT) : Nat → Int32 → Int32 → Int32 → Int32 → Option (Int32)
  | 0, _, _, _, _ => none
  | n + 1, y1, y2, y3, y4 => if 5 ≤ y4 then (if y3 = 1 then ((f_X6_ofProcess G V U y2 2).bind (fun q4_ => if q4_ = 1 then (some 1) else (some 0))) else (some 0)) else ((f_X6_ofSupervisor G V U y2 y4).bind (fun q6_ => if q6_ = y1 then ((f_L_isKnown_11 G V U n) y1 y2 (y3 + 1) (y4 + 1)) else ((f_L_isKnown_11 G V U n) y1 y2 (y3 + 0) (y4 + 1))))
def f_L_isKnown (G V U : MT) (x1 : Int32) (x2 : Int32) : Option (Int32) :=
  if 0 ≤ x2 then (f_L_isKnown_11 G V U  30 x1 x2 0 1) else (some 1)
def rm_L_isKnown : Room := { frames := 3, cells := 0, slots := 0, locals := 68 }
set_option maxRecDepth 20000 in
set_option maxHeartbeats 4000000 in
theorem l_L_isKnown_11 {p : Program} {l : Launch} {e : Env} {s : State} {m : MethodId} {args : Array Value} {below : List Frame} {meth : Method} {c : Code} {D : va_G} {ad : Nat → Nat → Nat → Nat} {cI cZ cP : ClassId} {A : Nat → Prop} {G V U : MT} {r : Int32} (X : MX p s m args meth c cL_isKnown RL 5 (some .boolean) D ad cI cZ cP A) (n : Nat) : ∀ {H : Heap} {locs : List Loc} {ls : Array Slot} (y1 : Int32) (y2 : Int32) (y3 : Int32) (y4 : Int32), Pic D ad cI cZ cP 0 G V U H → va_S A s.heap H locs → lv_has ls 5 [(0, .ref (ad 2 16 0)), (1, .int y1), (2, .int y2), (3, .int y3), (4, .int y4)] → f_L_isKnown_11 G V U n y1 y2 y3 y4 = some r → W p l e rm_L_isKnown s m args below meth c H locs 0 0 (MQ below (QcI A r (Pic D ad cI cZ cP 0 G V U)) args s 0 0 A) (F0 m 11 ls []) := by
  obtain ⟨hx, hb, hml, hown, htm, hr, hlk, hE⟩ := id X
  induction n with
  | zero =>
    intros
    exact ns_S (by assumption)
  | succ n ih11 =>
    intro H locs ls y1 y2 y3 y4   hP hS hl hF
    rw [f_L_isKnown_11] at hF
    refine lv_iload hx hb dL_isKnown_11 (lv_at hl 4 rfl) ?_
    refine lv_iconst (v := 5) hx hb dL_isKnown_13 (by decide) ?_
    refine lv_icmp_ge (tgt := 42) hx hb dL_isKnown_14 (by decide) (fun c2 => ?_) (fun c2 => ?_)
    · have hF := ite_T c2 hF
      refine lv_iload_n hx hb dL_isKnown_42 rfl (lv_at hl 3 rfl) ?_
      refine lv_iconst (v := 1) hx hb dL_isKnown_43 (by decide) ?_
      refine lv_icmp_ne (tgt := 61) hx hb dL_isKnown_44 (by decide) (fun c3 => ?_) (fun c3 => ?_)
      · have hF := ite_F c3 hF
        refine lv_iconst (v := 0) hx hb dL_isKnown_61 (by decide) ?_
        have e1 := Option.some.inj hF
        subst e1
        exact m_zret X hS hP rfl (Or.inl rfl) dL_isKnown_62
      · have hF := ite_T c3 hF
        refine lv_aload_n hx hb dL_isKnown_47 rfl (lv_at hl 0 rfl) ?_
        refine lv_iload_n hx hb dL_isKnown_48 rfl (lv_at hl 2 rfl) ?_
        refine lv_iconst (v := 2) hx hb dL_isKnown_49 (by decide) ?_
        obtain ⟨r4, hc4, hF⟩ := ob_S hF
        refine m_cVi X hS vw_X6_ofProcess qw_586 (c_X6_ofProcess hc4) ⟨rfl, rfl⟩ ⟨Nat.le_of_ble_eq_true rfl, Nat.le_of_ble_eq_true rfl⟩ (rc_16 hE hP) hP rfl hl.1 (rest := []) rfl (Nat.le_of_ble_eq_true rfl) dL_isKnown_50 (fun H locs hP hS => ?_)
        refine lv_iconst (v := 1) hx hb dL_isKnown_53 (by decide) ?_
        refine lv_icmp_ne (tgt := 61) hx hb dL_isKnown_54 (by decide) (fun c5 => ?_) (fun c5 => ?_)
        · have hF := ite_F c5 hF
          refine lv_iconst (v := 0) hx hb dL_isKnown_61 (by decide) ?_
          have e1 := Option.some.inj hF
          subst e1
          exact m_zret X hS hP rfl (Or.inl rfl) dL_isKnown_62
        · have hF := ite_T c5 hF
          refine lv_iconst (v := 1) hx hb dL_isKnown_57 (by decide) ?_
          refine lv_goto (tgt := 62) hx hb dL_isKnown_58 (by decide) ?_
          have e1 := Option.some.inj hF
          subst e1
          exact m_zret X hS hP rfl (Or.inr rfl) dL_isKnown_62
    · have hF := ite_F c2 hF
      refine lv_iload_n hx hb dL_isKnown_17 rfl (lv_at hl 3 rfl) ?_
      refine lv_aload_n hx hb dL_isKnown_18 rfl (lv_at hl 0 rfl) ?_
      refine lv_iload_n hx hb dL_isKnown_19 rfl (lv_at hl 2 rfl) ?_
      refine lv_iload hx hb dL_isKnown_20 (lv_at hl 4 rfl) ?_
      obtain ⟨r6, hc6, hF⟩ := ob_S hF
      refine m_cVi X hS vw_X6_ofSupervisor qw_620 (c_X6_ofSupervisor hc6) ⟨rfl, rfl⟩ ⟨Nat.le_of_ble_eq_true rfl, Nat.le_of_ble_eq_true rfl⟩ (rc_16 hE hP) hP rfl hl.1 (rest := [.int y3]) rfl (Nat.le_of_ble_eq_true rfl) dL_isKnown_22 (fun H locs hP hS => ?_)
      refine lv_iload_n hx hb dL_isKnown_25 rfl (lv_at hl 1 rfl) ?_
      refine lv_icmp_ne (tgt := 33) hx hb dL_isKnown_26 (by decide) (fun c7 => ?_) (fun c7 => ?_)
      · have hF := ite_F c7 hF
        refine lv_iconst (v := 0) hx hb dL_isKnown_33 (by decide) ?_
        refine lv_iadd hx hb dL_isKnown_34 ?_
        refine lv_istore_n (lv' := [(3, .int (y3 + 0)), (0, .ref (ad 2 16 0)), (1, .int y1), (2, .int y2), (4, .int y4)]) hx hb dL_isKnown_35 rfl hl (by decide) rfl (fun ls hl => ?_)
        refine lv_iinc (v := y4 + 1) (lv' := [(4, .int (y4 + 1)), (3, .int (y3 + 0)), (0, .ref (ad 2 16 0)), (1, .int y1), (2, .int y2)]) hx hb dL_isKnown_36 hl (k := 4) rfl rfl (by decide) rfl (fun ls hl => ?_)
        refine lv_goto (tgt := 11) hx hb dL_isKnown_39 (by decide) ?_
        exact ih11 _ _ _ _  hP hS (lv_sub hl [2, 3, 4, 1, 0] rfl) hF
      · have hF := ite_T c7 hF
        refine lv_iconst (v := 1) hx hb dL_isKnown_29 (by decide) ?_
        refine lv_goto (tgt := 34) hx hb dL_isKnown_30 (by decide) ?_
        refine lv_iadd hx hb dL_isKnown_34 ?_
        refine lv_istore_n (lv' := [(3, .int (y3 + 1)), (0, .ref (ad 2 16 0)), (1, .int y1), (2, .int y2), (4, .int y4)]) hx hb dL_isKnown_35 rfl hl (by decide) rfl (fun ls hl => ?_)
        refine lv_iinc (v := y4 + 1) (lv' := [(4, .int (y4 + 1)), (3, .int (y3 + 1)), (0, .ref (ad 2 16 0)), (1, .int y1), (2, .int y2)]) hx hb dL_isKnown_36 hl (k := 4) rfl rfl (by decide) rfl (fun ls hl => ?_)
        refine lv_goto (tgt := 11) hx hb dL_isKnown_39 (by decide) ?_
        exact ih11 _ _ _ _  hP hS (lv_sub hl [2, 3, 4, 1, 0] rfl) hF
set_option maxRecDepth 20000 in
set_option maxHeartbeats 4000000 in
theorem c_L_isKnown {l : Launch} {D : va_G} {ad : Nat → Nat → Nat → Nat} {cI cZ cP : ClassId} {A : Nat → Prop} {G V U : MT} {x1 : Int32} {x2 : Int32} {r : Int32}  (hF : f_L_isKnown G V U x1 x2 = some r) : Met l yL_isKnown (.code yL_isKnown cL_isKnown 5 (some .boolean) :: WM) rm_L_isKnown (PcM D ad cI cZ cP A [.ref (ad 2 16 0), .int x1, .int x2] (Pic D ad cI cZ cP 0 G V U)) (QcI A r (Pic D ad cI cZ cP 0 G V U)) 0 0 A := by
  refine m_entry (by decide) (Nat.le_of_ble_eq_true rfl) (fun p e s m below meth c ls X hP hS hl => ?_)
  have X : MX p s m _ meth c cL_isKnown RL 5 (some .boolean) D ad cI cZ cP A := X
  obtain ⟨hx, hb, hml, hown, htm, hr, hlk, hE⟩ := id X
  have hl : lv_has ls 5 [(0, .ref (ad 2 16 0)), (1, .int x1), (2, .int x2)] := hl
  refine lv_iload_n hx hb dL_isKnown_0 rfl (lv_at hl 2 rfl) ?_
  refine lv_if_ge (tgt := 6) hx hb dL_isKnown_1 (by decide) (fun c1 => ?_) (fun c1 => ?_)
  · have hF := ite_T c1 hF
    refine lv_iconst (v := 0) hx hb dL_isKnown_6 (by decide) ?_
    refine lv_istore_n (lv' := [(3, .int 0), (0, .ref (ad 2 16 0)), (1, .int x1), (2, .int x2)]) hx hb dL_isKnown_7 rfl hl (by decide) rfl (fun ls hl => ?_)
    refine lv_iconst (v := 1) hx hb dL_isKnown_8 (by decide) ?_
    refine lv_istore (lv' := [(4, .int 1), (3, .int 0), (0, .ref (ad 2 16 0)), (1, .int x1), (2, .int x2)]) hx hb dL_isKnown_9 hl (by decide) rfl (fun ls hl => ?_)
    exact l_L_isKnown_11 X  30 _ _ _ _ hP hS (lv_sub hl [2, 3, 4, 1, 0] rfl) hF
  · have hF := ite_F c1 hF
    refine lv_iconst (v := 1) hx hb dL_isKnown_4 (by decide) ?_
    have e1 := Option.some.inj hF
    subst e1
    exact m_zret X hS hP rfl (Or.inr rfl) dL_isKnown_5
def f_L_isActed_26 (G : MT) : Nat → Int32 → Int32 → Int32 → Int32 → Int32 → MT → MT → Option (Int32 × MT × MT)
  | 0, _, _, _, _, _, _, _ => none
  | n + 1, y2, y3, y4, y5, y6, V, U => (f_L_below y2 9).bind (fun q4_ => if q4_ = 0 then (if 20 < y5 then (some (1, V, U)) else ((f_L_below y3 y4).bind (fun q7_ => (f_X6_start G V U q7_).bind (fun q8_ => if q8_.1 = y5 then (some (1, q8_.2, U)) else (some (0, q8_.2, U)))))) else (if q4_ = 1 then (if 16 < y5 then (some (1, V, U)) else ((f_L_below y3 2).bind (fun q12_ => (f_X6_supervise G V U q12_).bind (fun q13_ => if q13_.1 = y5 then (some (1, q13_.2, U)) else (some (0, q13_.2, U)))))) else (if q4_ = 2 then (if y6 < 0 then (some (1, V, U)) else ((f_L_below y3 2).bind (fun q17_ => (f_L_below (y3 >>> (2 &&& 31)) 99).bind (fun q18_ => (f_X6_send G V U y6 q17_ q18_).bind (fun q19_ => (f_L_isLost G q19_.2 U y6 y5).bind (fun q20_ => if q20_ = 0 then (if q19_.1 = 1 then (some (1, q19_.2, U)) else ((f_X6_many G q19_.2 U 9).bind (fun q26_ => if q26_ ≤ 0 then (some (0, q19_.2, U)) else (some (1, q19_.2, U))))) else (if q19_.1 = 0 then (some (1, q19_.2, U)) else ((f_X6_many G q19_.2 U 9).bind (fun q23_ => if q23_ ≤ 0 then (some (0, q19_.2, U)) else (some (1, q19_.2, U))))))))))) else (if q4_ = 3 then ((f_L_below y3 2).bind (fun q29_ => (f_X6_tick G V U (1 + q29_)).bind (fun q30_ => if q30_.1 < 0 then (some (0, q30_.2, U)) else (some (1, q30_.2, U))))) else (if q4_ = 4 then (if 0 ≤ y6 then ((f_L_below y3 10).bind (fun q34_ => (f_X6_wouldFall G V U y6 q34_).bind (fun q35_ => (f_X6_signal G V q35_.2 y6 q34_).bind (fun q36_ => (f_J6_bitCount_0f7a4 q35_.1).bind (fun q37_ => if q36_.1 = q37_ then ((f_L_areOver G q36_.2 q35_.2 q35_.1).bind (fun q39_ => if q39_ = 0 then (some (0, q36_.2, q35_.2)) else (some (1, q36_.2, q35_.2)))) else (some (0, q36_.2, q35_.2))))))) else (some (1, V, U))) else (if q4_ = 5 then ((f_L_below y3 y4).bind (fun q42_ => (f_X6_wouldPurge G V U q42_).bind (fun q43_ => (f_X6_ofModule G V q43_.2 q42_ 0).bind (fun q44_ => if q44_ = 4 then (some (1, V, q43_.2)) else ((f_L_below (y3 >>> (5 &&& 31)) 3).bind (fun q46_ => if 0 < q46_ then (some (1, V, q43_.2)) else ((f_X6_load G V q43_.2 q42_).bind (fun q48_ => (f_J6_bitCount_0f7a4 q43_.1).bind (fun q49_ => if q48_.1 = q49_ then ((f_L_areOver G q48_.2 q43_.2 q43_.1).bind (fun q51_ => if q51_ = 0 then (some (0, q48_.2, q43_.2)) else (some (1, q48_.2, q43_.2)))) else (some (0, q48_.2, q43_.2))))))))))) else ((f_X6_many G V U 11).bind (fun q53_ => (f_L_below y3 12).bind (fun q54_ => (f_X6_run G V U (1 + q54_)).bind (fun q55_ => (f_X6_many G q55_.2 U 11).bind (fun q56_ => if q56_ = q53_ + q55_.1 then (some (1, q55_.2, U)) else (some (0, q55_.2, U)))))))))))))
def f_L_isActed (G V U : MT) (x2 : Int32) (x3 : Int32) (x4 : Int32) : Option (Int32 × MT × MT) :=
  (f_X6_many G V U 2).bind (fun q1_ => if q1_ = 0 then (f_L_isActed_26 G  30 x2 x3 x4 q1_ (-1) V U) else ((f_L_below (x3 >>> (3 &&& 31)) q1_).bind (fun q3_ => f_L_isActed_26 G  30 x2 x3 x4 q1_ q3_ V U)))
def rm_L_isActed : Room := { frames := 13, cells := 0, slots := 0, locals := 350 }
set_option maxRecDepth 20000 in
set_option maxHeartbeats 4000000 in
theorem l_L_isActed_26 {p : Program} {l : Launch} {e : Env} {s : State} {m : MethodId} {args : Array Value} {below : List Frame} {meth : Method} {c : Code} {D : va_G} {ad : Nat → Nat → Nat → Nat} {cI cZ cP : ClassId} {A : Nat → Prop} {G : MT} {r : Int32} {V' : MT} {U' : MT} (X : MX p s m args meth c cL_isActed RL 13 (some .boolean) D ad cI cZ cP A) (n : Nat) : ∀ {H : Heap} {locs : List Loc} {ls : Array Slot} (y2 : Int32) (y3 : Int32) (y4 : Int32) (y5 : Int32) (y6 : Int32) (V U : MT), Pic D ad cI cZ cP 0 G V U H → va_S A s.heap H locs → lv_has ls 13 [(0, .ref (ad 2 16 0)), (2, .int y2), (3, .int y3), (4, .int y4), (5, .int y5), (6, .int y6)] → f_L_isActed_26 G n y2 y3 y4 y5 y6 V U = some (r, V', U') → W p l e rm_L_isActed s m args below meth c H locs 0 0 (MQ below (QcI A r (Pic D ad cI cZ cP 0 G V' U')) args s 0 0 A) (F0 m 26 ls []) := by
  obtain ⟨hx, hb, hml, hown, htm, hr, hlk, hE⟩ := id X
  induction n with
  | zero =>
    intros
    exact ns_S (by assumption)
  | succ n ih26 =>
    intro H locs ls y2 y3 y4 y5 y6 V U   hP hS hl hF
    rw [f_L_isActed_26] at hF
    refine lv_iload_n hx hb dL_isActed_26 rfl (lv_at hl 1 rfl) ?_
    refine lv_bipush (v := 9) hx hb dL_isActed_27 (by decide) ?_
    obtain ⟨r4, hc4, hF⟩ := ob_S hF
    refine m_cSi X hS sw_L_below qw_580 (c_L_below hc4) ⟨rfl, rfl⟩ ⟨Nat.le_of_ble_eq_true rfl, Nat.le_of_ble_eq_true rfl⟩ hP rfl hl.1 (rest := []) rfl (Nat.le_of_ble_eq_true rfl) dL_isActed_29 (fun H locs hP hS => ?_)
    by_cases c5 : r4 = 0
    · have hF := ite_T c5 hF
      refine lv_tableIn (off := 40) (tgt := 72) hx hb dL_isActed_32 (by rw [c5]; decide) (by rw [c5]; decide) (by rw [c5]; rfl) (by decide) ?_
      refine lv_iload hx hb dL_isActed_72 (lv_at hl 4 rfl) ?_
      refine lv_bipush (v := 20) hx hb dL_isActed_74 (by decide) ?_
      refine lv_icmp_gt (tgt := 94) hx hb dL_isActed_76 (by decide) (fun c6 => ?_) (fun c6 => ?_)
      · have hF := ite_T c6 hF
        refine lv_iconst (v := 1) hx hb dL_isActed_94 (by decide) ?_
        refine lv_goto (tgt := 99) hx hb dL_isActed_95 (by decide) ?_
        obtain ⟨e1, e2⟩ := Prod.mk.inj (Option.some.inj hF)
        obtain ⟨e2, e3⟩ := Prod.mk.inj e2
        subst e1
        subst e2
        subst e3
        exact m_zret X hS hP rfl (Or.inr rfl) dL_isActed_99
      · have hF := ite_F c6 hF
        refine lv_aload_n hx hb dL_isActed_79 rfl (lv_at hl 0 rfl) ?_
        refine lv_iload_n hx hb dL_isActed_80 rfl (lv_at hl 2 rfl) ?_
        refine lv_iload hx hb dL_isActed_81 (lv_at hl 3 rfl) ?_
        obtain ⟨r7, hc7, hF⟩ := ob_S hF
        refine m_cSi X hS sw_L_below qw_580 (c_L_below hc7) ⟨rfl, rfl⟩ ⟨Nat.le_of_ble_eq_true rfl, Nat.le_of_ble_eq_true rfl⟩ hP rfl hl.1 (rest := [.ref (ad 2 16 0)]) rfl (Nat.le_of_ble_eq_true rfl) dL_isActed_83 (fun H locs hP hS => ?_)
        obtain ⟨⟨r8, V8⟩, hc8, hF⟩ := ob_S hF
        refine m_cVi X hS vw_X6_start qw_590 (c_X6_start hc8) ⟨rfl, rfl⟩ ⟨Nat.le_of_ble_eq_true rfl, Nat.le_of_ble_eq_true rfl⟩ (rc_16 hE hP) hP rfl hl.1 (rest := []) rfl (Nat.le_of_ble_eq_true rfl) dL_isActed_86 (fun H locs hP hS => ?_)
        refine lv_iload hx hb dL_isActed_89 (lv_at hl 4 rfl) ?_
        refine lv_icmp_ne (tgt := 98) hx hb dL_isActed_91 (by decide) (fun c9 => ?_) (fun c9 => ?_)
        · have hF := ite_F c9 hF
          refine lv_iconst (v := 0) hx hb dL_isActed_98 (by decide) ?_
          obtain ⟨e1, e2⟩ := Prod.mk.inj (Option.some.inj hF)
          obtain ⟨e2, e3⟩ := Prod.mk.inj e2
          subst e1
          subst e2
          subst e3
          exact m_zret X hS hP rfl (Or.inl rfl) dL_isActed_99
        · have hF := ite_T c9 hF
          refine lv_iconst (v := 1) hx hb dL_isActed_94 (by decide) ?_
          refine lv_goto (tgt := 99) hx hb dL_isActed_95 (by decide) ?_
          obtain ⟨e1, e2⟩ := Prod.mk.inj (Option.some.inj hF)
          obtain ⟨e2, e3⟩ := Prod.mk.inj e2
          subst e1
          subst e2
          subst e3
          exact m_zret X hS hP rfl (Or.inr rfl) dL_isActed_99
    have hF := ite_F c5 hF
    by_cases c10 : r4 = 1
    · have hF := ite_T c10 hF
      refine lv_tableIn (off := 68) (tgt := 100) hx hb dL_isActed_32 (by rw [c10]; decide) (by rw [c10]; decide) (by rw [c10]; rfl) (by decide) ?_
      refine lv_iload hx hb dL_isActed_100 (lv_at hl 4 rfl) ?_
      refine lv_bipush (v := 16) hx hb dL_isActed_102 (by decide) ?_
      refine lv_icmp_gt (tgt := 121) hx hb dL_isActed_104 (by decide) (fun c11 => ?_) (fun c11 => ?_)
      · have hF := ite_T c11 hF
        refine lv_iconst (v := 1) hx hb dL_isActed_121 (by decide) ?_
        refine lv_goto (tgt := 126) hx hb dL_isActed_122 (by decide) ?_
        obtain ⟨e1, e2⟩ := Prod.mk.inj (Option.some.inj hF)
        obtain ⟨e2, e3⟩ := Prod.mk.inj e2
        subst e1
        subst e2
        subst e3
        exact m_zret X hS hP rfl (Or.inr rfl) dL_isActed_126
      · have hF := ite_F c11 hF
        refine lv_aload_n hx hb dL_isActed_107 rfl (lv_at hl 0 rfl) ?_
        refine lv_iload_n hx hb dL_isActed_108 rfl (lv_at hl 2 rfl) ?_
        refine lv_iconst (v := 2) hx hb dL_isActed_109 (by decide) ?_
        obtain ⟨r12, hc12, hF⟩ := ob_S hF
        refine m_cSi X hS sw_L_below qw_580 (c_L_below hc12) ⟨rfl, rfl⟩ ⟨Nat.le_of_ble_eq_true rfl, Nat.le_of_ble_eq_true rfl⟩ hP rfl hl.1 (rest := [.ref (ad 2 16 0)]) rfl (Nat.le_of_ble_eq_true rfl) dL_isActed_110 (fun H locs hP hS => ?_)
        obtain ⟨⟨r13, V13⟩, hc13, hF⟩ := ob_S hF
        refine m_cVi X hS vw_X6_supervise qw_593 (c_X6_supervise hc13) ⟨rfl, rfl⟩ ⟨Nat.le_of_ble_eq_true rfl, Nat.le_of_ble_eq_true rfl⟩ (rc_16 hE hP) hP rfl hl.1 (rest := []) rfl (Nat.le_of_ble_eq_true rfl) dL_isActed_113 (fun H locs hP hS => ?_)
        refine lv_iload hx hb dL_isActed_116 (lv_at hl 4 rfl) ?_
        refine lv_icmp_ne (tgt := 125) hx hb dL_isActed_118 (by decide) (fun c14 => ?_) (fun c14 => ?_)
        · have hF := ite_F c14 hF
          refine lv_iconst (v := 0) hx hb dL_isActed_125 (by decide) ?_
          obtain ⟨e1, e2⟩ := Prod.mk.inj (Option.some.inj hF)
          obtain ⟨e2, e3⟩ := Prod.mk.inj e2
          subst e1
          subst e2
          subst e3
          exact m_zret X hS hP rfl (Or.inl rfl) dL_isActed_126
        · have hF := ite_T c14 hF
          refine lv_iconst (v := 1) hx hb dL_isActed_121 (by decide) ?_
          refine lv_goto (tgt := 126) hx hb dL_isActed_122 (by decide) ?_
          obtain ⟨e1, e2⟩ := Prod.mk.inj (Option.some.inj hF)
          obtain ⟨e2, e3⟩ := Prod.mk.inj e2
          subst e1
          subst e2
          subst e3
          exact m_zret X hS hP rfl (Or.inr rfl) dL_isActed_126
    have hF := ite_F c10 hF
    by_cases c15 : r4 = 2
    · have hF := ite_T c15 hF
      refine lv_tableIn (off := 95) (tgt := 127) hx hb dL_isActed_32 (by rw [c15]; decide) (by rw [c15]; decide) (by rw [c15]; rfl) (by decide) ?_
      refine lv_iload hx hb dL_isActed_127 (lv_at hl 5 rfl) ?_
      refine lv_if_lt (tgt := 179) hx hb dL_isActed_129 (by decide) (fun c16 => ?_) (fun c16 => ?_)
      · have hF := ite_T c16 hF
        refine lv_iconst (v := 1) hx hb dL_isActed_179 (by decide) ?_
        refine lv_goto (tgt := 184) hx hb dL_isActed_180 (by decide) ?_
        obtain ⟨e1, e2⟩ := Prod.mk.inj (Option.some.inj hF)
        obtain ⟨e2, e3⟩ := Prod.mk.inj e2
        subst e1
        subst e2
        subst e3
        exact m_zret X hS hP rfl (Or.inr rfl) dL_isActed_184
      · have hF := ite_F c16 hF
        refine lv_aload_n hx hb dL_isActed_132 rfl (lv_at hl 0 rfl) ?_
        refine lv_iload hx hb dL_isActed_133 (lv_at hl 5 rfl) ?_
        refine lv_iload_n hx hb dL_isActed_135 rfl (lv_at hl 2 rfl) ?_
        refine lv_iconst (v := 2) hx hb dL_isActed_136 (by decide) ?_
        obtain ⟨r17, hc17, hF⟩ := ob_S hF
        refine m_cSi X hS sw_L_below qw_580 (c_L_below hc17) ⟨rfl, rfl⟩ ⟨Nat.le_of_ble_eq_true rfl, Nat.le_of_ble_eq_true rfl⟩ hP rfl hl.1 (rest := [.int y6, .ref (ad 2 16 0)]) rfl (Nat.le_of_ble_eq_true rfl) dL_isActed_137 (fun H locs hP hS => ?_)
        refine lv_iload_n hx hb dL_isActed_140 rfl (lv_at hl 2 rfl) ?_
        refine lv_iconst (v := 2) hx hb dL_isActed_141 (by decide) ?_
        refine lv_ishr hx hb dL_isActed_142 ?_
        refine lv_bipush (v := 99) hx hb dL_isActed_143 (by decide) ?_
        obtain ⟨r18, hc18, hF⟩ := ob_S hF
        refine m_cSi X hS sw_L_below qw_580 (c_L_below hc18) ⟨rfl, rfl⟩ ⟨Nat.le_of_ble_eq_true rfl, Nat.le_of_ble_eq_true rfl⟩ hP rfl hl.1 (rest := [.int r17, .int y6, .ref (ad 2 16 0)]) rfl (Nat.le_of_ble_eq_true rfl) dL_isActed_145 (fun H locs hP hS => ?_)
        obtain ⟨⟨r19, V19⟩, hc19, hF⟩ := ob_S hF
        refine m_cVi X hS vw_X6_send qw_596 (c_X6_send hc19) ⟨rfl, rfl⟩ ⟨Nat.le_of_ble_eq_true rfl, Nat.le_of_ble_eq_true rfl⟩ (rc_16 hE hP) hP rfl hl.1 (rest := []) rfl (Nat.le_of_ble_eq_true rfl) dL_isActed_148 (fun H locs hP hS => ?_)
        refine lv_aload_n hx hb dL_isActed_151 rfl (lv_at hl 0 rfl) ?_
        refine lv_iload hx hb dL_isActed_152 (lv_at hl 5 rfl) ?_
        refine lv_iload hx hb dL_isActed_154 (lv_at hl 4 rfl) ?_
        obtain ⟨r20, hc20, hF⟩ := ob_S hF
        refine m_cSi X hS sw_L_isLost qw_599 (c_L_isLost hc20) ⟨rfl, rfl⟩ ⟨Nat.le_of_ble_eq_true rfl, Nat.le_of_ble_eq_true rfl⟩ hP rfl hl.1 (rest := [.int r19]) rfl (Nat.le_of_ble_eq_true rfl) dL_isActed_156 (fun H locs hP hS => ?_)
        refine lv_if_ne (tgt := 166) hx hb dL_isActed_159 (by decide) (fun c21 => ?_) (fun c21 => ?_)
        · have hF := ite_F c21 hF
          refine lv_iconst (v := 0) hx hb dL_isActed_166 (by decide) ?_
          refine lv_icmp_eq (tgt := 179) hx hb dL_isActed_167 (by decide) (fun c22 => ?_) (fun c22 => ?_)
          · have hF := ite_T c22 hF
            refine lv_iconst (v := 1) hx hb dL_isActed_179 (by decide) ?_
            refine lv_goto (tgt := 184) hx hb dL_isActed_180 (by decide) ?_
            obtain ⟨e1, e2⟩ := Prod.mk.inj (Option.some.inj hF)
            obtain ⟨e2, e3⟩ := Prod.mk.inj e2
            subst e1
            subst e2
            subst e3
            exact m_zret X hS hP rfl (Or.inr rfl) dL_isActed_184
          · have hF := ite_F c22 hF
            refine lv_aload_n hx hb dL_isActed_170 rfl (lv_at hl 0 rfl) ?_
            refine lv_bipush (v := 9) hx hb dL_isActed_171 (by decide) ?_
            obtain ⟨r23, hc23, hF⟩ := ob_S hF
            refine m_cVi X hS vw_X6_many qw_588 (c_X6_many hc23) ⟨rfl, rfl⟩ ⟨Nat.le_of_ble_eq_true rfl, Nat.le_of_ble_eq_true rfl⟩ (rc_16 hE hP) hP rfl hl.1 (rest := []) rfl (Nat.le_of_ble_eq_true rfl) dL_isActed_173 (fun H locs hP hS => ?_)
            refine lv_if_le (tgt := 183) hx hb dL_isActed_176 (by decide) (fun c24 => ?_) (fun c24 => ?_)
            · have hF := ite_T c24 hF
              refine lv_iconst (v := 0) hx hb dL_isActed_183 (by decide) ?_
              obtain ⟨e1, e2⟩ := Prod.mk.inj (Option.some.inj hF)
              obtain ⟨e2, e3⟩ := Prod.mk.inj e2
              subst e1
              subst e2
              subst e3
              exact m_zret X hS hP rfl (Or.inl rfl) dL_isActed_184
            · have hF := ite_F c24 hF
              refine lv_iconst (v := 1) hx hb dL_isActed_179 (by decide) ?_
              refine lv_goto (tgt := 184) hx hb dL_isActed_180 (by decide) ?_
              obtain ⟨e1, e2⟩ := Prod.mk.inj (Option.some.inj hF)
              obtain ⟨e2, e3⟩ := Prod.mk.inj e2
              subst e1
              subst e2
              subst e3
              exact m_zret X hS hP rfl (Or.inr rfl) dL_isActed_184
        · have hF := ite_T c21 hF
          refine lv_iconst (v := 1) hx hb dL_isActed_162 (by decide) ?_
          refine lv_goto (tgt := 167) hx hb dL_isActed_163 (by decide) ?_
          refine lv_icmp_eq (tgt := 179) hx hb dL_isActed_167 (by decide) (fun c25 => ?_) (fun c25 => ?_)
          · have hF := ite_T c25 hF
            refine lv_iconst (v := 1) hx hb dL_isActed_179 (by decide) ?_
            refine lv_goto (tgt := 184) hx hb dL_isActed_180 (by decide) ?_
            obtain ⟨e1, e2⟩ := Prod.mk.inj (Option.some.inj hF)
            obtain ⟨e2, e3⟩ := Prod.mk.inj e2
            subst e1
            subst e2
            subst e3
            exact m_zret X hS hP rfl (Or.inr rfl) dL_isActed_184
          · have hF := ite_F c25 hF
            refine lv_aload_n hx hb dL_isActed_170 rfl (lv_at hl 0 rfl) ?_
            refine lv_bipush (v := 9) hx hb dL_isActed_171 (by decide) ?_
            obtain ⟨r26, hc26, hF⟩ := ob_S hF
            refine m_cVi X hS vw_X6_many qw_588 (c_X6_many hc26) ⟨rfl, rfl⟩ ⟨Nat.le_of_ble_eq_true rfl, Nat.le_of_ble_eq_true rfl⟩ (rc_16 hE hP) hP rfl hl.1 (rest := []) rfl (Nat.le_of_ble_eq_true rfl) dL_isActed_173 (fun H locs hP hS => ?_)
            refine lv_if_le (tgt := 183) hx hb dL_isActed_176 (by decide) (fun c27 => ?_) (fun c27 => ?_)
            · have hF := ite_T c27 hF
              refine lv_iconst (v := 0) hx hb dL_isActed_183 (by decide) ?_
              obtain ⟨e1, e2⟩ := Prod.mk.inj (Option.some.inj hF)
              obtain ⟨e2, e3⟩ := Prod.mk.inj e2
              subst e1
              subst e2
              subst e3
              exact m_zret X hS hP rfl (Or.inl rfl) dL_isActed_184
            · have hF := ite_F c27 hF
              refine lv_iconst (v := 1) hx hb dL_isActed_179 (by decide) ?_
              refine lv_goto (tgt := 184) hx hb dL_isActed_180 (by decide) ?_
              obtain ⟨e1, e2⟩ := Prod.mk.inj (Option.some.inj hF)
              obtain ⟨e2, e3⟩ := Prod.mk.inj e2
              subst e1
              subst e2
              subst e3
              exact m_zret X hS hP rfl (Or.inr rfl) dL_isActed_184
    have hF := ite_F c15 hF
    by_cases c28 : r4 = 3
    · have hF := ite_T c28 hF
      refine lv_tableIn (off := 153) (tgt := 185) hx hb dL_isActed_32 (by rw [c28]; decide) (by rw [c28]; decide) (by rw [c28]; rfl) (by decide) ?_
      refine lv_aload_n hx hb dL_isActed_185 rfl (lv_at hl 0 rfl) ?_
      refine lv_iconst (v := 1) hx hb dL_isActed_186 (by decide) ?_
      refine lv_iload_n hx hb dL_isActed_187 rfl (lv_at hl 2 rfl) ?_
      refine lv_iconst (v := 2) hx hb dL_isActed_188 (by decide) ?_
      obtain ⟨r29, hc29, hF⟩ := ob_S hF
      refine m_cSi X hS sw_L_below qw_580 (c_L_below hc29) ⟨rfl, rfl⟩ ⟨Nat.le_of_ble_eq_true rfl, Nat.le_of_ble_eq_true rfl⟩ hP rfl hl.1 (rest := [.int 1, .ref (ad 2 16 0)]) rfl (Nat.le_of_ble_eq_true rfl) dL_isActed_189 (fun H locs hP hS => ?_)
      refine lv_iadd hx hb dL_isActed_192 ?_
      obtain ⟨⟨r30, V30⟩, hc30, hF⟩ := ob_S hF
      refine m_cVi X hS vw_X6_tick qw_601 (c_X6_tick hc30) ⟨rfl, rfl⟩ ⟨Nat.le_of_ble_eq_true rfl, Nat.le_of_ble_eq_true rfl⟩ (rc_16 hE hP) hP rfl hl.1 (rest := []) rfl (Nat.le_of_ble_eq_true rfl) dL_isActed_193 (fun H locs hP hS => ?_)
      refine lv_if_lt (tgt := 203) hx hb dL_isActed_196 (by decide) (fun c31 => ?_) (fun c31 => ?_)
      · have hF := ite_T c31 hF
        refine lv_iconst (v := 0) hx hb dL_isActed_203 (by decide) ?_
        obtain ⟨e1, e2⟩ := Prod.mk.inj (Option.some.inj hF)
        obtain ⟨e2, e3⟩ := Prod.mk.inj e2
        subst e1
        subst e2
        subst e3
        exact m_zret X hS hP rfl (Or.inl rfl) dL_isActed_204
      · have hF := ite_F c31 hF
        refine lv_iconst (v := 1) hx hb dL_isActed_199 (by decide) ?_
        refine lv_goto (tgt := 204) hx hb dL_isActed_200 (by decide) ?_
        obtain ⟨e1, e2⟩ := Prod.mk.inj (Option.some.inj hF)
        obtain ⟨e2, e3⟩ := Prod.mk.inj e2
        subst e1
        subst e2
        subst e3
        exact m_zret X hS hP rfl (Or.inr rfl) dL_isActed_204
    have hF := ite_F c28 hF
    by_cases c32 : r4 = 4
    · have hF := ite_T c32 hF
      refine lv_tableIn (off := 173) (tgt := 205) hx hb dL_isActed_32 (by rw [c32]; decide) (by rw [c32]; decide) (by rw [c32]; rfl) (by decide) ?_
      refine lv_iload hx hb dL_isActed_205 (lv_at hl 5 rfl) ?_
      refine lv_if_ge (tgt := 212) hx hb dL_isActed_207 (by decide) (fun c33 => ?_) (fun c33 => ?_)
      · have hF := ite_T c33 hF
        refine lv_iload_n hx hb dL_isActed_212 rfl (lv_at hl 2 rfl) ?_
        refine lv_bipush (v := 10) hx hb dL_isActed_213 (by decide) ?_
        obtain ⟨r34, hc34, hF⟩ := ob_S hF
        refine m_cSi X hS sw_L_below qw_580 (c_L_below hc34) ⟨rfl, rfl⟩ ⟨Nat.le_of_ble_eq_true rfl, Nat.le_of_ble_eq_true rfl⟩ hP rfl hl.1 (rest := []) rfl (Nat.le_of_ble_eq_true rfl) dL_isActed_215 (fun H locs hP hS => ?_)
        refine lv_istore (lv' := [(7, .int r34), (0, .ref (ad 2 16 0)), (2, .int y2), (3, .int y3), (4, .int y4), (5, .int y5), (6, .int y6)]) hx hb dL_isActed_218 hl (by decide) rfl (fun ls hl => ?_)
        refine lv_aload_n hx hb dL_isActed_220 rfl (lv_at hl 1 rfl) ?_
        refine lv_iload hx hb dL_isActed_221 (lv_at hl 6 rfl) ?_
        refine lv_iload hx hb dL_isActed_223 (lv_at hl 0 rfl) ?_
        obtain ⟨⟨r35, U35⟩, hc35, hF⟩ := ob_S hF
        refine m_cVi X hS vw_X6_wouldFall qw_604 (c_X6_wouldFall hc35) ⟨rfl, rfl⟩ ⟨Nat.le_of_ble_eq_true rfl, Nat.le_of_ble_eq_true rfl⟩ (rc_16 hE hP) hP rfl hl.1 (rest := []) rfl (Nat.le_of_ble_eq_true rfl) dL_isActed_225 (fun H locs hP hS => ?_)
        refine lv_istore (lv' := [(8, .int r35), (7, .int r34), (0, .ref (ad 2 16 0)), (2, .int y2), (3, .int y3), (4, .int y4), (5, .int y5), (6, .int y6)]) hx hb dL_isActed_228 hl (by decide) rfl (fun ls hl => ?_)
        refine lv_aload_n hx hb dL_isActed_230 rfl (lv_at hl 2 rfl) ?_
        refine lv_iload hx hb dL_isActed_231 (lv_at hl 7 rfl) ?_
        refine lv_iload hx hb dL_isActed_233 (lv_at hl 1 rfl) ?_
        obtain ⟨⟨r36, V36⟩, hc36, hF⟩ := ob_S hF
        refine m_cVi X hS vw_X6_signal qw_605 (c_X6_signal hc36) ⟨rfl, rfl⟩ ⟨Nat.le_of_ble_eq_true rfl, Nat.le_of_ble_eq_true rfl⟩ (rc_16 hE hP) hP rfl hl.1 (rest := []) rfl (Nat.le_of_ble_eq_true rfl) dL_isActed_235 (fun H locs hP hS => ?_)
        refine lv_iload hx hb dL_isActed_238 (lv_at hl 0 rfl) ?_
        obtain ⟨r37, hc37, hF⟩ := ob_S hF
        refine m_cOi X hS sw_J6_bitCount_0f7a4 qw_608 (c_J6_bitCount_0f7a4 hc37) ⟨rfl, rfl⟩ ⟨Nat.le_of_ble_eq_true rfl, Nat.le_of_ble_eq_true rfl⟩ hP rfl hl.1 (rest := [.int r36]) rfl (Nat.le_of_ble_eq_true rfl) dL_isActed_240 (fun H locs hP hS => ?_)
        refine lv_icmp_ne (tgt := 259) hx hb dL_isActed_243 (by decide) (fun c38 => ?_) (fun c38 => ?_)
        · have hF := ite_F c38 hF
          refine lv_iconst (v := 0) hx hb dL_isActed_259 (by decide) ?_
          obtain ⟨e1, e2⟩ := Prod.mk.inj (Option.some.inj hF)
          obtain ⟨e2, e3⟩ := Prod.mk.inj e2
          subst e1
          subst e2
          subst e3
          exact m_zret X hS hP rfl (Or.inl rfl) dL_isActed_260
        · have hF := ite_T c38 hF
          refine lv_aload_n hx hb dL_isActed_246 rfl (lv_at hl 2 rfl) ?_
          refine lv_iload hx hb dL_isActed_247 (lv_at hl 0 rfl) ?_
          obtain ⟨r39, hc39, hF⟩ := ob_S hF
          refine m_cSi X hS sw_L_areOver qw_609 (c_L_areOver hc39) ⟨rfl, rfl⟩ ⟨Nat.le_of_ble_eq_true rfl, Nat.le_of_ble_eq_true rfl⟩ hP rfl hl.1 (rest := []) rfl (Nat.le_of_ble_eq_true rfl) dL_isActed_249 (fun H locs hP hS => ?_)
          refine lv_if_eq (tgt := 259) hx hb dL_isActed_252 (by decide) (fun c40 => ?_) (fun c40 => ?_)
          · have hF := ite_T c40 hF
            refine lv_iconst (v := 0) hx hb dL_isActed_259 (by decide) ?_
            obtain ⟨e1, e2⟩ := Prod.mk.inj (Option.some.inj hF)
            obtain ⟨e2, e3⟩ := Prod.mk.inj e2
            subst e1
            subst e2
            subst e3
            exact m_zret X hS hP rfl (Or.inl rfl) dL_isActed_260
          · have hF := ite_F c40 hF
            refine lv_iconst (v := 1) hx hb dL_isActed_255 (by decide) ?_
            refine lv_goto (tgt := 260) hx hb dL_isActed_256 (by decide) ?_
            obtain ⟨e1, e2⟩ := Prod.mk.inj (Option.some.inj hF)
            obtain ⟨e2, e3⟩ := Prod.mk.inj e2
            subst e1
            subst e2
            subst e3
            exact m_zret X hS hP rfl (Or.inr rfl) dL_isActed_260
      · have hF := ite_F c33 hF
        refine lv_iconst (v := 1) hx hb dL_isActed_210 (by decide) ?_
        obtain ⟨e1, e2⟩ := Prod.mk.inj (Option.some.inj hF)
        obtain ⟨e2, e3⟩ := Prod.mk.inj e2
        subst e1
        subst e2
        subst e3
        exact m_zret X hS hP rfl (Or.inr rfl) dL_isActed_211
    have hF := ite_F c32 hF
    by_cases c41 : r4 = 5
    · have hF := ite_T c41 hF
      refine lv_tableIn (off := 229) (tgt := 261) hx hb dL_isActed_32 (by rw [c41]; decide) (by rw [c41]; decide) (by rw [c41]; rfl) (by decide) ?_
      refine lv_iload_n hx hb dL_isActed_261 rfl (lv_at hl 2 rfl) ?_
      refine lv_iload hx hb dL_isActed_262 (lv_at hl 3 rfl) ?_
      obtain ⟨r42, hc42, hF⟩ := ob_S hF
      refine m_cSi X hS sw_L_below qw_580 (c_L_below hc42) ⟨rfl, rfl⟩ ⟨Nat.le_of_ble_eq_true rfl, Nat.le_of_ble_eq_true rfl⟩ hP rfl hl.1 (rest := []) rfl (Nat.le_of_ble_eq_true rfl) dL_isActed_264 (fun H locs hP hS => ?_)
      refine lv_istore (lv' := [(9, .int r42), (0, .ref (ad 2 16 0)), (2, .int y2), (3, .int y3), (4, .int y4), (5, .int y5), (6, .int y6)]) hx hb dL_isActed_267 hl (by decide) rfl (fun ls hl => ?_)
      refine lv_aload_n hx hb dL_isActed_269 rfl (lv_at hl 1 rfl) ?_
      refine lv_iload hx hb dL_isActed_270 (lv_at hl 0 rfl) ?_
      obtain ⟨⟨r43, U43⟩, hc43, hF⟩ := ob_S hF
      refine m_cVi X hS vw_X6_wouldPurge qw_611 (c_X6_wouldPurge hc43) ⟨rfl, rfl⟩ ⟨Nat.le_of_ble_eq_true rfl, Nat.le_of_ble_eq_true rfl⟩ (rc_16 hE hP) hP rfl hl.1 (rest := []) rfl (Nat.le_of_ble_eq_true rfl) dL_isActed_272 (fun H locs hP hS => ?_)
      refine lv_istore (lv' := [(10, .int r43), (9, .int r42), (0, .ref (ad 2 16 0)), (2, .int y2), (3, .int y3), (4, .int y4), (5, .int y5), (6, .int y6)]) hx hb dL_isActed_275 hl (by decide) rfl (fun ls hl => ?_)
      refine lv_aload_n hx hb dL_isActed_277 rfl (lv_at hl 2 rfl) ?_
      refine lv_iload hx hb dL_isActed_278 (lv_at hl 1 rfl) ?_
      refine lv_iconst (v := 0) hx hb dL_isActed_280 (by decide) ?_
      obtain ⟨r44, hc44, hF⟩ := ob_S hF
      refine m_cVi X hS vw_X6_ofModule qw_612 (c_X6_ofModule hc44) ⟨rfl, rfl⟩ ⟨Nat.le_of_ble_eq_true rfl, Nat.le_of_ble_eq_true rfl⟩ (rc_16 hE hP) hP rfl hl.1 (rest := []) rfl (Nat.le_of_ble_eq_true rfl) dL_isActed_281 (fun H locs hP hS => ?_)
      refine lv_iconst (v := 4) hx hb dL_isActed_284 (by decide) ?_
      refine lv_icmp_eq (tgt := 321) hx hb dL_isActed_285 (by decide) (fun c45 => ?_) (fun c45 => ?_)
      · have hF := ite_T c45 hF
        refine lv_iconst (v := 1) hx hb dL_isActed_321 (by decide) ?_
        refine lv_goto (tgt := 326) hx hb dL_isActed_322 (by decide) ?_
        obtain ⟨e1, e2⟩ := Prod.mk.inj (Option.some.inj hF)
        obtain ⟨e2, e3⟩ := Prod.mk.inj e2
        subst e1
        subst e2
        subst e3
        exact m_zret X hS hP rfl (Or.inr rfl) dL_isActed_326
      · have hF := ite_F c45 hF
        refine lv_iload_n hx hb dL_isActed_288 rfl (lv_at hl 4 rfl) ?_
        refine lv_iconst (v := 5) hx hb dL_isActed_289 (by decide) ?_
        refine lv_ishr hx hb dL_isActed_290 ?_
        refine lv_iconst (v := 3) hx hb dL_isActed_291 (by decide) ?_
        obtain ⟨r46, hc46, hF⟩ := ob_S hF
        refine m_cSi X hS sw_L_below qw_580 (c_L_below hc46) ⟨rfl, rfl⟩ ⟨Nat.le_of_ble_eq_true rfl, Nat.le_of_ble_eq_true rfl⟩ hP rfl hl.1 (rest := []) rfl (Nat.le_of_ble_eq_true rfl) dL_isActed_292 (fun H locs hP hS => ?_)
        refine lv_if_gt (tgt := 321) hx hb dL_isActed_295 (by decide) (fun c47 => ?_) (fun c47 => ?_)
        · have hF := ite_T c47 hF
          refine lv_iconst (v := 1) hx hb dL_isActed_321 (by decide) ?_
          refine lv_goto (tgt := 326) hx hb dL_isActed_322 (by decide) ?_
          obtain ⟨e1, e2⟩ := Prod.mk.inj (Option.some.inj hF)
          obtain ⟨e2, e3⟩ := Prod.mk.inj e2
          subst e1
          subst e2
          subst e3
          exact m_zret X hS hP rfl (Or.inr rfl) dL_isActed_326
        · have hF := ite_F c47 hF
          refine lv_aload_n hx hb dL_isActed_298 rfl (lv_at hl 2 rfl) ?_
          refine lv_iload hx hb dL_isActed_299 (lv_at hl 1 rfl) ?_
          obtain ⟨⟨r48, V48⟩, hc48, hF⟩ := ob_S hF
          refine m_cVi X hS vw_X6_load qw_613 (c_X6_load hc48) ⟨rfl, rfl⟩ ⟨Nat.le_of_ble_eq_true rfl, Nat.le_of_ble_eq_true rfl⟩ (rc_16 hE hP) hP rfl hl.1 (rest := []) rfl (Nat.le_of_ble_eq_true rfl) dL_isActed_301 (fun H locs hP hS => ?_)
          refine lv_iload hx hb dL_isActed_304 (lv_at hl 0 rfl) ?_
          obtain ⟨r49, hc49, hF⟩ := ob_S hF
          refine m_cOi X hS sw_J6_bitCount_0f7a4 qw_608 (c_J6_bitCount_0f7a4 hc49) ⟨rfl, rfl⟩ ⟨Nat.le_of_ble_eq_true rfl, Nat.le_of_ble_eq_true rfl⟩ hP rfl hl.1 (rest := [.int r48]) rfl (Nat.le_of_ble_eq_true rfl) dL_isActed_306 (fun H locs hP hS => ?_)
          refine lv_icmp_ne (tgt := 325) hx hb dL_isActed_309 (by decide) (fun c50 => ?_) (fun c50 => ?_)
          · have hF := ite_F c50 hF
            refine lv_iconst (v := 0) hx hb dL_isActed_325 (by decide) ?_
            obtain ⟨e1, e2⟩ := Prod.mk.inj (Option.some.inj hF)
            obtain ⟨e2, e3⟩ := Prod.mk.inj e2
            subst e1
            subst e2
            subst e3
            exact m_zret X hS hP rfl (Or.inl rfl) dL_isActed_326
          · have hF := ite_T c50 hF
            refine lv_aload_n hx hb dL_isActed_312 rfl (lv_at hl 2 rfl) ?_
            refine lv_iload hx hb dL_isActed_313 (lv_at hl 0 rfl) ?_
            obtain ⟨r51, hc51, hF⟩ := ob_S hF
            refine m_cSi X hS sw_L_areOver qw_609 (c_L_areOver hc51) ⟨rfl, rfl⟩ ⟨Nat.le_of_ble_eq_true rfl, Nat.le_of_ble_eq_true rfl⟩ hP rfl hl.1 (rest := []) rfl (Nat.le_of_ble_eq_true rfl) dL_isActed_315 (fun H locs hP hS => ?_)
            refine lv_if_eq (tgt := 325) hx hb dL_isActed_318 (by decide) (fun c52 => ?_) (fun c52 => ?_)
            · have hF := ite_T c52 hF
              refine lv_iconst (v := 0) hx hb dL_isActed_325 (by decide) ?_
              obtain ⟨e1, e2⟩ := Prod.mk.inj (Option.some.inj hF)
              obtain ⟨e2, e3⟩ := Prod.mk.inj e2
              subst e1
              subst e2
              subst e3
              exact m_zret X hS hP rfl (Or.inl rfl) dL_isActed_326
            · have hF := ite_F c52 hF
              refine lv_iconst (v := 1) hx hb dL_isActed_321 (by decide) ?_
              refine lv_goto (tgt := 326) hx hb dL_isActed_322 (by decide) ?_
              obtain ⟨e1, e2⟩ := Prod.mk.inj (Option.some.inj hF)
              obtain ⟨e2, e3⟩ := Prod.mk.inj e2
              subst e1
              subst e2
              subst e3
              exact m_zret X hS hP rfl (Or.inr rfl) dL_isActed_326
    have hF := ite_F c41 hF
    refine lv_tableOut (tgt := 327) hx hb dL_isActed_32 (by have hc5 := lv_neT c5 (a := 0) rfl; have hc10 := lv_neT c10 (a := 1) rfl; have hc15 := lv_neT c15 (a := 2) rfl; have hc28 := lv_neT c28 (a := 3) rfl; have hc32 := lv_neT c32 (a := 4) rfl; have hc41 := lv_neT c41 (a := 5) rfl; omega) (by decide) ?_
    refine lv_aload_n hx hb dL_isActed_327 rfl (lv_at hl 0 rfl) ?_
    refine lv_bipush (v := 11) hx hb dL_isActed_328 (by decide) ?_
    obtain ⟨r53, hc53, hF⟩ := ob_S hF
    refine m_cVi X hS vw_X6_many qw_588 (c_X6_many hc53) ⟨rfl, rfl⟩ ⟨Nat.le_of_ble_eq_true rfl, Nat.le_of_ble_eq_true rfl⟩ (rc_16 hE hP) hP rfl hl.1 (rest := []) rfl (Nat.le_of_ble_eq_true rfl) dL_isActed_330 (fun H locs hP hS => ?_)
    refine lv_istore (lv' := [(11, .int r53), (0, .ref (ad 2 16 0)), (2, .int y2), (3, .int y3), (4, .int y4), (5, .int y5), (6, .int y6)]) hx hb dL_isActed_333 hl (by decide) rfl (fun ls hl => ?_)
    refine lv_aload_n hx hb dL_isActed_335 rfl (lv_at hl 1 rfl) ?_
    refine lv_iconst (v := 1) hx hb dL_isActed_336 (by decide) ?_
    refine lv_iload_n hx hb dL_isActed_337 rfl (lv_at hl 3 rfl) ?_
    refine lv_bipush (v := 12) hx hb dL_isActed_338 (by decide) ?_
    obtain ⟨r54, hc54, hF⟩ := ob_S hF
    refine m_cSi X hS sw_L_below qw_580 (c_L_below hc54) ⟨rfl, rfl⟩ ⟨Nat.le_of_ble_eq_true rfl, Nat.le_of_ble_eq_true rfl⟩ hP rfl hl.1 (rest := [.int 1, .ref (ad 2 16 0)]) rfl (Nat.le_of_ble_eq_true rfl) dL_isActed_340 (fun H locs hP hS => ?_)
    refine lv_iadd hx hb dL_isActed_343 ?_
    obtain ⟨⟨r55, V55⟩, hc55, hF⟩ := ob_S hF
    refine m_cVi X hS vw_X6_run qw_616 (c_X6_run hc55) ⟨rfl, rfl⟩ ⟨Nat.le_of_ble_eq_true rfl, Nat.le_of_ble_eq_true rfl⟩ (rc_16 hE hP) hP rfl hl.1 (rest := []) rfl (Nat.le_of_ble_eq_true rfl) dL_isActed_344 (fun H locs hP hS => ?_)
    refine lv_istore (lv' := [(12, .int r55), (11, .int r53), (0, .ref (ad 2 16 0)), (2, .int y2), (3, .int y3), (4, .int y4), (5, .int y5), (6, .int y6)]) hx hb dL_isActed_347 hl (by decide) rfl (fun ls hl => ?_)
    refine lv_aload_n hx hb dL_isActed_349 rfl (lv_at hl 2 rfl) ?_
    refine lv_bipush (v := 11) hx hb dL_isActed_350 (by decide) ?_
    obtain ⟨r56, hc56, hF⟩ := ob_S hF
    refine m_cVi X hS vw_X6_many qw_588 (c_X6_many hc56) ⟨rfl, rfl⟩ ⟨Nat.le_of_ble_eq_true rfl, Nat.le_of_ble_eq_true rfl⟩ (rc_16 hE hP) hP rfl hl.1 (rest := []) rfl (Nat.le_of_ble_eq_true rfl) dL_isActed_352 (fun H locs hP hS => ?_)
    refine lv_iload hx hb dL_isActed_355 (lv_at hl 1 rfl) ?_
    refine lv_iload hx hb dL_isActed_357 (lv_at hl 0 rfl) ?_
    refine lv_iadd hx hb dL_isActed_359 ?_
    refine lv_icmp_ne (tgt := 367) hx hb dL_isActed_360 (by decide) (fun c57 => ?_) (fun c57 => ?_)
    · have hF := ite_F c57 hF
      refine lv_iconst (v := 0) hx hb dL_isActed_367 (by decide) ?_
      obtain ⟨e1, e2⟩ := Prod.mk.inj (Option.some.inj hF)
      obtain ⟨e2, e3⟩ := Prod.mk.inj e2
      subst e1
      subst e2
      subst e3
      exact m_zret X hS hP rfl (Or.inl rfl) dL_isActed_368
    · have hF := ite_T c57 hF
      refine lv_iconst (v := 1) hx hb dL_isActed_363 (by decide) ?_
      refine lv_goto (tgt := 368) hx hb dL_isActed_364 (by decide) ?_
      obtain ⟨e1, e2⟩ := Prod.mk.inj (Option.some.inj hF)
      obtain ⟨e2, e3⟩ := Prod.mk.inj e2
      subst e1
      subst e2
      subst e3
      exact m_zret X hS hP rfl (Or.inr rfl) dL_isActed_368
set_option maxRecDepth 20000 in
set_option maxHeartbeats 4000000 in
theorem c_L_isActed {l : Launch} {D : va_G} {ad : Nat → Nat → Nat → Nat} {cI cZ cP : ClassId} {A : Nat → Prop} {G V U : MT} {b1 : Nat} {x2 : Int32} {x3 : Int32} {x4 : Int32} {r : Int32} {V' : MT} {U' : MT}  (hF : f_L_isActed G V U x2 x3 x4 = some (r, V', U')) : Met l yL_isActed (.code yL_isActed cL_isActed 13 (some .boolean) :: WM) rm_L_isActed (PcM D ad cI cZ cP A [.ref (ad 2 16 0), .ref b1, .int x2, .int x3, .int x4] (Pic D ad cI cZ cP 0 G V U)) (QcI A r (Pic D ad cI cZ cP 0 G V' U')) 0 0 A := by
  refine m_entry (by decide) (Nat.le_of_ble_eq_true rfl) (fun p e s m below meth c ls X hP hS hl => ?_)
  have X : MX p s m _ meth c cL_isActed RL 13 (some .boolean) D ad cI cZ cP A := X
  obtain ⟨hx, hb, hml, hown, htm, hr, hlk, hE⟩ := id X
  have hl : lv_has ls 13 [(0, .ref (ad 2 16 0)), (1, .ref b1), (2, .int x2), (3, .int x3), (4, .int x4)] := hl
  refine lv_aload_n hx hb dL_isActed_0 rfl (lv_at hl 0 rfl) ?_
  refine lv_iconst (v := 2) hx hb dL_isActed_1 (by decide) ?_
  obtain ⟨r1, hc1, hF⟩ := ob_S hF
  refine m_cVi X hS vw_X6_many qw_588 (c_X6_many hc1) ⟨rfl, rfl⟩ ⟨Nat.le_of_ble_eq_true rfl, Nat.le_of_ble_eq_true rfl⟩ (rc_16 hE hP) hP rfl hl.1 (rest := []) rfl (Nat.le_of_ble_eq_true rfl) dL_isActed_2 (fun H locs hP hS => ?_)
  refine lv_istore (lv' := [(5, .int r1), (0, .ref (ad 2 16 0)), (1, .ref b1), (2, .int x2), (3, .int x3), (4, .int x4)]) hx hb dL_isActed_5 hl (by decide) rfl (fun ls hl => ?_)
  refine lv_iload hx hb dL_isActed_7 (lv_at hl 0 rfl) ?_
  refine lv_if_ne (tgt := 16) hx hb dL_isActed_9 (by decide) (fun c2 => ?_) (fun c2 => ?_)
  · have hF := ite_F c2 hF
    refine lv_iload_n hx hb dL_isActed_16 rfl (lv_at hl 4 rfl) ?_
    refine lv_iconst (v := 3) hx hb dL_isActed_17 (by decide) ?_
    refine lv_ishr hx hb dL_isActed_18 ?_
    refine lv_iload hx hb dL_isActed_19 (lv_at hl 0 rfl) ?_
    obtain ⟨r3, hc3, hF⟩ := ob_S hF
    refine m_cSi X hS sw_L_below qw_580 (c_L_below hc3) ⟨rfl, rfl⟩ ⟨Nat.le_of_ble_eq_true rfl, Nat.le_of_ble_eq_true rfl⟩ hP rfl hl.1 (rest := []) rfl (Nat.le_of_ble_eq_true rfl) dL_isActed_21 (fun H locs hP hS => ?_)
    refine lv_istore (lv' := [(6, .int r3), (5, .int r1), (0, .ref (ad 2 16 0)), (1, .ref b1), (2, .int x2), (3, .int x3), (4, .int x4)]) hx hb dL_isActed_24 hl (by decide) rfl (fun ls hl => ?_)
    exact l_L_isActed_26 X  30 _ _ _ _ _ _ _ hP hS (lv_sub hl [2, 4, 5, 6, 1, 0] rfl) hF
  · have hF := ite_T c2 hF
    refine lv_iconst (v := (-1)) hx hb dL_isActed_12 (by decide) ?_
    refine lv_goto (tgt := 24) hx hb dL_isActed_13 (by decide) ?_
    refine lv_istore (lv' := [(6, .int (-1)), (5, .int r1), (0, .ref (ad 2 16 0)), (1, .ref b1), (2, .int x2), (3, .int x3), (4, .int x4)]) hx hb dL_isActed_24 hl (by decide) rfl (fun ls hl => ?_)
    exact l_L_isActed_26 X  30 _ _ _ _ _ _ _ hP hS (lv_sub hl [2, 4, 5, 6, 1, 0] rfl) hF
