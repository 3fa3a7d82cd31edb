theorem vw_X6_start : VW RX6 yX6_start cX6_start 3 (some .int) 1 := ⟨qw_591, qw_592, qw_12, qw_446, ⟨rfl, by decide, by decide, by decide +kernel⟩⟩
theorem vw_X6_supervise : VW RX6 yX6_supervise cX6_supervise 2 (some .int) 1 := ⟨qw_594, qw_595, qw_12, qw_451, ⟨rfl, by decide, by decide, by decide +kernel⟩⟩
theorem vw_X6_run : VW RX6 yX6_run cX6_run 3 (some .int) 1 := ⟨qw_617, qw_618, qw_12, qw_455, ⟨rfl, by decide, by decide, by decide +kernel⟩⟩
theorem vw_X6_tick : VW RX6 yX6_tick cX6_tick 4 (some .int) 1 := ⟨qw_602, qw_603, qw_12, qw_459, ⟨rfl, by decide, by decide, by decide +kernel⟩⟩
theorem vw_X6_send : VW RX6 yX6_send cX6_send 4 (some .boolean) 3 := ⟨qw_597, qw_598, qw_12, qw_466, ⟨rfl, by decide, by decide, by decide +kernel⟩⟩
theorem vw_X6_signal : VW RX6 yX6_signal cX6_signal 4 (some .int) 2 := ⟨qw_606, qw_607, qw_12, qw_469, ⟨rfl, by decide, by decide, by decide +kernel⟩⟩
theorem vw_X6_ofProcess : VW RX6 yX6_ofProcess cX6_ofProcess 4 (some .int) 2 := ⟨qw_534, qw_535, qw_12, qw_488, ⟨rfl, by decide, by decide, by decide +kernel⟩⟩
def f_X6_start (G V U : MT) (x1 : Int32) : Option (Int32 × MT) :=
  (f_X1_hasModule G x1).bind (fun q1_ => (f_X6_checkIndex q1_).bind (fun _ => (f_X5_comesOfModule G V x1 (-1)).bind (fun q3_ => oc q3_.1 ((f_X6_checkState 0).bind (fun _ => some ((-1), q3_.2))) (fun e3 => if e3 < 24 then ((f_X6_checkState 1).bind (fun _ => some (nI e3, q3_.2))) else none))))
def rm_X6_start : Room := { frames := 1, cells := 0, slots := 0, locals := 23 }
set_option maxRecDepth 20000 in
set_option maxHeartbeats 4000000 in
theorem c_X6_start {l : Launch} {D : va_G} {ad : Nat → Nat → Nat → Nat} {cI cZ cP : ClassId} {A : Nat → Prop} {G V U : MT} {x1 : Int32} {r : Int32} {V' : MT}  (hF : f_X6_start G V U x1 = some (r, V')) : Met l yX6_start (.code yX6_start cX6_start 3 (some .int) :: WM) rm_X6_start (PcM D ad cI cZ cP A [.ref (ad 2 16 0), .int x1] (Pic D ad cI cZ cP 0 G V U)) (QcI A r (Pic D ad cI cZ cP 0 G V' U)) 0 0 A := by
  refine m_entry (by decide) (Nat.le_of_ble_eq_true rfl) (fun p e s m below meth c ls X hP hS hl => ?_)
  have X : MX p s m _ meth c cX6_start RX6 3 (some .int) D ad cI cZ cP A := X
  obtain ⟨hx, hb, hml, hown, htm, hr, hlk, hE⟩ := id X
  have hl : lv_has ls 3 [(0, .ref (ad 2 16 0)), (1, .int x1)] := hl
  refine lv_aload_n hx hb dX6_start_0 rfl (lv_at hl 0 rfl) ?_
  refine gf_16_0 hx hb htm hown hE hP (htm _ qw_376) dX6_start_1 ?_
  refine lv_iload_n hx hb dX6_start_4 rfl (lv_at hl 1 rfl) ?_
  obtain ⟨r1, hc1, hF⟩ := ob_S hF
  refine m_cVi X hS vw_X1_hasModule qw_396 (c_X1_hasModule (by decide) hc1) ⟨rfl, rfl⟩ ⟨Nat.le_of_ble_eq_true rfl, Nat.le_of_ble_eq_true rfl⟩ (rc_17 hE hP) hP rfl hl.1 (rest := []) rfl (Nat.le_of_ble_eq_true rfl) dX6_start_5 (fun H locs hP hS => ?_)
  obtain ⟨u2, hc2, hF⟩ := ob_S hF
  refine m_cSv X hS sw_X6_checkIndex qw_397 (c_X6_checkIndex hc2) ⟨rfl, rfl⟩ ⟨Nat.le_of_ble_eq_true rfl, Nat.le_of_ble_eq_true rfl⟩ hP rfl hl.1 (rest := []) rfl (Nat.le_of_ble_eq_true rfl) dX6_start_8 (fun H locs hP hS => ?_)
  refine lv_aload_n hx hb dX6_start_11 rfl (lv_at hl 0 rfl) ?_
  refine gf_16_2 hx hb htm hown hE hP (htm _ qw_382) dX6_start_12 ?_
  refine lv_iload_n hx hb dX6_start_15 rfl (lv_at hl 1 rfl) ?_
  refine lv_iconst (v := (-1)) hx hb dX6_start_16 (by decide) ?_
  obtain ⟨⟨r3, V3⟩, hc3, hF⟩ := ob_S hF
  refine m_cVq X hS vw_X5_comesOfModule qw_445 (c_X5_comesOfModule (by decide) hc3) ⟨rfl, rfl⟩ ⟨Nat.le_of_ble_eq_true rfl, Nat.le_of_ble_eq_true rfl⟩ (rc_0 hE hP (by decide)) hP rfl hl.1 (rest := []) rfl (Nat.le_of_ble_eq_true rfl) dX6_start_17 (fun H locs hP hS => ?_)
  rcases r3 with _ | e3
  · have hF := oc_N hF
    refine lv_astore_nN (lv' := [(2, .null), (0, .ref (ad 2 16 0)), (1, .int x1)]) hx hb dX6_start_20 rfl hl (by decide) rfl (fun ls hl => ?_)
    refine lv_aload_nN hx hb dX6_start_21 rfl (lv_at hl 0 rfl) ?_
    refine lv_ifnullN (tgt := 29) hx hb dX6_start_22 (by decide) ?_
    refine lv_iconst (v := 0) hx hb dX6_start_29 (by decide) ?_
    obtain ⟨u4, hc4, hF⟩ := ob_S hF
    refine m_cSv X hS sw_X6_checkState qw_391 (c_X6_checkState hc4) ⟨rfl, rfl⟩ ⟨Nat.le_of_ble_eq_true rfl, Nat.le_of_ble_eq_true rfl⟩ hP rfl hl.1 (rest := []) rfl (Nat.le_of_ble_eq_true rfl) dX6_start_30 (fun H locs hP hS => ?_)
    refine lv_aload_nN hx hb dX6_start_33 rfl (lv_at hl 0 rfl) ?_
    refine lv_ifnonnullN hx hb dX6_start_34 ?_
    refine lv_iconst (v := (-1)) hx hb dX6_start_37 (by decide) ?_
    refine lv_goto (tgt := 45) hx hb dX6_start_38 (by decide) ?_
    obtain ⟨e1, e2⟩ := Prod.mk.inj (Option.some.inj hF)
    subst e1
    subst e2
    exact m_iret X hS hP rfl dX6_start_45
  · obtain ⟨he3, hF⟩ := ite_S (oc_J hF)
    refine lv_astore_n (lv' := [(2, .ref (ad 0 7 e3)), (0, .ref (ad 2 16 0)), (1, .int x1)]) hx hb dX6_start_20 rfl hl (by decide) rfl (fun ls hl => ?_)
    refine lv_aload_n hx hb dX6_start_21 rfl (lv_at hl 0 rfl) ?_
    refine lv_ifnull hx hb dX6_start_22 ?_
    refine lv_iconst (v := 1) hx hb dX6_start_25 (by decide) ?_
    refine lv_goto (tgt := 30) hx hb dX6_start_26 (by decide) ?_
    obtain ⟨u5, hc5, hF⟩ := ob_S hF
    refine m_cSv X hS sw_X6_checkState qw_391 (c_X6_checkState hc5) ⟨rfl, rfl⟩ ⟨Nat.le_of_ble_eq_true rfl, Nat.le_of_ble_eq_true rfl⟩ hP rfl hl.1 (rest := []) rfl (Nat.le_of_ble_eq_true rfl) dX6_start_30 (fun H locs hP hS => ?_)
    refine lv_aload_n hx hb dX6_start_33 rfl (lv_at hl 0 rfl) ?_
    refine lv_ifnonnull (tgt := 41) hx hb dX6_start_34 (by decide) ?_
    refine lv_aload_n hx hb dX6_start_41 rfl (lv_at hl 0 rfl) ?_
    refine gf_7_0 hx hb htm hown hE hP (by decide) he3 (htm _ qw_444) dX6_start_42 ?_
    obtain ⟨e1, e2⟩ := Prod.mk.inj (Option.some.inj hF)
    subst e1
    subst e2
    exact m_iret X hS hP rfl dX6_start_45
def f_X6_supervise (G V U : MT) (x1 : Int32) : Option (Int32 × MT) :=
  (f_X3_hasSpec G x1).bind (fun q1_ => (f_X6_checkIndex q1_).bind (fun _ => if 24 ≤ V 0 0 5 then ((f_X6_checkState 0).bind (fun _ => (f_X5_comesFromOutside G V x1).bind (fun q5_ => some (q5_.1, q5_.2)))) else ((f_X6_checkState 1).bind (fun _ => (f_X5_comesFromOutside G V x1).bind (fun q7_ => some (q7_.1, q7_.2))))))
def rm_X6_supervise : Room := { frames := 12, cells := 0, slots := 0, locals := 326 }
set_option maxRecDepth 20000 in
set_option maxHeartbeats 4000000 in
theorem c_X6_supervise {l : Launch} {D : va_G} {ad : Nat → Nat → Nat → Nat} {cI cZ cP : ClassId} {A : Nat → Prop} {G V U : MT} {x1 : Int32} {r : Int32} {V' : MT}  (hF : f_X6_supervise G V U x1 = some (r, V')) : Met l yX6_supervise (.code yX6_supervise cX6_supervise 2 (some .int) :: WM) rm_X6_supervise (PcM D ad cI cZ cP A [.ref (ad 2 16 0), .int x1] (Pic D ad cI cZ cP 0 G V U)) (QcI A r (Pic D ad cI cZ cP 0 G V' U)) 0 0 A := by
  refine m_entry (by decide) (Nat.le_of_ble_eq_true rfl) (fun p e s m below meth c ls X hP hS hl => ?_)
  have X : MX p s m _ meth c cX6_supervise RX6 2 (some .int) D ad cI cZ cP A := X
  obtain ⟨hx, hb, hml, hown, htm, hr, hlk, hE⟩ := id X
  have hl : lv_has ls 2 [(0, .ref (ad 2 16 0)), (1, .int x1)] := hl
  refine lv_aload_n hx hb dX6_supervise_0 rfl (lv_at hl 0 rfl) ?_
  refine gf_16_1 hx hb htm hown hE hP (htm _ qw_379) dX6_supervise_1 ?_
  refine lv_iload_n hx hb dX6_supervise_4 rfl (lv_at hl 1 rfl) ?_
  obtain ⟨r1, hc1, hF⟩ := ob_S hF
  refine m_cVi X hS vw_X3_hasSpec qw_426 (c_X3_hasSpec (by decide) hc1) ⟨rfl, rfl⟩ ⟨Nat.le_of_ble_eq_true rfl, Nat.le_of_ble_eq_true rfl⟩ (rc_22 hE hP) hP rfl hl.1 (rest := []) rfl (Nat.le_of_ble_eq_true rfl) dX6_supervise_5 (fun H locs hP hS => ?_)
  obtain ⟨u2, hc2, hF⟩ := ob_S hF
  refine m_cSv X hS sw_X6_checkIndex qw_397 (c_X6_checkIndex hc2) ⟨rfl, rfl⟩ ⟨Nat.le_of_ble_eq_true rfl, Nat.le_of_ble_eq_true rfl⟩ hP rfl hl.1 (rest := []) rfl (Nat.le_of_ble_eq_true rfl) dX6_supervise_8 (fun H locs hP hS => ?_)
  refine lv_aload_n hx hb dX6_supervise_11 rfl (lv_at hl 0 rfl) ?_
  refine gf_16_2 hx hb htm hown hE hP (htm _ qw_382) dX6_supervise_12 ?_
  refine gf_0_5 hx hb htm hown hE hP (by decide) (htm _ qw_447) dX6_supervise_15 ?_
  refine lv_bipush (v := 24) hx hb dX6_supervise_18 (by decide) ?_
  refine lv_icmp_ge (tgt := 27) hx hb dX6_supervise_20 (by decide) (fun c3 => ?_) (fun c3 => ?_)
  · have hF := ite_T c3 hF
    refine lv_iconst (v := 0) hx hb dX6_supervise_27 (by decide) ?_
    obtain ⟨u4, hc4, hF⟩ := ob_S hF
    refine m_cSv X hS sw_X6_checkState qw_391 (c_X6_checkState hc4) ⟨rfl, rfl⟩ ⟨Nat.le_of_ble_eq_true rfl, Nat.le_of_ble_eq_true rfl⟩ hP rfl hl.1 (rest := []) rfl (Nat.le_of_ble_eq_true rfl) dX6_supervise_28 (fun H locs hP hS => ?_)
    refine lv_aload_n hx hb dX6_supervise_31 rfl (lv_at hl 0 rfl) ?_
    refine gf_16_2 hx hb htm hown hE hP (htm _ qw_382) dX6_supervise_32 ?_
    refine lv_iload_n hx hb dX6_supervise_35 rfl (lv_at hl 1 rfl) ?_
    obtain ⟨⟨r5, V5⟩, hc5, hF⟩ := ob_S hF
    refine m_cVi X hS vw_X5_comesFromOutside qw_448 (c_X5_comesFromOutside (by decide) hc5) ⟨rfl, rfl⟩ ⟨Nat.le_of_ble_eq_true rfl, Nat.le_of_ble_eq_true rfl⟩ (rc_0 hE hP (by decide)) hP rfl hl.1 (rest := []) rfl (Nat.le_of_ble_eq_true rfl) dX6_supervise_36 (fun H locs hP hS => ?_)
    obtain ⟨e1, e2⟩ := Prod.mk.inj (Option.some.inj hF)
    subst e1
    subst e2
    exact m_iret X hS hP rfl dX6_supervise_39
  · have hF := ite_F c3 hF
    refine lv_iconst (v := 1) hx hb dX6_supervise_23 (by decide) ?_
    refine lv_goto (tgt := 28) hx hb dX6_supervise_24 (by decide) ?_
    obtain ⟨u6, hc6, hF⟩ := ob_S hF
    refine m_cSv X hS sw_X6_checkState qw_391 (c_X6_checkState hc6) ⟨rfl, rfl⟩ ⟨Nat.le_of_ble_eq_true rfl, Nat.le_of_ble_eq_true rfl⟩ hP rfl hl.1 (rest := []) rfl (Nat.le_of_ble_eq_true rfl) dX6_supervise_28 (fun H locs hP hS => ?_)
    refine lv_aload_n hx hb dX6_supervise_31 rfl (lv_at hl 0 rfl) ?_
    refine gf_16_2 hx hb htm hown hE hP (htm _ qw_382) dX6_supervise_32 ?_
    refine lv_iload_n hx hb dX6_supervise_35 rfl (lv_at hl 1 rfl) ?_
    obtain ⟨⟨r7, V7⟩, hc7, hF⟩ := ob_S hF
    refine m_cVi X hS vw_X5_comesFromOutside qw_448 (c_X5_comesFromOutside (by decide) hc7) ⟨rfl, rfl⟩ ⟨Nat.le_of_ble_eq_true rfl, Nat.le_of_ble_eq_true rfl⟩ (rc_0 hE hP (by decide)) hP rfl hl.1 (rest := []) rfl (Nat.le_of_ble_eq_true rfl) dX6_supervise_36 (fun H locs hP hS => ?_)
    obtain ⟨e1, e2⟩ := Prod.mk.inj (Option.some.inj hF)
    subst e1
    subst e2
    exact m_iret X hS hP rfl dX6_supervise_39
def f_X6_run_12 (G U : MT) : Nat → Int32 → Int32 → MT → Option (Int32 × MT)
  | 0, _, _, _ => none
  | n + 1, y1, y2, V => if y1 ≤ y2 then (some (y2, V)) else ((f_X5_doTurn G V).bind (fun q4_ => if q4_.1 = 0 then (some (y2, q4_.2)) else ((f_X6_run_12 G U n) y1 (y2 + 1) q4_.2)))
def f_X6_run (G V U : MT) (x1 : Int32) : Option (Int32 × MT) :=
  (f_X6_isWithin x1 1 50).bind (fun q1_ => (f_X6_checkArgument q1_).bind (fun _ => f_X6_run_12 G U  60 x1 0 V))
def rm_X6_run : Room := { frames := 12, cells := 0, slots := 0, locals := 328 }
set_option maxRecDepth 20000 in
set_option maxHeartbeats 4000000 in
theorem l_X6_run_12 {p : Program} {l : Launch} {e : Env} {s : State} {m : MethodId} {args : Array Value} {below : List Frame} {meth : Method} {c : Code} {D : va_G} {ad : Nat → Nat → Nat → Nat} {cI cZ cP : ClassId} {A : Nat → Prop} {G U : MT} {r : Int32} {V' : MT} (X : MX p s m args meth c cX6_run RX6 3 (some .int) D ad cI cZ cP A) (n : Nat) : ∀ {H : Heap} {locs : List Loc} {ls : Array Slot} (y1 : Int32) (y2 : Int32) (V : MT), Pic D ad cI cZ cP 0 G V U H → va_S A s.heap H locs → lv_has ls 3 [(0, .ref (ad 2 16 0)), (1, .int y1), (2, .int y2)] → f_X6_run_12 G U n y1 y2 V = some (r, V') → W p l e rm_X6_run s m args below meth c H locs 0 0 (MQ below (QcI A r (Pic D ad cI cZ cP 0 G V' U)) args s 0 0 A) (F0 m 12 ls []) := by
  obtain ⟨hx, hb, hml, hown, htm, hr, hlk, hE⟩ := id X
  induction n with
  | zero =>
    intros
    exact ns_S (by assumption)
  | succ n ih12 =>
    intro H locs ls y1 y2 V   hP hS hl hF
    rw [f_X6_run_12] at hF
    refine lv_iload_n hx hb dX6_run_12 rfl (lv_at hl 2 rfl) ?_
    refine lv_iload_n hx hb dX6_run_13 rfl (lv_at hl 1 rfl) ?_
    refine lv_icmp_ge (tgt := 33) hx hb dX6_run_14 (by decide) (fun c3 => ?_) (fun c3 => ?_)
    · have hF := ite_T c3 hF
      refine lv_iload_n hx hb dX6_run_33 rfl (lv_at hl 2 rfl) ?_
      obtain ⟨e1, e2⟩ := Prod.mk.inj (Option.some.inj hF)
      subst e1
      subst e2
      exact m_iret X hS hP rfl dX6_run_34
    · have hF := ite_F c3 hF
      refine lv_aload_n hx hb dX6_run_17 rfl (lv_at hl 0 rfl) ?_
      refine gf_16_2 hx hb htm hown hE hP (htm _ qw_382) dX6_run_18 ?_
      obtain ⟨⟨r4, V4⟩, hc4, hF⟩ := ob_S hF
      refine m_cVi X hS vw_X5_doTurn qw_452 (c_X5_doTurn (by decide) hc4) ⟨rfl, rfl⟩ ⟨Nat.le_of_ble_eq_true rfl, Nat.le_of_ble_eq_true rfl⟩ (rc_0 hE hP (by decide)) hP rfl hl.1 (rest := []) rfl (Nat.le_of_ble_eq_true rfl) dX6_run_21 (fun H locs hP hS => ?_)
      refine lv_if_eq (tgt := 33) hx hb dX6_run_24 (by decide) (fun c5 => ?_) (fun c5 => ?_)
      · have hF := ite_T c5 hF
        refine lv_iload_n hx hb dX6_run_33 rfl (lv_at hl 2 rfl) ?_
        obtain ⟨e1, e2⟩ := Prod.mk.inj (Option.some.inj hF)
        subst e1
        subst e2
        exact m_iret X hS hP rfl dX6_run_34
      · have hF := ite_F c5 hF
        refine lv_iinc (v := y2 + 1) (lv' := [(2, .int (y2 + 1)), (0, .ref (ad 2 16 0)), (1, .int y1)]) hx hb dX6_run_27 hl (k := 2) rfl rfl (by decide) rfl (fun ls hl => ?_)
        refine lv_goto (tgt := 12) hx hb dX6_run_30 (by decide) ?_
        exact ih12 _ _ _  hP hS (lv_sub hl [1, 2, 0] rfl) hF
set_option maxRecDepth 20000 in
set_option maxHeartbeats 4000000 in
theorem c_X6_run {l : Launch} {D : va_G} {ad : Nat → Nat → Nat → Nat} {cI cZ cP : ClassId} {A : Nat → Prop} {G V U : MT} {x1 : Int32} {r : Int32} {V' : MT}  (hF : f_X6_run G V U x1 = some (r, V')) : Met l yX6_run (.code yX6_run cX6_run 3 (some .int) :: WM) rm_X6_run (PcM D ad cI cZ cP A [.ref (ad 2 16 0), .int x1] (Pic D ad cI cZ cP 0 G V U)) (QcI A r (Pic D ad cI cZ cP 0 G V' U)) 0 0 A := by
  refine m_entry (by decide) (Nat.le_of_ble_eq_true rfl) (fun p e s m below meth c ls X hP hS hl => ?_)
  have X : MX p s m _ meth c cX6_run RX6 3 (some .int) D ad cI cZ cP A := X
  obtain ⟨hx, hb, hml, hown, htm, hr, hlk, hE⟩ := id X
  have hl : lv_has ls 3 [(0, .ref (ad 2 16 0)), (1, .int x1)] := hl
  refine lv_iload_n hx hb dX6_run_0 rfl (lv_at hl 1 rfl) ?_
  refine lv_iconst (v := 1) hx hb dX6_run_1 (by decide) ?_
  refine lv_bipush (v := 50) hx hb dX6_run_2 (by decide) ?_
  obtain ⟨r1, hc1, hF⟩ := ob_S hF
  refine m_cSi X hS sw_X6_isWithin qw_421 (c_X6_isWithin hc1) ⟨rfl, rfl⟩ ⟨Nat.le_of_ble_eq_true rfl, Nat.le_of_ble_eq_true rfl⟩ hP rfl hl.1 (rest := []) rfl (Nat.le_of_ble_eq_true rfl) dX6_run_4 (fun H locs hP hS => ?_)
  obtain ⟨u2, hc2, hF⟩ := ob_S hF
  refine m_cSv X hS sw_X6_checkArgument qw_406 (c_X6_checkArgument hc2) ⟨rfl, rfl⟩ ⟨Nat.le_of_ble_eq_true rfl, Nat.le_of_ble_eq_true rfl⟩ hP rfl hl.1 (rest := []) rfl (Nat.le_of_ble_eq_true rfl) dX6_run_7 (fun H locs hP hS => ?_)
  refine lv_iconst (v := 0) hx hb dX6_run_10 (by decide) ?_
  refine lv_istore_n (lv' := [(2, .int 0), (0, .ref (ad 2 16 0)), (1, .int x1)]) hx hb dX6_run_11 rfl hl (by decide) rfl (fun ls hl => ?_)
  exact l_X6_run_12 X  60 _ _ _ hP hS (lv_sub hl [1, 2, 0] rfl) hF
def f_X6_tick_14 (G U : MT) : Nat → Int32 → Int32 → Int32 → MT → Option (Int32 × MT)
  | 0, _, _, _, _ => none
  | n + 1, y1, y2, y3, V => if y1 ≤ y3 then (some (y2, V)) else ((f_X5_passTime G V).bind (fun q4_ => (f_X6_tick_14 G U n) y1 (y2 + q4_.1) (y3 + 1) q4_.2))
def f_X6_tick (G V U : MT) (x1 : Int32) : Option (Int32 × MT) :=
  (f_X6_isWithin x1 1 20).bind (fun q1_ => (f_X6_checkArgument q1_).bind (fun _ => f_X6_tick_14 G U  30 x1 0 0 V))
def rm_X6_tick : Room := { frames := 2, cells := 0, slots := 0, locals := 43 }
set_option maxRecDepth 20000 in
set_option maxHeartbeats 4000000 in
theorem l_X6_tick_14 {p : Program} {l : Launch} {e : Env} {s : State} {m : MethodId} {args : Array Value} {below : List Frame} {meth : Method} {c : Code} {D : va_G} {ad : Nat → Nat → Nat → Nat} {cI cZ cP : ClassId} {A : Nat → Prop} {G U : MT} {r : Int32} {V' : MT} (X : MX p s m args meth c cX6_tick RX6 4 (some .int) D ad cI cZ cP A) (n : Nat) : ∀ {H : Heap} {locs : List Loc} {ls : Array Slot} (y1 : Int32) (y2 : Int32) (y3 : Int32) (V : MT), Pic D ad cI cZ cP 0 G V U H → va_S A s.heap H locs → lv_has ls 4 [(0, .ref (ad 2 16 0)), (1, .int y1), (2, .int y2), (3, .int y3)] → f_X6_tick_14 G U n y1 y2 y3 V = some (r, V') → W p l e rm_X6_tick s m args below meth c H locs 0 0 (MQ below (QcI A r (Pic D ad cI cZ cP 0 G V' U)) args s 0 0 A) (F0 m 14 ls []) := by
  obtain ⟨hx, hb, hml, hown, htm, hr, hlk, hE⟩ := id X
  induction n with
  | zero =>
    intros
    exact ns_S (by assumption)
  | succ n ih14 =>
    intro H locs ls y1 y2 y3 V   hP hS hl hF
    rw [f_X6_tick_14] at hF
    refine lv_iload_n hx hb dX6_tick_14 rfl (lv_at hl 3 rfl) ?_
    refine lv_iload_n hx hb dX6_tick_15 rfl (lv_at hl 1 rfl) ?_
    refine lv_icmp_ge (tgt := 35) hx hb dX6_tick_16 (by decide) (fun c3 => ?_) (fun c3 => ?_)
    · have hF := ite_T c3 hF
      refine lv_iload_n hx hb dX6_tick_35 rfl (lv_at hl 2 rfl) ?_
      obtain ⟨e1, e2⟩ := Prod.mk.inj (Option.some.inj hF)
      subst e1
      subst e2
      exact m_iret X hS hP rfl dX6_tick_36
    · have hF := ite_F c3 hF
      refine lv_iload_n hx hb dX6_tick_19 rfl (lv_at hl 2 rfl) ?_
      refine lv_aload_n hx hb dX6_tick_20 rfl (lv_at hl 0 rfl) ?_
      refine gf_16_2 hx hb htm hown hE hP (htm _ qw_382) dX6_tick_21 ?_
      obtain ⟨⟨r4, V4⟩, hc4, hF⟩ := ob_S hF
      refine m_cVi X hS vw_X5_passTime qw_456 (c_X5_passTime (by decide) hc4) ⟨rfl, rfl⟩ ⟨Nat.le_of_ble_eq_true rfl, Nat.le_of_ble_eq_true rfl⟩ (rc_0 hE hP (by decide)) hP rfl hl.1 (rest := [.int y2]) rfl (Nat.le_of_ble_eq_true rfl) dX6_tick_24 (fun H locs hP hS => ?_)
      refine lv_iadd hx hb dX6_tick_27 ?_
      refine lv_istore_n (lv' := [(2, .int (y2 + r4)), (0, .ref (ad 2 16 0)), (1, .int y1), (3, .int y3)]) hx hb dX6_tick_28 rfl hl (by decide) rfl (fun ls hl => ?_)
      refine lv_iinc (v := y3 + 1) (lv' := [(3, .int (y3 + 1)), (2, .int (y2 + r4)), (0, .ref (ad 2 16 0)), (1, .int y1)]) hx hb dX6_tick_29 hl (k := 3) rfl rfl (by decide) rfl (fun ls hl => ?_)
      refine lv_goto (tgt := 14) hx hb dX6_tick_32 (by decide) ?_
      exact ih14 _ _ _ _  hP hS (lv_sub hl [2, 3, 1, 0] rfl) hF
set_option maxRecDepth 20000 in
set_option maxHeartbeats 4000000 in
theorem c_X6_tick {l : Launch} {D : va_G} {ad : Nat → Nat → Nat → Nat} {cI cZ cP : ClassId} {A : Nat → Prop} {G V U : MT} {x1 : Int32} {r : Int32} {V' : MT}  (hF : f_X6_tick G V U x1 = some (r, V')) : Met l yX6_tick (.code yX6_tick cX6_tick 4 (some .int) :: WM) rm_X6_tick (PcM D ad cI cZ cP A [.ref (ad 2 16 0), .int x1] (Pic D ad cI cZ cP 0 G V U)) (QcI A r (Pic D ad cI cZ cP 0 G V' U)) 0 0 A := by
  refine m_entry (by decide) (Nat.le_of_ble_eq_true rfl) (fun p e s m below meth c ls X hP hS hl => ?_)
  have X : MX p s m _ meth c cX6_tick RX6 4 (some .int) D ad cI cZ cP A := X
  obtain ⟨hx, hb, hml, hown, htm, hr, hlk, hE⟩ := id X
  have hl : lv_has ls 4 [(0, .ref (ad 2 16 0)), (1, .int x1)] := hl
  refine lv_iload_n hx hb dX6_tick_0 rfl (lv_at hl 1 rfl) ?_
  refine lv_iconst (v := 1) hx hb dX6_tick_1 (by decide) ?_
  refine lv_bipush (v := 20) hx hb dX6_tick_2 (by decide) ?_
  obtain ⟨r1, hc1, hF⟩ := ob_S hF
  refine m_cSi X hS sw_X6_isWithin qw_421 (c_X6_isWithin hc1) ⟨rfl, rfl⟩ ⟨Nat.le_of_ble_eq_true rfl, Nat.le_of_ble_eq_true rfl⟩ hP rfl hl.1 (rest := []) rfl (Nat.le_of_ble_eq_true rfl) dX6_tick_4 (fun H locs hP hS => ?_)
  obtain ⟨u2, hc2, hF⟩ := ob_S hF
  refine m_cSv X hS sw_X6_checkArgument qw_406 (c_X6_checkArgument hc2) ⟨rfl, rfl⟩ ⟨Nat.le_of_ble_eq_true rfl, Nat.le_of_ble_eq_true rfl⟩ hP rfl hl.1 (rest := []) rfl (Nat.le_of_ble_eq_true rfl) dX6_tick_7 (fun H locs hP hS => ?_)
  refine lv_iconst (v := 0) hx hb dX6_tick_10 (by decide) ?_
  refine lv_istore_n (lv' := [(2, .int 0), (0, .ref (ad 2 16 0)), (1, .int x1)]) hx hb dX6_tick_11 rfl hl (by decide) rfl (fun ls hl => ?_)
  refine lv_iconst (v := 0) hx hb dX6_tick_12 (by decide) ?_
  refine lv_istore_n (lv' := [(3, .int 0), (2, .int 0), (0, .ref (ad 2 16 0)), (1, .int x1)]) hx hb dX6_tick_13 rfl hl (by decide) rfl (fun ls hl => ?_)
  exact l_X6_tick_14 X  30 _ _ _ _ hP hS (lv_sub hl [2, 3, 1, 0] rfl) hF
def f_X6_send (G V U : MT) (x1 : Int32) (x2 : Int32) (x3 : Int32) : Option (Int32 × MT) :=
  (f_X6_checkProcess G V U x1).bind (fun q1_ => oc q1_ (none) (fun e1 => if e1 < 24 then ((f_X6_isWithin x2 0 1).bind (fun q2_ => if q2_ = 0 then ((f_X6_checkArgument 0).bind (fun _ => (f_X5_putMail G V x1 x2 x3).bind (fun q5_ => if q5_.1 = 0 ∨ q5_.1 = 1 then some (q5_.1, q5_.2) else none))) else ((f_X6_isWithin x3 (-999) 999).bind (fun q7_ => if q7_ = 0 then ((f_X6_checkArgument 0).bind (fun _ => (f_X5_putMail G V x1 x2 x3).bind (fun q10_ => if q10_.1 = 0 ∨ q10_.1 = 1 then some (q10_.1, q10_.2) else none))) else ((f_X6_checkArgument 1).bind (fun _ => (f_X5_putMail G V x1 x2 x3).bind (fun q13_ => if q13_.1 = 0 ∨ q13_.1 = 1 then some (q13_.1, q13_.2) else none))))))) else none))
def rm_X6_send : Room := { frames := 2, cells := 0, slots := 0, locals := 46 }
set_option maxRecDepth 20000 in
set_option maxHeartbeats 4000000 in
theorem c_X6_send {l : Launch} {D : va_G} {ad : Nat → Nat → Nat → Nat} {cI cZ cP : ClassId} {A : Nat → Prop} {G V U : MT} {x1 : Int32} {x2 : Int32} {x3 : Int32} {r : Int32} {V' : MT}  (hF : f_X6_send G V U x1 x2 x3 = some (r, V')) : Met l yX6_send (.code yX6_send cX6_send 4 (some .boolean) :: WM) rm_X6_send (PcM D ad cI cZ cP A [.ref (ad 2 16 0), .int x1, .int x2, .int x3] (Pic D ad cI cZ cP 0 G V U)) (QcI A r (Pic D ad cI cZ cP 0 G V' U)) 0 0 A := by
  refine m_entry (by decide) (Nat.le_of_ble_eq_true rfl) (fun p e s m below meth c ls X hP hS hl => ?_)
  have X : MX p s m _ meth c cX6_send RX6 4 (some .boolean) D ad cI cZ cP A := X
  obtain ⟨hx, hb, hml, hown, htm, hr, hlk, hE⟩ := id X
  have hl : lv_has ls 4 [(0, .ref (ad 2 16 0)), (1, .int x1), (2, .int x2), (3, .int x3)] := hl
  refine lv_aload_n hx hb dX6_send_0 rfl (lv_at hl 0 rfl) ?_
  refine lv_iload_n hx hb dX6_send_1 rfl (lv_at hl 1 rfl) ?_
  obtain ⟨r1, hc1, hF⟩ := ob_S hF
  refine m_cVq X hS vw_X6_checkProcess qw_462 (c_X6_checkProcess hc1) ⟨rfl, rfl⟩ ⟨Nat.le_of_ble_eq_true rfl, Nat.le_of_ble_eq_true rfl⟩ (rc_16 hE hP) hP rfl hl.1 (rest := []) rfl (Nat.le_of_ble_eq_true rfl) dX6_send_2 (fun H locs hP hS => ?_)
  rcases r1 with _ | e1
  · have hF := oc_N hF
    exact ns_S hF
  · obtain ⟨he1, hF⟩ := ite_S (oc_J hF)
    refine lv_pop hx hb dX6_send_5 rfl ?_
    refine lv_iload_n hx hb dX6_send_6 rfl (lv_at hl 2 rfl) ?_
    refine lv_iconst (v := 0) hx hb dX6_send_7 (by decide) ?_
    refine lv_iconst (v := 1) hx hb dX6_send_8 (by decide) ?_
    obtain ⟨r2, hc2, hF⟩ := ob_S hF
    refine m_cSi X hS sw_X6_isWithin qw_421 (c_X6_isWithin hc2) ⟨rfl, rfl⟩ ⟨Nat.le_of_ble_eq_true rfl, Nat.le_of_ble_eq_true rfl⟩ hP rfl hl.1 (rest := []) rfl (Nat.le_of_ble_eq_true rfl) dX6_send_9 (fun H locs hP hS => ?_)
    refine lv_if_eq (tgt := 32) hx hb dX6_send_12 (by decide) (fun c3 => ?_) (fun c3 => ?_)
    · have hF := ite_T c3 hF
      refine lv_iconst (v := 0) hx hb dX6_send_32 (by decide) ?_
      obtain ⟨u4, hc4, hF⟩ := ob_S hF
      refine m_cSv X hS sw_X6_checkArgument qw_406 (c_X6_checkArgument hc4) ⟨rfl, rfl⟩ ⟨Nat.le_of_ble_eq_true rfl, Nat.le_of_ble_eq_true rfl⟩ hP rfl hl.1 (rest := []) rfl (Nat.le_of_ble_eq_true rfl) dX6_send_33 (fun H locs hP hS => ?_)
      refine lv_aload_n hx hb dX6_send_36 rfl (lv_at hl 0 rfl) ?_
      refine gf_16_2 hx hb htm hown hE hP (htm _ qw_382) dX6_send_37 ?_
      refine lv_iload_n hx hb dX6_send_40 rfl (lv_at hl 1 rfl) ?_
      refine lv_iload_n hx hb dX6_send_41 rfl (lv_at hl 2 rfl) ?_
      refine lv_iload_n hx hb dX6_send_42 rfl (lv_at hl 3 rfl) ?_
      obtain ⟨⟨r5, V5⟩, hc5, hF⟩ := ob_S hF
      refine m_cVi X hS vw_X5_putMail qw_465 (c_X5_putMail (by decide) hc5) ⟨rfl, rfl⟩ ⟨Nat.le_of_ble_eq_true rfl, Nat.le_of_ble_eq_true rfl⟩ (rc_0 hE hP (by decide)) hP rfl hl.1 (rest := []) rfl (Nat.le_of_ble_eq_true rfl) dX6_send_43 (fun H locs hP hS => ?_)
      obtain ⟨hz6, hF⟩ := ite_S hF
      obtain ⟨e1, e2⟩ := Prod.mk.inj (Option.some.inj hF)
      subst e1
      subst e2
      exact m_zret X hS hP rfl hz6 dX6_send_46
    · have hF := ite_F c3 hF
      refine lv_iload_n hx hb dX6_send_15 rfl (lv_at hl 3 rfl) ?_
      refine lv_sipush (v := (-999)) hx hb dX6_send_16 (by decide) ?_
      refine lv_sipush (v := 999) hx hb dX6_send_19 (by decide) ?_
      obtain ⟨r7, hc7, hF⟩ := ob_S hF
      refine m_cSi X hS sw_X6_isWithin qw_421 (c_X6_isWithin hc7) ⟨rfl, rfl⟩ ⟨Nat.le_of_ble_eq_true rfl, Nat.le_of_ble_eq_true rfl⟩ hP rfl hl.1 (rest := []) rfl (Nat.le_of_ble_eq_true rfl) dX6_send_22 (fun H locs hP hS => ?_)
      refine lv_if_eq (tgt := 32) hx hb dX6_send_25 (by decide) (fun c8 => ?_) (fun c8 => ?_)
      · have hF := ite_T c8 hF
        refine lv_iconst (v := 0) hx hb dX6_send_32 (by decide) ?_
        obtain ⟨u9, hc9, hF⟩ := ob_S hF
        refine m_cSv X hS sw_X6_checkArgument qw_406 (c_X6_checkArgument hc9) ⟨rfl, rfl⟩ ⟨Nat.le_of_ble_eq_true rfl, Nat.le_of_ble_eq_true rfl⟩ hP rfl hl.1 (rest := []) rfl (Nat.le_of_ble_eq_true rfl) dX6_send_33 (fun H locs hP hS => ?_)
        refine lv_aload_n hx hb dX6_send_36 rfl (lv_at hl 0 rfl) ?_
        refine gf_16_2 hx hb htm hown hE hP (htm _ qw_382) dX6_send_37 ?_
        refine lv_iload_n hx hb dX6_send_40 rfl (lv_at hl 1 rfl) ?_
        refine lv_iload_n hx hb dX6_send_41 rfl (lv_at hl 2 rfl) ?_
        refine lv_iload_n hx hb dX6_send_42 rfl (lv_at hl 3 rfl) ?_
        obtain ⟨⟨r10, V10⟩, hc10, hF⟩ := ob_S hF
        refine m_cVi X hS vw_X5_putMail qw_465 (c_X5_putMail (by decide) hc10) ⟨rfl, rfl⟩ ⟨Nat.le_of_ble_eq_true rfl, Nat.le_of_ble_eq_true rfl⟩ (rc_0 hE hP (by decide)) hP rfl hl.1 (rest := []) rfl (Nat.le_of_ble_eq_true rfl) dX6_send_43 (fun H locs hP hS => ?_)
        obtain ⟨hz11, hF⟩ := ite_S hF
        obtain ⟨e1, e2⟩ := Prod.mk.inj (Option.some.inj hF)
        subst e1
        subst e2
        exact m_zret X hS hP rfl hz11 dX6_send_46
      · have hF := ite_F c8 hF
        refine lv_iconst (v := 1) hx hb dX6_send_28 (by decide) ?_
        refine lv_goto (tgt := 33) hx hb dX6_send_29 (by decide) ?_
        obtain ⟨u12, hc12, hF⟩ := ob_S hF
        refine m_cSv X hS sw_X6_checkArgument qw_406 (c_X6_checkArgument hc12) ⟨rfl, rfl⟩ ⟨Nat.le_of_ble_eq_true rfl, Nat.le_of_ble_eq_true rfl⟩ hP rfl hl.1 (rest := []) rfl (Nat.le_of_ble_eq_true rfl) dX6_send_33 (fun H locs hP hS => ?_)
        refine lv_aload_n hx hb dX6_send_36 rfl (lv_at hl 0 rfl) ?_
        refine gf_16_2 hx hb htm hown hE hP (htm _ qw_382) dX6_send_37 ?_
        refine lv_iload_n hx hb dX6_send_40 rfl (lv_at hl 1 rfl) ?_
        refine lv_iload_n hx hb dX6_send_41 rfl (lv_at hl 2 rfl) ?_
        refine lv_iload_n hx hb dX6_send_42 rfl (lv_at hl 3 rfl) ?_
        obtain ⟨⟨r13, V13⟩, hc13, hF⟩ := ob_S hF
        refine m_cVi X hS vw_X5_putMail qw_465 (c_X5_putMail (by decide) hc13) ⟨rfl, rfl⟩ ⟨Nat.le_of_ble_eq_true rfl, Nat.le_of_ble_eq_true rfl⟩ (rc_0 hE hP (by decide)) hP rfl hl.1 (rest := []) rfl (Nat.le_of_ble_eq_true rfl) dX6_send_43 (fun H locs hP hS => ?_)
        obtain ⟨hz14, hF⟩ := ite_S hF
        obtain ⟨e1, e2⟩ := Prod.mk.inj (Option.some.inj hF)
        subst e1
        subst e2
        exact m_zret X hS hP rfl hz14 dX6_send_46
def f_X6_signal (G V U : MT) (x1 : Int32) (x2 : Int32) : Option (Int32 × MT) :=
  (f_X6_checkProcess G V U x1).bind (fun q1_ => oc q1_ (none) (fun e1 => if e1 < 24 then ((f_X6_isWithin x2 0 9).bind (fun q2_ => (f_X6_checkArgument q2_).bind (fun _ => (f_X5_signalTo G V x1 x1 x2).bind (fun q4_ => (f_X5_settle G q4_).bind (fun q5_ => some ((q5_ 0 0 12) - (V 0 0 12), q5_)))))) else none))
def rm_X6_signal : Room := { frames := 11, cells := 0, slots := 0, locals := 304 }
set_option maxRecDepth 20000 in
set_option maxHeartbeats 4000000 in
theorem c_X6_signal {l : Launch} {D : va_G} {ad : Nat → Nat → Nat → Nat} {cI cZ cP : ClassId} {A : Nat → Prop} {G V U : MT} {x1 : Int32} {x2 : Int32} {r : Int32} {V' : MT}  (hF : f_X6_signal G V U x1 x2 = some (r, V')) : Met l yX6_signal (.code yX6_signal cX6_signal 4 (some .int) :: WM) rm_X6_signal (PcM D ad cI cZ cP A [.ref (ad 2 16 0), .int x1, .int x2] (Pic D ad cI cZ cP 0 G V U)) (QcI A r (Pic D ad cI cZ cP 0 G V' U)) 0 0 A := by
  refine m_entry (by decide) (Nat.le_of_ble_eq_true rfl) (fun p e s m below meth c ls X hP hS hl => ?_)
  have X : MX p s m _ meth c cX6_signal RX6 4 (some .int) D ad cI cZ cP A := X
  obtain ⟨hx, hb, hml, hown, htm, hr, hlk, hE⟩ := id X
  have hl : lv_has ls 4 [(0, .ref (ad 2 16 0)), (1, .int x1), (2, .int x2)] := hl
  refine lv_aload_n hx hb dX6_signal_0 rfl (lv_at hl 0 rfl) ?_
  refine lv_iload_n hx hb dX6_signal_1 rfl (lv_at hl 1 rfl) ?_
  obtain ⟨r1, hc1, hF⟩ := ob_S hF
  refine m_cVq X hS vw_X6_checkProcess qw_462 (c_X6_checkProcess hc1) ⟨rfl, rfl⟩ ⟨Nat.le_of_ble_eq_true rfl, Nat.le_of_ble_eq_true rfl⟩ (rc_16 hE hP) hP rfl hl.1 (rest := []) rfl (Nat.le_of_ble_eq_true rfl) dX6_signal_2 (fun H locs hP hS => ?_)
  rcases r1 with _ | e1
  · have hF := oc_N hF
    exact ns_S hF
  · obtain ⟨he1, hF⟩ := ite_S (oc_J hF)
    refine lv_pop hx hb dX6_signal_5 rfl ?_
    refine lv_iload_n hx hb dX6_signal_6 rfl (lv_at hl 2 rfl) ?_
    refine lv_iconst (v := 0) hx hb dX6_signal_7 (by decide) ?_
    refine lv_bipush (v := 9) hx hb dX6_signal_8 (by decide) ?_
    obtain ⟨r2, hc2, hF⟩ := ob_S hF
    refine m_cSi X hS sw_X6_isWithin qw_421 (c_X6_isWithin hc2) ⟨rfl, rfl⟩ ⟨Nat.le_of_ble_eq_true rfl, Nat.le_of_ble_eq_true rfl⟩ hP rfl hl.1 (rest := []) rfl (Nat.le_of_ble_eq_true rfl) dX6_signal_10 (fun H locs hP hS => ?_)
    obtain ⟨u3, hc3, hF⟩ := ob_S hF
    refine m_cSv X hS sw_X6_checkArgument qw_406 (c_X6_checkArgument hc3) ⟨rfl, rfl⟩ ⟨Nat.le_of_ble_eq_true rfl, Nat.le_of_ble_eq_true rfl⟩ hP rfl hl.1 (rest := []) rfl (Nat.le_of_ble_eq_true rfl) dX6_signal_13 (fun H locs hP hS => ?_)
    refine lv_aload_n hx hb dX6_signal_16 rfl (lv_at hl 0 rfl) ?_
    refine gf_16_2 hx hb htm hown hE hP (htm _ qw_382) dX6_signal_17 ?_
    refine gf_0_12 hx hb htm hown hE hP (by decide) (htm _ qw_415) dX6_signal_20 ?_
    refine lv_istore_n (lv' := [(3, .int (V 0 0 12)), (0, .ref (ad 2 16 0)), (1, .int x1), (2, .int x2)]) hx hb dX6_signal_23 rfl hl (by decide) rfl (fun ls hl => ?_)
    refine lv_aload_n hx hb dX6_signal_24 rfl (lv_at hl 1 rfl) ?_
    refine gf_16_2 hx hb htm hown hE hP (htm _ qw_382) dX6_signal_25 ?_
    refine lv_iload_n hx hb dX6_signal_28 rfl (lv_at hl 2 rfl) ?_
    refine lv_iload_n hx hb dX6_signal_29 rfl (lv_at hl 2 rfl) ?_
    refine lv_iload_n hx hb dX6_signal_30 rfl (lv_at hl 3 rfl) ?_
    obtain ⟨V4, hc4, hF⟩ := ob_S hF
    refine m_cVv X hS vw_X5_signalTo qw_467 (c_X5_signalTo (by decide) hc4) ⟨rfl, rfl⟩ ⟨Nat.le_of_ble_eq_true rfl, Nat.le_of_ble_eq_true rfl⟩ (rc_0 hE hP (by decide)) hP rfl hl.1 (rest := []) rfl (Nat.le_of_ble_eq_true rfl) dX6_signal_31 (fun H locs hP hS => ?_)
    refine lv_aload_n hx hb dX6_signal_34 rfl (lv_at hl 1 rfl) ?_
    refine gf_16_2 hx hb htm hown hE hP (htm _ qw_382) dX6_signal_35 ?_
    obtain ⟨V5, hc5, hF⟩ := ob_S hF
    refine m_cVv X hS vw_X5_settle qw_468 (c_X5_settle (by decide) hc5) ⟨rfl, rfl⟩ ⟨Nat.le_of_ble_eq_true rfl, Nat.le_of_ble_eq_true rfl⟩ (rc_0 hE hP (by decide)) hP rfl hl.1 (rest := []) rfl (Nat.le_of_ble_eq_true rfl) dX6_signal_38 (fun H locs hP hS => ?_)
    refine lv_aload_n hx hb dX6_signal_41 rfl (lv_at hl 1 rfl) ?_
    refine gf_16_2 hx hb htm hown hE hP (htm _ qw_382) dX6_signal_42 ?_
    refine gf_0_12 hx hb htm hown hE hP (by decide) (htm _ qw_415) dX6_signal_45 ?_
    refine lv_iload_n hx hb dX6_signal_48 rfl (lv_at hl 0 rfl) ?_
    refine lv_isub hx hb dX6_signal_49 ?_
    obtain ⟨e1, e2⟩ := Prod.mk.inj (Option.some.inj hF)
    subst e1
    subst e2
    exact m_iret X hS hP rfl dX6_signal_50
def f_X6_ofProcess (G V U : MT) (x1 : Int32) (x2 : Int32) : Option (Int32) :=
  (f_X6_checkProcess G V U x1).bind (fun q1_ => oc q1_ (none) (fun e1 => if e1 < 24 then ((f_X6_isWithin x2 0 12).bind (fun q2_ => (f_X6_checkArgument q2_).bind (fun _ => if x2 = 0 then (some (V 7 e1 1)) else (if x2 = 1 then (some (V 7 e1 2)) else (if x2 = 2 then (some (V 7 e1 5)) else (if x2 = 3 then (some (V 7 e1 6)) else (if x2 = 4 then ((f_X5_placeInRow G V e1).bind (fun q9_ => some q9_)) else (if x2 = 5 then (some (V 7 e1 7)) else (if x2 = 6 then (some (V 7 e1 8)) else (if x2 = 7 then (some (V 7 e1 9)) else (if x2 = 8 then (some (V 10 e1 2)) else (if x2 = 9 then (some (V 7 e1 13)) else (if x2 = 10 then (if V 7 e1 12 = 0 then (some 0) else (some 1)) else (if x2 = 11 then (if V 7 e1 5 = 2 then (some (-1)) else (some (V 7 e1 4))) else ((f_X5_watchesOf G V e1).bind (fun q19_ => some q19_)))))))))))))))) else none))
def rm_X6_ofProcess : Room := { frames := 2, cells := 0, slots := 0, locals := 44 }
set_option maxRecDepth 20000 in
set_option maxHeartbeats 4000000 in
theorem c_X6_ofProcess {l : Launch} {D : va_G} {ad : Nat → Nat → Nat → Nat} {cI cZ cP : ClassId} {A : Nat → Prop} {G V U : MT} {x1 : Int32} {x2 : Int32} {r : Int32}  (hF : f_X6_ofProcess G V U x1 x2 = some r) : Met l yX6_ofProcess (.code yX6_ofProcess cX6_ofProcess 4 (some .int) :: WM) rm_X6_ofProcess (PcM D ad cI cZ cP A [.ref (ad 2 16 0), .int x1, .int x2] (Pic D ad cI cZ cP 0 G V U)) (QcI A r (Pic D ad cI cZ cP 0 G V U)) 0 0 A := by
  refine m_entry (by decide) (Nat.le_of_ble_eq_true rfl) (fun p e s m below meth c ls X hP hS hl => ?_)
  have X : MX p s m _ meth c cX6_ofProcess RX6 4 (some .int) D ad cI cZ cP A := X
  obtain ⟨hx, hb, hml, hown, htm, hr, hlk, hE⟩ := id X
  have hl : lv_has ls 4 [(0, .ref (ad 2 16 0)), (1, .int x1), (2, .int x2)] := hl
  refine lv_aload_n hx hb dX6_ofProcess_0 rfl (lv_at hl 0 rfl) ?_
  refine lv_iload_n hx hb dX6_ofProcess_1 rfl (lv_at hl 1 rfl) ?_
  obtain ⟨r1, hc1, hF⟩ := ob_S hF
  refine m_cVq X hS vw_X6_checkProcess qw_462 (c_X6_checkProcess hc1) ⟨rfl, rfl⟩ ⟨Nat.le_of_ble_eq_true rfl, Nat.le_of_ble_eq_true rfl⟩ (rc_16 hE hP) hP rfl hl.1 (rest := []) rfl (Nat.le_of_ble_eq_true rfl) dX6_ofProcess_2 (fun H locs hP hS => ?_)
  rcases r1 with _ | e1
  · have hF := oc_N hF
    exact ns_S hF
  · obtain ⟨he1, hF⟩ := ite_S (oc_J hF)
    refine lv_astore_n (lv' := [(3, .ref (ad 0 7 e1)), (0, .ref (ad 2 16 0)), (1, .int x1), (2, .int x2)]) hx hb dX6_ofProcess_5 rfl hl (by decide) rfl (fun ls hl => ?_)
    refine lv_iload_n hx hb dX6_ofProcess_6 rfl (lv_at hl 3 rfl) ?_
    refine lv_iconst (v := 0) hx hb dX6_ofProcess_7 (by decide) ?_
    refine lv_bipush (v := 12) hx hb dX6_ofProcess_8 (by decide) ?_
    obtain ⟨r2, hc2, hF⟩ := ob_S hF
    refine m_cSi X hS sw_X6_isWithin qw_421 (c_X6_isWithin hc2) ⟨rfl, rfl⟩ ⟨Nat.le_of_ble_eq_true rfl, Nat.le_of_ble_eq_true rfl⟩ hP rfl hl.1 (rest := []) rfl (Nat.le_of_ble_eq_true rfl) dX6_ofProcess_10 (fun H locs hP hS => ?_)
    obtain ⟨u3, hc3, hF⟩ := ob_S hF
    refine m_cSv X hS sw_X6_checkArgument qw_406 (c_X6_checkArgument hc3) ⟨rfl, rfl⟩ ⟨Nat.le_of_ble_eq_true rfl, Nat.le_of_ble_eq_true rfl⟩ hP rfl hl.1 (rest := []) rfl (Nat.le_of_ble_eq_true rfl) dX6_ofProcess_13 (fun H locs hP hS => ?_)
    refine lv_iload_n hx hb dX6_ofProcess_16 rfl (lv_at hl 3 rfl) ?_
    by_cases c4 : x2 = 0
    · have hF := ite_T c4 hF
      refine lv_tableIn (off := 63) (tgt := 80) hx hb dX6_ofProcess_17 (by rw [c4]; decide) (by rw [c4]; decide) (by rw [c4]; rfl) (by decide) ?_
      refine lv_aload_n hx hb dX6_ofProcess_80 rfl (lv_at hl 0 rfl) ?_
      refine gf_7_1 hx hb htm hown hE hP (by decide) he1 (htm _ qw_470) dX6_ofProcess_81 ?_
      have e1 := Option.some.inj hF
      subst e1
      exact m_iret X hS hP rfl dX6_ofProcess_84
    have hF := ite_F c4 hF
    by_cases c5 : x2 = 1
    · have hF := ite_T c5 hF
      refine lv_tableIn (off := 68) (tgt := 85) hx hb dX6_ofProcess_17 (by rw [c5]; decide) (by rw [c5]; decide) (by rw [c5]; rfl) (by decide) ?_
      refine lv_aload_n hx hb dX6_ofProcess_85 rfl (lv_at hl 0 rfl) ?_
      refine gf_7_2 hx hb htm hown hE hP (by decide) he1 (htm _ qw_471) dX6_ofProcess_86 ?_
      have e1 := Option.some.inj hF
      subst e1
      exact m_iret X hS hP rfl dX6_ofProcess_89
    have hF := ite_F c5 hF
    by_cases c6 : x2 = 2
    · have hF := ite_T c6 hF
      refine lv_tableIn (off := 73) (tgt := 90) hx hb dX6_ofProcess_17 (by rw [c6]; decide) (by rw [c6]; decide) (by rw [c6]; rfl) (by decide) ?_
      refine lv_aload_n hx hb dX6_ofProcess_90 rfl (lv_at hl 0 rfl) ?_
      refine gf_7_5 hx hb htm hown hE hP (by decide) he1 (htm _ qw_472) dX6_ofProcess_91 ?_
      have e1 := Option.some.inj hF
      subst e1
      exact m_iret X hS hP rfl dX6_ofProcess_94
    have hF := ite_F c6 hF
    by_cases c7 : x2 = 3
    · have hF := ite_T c7 hF
      refine lv_tableIn (off := 78) (tgt := 95) hx hb dX6_ofProcess_17 (by rw [c7]; decide) (by rw [c7]; decide) (by rw [c7]; rfl) (by decide) ?_
      refine lv_aload_n hx hb dX6_ofProcess_95 rfl (lv_at hl 0 rfl) ?_
      refine gf_7_6 hx hb htm hown hE hP (by decide) he1 (htm _ qw_473) dX6_ofProcess_96 ?_
      have e1 := Option.some.inj hF
      subst e1
      exact m_iret X hS hP rfl dX6_ofProcess_99
    have hF := ite_F c7 hF
    by_cases c8 : x2 = 4
    · have hF := ite_T c8 hF
      refine lv_tableIn (off := 83) (tgt := 100) hx hb dX6_ofProcess_17 (by rw [c8]; decide) (by rw [c8]; decide) (by rw [c8]; rfl) (by decide) ?_
      refine lv_aload_n hx hb dX6_ofProcess_100 rfl (lv_at hl 1 rfl) ?_
      refine gf_16_2 hx hb htm hown hE hP (htm _ qw_382) dX6_ofProcess_101 ?_
      refine lv_aload_n hx hb dX6_ofProcess_104 rfl (lv_at hl 0 rfl) ?_
      obtain ⟨r9, hc9, hF⟩ := ob_S hF
      refine m_cVi X hS vw_X5_placeInRow qw_482 (c_X5_placeInRow (by decide) he1 hc9) ⟨rfl, rfl⟩ ⟨Nat.le_of_ble_eq_true rfl, Nat.le_of_ble_eq_true rfl⟩ (rc_0 hE hP (by decide)) hP rfl hl.1 (rest := []) rfl (Nat.le_of_ble_eq_true rfl) dX6_ofProcess_105 (fun H locs hP hS => ?_)
      have e1 := Option.some.inj hF
      subst e1
      exact m_iret X hS hP rfl dX6_ofProcess_108
    have hF := ite_F c8 hF
    by_cases c10 : x2 = 5
    · have hF := ite_T c10 hF
      refine lv_tableIn (off := 92) (tgt := 109) hx hb dX6_ofProcess_17 (by rw [c10]; decide) (by rw [c10]; decide) (by rw [c10]; rfl) (by decide) ?_
      refine lv_aload_n hx hb dX6_ofProcess_109 rfl (lv_at hl 0 rfl) ?_
      refine gf_7_7 hx hb htm hown hE hP (by decide) he1 (htm _ qw_474) dX6_ofProcess_110 ?_
      have e1 := Option.some.inj hF
      subst e1
      exact m_iret X hS hP rfl dX6_ofProcess_113
    have hF := ite_F c10 hF
    by_cases c11 : x2 = 6
    · have hF := ite_T c11 hF
      refine lv_tableIn (off := 97) (tgt := 114) hx hb dX6_ofProcess_17 (by rw [c11]; decide) (by rw [c11]; decide) (by rw [c11]; rfl) (by decide) ?_
      refine lv_aload_n hx hb dX6_ofProcess_114 rfl (lv_at hl 0 rfl) ?_
      refine gf_7_8 hx hb htm hown hE hP (by decide) he1 (htm _ qw_475) dX6_ofProcess_115 ?_
      have e1 := Option.some.inj hF
      subst e1
      exact m_iret X hS hP rfl dX6_ofProcess_118
    have hF := ite_F c11 hF
    by_cases c12 : x2 = 7
    · have hF := ite_T c12 hF
      refine lv_tableIn (off := 102) (tgt := 119) hx hb dX6_ofProcess_17 (by rw [c12]; decide) (by rw [c12]; decide) (by rw [c12]; rfl) (by decide) ?_
      refine lv_aload_n hx hb dX6_ofProcess_119 rfl (lv_at hl 0 rfl) ?_
      refine gf_7_9 hx hb htm hown hE hP (by decide) he1 (htm _ qw_476) dX6_ofProcess_120 ?_
      have e1 := Option.some.inj hF
      subst e1
      exact m_iret X hS hP rfl dX6_ofProcess_123
    have hF := ite_F c12 hF
    by_cases c13 : x2 = 8
    · have hF := ite_T c13 hF
      refine lv_tableIn (off := 107) (tgt := 124) hx hb dX6_ofProcess_17 (by rw [c13]; decide) (by rw [c13]; decide) (by rw [c13]; rfl) (by decide) ?_
      refine lv_aload_n hx hb dX6_ofProcess_124 rfl (lv_at hl 0 rfl) ?_
      refine gf_7_17 hx hb htm hown hE hP (by decide) he1 (htm _ qw_477) dX6_ofProcess_125 ?_
      refine gf_10_2 hx hb htm hown hE hP (by decide) he1 (htm _ qw_478) dX6_ofProcess_128 ?_
      have e1 := Option.some.inj hF
      subst e1
      exact m_iret X hS hP rfl dX6_ofProcess_131
    have hF := ite_F c13 hF
    by_cases c14 : x2 = 9
    · have hF := ite_T c14 hF
      refine lv_tableIn (off := 115) (tgt := 132) hx hb dX6_ofProcess_17 (by rw [c14]; decide) (by rw [c14]; decide) (by rw [c14]; rfl) (by decide) ?_
      refine lv_aload_n hx hb dX6_ofProcess_132 rfl (lv_at hl 0 rfl) ?_
      refine gf_7_13 hx hb htm hown hE hP (by decide) he1 (htm _ qw_479) dX6_ofProcess_133 ?_
      have e1 := Option.some.inj hF
      subst e1
      exact m_iret X hS hP rfl dX6_ofProcess_136
    have hF := ite_F c14 hF
    by_cases c15 : x2 = 10
    · have hF := ite_T c15 hF
      refine lv_tableIn (off := 120) (tgt := 137) hx hb dX6_ofProcess_17 (by rw [c15]; decide) (by rw [c15]; decide) (by rw [c15]; rfl) (by decide) ?_
      refine lv_aload_n hx hb dX6_ofProcess_137 rfl (lv_at hl 0 rfl) ?_
      refine gf_7_12 hx hb htm hown hE hP (by decide) he1 (htm _ qw_480) dX6_ofProcess_138 ?_
      refine lv_if_eq (tgt := 148) hx hb dX6_ofProcess_141 (by decide) (fun c16 => ?_) (fun c16 => ?_)
      · have hF := ite_T c16 hF
        refine lv_iconst (v := 0) hx hb dX6_ofProcess_148 (by decide) ?_
        have e1 := Option.some.inj hF
        subst e1
        exact m_iret X hS hP rfl dX6_ofProcess_149
      · have hF := ite_F c16 hF
        refine lv_iconst (v := 1) hx hb dX6_ofProcess_144 (by decide) ?_
        refine lv_goto (tgt := 149) hx hb dX6_ofProcess_145 (by decide) ?_
        have e1 := Option.some.inj hF
        subst e1
        exact m_iret X hS hP rfl dX6_ofProcess_149
    have hF := ite_F c15 hF
    by_cases c17 : x2 = 11
    · have hF := ite_T c17 hF
      refine lv_tableIn (off := 133) (tgt := 150) hx hb dX6_ofProcess_17 (by rw [c17]; decide) (by rw [c17]; decide) (by rw [c17]; rfl) (by decide) ?_
      refine lv_aload_n hx hb dX6_ofProcess_150 rfl (lv_at hl 0 rfl) ?_
      refine gf_7_5 hx hb htm hown hE hP (by decide) he1 (htm _ qw_472) dX6_ofProcess_151 ?_
      refine lv_iconst (v := 2) hx hb dX6_ofProcess_154 (by decide) ?_
      refine lv_icmp_ne (tgt := 162) hx hb dX6_ofProcess_155 (by decide) (fun c18 => ?_) (fun c18 => ?_)
      · have hF := ite_F c18 hF
        refine lv_aload_n hx hb dX6_ofProcess_162 rfl (lv_at hl 0 rfl) ?_
        refine gf_7_4 hx hb htm hown hE hP (by decide) he1 (htm _ qw_481) dX6_ofProcess_163 ?_
        have e1 := Option.some.inj hF
        subst e1
        exact m_iret X hS hP rfl dX6_ofProcess_166
      · have hF := ite_T c18 hF
        refine lv_iconst (v := (-1)) hx hb dX6_ofProcess_158 (by decide) ?_
        refine lv_goto (tgt := 166) hx hb dX6_ofProcess_159 (by decide) ?_
        have e1 := Option.some.inj hF
        subst e1
        exact m_iret X hS hP rfl dX6_ofProcess_166
    have hF := ite_F c17 hF
    refine lv_tableOut (tgt := 167) hx hb dX6_ofProcess_17 (by have hc4 := lv_neT c4 (a := 0) rfl; have hc5 := lv_neT c5 (a := 1) rfl; have hc6 := lv_neT c6 (a := 2) rfl; have hc7 := lv_neT c7 (a := 3) rfl; have hc8 := lv_neT c8 (a := 4) rfl; have hc10 := lv_neT c10 (a := 5) rfl; have hc11 := lv_neT c11 (a := 6) rfl; have hc12 := lv_neT c12 (a := 7) rfl; have hc13 := lv_neT c13 (a := 8) rfl; have hc14 := lv_neT c14 (a := 9) rfl; have hc15 := lv_neT c15 (a := 10) rfl; have hc17 := lv_neT c17 (a := 11) rfl; omega) (by decide) ?_
    refine lv_aload_n hx hb dX6_ofProcess_167 rfl (lv_at hl 1 rfl) ?_
    refine gf_16_2 hx hb htm hown hE hP (htm _ qw_382) dX6_ofProcess_168 ?_
    refine lv_aload_n hx hb dX6_ofProcess_171 rfl (lv_at hl 0 rfl) ?_
    obtain ⟨r19, hc19, hF⟩ := ob_S hF
    refine m_cVi X hS vw_X5_watchesOf qw_485 (c_X5_watchesOf (by decide) he1 hc19) ⟨rfl, rfl⟩ ⟨Nat.le_of_ble_eq_true rfl, Nat.le_of_ble_eq_true rfl⟩ (rc_0 hE hP (by decide)) hP rfl hl.1 (rest := []) rfl (Nat.le_of_ble_eq_true rfl) dX6_ofProcess_172 (fun H locs hP hS => ?_)
    have e1 := Option.some.inj hF
    subst e1
    exact m_iret X hS hP rfl dX6_ofProcess_175
