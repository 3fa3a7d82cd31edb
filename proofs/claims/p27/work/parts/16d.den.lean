theorem vw_X6_wouldFall : VW RX6 yX6_wouldFall cX6_wouldFall 3 (some .int) 2 := ⟨qw_546, qw_547, qw_12, qw_527, ⟨rfl, by decide, by decide, by decide +kernel⟩⟩
theorem vw_X6_wouldPurge : VW RX6 yX6_wouldPurge cX6_wouldPurge 2 (some .int) 1 := ⟨qw_560, qw_561, qw_12, qw_528, ⟨rfl, by decide, by decide, by decide +kernel⟩⟩
theorem vw_X6_overBy : VW RX6 yX6_overBy cX6_overBy 5 (some .int) 2 := ⟨qw_569, qw_570, qw_12, qw_529, ⟨rfl, by decide, by decide, by decide +kernel⟩⟩
def f_X6_wouldFall (G V U : MT) (x1 : Int32) (x2 : Int32) : Option (Int32 × MT) :=
  (f_X6_checkProcess G V U x1).bind (fun q1_ => oc q1_ (none) (fun e1 => if e1 < 24 then ((f_X6_isWithin x2 0 9).bind (fun q2_ => (f_X6_checkArgument q2_).bind (fun _ => (f_X5_copyFrom U V).bind (fun q4_ => (f_X5_signalTo G q4_ x1 x1 x2).bind (fun q5_ => (f_X5_settle G q5_).bind (fun q6_ => (f_X5_endedBehind G q6_ (V 0 0 12)).bind (fun q7_ => some (q7_, q6_)))))))) else none))
def rm_X6_wouldFall : Room := { frames := 11, cells := 0, slots := 0, locals := 304 }
set_option maxRecDepth 20000 in
set_option maxHeartbeats 4000000 in
theorem c_X6_wouldFall {l : Launch} {D : va_G} {ad : Nat → Nat → Nat → Nat} {cI cZ cP : ClassId} {A : Nat → Prop} {G V U : MT} {x1 : Int32} {x2 : Int32} {r : Int32} {U' : MT}  (hF : f_X6_wouldFall G V U x1 x2 = some (r, U')) : Met l yX6_wouldFall (.code yX6_wouldFall cX6_wouldFall 3 (some .int) :: WM) rm_X6_wouldFall (PcM D ad cI cZ cP A [.ref (ad 2 16 0), .int x1, .int x2] (Pic D ad cI cZ cP 0 G V U)) (QcI A r (Pic D ad cI cZ cP 0 G V U')) 0 0 A := by
  refine m_entry (by decide) (Nat.le_of_ble_eq_true rfl) (fun p e s m below meth c ls X hP hS hl => ?_)
  have X : MX p s m _ meth c cX6_wouldFall RX6 3 (some .int) D ad cI cZ cP A := X
  obtain ⟨hx, hb, hml, hown, htm, hr, hlk, hE⟩ := id X
  have hl : lv_has ls 3 [(0, .ref (ad 2 16 0)), (1, .int x1), (2, .int x2)] := hl
  refine lv_aload_n hx hb dX6_wouldFall_0 rfl (lv_at hl 0 rfl) ?_
  refine lv_iload_n hx hb dX6_wouldFall_1 rfl (lv_at hl 1 rfl) ?_
  obtain ⟨r1, hc1, hF⟩ := ob_S hF
  refine m_cVq X hS vw_X6_checkProcess qw_462 (c_X6_checkProcess hc1) ⟨rfl, rfl⟩ ⟨Nat.le_of_ble_eq_true rfl, Nat.le_of_ble_eq_true rfl⟩ (rc_16 hE hP) hP rfl hl.1 (rest := []) rfl (Nat.le_of_ble_eq_true rfl) dX6_wouldFall_2 (fun H locs hP hS => ?_)
  rcases r1 with _ | e1
  · have hF := oc_N hF
    exact ns_S hF
  · obtain ⟨he1, hF⟩ := ite_S (oc_J hF)
    refine lv_pop hx hb dX6_wouldFall_5 rfl ?_
    refine lv_iload_n hx hb dX6_wouldFall_6 rfl (lv_at hl 2 rfl) ?_
    refine lv_iconst (v := 0) hx hb dX6_wouldFall_7 (by decide) ?_
    refine lv_bipush (v := 9) hx hb dX6_wouldFall_8 (by decide) ?_
    obtain ⟨r2, hc2, hF⟩ := ob_S hF
    refine m_cSi X hS sw_X6_isWithin qw_421 (c_X6_isWithin hc2) ⟨rfl, rfl⟩ ⟨Nat.le_of_ble_eq_true rfl, Nat.le_of_ble_eq_true rfl⟩ hP rfl hl.1 (rest := []) rfl (Nat.le_of_ble_eq_true rfl) dX6_wouldFall_10 (fun H locs hP hS => ?_)
    obtain ⟨u3, hc3, hF⟩ := ob_S hF
    refine m_cSv X hS sw_X6_checkArgument qw_406 (c_X6_checkArgument hc3) ⟨rfl, rfl⟩ ⟨Nat.le_of_ble_eq_true rfl, Nat.le_of_ble_eq_true rfl⟩ hP rfl hl.1 (rest := []) rfl (Nat.le_of_ble_eq_true rfl) dX6_wouldFall_13 (fun H locs hP hS => ?_)
    refine lv_aload_n hx hb dX6_wouldFall_16 rfl (lv_at hl 0 rfl) ?_
    refine gf_16_3 hx hb htm hown hE hP (htm _ qw_383) dX6_wouldFall_17 ?_
    refine lv_aload_n hx hb dX6_wouldFall_20 rfl (lv_at hl 0 rfl) ?_
    refine gf_16_2 hx hb htm hown hE hP (htm _ qw_382) dX6_wouldFall_21 ?_
    obtain ⟨V4, hc4, hF⟩ := ob_S hF
    refine m_cVv X hS vw_X5_copyFrom qw_521 (c_X5_copyFrom (by decide) (by decide) (by decide) hc4) ⟨rfl, rfl⟩ ⟨Nat.le_of_ble_eq_true rfl, Nat.le_of_ble_eq_true rfl⟩ (rc_0 hE (hP.swap (w' := 1) rfl) (by decide)) (hP.swap (w' := 1) rfl) rfl hl.1 (rest := []) rfl (Nat.le_of_ble_eq_true rfl) dX6_wouldFall_24 (fun H locs hP hS => ?_)
    have hP := hP.swap (w' := 0) rfl
    refine lv_aload_n hx hb dX6_wouldFall_27 rfl (lv_at hl 0 rfl) ?_
    refine gf_16_3 hx hb htm hown hE hP (htm _ qw_383) dX6_wouldFall_28 ?_
    refine lv_iload_n hx hb dX6_wouldFall_31 rfl (lv_at hl 1 rfl) ?_
    refine lv_iload_n hx hb dX6_wouldFall_32 rfl (lv_at hl 1 rfl) ?_
    refine lv_iload_n hx hb dX6_wouldFall_33 rfl (lv_at hl 2 rfl) ?_
    obtain ⟨V5, hc5, hF⟩ := ob_S hF
    refine m_cVv X hS vw_X5_signalTo qw_467 (c_X5_signalTo (by decide) hc5) ⟨rfl, rfl⟩ ⟨Nat.le_of_ble_eq_true rfl, Nat.le_of_ble_eq_true rfl⟩ (rc_0 hE (hP.swap (w' := 1) rfl) (by decide)) (hP.swap (w' := 1) rfl) rfl hl.1 (rest := []) rfl (Nat.le_of_ble_eq_true rfl) dX6_wouldFall_34 (fun H locs hP hS => ?_)
    have hP := hP.swap (w' := 0) rfl
    refine lv_aload_n hx hb dX6_wouldFall_37 rfl (lv_at hl 0 rfl) ?_
    refine gf_16_3 hx hb htm hown hE hP (htm _ qw_383) dX6_wouldFall_38 ?_
    obtain ⟨V6, hc6, hF⟩ := ob_S hF
    refine m_cVv X hS vw_X5_settle qw_468 (c_X5_settle (by decide) hc6) ⟨rfl, rfl⟩ ⟨Nat.le_of_ble_eq_true rfl, Nat.le_of_ble_eq_true rfl⟩ (rc_0 hE (hP.swap (w' := 1) rfl) (by decide)) (hP.swap (w' := 1) rfl) rfl hl.1 (rest := []) rfl (Nat.le_of_ble_eq_true rfl) dX6_wouldFall_41 (fun H locs hP hS => ?_)
    have hP := hP.swap (w' := 0) rfl
    refine lv_aload_n hx hb dX6_wouldFall_44 rfl (lv_at hl 0 rfl) ?_
    refine gf_16_3 hx hb htm hown hE hP (htm _ qw_383) dX6_wouldFall_45 ?_
    refine lv_aload_n hx hb dX6_wouldFall_48 rfl (lv_at hl 0 rfl) ?_
    refine gf_16_2 hx hb htm hown hE hP (htm _ qw_382) dX6_wouldFall_49 ?_
    refine gf_0_12 hx hb htm hown hE hP (by decide) (htm _ qw_415) dX6_wouldFall_52 ?_
    obtain ⟨r7, hc7, hF⟩ := ob_S hF
    refine m_cVi X hS vw_X5_endedBehind qw_524 (c_X5_endedBehind (by decide) hc7) ⟨rfl, rfl⟩ ⟨Nat.le_of_ble_eq_true rfl, Nat.le_of_ble_eq_true rfl⟩ (rc_0 hE (hP.swap (w' := 1) rfl) (by decide)) (hP.swap (w' := 1) rfl) rfl hl.1 (rest := []) rfl (Nat.le_of_ble_eq_true rfl) dX6_wouldFall_55 (fun H locs hP hS => ?_)
    have hP := hP.swap (w' := 0) rfl
    obtain ⟨e1, e2⟩ := Prod.mk.inj (Option.some.inj hF)
    subst e1
    subst e2
    exact m_iret X hS hP rfl dX6_wouldFall_58
def f_X6_wouldPurge (G V U : MT) (x1 : Int32) : Option (Int32 × MT) :=
  (f_X1_hasModule G x1).bind (fun q1_ => (f_X6_checkIndex q1_).bind (fun _ => (f_X5_copyFrom U V).bind (fun q3_ => (f_X5_loadModule G q3_ x1).bind (fun q4_ => (f_X5_endedBehind G q4_ (V 0 0 12)).bind (fun q5_ => some (q5_, q4_))))))
def rm_X6_wouldPurge : Room := { frames := 12, cells := 0, slots := 0, locals := 328 }
set_option maxRecDepth 20000 in
set_option maxHeartbeats 4000000 in
theorem c_X6_wouldPurge {l : Launch} {D : va_G} {ad : Nat → Nat → Nat → Nat} {cI cZ cP : ClassId} {A : Nat → Prop} {G V U : MT} {x1 : Int32} {r : Int32} {U' : MT}  (hF : f_X6_wouldPurge G V U x1 = some (r, U')) : Met l yX6_wouldPurge (.code yX6_wouldPurge cX6_wouldPurge 2 (some .int) :: WM) rm_X6_wouldPurge (PcM D ad cI cZ cP A [.ref (ad 2 16 0), .int x1] (Pic D ad cI cZ cP 0 G V U)) (QcI A r (Pic D ad cI cZ cP 0 G V U')) 0 0 A := by
  refine m_entry (by decide) (Nat.le_of_ble_eq_true rfl) (fun p e s m below meth c ls X hP hS hl => ?_)
  have X : MX p s m _ meth c cX6_wouldPurge RX6 2 (some .int) D ad cI cZ cP A := X
  obtain ⟨hx, hb, hml, hown, htm, hr, hlk, hE⟩ := id X
  have hl : lv_has ls 2 [(0, .ref (ad 2 16 0)), (1, .int x1)] := hl
  refine lv_aload_n hx hb dX6_wouldPurge_0 rfl (lv_at hl 0 rfl) ?_
  refine gf_16_0 hx hb htm hown hE hP (htm _ qw_376) dX6_wouldPurge_1 ?_
  refine lv_iload_n hx hb dX6_wouldPurge_4 rfl (lv_at hl 1 rfl) ?_
  obtain ⟨r1, hc1, hF⟩ := ob_S hF
  refine m_cVi X hS vw_X1_hasModule qw_396 (c_X1_hasModule (by decide) hc1) ⟨rfl, rfl⟩ ⟨Nat.le_of_ble_eq_true rfl, Nat.le_of_ble_eq_true rfl⟩ (rc_17 hE hP) hP rfl hl.1 (rest := []) rfl (Nat.le_of_ble_eq_true rfl) dX6_wouldPurge_5 (fun H locs hP hS => ?_)
  obtain ⟨u2, hc2, hF⟩ := ob_S hF
  refine m_cSv X hS sw_X6_checkIndex qw_397 (c_X6_checkIndex hc2) ⟨rfl, rfl⟩ ⟨Nat.le_of_ble_eq_true rfl, Nat.le_of_ble_eq_true rfl⟩ hP rfl hl.1 (rest := []) rfl (Nat.le_of_ble_eq_true rfl) dX6_wouldPurge_8 (fun H locs hP hS => ?_)
  refine lv_aload_n hx hb dX6_wouldPurge_11 rfl (lv_at hl 0 rfl) ?_
  refine gf_16_3 hx hb htm hown hE hP (htm _ qw_383) dX6_wouldPurge_12 ?_
  refine lv_aload_n hx hb dX6_wouldPurge_15 rfl (lv_at hl 0 rfl) ?_
  refine gf_16_2 hx hb htm hown hE hP (htm _ qw_382) dX6_wouldPurge_16 ?_
  obtain ⟨V3, hc3, hF⟩ := ob_S hF
  refine m_cVv X hS vw_X5_copyFrom qw_521 (c_X5_copyFrom (by decide) (by decide) (by decide) hc3) ⟨rfl, rfl⟩ ⟨Nat.le_of_ble_eq_true rfl, Nat.le_of_ble_eq_true rfl⟩ (rc_0 hE (hP.swap (w' := 1) rfl) (by decide)) (hP.swap (w' := 1) rfl) rfl hl.1 (rest := []) rfl (Nat.le_of_ble_eq_true rfl) dX6_wouldPurge_19 (fun H locs hP hS => ?_)
  have hP := hP.swap (w' := 0) rfl
  refine lv_aload_n hx hb dX6_wouldPurge_22 rfl (lv_at hl 0 rfl) ?_
  refine gf_16_3 hx hb htm hown hE hP (htm _ qw_383) dX6_wouldPurge_23 ?_
  refine lv_iload_n hx hb dX6_wouldPurge_26 rfl (lv_at hl 1 rfl) ?_
  obtain ⟨V4, hc4, hF⟩ := ob_S hF
  refine m_cVv X hS vw_X5_loadModule qw_416 (c_X5_loadModule (by decide) hc4) ⟨rfl, rfl⟩ ⟨Nat.le_of_ble_eq_true rfl, Nat.le_of_ble_eq_true rfl⟩ (rc_0 hE (hP.swap (w' := 1) rfl) (by decide)) (hP.swap (w' := 1) rfl) rfl hl.1 (rest := []) rfl (Nat.le_of_ble_eq_true rfl) dX6_wouldPurge_27 (fun H locs hP hS => ?_)
  have hP := hP.swap (w' := 0) rfl
  refine lv_aload_n hx hb dX6_wouldPurge_30 rfl (lv_at hl 0 rfl) ?_
  refine gf_16_3 hx hb htm hown hE hP (htm _ qw_383) dX6_wouldPurge_31 ?_
  refine lv_aload_n hx hb dX6_wouldPurge_34 rfl (lv_at hl 0 rfl) ?_
  refine gf_16_2 hx hb htm hown hE hP (htm _ qw_382) dX6_wouldPurge_35 ?_
  refine gf_0_12 hx hb htm hown hE hP (by decide) (htm _ qw_415) dX6_wouldPurge_38 ?_
  obtain ⟨r5, hc5, hF⟩ := ob_S hF
  refine m_cVi X hS vw_X5_endedBehind qw_524 (c_X5_endedBehind (by decide) hc5) ⟨rfl, rfl⟩ ⟨Nat.le_of_ble_eq_true rfl, Nat.le_of_ble_eq_true rfl⟩ (rc_0 hE (hP.swap (w' := 1) rfl) (by decide)) (hP.swap (w' := 1) rfl) rfl hl.1 (rest := []) rfl (Nat.le_of_ble_eq_true rfl) dX6_wouldPurge_41 (fun H locs hP hS => ?_)
  have hP := hP.swap (w' := 0) rfl
  obtain ⟨e1, e2⟩ := Prod.mk.inj (Option.some.inj hF)
  subst e1
  subst e2
  exact m_iret X hS hP rfl dX6_wouldPurge_44
def f_X6_overBy_57 (G V : MT) (k41 : Int32 → Int32 → Int32 → MT → Option (Int32 × MT)) : Nat → Int32 → Int32 → Int32 → Int32 → MT → Option (Int32 × MT)
  | 0, _, _, _, _, _ => none
  | n + 1, y1, y2, y3, y4, U => if y2 ≤ y4 then (k41 y1 y2 (y3 + 1) U) else ((f_X5_doTurn G U).bind (fun q8_ => if q8_.1 = 0 then (k41 y1 y2 (y3 + 1) q8_.2) else ((f_X6_overBy_57 G V k41 n) y1 y2 y3 (y4 + 1) q8_.2)))
def f_X6_overBy_41 (G V : MT) : Nat → Int32 → Int32 → Int32 → MT → Option (Int32 × MT)
  | 0, _, _, _, _ => none
  | n + 1, y1, y2, y3, U => if y1 ≤ y3 then (some (U 0 0 12, U)) else ((f_X5_passTime G U).bind (fun q6_ => f_X6_overBy_57 G V (f_X6_overBy_41 G V n) 60 y1 y2 y3 0 q6_.2))
def f_X6_overBy (G V U : MT) (x1 : Int32) (x2 : Int32) : Option (Int32 × MT) :=
  (f_X6_isWithin x1 1 20).bind (fun q1_ => if q1_ = 0 then ((f_X6_checkArgument 0).bind (fun _ => (f_X5_copyFrom U V).bind (fun q4_ => f_X6_overBy_41 G V  60 x1 x2 0 q4_))) else ((f_X6_isWithin x2 1 50).bind (fun q10_ => if q10_ = 0 then ((f_X6_checkArgument 0).bind (fun _ => (f_X5_copyFrom U V).bind (fun q13_ => f_X6_overBy_41 G V  60 x1 x2 0 q13_))) else ((f_X6_checkArgument 1).bind (fun _ => (f_X5_copyFrom U V).bind (fun q15_ => f_X6_overBy_41 G V  60 x1 x2 0 q15_))))))
def rm_X6_overBy : Room := { frames := 12, cells := 0, slots := 0, locals := 328 }
set_option maxRecDepth 20000 in
set_option maxHeartbeats 4000000 in
theorem l_X6_overBy_57 {p : Program} {l : Launch} {e : Env} {s : State} {m : MethodId} {args : Array Value} {below : List Frame} {meth : Method} {c : Code} {D : va_G} {ad : Nat → Nat → Nat → Nat} {cI cZ cP : ClassId} {A : Nat → Prop} {G V : MT} {r : Int32} {U' : MT} (X : MX p s m args meth c cX6_overBy RX6 5 (some .int) D ad cI cZ cP A) (k41 : Int32 → Int32 → Int32 → MT → Option (Int32 × MT)) (ih41 : ∀ {H : Heap} {locs : List Loc} {ls : Array Slot} (y1 : Int32) (y2 : Int32) (y3 : Int32) (U : MT), Pic D ad cI cZ cP 0 G V U H → va_S A s.heap H locs → lv_has ls 5 [(0, .ref (ad 2 16 0)), (1, .int y1), (2, .int y2), (3, .int y3)] → k41 y1 y2 y3 U = some (r, U') → W p l e rm_X6_overBy s m args below meth c H locs 0 0 (MQ below (QcI A r (Pic D ad cI cZ cP 0 G V U')) args s 0 0 A) (F0 m 41 ls [])) (n : Nat) : ∀ {H : Heap} {locs : List Loc} {ls : Array Slot} (y1 : Int32) (y2 : Int32) (y3 : Int32) (y4 : Int32) (U : MT), Pic D ad cI cZ cP 0 G V U H → va_S A s.heap H locs → lv_has ls 5 [(0, .ref (ad 2 16 0)), (1, .int y1), (2, .int y2), (3, .int y3), (4, .int y4)] → f_X6_overBy_57 G V k41 n y1 y2 y3 y4 U = some (r, U') → W p l e rm_X6_overBy s m args below meth c H locs 0 0 (MQ below (QcI A r (Pic D ad cI cZ cP 0 G V U')) args s 0 0 A) (F0 m 57 ls []) := by
  obtain ⟨hx, hb, hml, hown, htm, hr, hlk, hE⟩ := id X
  induction n with
  | zero =>
    intros
    exact ns_S (by assumption)
  | succ n ih57 =>
    intro H locs ls y1 y2 y3 y4 U   hP hS hl hF
    rw [f_X6_overBy_57] at hF
    refine lv_iload hx hb dX6_overBy_57 (lv_at hl 4 rfl) ?_
    refine lv_iload_n hx hb dX6_overBy_59 rfl (lv_at hl 2 rfl) ?_
    refine lv_icmp_ge (tgt := 79) hx hb dX6_overBy_60 (by decide) (fun c7 => ?_) (fun c7 => ?_)
    · have hF := ite_T c7 hF
      refine lv_iinc (v := y3 + 1) (lv' := [(3, .int (y3 + 1)), (0, .ref (ad 2 16 0)), (1, .int y1), (2, .int y2), (4, .int y4)]) hx hb dX6_overBy_79 hl (k := 3) rfl rfl (by decide) rfl (fun ls hl => ?_)
      refine lv_goto (tgt := 41) hx hb dX6_overBy_82 (by decide) ?_
      exact ih41 _ _ _ _  hP hS (lv_sub hl [1, 2, 3, 0] rfl) hF
    · have hF := ite_F c7 hF
      refine lv_aload_n hx hb dX6_overBy_63 rfl (lv_at hl 0 rfl) ?_
      refine gf_16_3 hx hb htm hown hE hP (htm _ qw_383) dX6_overBy_64 ?_
      obtain ⟨⟨r8, V8⟩, hc8, hF⟩ := ob_S hF
      refine m_cVi X hS vw_X5_doTurn qw_452 (c_X5_doTurn (by decide) hc8) ⟨rfl, rfl⟩ ⟨Nat.le_of_ble_eq_true rfl, Nat.le_of_ble_eq_true rfl⟩ (rc_0 hE (hP.swap (w' := 1) rfl) (by decide)) (hP.swap (w' := 1) rfl) rfl hl.1 (rest := []) rfl (Nat.le_of_ble_eq_true rfl) dX6_overBy_67 (fun H locs hP hS => ?_)
      have hP := hP.swap (w' := 0) rfl
      refine lv_if_eq (tgt := 79) hx hb dX6_overBy_70 (by decide) (fun c9 => ?_) (fun c9 => ?_)
      · have hF := ite_T c9 hF
        refine lv_iinc (v := y3 + 1) (lv' := [(3, .int (y3 + 1)), (0, .ref (ad 2 16 0)), (1, .int y1), (2, .int y2), (4, .int y4)]) hx hb dX6_overBy_79 hl (k := 3) rfl rfl (by decide) rfl (fun ls hl => ?_)
        refine lv_goto (tgt := 41) hx hb dX6_overBy_82 (by decide) ?_
        exact ih41 _ _ _ _  hP hS (lv_sub hl [1, 2, 3, 0] rfl) hF
      · have hF := ite_F c9 hF
        refine lv_iinc (v := y4 + 1) (lv' := [(4, .int (y4 + 1)), (0, .ref (ad 2 16 0)), (1, .int y1), (2, .int y2), (3, .int y3)]) hx hb dX6_overBy_73 hl (k := 4) rfl rfl (by decide) rfl (fun ls hl => ?_)
        refine lv_goto (tgt := 57) hx hb dX6_overBy_76 (by decide) ?_
        exact ih57 _ _ _ _ _  hP hS (lv_sub hl [1, 2, 3, 4, 0] rfl) hF
set_option maxRecDepth 20000 in
set_option maxHeartbeats 4000000 in
theorem l_X6_overBy_41 {p : Program} {l : Launch} {e : Env} {s : State} {m : MethodId} {args : Array Value} {below : List Frame} {meth : Method} {c : Code} {D : va_G} {ad : Nat → Nat → Nat → Nat} {cI cZ cP : ClassId} {A : Nat → Prop} {G V : MT} {r : Int32} {U' : MT} (X : MX p s m args meth c cX6_overBy RX6 5 (some .int) D ad cI cZ cP A) (n : Nat) : ∀ {H : Heap} {locs : List Loc} {ls : Array Slot} (y1 : Int32) (y2 : Int32) (y3 : Int32) (U : MT), Pic D ad cI cZ cP 0 G V U H → va_S A s.heap H locs → lv_has ls 5 [(0, .ref (ad 2 16 0)), (1, .int y1), (2, .int y2), (3, .int y3)] → f_X6_overBy_41 G V n y1 y2 y3 U = some (r, U') → W p l e rm_X6_overBy s m args below meth c H locs 0 0 (MQ below (QcI A r (Pic D ad cI cZ cP 0 G V U')) args s 0 0 A) (F0 m 41 ls []) := by
  obtain ⟨hx, hb, hml, hown, htm, hr, hlk, hE⟩ := id X
  induction n with
  | zero =>
    intros
    exact ns_S (by assumption)
  | succ n ih41 =>
    intro H locs ls y1 y2 y3 U   hP hS hl hF
    rw [f_X6_overBy_41] at hF
    refine lv_iload_n hx hb dX6_overBy_41 rfl (lv_at hl 3 rfl) ?_
    refine lv_iload_n hx hb dX6_overBy_42 rfl (lv_at hl 1 rfl) ?_
    refine lv_icmp_ge (tgt := 85) hx hb dX6_overBy_43 (by decide) (fun c5 => ?_) (fun c5 => ?_)
    · have hF := ite_T c5 hF
      refine lv_aload_n hx hb dX6_overBy_85 rfl (lv_at hl 0 rfl) ?_
      refine gf_16_3 hx hb htm hown hE hP (htm _ qw_383) dX6_overBy_86 ?_
      refine gf_0_12 hx hb htm hown hE (hP.swap (w' := 1) rfl) (by decide) (htm _ qw_415) dX6_overBy_89 ?_
      obtain ⟨e1, e2⟩ := Prod.mk.inj (Option.some.inj hF)
      subst e1
      subst e2
      exact m_iret X hS hP rfl dX6_overBy_92
    · have hF := ite_F c5 hF
      refine lv_aload_n hx hb dX6_overBy_46 rfl (lv_at hl 0 rfl) ?_
      refine gf_16_3 hx hb htm hown hE hP (htm _ qw_383) dX6_overBy_47 ?_
      obtain ⟨⟨r6, V6⟩, hc6, hF⟩ := ob_S hF
      refine m_cVi X hS vw_X5_passTime qw_456 (c_X5_passTime (by decide) hc6) ⟨rfl, rfl⟩ ⟨Nat.le_of_ble_eq_true rfl, Nat.le_of_ble_eq_true rfl⟩ (rc_0 hE (hP.swap (w' := 1) rfl) (by decide)) (hP.swap (w' := 1) rfl) rfl hl.1 (rest := []) rfl (Nat.le_of_ble_eq_true rfl) dX6_overBy_50 (fun H locs hP hS => ?_)
      have hP := hP.swap (w' := 0) rfl
      refine lv_pop hx hb dX6_overBy_53 rfl ?_
      refine lv_iconst (v := 0) hx hb dX6_overBy_54 (by decide) ?_
      refine lv_istore (lv' := [(4, .int 0), (0, .ref (ad 2 16 0)), (1, .int y1), (2, .int y2), (3, .int y3)]) hx hb dX6_overBy_55 hl (by decide) rfl (fun ls hl => ?_)
      exact l_X6_overBy_57 X (f_X6_overBy_41 G V n) ih41 60 _ _ _ _ _ hP hS (lv_sub hl [1, 2, 3, 4, 0] rfl) hF
set_option maxRecDepth 20000 in
set_option maxHeartbeats 4000000 in
theorem c_X6_overBy {l : Launch} {D : va_G} {ad : Nat → Nat → Nat → Nat} {cI cZ cP : ClassId} {A : Nat → Prop} {G V U : MT} {x1 : Int32} {x2 : Int32} {r : Int32} {U' : MT}  (hF : f_X6_overBy G V U x1 x2 = some (r, U')) : Met l yX6_overBy (.code yX6_overBy cX6_overBy 5 (some .int) :: WM) rm_X6_overBy (PcM D ad cI cZ cP A [.ref (ad 2 16 0), .int x1, .int x2] (Pic D ad cI cZ cP 0 G V U)) (QcI A r (Pic D ad cI cZ cP 0 G V U')) 0 0 A := by
  refine m_entry (by decide) (Nat.le_of_ble_eq_true rfl) (fun p e s m below meth c ls X hP hS hl => ?_)
  have X : MX p s m _ meth c cX6_overBy RX6 5 (some .int) D ad cI cZ cP A := X
  obtain ⟨hx, hb, hml, hown, htm, hr, hlk, hE⟩ := id X
  have hl : lv_has ls 5 [(0, .ref (ad 2 16 0)), (1, .int x1), (2, .int x2)] := hl
  refine lv_iload_n hx hb dX6_overBy_0 rfl (lv_at hl 1 rfl) ?_
  refine lv_iconst (v := 1) hx hb dX6_overBy_1 (by decide) ?_
  refine lv_bipush (v := 20) hx hb dX6_overBy_2 (by decide) ?_
  obtain ⟨r1, hc1, hF⟩ := ob_S hF
  refine m_cSi X hS sw_X6_isWithin qw_421 (c_X6_isWithin hc1) ⟨rfl, rfl⟩ ⟨Nat.le_of_ble_eq_true rfl, Nat.le_of_ble_eq_true rfl⟩ hP rfl hl.1 (rest := []) rfl (Nat.le_of_ble_eq_true rfl) dX6_overBy_4 (fun H locs hP hS => ?_)
  refine lv_if_eq (tgt := 24) hx hb dX6_overBy_7 (by decide) (fun c2 => ?_) (fun c2 => ?_)
  · have hF := ite_T c2 hF
    refine lv_iconst (v := 0) hx hb dX6_overBy_24 (by decide) ?_
    obtain ⟨u3, hc3, hF⟩ := ob_S hF
    refine m_cSv X hS sw_X6_checkArgument qw_406 (c_X6_checkArgument hc3) ⟨rfl, rfl⟩ ⟨Nat.le_of_ble_eq_true rfl, Nat.le_of_ble_eq_true rfl⟩ hP rfl hl.1 (rest := []) rfl (Nat.le_of_ble_eq_true rfl) dX6_overBy_25 (fun H locs hP hS => ?_)
    refine lv_aload_n hx hb dX6_overBy_28 rfl (lv_at hl 0 rfl) ?_
    refine gf_16_3 hx hb htm hown hE hP (htm _ qw_383) dX6_overBy_29 ?_
    refine lv_aload_n hx hb dX6_overBy_32 rfl (lv_at hl 0 rfl) ?_
    refine gf_16_2 hx hb htm hown hE hP (htm _ qw_382) dX6_overBy_33 ?_
    obtain ⟨V4, hc4, hF⟩ := ob_S hF
    refine m_cVv X hS vw_X5_copyFrom qw_521 (c_X5_copyFrom (by decide) (by decide) (by decide) hc4) ⟨rfl, rfl⟩ ⟨Nat.le_of_ble_eq_true rfl, Nat.le_of_ble_eq_true rfl⟩ (rc_0 hE (hP.swap (w' := 1) rfl) (by decide)) (hP.swap (w' := 1) rfl) rfl hl.1 (rest := []) rfl (Nat.le_of_ble_eq_true rfl) dX6_overBy_36 (fun H locs hP hS => ?_)
    have hP := hP.swap (w' := 0) rfl
    refine lv_iconst (v := 0) hx hb dX6_overBy_39 (by decide) ?_
    refine lv_istore_n (lv' := [(3, .int 0), (0, .ref (ad 2 16 0)), (1, .int x1), (2, .int x2)]) hx hb dX6_overBy_40 rfl hl (by decide) rfl (fun ls hl => ?_)
    exact l_X6_overBy_41 X  60 _ _ _ _ hP hS (lv_sub hl [1, 2, 3, 0] rfl) hF
  · have hF := ite_F c2 hF
    refine lv_iload_n hx hb dX6_overBy_10 rfl (lv_at hl 2 rfl) ?_
    refine lv_iconst (v := 1) hx hb dX6_overBy_11 (by decide) ?_
    refine lv_bipush (v := 50) hx hb dX6_overBy_12 (by decide) ?_
    obtain ⟨r10, hc10, hF⟩ := ob_S hF
    refine m_cSi X hS sw_X6_isWithin qw_421 (c_X6_isWithin hc10) ⟨rfl, rfl⟩ ⟨Nat.le_of_ble_eq_true rfl, Nat.le_of_ble_eq_true rfl⟩ hP rfl hl.1 (rest := []) rfl (Nat.le_of_ble_eq_true rfl) dX6_overBy_14 (fun H locs hP hS => ?_)
    refine lv_if_eq (tgt := 24) hx hb dX6_overBy_17 (by decide) (fun c11 => ?_) (fun c11 => ?_)
    · have hF := ite_T c11 hF
      refine lv_iconst (v := 0) hx hb dX6_overBy_24 (by decide) ?_
      obtain ⟨u12, hc12, hF⟩ := ob_S hF
      refine m_cSv X hS sw_X6_checkArgument qw_406 (c_X6_checkArgument hc12) ⟨rfl, rfl⟩ ⟨Nat.le_of_ble_eq_true rfl, Nat.le_of_ble_eq_true rfl⟩ hP rfl hl.1 (rest := []) rfl (Nat.le_of_ble_eq_true rfl) dX6_overBy_25 (fun H locs hP hS => ?_)
      refine lv_aload_n hx hb dX6_overBy_28 rfl (lv_at hl 0 rfl) ?_
      refine gf_16_3 hx hb htm hown hE hP (htm _ qw_383) dX6_overBy_29 ?_
      refine lv_aload_n hx hb dX6_overBy_32 rfl (lv_at hl 0 rfl) ?_
      refine gf_16_2 hx hb htm hown hE hP (htm _ qw_382) dX6_overBy_33 ?_
      obtain ⟨V13, hc13, hF⟩ := ob_S hF
      refine m_cVv X hS vw_X5_copyFrom qw_521 (c_X5_copyFrom (by decide) (by decide) (by decide) hc13) ⟨rfl, rfl⟩ ⟨Nat.le_of_ble_eq_true rfl, Nat.le_of_ble_eq_true rfl⟩ (rc_0 hE (hP.swap (w' := 1) rfl) (by decide)) (hP.swap (w' := 1) rfl) rfl hl.1 (rest := []) rfl (Nat.le_of_ble_eq_true rfl) dX6_overBy_36 (fun H locs hP hS => ?_)
      have hP := hP.swap (w' := 0) rfl
      refine lv_iconst (v := 0) hx hb dX6_overBy_39 (by decide) ?_
      refine lv_istore_n (lv' := [(3, .int 0), (0, .ref (ad 2 16 0)), (1, .int x1), (2, .int x2)]) hx hb dX6_overBy_40 rfl hl (by decide) rfl (fun ls hl => ?_)
      exact l_X6_overBy_41 X  60 _ _ _ _ hP hS (lv_sub hl [1, 2, 3, 0] rfl) hF
    · have hF := ite_F c11 hF
      refine lv_iconst (v := 1) hx hb dX6_overBy_20 (by decide) ?_
      refine lv_goto (tgt := 25) hx hb dX6_overBy_21 (by decide) ?_
      obtain ⟨u14, hc14, hF⟩ := ob_S hF
      refine m_cSv X hS sw_X6_checkArgument qw_406 (c_X6_checkArgument hc14) ⟨rfl, rfl⟩ ⟨Nat.le_of_ble_eq_true rfl, Nat.le_of_ble_eq_true rfl⟩ hP rfl hl.1 (rest := []) rfl (Nat.le_of_ble_eq_true rfl) dX6_overBy_25 (fun H locs hP hS => ?_)
      refine lv_aload_n hx hb dX6_overBy_28 rfl (lv_at hl 0 rfl) ?_
      refine gf_16_3 hx hb htm hown hE hP (htm _ qw_383) dX6_overBy_29 ?_
      refine lv_aload_n hx hb dX6_overBy_32 rfl (lv_at hl 0 rfl) ?_
      refine gf_16_2 hx hb htm hown hE hP (htm _ qw_382) dX6_overBy_33 ?_
      obtain ⟨V15, hc15, hF⟩ := ob_S hF
      refine m_cVv X hS vw_X5_copyFrom qw_521 (c_X5_copyFrom (by decide) (by decide) (by decide) hc15) ⟨rfl, rfl⟩ ⟨Nat.le_of_ble_eq_true rfl, Nat.le_of_ble_eq_true rfl⟩ (rc_0 hE (hP.swap (w' := 1) rfl) (by decide)) (hP.swap (w' := 1) rfl) rfl hl.1 (rest := []) rfl (Nat.le_of_ble_eq_true rfl) dX6_overBy_36 (fun H locs hP hS => ?_)
      have hP := hP.swap (w' := 0) rfl
      refine lv_iconst (v := 0) hx hb dX6_overBy_39 (by decide) ?_
      refine lv_istore_n (lv' := [(3, .int 0), (0, .ref (ad 2 16 0)), (1, .int x1), (2, .int x2)]) hx hb dX6_overBy_40 rfl hl (by decide) rfl (fun ls hl => ?_)
      exact l_X6_overBy_41 X  60 _ _ _ _ hP hS (lv_sub hl [1, 2, 3, 0] rfl) hF
