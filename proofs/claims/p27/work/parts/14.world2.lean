theorem vw_X5_firstReady : VW RX5 yX5_firstReady cX5_firstReady 4 (some (.object "MailDen$Proc")) 0 := ⟨qw_339, qw_340, qw_203, qw_295, ⟨rfl, by decide, by decide, by decide +kernel⟩⟩
theorem vw_X5_placeInRow : VW RX5 yX5_placeInRow cX5_placeInRow 4 (some .int) 1 := ⟨qw_483, qw_484, qw_203, qw_356, ⟨rfl, by decide, by decide, by decide +kernel⟩⟩
theorem vw_X5_watchesOf : VW RX5 yX5_watchesOf cX5_watchesOf 4 (some .int) 1 := ⟨qw_486, qw_487, qw_203, qw_357, ⟨rfl, by decide, by decide, by decide +kernel⟩⟩
theorem vw_X5_runners : VW RX5 yX5_runners cX5_runners 7 (some .int) 3 := ⟨qw_438, qw_439, qw_203, qw_358, ⟨rfl, by decide, by decide, by decide +kernel⟩⟩
theorem vw_X5_madeOf : VW RX5 yX5_madeOf cX5_madeOf 4 (some .int) 1 := ⟨qw_441, qw_442, qw_203, qw_359, ⟨rfl, by decide, by decide, by decide +kernel⟩⟩
theorem vw_X5_isCurrentUsed : VW RX5 yX5_isCurrentUsed cX5_isCurrentUsed 3 (some .boolean) 1 := ⟨qw_409, qw_410, qw_203, qw_360, ⟨rfl, by decide, by decide, by decide +kernel⟩⟩
theorem vw_X5_hadSupervisor : VW RX5 yX5_hadSupervisor cX5_hadSupervisor 3 (some .boolean) 1 := ⟨qw_428, qw_429, qw_203, qw_361, ⟨rfl, by decide, by decide, by decide +kernel⟩⟩
theorem vw_X5_supervisors : VW RX5 yX5_supervisors cX5_supervisors 3 (some .int) 0 := ⟨qw_512, qw_513, qw_203, qw_362, ⟨rfl, by decide, by decide, by decide +kernel⟩⟩
theorem vw_X5_withStatus : VW RX5 yX5_withStatus cX5_withStatus 4 (some .int) 1 := ⟨qw_509, qw_510, qw_203, qw_363, ⟨rfl, by decide, by decide, by decide +kernel⟩⟩
theorem vw_X5_linkCount : VW RX5 yX5_linkCount cX5_linkCount 3 (some .int) 0 := ⟨qw_515, qw_516, qw_203, qw_371, ⟨rfl, by decide, by decide, by decide +kernel⟩⟩
theorem vw_X5_mailCount : VW RX5 yX5_mailCount cX5_mailCount 3 (some .int) 0 := ⟨qw_518, qw_519, qw_203, qw_372, ⟨rfl, by decide, by decide, by decide +kernel⟩⟩
theorem vw_X5_passTime : VW RX5 yX5_passTime cX5_passTime 3 (some .int) 0 := ⟨qw_457, qw_458, qw_203, qw_294, ⟨rfl, by decide, by decide, by decide +kernel⟩⟩
theorem vw_X5_takeName : VW RX5 yX5_takeName cX5_takeName 4 none 2 := ⟨qw_317, qw_318, qw_203, qw_305, ⟨rfl, by decide, by decide, by decide +kernel⟩⟩
theorem vw_X5_callName : VW RX5 yX5_callName cX5_callName 5 none 3 := ⟨qw_323, qw_324, qw_203, qw_306, ⟨rfl, by decide, by decide, by decide +kernel⟩⟩
theorem vw_X5_spawn : VW RX5 yX5_spawn cX5_spawn 5 none 3 := ⟨qw_311, qw_312, qw_203, qw_301, ⟨rfl, by decide, by decide, by decide +kernel⟩⟩
theorem vw_X5_copyFrom : VW RX5 yX5_copyFrom cX5_copyFrom 4 none 1 := ⟨qw_522, qw_523, qw_203, qw_168, ⟨rfl, by decide, by decide, by decide +kernel⟩⟩
def f_X5_firstReady_4 (G V : MT) : Nat → Option Nat → Int32 → Option (Option Nat)
  | 0, _, _ => none
  | n + 1, o1, y2 => oc o1 (if V 0 0 5 ≤ y2 then (some none) else (if 24 ≤ y2 then (some none) else (if ¬ (y2 < 0 ∨ 24 ≤ Int32.toNatClampNeg y2) then (if V 7 (Int32.toNatClampNeg y2) 5 = 0 then ((f_X5_firstReady_4 G V n) (some (Int32.toNatClampNeg y2)) (y2 + 1)) else ((f_X5_firstReady_4 G V n) none (y2 + 1))) else none))) (fun q1 => if V 0 0 5 ≤ y2 then (some (some q1)) else (if 24 ≤ y2 then (some (some q1)) else (if ¬ (y2 < 0 ∨ 24 ≤ Int32.toNatClampNeg y2) then (if V 7 (Int32.toNatClampNeg y2) 5 = 0 then (if V 7 q1 11 ≤ V 7 (Int32.toNatClampNeg y2) 11 then ((f_X5_firstReady_4 G V n) (some q1) (y2 + 1)) else ((f_X5_firstReady_4 G V n) (some (Int32.toNatClampNeg y2)) (y2 + 1))) else ((f_X5_firstReady_4 G V n) (some q1) (y2 + 1))) else none)))
def f_X5_firstReady (G V : MT)  : Option (Option Nat) :=
  f_X5_firstReady_4 G V  30 none 0
def rm_X5_firstReady : Room := { frames := 0, cells := 0, slots := 0, locals := 0 }
set_option maxRecDepth 20000 in
set_option maxHeartbeats 4000000 in
theorem l_X5_firstReady_4 {p : Program} {l : Launch} {e : Env} {s : State} {m : MethodId} {args : Array Value} {below : List Frame} {meth : Method} {c : Code} {D : va_G} {ad : Nat → Nat → Nat → Nat} {cI cZ cP : ClassId} {A : Nat → Prop} {G V U : MT} {r : Option Nat} (X : MX p s m args meth c cX5_firstReady RX5 4 (some (.object "MailDen$Proc")) D ad cI cZ cP A) {w : Nat} (hw : w < 2) (n : Nat) : ∀ {H : Heap} {locs : List Loc} {ls : Array Slot} (o1 : Option Nat) (y2 : Int32), (∀ q, o1 = some q → q < 24) → Pic D ad cI cZ cP w G V U H → va_S A s.heap H locs → lv_has ls 4 [(0, .ref (ad w 0 0)), (1, va_rf (o1.map (ad w 7))), (2, .int y2)] → f_X5_firstReady_4 G V n o1 y2 = some r → W p l e rm_X5_firstReady s m args below meth c H locs 0 0 (MQ below (QcQ A (r.map (ad w 7)) (Pic D ad cI cZ cP w G V U)) args s 0 0 A) (F0 m 4 ls []) := by
  obtain ⟨hx, hb, hml, hown, htm, hr, hlk, hE⟩ := id X
  induction n with
  | zero =>
    intros
    exact ns_S (by assumption)
  | succ n ih4 =>
    intro H locs ls o1 y2  ho1 hP hS hl hF
    rw [f_X5_firstReady_4] at hF
    rcases o1 with _ | q1
    · have hF := oc_N hF
      have hl : lv_has ls 4 [(0, .ref (ad w 0 0)), (1, .null), (2, .int y2)] := hl
      refine lv_iload_n hx hb dX5_firstReady_4 rfl (lv_at hl 2 rfl) ?_
      refine lv_aload_n hx hb dX5_firstReady_5 rfl (lv_at hl 0 rfl) ?_
      refine gf_0_5 hx hb htm hown hE hP hw (htm _ qw_155) dX5_firstReady_6 ?_
      refine lv_icmp_ge (tgt := 55) hx hb dX5_firstReady_9 (by decide) (fun c1 => ?_) (fun c1 => ?_)
      · have hF := ite_T c1 hF
        refine lv_aload_nN hx hb dX5_firstReady_55 rfl (lv_at hl 1 rfl) ?_
        have e1 := Option.some.inj hF
        subst e1
        exact m_aretN X hS hP rfl dX5_firstReady_56
      · have hF := ite_F c1 hF
        refine lv_iload_n hx hb dX5_firstReady_12 rfl (lv_at hl 2 rfl) ?_
        refine lv_bipush (v := 24) hx hb dX5_firstReady_13 (by decide) ?_
        refine lv_icmp_ge (tgt := 55) hx hb dX5_firstReady_15 (by decide) (fun c2 => ?_) (fun c2 => ?_)
        · have hF := ite_T c2 hF
          refine lv_aload_nN hx hb dX5_firstReady_55 rfl (lv_at hl 1 rfl) ?_
          have e1 := Option.some.inj hF
          subst e1
          exact m_aretN X hS hP rfl dX5_firstReady_56
        · have hF := ite_F c2 hF
          refine lv_aload_n hx hb dX5_firstReady_18 rfl (lv_at hl 0 rfl) ?_
          refine gf_0_4 hx hb htm hown hE hP hw (htm _ qw_143) dX5_firstReady_19 ?_
          refine lv_iload_n hx hb dX5_firstReady_22 rfl (lv_at hl 2 rfl) ?_
          obtain ⟨hn3, hF⟩ := ite_S hF
          refine mql hx hb htm hown hE hP hw hn3 dX5_firstReady_23 ?_
          have hj4 : Int32.toNatClampNeg y2 < 24 := Nat.not_le.mp fun q => hn3 (Or.inr q)
          refine lv_astore_n (lv' := [(3, .ref (ad w 7 (Int32.toNatClampNeg y2))), (0, .ref (ad w 0 0)), (1, .null), (2, .int y2)]) hx hb dX5_firstReady_24 rfl hl (by decide) rfl (fun ls hl => ?_)
          refine lv_aload_n hx hb dX5_firstReady_25 rfl (lv_at hl 0 rfl) ?_
          refine gf_7_5 hx hb htm hown hE hP hw hj4 (htm _ qw_170) dX5_firstReady_26 ?_
          refine lv_if_ne (tgt := 49) hx hb dX5_firstReady_29 (by decide) (fun c5 => ?_) (fun c5 => ?_)
          · have hF := ite_F c5 hF
            refine lv_iinc (v := y2 + 1) (lv' := [(2, .int (y2 + 1)), (3, .ref (ad w 7 (Int32.toNatClampNeg y2))), (0, .ref (ad w 0 0)), (1, .null)]) hx hb dX5_firstReady_49 hl (k := 3) rfl rfl (by decide) rfl (fun ls hl => ?_)
            refine lv_goto (tgt := 4) hx hb dX5_firstReady_52 (by decide) ?_
            exact ih4 _ _  (fun q h9 => by cases h9) hP hS (lv_sub hl [2, 3, 0] rfl) hF
          · have hF := ite_T c5 hF
            refine lv_aload_nN hx hb dX5_firstReady_32 rfl (lv_at hl 2 rfl) ?_
            refine lv_ifnullN (tgt := 47) hx hb dX5_firstReady_33 (by decide) ?_
            refine lv_aload_n hx hb dX5_firstReady_47 rfl (lv_at hl 0 rfl) ?_
            refine lv_astore_n (lv' := [(1, .ref (ad w 7 (Int32.toNatClampNeg y2))), (3, .ref (ad w 7 (Int32.toNatClampNeg y2))), (0, .ref (ad w 0 0)), (2, .int y2)]) hx hb dX5_firstReady_48 rfl hl (by decide) rfl (fun ls hl => ?_)
            refine lv_iinc (v := y2 + 1) (lv' := [(2, .int (y2 + 1)), (1, .ref (ad w 7 (Int32.toNatClampNeg y2))), (3, .ref (ad w 7 (Int32.toNatClampNeg y2))), (0, .ref (ad w 0 0))]) hx hb dX5_firstReady_49 hl (k := 3) rfl rfl (by decide) rfl (fun ls hl => ?_)
            refine lv_goto (tgt := 4) hx hb dX5_firstReady_52 (by decide) ?_
            exact ih4 _ _  (fun q h9 => by cases h9; exact hj4) hP hS (lv_sub hl [3, 1, 0] rfl) hF
    · have hF := oc_J hF
      have hq1 : q1 < 24 := ho1 q1 rfl
      have hl : lv_has ls 4 [(0, .ref (ad w 0 0)), (1, .ref (ad w 7 q1)), (2, .int y2)] := hl
      refine lv_iload_n hx hb dX5_firstReady_4 rfl (lv_at hl 2 rfl) ?_
      refine lv_aload_n hx hb dX5_firstReady_5 rfl (lv_at hl 0 rfl) ?_
      refine gf_0_5 hx hb htm hown hE hP hw (htm _ qw_155) dX5_firstReady_6 ?_
      refine lv_icmp_ge (tgt := 55) hx hb dX5_firstReady_9 (by decide) (fun c6 => ?_) (fun c6 => ?_)
      · have hF := ite_T c6 hF
        refine lv_aload_n hx hb dX5_firstReady_55 rfl (lv_at hl 1 rfl) ?_
        have e1 := Option.some.inj hF
        subst e1
        exact m_aretR X hS hP rfl dX5_firstReady_56
      · have hF := ite_F c6 hF
        refine lv_iload_n hx hb dX5_firstReady_12 rfl (lv_at hl 2 rfl) ?_
        refine lv_bipush (v := 24) hx hb dX5_firstReady_13 (by decide) ?_
        refine lv_icmp_ge (tgt := 55) hx hb dX5_firstReady_15 (by decide) (fun c7 => ?_) (fun c7 => ?_)
        · have hF := ite_T c7 hF
          refine lv_aload_n hx hb dX5_firstReady_55 rfl (lv_at hl 1 rfl) ?_
          have e1 := Option.some.inj hF
          subst e1
          exact m_aretR X hS hP rfl dX5_firstReady_56
        · have hF := ite_F c7 hF
          refine lv_aload_n hx hb dX5_firstReady_18 rfl (lv_at hl 0 rfl) ?_
          refine gf_0_4 hx hb htm hown hE hP hw (htm _ qw_143) dX5_firstReady_19 ?_
          refine lv_iload_n hx hb dX5_firstReady_22 rfl (lv_at hl 2 rfl) ?_
          obtain ⟨hn8, hF⟩ := ite_S hF
          refine mql hx hb htm hown hE hP hw hn8 dX5_firstReady_23 ?_
          have hj9 : Int32.toNatClampNeg y2 < 24 := Nat.not_le.mp fun q => hn8 (Or.inr q)
          refine lv_astore_n (lv' := [(3, .ref (ad w 7 (Int32.toNatClampNeg y2))), (0, .ref (ad w 0 0)), (1, .ref (ad w 7 q1)), (2, .int y2)]) hx hb dX5_firstReady_24 rfl hl (by decide) rfl (fun ls hl => ?_)
          refine lv_aload_n hx hb dX5_firstReady_25 rfl (lv_at hl 0 rfl) ?_
          refine gf_7_5 hx hb htm hown hE hP hw hj9 (htm _ qw_170) dX5_firstReady_26 ?_
          refine lv_if_ne (tgt := 49) hx hb dX5_firstReady_29 (by decide) (fun c10 => ?_) (fun c10 => ?_)
          · have hF := ite_F c10 hF
            refine lv_iinc (v := y2 + 1) (lv' := [(2, .int (y2 + 1)), (3, .ref (ad w 7 (Int32.toNatClampNeg y2))), (0, .ref (ad w 0 0)), (1, .ref (ad w 7 q1))]) hx hb dX5_firstReady_49 hl (k := 3) rfl rfl (by decide) rfl (fun ls hl => ?_)
            refine lv_goto (tgt := 4) hx hb dX5_firstReady_52 (by decide) ?_
            exact ih4 _ _  (fun q h9 => by cases h9; exact hq1) hP hS (lv_sub hl [2, 3, 0] rfl) hF
          · have hF := ite_T c10 hF
            refine lv_aload_n hx hb dX5_firstReady_32 rfl (lv_at hl 2 rfl) ?_
            refine lv_ifnull hx hb dX5_firstReady_33 ?_
            refine lv_aload_n hx hb dX5_firstReady_36 rfl (lv_at hl 0 rfl) ?_
            refine gf_7_11 hx hb htm hown hE hP hw hj9 (htm _ qw_179) dX5_firstReady_37 ?_
            refine lv_aload_n hx hb dX5_firstReady_40 rfl (lv_at hl 2 rfl) ?_
            refine gf_7_11 hx hb htm hown hE hP hw hq1 (htm _ qw_179) dX5_firstReady_41 ?_
            refine lv_icmp_ge (tgt := 49) hx hb dX5_firstReady_44 (by decide) (fun c11 => ?_) (fun c11 => ?_)
            · have hF := ite_T c11 hF
              refine lv_iinc (v := y2 + 1) (lv' := [(2, .int (y2 + 1)), (3, .ref (ad w 7 (Int32.toNatClampNeg y2))), (0, .ref (ad w 0 0)), (1, .ref (ad w 7 q1))]) hx hb dX5_firstReady_49 hl (k := 3) rfl rfl (by decide) rfl (fun ls hl => ?_)
              refine lv_goto (tgt := 4) hx hb dX5_firstReady_52 (by decide) ?_
              exact ih4 _ _  (fun q h9 => by cases h9; exact hq1) hP hS (lv_sub hl [2, 3, 0] rfl) hF
            · have hF := ite_F c11 hF
              refine lv_aload_n hx hb dX5_firstReady_47 rfl (lv_at hl 0 rfl) ?_
              refine lv_astore_n (lv' := [(1, .ref (ad w 7 (Int32.toNatClampNeg y2))), (3, .ref (ad w 7 (Int32.toNatClampNeg y2))), (0, .ref (ad w 0 0)), (2, .int y2)]) hx hb dX5_firstReady_48 rfl hl (by decide) rfl (fun ls hl => ?_)
              refine lv_iinc (v := y2 + 1) (lv' := [(2, .int (y2 + 1)), (1, .ref (ad w 7 (Int32.toNatClampNeg y2))), (3, .ref (ad w 7 (Int32.toNatClampNeg y2))), (0, .ref (ad w 0 0))]) hx hb dX5_firstReady_49 hl (k := 3) rfl rfl (by decide) rfl (fun ls hl => ?_)
              refine lv_goto (tgt := 4) hx hb dX5_firstReady_52 (by decide) ?_
              exact ih4 _ _  (fun q h9 => by cases h9; exact hj9) hP hS (lv_sub hl [3, 1, 0] rfl) hF
set_option maxRecDepth 20000 in
set_option maxHeartbeats 4000000 in
theorem c_X5_firstReady {l : Launch} {D : va_G} {ad : Nat → Nat → Nat → Nat} {cI cZ cP : ClassId} {A : Nat → Prop} {w : Nat} (hw : w < 2) {G V U : MT}  {r : Option Nat}  (hF : f_X5_firstReady G V  = some r) : Met l yX5_firstReady (.code yX5_firstReady cX5_firstReady 4 (some (.object "MailDen$Proc")) :: WM) rm_X5_firstReady (PcM D ad cI cZ cP A [.ref (ad w 0 0)] (Pic D ad cI cZ cP w G V U)) (QcQ A (r.map (ad w 7)) (Pic D ad cI cZ cP w G V U)) 0 0 A := by
  refine m_entry (by decide) (Nat.le_of_ble_eq_true rfl) (fun p e s m below meth c ls X hP hS hl => ?_)
  have X : MX p s m _ meth c cX5_firstReady RX5 4 (some (.object "MailDen$Proc")) D ad cI cZ cP A := X
  obtain ⟨hx, hb, hml, hown, htm, hr, hlk, hE⟩ := id X
  have hl : lv_has ls 4 [(0, .ref (ad w 0 0))] := hl
  refine lv_null hx hb dX5_firstReady_0 ?_
  refine lv_astore_nN (lv' := [(1, .null), (0, .ref (ad w 0 0))]) hx hb dX5_firstReady_1 rfl hl (by decide) rfl (fun ls hl => ?_)
  refine lv_iconst (v := 0) hx hb dX5_firstReady_2 (by decide) ?_
  refine lv_istore_n (lv' := [(2, .int 0), (1, .null), (0, .ref (ad w 0 0))]) hx hb dX5_firstReady_3 rfl hl (by decide) rfl (fun ls hl => ?_)
  exact l_X5_firstReady_4 X hw  30 _ _ (fun q h9 => by cases h9) hP hS (lv_sub hl [2, 1, 0] rfl) hF
def f_X5_placeInRow_13 (G V : MT) : Nat → Nat → Int32 → Int32 → Option (Int32)
  | 0, _, _, _ => none
  | n + 1, j1, y2, y3 => if V 0 0 5 ≤ y3 then (some y2) else (if 24 ≤ y3 then (some y2) else (if ¬ (y3 < 0 ∨ 24 ≤ Int32.toNatClampNeg y3) then (if V 7 (Int32.toNatClampNeg y3) 5 = 0 then (if ¬ (y3 < 0 ∨ 24 ≤ Int32.toNatClampNeg y3) then (if V 7 j1 11 ≤ V 7 (Int32.toNatClampNeg y3) 11 then ((f_X5_placeInRow_13 G V n) j1 y2 (y3 + 1)) else ((f_X5_placeInRow_13 G V n) j1 (y2 + 1) (y3 + 1))) else none) else ((f_X5_placeInRow_13 G V n) j1 y2 (y3 + 1))) else none))
def f_X5_placeInRow (G V : MT) (i1 : Nat) : Option (Int32) :=
  if V 7 i1 5 = 0 then (f_X5_placeInRow_13 G V  30 i1 0 0) else (some (-1))
def rm_X5_placeInRow : Room := { frames := 0, cells := 0, slots := 0, locals := 0 }
set_option maxRecDepth 20000 in
set_option maxHeartbeats 4000000 in
theorem l_X5_placeInRow_13 {p : Program} {l : Launch} {e : Env} {s : State} {m : MethodId} {args : Array Value} {below : List Frame} {meth : Method} {c : Code} {D : va_G} {ad : Nat → Nat → Nat → Nat} {cI cZ cP : ClassId} {A : Nat → Prop} {G V U : MT} {r : Int32} (X : MX p s m args meth c cX5_placeInRow RX5 4 (some .int) D ad cI cZ cP A) {w : Nat} (hw : w < 2) (n : Nat) : ∀ {H : Heap} {locs : List Loc} {ls : Array Slot} (j1 : Nat) (y2 : Int32) (y3 : Int32), j1 < 24 → Pic D ad cI cZ cP w G V U H → va_S A s.heap H locs → lv_has ls 4 [(0, .ref (ad w 0 0)), (1, .ref (ad w 7 j1)), (2, .int y2), (3, .int y3)] → f_X5_placeInRow_13 G V n j1 y2 y3 = some r → W p l e rm_X5_placeInRow s m args below meth c H locs 0 0 (MQ below (QcI A r (Pic D ad cI cZ cP w G V U)) args s 0 0 A) (F0 m 13 ls []) := by
  obtain ⟨hx, hb, hml, hown, htm, hr, hlk, hE⟩ := id X
  induction n with
  | zero =>
    intros
    exact ns_S (by assumption)
  | succ n ih13 =>
    intro H locs ls j1 y2 y3 hj1  hP hS hl hF
    rw [f_X5_placeInRow_13] at hF
    refine lv_iload_n hx hb dX5_placeInRow_13 rfl (lv_at hl 3 rfl) ?_
    refine lv_aload_n hx hb dX5_placeInRow_14 rfl (lv_at hl 0 rfl) ?_
    refine gf_0_5 hx hb htm hown hE hP hw (htm _ qw_155) dX5_placeInRow_15 ?_
    refine lv_icmp_ge (tgt := 64) hx hb dX5_placeInRow_18 (by decide) (fun c2 => ?_) (fun c2 => ?_)
    · have hF := ite_T c2 hF
      refine lv_iload_n hx hb dX5_placeInRow_64 rfl (lv_at hl 2 rfl) ?_
      have e1 := Option.some.inj hF
      subst e1
      exact m_iret X hS hP rfl dX5_placeInRow_65
    · have hF := ite_F c2 hF
      refine lv_iload_n hx hb dX5_placeInRow_21 rfl (lv_at hl 3 rfl) ?_
      refine lv_bipush (v := 24) hx hb dX5_placeInRow_22 (by decide) ?_
      refine lv_icmp_ge (tgt := 64) hx hb dX5_placeInRow_24 (by decide) (fun c3 => ?_) (fun c3 => ?_)
      · have hF := ite_T c3 hF
        refine lv_iload_n hx hb dX5_placeInRow_64 rfl (lv_at hl 2 rfl) ?_
        have e1 := Option.some.inj hF
        subst e1
        exact m_iret X hS hP rfl dX5_placeInRow_65
      · have hF := ite_F c3 hF
        refine lv_aload_n hx hb dX5_placeInRow_27 rfl (lv_at hl 0 rfl) ?_
        refine gf_0_4 hx hb htm hown hE hP hw (htm _ qw_143) dX5_placeInRow_28 ?_
        refine lv_iload_n hx hb dX5_placeInRow_31 rfl (lv_at hl 3 rfl) ?_
        obtain ⟨hn4, hF⟩ := ite_S hF
        refine mql hx hb htm hown hE hP hw hn4 dX5_placeInRow_32 ?_
        have hj5 : Int32.toNatClampNeg y3 < 24 := Nat.not_le.mp fun q => hn4 (Or.inr q)
        refine gf_7_5 hx hb htm hown hE hP hw hj5 (htm _ qw_170) dX5_placeInRow_33 ?_
        refine lv_if_ne (tgt := 58) hx hb dX5_placeInRow_36 (by decide) (fun c6 => ?_) (fun c6 => ?_)
        · have hF := ite_F c6 hF
          refine lv_iinc (v := y3 + 1) (lv' := [(3, .int (y3 + 1)), (0, .ref (ad w 0 0)), (1, .ref (ad w 7 j1)), (2, .int y2)]) hx hb dX5_placeInRow_58 hl (k := 3) rfl rfl (by decide) rfl (fun ls hl => ?_)
          refine lv_goto (tgt := 13) hx hb dX5_placeInRow_61 (by decide) ?_
          exact ih13 _ _ _ hj1 hP hS (lv_sub hl [1, 2, 3, 0] rfl) hF
        · have hF := ite_T c6 hF
          refine lv_aload_n hx hb dX5_placeInRow_39 rfl (lv_at hl 0 rfl) ?_
          refine gf_0_4 hx hb htm hown hE hP hw (htm _ qw_143) dX5_placeInRow_40 ?_
          refine lv_iload_n hx hb dX5_placeInRow_43 rfl (lv_at hl 3 rfl) ?_
          obtain ⟨hn7, hF⟩ := ite_S hF
          refine mql hx hb htm hown hE hP hw hn7 dX5_placeInRow_44 ?_
          have hj8 : Int32.toNatClampNeg y3 < 24 := Nat.not_le.mp fun q => hn7 (Or.inr q)
          refine gf_7_11 hx hb htm hown hE hP hw hj8 (htm _ qw_179) dX5_placeInRow_45 ?_
          refine lv_aload_n hx hb dX5_placeInRow_48 rfl (lv_at hl 1 rfl) ?_
          refine gf_7_11 hx hb htm hown hE hP hw hj1 (htm _ qw_179) dX5_placeInRow_49 ?_
          refine lv_icmp_ge (tgt := 58) hx hb dX5_placeInRow_52 (by decide) (fun c9 => ?_) (fun c9 => ?_)
          · have hF := ite_T c9 hF
            refine lv_iinc (v := y3 + 1) (lv' := [(3, .int (y3 + 1)), (0, .ref (ad w 0 0)), (1, .ref (ad w 7 j1)), (2, .int y2)]) hx hb dX5_placeInRow_58 hl (k := 3) rfl rfl (by decide) rfl (fun ls hl => ?_)
            refine lv_goto (tgt := 13) hx hb dX5_placeInRow_61 (by decide) ?_
            exact ih13 _ _ _ hj1 hP hS (lv_sub hl [1, 2, 3, 0] rfl) hF
          · have hF := ite_F c9 hF
            refine lv_iinc (v := y2 + 1) (lv' := [(2, .int (y2 + 1)), (0, .ref (ad w 0 0)), (1, .ref (ad w 7 j1)), (3, .int y3)]) hx hb dX5_placeInRow_55 hl (k := 2) rfl rfl (by decide) rfl (fun ls hl => ?_)
            refine lv_iinc (v := y3 + 1) (lv' := [(3, .int (y3 + 1)), (2, .int (y2 + 1)), (0, .ref (ad w 0 0)), (1, .ref (ad w 7 j1))]) hx hb dX5_placeInRow_58 hl (k := 3) rfl rfl (by decide) rfl (fun ls hl => ?_)
            refine lv_goto (tgt := 13) hx hb dX5_placeInRow_61 (by decide) ?_
            exact ih13 _ _ _ hj1 hP hS (lv_sub hl [2, 3, 1, 0] rfl) hF
set_option maxRecDepth 20000 in
set_option maxHeartbeats 4000000 in
theorem c_X5_placeInRow {l : Launch} {D : va_G} {ad : Nat → Nat → Nat → Nat} {cI cZ cP : ClassId} {A : Nat → Prop} {w : Nat} (hw : w < 2) {G V U : MT} {i1 : Nat} {r : Int32}  (hi1 : i1 < 24) (hF : f_X5_placeInRow G V i1 = some r) : Met l yX5_placeInRow (.code yX5_placeInRow cX5_placeInRow 4 (some .int) :: WM) rm_X5_placeInRow (PcM D ad cI cZ cP A [.ref (ad w 0 0), .ref (ad w 7 i1)] (Pic D ad cI cZ cP w G V U)) (QcI A r (Pic D ad cI cZ cP w G V U)) 0 0 A := by
  refine m_entry (by decide) (Nat.le_of_ble_eq_true rfl) (fun p e s m below meth c ls X hP hS hl => ?_)
  have X : MX p s m _ meth c cX5_placeInRow RX5 4 (some .int) D ad cI cZ cP A := X
  obtain ⟨hx, hb, hml, hown, htm, hr, hlk, hE⟩ := id X
  have hl : lv_has ls 4 [(0, .ref (ad w 0 0)), (1, .ref (ad w 7 i1))] := hl
  refine lv_aload_n hx hb dX5_placeInRow_0 rfl (lv_at hl 1 rfl) ?_
  refine gf_7_5 hx hb htm hown hE hP hw hi1 (htm _ qw_170) dX5_placeInRow_1 ?_
  refine lv_if_eq (tgt := 9) hx hb dX5_placeInRow_4 (by decide) (fun c1 => ?_) (fun c1 => ?_)
  · have hF := ite_T c1 hF
    refine lv_iconst (v := 0) hx hb dX5_placeInRow_9 (by decide) ?_
    refine lv_istore_n (lv' := [(2, .int 0), (0, .ref (ad w 0 0)), (1, .ref (ad w 7 i1))]) hx hb dX5_placeInRow_10 rfl hl (by decide) rfl (fun ls hl => ?_)
    refine lv_iconst (v := 0) hx hb dX5_placeInRow_11 (by decide) ?_
    refine lv_istore_n (lv' := [(3, .int 0), (2, .int 0), (0, .ref (ad w 0 0)), (1, .ref (ad w 7 i1))]) hx hb dX5_placeInRow_12 rfl hl (by decide) rfl (fun ls hl => ?_)
    exact l_X5_placeInRow_13 X hw  30 _ _ _ hi1 hP hS (lv_sub hl [2, 3, 1, 0] rfl) hF
  · have hF := ite_F c1 hF
    refine lv_iconst (v := (-1)) hx hb dX5_placeInRow_7 (by decide) ?_
    have e1 := Option.some.inj hF
    subst e1
    exact m_iret X hS hP rfl dX5_placeInRow_8
def f_X5_watchesOf_14 (G V : MT) : Nat → Nat → Int32 → Int32 → Option (Int32)
  | 0, _, _, _ => none
  | n + 1, j1, y2, y3 => if V 13 j1 2 ≤ y3 then (some y2) else (if 24 ≤ y3 then (some y2) else (if ¬ (y3 < 0 ∨ 24 ≤ Int32.toNatClampNeg y3) then ((f_X5_living G V (V 14 j1 (Int32.toNatClampNeg y3))).bind (fun q5_ => oc q5_ ((f_X5_watchesOf_14 G V n) j1 y2 (y3 + 1)) (fun e5 => if e5 < 24 then (if ¬ (y3 < 0 ∨ 24 ≤ Int32.toNatClampNeg y3) then ((f_X5_watchesOf_14 G V n) j1 (y2 + (V 15 j1 (Int32.toNatClampNeg y3))) (y3 + 1)) else none) else none))) else none))
def f_X5_watchesOf (G V : MT) (i1 : Nat) : Option (Int32) :=
  if V 7 i1 5 = 2 then (some 0) else (f_X5_watchesOf_14 G V  30 i1 0 0)
def rm_X5_watchesOf : Room := { frames := 1, cells := 0, slots := 0, locals := 21 }
set_option maxRecDepth 20000 in
set_option maxHeartbeats 4000000 in
theorem l_X5_watchesOf_14 {p : Program} {l : Launch} {e : Env} {s : State} {m : MethodId} {args : Array Value} {below : List Frame} {meth : Method} {c : Code} {D : va_G} {ad : Nat → Nat → Nat → Nat} {cI cZ cP : ClassId} {A : Nat → Prop} {G V U : MT} {r : Int32} (X : MX p s m args meth c cX5_watchesOf RX5 4 (some .int) D ad cI cZ cP A) {w : Nat} (hw : w < 2) (n : Nat) : ∀ {H : Heap} {locs : List Loc} {ls : Array Slot} (j1 : Nat) (y2 : Int32) (y3 : Int32), j1 < 24 → Pic D ad cI cZ cP w G V U H → va_S A s.heap H locs → lv_has ls 4 [(0, .ref (ad w 0 0)), (1, .ref (ad w 7 j1)), (2, .int y2), (3, .int y3)] → f_X5_watchesOf_14 G V n j1 y2 y3 = some r → W p l e rm_X5_watchesOf s m args below meth c H locs 0 0 (MQ below (QcI A r (Pic D ad cI cZ cP w G V U)) args s 0 0 A) (F0 m 14 ls []) := by
  obtain ⟨hx, hb, hml, hown, htm, hr, hlk, hE⟩ := id X
  induction n with
  | zero =>
    intros
    exact ns_S (by assumption)
  | succ n ih14 =>
    intro H locs ls j1 y2 y3 hj1  hP hS hl hF
    rw [f_X5_watchesOf_14] at hF
    refine lv_iload_n hx hb dX5_watchesOf_14 rfl (lv_at hl 3 rfl) ?_
    refine lv_aload_n hx hb dX5_watchesOf_15 rfl (lv_at hl 1 rfl) ?_
    refine gf_7_18 hx hb htm hown hE hP hw hj1 (htm _ qw_233) dX5_watchesOf_16 ?_
    refine gf_13_2 hx hb htm hown hE hP hw hj1 (htm _ qw_234) dX5_watchesOf_19 ?_
    refine lv_icmp_ge (tgt := 65) hx hb dX5_watchesOf_22 (by decide) (fun c2 => ?_) (fun c2 => ?_)
    · have hF := ite_T c2 hF
      refine lv_iload_n hx hb dX5_watchesOf_65 rfl (lv_at hl 2 rfl) ?_
      have e1 := Option.some.inj hF
      subst e1
      exact m_iret X hS hP rfl dX5_watchesOf_66
    · have hF := ite_F c2 hF
      refine lv_iload_n hx hb dX5_watchesOf_25 rfl (lv_at hl 3 rfl) ?_
      refine lv_bipush (v := 24) hx hb dX5_watchesOf_26 (by decide) ?_
      refine lv_icmp_ge (tgt := 65) hx hb dX5_watchesOf_28 (by decide) (fun c3 => ?_) (fun c3 => ?_)
      · have hF := ite_T c3 hF
        refine lv_iload_n hx hb dX5_watchesOf_65 rfl (lv_at hl 2 rfl) ?_
        have e1 := Option.some.inj hF
        subst e1
        exact m_iret X hS hP rfl dX5_watchesOf_66
      · have hF := ite_F c3 hF
        refine lv_aload_n hx hb dX5_watchesOf_31 rfl (lv_at hl 0 rfl) ?_
        refine lv_aload_n hx hb dX5_watchesOf_32 rfl (lv_at hl 1 rfl) ?_
        refine gf_7_18 hx hb htm hown hE hP hw hj1 (htm _ qw_233) dX5_watchesOf_33 ?_
        refine gf_13_0 hx hb htm hown hE hP hw hj1 (htm _ qw_235) dX5_watchesOf_36 ?_
        refine lv_iload_n hx hb dX5_watchesOf_39 rfl (lv_at hl 3 rfl) ?_
        obtain ⟨hn4, hF⟩ := ite_S hF
        refine al_14 hx hb htm hown hE hP hw hj1 hn4 dX5_watchesOf_40 ?_
        obtain ⟨r5, hc5, hF⟩ := ob_S hF
        refine m_cVq X hS vw_X5_living qw_217 (c_X5_living hw hc5) ⟨rfl, rfl⟩ ⟨Nat.le_of_ble_eq_true rfl, Nat.le_of_ble_eq_true rfl⟩ (rc_0 hE hP hw) hP rfl hl.1 (rest := []) rfl (Nat.le_of_ble_eq_true rfl) dX5_watchesOf_41 (fun H locs hP hS => ?_)
        rcases r5 with _ | e5
        · have hF := oc_N hF
          refine lv_ifnullN (tgt := 59) hx hb dX5_watchesOf_44 (by decide) ?_
          refine lv_iinc (v := y3 + 1) (lv' := [(3, .int (y3 + 1)), (0, .ref (ad w 0 0)), (1, .ref (ad w 7 j1)), (2, .int y2)]) hx hb dX5_watchesOf_59 hl (k := 3) rfl rfl (by decide) rfl (fun ls hl => ?_)
          refine lv_goto (tgt := 14) hx hb dX5_watchesOf_62 (by decide) ?_
          exact ih14 _ _ _ hj1 hP hS (lv_sub hl [1, 2, 3, 0] rfl) hF
        · obtain ⟨he5, hF⟩ := ite_S (oc_J hF)
          refine lv_ifnull hx hb dX5_watchesOf_44 ?_
          refine lv_iload_n hx hb dX5_watchesOf_47 rfl (lv_at hl 2 rfl) ?_
          refine lv_aload_n hx hb dX5_watchesOf_48 rfl (lv_at hl 1 rfl) ?_
          refine gf_7_18 hx hb htm hown hE hP hw hj1 (htm _ qw_233) dX5_watchesOf_49 ?_
          refine gf_13_1 hx hb htm hown hE hP hw hj1 (htm _ qw_236) dX5_watchesOf_52 ?_
          refine lv_iload_n hx hb dX5_watchesOf_55 rfl (lv_at hl 3 rfl) ?_
          obtain ⟨hn6, hF⟩ := ite_S hF
          refine al_15 hx hb htm hown hE hP hw hj1 hn6 dX5_watchesOf_56 ?_
          refine lv_iadd hx hb dX5_watchesOf_57 ?_
          refine lv_istore_n (lv' := [(2, .int (y2 + (V 15 j1 (Int32.toNatClampNeg y3)))), (0, .ref (ad w 0 0)), (1, .ref (ad w 7 j1)), (3, .int y3)]) hx hb dX5_watchesOf_58 rfl hl (by decide) rfl (fun ls hl => ?_)
          refine lv_iinc (v := y3 + 1) (lv' := [(3, .int (y3 + 1)), (2, .int (y2 + (V 15 j1 (Int32.toNatClampNeg y3)))), (0, .ref (ad w 0 0)), (1, .ref (ad w 7 j1))]) hx hb dX5_watchesOf_59 hl (k := 3) rfl rfl (by decide) rfl (fun ls hl => ?_)
          refine lv_goto (tgt := 14) hx hb dX5_watchesOf_62 (by decide) ?_
          exact ih14 _ _ _ hj1 hP hS (lv_sub hl [2, 3, 1, 0] rfl) hF
set_option maxRecDepth 20000 in
set_option maxHeartbeats 4000000 in
theorem c_X5_watchesOf {l : Launch} {D : va_G} {ad : Nat → Nat → Nat → Nat} {cI cZ cP : ClassId} {A : Nat → Prop} {w : Nat} (hw : w < 2) {G V U : MT} {i1 : Nat} {r : Int32}  (hi1 : i1 < 24) (hF : f_X5_watchesOf G V i1 = some r) : Met l yX5_watchesOf (.code yX5_watchesOf cX5_watchesOf 4 (some .int) :: WM) rm_X5_watchesOf (PcM D ad cI cZ cP A [.ref (ad w 0 0), .ref (ad w 7 i1)] (Pic D ad cI cZ cP w G V U)) (QcI A r (Pic D ad cI cZ cP w G V U)) 0 0 A := by
  refine m_entry (by decide) (Nat.le_of_ble_eq_true rfl) (fun p e s m below meth c ls X hP hS hl => ?_)
  have X : MX p s m _ meth c cX5_watchesOf RX5 4 (some .int) D ad cI cZ cP A := X
  obtain ⟨hx, hb, hml, hown, htm, hr, hlk, hE⟩ := id X
  have hl : lv_has ls 4 [(0, .ref (ad w 0 0)), (1, .ref (ad w 7 i1))] := hl
  refine lv_aload_n hx hb dX5_watchesOf_0 rfl (lv_at hl 1 rfl) ?_
  refine gf_7_5 hx hb htm hown hE hP hw hi1 (htm _ qw_170) dX5_watchesOf_1 ?_
  refine lv_iconst (v := 2) hx hb dX5_watchesOf_4 (by decide) ?_
  refine lv_icmp_ne (tgt := 10) hx hb dX5_watchesOf_5 (by decide) (fun c1 => ?_) (fun c1 => ?_)
  · have hF := ite_F c1 hF
    refine lv_iconst (v := 0) hx hb dX5_watchesOf_10 (by decide) ?_
    refine lv_istore_n (lv' := [(2, .int 0), (0, .ref (ad w 0 0)), (1, .ref (ad w 7 i1))]) hx hb dX5_watchesOf_11 rfl hl (by decide) rfl (fun ls hl => ?_)
    refine lv_iconst (v := 0) hx hb dX5_watchesOf_12 (by decide) ?_
    refine lv_istore_n (lv' := [(3, .int 0), (2, .int 0), (0, .ref (ad w 0 0)), (1, .ref (ad w 7 i1))]) hx hb dX5_watchesOf_13 rfl hl (by decide) rfl (fun ls hl => ?_)
    exact l_X5_watchesOf_14 X hw  30 _ _ _ hi1 hP hS (lv_sub hl [2, 3, 1, 0] rfl) hF
  · have hF := ite_T c1 hF
    refine lv_iconst (v := 0) hx hb dX5_watchesOf_8 (by decide) ?_
    have e1 := Option.some.inj hF
    subst e1
    exact m_iret X hS hP rfl dX5_watchesOf_9
def f_X5_runners_6 (G V : MT) : Nat → Int32 → Int32 → Int32 → Int32 → Int32 → Option (Int32)
  | 0, _, _, _, _, _ => none
  | n + 1, y1, y2, y3, y4, y5 => if V 0 0 5 ≤ y5 then (some y4) else (if 24 ≤ y5 then (some y4) else (if ¬ (y5 < 0 ∨ 24 ≤ Int32.toNatClampNeg y5) then (if V 7 (Int32.toNatClampNeg y5) 5 = 2 then ((f_X5_runners_6 G V n) y1 y2 y3 y4 (y5 + 1)) else (if V 7 (Int32.toNatClampNeg y5) 1 = y1 then ((f_X6_isWithin (V 7 (Int32.toNatClampNeg y5) 2) y2 y3).bind (fun q7_ => if q7_ = 0 then ((f_X5_runners_6 G V n) y1 y2 y3 y4 (y5 + 1)) else ((f_X5_runners_6 G V n) y1 y2 y3 (y4 ||| (1 <<< (y5 &&& 31))) (y5 + 1)))) else ((f_X5_runners_6 G V n) y1 y2 y3 y4 (y5 + 1)))) else none))
def f_X5_runners (G V : MT) (x1 : Int32) (x2 : Int32) (x3 : Int32) : Option (Int32) :=
  f_X5_runners_6 G V  30 x1 x2 x3 0 0
def rm_X5_runners : Room := { frames := 1, cells := 0, slots := 0, locals := 22 }
set_option maxRecDepth 20000 in
set_option maxHeartbeats 4000000 in
theorem l_X5_runners_6 {p : Program} {l : Launch} {e : Env} {s : State} {m : MethodId} {args : Array Value} {below : List Frame} {meth : Method} {c : Code} {D : va_G} {ad : Nat → Nat → Nat → Nat} {cI cZ cP : ClassId} {A : Nat → Prop} {G V U : MT} {r : Int32} (X : MX p s m args meth c cX5_runners RX5 7 (some .int) D ad cI cZ cP A) {w : Nat} (hw : w < 2) (n : Nat) : ∀ {H : Heap} {locs : List Loc} {ls : Array Slot} (y1 : Int32) (y2 : Int32) (y3 : Int32) (y4 : Int32) (y5 : Int32), Pic D ad cI cZ cP w G V U H → va_S A s.heap H locs → lv_has ls 7 [(0, .ref (ad w 0 0)), (1, .int y1), (2, .int y2), (3, .int y3), (4, .int y4), (5, .int y5)] → f_X5_runners_6 G V n y1 y2 y3 y4 y5 = some r → W p l e rm_X5_runners s m args below meth c H locs 0 0 (MQ below (QcI A r (Pic D ad cI cZ cP w G V U)) args s 0 0 A) (F0 m 6 ls []) := by
  obtain ⟨hx, hb, hml, hown, htm, hr, hlk, hE⟩ := id X
  induction n with
  | zero =>
    intros
    exact ns_S (by assumption)
  | succ n ih6 =>
    intro H locs ls y1 y2 y3 y4 y5   hP hS hl hF
    rw [f_X5_runners_6] at hF
    refine lv_iload hx hb dX5_runners_6 (lv_at hl 5 rfl) ?_
    refine lv_aload_n hx hb dX5_runners_8 rfl (lv_at hl 0 rfl) ?_
    refine gf_0_5 hx hb htm hown hE hP hw (htm _ qw_155) dX5_runners_9 ?_
    refine lv_icmp_ge (tgt := 77) hx hb dX5_runners_12 (by decide) (fun c1 => ?_) (fun c1 => ?_)
    · have hF := ite_T c1 hF
      refine lv_iload hx hb dX5_runners_77 (lv_at hl 4 rfl) ?_
      have e1 := Option.some.inj hF
      subst e1
      exact m_iret X hS hP rfl dX5_runners_79
    · have hF := ite_F c1 hF
      refine lv_iload hx hb dX5_runners_15 (lv_at hl 5 rfl) ?_
      refine lv_bipush (v := 24) hx hb dX5_runners_17 (by decide) ?_
      refine lv_icmp_ge (tgt := 77) hx hb dX5_runners_19 (by decide) (fun c2 => ?_) (fun c2 => ?_)
      · have hF := ite_T c2 hF
        refine lv_iload hx hb dX5_runners_77 (lv_at hl 4 rfl) ?_
        have e1 := Option.some.inj hF
        subst e1
        exact m_iret X hS hP rfl dX5_runners_79
      · have hF := ite_F c2 hF
        refine lv_aload_n hx hb dX5_runners_22 rfl (lv_at hl 0 rfl) ?_
        refine gf_0_4 hx hb htm hown hE hP hw (htm _ qw_143) dX5_runners_23 ?_
        refine lv_iload hx hb dX5_runners_26 (lv_at hl 5 rfl) ?_
        obtain ⟨hn3, hF⟩ := ite_S hF
        refine mql hx hb htm hown hE hP hw hn3 dX5_runners_28 ?_
        have hj4 : Int32.toNatClampNeg y5 < 24 := Nat.not_le.mp fun q => hn3 (Or.inr q)
        refine lv_astore (lv' := [(6, .ref (ad w 7 (Int32.toNatClampNeg y5))), (0, .ref (ad w 0 0)), (1, .int y1), (2, .int y2), (3, .int y3), (4, .int y4), (5, .int y5)]) hx hb dX5_runners_29 hl (by decide) rfl (fun ls hl => ?_)
        refine lv_aload hx hb dX5_runners_31 (lv_at hl 0 rfl) ?_
        refine gf_7_5 hx hb htm hown hE hP hw hj4 (htm _ qw_170) dX5_runners_33 ?_
        refine lv_iconst (v := 2) hx hb dX5_runners_36 (by decide) ?_
        refine lv_icmp_eq (tgt := 71) hx hb dX5_runners_37 (by decide) (fun c5 => ?_) (fun c5 => ?_)
        · have hF := ite_T c5 hF
          refine lv_iinc (v := y5 + 1) (lv' := [(5, .int (y5 + 1)), (6, .ref (ad w 7 (Int32.toNatClampNeg y5))), (0, .ref (ad w 0 0)), (1, .int y1), (2, .int y2), (3, .int y3), (4, .int y4)]) hx hb dX5_runners_71 hl (k := 6) rfl rfl (by decide) rfl (fun ls hl => ?_)
          refine lv_goto (tgt := 6) hx hb dX5_runners_74 (by decide) ?_
          exact ih6 _ _ _ _ _  hP hS (lv_sub hl [2, 3, 4, 5, 6, 0] rfl) hF
        · have hF := ite_F c5 hF
          refine lv_aload hx hb dX5_runners_40 (lv_at hl 0 rfl) ?_
          refine gf_7_1 hx hb htm hown hE hP hw hj4 (htm _ qw_176) dX5_runners_42 ?_
          refine lv_iload_n hx hb dX5_runners_45 rfl (lv_at hl 2 rfl) ?_
          refine lv_icmp_ne (tgt := 71) hx hb dX5_runners_46 (by decide) (fun c6 => ?_) (fun c6 => ?_)
          · have hF := ite_F c6 hF
            refine lv_iinc (v := y5 + 1) (lv' := [(5, .int (y5 + 1)), (6, .ref (ad w 7 (Int32.toNatClampNeg y5))), (0, .ref (ad w 0 0)), (1, .int y1), (2, .int y2), (3, .int y3), (4, .int y4)]) hx hb dX5_runners_71 hl (k := 6) rfl rfl (by decide) rfl (fun ls hl => ?_)
            refine lv_goto (tgt := 6) hx hb dX5_runners_74 (by decide) ?_
            exact ih6 _ _ _ _ _  hP hS (lv_sub hl [2, 3, 4, 5, 6, 0] rfl) hF
          · have hF := ite_T c6 hF
            refine lv_aload hx hb dX5_runners_49 (lv_at hl 0 rfl) ?_
            refine gf_7_2 hx hb htm hown hE hP hw hj4 (htm _ qw_177) dX5_runners_51 ?_
            refine lv_iload_n hx hb dX5_runners_54 rfl (lv_at hl 3 rfl) ?_
            refine lv_iload_n hx hb dX5_runners_55 rfl (lv_at hl 4 rfl) ?_
            obtain ⟨r7, hc7, hF⟩ := ob_S hF
            refine m_cNi X hS sw_X6_isWithin nst_5_103 (c_X6_isWithin hc7) ⟨rfl, rfl⟩ ⟨Nat.le_of_ble_eq_true rfl, Nat.le_of_ble_eq_true rfl⟩ hP rfl hl.1 (rest := []) rfl (Nat.le_of_ble_eq_true rfl) dX5_runners_56 (fun H locs hP hS => ?_)
            refine lv_if_eq (tgt := 71) hx hb dX5_runners_59 (by decide) (fun c8 => ?_) (fun c8 => ?_)
            · have hF := ite_T c8 hF
              refine lv_iinc (v := y5 + 1) (lv' := [(5, .int (y5 + 1)), (6, .ref (ad w 7 (Int32.toNatClampNeg y5))), (0, .ref (ad w 0 0)), (1, .int y1), (2, .int y2), (3, .int y3), (4, .int y4)]) hx hb dX5_runners_71 hl (k := 6) rfl rfl (by decide) rfl (fun ls hl => ?_)
              refine lv_goto (tgt := 6) hx hb dX5_runners_74 (by decide) ?_
              exact ih6 _ _ _ _ _  hP hS (lv_sub hl [2, 3, 4, 5, 6, 0] rfl) hF
            · have hF := ite_F c8 hF
              refine lv_iload hx hb dX5_runners_62 (lv_at hl 5 rfl) ?_
              refine lv_iconst (v := 1) hx hb dX5_runners_64 (by decide) ?_
              refine lv_iload hx hb dX5_runners_65 (lv_at hl 6 rfl) ?_
              refine lv_ishl hx hb dX5_runners_67 ?_
              refine lv_ior hx hb dX5_runners_68 ?_
              refine lv_istore (lv' := [(4, .int (y4 ||| (1 <<< (y5 &&& 31)))), (6, .ref (ad w 7 (Int32.toNatClampNeg y5))), (0, .ref (ad w 0 0)), (1, .int y1), (2, .int y2), (3, .int y3), (5, .int y5)]) hx hb dX5_runners_69 hl (by decide) rfl (fun ls hl => ?_)
              refine lv_iinc (v := y5 + 1) (lv' := [(5, .int (y5 + 1)), (4, .int (y4 ||| (1 <<< (y5 &&& 31)))), (6, .ref (ad w 7 (Int32.toNatClampNeg y5))), (0, .ref (ad w 0 0)), (1, .int y1), (2, .int y2), (3, .int y3)]) hx hb dX5_runners_71 hl (k := 6) rfl rfl (by decide) rfl (fun ls hl => ?_)
              refine lv_goto (tgt := 6) hx hb dX5_runners_74 (by decide) ?_
              exact ih6 _ _ _ _ _  hP hS (lv_sub hl [3, 4, 5, 6, 1, 0] rfl) hF
set_option maxRecDepth 20000 in
set_option maxHeartbeats 4000000 in
theorem c_X5_runners {l : Launch} {D : va_G} {ad : Nat → Nat → Nat → Nat} {cI cZ cP : ClassId} {A : Nat → Prop} {w : Nat} (hw : w < 2) {G V U : MT} {x1 : Int32} {x2 : Int32} {x3 : Int32} {r : Int32}  (hF : f_X5_runners G V x1 x2 x3 = some r) : Met l yX5_runners (.code yX5_runners cX5_runners 7 (some .int) :: WM) rm_X5_runners (PcM D ad cI cZ cP A [.ref (ad w 0 0), .int x1, .int x2, .int x3] (Pic D ad cI cZ cP w G V U)) (QcI A r (Pic D ad cI cZ cP w G V U)) 0 0 A := by
  refine m_entry (by decide) (Nat.le_of_ble_eq_true rfl) (fun p e s m below meth c ls X hP hS hl => ?_)
  have X : MX p s m _ meth c cX5_runners RX5 7 (some .int) D ad cI cZ cP A := X
  obtain ⟨hx, hb, hml, hown, htm, hr, hlk, hE⟩ := id X
  have hl : lv_has ls 7 [(0, .ref (ad w 0 0)), (1, .int x1), (2, .int x2), (3, .int x3)] := hl
  refine lv_iconst (v := 0) hx hb dX5_runners_0 (by decide) ?_
  refine lv_istore (lv' := [(4, .int 0), (0, .ref (ad w 0 0)), (1, .int x1), (2, .int x2), (3, .int x3)]) hx hb dX5_runners_1 hl (by decide) rfl (fun ls hl => ?_)
  refine lv_iconst (v := 0) hx hb dX5_runners_3 (by decide) ?_
  refine lv_istore (lv' := [(5, .int 0), (4, .int 0), (0, .ref (ad w 0 0)), (1, .int x1), (2, .int x2), (3, .int x3)]) hx hb dX5_runners_4 hl (by decide) rfl (fun ls hl => ?_)
  exact l_X5_runners_6 X hw  30 _ _ _ _ _ hP hS (lv_sub hl [2, 3, 4, 5, 1, 0] rfl) hF
def f_X5_madeOf_4 (G V : MT) : Nat → Int32 → Int32 → Int32 → Option (Int32)
  | 0, _, _, _ => none
  | n + 1, y1, y2, y3 => if V 0 0 5 ≤ y3 then (some y2) else (if 24 ≤ y3 then (some y2) else (if ¬ (y3 < 0 ∨ 24 ≤ Int32.toNatClampNeg y3) then (if V 7 (Int32.toNatClampNeg y3) 1 = y1 then ((f_X5_madeOf_4 G V n) y1 (y2 + 1) (y3 + 1)) else ((f_X5_madeOf_4 G V n) y1 y2 (y3 + 1))) else none))
def f_X5_madeOf (G V : MT) (x1 : Int32) : Option (Int32) :=
  f_X5_madeOf_4 G V  30 x1 0 0
def rm_X5_madeOf : Room := { frames := 0, cells := 0, slots := 0, locals := 0 }
set_option maxRecDepth 20000 in
set_option maxHeartbeats 4000000 in
theorem l_X5_madeOf_4 {p : Program} {l : Launch} {e : Env} {s : State} {m : MethodId} {args : Array Value} {below : List Frame} {meth : Method} {c : Code} {D : va_G} {ad : Nat → Nat → Nat → Nat} {cI cZ cP : ClassId} {A : Nat → Prop} {G V U : MT} {r : Int32} (X : MX p s m args meth c cX5_madeOf RX5 4 (some .int) D ad cI cZ cP A) {w : Nat} (hw : w < 2) (n : Nat) : ∀ {H : Heap} {locs : List Loc} {ls : Array Slot} (y1 : Int32) (y2 : Int32) (y3 : Int32), Pic D ad cI cZ cP w G V U H → va_S A s.heap H locs → lv_has ls 4 [(0, .ref (ad w 0 0)), (1, .int y1), (2, .int y2), (3, .int y3)] → f_X5_madeOf_4 G V n y1 y2 y3 = some r → W p l e rm_X5_madeOf s m args below meth c H locs 0 0 (MQ below (QcI A r (Pic D ad cI cZ cP w G V U)) args s 0 0 A) (F0 m 4 ls []) := by
  obtain ⟨hx, hb, hml, hown, htm, hr, hlk, hE⟩ := id X
  induction n with
  | zero =>
    intros
    exact ns_S (by assumption)
  | succ n ih4 =>
    intro H locs ls y1 y2 y3   hP hS hl hF
    rw [f_X5_madeOf_4] at hF
    refine lv_iload_n hx hb dX5_madeOf_4 rfl (lv_at hl 3 rfl) ?_
    refine lv_aload_n hx hb dX5_madeOf_5 rfl (lv_at hl 0 rfl) ?_
    refine gf_0_5 hx hb htm hown hE hP hw (htm _ qw_155) dX5_madeOf_6 ?_
    refine lv_icmp_ge (tgt := 40) hx hb dX5_madeOf_9 (by decide) (fun c1 => ?_) (fun c1 => ?_)
    · have hF := ite_T c1 hF
      refine lv_iload_n hx hb dX5_madeOf_40 rfl (lv_at hl 2 rfl) ?_
      have e1 := Option.some.inj hF
      subst e1
      exact m_iret X hS hP rfl dX5_madeOf_41
    · have hF := ite_F c1 hF
      refine lv_iload_n hx hb dX5_madeOf_12 rfl (lv_at hl 3 rfl) ?_
      refine lv_bipush (v := 24) hx hb dX5_madeOf_13 (by decide) ?_
      refine lv_icmp_ge (tgt := 40) hx hb dX5_madeOf_15 (by decide) (fun c2 => ?_) (fun c2 => ?_)
      · have hF := ite_T c2 hF
        refine lv_iload_n hx hb dX5_madeOf_40 rfl (lv_at hl 2 rfl) ?_
        have e1 := Option.some.inj hF
        subst e1
        exact m_iret X hS hP rfl dX5_madeOf_41
      · have hF := ite_F c2 hF
        refine lv_aload_n hx hb dX5_madeOf_18 rfl (lv_at hl 0 rfl) ?_
        refine gf_0_4 hx hb htm hown hE hP hw (htm _ qw_143) dX5_madeOf_19 ?_
        refine lv_iload_n hx hb dX5_madeOf_22 rfl (lv_at hl 3 rfl) ?_
        obtain ⟨hn3, hF⟩ := ite_S hF
        refine mql hx hb htm hown hE hP hw hn3 dX5_madeOf_23 ?_
        have hj4 : Int32.toNatClampNeg y3 < 24 := Nat.not_le.mp fun q => hn3 (Or.inr q)
        refine gf_7_1 hx hb htm hown hE hP hw hj4 (htm _ qw_176) dX5_madeOf_24 ?_
        refine lv_iload_n hx hb dX5_madeOf_27 rfl (lv_at hl 1 rfl) ?_
        refine lv_icmp_ne (tgt := 34) hx hb dX5_madeOf_28 (by decide) (fun c5 => ?_) (fun c5 => ?_)
        · have hF := ite_F c5 hF
          refine lv_iinc (v := y3 + 1) (lv' := [(3, .int (y3 + 1)), (0, .ref (ad w 0 0)), (1, .int y1), (2, .int y2)]) hx hb dX5_madeOf_34 hl (k := 3) rfl rfl (by decide) rfl (fun ls hl => ?_)
          refine lv_goto (tgt := 4) hx hb dX5_madeOf_37 (by decide) ?_
          exact ih4 _ _ _  hP hS (lv_sub hl [1, 2, 3, 0] rfl) hF
        · have hF := ite_T c5 hF
          refine lv_iinc (v := y2 + 1) (lv' := [(2, .int (y2 + 1)), (0, .ref (ad w 0 0)), (1, .int y1), (3, .int y3)]) hx hb dX5_madeOf_31 hl (k := 2) rfl rfl (by decide) rfl (fun ls hl => ?_)
          refine lv_iinc (v := y3 + 1) (lv' := [(3, .int (y3 + 1)), (2, .int (y2 + 1)), (0, .ref (ad w 0 0)), (1, .int y1)]) hx hb dX5_madeOf_34 hl (k := 3) rfl rfl (by decide) rfl (fun ls hl => ?_)
          refine lv_goto (tgt := 4) hx hb dX5_madeOf_37 (by decide) ?_
          exact ih4 _ _ _  hP hS (lv_sub hl [2, 3, 1, 0] rfl) hF
set_option maxRecDepth 20000 in
set_option maxHeartbeats 4000000 in
theorem c_X5_madeOf {l : Launch} {D : va_G} {ad : Nat → Nat → Nat → Nat} {cI cZ cP : ClassId} {A : Nat → Prop} {w : Nat} (hw : w < 2) {G V U : MT} {x1 : Int32} {r : Int32}  (hF : f_X5_madeOf G V x1 = some r) : Met l yX5_madeOf (.code yX5_madeOf cX5_madeOf 4 (some .int) :: WM) rm_X5_madeOf (PcM D ad cI cZ cP A [.ref (ad w 0 0), .int x1] (Pic D ad cI cZ cP w G V U)) (QcI A r (Pic D ad cI cZ cP w G V U)) 0 0 A := by
  refine m_entry (by decide) (Nat.le_of_ble_eq_true rfl) (fun p e s m below meth c ls X hP hS hl => ?_)
  have X : MX p s m _ meth c cX5_madeOf RX5 4 (some .int) D ad cI cZ cP A := X
  obtain ⟨hx, hb, hml, hown, htm, hr, hlk, hE⟩ := id X
  have hl : lv_has ls 4 [(0, .ref (ad w 0 0)), (1, .int x1)] := hl
  refine lv_iconst (v := 0) hx hb dX5_madeOf_0 (by decide) ?_
  refine lv_istore_n (lv' := [(2, .int 0), (0, .ref (ad w 0 0)), (1, .int x1)]) hx hb dX5_madeOf_1 rfl hl (by decide) rfl (fun ls hl => ?_)
  refine lv_iconst (v := 0) hx hb dX5_madeOf_2 (by decide) ?_
  refine lv_istore_n (lv' := [(3, .int 0), (2, .int 0), (0, .ref (ad w 0 0)), (1, .int x1)]) hx hb dX5_madeOf_3 rfl hl (by decide) rfl (fun ls hl => ?_)
  exact l_X5_madeOf_4 X hw  30 _ _ _ hP hS (lv_sub hl [2, 3, 1, 0] rfl) hF
def f_X5_isCurrentUsed_2 (G V : MT) : Nat → Int32 → Int32 → Option (Int32)
  | 0, _, _ => none
  | n + 1, y1, y2 => if V 0 0 5 ≤ y2 then (some 0) else (if 24 ≤ y2 then (some 0) else (if ¬ (y2 < 0 ∨ 24 ≤ Int32.toNatClampNeg y2) then (if V 7 (Int32.toNatClampNeg y2) 1 = y1 then (if ¬ (y2 < 0 ∨ 24 ≤ Int32.toNatClampNeg y2) then ((f_X5_currentOf G V y1).bind (fun q8_ => if V 7 (Int32.toNatClampNeg y2) 2 = q8_ then (some 1) else ((f_X5_isCurrentUsed_2 G V n) y1 (y2 + 1)))) else none) else ((f_X5_isCurrentUsed_2 G V n) y1 (y2 + 1))) else none))
def f_X5_isCurrentUsed (G V : MT) (x1 : Int32) : Option (Int32) :=
  f_X5_isCurrentUsed_2 G V  30 x1 0
def rm_X5_isCurrentUsed : Room := { frames := 2, cells := 0, slots := 0, locals := 42 }
set_option maxRecDepth 20000 in
set_option maxHeartbeats 4000000 in
theorem l_X5_isCurrentUsed_2 {p : Program} {l : Launch} {e : Env} {s : State} {m : MethodId} {args : Array Value} {below : List Frame} {meth : Method} {c : Code} {D : va_G} {ad : Nat → Nat → Nat → Nat} {cI cZ cP : ClassId} {A : Nat → Prop} {G V U : MT} {r : Int32} (X : MX p s m args meth c cX5_isCurrentUsed RX5 3 (some .boolean) D ad cI cZ cP A) {w : Nat} (hw : w < 2) (n : Nat) : ∀ {H : Heap} {locs : List Loc} {ls : Array Slot} (y1 : Int32) (y2 : Int32), Pic D ad cI cZ cP w G V U H → va_S A s.heap H locs → lv_has ls 3 [(0, .ref (ad w 0 0)), (1, .int y1), (2, .int y2)] → f_X5_isCurrentUsed_2 G V n y1 y2 = some r → W p l e rm_X5_isCurrentUsed s m args below meth c H locs 0 0 (MQ below (QcI A r (Pic D ad cI cZ cP w G V U)) args s 0 0 A) (F0 m 2 ls []) := by
  obtain ⟨hx, hb, hml, hown, htm, hr, hlk, hE⟩ := id X
  induction n with
  | zero =>
    intros
    exact ns_S (by assumption)
  | succ n ih2 =>
    intro H locs ls y1 y2   hP hS hl hF
    rw [f_X5_isCurrentUsed_2] at hF
    refine lv_iload_n hx hb dX5_isCurrentUsed_2 rfl (lv_at hl 2 rfl) ?_
    refine lv_aload_n hx hb dX5_isCurrentUsed_3 rfl (lv_at hl 0 rfl) ?_
    refine gf_0_5 hx hb htm hown hE hP hw (htm _ qw_155) dX5_isCurrentUsed_4 ?_
    refine lv_icmp_ge (tgt := 54) hx hb dX5_isCurrentUsed_7 (by decide) (fun c1 => ?_) (fun c1 => ?_)
    · have hF := ite_T c1 hF
      refine lv_iconst (v := 0) hx hb dX5_isCurrentUsed_54 (by decide) ?_
      have e1 := Option.some.inj hF
      subst e1
      exact m_zret X hS hP rfl (Or.inl rfl) dX5_isCurrentUsed_55
    · have hF := ite_F c1 hF
      refine lv_iload_n hx hb dX5_isCurrentUsed_10 rfl (lv_at hl 2 rfl) ?_
      refine lv_bipush (v := 24) hx hb dX5_isCurrentUsed_11 (by decide) ?_
      refine lv_icmp_ge (tgt := 54) hx hb dX5_isCurrentUsed_13 (by decide) (fun c2 => ?_) (fun c2 => ?_)
      · have hF := ite_T c2 hF
        refine lv_iconst (v := 0) hx hb dX5_isCurrentUsed_54 (by decide) ?_
        have e1 := Option.some.inj hF
        subst e1
        exact m_zret X hS hP rfl (Or.inl rfl) dX5_isCurrentUsed_55
      · have hF := ite_F c2 hF
        refine lv_aload_n hx hb dX5_isCurrentUsed_16 rfl (lv_at hl 0 rfl) ?_
        refine gf_0_4 hx hb htm hown hE hP hw (htm _ qw_143) dX5_isCurrentUsed_17 ?_
        refine lv_iload_n hx hb dX5_isCurrentUsed_20 rfl (lv_at hl 2 rfl) ?_
        obtain ⟨hn3, hF⟩ := ite_S hF
        refine mql hx hb htm hown hE hP hw hn3 dX5_isCurrentUsed_21 ?_
        have hj4 : Int32.toNatClampNeg y2 < 24 := Nat.not_le.mp fun q => hn3 (Or.inr q)
        refine gf_7_1 hx hb htm hown hE hP hw hj4 (htm _ qw_176) dX5_isCurrentUsed_22 ?_
        refine lv_iload_n hx hb dX5_isCurrentUsed_25 rfl (lv_at hl 1 rfl) ?_
        refine lv_icmp_ne (tgt := 48) hx hb dX5_isCurrentUsed_26 (by decide) (fun c5 => ?_) (fun c5 => ?_)
        · have hF := ite_F c5 hF
          refine lv_iinc (v := y2 + 1) (lv' := [(2, .int (y2 + 1)), (0, .ref (ad w 0 0)), (1, .int y1)]) hx hb dX5_isCurrentUsed_48 hl (k := 2) rfl rfl (by decide) rfl (fun ls hl => ?_)
          refine lv_goto (tgt := 2) hx hb dX5_isCurrentUsed_51 (by decide) ?_
          exact ih2 _ _  hP hS (lv_sub hl [1, 2, 0] rfl) hF
        · have hF := ite_T c5 hF
          refine lv_aload_n hx hb dX5_isCurrentUsed_29 rfl (lv_at hl 0 rfl) ?_
          refine gf_0_4 hx hb htm hown hE hP hw (htm _ qw_143) dX5_isCurrentUsed_30 ?_
          refine lv_iload_n hx hb dX5_isCurrentUsed_33 rfl (lv_at hl 2 rfl) ?_
          obtain ⟨hn6, hF⟩ := ite_S hF
          refine mql hx hb htm hown hE hP hw hn6 dX5_isCurrentUsed_34 ?_
          have hj7 : Int32.toNatClampNeg y2 < 24 := Nat.not_le.mp fun q => hn6 (Or.inr q)
          refine gf_7_2 hx hb htm hown hE hP hw hj7 (htm _ qw_177) dX5_isCurrentUsed_35 ?_
          refine lv_aload_n hx hb dX5_isCurrentUsed_38 rfl (lv_at hl 0 rfl) ?_
          refine lv_iload_n hx hb dX5_isCurrentUsed_39 rfl (lv_at hl 1 rfl) ?_
          obtain ⟨r8, hc8, hF⟩ := ob_S hF
          refine m_cVi X hS vw_X5_currentOf qw_334 (c_X5_currentOf hw hc8) ⟨rfl, rfl⟩ ⟨Nat.le_of_ble_eq_true rfl, Nat.le_of_ble_eq_true rfl⟩ (rc_0 hE hP hw) hP rfl hl.1 (rest := [.int (V 7 (Int32.toNatClampNeg y2) 2)]) rfl (Nat.le_of_ble_eq_true rfl) dX5_isCurrentUsed_40 (fun H locs hP hS => ?_)
          refine lv_icmp_ne (tgt := 48) hx hb dX5_isCurrentUsed_43 (by decide) (fun c9 => ?_) (fun c9 => ?_)
          · have hF := ite_F c9 hF
            refine lv_iinc (v := y2 + 1) (lv' := [(2, .int (y2 + 1)), (0, .ref (ad w 0 0)), (1, .int y1)]) hx hb dX5_isCurrentUsed_48 hl (k := 2) rfl rfl (by decide) rfl (fun ls hl => ?_)
            refine lv_goto (tgt := 2) hx hb dX5_isCurrentUsed_51 (by decide) ?_
            exact ih2 _ _  hP hS (lv_sub hl [1, 2, 0] rfl) hF
          · have hF := ite_T c9 hF
            refine lv_iconst (v := 1) hx hb dX5_isCurrentUsed_46 (by decide) ?_
            have e1 := Option.some.inj hF
            subst e1
            exact m_zret X hS hP rfl (Or.inr rfl) dX5_isCurrentUsed_47
set_option maxRecDepth 20000 in
set_option maxHeartbeats 4000000 in
theorem c_X5_isCurrentUsed {l : Launch} {D : va_G} {ad : Nat → Nat → Nat → Nat} {cI cZ cP : ClassId} {A : Nat → Prop} {w : Nat} (hw : w < 2) {G V U : MT} {x1 : Int32} {r : Int32}  (hF : f_X5_isCurrentUsed G V x1 = some r) : Met l yX5_isCurrentUsed (.code yX5_isCurrentUsed cX5_isCurrentUsed 3 (some .boolean) :: WM) rm_X5_isCurrentUsed (PcM D ad cI cZ cP A [.ref (ad w 0 0), .int x1] (Pic D ad cI cZ cP w G V U)) (QcI A r (Pic D ad cI cZ cP w G V U)) 0 0 A := by
  refine m_entry (by decide) (Nat.le_of_ble_eq_true rfl) (fun p e s m below meth c ls X hP hS hl => ?_)
  have X : MX p s m _ meth c cX5_isCurrentUsed RX5 3 (some .boolean) D ad cI cZ cP A := X
  obtain ⟨hx, hb, hml, hown, htm, hr, hlk, hE⟩ := id X
  have hl : lv_has ls 3 [(0, .ref (ad w 0 0)), (1, .int x1)] := hl
  refine lv_iconst (v := 0) hx hb dX5_isCurrentUsed_0 (by decide) ?_
  refine lv_istore_n (lv' := [(2, .int 0), (0, .ref (ad w 0 0)), (1, .int x1)]) hx hb dX5_isCurrentUsed_1 rfl hl (by decide) rfl (fun ls hl => ?_)
  exact l_X5_isCurrentUsed_2 X hw  30 _ _ hP hS (lv_sub hl [1, 2, 0] rfl) hF
def f_X5_hadSupervisor_2 (G V : MT) : Nat → Int32 → Int32 → Option (Int32)
  | 0, _, _ => none
  | n + 1, y1, y2 => if V 0 0 5 ≤ y2 then (some 0) else (if 24 ≤ y2 then (some 0) else (if ¬ (y2 < 0 ∨ 24 ≤ Int32.toNatClampNeg y2) then (if V 7 (Int32.toNatClampNeg y2) 3 = y1 then (some 1) else ((f_X5_hadSupervisor_2 G V n) y1 (y2 + 1))) else none))
def f_X5_hadSupervisor (G V : MT) (x1 : Int32) : Option (Int32) :=
  f_X5_hadSupervisor_2 G V  30 x1 0
def rm_X5_hadSupervisor : Room := { frames := 0, cells := 0, slots := 0, locals := 0 }
set_option maxRecDepth 20000 in
set_option maxHeartbeats 4000000 in
theorem l_X5_hadSupervisor_2 {p : Program} {l : Launch} {e : Env} {s : State} {m : MethodId} {args : Array Value} {below : List Frame} {meth : Method} {c : Code} {D : va_G} {ad : Nat → Nat → Nat → Nat} {cI cZ cP : ClassId} {A : Nat → Prop} {G V U : MT} {r : Int32} (X : MX p s m args meth c cX5_hadSupervisor RX5 3 (some .boolean) D ad cI cZ cP A) {w : Nat} (hw : w < 2) (n : Nat) : ∀ {H : Heap} {locs : List Loc} {ls : Array Slot} (y1 : Int32) (y2 : Int32), Pic D ad cI cZ cP w G V U H → va_S A s.heap H locs → lv_has ls 3 [(0, .ref (ad w 0 0)), (1, .int y1), (2, .int y2)] → f_X5_hadSupervisor_2 G V n y1 y2 = some r → W p l e rm_X5_hadSupervisor s m args below meth c H locs 0 0 (MQ below (QcI A r (Pic D ad cI cZ cP w G V U)) args s 0 0 A) (F0 m 2 ls []) := by
  obtain ⟨hx, hb, hml, hown, htm, hr, hlk, hE⟩ := id X
  induction n with
  | zero =>
    intros
    exact ns_S (by assumption)
  | succ n ih2 =>
    intro H locs ls y1 y2   hP hS hl hF
    rw [f_X5_hadSupervisor_2] at hF
    refine lv_iload_n hx hb dX5_hadSupervisor_2 rfl (lv_at hl 2 rfl) ?_
    refine lv_aload_n hx hb dX5_hadSupervisor_3 rfl (lv_at hl 0 rfl) ?_
    refine gf_0_5 hx hb htm hown hE hP hw (htm _ qw_155) dX5_hadSupervisor_4 ?_
    refine lv_icmp_ge (tgt := 37) hx hb dX5_hadSupervisor_7 (by decide) (fun c1 => ?_) (fun c1 => ?_)
    · have hF := ite_T c1 hF
      refine lv_iconst (v := 0) hx hb dX5_hadSupervisor_37 (by decide) ?_
      have e1 := Option.some.inj hF
      subst e1
      exact m_zret X hS hP rfl (Or.inl rfl) dX5_hadSupervisor_38
    · have hF := ite_F c1 hF
      refine lv_iload_n hx hb dX5_hadSupervisor_10 rfl (lv_at hl 2 rfl) ?_
      refine lv_bipush (v := 24) hx hb dX5_hadSupervisor_11 (by decide) ?_
      refine lv_icmp_ge (tgt := 37) hx hb dX5_hadSupervisor_13 (by decide) (fun c2 => ?_) (fun c2 => ?_)
      · have hF := ite_T c2 hF
        refine lv_iconst (v := 0) hx hb dX5_hadSupervisor_37 (by decide) ?_
        have e1 := Option.some.inj hF
        subst e1
        exact m_zret X hS hP rfl (Or.inl rfl) dX5_hadSupervisor_38
      · have hF := ite_F c2 hF
        refine lv_aload_n hx hb dX5_hadSupervisor_16 rfl (lv_at hl 0 rfl) ?_
        refine gf_0_4 hx hb htm hown hE hP hw (htm _ qw_143) dX5_hadSupervisor_17 ?_
        refine lv_iload_n hx hb dX5_hadSupervisor_20 rfl (lv_at hl 2 rfl) ?_
        obtain ⟨hn3, hF⟩ := ite_S hF
        refine mql hx hb htm hown hE hP hw hn3 dX5_hadSupervisor_21 ?_
        have hj4 : Int32.toNatClampNeg y2 < 24 := Nat.not_le.mp fun q => hn3 (Or.inr q)
        refine gf_7_3 hx hb htm hown hE hP hw hj4 (htm _ qw_181) dX5_hadSupervisor_22 ?_
        refine lv_iload_n hx hb dX5_hadSupervisor_25 rfl (lv_at hl 1 rfl) ?_
        refine lv_icmp_ne (tgt := 31) hx hb dX5_hadSupervisor_26 (by decide) (fun c5 => ?_) (fun c5 => ?_)
        · have hF := ite_F c5 hF
          refine lv_iinc (v := y2 + 1) (lv' := [(2, .int (y2 + 1)), (0, .ref (ad w 0 0)), (1, .int y1)]) hx hb dX5_hadSupervisor_31 hl (k := 2) rfl rfl (by decide) rfl (fun ls hl => ?_)
          refine lv_goto (tgt := 2) hx hb dX5_hadSupervisor_34 (by decide) ?_
          exact ih2 _ _  hP hS (lv_sub hl [1, 2, 0] rfl) hF
        · have hF := ite_T c5 hF
          refine lv_iconst (v := 1) hx hb dX5_hadSupervisor_29 (by decide) ?_
          have e1 := Option.some.inj hF
          subst e1
          exact m_zret X hS hP rfl (Or.inr rfl) dX5_hadSupervisor_30
set_option maxRecDepth 20000 in
set_option maxHeartbeats 4000000 in
theorem c_X5_hadSupervisor {l : Launch} {D : va_G} {ad : Nat → Nat → Nat → Nat} {cI cZ cP : ClassId} {A : Nat → Prop} {w : Nat} (hw : w < 2) {G V U : MT} {x1 : Int32} {r : Int32}  (hF : f_X5_hadSupervisor G V x1 = some r) : Met l yX5_hadSupervisor (.code yX5_hadSupervisor cX5_hadSupervisor 3 (some .boolean) :: WM) rm_X5_hadSupervisor (PcM D ad cI cZ cP A [.ref (ad w 0 0), .int x1] (Pic D ad cI cZ cP w G V U)) (QcI A r (Pic D ad cI cZ cP w G V U)) 0 0 A := by
  refine m_entry (by decide) (Nat.le_of_ble_eq_true rfl) (fun p e s m below meth c ls X hP hS hl => ?_)
  have X : MX p s m _ meth c cX5_hadSupervisor RX5 3 (some .boolean) D ad cI cZ cP A := X
  obtain ⟨hx, hb, hml, hown, htm, hr, hlk, hE⟩ := id X
  have hl : lv_has ls 3 [(0, .ref (ad w 0 0)), (1, .int x1)] := hl
  refine lv_iconst (v := 0) hx hb dX5_hadSupervisor_0 (by decide) ?_
  refine lv_istore_n (lv' := [(2, .int 0), (0, .ref (ad w 0 0)), (1, .int x1)]) hx hb dX5_hadSupervisor_1 rfl hl (by decide) rfl (fun ls hl => ?_)
  exact l_X5_hadSupervisor_2 X hw  30 _ _ hP hS (lv_sub hl [1, 2, 0] rfl) hF
def f_X5_supervisors_4 (G V : MT) : Nat → Int32 → Int32 → Option (Int32)
  | 0, _, _ => none
  | n + 1, y1, y2 => if V 0 0 5 ≤ y2 then (some y1) else (if 24 ≤ y2 then (some y1) else (if ¬ (y2 < 0 ∨ 24 ≤ Int32.toNatClampNeg y2) then ((f_X2_isSupervisor V (Int32.toNatClampNeg y2)).bind (fun q5_ => if q5_ = 0 then ((f_X5_supervisors_4 G V n) y1 (y2 + 1)) else ((f_X5_supervisors_4 G V n) (y1 + 1) (y2 + 1)))) else none))
def f_X5_supervisors (G V : MT)  : Option (Int32) :=
  f_X5_supervisors_4 G V  30 0 0
def rm_X5_supervisors : Room := { frames := 1, cells := 0, slots := 0, locals := 20 }
set_option maxRecDepth 20000 in
set_option maxHeartbeats 4000000 in
theorem l_X5_supervisors_4 {p : Program} {l : Launch} {e : Env} {s : State} {m : MethodId} {args : Array Value} {below : List Frame} {meth : Method} {c : Code} {D : va_G} {ad : Nat → Nat → Nat → Nat} {cI cZ cP : ClassId} {A : Nat → Prop} {G V U : MT} {r : Int32} (X : MX p s m args meth c cX5_supervisors RX5 3 (some .int) D ad cI cZ cP A) {w : Nat} (hw : w < 2) (n : Nat) : ∀ {H : Heap} {locs : List Loc} {ls : Array Slot} (y1 : Int32) (y2 : Int32), Pic D ad cI cZ cP w G V U H → va_S A s.heap H locs → lv_has ls 3 [(0, .ref (ad w 0 0)), (1, .int y1), (2, .int y2)] → f_X5_supervisors_4 G V n y1 y2 = some r → W p l e rm_X5_supervisors s m args below meth c H locs 0 0 (MQ below (QcI A r (Pic D ad cI cZ cP w G V U)) args s 0 0 A) (F0 m 4 ls []) := by
  obtain ⟨hx, hb, hml, hown, htm, hr, hlk, hE⟩ := id X
  induction n with
  | zero =>
    intros
    exact ns_S (by assumption)
  | succ n ih4 =>
    intro H locs ls y1 y2   hP hS hl hF
    rw [f_X5_supervisors_4] at hF
    refine lv_iload_n hx hb dX5_supervisors_4 rfl (lv_at hl 2 rfl) ?_
    refine lv_aload_n hx hb dX5_supervisors_5 rfl (lv_at hl 0 rfl) ?_
    refine gf_0_5 hx hb htm hown hE hP hw (htm _ qw_155) dX5_supervisors_6 ?_
    refine lv_icmp_ge (tgt := 39) hx hb dX5_supervisors_9 (by decide) (fun c1 => ?_) (fun c1 => ?_)
    · have hF := ite_T c1 hF
      refine lv_iload_n hx hb dX5_supervisors_39 rfl (lv_at hl 1 rfl) ?_
      have e1 := Option.some.inj hF
      subst e1
      exact m_iret X hS hP rfl dX5_supervisors_40
    · have hF := ite_F c1 hF
      refine lv_iload_n hx hb dX5_supervisors_12 rfl (lv_at hl 2 rfl) ?_
      refine lv_bipush (v := 24) hx hb dX5_supervisors_13 (by decide) ?_
      refine lv_icmp_ge (tgt := 39) hx hb dX5_supervisors_15 (by decide) (fun c2 => ?_) (fun c2 => ?_)
      · have hF := ite_T c2 hF
        refine lv_iload_n hx hb dX5_supervisors_39 rfl (lv_at hl 1 rfl) ?_
        have e1 := Option.some.inj hF
        subst e1
        exact m_iret X hS hP rfl dX5_supervisors_40
      · have hF := ite_F c2 hF
        refine lv_aload_n hx hb dX5_supervisors_18 rfl (lv_at hl 0 rfl) ?_
        refine gf_0_4 hx hb htm hown hE hP hw (htm _ qw_143) dX5_supervisors_19 ?_
        refine lv_iload_n hx hb dX5_supervisors_22 rfl (lv_at hl 2 rfl) ?_
        obtain ⟨hn3, hF⟩ := ite_S hF
        refine mql hx hb htm hown hE hP hw hn3 dX5_supervisors_23 ?_
        have hj4 : Int32.toNatClampNeg y2 < 24 := Nat.not_le.mp fun q => hn3 (Or.inr q)
        obtain ⟨r5, hc5, hF⟩ := ob_S hF
        refine m_cVi X hS vw_X2_isSupervisor qw_220 (c_X2_isSupervisor hw hj4 hc5) ⟨rfl, rfl⟩ ⟨Nat.le_of_ble_eq_true rfl, Nat.le_of_ble_eq_true rfl⟩ (rc_7 hE hP hw hj4) hP rfl hl.1 (rest := []) rfl (Nat.le_of_ble_eq_true rfl) dX5_supervisors_24 (fun H locs hP hS => ?_)
        refine lv_if_eq (tgt := 33) hx hb dX5_supervisors_27 (by decide) (fun c6 => ?_) (fun c6 => ?_)
        · have hF := ite_T c6 hF
          refine lv_iinc (v := y2 + 1) (lv' := [(2, .int (y2 + 1)), (0, .ref (ad w 0 0)), (1, .int y1)]) hx hb dX5_supervisors_33 hl (k := 2) rfl rfl (by decide) rfl (fun ls hl => ?_)
          refine lv_goto (tgt := 4) hx hb dX5_supervisors_36 (by decide) ?_
          exact ih4 _ _  hP hS (lv_sub hl [1, 2, 0] rfl) hF
        · have hF := ite_F c6 hF
          refine lv_iinc (v := y1 + 1) (lv' := [(1, .int (y1 + 1)), (0, .ref (ad w 0 0)), (2, .int y2)]) hx hb dX5_supervisors_30 hl (k := 1) rfl rfl (by decide) rfl (fun ls hl => ?_)
          refine lv_iinc (v := y2 + 1) (lv' := [(2, .int (y2 + 1)), (1, .int (y1 + 1)), (0, .ref (ad w 0 0))]) hx hb dX5_supervisors_33 hl (k := 2) rfl rfl (by decide) rfl (fun ls hl => ?_)
          refine lv_goto (tgt := 4) hx hb dX5_supervisors_36 (by decide) ?_
          exact ih4 _ _  hP hS (lv_sub hl [2, 1, 0] rfl) hF
set_option maxRecDepth 20000 in
set_option maxHeartbeats 4000000 in
theorem c_X5_supervisors {l : Launch} {D : va_G} {ad : Nat → Nat → Nat → Nat} {cI cZ cP : ClassId} {A : Nat → Prop} {w : Nat} (hw : w < 2) {G V U : MT}  {r : Int32}  (hF : f_X5_supervisors G V  = some r) : Met l yX5_supervisors (.code yX5_supervisors cX5_supervisors 3 (some .int) :: WM) rm_X5_supervisors (PcM D ad cI cZ cP A [.ref (ad w 0 0)] (Pic D ad cI cZ cP w G V U)) (QcI A r (Pic D ad cI cZ cP w G V U)) 0 0 A := by
  refine m_entry (by decide) (Nat.le_of_ble_eq_true rfl) (fun p e s m below meth c ls X hP hS hl => ?_)
  have X : MX p s m _ meth c cX5_supervisors RX5 3 (some .int) D ad cI cZ cP A := X
  obtain ⟨hx, hb, hml, hown, htm, hr, hlk, hE⟩ := id X
  have hl : lv_has ls 3 [(0, .ref (ad w 0 0))] := hl
  refine lv_iconst (v := 0) hx hb dX5_supervisors_0 (by decide) ?_
  refine lv_istore_n (lv' := [(1, .int 0), (0, .ref (ad w 0 0))]) hx hb dX5_supervisors_1 rfl hl (by decide) rfl (fun ls hl => ?_)
  refine lv_iconst (v := 0) hx hb dX5_supervisors_2 (by decide) ?_
  refine lv_istore_n (lv' := [(2, .int 0), (1, .int 0), (0, .ref (ad w 0 0))]) hx hb dX5_supervisors_3 rfl hl (by decide) rfl (fun ls hl => ?_)
  exact l_X5_supervisors_4 X hw  30 _ _ hP hS (lv_sub hl [2, 1, 0] rfl) hF
def f_X5_withStatus_4 (G V : MT) : Nat → Int32 → Int32 → Int32 → Option (Int32)
  | 0, _, _, _ => none
  | n + 1, y1, y2, y3 => if V 0 0 5 ≤ y3 then (some y2) else (if 24 ≤ y3 then (some y2) else (if ¬ (y3 < 0 ∨ 24 ≤ Int32.toNatClampNeg y3) then (if V 7 (Int32.toNatClampNeg y3) 5 = y1 then ((f_X5_withStatus_4 G V n) y1 (y2 + 1) (y3 + 1)) else ((f_X5_withStatus_4 G V n) y1 y2 (y3 + 1))) else none))
def f_X5_withStatus (G V : MT) (x1 : Int32) : Option (Int32) :=
  f_X5_withStatus_4 G V  30 x1 0 0
def rm_X5_withStatus : Room := { frames := 0, cells := 0, slots := 0, locals := 0 }
set_option maxRecDepth 20000 in
set_option maxHeartbeats 4000000 in
theorem l_X5_withStatus_4 {p : Program} {l : Launch} {e : Env} {s : State} {m : MethodId} {args : Array Value} {below : List Frame} {meth : Method} {c : Code} {D : va_G} {ad : Nat → Nat → Nat → Nat} {cI cZ cP : ClassId} {A : Nat → Prop} {G V U : MT} {r : Int32} (X : MX p s m args meth c cX5_withStatus RX5 4 (some .int) D ad cI cZ cP A) {w : Nat} (hw : w < 2) (n : Nat) : ∀ {H : Heap} {locs : List Loc} {ls : Array Slot} (y1 : Int32) (y2 : Int32) (y3 : Int32), Pic D ad cI cZ cP w G V U H → va_S A s.heap H locs → lv_has ls 4 [(0, .ref (ad w 0 0)), (1, .int y1), (2, .int y2), (3, .int y3)] → f_X5_withStatus_4 G V n y1 y2 y3 = some r → W p l e rm_X5_withStatus s m args below meth c H locs 0 0 (MQ below (QcI A r (Pic D ad cI cZ cP w G V U)) args s 0 0 A) (F0 m 4 ls []) := by
  obtain ⟨hx, hb, hml, hown, htm, hr, hlk, hE⟩ := id X
  induction n with
  | zero =>
    intros
    exact ns_S (by assumption)
  | succ n ih4 =>
    intro H locs ls y1 y2 y3   hP hS hl hF
    rw [f_X5_withStatus_4] at hF
    refine lv_iload_n hx hb dX5_withStatus_4 rfl (lv_at hl 3 rfl) ?_
    refine lv_aload_n hx hb dX5_withStatus_5 rfl (lv_at hl 0 rfl) ?_
    refine gf_0_5 hx hb htm hown hE hP hw (htm _ qw_155) dX5_withStatus_6 ?_
    refine lv_icmp_ge (tgt := 40) hx hb dX5_withStatus_9 (by decide) (fun c1 => ?_) (fun c1 => ?_)
    · have hF := ite_T c1 hF
      refine lv_iload_n hx hb dX5_withStatus_40 rfl (lv_at hl 2 rfl) ?_
      have e1 := Option.some.inj hF
      subst e1
      exact m_iret X hS hP rfl dX5_withStatus_41
    · have hF := ite_F c1 hF
      refine lv_iload_n hx hb dX5_withStatus_12 rfl (lv_at hl 3 rfl) ?_
      refine lv_bipush (v := 24) hx hb dX5_withStatus_13 (by decide) ?_
      refine lv_icmp_ge (tgt := 40) hx hb dX5_withStatus_15 (by decide) (fun c2 => ?_) (fun c2 => ?_)
      · have hF := ite_T c2 hF
        refine lv_iload_n hx hb dX5_withStatus_40 rfl (lv_at hl 2 rfl) ?_
        have e1 := Option.some.inj hF
        subst e1
        exact m_iret X hS hP rfl dX5_withStatus_41
      · have hF := ite_F c2 hF
        refine lv_aload_n hx hb dX5_withStatus_18 rfl (lv_at hl 0 rfl) ?_
        refine gf_0_4 hx hb htm hown hE hP hw (htm _ qw_143) dX5_withStatus_19 ?_
        refine lv_iload_n hx hb dX5_withStatus_22 rfl (lv_at hl 3 rfl) ?_
        obtain ⟨hn3, hF⟩ := ite_S hF
        refine mql hx hb htm hown hE hP hw hn3 dX5_withStatus_23 ?_
        have hj4 : Int32.toNatClampNeg y3 < 24 := Nat.not_le.mp fun q => hn3 (Or.inr q)
        refine gf_7_5 hx hb htm hown hE hP hw hj4 (htm _ qw_170) dX5_withStatus_24 ?_
        refine lv_iload_n hx hb dX5_withStatus_27 rfl (lv_at hl 1 rfl) ?_
        refine lv_icmp_ne (tgt := 34) hx hb dX5_withStatus_28 (by decide) (fun c5 => ?_) (fun c5 => ?_)
        · have hF := ite_F c5 hF
          refine lv_iinc (v := y3 + 1) (lv' := [(3, .int (y3 + 1)), (0, .ref (ad w 0 0)), (1, .int y1), (2, .int y2)]) hx hb dX5_withStatus_34 hl (k := 3) rfl rfl (by decide) rfl (fun ls hl => ?_)
          refine lv_goto (tgt := 4) hx hb dX5_withStatus_37 (by decide) ?_
          exact ih4 _ _ _  hP hS (lv_sub hl [1, 2, 3, 0] rfl) hF
        · have hF := ite_T c5 hF
          refine lv_iinc (v := y2 + 1) (lv' := [(2, .int (y2 + 1)), (0, .ref (ad w 0 0)), (1, .int y1), (3, .int y3)]) hx hb dX5_withStatus_31 hl (k := 2) rfl rfl (by decide) rfl (fun ls hl => ?_)
          refine lv_iinc (v := y3 + 1) (lv' := [(3, .int (y3 + 1)), (2, .int (y2 + 1)), (0, .ref (ad w 0 0)), (1, .int y1)]) hx hb dX5_withStatus_34 hl (k := 3) rfl rfl (by decide) rfl (fun ls hl => ?_)
          refine lv_goto (tgt := 4) hx hb dX5_withStatus_37 (by decide) ?_
          exact ih4 _ _ _  hP hS (lv_sub hl [2, 3, 1, 0] rfl) hF
set_option maxRecDepth 20000 in
set_option maxHeartbeats 4000000 in
theorem c_X5_withStatus {l : Launch} {D : va_G} {ad : Nat → Nat → Nat → Nat} {cI cZ cP : ClassId} {A : Nat → Prop} {w : Nat} (hw : w < 2) {G V U : MT} {x1 : Int32} {r : Int32}  (hF : f_X5_withStatus G V x1 = some r) : Met l yX5_withStatus (.code yX5_withStatus cX5_withStatus 4 (some .int) :: WM) rm_X5_withStatus (PcM D ad cI cZ cP A [.ref (ad w 0 0), .int x1] (Pic D ad cI cZ cP w G V U)) (QcI A r (Pic D ad cI cZ cP w G V U)) 0 0 A := by
  refine m_entry (by decide) (Nat.le_of_ble_eq_true rfl) (fun p e s m below meth c ls X hP hS hl => ?_)
  have X : MX p s m _ meth c cX5_withStatus RX5 4 (some .int) D ad cI cZ cP A := X
  obtain ⟨hx, hb, hml, hown, htm, hr, hlk, hE⟩ := id X
  have hl : lv_has ls 4 [(0, .ref (ad w 0 0)), (1, .int x1)] := hl
  refine lv_iconst (v := 0) hx hb dX5_withStatus_0 (by decide) ?_
  refine lv_istore_n (lv' := [(2, .int 0), (0, .ref (ad w 0 0)), (1, .int x1)]) hx hb dX5_withStatus_1 rfl hl (by decide) rfl (fun ls hl => ?_)
  refine lv_iconst (v := 0) hx hb dX5_withStatus_2 (by decide) ?_
  refine lv_istore_n (lv' := [(3, .int 0), (2, .int 0), (0, .ref (ad w 0 0)), (1, .int x1)]) hx hb dX5_withStatus_3 rfl hl (by decide) rfl (fun ls hl => ?_)
  exact l_X5_withStatus_4 X hw  30 _ _ _ hP hS (lv_sub hl [2, 3, 1, 0] rfl) hF
def f_X5_linkCount_4 (G V : MT) : Nat → Int32 → Int32 → Option (Int32)
  | 0, _, _ => none
  | n + 1, y1, y2 => if V 0 0 5 ≤ y2 then (some (y1 / 2)) else (if 24 ≤ y2 then (some (y1 / 2)) else (if ¬ (y2 < 0 ∨ 24 ≤ Int32.toNatClampNeg y2) then ((f_J6_bitCount_0f7a4 (V 7 (Int32.toNatClampNeg y2) 13)).bind (fun q5_ => (f_X5_linkCount_4 G V n) (y1 + q5_) (y2 + 1))) else none))
def f_X5_linkCount (G V : MT)  : Option (Int32) :=
  f_X5_linkCount_4 G V  30 0 0
def rm_X5_linkCount : Room := { frames := 1, cells := 0, slots := 0, locals := 20 }
set_option maxRecDepth 20000 in
set_option maxHeartbeats 4000000 in
theorem l_X5_linkCount_4 {p : Program} {l : Launch} {e : Env} {s : State} {m : MethodId} {args : Array Value} {below : List Frame} {meth : Method} {c : Code} {D : va_G} {ad : Nat → Nat → Nat → Nat} {cI cZ cP : ClassId} {A : Nat → Prop} {G V U : MT} {r : Int32} (X : MX p s m args meth c cX5_linkCount RX5 3 (some .int) D ad cI cZ cP A) {w : Nat} (hw : w < 2) (n : Nat) : ∀ {H : Heap} {locs : List Loc} {ls : Array Slot} (y1 : Int32) (y2 : Int32), Pic D ad cI cZ cP w G V U H → va_S A s.heap H locs → lv_has ls 3 [(0, .ref (ad w 0 0)), (1, .int y1), (2, .int y2)] → f_X5_linkCount_4 G V n y1 y2 = some r → W p l e rm_X5_linkCount s m args below meth c H locs 0 0 (MQ below (QcI A r (Pic D ad cI cZ cP w G V U)) args s 0 0 A) (F0 m 4 ls []) := by
  obtain ⟨hx, hb, hml, hown, htm, hr, hlk, hE⟩ := id X
  induction n with
  | zero =>
    intros
    exact ns_S (by assumption)
  | succ n ih4 =>
    intro H locs ls y1 y2   hP hS hl hF
    rw [f_X5_linkCount_4] at hF
    refine lv_iload_n hx hb dX5_linkCount_4 rfl (lv_at hl 2 rfl) ?_
    refine lv_aload_n hx hb dX5_linkCount_5 rfl (lv_at hl 0 rfl) ?_
    refine gf_0_5 hx hb htm hown hE hP hw (htm _ qw_155) dX5_linkCount_6 ?_
    refine lv_icmp_ge (tgt := 39) hx hb dX5_linkCount_9 (by decide) (fun c1 => ?_) (fun c1 => ?_)
    · have hF := ite_T c1 hF
      refine lv_iload_n hx hb dX5_linkCount_39 rfl (lv_at hl 1 rfl) ?_
      refine lv_iconst (v := 2) hx hb dX5_linkCount_40 (by decide) ?_
      refine lv_idiv hx hb dX5_linkCount_41 (by decide) ?_
      have e1 := Option.some.inj hF
      subst e1
      exact m_iret X hS hP rfl dX5_linkCount_42
    · have hF := ite_F c1 hF
      refine lv_iload_n hx hb dX5_linkCount_12 rfl (lv_at hl 2 rfl) ?_
      refine lv_bipush (v := 24) hx hb dX5_linkCount_13 (by decide) ?_
      refine lv_icmp_ge (tgt := 39) hx hb dX5_linkCount_15 (by decide) (fun c2 => ?_) (fun c2 => ?_)
      · have hF := ite_T c2 hF
        refine lv_iload_n hx hb dX5_linkCount_39 rfl (lv_at hl 1 rfl) ?_
        refine lv_iconst (v := 2) hx hb dX5_linkCount_40 (by decide) ?_
        refine lv_idiv hx hb dX5_linkCount_41 (by decide) ?_
        have e1 := Option.some.inj hF
        subst e1
        exact m_iret X hS hP rfl dX5_linkCount_42
      · have hF := ite_F c2 hF
        refine lv_iload_n hx hb dX5_linkCount_18 rfl (lv_at hl 1 rfl) ?_
        refine lv_aload_n hx hb dX5_linkCount_19 rfl (lv_at hl 0 rfl) ?_
        refine gf_0_4 hx hb htm hown hE hP hw (htm _ qw_143) dX5_linkCount_20 ?_
        refine lv_iload_n hx hb dX5_linkCount_23 rfl (lv_at hl 2 rfl) ?_
        obtain ⟨hn3, hF⟩ := ite_S hF
        refine mql hx hb htm hown hE hP hw hn3 dX5_linkCount_24 ?_
        have hj4 : Int32.toNatClampNeg y2 < 24 := Nat.not_le.mp fun q => hn3 (Or.inr q)
        refine gf_7_13 hx hb htm hown hE hP hw hj4 (htm _ qw_241) dX5_linkCount_25 ?_
        obtain ⟨r5, hc5, hF⟩ := ob_S hF
        refine m_cOi X hS sw_J6_bitCount_0f7a4 qw_364 (c_J6_bitCount_0f7a4 hc5) ⟨rfl, rfl⟩ ⟨Nat.le_of_ble_eq_true rfl, Nat.le_of_ble_eq_true rfl⟩ hP rfl hl.1 (rest := [.int y1]) rfl (Nat.le_of_ble_eq_true rfl) dX5_linkCount_28 (fun H locs hP hS => ?_)
        refine lv_iadd hx hb dX5_linkCount_31 ?_
        refine lv_istore_n (lv' := [(1, .int (y1 + r5)), (0, .ref (ad w 0 0)), (2, .int y2)]) hx hb dX5_linkCount_32 rfl hl (by decide) rfl (fun ls hl => ?_)
        refine lv_iinc (v := y2 + 1) (lv' := [(2, .int (y2 + 1)), (1, .int (y1 + r5)), (0, .ref (ad w 0 0))]) hx hb dX5_linkCount_33 hl (k := 2) rfl rfl (by decide) rfl (fun ls hl => ?_)
        refine lv_goto (tgt := 4) hx hb dX5_linkCount_36 (by decide) ?_
        exact ih4 _ _  hP hS (lv_sub hl [2, 1, 0] rfl) hF
set_option maxRecDepth 20000 in
set_option maxHeartbeats 4000000 in
theorem c_X5_linkCount {l : Launch} {D : va_G} {ad : Nat → Nat → Nat → Nat} {cI cZ cP : ClassId} {A : Nat → Prop} {w : Nat} (hw : w < 2) {G V U : MT}  {r : Int32}  (hF : f_X5_linkCount G V  = some r) : Met l yX5_linkCount (.code yX5_linkCount cX5_linkCount 3 (some .int) :: WM) rm_X5_linkCount (PcM D ad cI cZ cP A [.ref (ad w 0 0)] (Pic D ad cI cZ cP w G V U)) (QcI A r (Pic D ad cI cZ cP w G V U)) 0 0 A := by
  refine m_entry (by decide) (Nat.le_of_ble_eq_true rfl) (fun p e s m below meth c ls X hP hS hl => ?_)
  have X : MX p s m _ meth c cX5_linkCount RX5 3 (some .int) D ad cI cZ cP A := X
  obtain ⟨hx, hb, hml, hown, htm, hr, hlk, hE⟩ := id X
  have hl : lv_has ls 3 [(0, .ref (ad w 0 0))] := hl
  refine lv_iconst (v := 0) hx hb dX5_linkCount_0 (by decide) ?_
  refine lv_istore_n (lv' := [(1, .int 0), (0, .ref (ad w 0 0))]) hx hb dX5_linkCount_1 rfl hl (by decide) rfl (fun ls hl => ?_)
  refine lv_iconst (v := 0) hx hb dX5_linkCount_2 (by decide) ?_
  refine lv_istore_n (lv' := [(2, .int 0), (1, .int 0), (0, .ref (ad w 0 0))]) hx hb dX5_linkCount_3 rfl hl (by decide) rfl (fun ls hl => ?_)
  exact l_X5_linkCount_4 X hw  30 _ _ hP hS (lv_sub hl [2, 1, 0] rfl) hF
def f_X5_mailCount_4 (G V : MT) : Nat → Int32 → Int32 → Option (Int32)
  | 0, _, _ => none
  | n + 1, y1, y2 => if V 0 0 5 ≤ y2 then (some y1) else (if 24 ≤ y2 then (some y1) else (if ¬ (y2 < 0 ∨ 24 ≤ Int32.toNatClampNeg y2) then ((f_X5_mailCount_4 G V n) (y1 + (V 10 (Int32.toNatClampNeg y2) 2)) (y2 + 1)) else none))
def f_X5_mailCount (G V : MT)  : Option (Int32) :=
  f_X5_mailCount_4 G V  30 0 0
def rm_X5_mailCount : Room := { frames := 0, cells := 0, slots := 0, locals := 0 }
set_option maxRecDepth 20000 in
set_option maxHeartbeats 4000000 in
theorem l_X5_mailCount_4 {p : Program} {l : Launch} {e : Env} {s : State} {m : MethodId} {args : Array Value} {below : List Frame} {meth : Method} {c : Code} {D : va_G} {ad : Nat → Nat → Nat → Nat} {cI cZ cP : ClassId} {A : Nat → Prop} {G V U : MT} {r : Int32} (X : MX p s m args meth c cX5_mailCount RX5 3 (some .int) D ad cI cZ cP A) {w : Nat} (hw : w < 2) (n : Nat) : ∀ {H : Heap} {locs : List Loc} {ls : Array Slot} (y1 : Int32) (y2 : Int32), Pic D ad cI cZ cP w G V U H → va_S A s.heap H locs → lv_has ls 3 [(0, .ref (ad w 0 0)), (1, .int y1), (2, .int y2)] → f_X5_mailCount_4 G V n y1 y2 = some r → W p l e rm_X5_mailCount s m args below meth c H locs 0 0 (MQ below (QcI A r (Pic D ad cI cZ cP w G V U)) args s 0 0 A) (F0 m 4 ls []) := by
  obtain ⟨hx, hb, hml, hown, htm, hr, hlk, hE⟩ := id X
  induction n with
  | zero =>
    intros
    exact ns_S (by assumption)
  | succ n ih4 =>
    intro H locs ls y1 y2   hP hS hl hF
    rw [f_X5_mailCount_4] at hF
    refine lv_iload_n hx hb dX5_mailCount_4 rfl (lv_at hl 2 rfl) ?_
    refine lv_aload_n hx hb dX5_mailCount_5 rfl (lv_at hl 0 rfl) ?_
    refine gf_0_5 hx hb htm hown hE hP hw (htm _ qw_155) dX5_mailCount_6 ?_
    refine lv_icmp_ge (tgt := 39) hx hb dX5_mailCount_9 (by decide) (fun c1 => ?_) (fun c1 => ?_)
    · have hF := ite_T c1 hF
      refine lv_iload_n hx hb dX5_mailCount_39 rfl (lv_at hl 1 rfl) ?_
      have e1 := Option.some.inj hF
      subst e1
      exact m_iret X hS hP rfl dX5_mailCount_40
    · have hF := ite_F c1 hF
      refine lv_iload_n hx hb dX5_mailCount_12 rfl (lv_at hl 2 rfl) ?_
      refine lv_bipush (v := 24) hx hb dX5_mailCount_13 (by decide) ?_
      refine lv_icmp_ge (tgt := 39) hx hb dX5_mailCount_15 (by decide) (fun c2 => ?_) (fun c2 => ?_)
      · have hF := ite_T c2 hF
        refine lv_iload_n hx hb dX5_mailCount_39 rfl (lv_at hl 1 rfl) ?_
        have e1 := Option.some.inj hF
        subst e1
        exact m_iret X hS hP rfl dX5_mailCount_40
      · have hF := ite_F c2 hF
        refine lv_iload_n hx hb dX5_mailCount_18 rfl (lv_at hl 1 rfl) ?_
        refine lv_aload_n hx hb dX5_mailCount_19 rfl (lv_at hl 0 rfl) ?_
        refine gf_0_4 hx hb htm hown hE hP hw (htm _ qw_143) dX5_mailCount_20 ?_
        refine lv_iload_n hx hb dX5_mailCount_23 rfl (lv_at hl 2 rfl) ?_
        obtain ⟨hn3, hF⟩ := ite_S hF
        refine mql hx hb htm hown hE hP hw hn3 dX5_mailCount_24 ?_
        have hj4 : Int32.toNatClampNeg y2 < 24 := Nat.not_le.mp fun q => hn3 (Or.inr q)
        refine gf_7_17 hx hb htm hown hE hP hw hj4 (htm _ qw_187) dX5_mailCount_25 ?_
        refine gf_10_2 hx hb htm hown hE hP hw hj4 (htm _ qw_188) dX5_mailCount_28 ?_
        refine lv_iadd hx hb dX5_mailCount_31 ?_
        refine lv_istore_n (lv' := [(1, .int (y1 + (V 10 (Int32.toNatClampNeg y2) 2))), (0, .ref (ad w 0 0)), (2, .int y2)]) hx hb dX5_mailCount_32 rfl hl (by decide) rfl (fun ls hl => ?_)
        refine lv_iinc (v := y2 + 1) (lv' := [(2, .int (y2 + 1)), (1, .int (y1 + (V 10 (Int32.toNatClampNeg y2) 2))), (0, .ref (ad w 0 0))]) hx hb dX5_mailCount_33 hl (k := 2) rfl rfl (by decide) rfl (fun ls hl => ?_)
        refine lv_goto (tgt := 4) hx hb dX5_mailCount_36 (by decide) ?_
        exact ih4 _ _  hP hS (lv_sub hl [2, 1, 0] rfl) hF
set_option maxRecDepth 20000 in
set_option maxHeartbeats 4000000 in
theorem c_X5_mailCount {l : Launch} {D : va_G} {ad : Nat → Nat → Nat → Nat} {cI cZ cP : ClassId} {A : Nat → Prop} {w : Nat} (hw : w < 2) {G V U : MT}  {r : Int32}  (hF : f_X5_mailCount G V  = some r) : Met l yX5_mailCount (.code yX5_mailCount cX5_mailCount 3 (some .int) :: WM) rm_X5_mailCount (PcM D ad cI cZ cP A [.ref (ad w 0 0)] (Pic D ad cI cZ cP w G V U)) (QcI A r (Pic D ad cI cZ cP w G V U)) 0 0 A := by
  refine m_entry (by decide) (Nat.le_of_ble_eq_true rfl) (fun p e s m below meth c ls X hP hS hl => ?_)
  have X : MX p s m _ meth c cX5_mailCount RX5 3 (some .int) D ad cI cZ cP A := X
  obtain ⟨hx, hb, hml, hown, htm, hr, hlk, hE⟩ := id X
  have hl : lv_has ls 3 [(0, .ref (ad w 0 0))] := hl
  refine lv_iconst (v := 0) hx hb dX5_mailCount_0 (by decide) ?_
  refine lv_istore_n (lv' := [(1, .int 0), (0, .ref (ad w 0 0))]) hx hb dX5_mailCount_1 rfl hl (by decide) rfl (fun ls hl => ?_)
  refine lv_iconst (v := 0) hx hb dX5_mailCount_2 (by decide) ?_
  refine lv_istore_n (lv' := [(2, .int 0), (1, .int 0), (0, .ref (ad w 0 0))]) hx hb dX5_mailCount_3 rfl hl (by decide) rfl (fun ls hl => ?_)
  exact l_X5_mailCount_4 X hw  30 _ _ hP hS (lv_sub hl [2, 1, 0] rfl) hF
def f_X5_passTime_14 (G : MT) : Nat → Int32 → Int32 → MT → Option (Int32 × MT)
  | 0, _, _, _ => none
  | n + 1, y1, y2, V => if V 0 0 5 ≤ y2 then (some (y1, V)) else (if 24 ≤ y2 then (some (y1, V)) else (if ¬ (y2 < 0 ∨ 24 ≤ Int32.toNatClampNeg y2) then (if V 7 (Int32.toNatClampNeg y2) 5 = 1 then (if ¬ (y2 < 0 ∨ 24 ≤ Int32.toNatClampNeg y2) then (if V 7 (Int32.toNatClampNeg y2) 9 = V 0 0 6 then (if ¬ (y2 < 0 ∨ 24 ≤ Int32.toNatClampNeg y2) then ((f_X5_ready G V (Int32.toNatClampNeg y2)).bind (fun q11_ => (f_X5_passTime_14 G n) (y1 + 1) (y2 + 1) q11_)) else none) else ((f_X5_passTime_14 G n) y1 (y2 + 1) V)) else none) else ((f_X5_passTime_14 G n) y1 (y2 + 1) V)) else none))
def f_X5_passTime (G V : MT)  : Option (Int32 × MT) :=
  f_X5_passTime_14 G  30 0 0 (pt V 0 0 6 ((V 0 0 6) + 1))
def rm_X5_passTime : Room := { frames := 1, cells := 0, slots := 0, locals := 21 }
set_option maxRecDepth 20000 in
set_option maxHeartbeats 4000000 in
theorem l_X5_passTime_14 {p : Program} {l : Launch} {e : Env} {s : State} {m : MethodId} {args : Array Value} {below : List Frame} {meth : Method} {c : Code} {D : va_G} {ad : Nat → Nat → Nat → Nat} {cI cZ cP : ClassId} {A : Nat → Prop} {G U : MT} {r : Int32} {V' : MT} (X : MX p s m args meth c cX5_passTime RX5 3 (some .int) D ad cI cZ cP A) {w : Nat} (hw : w < 2) (n : Nat) : ∀ {H : Heap} {locs : List Loc} {ls : Array Slot} (y1 : Int32) (y2 : Int32) (V : MT), Pic D ad cI cZ cP w G V U H → va_S A s.heap H locs → lv_has ls 3 [(0, .ref (ad w 0 0)), (1, .int y1), (2, .int y2)] → f_X5_passTime_14 G n y1 y2 V = some (r, V') → W p l e rm_X5_passTime s m args below meth c H locs 0 0 (MQ below (QcI A r (Pic D ad cI cZ cP w G V' U)) args s 0 0 A) (F0 m 14 ls []) := by
  obtain ⟨hx, hb, hml, hown, htm, hr, hlk, hE⟩ := id X
  induction n with
  | zero =>
    intros
    exact ns_S (by assumption)
  | succ n ih14 =>
    intro H locs ls y1 y2 V   hP hS hl hF
    rw [f_X5_passTime_14] at hF
    refine lv_iload_n hx hb dX5_passTime_14 rfl (lv_at hl 2 rfl) ?_
    refine lv_aload_n hx hb dX5_passTime_15 rfl (lv_at hl 0 rfl) ?_
    refine gf_0_5 hx hb htm hown hE hP hw (htm _ qw_155) dX5_passTime_16 ?_
    refine lv_icmp_ge (tgt := 76) hx hb dX5_passTime_19 (by decide) (fun c1 => ?_) (fun c1 => ?_)
    · have hF := ite_T c1 hF
      refine lv_iload_n hx hb dX5_passTime_76 rfl (lv_at hl 1 rfl) ?_
      obtain ⟨e1, e2⟩ := Prod.mk.inj (Option.some.inj hF)
      subst e1
      subst e2
      exact m_iret X hS hP rfl dX5_passTime_77
    · have hF := ite_F c1 hF
      refine lv_iload_n hx hb dX5_passTime_22 rfl (lv_at hl 2 rfl) ?_
      refine lv_bipush (v := 24) hx hb dX5_passTime_23 (by decide) ?_
      refine lv_icmp_ge (tgt := 76) hx hb dX5_passTime_25 (by decide) (fun c2 => ?_) (fun c2 => ?_)
      · have hF := ite_T c2 hF
        refine lv_iload_n hx hb dX5_passTime_76 rfl (lv_at hl 1 rfl) ?_
        obtain ⟨e1, e2⟩ := Prod.mk.inj (Option.some.inj hF)
        subst e1
        subst e2
        exact m_iret X hS hP rfl dX5_passTime_77
      · have hF := ite_F c2 hF
        refine lv_aload_n hx hb dX5_passTime_28 rfl (lv_at hl 0 rfl) ?_
        refine gf_0_4 hx hb htm hown hE hP hw (htm _ qw_143) dX5_passTime_29 ?_
        refine lv_iload_n hx hb dX5_passTime_32 rfl (lv_at hl 2 rfl) ?_
        obtain ⟨hn3, hF⟩ := ite_S hF
        refine mql hx hb htm hown hE hP hw hn3 dX5_passTime_33 ?_
        have hj4 : Int32.toNatClampNeg y2 < 24 := Nat.not_le.mp fun q => hn3 (Or.inr q)
        refine gf_7_5 hx hb htm hown hE hP hw hj4 (htm _ qw_170) dX5_passTime_34 ?_
        refine lv_iconst (v := 1) hx hb dX5_passTime_37 (by decide) ?_
        refine lv_icmp_ne (tgt := 70) hx hb dX5_passTime_38 (by decide) (fun c5 => ?_) (fun c5 => ?_)
        · have hF := ite_F c5 hF
          refine lv_iinc (v := y2 + 1) (lv' := [(2, .int (y2 + 1)), (0, .ref (ad w 0 0)), (1, .int y1)]) hx hb dX5_passTime_70 hl (k := 2) rfl rfl (by decide) rfl (fun ls hl => ?_)
          refine lv_goto (tgt := 14) hx hb dX5_passTime_73 (by decide) ?_
          exact ih14 _ _ _  hP hS (lv_sub hl [1, 2, 0] rfl) hF
        · have hF := ite_T c5 hF
          refine lv_aload_n hx hb dX5_passTime_41 rfl (lv_at hl 0 rfl) ?_
          refine gf_0_4 hx hb htm hown hE hP hw (htm _ qw_143) dX5_passTime_42 ?_
          refine lv_iload_n hx hb dX5_passTime_45 rfl (lv_at hl 2 rfl) ?_
          obtain ⟨hn6, hF⟩ := ite_S hF
          refine mql hx hb htm hown hE hP hw hn6 dX5_passTime_46 ?_
          have hj7 : Int32.toNatClampNeg y2 < 24 := Nat.not_le.mp fun q => hn6 (Or.inr q)
          refine gf_7_9 hx hb htm hown hE hP hw hj7 (htm _ qw_184) dX5_passTime_47 ?_
          refine lv_aload_n hx hb dX5_passTime_50 rfl (lv_at hl 0 rfl) ?_
          refine gf_0_6 hx hb htm hown hE hP hw (htm _ qw_157) dX5_passTime_51 ?_
          refine lv_icmp_ne (tgt := 70) hx hb dX5_passTime_54 (by decide) (fun c8 => ?_) (fun c8 => ?_)
          · have hF := ite_F c8 hF
            refine lv_iinc (v := y2 + 1) (lv' := [(2, .int (y2 + 1)), (0, .ref (ad w 0 0)), (1, .int y1)]) hx hb dX5_passTime_70 hl (k := 2) rfl rfl (by decide) rfl (fun ls hl => ?_)
            refine lv_goto (tgt := 14) hx hb dX5_passTime_73 (by decide) ?_
            exact ih14 _ _ _  hP hS (lv_sub hl [1, 2, 0] rfl) hF
          · have hF := ite_T c8 hF
            refine lv_aload_n hx hb dX5_passTime_57 rfl (lv_at hl 0 rfl) ?_
            refine lv_aload_n hx hb dX5_passTime_58 rfl (lv_at hl 0 rfl) ?_
            refine gf_0_4 hx hb htm hown hE hP hw (htm _ qw_143) dX5_passTime_59 ?_
            refine lv_iload_n hx hb dX5_passTime_62 rfl (lv_at hl 2 rfl) ?_
            obtain ⟨hn9, hF⟩ := ite_S hF
            refine mql hx hb htm hown hE hP hw hn9 dX5_passTime_63 ?_
            have hj10 : Int32.toNatClampNeg y2 < 24 := Nat.not_le.mp fun q => hn9 (Or.inr q)
            obtain ⟨V11, hc11, hF⟩ := ob_S hF
            refine m_cVv X hS vw_X5_ready qw_229 (c_X5_ready hw hj10 hc11) ⟨rfl, rfl⟩ ⟨Nat.le_of_ble_eq_true rfl, Nat.le_of_ble_eq_true rfl⟩ (rc_0 hE hP hw) hP rfl hl.1 (rest := []) rfl (Nat.le_of_ble_eq_true rfl) dX5_passTime_64 (fun H locs hP hS => ?_)
            refine lv_iinc (v := y1 + 1) (lv' := [(1, .int (y1 + 1)), (0, .ref (ad w 0 0)), (2, .int y2)]) hx hb dX5_passTime_67 hl (k := 1) rfl rfl (by decide) rfl (fun ls hl => ?_)
            refine lv_iinc (v := y2 + 1) (lv' := [(2, .int (y2 + 1)), (1, .int (y1 + 1)), (0, .ref (ad w 0 0))]) hx hb dX5_passTime_70 hl (k := 2) rfl rfl (by decide) rfl (fun ls hl => ?_)
            refine lv_goto (tgt := 14) hx hb dX5_passTime_73 (by decide) ?_
            exact ih14 _ _ _  hP hS (lv_sub hl [2, 1, 0] rfl) hF
set_option maxRecDepth 20000 in
set_option maxHeartbeats 4000000 in
theorem c_X5_passTime {l : Launch} {D : va_G} {ad : Nat → Nat → Nat → Nat} {cI cZ cP : ClassId} {A : Nat → Prop} {w : Nat} (hw : w < 2) {G V U : MT}  {r : Int32} {V' : MT}  (hF : f_X5_passTime G V  = some (r, V')) : Met l yX5_passTime (.code yX5_passTime cX5_passTime 3 (some .int) :: WM) rm_X5_passTime (PcM D ad cI cZ cP A [.ref (ad w 0 0)] (Pic D ad cI cZ cP w G V U)) (QcI A r (Pic D ad cI cZ cP w G V' U)) 0 0 A := by
  refine m_entry (by decide) (Nat.le_of_ble_eq_true rfl) (fun p e s m below meth c ls X hP hS hl => ?_)
  have X : MX p s m _ meth c cX5_passTime RX5 3 (some .int) D ad cI cZ cP A := X
  obtain ⟨hx, hb, hml, hown, htm, hr, hlk, hE⟩ := id X
  have hl : lv_has ls 3 [(0, .ref (ad w 0 0))] := hl
  refine lv_aload_n hx hb dX5_passTime_0 rfl (lv_at hl 0 rfl) ?_
  refine lv_dup hx hb dX5_passTime_1 rfl ?_
  refine gf_0_6 hx hb htm hown hE hP hw (htm _ qw_157) dX5_passTime_2 ?_
  refine lv_iconst (v := 1) hx hb dX5_passTime_5 (by decide) ?_
  refine lv_iadd hx hb dX5_passTime_6 ?_
  refine pf_0_6 hx hb htm hown hE hP hS hw (htm _ qw_157) dX5_passTime_7 (fun H locs hP hS => ?_)
  refine lv_iconst (v := 0) hx hb dX5_passTime_10 (by decide) ?_
  refine lv_istore_n (lv' := [(1, .int 0), (0, .ref (ad w 0 0))]) hx hb dX5_passTime_11 rfl hl (by decide) rfl (fun ls hl => ?_)
  refine lv_iconst (v := 0) hx hb dX5_passTime_12 (by decide) ?_
  refine lv_istore_n (lv' := [(2, .int 0), (1, .int 0), (0, .ref (ad w 0 0))]) hx hb dX5_passTime_13 rfl hl (by decide) rfl (fun ls hl => ?_)
  exact l_X5_passTime_14 X hw  30 _ _ _ hP hS (lv_sub hl [2, 1, 0] rfl) hF
def f_X5_takeName (G V : MT) (i1 : Nat) (x2 : Int32) : Option (MT) :=
  (f_X5_holderOf G V x2).bind (fun q1_ => if q1_ = (-1) then ((f_X6_isWithin x2 0 3).bind (fun q3_ => if q3_ = 0 then (some V) else (if ¬ (x2 < 0 ∨ 4 ≤ Int32.toNatClampNeg x2) then (some (pt V 2 0 (Int32.toNatClampNeg x2) (nI i1))) else none))) else (if q1_ = nI i1 then ((f_X6_isWithin x2 0 3).bind (fun q7_ => if q7_ = 0 then (some V) else (if ¬ (x2 < 0 ∨ 4 ≤ Int32.toNatClampNeg x2) then (some (pt V 2 0 (Int32.toNatClampNeg x2) (nI i1))) else none))) else ((f_X5_end G V i1 6).bind (fun q10_ => some q10_))))
def rm_X5_takeName : Room := { frames := 2, cells := 0, slots := 0, locals := 43 }
set_option maxRecDepth 20000 in
set_option maxHeartbeats 4000000 in
theorem c_X5_takeName {l : Launch} {D : va_G} {ad : Nat → Nat → Nat → Nat} {cI cZ cP : ClassId} {A : Nat → Prop} {w : Nat} (hw : w < 2) {G V U : MT} {i1 : Nat} {x2 : Int32} {V' : MT}  (hi1 : i1 < 24) (hF : f_X5_takeName G V i1 x2 = some V') : Met l yX5_takeName (.code yX5_takeName cX5_takeName 4 none :: WM) rm_X5_takeName (PcM D ad cI cZ cP A [.ref (ad w 0 0), .ref (ad w 7 i1), .int x2] (Pic D ad cI cZ cP w G V U)) (QcV A (Pic D ad cI cZ cP w G V' U)) 0 0 A := by
  refine m_entry (by decide) (Nat.le_of_ble_eq_true rfl) (fun p e s m below meth c ls X hP hS hl => ?_)
  have X : MX p s m _ meth c cX5_takeName RX5 4 none D ad cI cZ cP A := X
  obtain ⟨hx, hb, hml, hown, htm, hr, hlk, hE⟩ := id X
  have hl : lv_has ls 4 [(0, .ref (ad w 0 0)), (1, .ref (ad w 7 i1)), (2, .int x2)] := hl
  refine lv_aload_n hx hb dX5_takeName_0 rfl (lv_at hl 0 rfl) ?_
  refine lv_iload_n hx hb dX5_takeName_1 rfl (lv_at hl 2 rfl) ?_
  obtain ⟨r1, hc1, hF⟩ := ob_S hF
  refine m_cVi X hS vw_X5_holderOf qw_302 (c_X5_holderOf hw hc1) ⟨rfl, rfl⟩ ⟨Nat.le_of_ble_eq_true rfl, Nat.le_of_ble_eq_true rfl⟩ (rc_0 hE hP hw) hP rfl hl.1 (rest := []) rfl (Nat.le_of_ble_eq_true rfl) dX5_takeName_2 (fun H locs hP hS => ?_)
  refine lv_istore_n (lv' := [(3, .int r1), (0, .ref (ad w 0 0)), (1, .ref (ad w 7 i1)), (2, .int x2)]) hx hb dX5_takeName_5 rfl hl (by decide) rfl (fun ls hl => ?_)
  refine lv_iload_n hx hb dX5_takeName_6 rfl (lv_at hl 0 rfl) ?_
  refine lv_iconst (v := (-1)) hx hb dX5_takeName_7 (by decide) ?_
  refine lv_icmp_eq (tgt := 29) hx hb dX5_takeName_8 (by decide) (fun c2 => ?_) (fun c2 => ?_)
  · have hF := ite_T c2 hF
    refine lv_iload_n hx hb dX5_takeName_29 rfl (lv_at hl 3 rfl) ?_
    refine lv_iconst (v := 0) hx hb dX5_takeName_30 (by decide) ?_
    refine lv_iconst (v := 3) hx hb dX5_takeName_31 (by decide) ?_
    obtain ⟨r3, hc3, hF⟩ := ob_S hF
    refine m_cNi X hS sw_X6_isWithin nst_5_103 (c_X6_isWithin hc3) ⟨rfl, rfl⟩ ⟨Nat.le_of_ble_eq_true rfl, Nat.le_of_ble_eq_true rfl⟩ hP rfl hl.1 (rest := []) rfl (Nat.le_of_ble_eq_true rfl) dX5_takeName_32 (fun H locs hP hS => ?_)
    refine lv_if_eq (tgt := 48) hx hb dX5_takeName_35 (by decide) (fun c4 => ?_) (fun c4 => ?_)
    · have hF := ite_T c4 hF
      have e1 := Option.some.inj hF
      subst e1
      exact m_vret X hS hP dX5_takeName_48
    · have hF := ite_F c4 hF
      refine lv_aload_n hx hb dX5_takeName_38 rfl (lv_at hl 1 rfl) ?_
      refine gf_0_3 hx hb htm hown hE hP hw (htm _ qw_141) dX5_takeName_39 ?_
      refine lv_iload_n hx hb dX5_takeName_42 rfl (lv_at hl 3 rfl) ?_
      refine lv_aload_n hx hb dX5_takeName_43 rfl (lv_at hl 2 rfl) ?_
      refine gf_7_0 hx hb htm hown hE hP hw hi1 (htm _ qw_189) dX5_takeName_44 ?_
      obtain ⟨hn5, hF⟩ := ite_S hF
      refine as_2 hx hb htm hown hE hP hS hw hn5 dX5_takeName_47 (fun H locs hP hS => ?_)
      have e1 := Option.some.inj hF
      subst e1
      exact m_vret X hS hP dX5_takeName_48
  · have hF := ite_F c2 hF
    refine lv_iload_n hx hb dX5_takeName_11 rfl (lv_at hl 0 rfl) ?_
    refine lv_aload_n hx hb dX5_takeName_12 rfl (lv_at hl 2 rfl) ?_
    refine gf_7_0 hx hb htm hown hE hP hw hi1 (htm _ qw_189) dX5_takeName_13 ?_
    refine lv_icmp_eq (tgt := 29) hx hb dX5_takeName_16 (by decide) (fun c6 => ?_) (fun c6 => ?_)
    · have hF := ite_T c6 hF
      refine lv_iload_n hx hb dX5_takeName_29 rfl (lv_at hl 3 rfl) ?_
      refine lv_iconst (v := 0) hx hb dX5_takeName_30 (by decide) ?_
      refine lv_iconst (v := 3) hx hb dX5_takeName_31 (by decide) ?_
      obtain ⟨r7, hc7, hF⟩ := ob_S hF
      refine m_cNi X hS sw_X6_isWithin nst_5_103 (c_X6_isWithin hc7) ⟨rfl, rfl⟩ ⟨Nat.le_of_ble_eq_true rfl, Nat.le_of_ble_eq_true rfl⟩ hP rfl hl.1 (rest := []) rfl (Nat.le_of_ble_eq_true rfl) dX5_takeName_32 (fun H locs hP hS => ?_)
      refine lv_if_eq (tgt := 48) hx hb dX5_takeName_35 (by decide) (fun c8 => ?_) (fun c8 => ?_)
      · have hF := ite_T c8 hF
        have e1 := Option.some.inj hF
        subst e1
        exact m_vret X hS hP dX5_takeName_48
      · have hF := ite_F c8 hF
        refine lv_aload_n hx hb dX5_takeName_38 rfl (lv_at hl 1 rfl) ?_
        refine gf_0_3 hx hb htm hown hE hP hw (htm _ qw_141) dX5_takeName_39 ?_
        refine lv_iload_n hx hb dX5_takeName_42 rfl (lv_at hl 3 rfl) ?_
        refine lv_aload_n hx hb dX5_takeName_43 rfl (lv_at hl 2 rfl) ?_
        refine gf_7_0 hx hb htm hown hE hP hw hi1 (htm _ qw_189) dX5_takeName_44 ?_
        obtain ⟨hn9, hF⟩ := ite_S hF
        refine as_2 hx hb htm hown hE hP hS hw hn9 dX5_takeName_47 (fun H locs hP hS => ?_)
        have e1 := Option.some.inj hF
        subst e1
        exact m_vret X hS hP dX5_takeName_48
    · have hF := ite_F c6 hF
      refine lv_aload_n hx hb dX5_takeName_19 rfl (lv_at hl 1 rfl) ?_
      refine lv_aload_n hx hb dX5_takeName_20 rfl (lv_at hl 2 rfl) ?_
      refine lv_bipush (v := 6) hx hb dX5_takeName_21 (by decide) ?_
      obtain ⟨V10, hc10, hF⟩ := ob_S hF
      refine m_cVv X hS vw_X5_end qw_207 (c_X5_end hw hi1 hc10) ⟨rfl, rfl⟩ ⟨Nat.le_of_ble_eq_true rfl, Nat.le_of_ble_eq_true rfl⟩ (rc_0 hE hP hw) hP rfl hl.1 (rest := []) rfl (Nat.le_of_ble_eq_true rfl) dX5_takeName_23 (fun H locs hP hS => ?_)
      refine lv_goto (tgt := 48) hx hb dX5_takeName_26 (by decide) ?_
      have e1 := Option.some.inj hF
      subst e1
      exact m_vret X hS hP dX5_takeName_48
def f_X5_callName (G V : MT) (i1 : Nat) (x2 : Int32) (x3 : Int32) : Option (MT) :=
  (f_X5_holderOf G V x2).bind (fun q1_ => if q1_ = (-1) then ((f_X5_end G V i1 6).bind (fun q4_ => some q4_)) else ((f_X5_putMail G V q1_ x3 (V 7 i1 7)).bind (fun q3_ => some q3_.2)))
def rm_X5_callName : Room := { frames := 2, cells := 0, slots := 0, locals := 46 }
set_option maxRecDepth 20000 in
set_option maxHeartbeats 4000000 in
theorem c_X5_callName {l : Launch} {D : va_G} {ad : Nat → Nat → Nat → Nat} {cI cZ cP : ClassId} {A : Nat → Prop} {w : Nat} (hw : w < 2) {G V U : MT} {i1 : Nat} {x2 : Int32} {x3 : Int32} {V' : MT}  (hi1 : i1 < 24) (hF : f_X5_callName G V i1 x2 x3 = some V') : Met l yX5_callName (.code yX5_callName cX5_callName 5 none :: WM) rm_X5_callName (PcM D ad cI cZ cP A [.ref (ad w 0 0), .ref (ad w 7 i1), .int x2, .int x3] (Pic D ad cI cZ cP w G V U)) (QcV A (Pic D ad cI cZ cP w G V' U)) 0 0 A := by
  refine m_entry (by decide) (Nat.le_of_ble_eq_true rfl) (fun p e s m below meth c ls X hP hS hl => ?_)
  have X : MX p s m _ meth c cX5_callName RX5 5 none D ad cI cZ cP A := X
  obtain ⟨hx, hb, hml, hown, htm, hr, hlk, hE⟩ := id X
  have hl : lv_has ls 5 [(0, .ref (ad w 0 0)), (1, .ref (ad w 7 i1)), (2, .int x2), (3, .int x3)] := hl
  refine lv_aload_n hx hb dX5_callName_0 rfl (lv_at hl 0 rfl) ?_
  refine lv_iload_n hx hb dX5_callName_1 rfl (lv_at hl 2 rfl) ?_
  obtain ⟨r1, hc1, hF⟩ := ob_S hF
  refine m_cVi X hS vw_X5_holderOf qw_302 (c_X5_holderOf hw hc1) ⟨rfl, rfl⟩ ⟨Nat.le_of_ble_eq_true rfl, Nat.le_of_ble_eq_true rfl⟩ (rc_0 hE hP hw) hP rfl hl.1 (rest := []) rfl (Nat.le_of_ble_eq_true rfl) dX5_callName_2 (fun H locs hP hS => ?_)
  refine lv_istore (lv' := [(4, .int r1), (0, .ref (ad w 0 0)), (1, .ref (ad w 7 i1)), (2, .int x2), (3, .int x3)]) hx hb dX5_callName_5 hl (by decide) rfl (fun ls hl => ?_)
  refine lv_iload hx hb dX5_callName_7 (lv_at hl 0 rfl) ?_
  refine lv_iconst (v := (-1)) hx hb dX5_callName_9 (by decide) ?_
  refine lv_icmp_ne (tgt := 23) hx hb dX5_callName_10 (by decide) (fun c2 => ?_) (fun c2 => ?_)
  · have hF := ite_F c2 hF
    refine lv_aload_n hx hb dX5_callName_23 rfl (lv_at hl 1 rfl) ?_
    refine lv_iload hx hb dX5_callName_24 (lv_at hl 0 rfl) ?_
    refine lv_iload_n hx hb dX5_callName_26 rfl (lv_at hl 4 rfl) ?_
    refine lv_aload_n hx hb dX5_callName_27 rfl (lv_at hl 2 rfl) ?_
    refine gf_7_7 hx hb htm hown hE hP hw hi1 (htm _ qw_297) dX5_callName_28 ?_
    obtain ⟨⟨r3, V3⟩, hc3, hF⟩ := ob_S hF
    refine m_cVi X hS vw_X5_putMail qw_237 (c_X5_putMail hw hc3) ⟨rfl, rfl⟩ ⟨Nat.le_of_ble_eq_true rfl, Nat.le_of_ble_eq_true rfl⟩ (rc_0 hE hP hw) hP rfl hl.1 (rest := []) rfl (Nat.le_of_ble_eq_true rfl) dX5_callName_31 (fun H locs hP hS => ?_)
    refine lv_pop hx hb dX5_callName_34 rfl ?_
    have e1 := Option.some.inj hF
    subst e1
    exact m_vret X hS hP dX5_callName_35
  · have hF := ite_T c2 hF
    refine lv_aload_n hx hb dX5_callName_13 rfl (lv_at hl 1 rfl) ?_
    refine lv_aload_n hx hb dX5_callName_14 rfl (lv_at hl 2 rfl) ?_
    refine lv_bipush (v := 6) hx hb dX5_callName_15 (by decide) ?_
    obtain ⟨V4, hc4, hF⟩ := ob_S hF
    refine m_cVv X hS vw_X5_end qw_207 (c_X5_end hw hi1 hc4) ⟨rfl, rfl⟩ ⟨Nat.le_of_ble_eq_true rfl, Nat.le_of_ble_eq_true rfl⟩ (rc_0 hE hP hw) hP rfl hl.1 (rest := []) rfl (Nat.le_of_ble_eq_true rfl) dX5_callName_17 (fun H locs hP hS => ?_)
    refine lv_goto (tgt := 35) hx hb dX5_callName_20 (by decide) ?_
    have e1 := Option.some.inj hF
    subst e1
    exact m_vret X hS hP dX5_callName_35
def f_X5_spawn (G V : MT) (i1 : Nat) (x2 : Int32) (x3 : Int32) : Option (MT) :=
  (f_X5_comesOfModule G V x2 (-1)).bind (fun q1_ => oc q1_.1 ((f_X5_end G q1_.2 i1 5).bind (fun q2_ => some q2_)) (fun e1 => if e1 < 24 then (if x3 = 0 then (some (pt q1_.2 7 i1 7 (nI e1))) else ((f_X5_link G q1_.2 i1 e1).bind (fun q4_ => some (pt q4_ 7 i1 7 (nI e1))))) else none))
def rm_X5_spawn : Room := { frames := 1, cells := 0, slots := 0, locals := 23 }
set_option maxRecDepth 20000 in
set_option maxHeartbeats 4000000 in
theorem c_X5_spawn {l : Launch} {D : va_G} {ad : Nat → Nat → Nat → Nat} {cI cZ cP : ClassId} {A : Nat → Prop} {w : Nat} (hw : w < 2) {G V U : MT} {i1 : Nat} {x2 : Int32} {x3 : Int32} {V' : MT}  (hi1 : i1 < 24) (hF : f_X5_spawn G V i1 x2 x3 = some V') : Met l yX5_spawn (.code yX5_spawn cX5_spawn 5 none :: WM) rm_X5_spawn (PcM D ad cI cZ cP A [.ref (ad w 0 0), .ref (ad w 7 i1), .int x2, .int x3] (Pic D ad cI cZ cP w G V U)) (QcV A (Pic D ad cI cZ cP w G V' U)) 0 0 A := by
  refine m_entry (by decide) (Nat.le_of_ble_eq_true rfl) (fun p e s m below meth c ls X hP hS hl => ?_)
  have X : MX p s m _ meth c cX5_spawn RX5 5 none D ad cI cZ cP A := X
  obtain ⟨hx, hb, hml, hown, htm, hr, hlk, hE⟩ := id X
  have hl : lv_has ls 5 [(0, .ref (ad w 0 0)), (1, .ref (ad w 7 i1)), (2, .int x2), (3, .int x3)] := hl
  refine lv_aload_n hx hb dX5_spawn_0 rfl (lv_at hl 0 rfl) ?_
  refine lv_iload_n hx hb dX5_spawn_1 rfl (lv_at hl 2 rfl) ?_
  refine lv_iconst (v := (-1)) hx hb dX5_spawn_2 (by decide) ?_
  obtain ⟨⟨r1, V1⟩, hc1, hF⟩ := ob_S hF
  refine m_cVq X hS vw_X5_comesOfModule qw_204 (c_X5_comesOfModule hw hc1) ⟨rfl, rfl⟩ ⟨Nat.le_of_ble_eq_true rfl, Nat.le_of_ble_eq_true rfl⟩ (rc_0 hE hP hw) hP rfl hl.1 (rest := []) rfl (Nat.le_of_ble_eq_true rfl) dX5_spawn_3 (fun H locs hP hS => ?_)
  rcases r1 with _ | e1
  · have hF := oc_N hF
    refine lv_astoreN (lv' := [(4, .null), (0, .ref (ad w 0 0)), (1, .ref (ad w 7 i1)), (2, .int x2), (3, .int x3)]) hx hb dX5_spawn_6 hl (by decide) rfl (fun ls hl => ?_)
    refine lv_aloadN hx hb dX5_spawn_8 (lv_at hl 0 rfl) ?_
    refine lv_ifnonnullN hx hb dX5_spawn_10 ?_
    refine lv_aload_n hx hb dX5_spawn_13 rfl (lv_at hl 1 rfl) ?_
    refine lv_aload_n hx hb dX5_spawn_14 rfl (lv_at hl 2 rfl) ?_
    refine lv_iconst (v := 5) hx hb dX5_spawn_15 (by decide) ?_
    obtain ⟨V2, hc2, hF⟩ := ob_S hF
    refine m_cVv X hS vw_X5_end qw_207 (c_X5_end hw hi1 hc2) ⟨rfl, rfl⟩ ⟨Nat.le_of_ble_eq_true rfl, Nat.le_of_ble_eq_true rfl⟩ (rc_0 hE hP hw) hP rfl hl.1 (rest := []) rfl (Nat.le_of_ble_eq_true rfl) dX5_spawn_16 (fun H locs hP hS => ?_)
    have e1 := Option.some.inj hF
    subst e1
    exact m_vret X hS hP dX5_spawn_19
  · obtain ⟨he1, hF⟩ := ite_S (oc_J hF)
    refine lv_astore (lv' := [(4, .ref (ad w 7 e1)), (0, .ref (ad w 0 0)), (1, .ref (ad w 7 i1)), (2, .int x2), (3, .int x3)]) hx hb dX5_spawn_6 hl (by decide) rfl (fun ls hl => ?_)
    refine lv_aload hx hb dX5_spawn_8 (lv_at hl 0 rfl) ?_
    refine lv_ifnonnull (tgt := 20) hx hb dX5_spawn_10 (by decide) ?_
    refine lv_iload_n hx hb dX5_spawn_20 rfl (lv_at hl 4 rfl) ?_
    refine lv_if_eq (tgt := 31) hx hb dX5_spawn_21 (by decide) (fun c3 => ?_) (fun c3 => ?_)
    · have hF := ite_T c3 hF
      refine lv_aload_n hx hb dX5_spawn_31 rfl (lv_at hl 2 rfl) ?_
      refine lv_aload hx hb dX5_spawn_32 (lv_at hl 0 rfl) ?_
      refine gf_7_0 hx hb htm hown hE hP hw he1 (htm _ qw_189) dX5_spawn_34 ?_
      refine pf_7_7 hx hb htm hown hE hP hS hw hi1 (htm _ qw_297) dX5_spawn_37 (fun H locs hP hS => ?_)
      have e1 := Option.some.inj hF
      subst e1
      exact m_vret X hS hP dX5_spawn_40
    · have hF := ite_F c3 hF
      refine lv_aload_n hx hb dX5_spawn_24 rfl (lv_at hl 1 rfl) ?_
      refine lv_aload_n hx hb dX5_spawn_25 rfl (lv_at hl 2 rfl) ?_
      refine lv_aload hx hb dX5_spawn_26 (lv_at hl 0 rfl) ?_
      obtain ⟨V4, hc4, hF⟩ := ob_S hF
      refine m_cVv X hS vw_X5_link qw_298 (c_X5_link hw hi1 he1 hc4) ⟨rfl, rfl⟩ ⟨Nat.le_of_ble_eq_true rfl, Nat.le_of_ble_eq_true rfl⟩ (rc_0 hE hP hw) hP rfl hl.1 (rest := []) rfl (Nat.le_of_ble_eq_true rfl) dX5_spawn_28 (fun H locs hP hS => ?_)
      refine lv_aload_n hx hb dX5_spawn_31 rfl (lv_at hl 2 rfl) ?_
      refine lv_aload hx hb dX5_spawn_32 (lv_at hl 0 rfl) ?_
      refine gf_7_0 hx hb htm hown hE hP hw he1 (htm _ qw_189) dX5_spawn_34 ?_
      refine pf_7_7 hx hb htm hown hE hP hS hw hi1 (htm _ qw_297) dX5_spawn_37 (fun H locs hP hS => ?_)
      have e1 := Option.some.inj hF
      subst e1
      exact m_vret X hS hP dX5_spawn_40
def f_X5_copyFrom_42 (U : MT) : Nat → Int32 → Int32 → MT → Option (MT)
  | 0, _, _, _ => none
  | n + 1, y2, y3, V => if y2 ≤ y3 then (some (pt (ct (ct (pt (pt (ct (pt (pt (pt (pt (pt (pt V 0 0 5 (U 0 0 5)) 0 0 6 (U 0 0 6)) 0 0 7 (U 0 0 7)) 0 0 8 (U 0 0 8)) 0 0 9 (U 0 0 9)) 0 0 10 (U 0 0 10)) 4 0 (U 4 0) 24) 0 0 12 (U 0 0 12)) 0 0 13 (U 0 0 13)) 5 0 (U 5 0) 24) 6 0 (U 6 0) 24) 0 0 16 (U 0 0 16))) else (if 24 ≤ y3 then (some (pt (ct (ct (pt (pt (ct (pt (pt (pt (pt (pt (pt V 0 0 5 (U 0 0 5)) 0 0 6 (U 0 0 6)) 0 0 7 (U 0 0 7)) 0 0 8 (U 0 0 8)) 0 0 9 (U 0 0 9)) 0 0 10 (U 0 0 10)) 4 0 (U 4 0) 24) 0 0 12 (U 0 0 12)) 0 0 13 (U 0 0 13)) 5 0 (U 5 0) 24) 6 0 (U 6 0) 24) 0 0 16 (U 0 0 16))) else (if ¬ (y3 < 0 ∨ 24 ≤ Int32.toNatClampNeg y3) then (if ¬ (y3 < 0 ∨ 24 ≤ Int32.toNatClampNeg y3) then ((f_X2_copyFrom V U (Int32.toNatClampNeg y3) (Int32.toNatClampNeg y3)).bind (fun q7_ => (f_X5_copyFrom_42 U n) y2 (y3 + 1) q7_)) else none) else none))
def f_X5_copyFrom (V U : MT)  : Option (MT) :=
  f_X5_copyFrom_42 U  30 (if (ct (ct V 1 0 (U 1 0) 4) 2 0 (U 2 0) 4) 0 0 5 < U 0 0 5 then U 0 0 5 else (ct (ct V 1 0 (U 1 0) 4) 2 0 (U 2 0) 4) 0 0 5) 0 (ct (ct V 1 0 (U 1 0) 4) 2 0 (U 2 0) 4)
def rm_X5_copyFrom : Room := { frames := 3, cells := 0, slots := 0, locals := 82 }
set_option maxRecDepth 20000 in
set_option maxHeartbeats 4000000 in
theorem l_X5_copyFrom_42 {p : Program} {l : Launch} {e : Env} {s : State} {m : MethodId} {args : Array Value} {below : List Frame} {meth : Method} {c : Code} {D : va_G} {ad : Nat → Nat → Nat → Nat} {cI cZ cP : ClassId} {A : Nat → Prop} {G U : MT} {V' : MT} (X : MX p s m args meth c cX5_copyFrom RX5 4 none D ad cI cZ cP A) {w w' : Nat} (hw : w < 2) (hw' : w' < 2) (hww : w + w' = 1) (n : Nat) : ∀ {H : Heap} {locs : List Loc} {ls : Array Slot} (y2 : Int32) (y3 : Int32) (V : MT), Pic D ad cI cZ cP w G V U H → va_S A s.heap H locs → lv_has ls 4 [(0, .ref (ad w 0 0)), (1, .ref (ad w' 0 0)), (2, .int y2), (3, .int y3)] → f_X5_copyFrom_42 U n y2 y3 V = some V' → W p l e rm_X5_copyFrom s m args below meth c H locs 0 0 (MQ below (QcV A (Pic D ad cI cZ cP w G V' U)) args s 0 0 A) (F0 m 42 ls []) := by
  obtain ⟨hx, hb, hml, hown, htm, hr, hlk, hE⟩ := id X
  induction n with
  | zero =>
    intros
    exact ns_S (by assumption)
  | succ n ih42 =>
    intro H locs ls y2 y3 V   hP hS hl hF
    rw [f_X5_copyFrom_42] at hF
    refine lv_iload_n hx hb dX5_copyFrom_42 rfl (lv_at hl 3 rfl) ?_
    refine lv_iload_n hx hb dX5_copyFrom_43 rfl (lv_at hl 2 rfl) ?_
    refine lv_icmp_ge (tgt := 74) hx hb dX5_copyFrom_44 (by decide) (fun c1 => ?_) (fun c1 => ?_)
    · have hF := ite_T c1 hF
      refine lv_aload_n hx hb dX5_copyFrom_74 rfl (lv_at hl 0 rfl) ?_
      refine lv_aload_n hx hb dX5_copyFrom_75 rfl (lv_at hl 1 rfl) ?_
      refine gf_0_5 hx hb htm hown hE (hP.swap hww) hw' (htm _ qw_155) dX5_copyFrom_76 ?_
      refine pf_0_5 hx hb htm hown hE hP hS hw (htm _ qw_155) dX5_copyFrom_79 (fun H locs hP hS => ?_)
      refine lv_aload_n hx hb dX5_copyFrom_82 rfl (lv_at hl 0 rfl) ?_
      refine lv_aload_n hx hb dX5_copyFrom_83 rfl (lv_at hl 1 rfl) ?_
      refine gf_0_6 hx hb htm hown hE (hP.swap hww) hw' (htm _ qw_157) dX5_copyFrom_84 ?_
      refine pf_0_6 hx hb htm hown hE hP hS hw (htm _ qw_157) dX5_copyFrom_87 (fun H locs hP hS => ?_)
      refine lv_aload_n hx hb dX5_copyFrom_90 rfl (lv_at hl 0 rfl) ?_
      refine lv_aload_n hx hb dX5_copyFrom_91 rfl (lv_at hl 1 rfl) ?_
      refine gf_0_7 hx hb htm hown hE (hP.swap hww) hw' (htm _ qw_158) dX5_copyFrom_92 ?_
      refine pf_0_7 hx hb htm hown hE hP hS hw (htm _ qw_158) dX5_copyFrom_95 (fun H locs hP hS => ?_)
      refine lv_aload_n hx hb dX5_copyFrom_98 rfl (lv_at hl 0 rfl) ?_
      refine lv_aload_n hx hb dX5_copyFrom_99 rfl (lv_at hl 1 rfl) ?_
      refine gf_0_8 hx hb htm hown hE (hP.swap hww) hw' (htm _ qw_159) dX5_copyFrom_100 ?_
      refine pf_0_8 hx hb htm hown hE hP hS hw (htm _ qw_159) dX5_copyFrom_103 (fun H locs hP hS => ?_)
      refine lv_aload_n hx hb dX5_copyFrom_106 rfl (lv_at hl 0 rfl) ?_
      refine lv_aload_n hx hb dX5_copyFrom_107 rfl (lv_at hl 1 rfl) ?_
      refine gf_0_9 hx hb htm hown hE (hP.swap hww) hw' (htm _ qw_160) dX5_copyFrom_108 ?_
      refine pf_0_9 hx hb htm hown hE hP hS hw (htm _ qw_160) dX5_copyFrom_111 (fun H locs hP hS => ?_)
      refine lv_aload_n hx hb dX5_copyFrom_114 rfl (lv_at hl 0 rfl) ?_
      refine lv_aload_n hx hb dX5_copyFrom_115 rfl (lv_at hl 1 rfl) ?_
      refine gf_0_10 hx hb htm hown hE (hP.swap hww) hw' (htm _ qw_161) dX5_copyFrom_116 ?_
      refine pf_0_10 hx hb htm hown hE hP hS hw (htm _ qw_161) dX5_copyFrom_119 (fun H locs hP hS => ?_)
      refine lv_aload_n hx hb dX5_copyFrom_122 rfl (lv_at hl 1 rfl) ?_
      refine gf_0_11 hx hb htm hown hE (hP.swap hww) hw' (htm _ qw_144) dX5_copyFrom_123 ?_
      refine lv_iconst (v := 0) hx hb dX5_copyFrom_126 (by decide) ?_
      refine lv_aload_n hx hb dX5_copyFrom_127 rfl (lv_at hl 0 rfl) ?_
      refine gf_0_11 hx hb htm hown hE hP hw (htm _ qw_144) dX5_copyFrom_128 ?_
      refine lv_iconst (v := 0) hx hb dX5_copyFrom_131 (by decide) ?_
      refine lv_bipush (v := 24) hx hb dX5_copyFrom_132 (by decide) ?_
      refine cp_4 hx hb (hml.trans hl.1.symm) hown htm hE hP hS hw hw' hww (htm _ qw_154) (Nat.le_of_ble_eq_true rfl) (Nat.le_of_ble_eq_true rfl) dX5_copyFrom_134 (fun H locs hP hS => ?_)
      refine lv_aload_n hx hb dX5_copyFrom_137 rfl (lv_at hl 0 rfl) ?_
      refine lv_aload_n hx hb dX5_copyFrom_138 rfl (lv_at hl 1 rfl) ?_
      refine gf_0_12 hx hb htm hown hE (hP.swap hww) hw' (htm _ qw_162) dX5_copyFrom_139 ?_
      refine pf_0_12 hx hb htm hown hE hP hS hw (htm _ qw_162) dX5_copyFrom_142 (fun H locs hP hS => ?_)
      refine lv_aload_n hx hb dX5_copyFrom_145 rfl (lv_at hl 0 rfl) ?_
      refine lv_aload_n hx hb dX5_copyFrom_146 rfl (lv_at hl 1 rfl) ?_
      refine gf_0_13 hx hb htm hown hE (hP.swap hww) hw' (htm _ qw_163) dX5_copyFrom_147 ?_
      refine pf_0_13 hx hb htm hown hE hP hS hw (htm _ qw_163) dX5_copyFrom_150 (fun H locs hP hS => ?_)
      refine lv_aload_n hx hb dX5_copyFrom_153 rfl (lv_at hl 1 rfl) ?_
      refine gf_0_14 hx hb htm hown hE (hP.swap hww) hw' (htm _ qw_145) dX5_copyFrom_154 ?_
      refine lv_iconst (v := 0) hx hb dX5_copyFrom_157 (by decide) ?_
      refine lv_aload_n hx hb dX5_copyFrom_158 rfl (lv_at hl 0 rfl) ?_
      refine gf_0_14 hx hb htm hown hE hP hw (htm _ qw_145) dX5_copyFrom_159 ?_
      refine lv_iconst (v := 0) hx hb dX5_copyFrom_162 (by decide) ?_
      refine lv_bipush (v := 24) hx hb dX5_copyFrom_163 (by decide) ?_
      refine cp_5 hx hb (hml.trans hl.1.symm) hown htm hE hP hS hw hw' hww (htm _ qw_154) (Nat.le_of_ble_eq_true rfl) (Nat.le_of_ble_eq_true rfl) dX5_copyFrom_165 (fun H locs hP hS => ?_)
      refine lv_aload_n hx hb dX5_copyFrom_168 rfl (lv_at hl 1 rfl) ?_
      refine gf_0_15 hx hb htm hown hE (hP.swap hww) hw' (htm _ qw_146) dX5_copyFrom_169 ?_
      refine lv_iconst (v := 0) hx hb dX5_copyFrom_172 (by decide) ?_
      refine lv_aload_n hx hb dX5_copyFrom_173 rfl (lv_at hl 0 rfl) ?_
      refine gf_0_15 hx hb htm hown hE hP hw (htm _ qw_146) dX5_copyFrom_174 ?_
      refine lv_iconst (v := 0) hx hb dX5_copyFrom_177 (by decide) ?_
      refine lv_bipush (v := 24) hx hb dX5_copyFrom_178 (by decide) ?_
      refine cp_6 hx hb (hml.trans hl.1.symm) hown htm hE hP hS hw hw' hww (htm _ qw_154) (Nat.le_of_ble_eq_true rfl) (Nat.le_of_ble_eq_true rfl) dX5_copyFrom_180 (fun H locs hP hS => ?_)
      refine lv_aload_n hx hb dX5_copyFrom_183 rfl (lv_at hl 0 rfl) ?_
      refine lv_aload_n hx hb dX5_copyFrom_184 rfl (lv_at hl 1 rfl) ?_
      refine gf_0_16 hx hb htm hown hE (hP.swap hww) hw' (htm _ qw_164) dX5_copyFrom_185 ?_
      refine pf_0_16 hx hb htm hown hE hP hS hw (htm _ qw_164) dX5_copyFrom_188 (fun H locs hP hS => ?_)
      have e1 := Option.some.inj hF
      subst e1
      exact m_vret X hS hP dX5_copyFrom_191
    · have hF := ite_F c1 hF
      refine lv_iload_n hx hb dX5_copyFrom_47 rfl (lv_at hl 3 rfl) ?_
      refine lv_bipush (v := 24) hx hb dX5_copyFrom_48 (by decide) ?_
      refine lv_icmp_ge (tgt := 74) hx hb dX5_copyFrom_50 (by decide) (fun c2 => ?_) (fun c2 => ?_)
      · have hF := ite_T c2 hF
        refine lv_aload_n hx hb dX5_copyFrom_74 rfl (lv_at hl 0 rfl) ?_
        refine lv_aload_n hx hb dX5_copyFrom_75 rfl (lv_at hl 1 rfl) ?_
        refine gf_0_5 hx hb htm hown hE (hP.swap hww) hw' (htm _ qw_155) dX5_copyFrom_76 ?_
        refine pf_0_5 hx hb htm hown hE hP hS hw (htm _ qw_155) dX5_copyFrom_79 (fun H locs hP hS => ?_)
        refine lv_aload_n hx hb dX5_copyFrom_82 rfl (lv_at hl 0 rfl) ?_
        refine lv_aload_n hx hb dX5_copyFrom_83 rfl (lv_at hl 1 rfl) ?_
        refine gf_0_6 hx hb htm hown hE (hP.swap hww) hw' (htm _ qw_157) dX5_copyFrom_84 ?_
        refine pf_0_6 hx hb htm hown hE hP hS hw (htm _ qw_157) dX5_copyFrom_87 (fun H locs hP hS => ?_)
        refine lv_aload_n hx hb dX5_copyFrom_90 rfl (lv_at hl 0 rfl) ?_
        refine lv_aload_n hx hb dX5_copyFrom_91 rfl (lv_at hl 1 rfl) ?_
        refine gf_0_7 hx hb htm hown hE (hP.swap hww) hw' (htm _ qw_158) dX5_copyFrom_92 ?_
        refine pf_0_7 hx hb htm hown hE hP hS hw (htm _ qw_158) dX5_copyFrom_95 (fun H locs hP hS => ?_)
        refine lv_aload_n hx hb dX5_copyFrom_98 rfl (lv_at hl 0 rfl) ?_
        refine lv_aload_n hx hb dX5_copyFrom_99 rfl (lv_at hl 1 rfl) ?_
        refine gf_0_8 hx hb htm hown hE (hP.swap hww) hw' (htm _ qw_159) dX5_copyFrom_100 ?_
        refine pf_0_8 hx hb htm hown hE hP hS hw (htm _ qw_159) dX5_copyFrom_103 (fun H locs hP hS => ?_)
        refine lv_aload_n hx hb dX5_copyFrom_106 rfl (lv_at hl 0 rfl) ?_
        refine lv_aload_n hx hb dX5_copyFrom_107 rfl (lv_at hl 1 rfl) ?_
        refine gf_0_9 hx hb htm hown hE (hP.swap hww) hw' (htm _ qw_160) dX5_copyFrom_108 ?_
        refine pf_0_9 hx hb htm hown hE hP hS hw (htm _ qw_160) dX5_copyFrom_111 (fun H locs hP hS => ?_)
        refine lv_aload_n hx hb dX5_copyFrom_114 rfl (lv_at hl 0 rfl) ?_
        refine lv_aload_n hx hb dX5_copyFrom_115 rfl (lv_at hl 1 rfl) ?_
        refine gf_0_10 hx hb htm hown hE (hP.swap hww) hw' (htm _ qw_161) dX5_copyFrom_116 ?_
        refine pf_0_10 hx hb htm hown hE hP hS hw (htm _ qw_161) dX5_copyFrom_119 (fun H locs hP hS => ?_)
        refine lv_aload_n hx hb dX5_copyFrom_122 rfl (lv_at hl 1 rfl) ?_
        refine gf_0_11 hx hb htm hown hE (hP.swap hww) hw' (htm _ qw_144) dX5_copyFrom_123 ?_
        refine lv_iconst (v := 0) hx hb dX5_copyFrom_126 (by decide) ?_
        refine lv_aload_n hx hb dX5_copyFrom_127 rfl (lv_at hl 0 rfl) ?_
        refine gf_0_11 hx hb htm hown hE hP hw (htm _ qw_144) dX5_copyFrom_128 ?_
        refine lv_iconst (v := 0) hx hb dX5_copyFrom_131 (by decide) ?_
        refine lv_bipush (v := 24) hx hb dX5_copyFrom_132 (by decide) ?_
        refine cp_4 hx hb (hml.trans hl.1.symm) hown htm hE hP hS hw hw' hww (htm _ qw_154) (Nat.le_of_ble_eq_true rfl) (Nat.le_of_ble_eq_true rfl) dX5_copyFrom_134 (fun H locs hP hS => ?_)
        refine lv_aload_n hx hb dX5_copyFrom_137 rfl (lv_at hl 0 rfl) ?_
        refine lv_aload_n hx hb dX5_copyFrom_138 rfl (lv_at hl 1 rfl) ?_
        refine gf_0_12 hx hb htm hown hE (hP.swap hww) hw' (htm _ qw_162) dX5_copyFrom_139 ?_
        refine pf_0_12 hx hb htm hown hE hP hS hw (htm _ qw_162) dX5_copyFrom_142 (fun H locs hP hS => ?_)
        refine lv_aload_n hx hb dX5_copyFrom_145 rfl (lv_at hl 0 rfl) ?_
        refine lv_aload_n hx hb dX5_copyFrom_146 rfl (lv_at hl 1 rfl) ?_
        refine gf_0_13 hx hb htm hown hE (hP.swap hww) hw' (htm _ qw_163) dX5_copyFrom_147 ?_
        refine pf_0_13 hx hb htm hown hE hP hS hw (htm _ qw_163) dX5_copyFrom_150 (fun H locs hP hS => ?_)
        refine lv_aload_n hx hb dX5_copyFrom_153 rfl (lv_at hl 1 rfl) ?_
        refine gf_0_14 hx hb htm hown hE (hP.swap hww) hw' (htm _ qw_145) dX5_copyFrom_154 ?_
        refine lv_iconst (v := 0) hx hb dX5_copyFrom_157 (by decide) ?_
        refine lv_aload_n hx hb dX5_copyFrom_158 rfl (lv_at hl 0 rfl) ?_
        refine gf_0_14 hx hb htm hown hE hP hw (htm _ qw_145) dX5_copyFrom_159 ?_
        refine lv_iconst (v := 0) hx hb dX5_copyFrom_162 (by decide) ?_
        refine lv_bipush (v := 24) hx hb dX5_copyFrom_163 (by decide) ?_
        refine cp_5 hx hb (hml.trans hl.1.symm) hown htm hE hP hS hw hw' hww (htm _ qw_154) (Nat.le_of_ble_eq_true rfl) (Nat.le_of_ble_eq_true rfl) dX5_copyFrom_165 (fun H locs hP hS => ?_)
        refine lv_aload_n hx hb dX5_copyFrom_168 rfl (lv_at hl 1 rfl) ?_
        refine gf_0_15 hx hb htm hown hE (hP.swap hww) hw' (htm _ qw_146) dX5_copyFrom_169 ?_
        refine lv_iconst (v := 0) hx hb dX5_copyFrom_172 (by decide) ?_
        refine lv_aload_n hx hb dX5_copyFrom_173 rfl (lv_at hl 0 rfl) ?_
        refine gf_0_15 hx hb htm hown hE hP hw (htm _ qw_146) dX5_copyFrom_174 ?_
        refine lv_iconst (v := 0) hx hb dX5_copyFrom_177 (by decide) ?_
        refine lv_bipush (v := 24) hx hb dX5_copyFrom_178 (by decide) ?_
        refine cp_6 hx hb (hml.trans hl.1.symm) hown htm hE hP hS hw hw' hww (htm _ qw_154) (Nat.le_of_ble_eq_true rfl) (Nat.le_of_ble_eq_true rfl) dX5_copyFrom_180 (fun H locs hP hS => ?_)
        refine lv_aload_n hx hb dX5_copyFrom_183 rfl (lv_at hl 0 rfl) ?_
        refine lv_aload_n hx hb dX5_copyFrom_184 rfl (lv_at hl 1 rfl) ?_
        refine gf_0_16 hx hb htm hown hE (hP.swap hww) hw' (htm _ qw_164) dX5_copyFrom_185 ?_
        refine pf_0_16 hx hb htm hown hE hP hS hw (htm _ qw_164) dX5_copyFrom_188 (fun H locs hP hS => ?_)
        have e1 := Option.some.inj hF
        subst e1
        exact m_vret X hS hP dX5_copyFrom_191
      · have hF := ite_F c2 hF
        refine lv_aload_n hx hb dX5_copyFrom_53 rfl (lv_at hl 0 rfl) ?_
        refine gf_0_4 hx hb htm hown hE hP hw (htm _ qw_143) dX5_copyFrom_54 ?_
        refine lv_iload_n hx hb dX5_copyFrom_57 rfl (lv_at hl 3 rfl) ?_
        obtain ⟨hn3, hF⟩ := ite_S hF
        refine mql hx hb htm hown hE hP hw hn3 dX5_copyFrom_58 ?_
        have hj4 : Int32.toNatClampNeg y3 < 24 := Nat.not_le.mp fun q => hn3 (Or.inr q)
        refine lv_aload_n hx hb dX5_copyFrom_59 rfl (lv_at hl 1 rfl) ?_
        refine gf_0_4 hx hb htm hown hE (hP.swap hww) hw' (htm _ qw_143) dX5_copyFrom_60 ?_
        refine lv_iload_n hx hb dX5_copyFrom_63 rfl (lv_at hl 3 rfl) ?_
        obtain ⟨hn5, hF⟩ := ite_S hF
        refine mql hx hb htm hown hE (hP.swap hww) hw' hn5 dX5_copyFrom_64 ?_
        have hj6 : Int32.toNatClampNeg y3 < 24 := Nat.not_le.mp fun q => hn5 (Or.inr q)
        obtain ⟨V7, hc7, hF⟩ := ob_S hF
        refine m_cVv X hS vw_X2_copyFrom qw_165 (c_X2_copyFrom hw hw' hww hj6 hj6 hc7) ⟨rfl, rfl⟩ ⟨Nat.le_of_ble_eq_true rfl, Nat.le_of_ble_eq_true rfl⟩ (rc_7 hE hP hw hj6) hP rfl hl.1 (rest := []) rfl (Nat.le_of_ble_eq_true rfl) dX5_copyFrom_65 (fun H locs hP hS => ?_)
        refine lv_iinc (v := y3 + 1) (lv' := [(3, .int (y3 + 1)), (0, .ref (ad w 0 0)), (1, .ref (ad w' 0 0)), (2, .int y2)]) hx hb dX5_copyFrom_68 hl (k := 3) rfl rfl (by decide) rfl (fun ls hl => ?_)
        refine lv_goto (tgt := 42) hx hb dX5_copyFrom_71 (by decide) ?_
        exact ih42 _ _ _  hP hS (lv_sub hl [1, 2, 3, 0] rfl) hF
set_option maxRecDepth 20000 in
set_option maxHeartbeats 4000000 in
theorem c_X5_copyFrom {l : Launch} {D : va_G} {ad : Nat → Nat → Nat → Nat} {cI cZ cP : ClassId} {A : Nat → Prop} {w w' : Nat} (hw : w < 2) (hw' : w' < 2) (hww : w + w' = 1) {G V U : MT}  {V' : MT}  (hF : f_X5_copyFrom V U  = some V') : Met l yX5_copyFrom (.code yX5_copyFrom cX5_copyFrom 4 none :: WM) rm_X5_copyFrom (PcM D ad cI cZ cP A [.ref (ad w 0 0), .ref (ad w' 0 0)] (Pic D ad cI cZ cP w G V U)) (QcV A (Pic D ad cI cZ cP w G V' U)) 0 0 A := by
  refine m_entry (by decide) (Nat.le_of_ble_eq_true rfl) (fun p e s m below meth c ls X hP hS hl => ?_)
  have X : MX p s m _ meth c cX5_copyFrom RX5 4 none D ad cI cZ cP A := X
  obtain ⟨hx, hb, hml, hown, htm, hr, hlk, hE⟩ := id X
  have hl : lv_has ls 4 [(0, .ref (ad w 0 0)), (1, .ref (ad w' 0 0))] := hl
  refine lv_aload_n hx hb dX5_copyFrom_0 rfl (lv_at hl 1 rfl) ?_
  refine gf_0_2 hx hb htm hown hE (hP.swap hww) hw' (htm _ qw_140) dX5_copyFrom_1 ?_
  refine lv_iconst (v := 0) hx hb dX5_copyFrom_4 (by decide) ?_
  refine lv_aload_n hx hb dX5_copyFrom_5 rfl (lv_at hl 0 rfl) ?_
  refine gf_0_2 hx hb htm hown hE hP hw (htm _ qw_140) dX5_copyFrom_6 ?_
  refine lv_iconst (v := 0) hx hb dX5_copyFrom_9 (by decide) ?_
  refine lv_iconst (v := 4) hx hb dX5_copyFrom_10 (by decide) ?_
  refine cp_1 hx hb (hml.trans hl.1.symm) hown htm hE hP hS hw hw' hww (htm _ qw_154) (Nat.le_of_ble_eq_true rfl) (Nat.le_of_ble_eq_true rfl) dX5_copyFrom_11 (fun H locs hP hS => ?_)
  refine lv_aload_n hx hb dX5_copyFrom_14 rfl (lv_at hl 1 rfl) ?_
  refine gf_0_3 hx hb htm hown hE (hP.swap hww) hw' (htm _ qw_141) dX5_copyFrom_15 ?_
  refine lv_iconst (v := 0) hx hb dX5_copyFrom_18 (by decide) ?_
  refine lv_aload_n hx hb dX5_copyFrom_19 rfl (lv_at hl 0 rfl) ?_
  refine gf_0_3 hx hb htm hown hE hP hw (htm _ qw_141) dX5_copyFrom_20 ?_
  refine lv_iconst (v := 0) hx hb dX5_copyFrom_23 (by decide) ?_
  refine lv_iconst (v := 4) hx hb dX5_copyFrom_24 (by decide) ?_
  refine cp_2 hx hb (hml.trans hl.1.symm) hown htm hE hP hS hw hw' hww (htm _ qw_154) (Nat.le_of_ble_eq_true rfl) (Nat.le_of_ble_eq_true rfl) dX5_copyFrom_25 (fun H locs hP hS => ?_)
  refine lv_aload_n hx hb dX5_copyFrom_28 rfl (lv_at hl 0 rfl) ?_
  refine gf_0_5 hx hb htm hown hE hP hw (htm _ qw_155) dX5_copyFrom_29 ?_
  refine lv_aload_n hx hb dX5_copyFrom_32 rfl (lv_at hl 1 rfl) ?_
  refine gf_0_5 hx hb htm hown hE (hP.swap hww) hw' (htm _ qw_155) dX5_copyFrom_33 ?_
  refine va_mmax hx hb (hml.trans hl.1.symm) hown (htm _ qw_156) (htm _ qw_97) (htm _ qw_94) (htm _ qw_98) (Nat.le_of_ble_eq_true rfl) (Nat.le_of_ble_eq_true rfl) (Nat.zero_le _) (Nat.zero_le _) dX5_copyFrom_36 ?_
  refine lv_istore_n (lv' := [(2, .int (if (ct (ct V 1 0 (U 1 0) 4) 2 0 (U 2 0) 4) 0 0 5 < U 0 0 5 then U 0 0 5 else (ct (ct V 1 0 (U 1 0) 4) 2 0 (U 2 0) 4) 0 0 5)), (0, .ref (ad w 0 0)), (1, .ref (ad w' 0 0))]) hx hb dX5_copyFrom_39 rfl hl (by decide) rfl (fun ls hl => ?_)
  refine lv_iconst (v := 0) hx hb dX5_copyFrom_40 (by decide) ?_
  refine lv_istore_n (lv' := [(3, .int 0), (2, .int (if (ct (ct V 1 0 (U 1 0) 4) 2 0 (U 2 0) 4) 0 0 5 < U 0 0 5 then U 0 0 5 else (ct (ct V 1 0 (U 1 0) 4) 2 0 (U 2 0) 4) 0 0 5)), (0, .ref (ad w 0 0)), (1, .ref (ad w' 0 0))]) hx hb dX5_copyFrom_41 rfl hl (by decide) rfl (fun ls hl => ?_)
  exact l_X5_copyFrom_42 X hw hw' hww  30 _ _ _ hP hS (lv_sub hl [2, 3, 1, 0] rfl) hF
