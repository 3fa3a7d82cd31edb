theorem vw_X5_endChildren : VW RX5 yX5_endChildren cX5_endChildren 6 none 3 := ⟨qw_267, qw_268, qw_203, qw_216, ⟨rfl, by decide, by decide, by decide +kernel⟩⟩
def f_X5_endChildren_3 (G : MT) : Nat → Nat → Int32 → Int32 → Int32 → MT → Option (MT)
  | 0, _, _, _, _, _ => none
  | n + 1, j1, y2, y3, y4, V => if y4 < 0 then (some V) else (if y4 < y2 then (some V) else (if ¬ (y4 < 0 ∨ 4 ≤ Int32.toNatClampNeg y4) then ((f_X5_procAt G V (V 9 j1 (Int32.toNatClampNeg y4))).bind (fun q4_ => oc q4_ ((f_X5_endChildren_3 G n) j1 y2 y3 (y4 + (-1)) V) (fun e4 => if e4 < 24 then (if y4 = y3 then ((f_X5_endChildren_3 G n) j1 y2 y3 (y4 + (-1)) V) else ((f_X5_end G V e4 5).bind (fun q6_ => if ¬ (y4 < 0 ∨ 4 ≤ Int32.toNatClampNeg y4) then ((f_X5_endChildren_3 G n) j1 y2 y3 (y4 + (-1)) (pt (pt q6_ 7 e4 4 (-1)) 9 j1 (Int32.toNatClampNeg y4) (-1))) else none))) else none))) else none))
def f_X5_endChildren (G V : MT) (i1 : Nat) (x2 : Int32) (x3 : Int32) : Option (MT) :=
  f_X5_endChildren_3 G  30 i1 x2 x3 3 V
def rm_X5_endChildren : Room := { frames := 1, cells := 0, slots := 0, locals := 23 }
set_option maxRecDepth 20000 in
set_option maxHeartbeats 4000000 in
theorem l_X5_endChildren_3 {p : Program} {l : Launch} {e : Env} {s : State} {m : MethodId} {args : Array Value} {below : List Frame} {meth : Method} {c : Code} {D : va_G} {ad : Nat → Nat → Nat → Nat} {cI cZ cP : ClassId} {A : Nat → Prop} {G U : MT} {V' : MT} (X : MX p s m args meth c cX5_endChildren RX5 6 none D ad cI cZ cP A) {w : Nat} (hw : w < 2) (n : Nat) : ∀ {H : Heap} {locs : List Loc} {ls : Array Slot} (j1 : Nat) (y2 : Int32) (y3 : Int32) (y4 : Int32) (V : MT), j1 < 24 → Pic D ad cI cZ cP w G V U H → va_S A s.heap H locs → lv_has ls 6 [(0, .ref (ad w 0 0)), (1, .ref (ad w 7 j1)), (2, .int y2), (3, .int y3), (4, .int y4)] → f_X5_endChildren_3 G n j1 y2 y3 y4 V = some V' → W p l e rm_X5_endChildren s m args below meth c H locs 0 0 (MQ below (QcV A (Pic D ad cI cZ cP w G V' U)) args s 0 0 A) (F0 m 3 ls []) := by
  obtain ⟨hx, hb, hml, hown, htm, hr, hlk, hE⟩ := id X
  induction n with
  | zero =>
    intros
    exact ns_S (by assumption)
  | succ n ih3 =>
    intro H locs ls j1 y2 y3 y4 V hj1  hP hS hl hF
    rw [f_X5_endChildren_3] at hF
    refine lv_iload hx hb dX5_endChildren_3 (lv_at hl 4 rfl) ?_
    refine lv_if_lt (tgt := 68) hx hb dX5_endChildren_5 (by decide) (fun c1 => ?_) (fun c1 => ?_)
    · have hF := ite_T c1 hF
      have e1 := Option.some.inj hF
      subst e1
      exact m_vret X hS hP dX5_endChildren_68
    · have hF := ite_F c1 hF
      refine lv_iload hx hb dX5_endChildren_8 (lv_at hl 4 rfl) ?_
      refine lv_iload_n hx hb dX5_endChildren_10 rfl (lv_at hl 2 rfl) ?_
      refine lv_icmp_lt (tgt := 68) hx hb dX5_endChildren_11 (by decide) (fun c2 => ?_) (fun c2 => ?_)
      · have hF := ite_T c2 hF
        have e1 := Option.some.inj hF
        subst e1
        exact m_vret X hS hP dX5_endChildren_68
      · have hF := ite_F c2 hF
        refine lv_aload_n hx hb dX5_endChildren_14 rfl (lv_at hl 0 rfl) ?_
        refine lv_aload_n hx hb dX5_endChildren_15 rfl (lv_at hl 1 rfl) ?_
        refine gf_7_16 hx hb htm hown hE hP hw hj1 (htm _ qw_193) dX5_endChildren_16 ?_
        refine lv_iload hx hb dX5_endChildren_19 (lv_at hl 4 rfl) ?_
        obtain ⟨hn3, hF⟩ := ite_S hF
        refine al_9 hx hb htm hown hE hP hw hj1 hn3 dX5_endChildren_21 ?_
        obtain ⟨r4, hc4, hF⟩ := ob_S hF
        refine m_cVq X hS vw_X5_procAt qw_213 (c_X5_procAt hw hc4) ⟨rfl, rfl⟩ ⟨Nat.le_of_ble_eq_true rfl, Nat.le_of_ble_eq_true rfl⟩ (rc_0 hE hP hw) hP rfl hl.1 (rest := []) rfl (Nat.le_of_ble_eq_true rfl) dX5_endChildren_22 (fun H locs hP hS => ?_)
        rcases r4 with _ | e4
        · have hF := oc_N hF
          refine lv_astoreN (lv' := [(5, .null), (0, .ref (ad w 0 0)), (1, .ref (ad w 7 j1)), (2, .int y2), (3, .int y3), (4, .int y4)]) hx hb dX5_endChildren_25 hl (by decide) rfl (fun ls hl => ?_)
          refine lv_aloadN hx hb dX5_endChildren_27 (lv_at hl 0 rfl) ?_
          refine lv_ifnullN (tgt := 62) hx hb dX5_endChildren_29 (by decide) ?_
          refine lv_iinc (v := y4 + (-1)) (lv' := [(4, .int (y4 + (-1))), (5, .null), (0, .ref (ad w 0 0)), (1, .ref (ad w 7 j1)), (2, .int y2), (3, .int y3)]) hx hb dX5_endChildren_62 hl (k := 5) rfl rfl (by decide) rfl (fun ls hl => ?_)
          refine lv_goto (tgt := 3) hx hb dX5_endChildren_65 (by decide) ?_
          exact ih3 _ _ _ _ _ hj1 hP hS (lv_sub hl [2, 3, 4, 5, 0] rfl) hF
        · obtain ⟨he4, hF⟩ := ite_S (oc_J hF)
          refine lv_astore (lv' := [(5, .ref (ad w 7 e4)), (0, .ref (ad w 0 0)), (1, .ref (ad w 7 j1)), (2, .int y2), (3, .int y3), (4, .int y4)]) hx hb dX5_endChildren_25 hl (by decide) rfl (fun ls hl => ?_)
          refine lv_aload hx hb dX5_endChildren_27 (lv_at hl 0 rfl) ?_
          refine lv_ifnull hx hb dX5_endChildren_29 ?_
          refine lv_iload hx hb dX5_endChildren_32 (lv_at hl 5 rfl) ?_
          refine lv_iload_n hx hb dX5_endChildren_34 rfl (lv_at hl 4 rfl) ?_
          refine lv_icmp_ne (tgt := 41) hx hb dX5_endChildren_35 (by decide) (fun c5 => ?_) (fun c5 => ?_)
          · have hF := ite_F c5 hF
            refine lv_aload_n hx hb dX5_endChildren_41 rfl (lv_at hl 1 rfl) ?_
            refine lv_aload hx hb dX5_endChildren_42 (lv_at hl 0 rfl) ?_
            refine lv_iconst (v := 5) hx hb dX5_endChildren_44 (by decide) ?_
            obtain ⟨V6, hc6, hF⟩ := ob_S hF
            refine m_cVv X hS vw_X5_end qw_207 (c_X5_end hw he4 hc6) ⟨rfl, rfl⟩ ⟨Nat.le_of_ble_eq_true rfl, Nat.le_of_ble_eq_true rfl⟩ (rc_0 hE hP hw) hP rfl hl.1 (rest := []) rfl (Nat.le_of_ble_eq_true rfl) dX5_endChildren_45 (fun H locs hP hS => ?_)
            refine lv_aload hx hb dX5_endChildren_48 (lv_at hl 0 rfl) ?_
            refine lv_iconst (v := (-1)) hx hb dX5_endChildren_50 (by decide) ?_
            refine pf_7_4 hx hb htm hown hE hP hS hw he4 (htm _ qw_178) dX5_endChildren_51 (fun H locs hP hS => ?_)
            refine lv_aload_n hx hb dX5_endChildren_54 rfl (lv_at hl 2 rfl) ?_
            refine gf_7_16 hx hb htm hown hE hP hw hj1 (htm _ qw_193) dX5_endChildren_55 ?_
            refine lv_iload hx hb dX5_endChildren_58 (lv_at hl 5 rfl) ?_
            refine lv_iconst (v := (-1)) hx hb dX5_endChildren_60 (by decide) ?_
            obtain ⟨hn7, hF⟩ := ite_S hF
            refine as_9 hx hb htm hown hE hP hS hw hj1 hn7 dX5_endChildren_61 (fun H locs hP hS => ?_)
            refine lv_iinc (v := y4 + (-1)) (lv' := [(4, .int (y4 + (-1))), (5, .ref (ad w 7 e4)), (0, .ref (ad w 0 0)), (1, .ref (ad w 7 j1)), (2, .int y2), (3, .int y3)]) hx hb dX5_endChildren_62 hl (k := 5) rfl rfl (by decide) rfl (fun ls hl => ?_)
            refine lv_goto (tgt := 3) hx hb dX5_endChildren_65 (by decide) ?_
            exact ih3 _ _ _ _ _ hj1 hP hS (lv_sub hl [2, 3, 4, 5, 0] rfl) hF
          · have hF := ite_T c5 hF
            refine lv_goto (tgt := 62) hx hb dX5_endChildren_38 (by decide) ?_
            refine lv_iinc (v := y4 + (-1)) (lv' := [(4, .int (y4 + (-1))), (5, .ref (ad w 7 e4)), (0, .ref (ad w 0 0)), (1, .ref (ad w 7 j1)), (2, .int y2), (3, .int y3)]) hx hb dX5_endChildren_62 hl (k := 5) rfl rfl (by decide) rfl (fun ls hl => ?_)
            refine lv_goto (tgt := 3) hx hb dX5_endChildren_65 (by decide) ?_
            exact ih3 _ _ _ _ _ hj1 hP hS (lv_sub hl [2, 3, 4, 5, 0] rfl) hF
set_option maxRecDepth 20000 in
set_option maxHeartbeats 4000000 in
theorem c_X5_endChildren {l : Launch} {D : va_G} {ad : Nat → Nat → Nat → Nat} {cI cZ cP : ClassId} {A : Nat → Prop} {w : Nat} (hw : w < 2) {G V U : MT} {i1 : Nat} {x2 : Int32} {x3 : Int32} {V' : MT}  (hi1 : i1 < 24) (hF : f_X5_endChildren G V i1 x2 x3 = some V') : Met l yX5_endChildren (.code yX5_endChildren cX5_endChildren 6 none :: WM) rm_X5_endChildren (PcM D ad cI cZ cP A [.ref (ad w 0 0), .ref (ad w 7 i1), .int x2, .int x3] (Pic D ad cI cZ cP w G V U)) (QcV A (Pic D ad cI cZ cP w G V' U)) 0 0 A := by
  refine m_entry (by decide) (Nat.le_of_ble_eq_true rfl) (fun p e s m below meth c ls X hP hS hl => ?_)
  have X : MX p s m _ meth c cX5_endChildren RX5 6 none D ad cI cZ cP A := X
  obtain ⟨hx, hb, hml, hown, htm, hr, hlk, hE⟩ := id X
  have hl : lv_has ls 6 [(0, .ref (ad w 0 0)), (1, .ref (ad w 7 i1)), (2, .int x2), (3, .int x3)] := hl
  refine lv_iconst (v := 3) hx hb dX5_endChildren_0 (by decide) ?_
  refine lv_istore (lv' := [(4, .int 3), (0, .ref (ad w 0 0)), (1, .ref (ad w 7 i1)), (2, .int x2), (3, .int x3)]) hx hb dX5_endChildren_1 hl (by decide) rfl (fun ls hl => ?_)
  exact l_X5_endChildren_3 X hw  30 _ _ _ _ _ hi1 hP hS (lv_sub hl [1, 2, 3, 4, 0] rfl) hF
