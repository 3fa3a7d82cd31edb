theorem vw_X5_signalTo : VW RX5 yX5_signalTo cX5_signalTo 5 none 3 := ⟨qw_280, qw_281, qw_203, qw_244, ⟨rfl, by decide, by decide, by decide +kernel⟩⟩
def f_X5_signalTo (G V : MT) (x1 : Int32) (x2 : Int32) (x3 : Int32) : Option (MT) :=
  (f_X5_living G V x1).bind (fun q1_ => oc q1_ (some V) (fun e1 => if e1 < 24 then (if x3 = 9 then ((f_X5_end G V e1 8).bind (fun q9_ => some q9_)) else ((f_X2_isSupervisor V e1).bind (fun q3_ => if q3_ = 0 then (if V 7 e1 12 = 0 then (if x3 = 0 then (some V) else ((f_X5_end G V e1 x3).bind (fun q7_ => some q7_))) else ((f_X5_putMail G V x1 3 ((10 * x2) + x3)).bind (fun q8_ => some q8_.2))) else (some V)))) else none))
def rm_X5_signalTo : Room := { frames := 2, cells := 0, slots := 0, locals := 46 }
set_option maxRecDepth 20000 in
set_option maxHeartbeats 4000000 in
theorem c_X5_signalTo {l : Launch} {D : va_G} {ad : Nat → Nat → Nat → Nat} {cI cZ cP : ClassId} {A : Nat → Prop} {w : Nat} (hw : w < 2) {G V U : MT} {x1 : Int32} {x2 : Int32} {x3 : Int32} {V' : MT}  (hF : f_X5_signalTo G V x1 x2 x3 = some V') : Met l yX5_signalTo (.code yX5_signalTo cX5_signalTo 5 none :: WM) rm_X5_signalTo (PcM D ad cI cZ cP A [.ref (ad w 0 0), .int x1, .int x2, .int x3] (Pic D ad cI cZ cP w G V U)) (QcV A (Pic D ad cI cZ cP w G V' U)) 0 0 A := by
  refine m_entry (by decide) (Nat.le_of_ble_eq_true rfl) (fun p e s m below meth c ls X hP hS hl => ?_)
  have X : MX p s m _ meth c cX5_signalTo RX5 5 none D ad cI cZ cP A := X
  obtain ⟨hx, hb, hml, hown, htm, hr, hlk, hE⟩ := id X
  have hl : lv_has ls 5 [(0, .ref (ad w 0 0)), (1, .int x1), (2, .int x2), (3, .int x3)] := hl
  refine lv_aload_n hx hb dX5_signalTo_0 rfl (lv_at hl 0 rfl) ?_
  refine lv_iload_n hx hb dX5_signalTo_1 rfl (lv_at hl 1 rfl) ?_
  obtain ⟨r1, hc1, hF⟩ := ob_S hF
  refine m_cVq X hS vw_X5_living qw_217 (c_X5_living hw hc1) ⟨rfl, rfl⟩ ⟨Nat.le_of_ble_eq_true rfl, Nat.le_of_ble_eq_true rfl⟩ (rc_0 hE hP hw) hP rfl hl.1 (rest := []) rfl (Nat.le_of_ble_eq_true rfl) dX5_signalTo_2 (fun H locs hP hS => ?_)
  rcases r1 with _ | e1
  · have hF := oc_N hF
    refine lv_astoreN (lv' := [(4, .null), (0, .ref (ad w 0 0)), (1, .int x1), (2, .int x2), (3, .int x3)]) hx hb dX5_signalTo_5 hl (by decide) rfl (fun ls hl => ?_)
    refine lv_aloadN hx hb dX5_signalTo_7 (lv_at hl 0 rfl) ?_
    refine lv_ifnonnullN hx hb dX5_signalTo_9 ?_
    have e1 := Option.some.inj hF
    subst e1
    exact m_vret X hS hP dX5_signalTo_12
  · obtain ⟨he1, hF⟩ := ite_S (oc_J hF)
    refine lv_astore (lv' := [(4, .ref (ad w 7 e1)), (0, .ref (ad w 0 0)), (1, .int x1), (2, .int x2), (3, .int x3)]) hx hb dX5_signalTo_5 hl (by decide) rfl (fun ls hl => ?_)
    refine lv_aload hx hb dX5_signalTo_7 (lv_at hl 0 rfl) ?_
    refine lv_ifnonnull (tgt := 13) hx hb dX5_signalTo_9 (by decide) ?_
    refine lv_iload_n hx hb dX5_signalTo_13 rfl (lv_at hl 4 rfl) ?_
    refine lv_bipush (v := 9) hx hb dX5_signalTo_14 (by decide) ?_
    refine lv_icmp_ne (tgt := 30) hx hb dX5_signalTo_16 (by decide) (fun c2 => ?_) (fun c2 => ?_)
    · have hF := ite_F c2 hF
      refine lv_aload hx hb dX5_signalTo_30 (lv_at hl 0 rfl) ?_
      obtain ⟨r3, hc3, hF⟩ := ob_S hF
      refine m_cVi X hS vw_X2_isSupervisor qw_220 (c_X2_isSupervisor hw he1 hc3) ⟨rfl, rfl⟩ ⟨Nat.le_of_ble_eq_true rfl, Nat.le_of_ble_eq_true rfl⟩ (rc_7 hE hP hw he1) hP rfl hl.1 (rest := []) rfl (Nat.le_of_ble_eq_true rfl) dX5_signalTo_32 (fun H locs hP hS => ?_)
      refine lv_if_eq (tgt := 39) hx hb dX5_signalTo_35 (by decide) (fun c4 => ?_) (fun c4 => ?_)
      · have hF := ite_T c4 hF
        refine lv_aload hx hb dX5_signalTo_39 (lv_at hl 0 rfl) ?_
        refine gf_7_12 hx hb htm hown hE hP hw he1 (htm _ qw_243) dX5_signalTo_41 ?_
        refine lv_if_eq (tgt := 63) hx hb dX5_signalTo_44 (by decide) (fun c5 => ?_) (fun c5 => ?_)
        · have hF := ite_T c5 hF
          refine lv_iload_n hx hb dX5_signalTo_63 rfl (lv_at hl 4 rfl) ?_
          refine lv_if_eq (tgt := 74) hx hb dX5_signalTo_64 (by decide) (fun c6 => ?_) (fun c6 => ?_)
          · have hF := ite_T c6 hF
            have e1 := Option.some.inj hF
            subst e1
            exact m_vret X hS hP dX5_signalTo_74
          · have hF := ite_F c6 hF
            refine lv_aload_n hx hb dX5_signalTo_67 rfl (lv_at hl 1 rfl) ?_
            refine lv_aload hx hb dX5_signalTo_68 (lv_at hl 0 rfl) ?_
            refine lv_iload_n hx hb dX5_signalTo_70 rfl (lv_at hl 4 rfl) ?_
            obtain ⟨V7, hc7, hF⟩ := ob_S hF
            refine m_cVv X hS vw_X5_end qw_207 (c_X5_end hw he1 hc7) ⟨rfl, rfl⟩ ⟨Nat.le_of_ble_eq_true rfl, Nat.le_of_ble_eq_true rfl⟩ (rc_0 hE hP hw) hP rfl hl.1 (rest := []) rfl (Nat.le_of_ble_eq_true rfl) dX5_signalTo_71 (fun H locs hP hS => ?_)
            have e1 := Option.some.inj hF
            subst e1
            exact m_vret X hS hP dX5_signalTo_74
        · have hF := ite_F c5 hF
          refine lv_aload_n hx hb dX5_signalTo_47 rfl (lv_at hl 1 rfl) ?_
          refine lv_iload_n hx hb dX5_signalTo_48 rfl (lv_at hl 2 rfl) ?_
          refine lv_iconst (v := 3) hx hb dX5_signalTo_49 (by decide) ?_
          refine lv_bipush (v := 10) hx hb dX5_signalTo_50 (by decide) ?_
          refine lv_iload_n hx hb dX5_signalTo_52 rfl (lv_at hl 3 rfl) ?_
          refine lv_imul hx hb dX5_signalTo_53 ?_
          refine lv_iload_n hx hb dX5_signalTo_54 rfl (lv_at hl 4 rfl) ?_
          refine lv_iadd hx hb dX5_signalTo_55 ?_
          obtain ⟨⟨r8, V8⟩, hc8, hF⟩ := ob_S hF
          refine m_cVi X hS vw_X5_putMail qw_237 (c_X5_putMail hw hc8) ⟨rfl, rfl⟩ ⟨Nat.le_of_ble_eq_true rfl, Nat.le_of_ble_eq_true rfl⟩ (rc_0 hE hP hw) hP rfl hl.1 (rest := []) rfl (Nat.le_of_ble_eq_true rfl) dX5_signalTo_56 (fun H locs hP hS => ?_)
          refine lv_pop hx hb dX5_signalTo_59 rfl ?_
          refine lv_goto (tgt := 74) hx hb dX5_signalTo_60 (by decide) ?_
          have e1 := Option.some.inj hF
          subst e1
          exact m_vret X hS hP dX5_signalTo_74
      · have hF := ite_F c4 hF
        have e1 := Option.some.inj hF
        subst e1
        exact m_vret X hS hP dX5_signalTo_38
    · have hF := ite_T c2 hF
      refine lv_aload_n hx hb dX5_signalTo_19 rfl (lv_at hl 1 rfl) ?_
      refine lv_aload hx hb dX5_signalTo_20 (lv_at hl 0 rfl) ?_
      refine lv_bipush (v := 8) hx hb dX5_signalTo_22 (by decide) ?_
      obtain ⟨V9, hc9, hF⟩ := ob_S hF
      refine m_cVv X hS vw_X5_end qw_207 (c_X5_end hw he1 hc9) ⟨rfl, rfl⟩ ⟨Nat.le_of_ble_eq_true rfl, Nat.le_of_ble_eq_true rfl⟩ (rc_0 hE hP hw) hP rfl hl.1 (rest := []) rfl (Nat.le_of_ble_eq_true rfl) dX5_signalTo_24 (fun H locs hP hS => ?_)
      refine lv_goto (tgt := 74) hx hb dX5_signalTo_27 (by decide) ?_
      have e1 := Option.some.inj hF
      subst e1
      exact m_vret X hS hP dX5_signalTo_74
