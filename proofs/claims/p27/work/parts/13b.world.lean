theorem vw_X5_comesOfSpec : VW RX5 yX5_comesOfSpec cX5_comesOfSpec 4 (some (.object "MailDen$Proc")) 2 := ⟨qw_201, qw_202, qw_203, qw_183, ⟨rfl, by decide, by decide, by decide +kernel⟩⟩
theorem vw_X5_ready : VW RX5 yX5_ready cX5_ready 2 none 1 := ⟨qw_230, qw_231, qw_203, qw_185, ⟨rfl, by decide, by decide, by decide +kernel⟩⟩
theorem vw_X5_putMail : VW RX5 yX5_putMail cX5_putMail 5 (some .boolean) 3 := ⟨qw_238, qw_239, qw_203, qw_232, ⟨rfl, by decide, by decide, by decide +kernel⟩⟩
def f_X5_comesOfSpec (G V : MT) (x1 : Int32) (x2 : Int32) : Option (Option Nat × MT) :=
  if V 0 0 5 < 24 then (if ¬ (V 0 0 5 < 0 ∨ 24 ≤ Int32.toNatClampNeg (V 0 0 5)) then (some ((some (Int32.toNatClampNeg (V 0 0 5))), (pt (pt (pt (pt V 0 0 5 ((V 0 0 5) + 1)) 7 (Int32.toNatClampNeg (V 0 0 5)) 3 x1) 7 (Int32.toNatClampNeg (V 0 0 5)) 4 x2) 7 (Int32.toNatClampNeg (V 0 0 5)) 8 (-1)))) else none) else (some (none, V))
def rm_X5_comesOfSpec : Room := { frames := 0, cells := 0, slots := 0, locals := 0 }
set_option maxRecDepth 20000 in
set_option maxHeartbeats 4000000 in
theorem c_X5_comesOfSpec {l : Launch} {D : va_G} {ad : Nat → Nat → Nat → Nat} {cI cZ cP : ClassId} {A : Nat → Prop} {w : Nat} (hw : w < 2) {G V U : MT} {x1 : Int32} {x2 : Int32} {r : Option Nat} {V' : MT}  (hF : f_X5_comesOfSpec G V x1 x2 = some (r, V')) : Met l yX5_comesOfSpec (.code yX5_comesOfSpec cX5_comesOfSpec 4 (some (.object "MailDen$Proc")) :: WM) rm_X5_comesOfSpec (PcM D ad cI cZ cP A [.ref (ad w 0 0), .int x1, .int x2] (Pic D ad cI cZ cP w G V U)) (QcQ A (r.map (ad w 7)) (Pic D ad cI cZ cP w G V' U)) 0 0 A := by
  refine m_entry (by decide) (Nat.le_of_ble_eq_true rfl) (fun p e s m below meth c ls X hP hS hl => ?_)
  have X : MX p s m _ meth c cX5_comesOfSpec RX5 4 (some (.object "MailDen$Proc")) D ad cI cZ cP A := X
  obtain ⟨hx, hb, hml, hown, htm, hr, hlk, hE⟩ := id X
  have hl : lv_has ls 4 [(0, .ref (ad w 0 0)), (1, .int x1), (2, .int x2)] := hl
  refine lv_aload_n hx hb dX5_comesOfSpec_0 rfl (lv_at hl 0 rfl) ?_
  refine gf_0_5 hx hb htm hown hE hP hw (htm _ qw_155) dX5_comesOfSpec_1 ?_
  refine lv_bipush (v := 24) hx hb dX5_comesOfSpec_4 (by decide) ?_
  refine lv_icmp_lt (tgt := 11) hx hb dX5_comesOfSpec_6 (by decide) (fun c1 => ?_) (fun c1 => ?_)
  · have hF := ite_T c1 hF
    refine lv_aload_n hx hb dX5_comesOfSpec_11 rfl (lv_at hl 0 rfl) ?_
    refine gf_0_4 hx hb htm hown hE hP hw (htm _ qw_143) dX5_comesOfSpec_12 ?_
    refine lv_aload_n hx hb dX5_comesOfSpec_15 rfl (lv_at hl 0 rfl) ?_
    refine gf_0_5 hx hb htm hown hE hP hw (htm _ qw_155) dX5_comesOfSpec_16 ?_
    obtain ⟨hn2, hF⟩ := ite_S hF
    refine mql hx hb htm hown hE hP hw hn2 dX5_comesOfSpec_19 ?_
    have hj3 : Int32.toNatClampNeg (V 0 0 5) < 24 := Nat.not_le.mp fun q => hn2 (Or.inr q)
    refine lv_astore_n (lv' := [(3, .ref (ad w 7 (Int32.toNatClampNeg (V 0 0 5)))), (0, .ref (ad w 0 0)), (1, .int x1), (2, .int x2)]) hx hb dX5_comesOfSpec_20 rfl hl (by decide) rfl (fun ls hl => ?_)
    refine lv_aload_n hx hb dX5_comesOfSpec_21 rfl (lv_at hl 1 rfl) ?_
    refine lv_dup hx hb dX5_comesOfSpec_22 rfl ?_
    refine gf_0_5 hx hb htm hown hE hP hw (htm _ qw_155) dX5_comesOfSpec_23 ?_
    refine lv_iconst (v := 1) hx hb dX5_comesOfSpec_26 (by decide) ?_
    refine lv_iadd hx hb dX5_comesOfSpec_27 ?_
    refine pf_0_5 hx hb htm hown hE hP hS hw (htm _ qw_155) dX5_comesOfSpec_28 (fun H locs hP hS => ?_)
    refine lv_aload_n hx hb dX5_comesOfSpec_31 rfl (lv_at hl 0 rfl) ?_
    refine lv_iload_n hx hb dX5_comesOfSpec_32 rfl (lv_at hl 2 rfl) ?_
    refine pf_7_3 hx hb htm hown hE hP hS hw hj3 (htm _ qw_181) dX5_comesOfSpec_33 (fun H locs hP hS => ?_)
    refine lv_aload_n hx hb dX5_comesOfSpec_36 rfl (lv_at hl 0 rfl) ?_
    refine lv_iload_n hx hb dX5_comesOfSpec_37 rfl (lv_at hl 3 rfl) ?_
    refine pf_7_4 hx hb htm hown hE hP hS hw hj3 (htm _ qw_178) dX5_comesOfSpec_38 (fun H locs hP hS => ?_)
    refine lv_aload_n hx hb dX5_comesOfSpec_41 rfl (lv_at hl 0 rfl) ?_
    refine lv_iconst (v := (-1)) hx hb dX5_comesOfSpec_42 (by decide) ?_
    refine pf_7_8 hx hb htm hown hE hP hS hw hj3 (htm _ qw_182) dX5_comesOfSpec_43 (fun H locs hP hS => ?_)
    refine lv_aload_n hx hb dX5_comesOfSpec_46 rfl (lv_at hl 0 rfl) ?_
    obtain ⟨e1, e2⟩ := Prod.mk.inj (Option.some.inj hF)
    subst e1
    subst e2
    exact m_aretR X hS hP rfl dX5_comesOfSpec_47
  · have hF := ite_F c1 hF
    refine lv_null hx hb dX5_comesOfSpec_9 ?_
    obtain ⟨e1, e2⟩ := Prod.mk.inj (Option.some.inj hF)
    subst e1
    subst e2
    exact m_aretN X hS hP rfl dX5_comesOfSpec_10
def f_X5_ready (G V : MT) (i1 : Nat) : Option (MT) :=
  some (pt (pt (pt (pt V 7 i1 5 0) 7 i1 9 (-1)) 7 i1 11 ((pt (pt V 7 i1 5 0) 7 i1 9 (-1)) 0 0 10)) 0 0 10 (((pt (pt (pt V 7 i1 5 0) 7 i1 9 (-1)) 7 i1 11 ((pt (pt V 7 i1 5 0) 7 i1 9 (-1)) 0 0 10)) 0 0 10) + 1))
def rm_X5_ready : Room := { frames := 0, cells := 0, slots := 0, locals := 0 }
set_option maxRecDepth 20000 in
set_option maxHeartbeats 4000000 in
theorem c_X5_ready {l : Launch} {D : va_G} {ad : Nat → Nat → Nat → Nat} {cI cZ cP : ClassId} {A : Nat → Prop} {w : Nat} (hw : w < 2) {G V U : MT} {i1 : Nat} {V' : MT}  (hi1 : i1 < 24) (hF : f_X5_ready G V i1 = some V') : Met l yX5_ready (.code yX5_ready cX5_ready 2 none :: WM) rm_X5_ready (PcM D ad cI cZ cP A [.ref (ad w 0 0), .ref (ad w 7 i1)] (Pic D ad cI cZ cP w G V U)) (QcV A (Pic D ad cI cZ cP w G V' U)) 0 0 A := by
  refine m_entry (by decide) (Nat.le_of_ble_eq_true rfl) (fun p e s m below meth c ls X hP hS hl => ?_)
  have X : MX p s m _ meth c cX5_ready RX5 2 none D ad cI cZ cP A := X
  obtain ⟨hx, hb, hml, hown, htm, hr, hlk, hE⟩ := id X
  have hl : lv_has ls 2 [(0, .ref (ad w 0 0)), (1, .ref (ad w 7 i1))] := hl
  refine lv_aload_n hx hb dX5_ready_0 rfl (lv_at hl 1 rfl) ?_
  refine lv_iconst (v := 0) hx hb dX5_ready_1 (by decide) ?_
  refine pf_7_5 hx hb htm hown hE hP hS hw hi1 (htm _ qw_170) dX5_ready_2 (fun H locs hP hS => ?_)
  refine lv_aload_n hx hb dX5_ready_5 rfl (lv_at hl 1 rfl) ?_
  refine lv_iconst (v := (-1)) hx hb dX5_ready_6 (by decide) ?_
  refine pf_7_9 hx hb htm hown hE hP hS hw hi1 (htm _ qw_184) dX5_ready_7 (fun H locs hP hS => ?_)
  refine lv_aload_n hx hb dX5_ready_10 rfl (lv_at hl 1 rfl) ?_
  refine lv_aload_n hx hb dX5_ready_11 rfl (lv_at hl 0 rfl) ?_
  refine gf_0_10 hx hb htm hown hE hP hw (htm _ qw_161) dX5_ready_12 ?_
  refine pf_7_11 hx hb htm hown hE hP hS hw hi1 (htm _ qw_179) dX5_ready_15 (fun H locs hP hS => ?_)
  refine lv_aload_n hx hb dX5_ready_18 rfl (lv_at hl 0 rfl) ?_
  refine lv_dup hx hb dX5_ready_19 rfl ?_
  refine gf_0_10 hx hb htm hown hE hP hw (htm _ qw_161) dX5_ready_20 ?_
  refine lv_iconst (v := 1) hx hb dX5_ready_23 (by decide) ?_
  refine lv_iadd hx hb dX5_ready_24 ?_
  refine pf_0_10 hx hb htm hown hE hP hS hw (htm _ qw_161) dX5_ready_25 (fun H locs hP hS => ?_)
  have e1 := Option.some.inj hF
  subst e1
  exact m_vret X hS hP dX5_ready_28
def f_X5_putMail (G V : MT) (x1 : Int32) (x2 : Int32) (x3 : Int32) : Option (Int32 × MT) :=
  (f_X5_living G V x1).bind (fun q1_ => oc q1_ (some (0, (pt V 0 0 7 ((V 0 0 7) + 1)))) (fun e1 => if e1 < 24 then ((f_X2_isSupervisor V e1).bind (fun q2_ => if q2_ = 0 then ((f_X0_put V e1 x2 x3).bind (fun q4_ => if q4_.1 = 0 then (some (0, (pt q4_.2 0 0 7 ((q4_.2 0 0 7) + 1)))) else ((f_X2_waitsForMail q4_.2 e1 x2).bind (fun q6_ => if q6_ = 0 then (some (1, q4_.2)) else ((f_X5_ready G q4_.2 e1).bind (fun q8_ => some (1, q8_))))))) else (some (0, (pt V 0 0 7 ((V 0 0 7) + 1)))))) else none))
def rm_X5_putMail : Room := { frames := 1, cells := 0, slots := 0, locals := 22 }
set_option maxRecDepth 20000 in
set_option maxHeartbeats 4000000 in
theorem c_X5_putMail {l : Launch} {D : va_G} {ad : Nat → Nat → Nat → Nat} {cI cZ cP : ClassId} {A : Nat → Prop} {w : Nat} (hw : w < 2) {G V U : MT} {x1 : Int32} {x2 : Int32} {x3 : Int32} {r : Int32} {V' : MT}  (hF : f_X5_putMail G V x1 x2 x3 = some (r, V')) : Met l yX5_putMail (.code yX5_putMail cX5_putMail 5 (some .boolean) :: WM) rm_X5_putMail (PcM D ad cI cZ cP A [.ref (ad w 0 0), .int x1, .int x2, .int x3] (Pic D ad cI cZ cP w G V U)) (QcI A r (Pic D ad cI cZ cP w G V' U)) 0 0 A := by
  refine m_entry (by decide) (Nat.le_of_ble_eq_true rfl) (fun p e s m below meth c ls X hP hS hl => ?_)
  have X : MX p s m _ meth c cX5_putMail RX5 5 (some .boolean) D ad cI cZ cP A := X
  obtain ⟨hx, hb, hml, hown, htm, hr, hlk, hE⟩ := id X
  have hl : lv_has ls 5 [(0, .ref (ad w 0 0)), (1, .int x1), (2, .int x2), (3, .int x3)] := hl
  refine lv_aload_n hx hb dX5_putMail_0 rfl (lv_at hl 0 rfl) ?_
  refine lv_iload_n hx hb dX5_putMail_1 rfl (lv_at hl 1 rfl) ?_
  obtain ⟨r1, hc1, hF⟩ := ob_S hF
  refine m_cVq X hS vw_X5_living qw_217 (c_X5_living hw hc1) ⟨rfl, rfl⟩ ⟨Nat.le_of_ble_eq_true rfl, Nat.le_of_ble_eq_true rfl⟩ (rc_0 hE hP hw) hP rfl hl.1 (rest := []) rfl (Nat.le_of_ble_eq_true rfl) dX5_putMail_2 (fun H locs hP hS => ?_)
  rcases r1 with _ | e1
  · have hF := oc_N hF
    refine lv_astoreN (lv' := [(4, .null), (0, .ref (ad w 0 0)), (1, .int x1), (2, .int x2), (3, .int x3)]) hx hb dX5_putMail_5 hl (by decide) rfl (fun ls hl => ?_)
    refine lv_aloadN hx hb dX5_putMail_7 (lv_at hl 0 rfl) ?_
    refine lv_ifnullN (tgt := 33) hx hb dX5_putMail_9 (by decide) ?_
    refine lv_aload_n hx hb dX5_putMail_33 rfl (lv_at hl 1 rfl) ?_
    refine lv_dup hx hb dX5_putMail_34 rfl ?_
    refine gf_0_7 hx hb htm hown hE hP hw (htm _ qw_158) dX5_putMail_35 ?_
    refine lv_iconst (v := 1) hx hb dX5_putMail_38 (by decide) ?_
    refine lv_iadd hx hb dX5_putMail_39 ?_
    refine pf_0_7 hx hb htm hown hE hP hS hw (htm _ qw_158) dX5_putMail_40 (fun H locs hP hS => ?_)
    refine lv_iconst (v := 0) hx hb dX5_putMail_43 (by decide) ?_
    obtain ⟨e1, e2⟩ := Prod.mk.inj (Option.some.inj hF)
    subst e1
    subst e2
    exact m_zret X hS hP rfl (Or.inl rfl) dX5_putMail_44
  · obtain ⟨he1, hF⟩ := ite_S (oc_J hF)
    refine lv_astore (lv' := [(4, .ref (ad w 7 e1)), (0, .ref (ad w 0 0)), (1, .int x1), (2, .int x2), (3, .int x3)]) hx hb dX5_putMail_5 hl (by decide) rfl (fun ls hl => ?_)
    refine lv_aload hx hb dX5_putMail_7 (lv_at hl 0 rfl) ?_
    refine lv_ifnull hx hb dX5_putMail_9 ?_
    refine lv_aload hx hb dX5_putMail_12 (lv_at hl 0 rfl) ?_
    obtain ⟨r2, hc2, hF⟩ := ob_S hF
    refine m_cVi X hS vw_X2_isSupervisor qw_220 (c_X2_isSupervisor hw he1 hc2) ⟨rfl, rfl⟩ ⟨Nat.le_of_ble_eq_true rfl, Nat.le_of_ble_eq_true rfl⟩ (rc_7 hE hP hw he1) hP rfl hl.1 (rest := []) rfl (Nat.le_of_ble_eq_true rfl) dX5_putMail_14 (fun H locs hP hS => ?_)
    refine lv_if_ne (tgt := 33) hx hb dX5_putMail_17 (by decide) (fun c3 => ?_) (fun c3 => ?_)
    · have hF := ite_F c3 hF
      refine lv_aload_n hx hb dX5_putMail_33 rfl (lv_at hl 1 rfl) ?_
      refine lv_dup hx hb dX5_putMail_34 rfl ?_
      refine gf_0_7 hx hb htm hown hE hP hw (htm _ qw_158) dX5_putMail_35 ?_
      refine lv_iconst (v := 1) hx hb dX5_putMail_38 (by decide) ?_
      refine lv_iadd hx hb dX5_putMail_39 ?_
      refine pf_0_7 hx hb htm hown hE hP hS hw (htm _ qw_158) dX5_putMail_40 (fun H locs hP hS => ?_)
      refine lv_iconst (v := 0) hx hb dX5_putMail_43 (by decide) ?_
      obtain ⟨e1, e2⟩ := Prod.mk.inj (Option.some.inj hF)
      subst e1
      subst e2
      exact m_zret X hS hP rfl (Or.inl rfl) dX5_putMail_44
    · have hF := ite_T c3 hF
      refine lv_aload hx hb dX5_putMail_20 (lv_at hl 0 rfl) ?_
      refine gf_7_17 hx hb htm hown hE hP hw he1 (htm _ qw_187) dX5_putMail_22 ?_
      refine lv_iload_n hx hb dX5_putMail_25 rfl (lv_at hl 3 rfl) ?_
      refine lv_iload_n hx hb dX5_putMail_26 rfl (lv_at hl 4 rfl) ?_
      obtain ⟨⟨r4, V4⟩, hc4, hF⟩ := ob_S hF
      refine m_cVi X hS vw_X0_put qw_223 (c_X0_put hw he1 hc4) ⟨rfl, rfl⟩ ⟨Nat.le_of_ble_eq_true rfl, Nat.le_of_ble_eq_true rfl⟩ (rc_10 hE hP hw he1) hP rfl hl.1 (rest := []) rfl (Nat.le_of_ble_eq_true rfl) dX5_putMail_27 (fun H locs hP hS => ?_)
      refine lv_if_ne (tgt := 45) hx hb dX5_putMail_30 (by decide) (fun c5 => ?_) (fun c5 => ?_)
      · have hF := ite_F c5 hF
        refine lv_aload hx hb dX5_putMail_45 (lv_at hl 0 rfl) ?_
        refine lv_iload_n hx hb dX5_putMail_47 rfl (lv_at hl 3 rfl) ?_
        obtain ⟨r6, hc6, hF⟩ := ob_S hF
        refine m_cVi X hS vw_X2_waitsForMail qw_226 (c_X2_waitsForMail hw he1 hc6) ⟨rfl, rfl⟩ ⟨Nat.le_of_ble_eq_true rfl, Nat.le_of_ble_eq_true rfl⟩ (rc_7 hE hP hw he1) hP rfl hl.1 (rest := []) rfl (Nat.le_of_ble_eq_true rfl) dX5_putMail_48 (fun H locs hP hS => ?_)
        refine lv_if_eq (tgt := 60) hx hb dX5_putMail_51 (by decide) (fun c7 => ?_) (fun c7 => ?_)
        · have hF := ite_T c7 hF
          refine lv_iconst (v := 1) hx hb dX5_putMail_60 (by decide) ?_
          obtain ⟨e1, e2⟩ := Prod.mk.inj (Option.some.inj hF)
          subst e1
          subst e2
          exact m_zret X hS hP rfl (Or.inr rfl) dX5_putMail_61
        · have hF := ite_F c7 hF
          refine lv_aload_n hx hb dX5_putMail_54 rfl (lv_at hl 1 rfl) ?_
          refine lv_aload hx hb dX5_putMail_55 (lv_at hl 0 rfl) ?_
          obtain ⟨V8, hc8, hF⟩ := ob_S hF
          refine m_cVv X hS vw_X5_ready qw_229 (c_X5_ready hw he1 hc8) ⟨rfl, rfl⟩ ⟨Nat.le_of_ble_eq_true rfl, Nat.le_of_ble_eq_true rfl⟩ (rc_0 hE hP hw) hP rfl hl.1 (rest := []) rfl (Nat.le_of_ble_eq_true rfl) dX5_putMail_57 (fun H locs hP hS => ?_)
          refine lv_iconst (v := 1) hx hb dX5_putMail_60 (by decide) ?_
          obtain ⟨e1, e2⟩ := Prod.mk.inj (Option.some.inj hF)
          subst e1
          subst e2
          exact m_zret X hS hP rfl (Or.inr rfl) dX5_putMail_61
      · have hF := ite_T c5 hF
        refine lv_aload_n hx hb dX5_putMail_33 rfl (lv_at hl 1 rfl) ?_
        refine lv_dup hx hb dX5_putMail_34 rfl ?_
        refine gf_0_7 hx hb htm hown hE hP hw (htm _ qw_158) dX5_putMail_35 ?_
        refine lv_iconst (v := 1) hx hb dX5_putMail_38 (by decide) ?_
        refine lv_iadd hx hb dX5_putMail_39 ?_
        refine pf_0_7 hx hb htm hown hE hP hS hw (htm _ qw_158) dX5_putMail_40 (fun H locs hP hS => ?_)
        refine lv_iconst (v := 0) hx hb dX5_putMail_43 (by decide) ?_
        obtain ⟨e1, e2⟩ := Prod.mk.inj (Option.some.inj hF)
        subst e1
        subst e2
        exact m_zret X hS hP rfl (Or.inl rfl) dX5_putMail_44
