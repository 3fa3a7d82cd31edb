def rm_X0_init : Room := { frames := 1, cells := 2, slots := 16, locals := 24 }
theorem iw_X0_init : IW yX0_init cX0_init 1 0 := ⟨qw_63, qw_56, qw_6, ⟨by decide, by decide, by decide +kernel⟩, rfl⟩
set_option maxRecDepth 20000 in
set_option maxHeartbeats 4000000 in
theorem c_X0_init {l : Launch} {D : va_G} {cI cZ cP : ClassId} {a n : Nat}  : Met l yX0_init (.code yX0_init cX0_init 1 none :: WM) rm_X0_init (PcN D cI cZ cP [.ref a] (fun H => H.size = n ∧ a < n ∧ va_at D clM (a, .inr (0, [.null, .null, .int 0])) H)) (QcN (fun H => H.size = n + 2 ∧ va_at D clM (a, .inr (0, [.ref n, .ref (n + 1), .int 0])) H ∧ va_at D clM (n, .inl (cI, 8, .inl (fun _ => 0))) H ∧ va_at D clM ((n + 1), .inl (cI, 8, .inl (fun _ => 0))) H) (nA a n)) 2 16 (nA a n) := by
  refine n_entry (by decide) (Nat.le_of_ble_eq_true rfl) (fun p e s m below meth c ls hx hb hml hown htm hr hlk hin hK hpre hS hl => ?_)
  obtain ⟨hz, han, h0⟩ := hpre
  have hown : s.vm.findClass RX0 = some m.cls := hown
  have hl : lv_has ls 1 [(0, .ref a)] := hl
  refine lv_aload_n hx hb dX0_init_0 rfl (lv_at hl 0 rfl) ?_
  refine n_obj hx hb htm hown hK hS (hml.trans hl.1.symm) qw_0 qw_1 qw_2 dX0_init_1 (Nat.le_of_ble_eq_true rfl) (Nat.le_of_ble_eq_true rfl) ?_
  refine lv_aload_n hx hb dX0_init_4 rfl (lv_at hl 0 rfl) ?_
  refine lv_bipush (v := 8) hx hb dX0_init_5 (by decide) ?_
  refine n_newI hx hb htm hown hK hS (N := 8) qw_3 (by decide) (by decide) (by decide) hz (Nat.le_of_ble_eq_true rfl) (Nat.le_of_ble_eq_true rfl) dX0_init_7 (fun H1 z1 o1 h1 hS => ?_)
  have h0 := h0.kept (o1 _ (hz ▸ h0.lt))
  have hz := z1
  refine n_putF hx hb htm hown hK hS hin rfl ic_wsU0 tyX0 tyX0_ok nmX0 (Or.inl rfl) h0 0 (by decide) qw_4 rfl rfl (ty := tyX0 0) rfl rfl rfl (show (0 : Nat) < 3 from by decide) dX0_init_9 (fun H1 locs z1 o1 p7 hS => ?_)
  have h1 := h1.kept (o1 _ (by show n ≠ a; omega))
  have hz := z1.trans hz
  have p7 : va_at D clM (a, .inr (0, [.ref n, .null, .int 0])) H1 := p7
  refine lv_aload_n hx hb dX0_init_12 rfl (lv_at hl 0 rfl) ?_
  refine lv_bipush (v := 8) hx hb dX0_init_13 (by decide) ?_
  refine n_newI hx hb htm hown hK hS (N := 8) qw_3 (by decide) (by decide) (by decide) hz (Nat.le_of_ble_eq_true rfl) (Nat.le_of_ble_eq_true rfl) dX0_init_15 (fun H1 z1 o1 h2 hS => ?_)
  have p7 := p7.kept (o1 _ (hz ▸ p7.lt))
  have h1 := h1.kept (o1 _ (hz ▸ h1.lt))
  have hz := z1
  refine n_putF hx hb htm hown hK hS hin rfl ic_wsU0 tyX0 tyX0_ok nmX0 (Or.inl rfl) p7 1 (by decide) qw_5 rfl rfl (ty := tyX0 1) rfl rfl rfl (show (1 : Nat) < 3 from by decide) dX0_init_17 (fun H1 locs z1 o1 p17 hS => ?_)
  have h1 := h1.kept (o1 _ (by show n ≠ a; omega))
  have h2 := h2.kept (o1 _ (by show (n + 1) ≠ a; omega))
  have hz := z1.trans hz
  have p17 : va_at D clM (a, .inr (0, [.ref n, .ref (n + 1), .int 0])) H1 := p17
  exact n_ret hx hb hr hlk hS ⟨hz, p17, h1, h2⟩ dX0_init_20
def rm_X4_init : Room := { frames := 1, cells := 2, slots := 48, locals := 24 }
theorem iw_X4_init : IW yX4_init cX4_init 1 0 := ⟨qw_64, qw_60, qw_42, ⟨by decide, by decide, by decide +kernel⟩, rfl⟩
set_option maxRecDepth 20000 in
set_option maxHeartbeats 4000000 in
theorem c_X4_init {l : Launch} {D : va_G} {cI cZ cP : ClassId} {a n : Nat}  : Met l yX4_init (.code yX4_init cX4_init 1 none :: WM) rm_X4_init (PcN D cI cZ cP [.ref a] (fun H => H.size = n ∧ a < n ∧ va_at D clM (a, .inr (4, [.null, .null, .int 0])) H)) (QcN (fun H => H.size = n + 2 ∧ va_at D clM (a, .inr (4, [.ref n, .ref (n + 1), .int 0])) H ∧ va_at D clM (n, .inl (cI, 24, .inl (fun _ => 0))) H ∧ va_at D clM ((n + 1), .inl (cI, 24, .inl (fun _ => 0))) H) (nA a n)) 2 48 (nA a n) := by
  refine n_entry (by decide) (Nat.le_of_ble_eq_true rfl) (fun p e s m below meth c ls hx hb hml hown htm hr hlk hin hK hpre hS hl => ?_)
  obtain ⟨hz, han, h0⟩ := hpre
  have hown : s.vm.findClass RX4 = some m.cls := hown
  have hl : lv_has ls 1 [(0, .ref a)] := hl
  refine lv_aload_n hx hb dX4_init_0 rfl (lv_at hl 0 rfl) ?_
  refine n_obj hx hb htm hown hK hS (hml.trans hl.1.symm) qw_39 qw_1 qw_2 dX4_init_1 (Nat.le_of_ble_eq_true rfl) (Nat.le_of_ble_eq_true rfl) ?_
  refine lv_aload_n hx hb dX4_init_4 rfl (lv_at hl 0 rfl) ?_
  refine lv_bipush (v := 24) hx hb dX4_init_5 (by decide) ?_
  refine n_newI hx hb htm hown hK hS (N := 24) qw_3 (by decide) (by decide) (by decide) hz (Nat.le_of_ble_eq_true rfl) (Nat.le_of_ble_eq_true rfl) dX4_init_7 (fun H1 z1 o1 h1 hS => ?_)
  have h0 := h0.kept (o1 _ (hz ▸ h0.lt))
  have hz := z1
  refine n_putF hx hb htm hown hK hS hin rfl ic_wsU4 tyX4 tyX4_ok nmX4 (Or.inl rfl) h0 0 (by decide) qw_40 rfl rfl (ty := tyX4 0) rfl rfl rfl (show (0 : Nat) < 3 from by decide) dX4_init_9 (fun H1 locs z1 o1 p7 hS => ?_)
  have h1 := h1.kept (o1 _ (by show n ≠ a; omega))
  have hz := z1.trans hz
  have p7 : va_at D clM (a, .inr (4, [.ref n, .null, .int 0])) H1 := p7
  refine lv_aload_n hx hb dX4_init_12 rfl (lv_at hl 0 rfl) ?_
  refine lv_bipush (v := 24) hx hb dX4_init_13 (by decide) ?_
  refine n_newI hx hb htm hown hK hS (N := 24) qw_3 (by decide) (by decide) (by decide) hz (Nat.le_of_ble_eq_true rfl) (Nat.le_of_ble_eq_true rfl) dX4_init_15 (fun H1 z1 o1 h2 hS => ?_)
  have p7 := p7.kept (o1 _ (hz ▸ p7.lt))
  have h1 := h1.kept (o1 _ (hz ▸ h1.lt))
  have hz := z1
  refine n_putF hx hb htm hown hK hS hin rfl ic_wsU4 tyX4 tyX4_ok nmX4 (Or.inl rfl) p7 1 (by decide) qw_41 rfl rfl (ty := tyX4 1) rfl rfl rfl (show (1 : Nat) < 3 from by decide) dX4_init_17 (fun H1 locs z1 o1 p17 hS => ?_)
  have h1 := h1.kept (o1 _ (by show n ≠ a; omega))
  have h2 := h2.kept (o1 _ (by show (n + 1) ≠ a; omega))
  have hz := z1.trans hz
  have p17 : va_at D clM (a, .inr (4, [.ref n, .ref (n + 1), .int 0])) H1 := p17
  exact n_ret hx hb hr hlk hS ⟨hz, p17, h1, h2⟩ dX4_init_20
def rm_X1_init : Room := { frames := 1, cells := 4, slots := 592, locals := 24 }
theorem iw_X1_init : IW yX1_init cX1_init 1 0 := ⟨qw_384, qw_30, qw_24, ⟨by decide, by decide, by decide +kernel⟩, rfl⟩
set_option maxRecDepth 20000 in
set_option maxHeartbeats 4000000 in
theorem c_X1_init {l : Launch} {D : va_G} {cI cZ cP : ClassId} {a n : Nat}  : Met l yX1_init (.code yX1_init cX1_init 1 none :: WM) rm_X1_init (PcN D cI cZ cP [.ref a] (fun H => H.size = n ∧ a < n ∧ va_at D clM (a, .inr (1, [.int 0, .null, .null, .null, .null])) H)) (QcN (fun H => H.size = n + 4 ∧ va_at D clM (a, .inr (1, [.int 0, .ref n, .ref (n + 1), .ref (n + 2), .ref (n + 3)])) H ∧ va_at D clM (n, .inl (cI, 16, .inl (fun _ => 0))) H ∧ va_at D clM ((n + 1), .inl (cI, 192, .inl (fun _ => 0))) H ∧ va_at D clM ((n + 2), .inl (cI, 192, .inl (fun _ => 0))) H ∧ va_at D clM ((n + 3), .inl (cI, 192, .inl (fun _ => 0))) H) (nA a n)) 4 592 (nA a n) := by
  refine n_entry (by decide) (Nat.le_of_ble_eq_true rfl) (fun p e s m below meth c ls hx hb hml hown htm hr hlk hin hK hpre hS hl => ?_)
  obtain ⟨hz, han, h0⟩ := hpre
  have hown : s.vm.findClass RX1 = some m.cls := hown
  have hl : lv_has ls 1 [(0, .ref a)] := hl
  refine lv_aload_n hx hb dX1_init_0 rfl (lv_at hl 0 rfl) ?_
  refine n_obj hx hb htm hown hK hS (hml.trans hl.1.symm) qw_19 qw_1 qw_2 dX1_init_1 (Nat.le_of_ble_eq_true rfl) (Nat.le_of_ble_eq_true rfl) ?_
  refine lv_aload_n hx hb dX1_init_4 rfl (lv_at hl 0 rfl) ?_
  refine lv_bipush (v := 16) hx hb dX1_init_5 (by decide) ?_
  refine n_newI hx hb htm hown hK hS (N := 16) qw_3 (by decide) (by decide) (by decide) hz (Nat.le_of_ble_eq_true rfl) (Nat.le_of_ble_eq_true rfl) dX1_init_7 (fun H1 z1 o1 h1 hS => ?_)
  have h0 := h0.kept (o1 _ (hz ▸ h0.lt))
  have hz := z1
  refine n_putF hx hb htm hown hK hS hin rfl ic_wsU1 tyX1 tyX1_ok nmX1 (Or.inl rfl) h0 1 (by decide) qw_20 rfl rfl (ty := tyX1 1) rfl rfl rfl (show (1 : Nat) < 5 from by decide) dX1_init_9 (fun H1 locs z1 o1 p7 hS => ?_)
  have h1 := h1.kept (o1 _ (by show n ≠ a; omega))
  have hz := z1.trans hz
  have p7 : va_at D clM (a, .inr (1, [.int 0, .ref n, .null, .null, .null])) H1 := p7
  refine lv_aload_n hx hb dX1_init_12 rfl (lv_at hl 0 rfl) ?_
  refine lv_sipush (v := 192) hx hb dX1_init_13 (by decide) ?_
  refine n_newI hx hb htm hown hK hS (N := 192) qw_3 (by decide) (by decide) (by decide) hz (Nat.le_of_ble_eq_true rfl) (Nat.le_of_ble_eq_true rfl) dX1_init_16 (fun H1 z1 o1 h2 hS => ?_)
  have p7 := p7.kept (o1 _ (hz ▸ p7.lt))
  have h1 := h1.kept (o1 _ (hz ▸ h1.lt))
  have hz := z1
  refine n_putF hx hb htm hown hK hS hin rfl ic_wsU1 tyX1 tyX1_ok nmX1 (Or.inl rfl) p7 2 (by decide) qw_21 rfl rfl (ty := tyX1 2) rfl rfl rfl (show (2 : Nat) < 5 from by decide) dX1_init_18 (fun H1 locs z1 o1 p17 hS => ?_)
  have h1 := h1.kept (o1 _ (by show n ≠ a; omega))
  have h2 := h2.kept (o1 _ (by show (n + 1) ≠ a; omega))
  have hz := z1.trans hz
  have p17 : va_at D clM (a, .inr (1, [.int 0, .ref n, .ref (n + 1), .null, .null])) H1 := p17
  refine lv_aload_n hx hb dX1_init_21 rfl (lv_at hl 0 rfl) ?_
  refine lv_sipush (v := 192) hx hb dX1_init_22 (by decide) ?_
  refine n_newI hx hb htm hown hK hS (N := 192) qw_3 (by decide) (by decide) (by decide) hz (Nat.le_of_ble_eq_true rfl) (Nat.le_of_ble_eq_true rfl) dX1_init_25 (fun H1 z1 o1 h3 hS => ?_)
  have p17 := p17.kept (o1 _ (hz ▸ p17.lt))
  have h1 := h1.kept (o1 _ (hz ▸ h1.lt))
  have h2 := h2.kept (o1 _ (hz ▸ h2.lt))
  have hz := z1
  refine n_putF hx hb htm hown hK hS hin rfl ic_wsU1 tyX1 tyX1_ok nmX1 (Or.inl rfl) p17 3 (by decide) qw_22 rfl rfl (ty := tyX1 3) rfl rfl rfl (show (3 : Nat) < 5 from by decide) dX1_init_27 (fun H1 locs z1 o1 p29 hS => ?_)
  have h1 := h1.kept (o1 _ (by show n ≠ a; omega))
  have h2 := h2.kept (o1 _ (by show (n + 1) ≠ a; omega))
  have h3 := h3.kept (o1 _ (by show (n + 2) ≠ a; omega))
  have hz := z1.trans hz
  have p29 : va_at D clM (a, .inr (1, [.int 0, .ref n, .ref (n + 1), .ref (n + 2), .null])) H1 := p29
  refine lv_aload_n hx hb dX1_init_30 rfl (lv_at hl 0 rfl) ?_
  refine lv_sipush (v := 192) hx hb dX1_init_31 (by decide) ?_
  refine n_newI hx hb htm hown hK hS (N := 192) qw_3 (by decide) (by decide) (by decide) hz (Nat.le_of_ble_eq_true rfl) (Nat.le_of_ble_eq_true rfl) dX1_init_34 (fun H1 z1 o1 h4 hS => ?_)
  have p29 := p29.kept (o1 _ (hz ▸ p29.lt))
  have h1 := h1.kept (o1 _ (hz ▸ h1.lt))
  have h2 := h2.kept (o1 _ (hz ▸ h2.lt))
  have h3 := h3.kept (o1 _ (hz ▸ h3.lt))
  have hz := z1
  refine n_putF hx hb htm hown hK hS hin rfl ic_wsU1 tyX1 tyX1_ok nmX1 (Or.inl rfl) p29 4 (by decide) qw_23 rfl rfl (ty := tyX1 4) rfl rfl rfl (show (4 : Nat) < 5 from by decide) dX1_init_36 (fun H1 locs z1 o1 p43 hS => ?_)
  have h1 := h1.kept (o1 _ (by show n ≠ a; omega))
  have h2 := h2.kept (o1 _ (by show (n + 1) ≠ a; omega))
  have h3 := h3.kept (o1 _ (by show (n + 2) ≠ a; omega))
  have h4 := h4.kept (o1 _ (by show (n + 3) ≠ a; omega))
  have hz := z1.trans hz
  have p43 : va_at D clM (a, .inr (1, [.int 0, .ref n, .ref (n + 1), .ref (n + 2), .ref (n + 3)])) H1 := p43
  exact n_ret hx hb hr hlk hS ⟨hz, p43, h1, h2, h3, h4⟩ dX1_init_39
def rm_X3_init : Room := { frames := 1, cells := 7, slots := 80, locals := 24 }
theorem iw_X3_init : IW yX3_init cX3_init 1 0 := ⟨qw_385, qw_133, qw_127, ⟨by decide, by decide, by decide +kernel⟩, rfl⟩
set_option maxRecDepth 20000 in
set_option maxHeartbeats 4000000 in
theorem c_X3_init {l : Launch} {D : va_G} {cI cZ cP : ClassId} {a n : Nat}  : Met l yX3_init (.code yX3_init cX3_init 1 none :: WM) rm_X3_init (PcN D cI cZ cP [.ref a] (fun H => H.size = n ∧ a < n ∧ va_at D clM (a, .inr (3, [.int 0, .null, .null, .null, .null, .null, .null, .null])) H)) (QcN (fun H => H.size = n + 7 ∧ va_at D clM (a, .inr (3, [.int 0, .ref n, .ref (n + 1), .ref (n + 2), .ref (n + 3), .ref (n + 4), .ref (n + 5), .ref (n + 6)])) H ∧ va_at D clM (n, .inl (cI, 5, .inl (fun _ => 0))) H ∧ va_at D clM ((n + 1), .inl (cI, 5, .inl (fun _ => 0))) H ∧ va_at D clM ((n + 2), .inl (cI, 5, .inl (fun _ => 0))) H ∧ va_at D clM ((n + 3), .inl (cI, 5, .inl (fun _ => 0))) H ∧ va_at D clM ((n + 4), .inl (cZ, 20, .inl (fun _ => 0))) H ∧ va_at D clM ((n + 5), .inl (cI, 20, .inl (fun _ => 0))) H ∧ va_at D clM ((n + 6), .inl (cI, 20, .inl (fun _ => 0))) H) (nA a n)) 7 80 (nA a n) := by
  refine n_entry (by decide) (Nat.le_of_ble_eq_true rfl) (fun p e s m below meth c ls hx hb hml hown htm hr hlk hin hK hpre hS hl => ?_)
  obtain ⟨hz, han, h0⟩ := hpre
  have hown : s.vm.findClass RX3 = some m.cls := hown
  have hl : lv_has ls 1 [(0, .ref a)] := hl
  refine lv_aload_n hx hb dX3_init_0 rfl (lv_at hl 0 rfl) ?_
  refine n_obj hx hb htm hown hK hS (hml.trans hl.1.symm) qw_118 qw_1 qw_2 dX3_init_1 (Nat.le_of_ble_eq_true rfl) (Nat.le_of_ble_eq_true rfl) ?_
  refine lv_aload_n hx hb dX3_init_4 rfl (lv_at hl 0 rfl) ?_
  refine lv_iconst (v := 5) hx hb dX3_init_5 (by decide) ?_
  refine n_newI hx hb htm hown hK hS (N := 5) qw_3 (by decide) (by decide) (by decide) hz (Nat.le_of_ble_eq_true rfl) (Nat.le_of_ble_eq_true rfl) dX3_init_6 (fun H1 z1 o1 h1 hS => ?_)
  have h0 := h0.kept (o1 _ (hz ▸ h0.lt))
  have hz := z1
  refine n_putF hx hb htm hown hK hS hin rfl ic_wsU3 tyX3 tyX3_ok nmX3 (Or.inl rfl) h0 1 (by decide) qw_119 rfl rfl (ty := tyX3 1) rfl rfl rfl (show (1 : Nat) < 8 from by decide) dX3_init_8 (fun H1 locs z1 o1 p7 hS => ?_)
  have h1 := h1.kept (o1 _ (by show n ≠ a; omega))
  have hz := z1.trans hz
  have p7 : va_at D clM (a, .inr (3, [.int 0, .ref n, .null, .null, .null, .null, .null, .null])) H1 := p7
  refine lv_aload_n hx hb dX3_init_11 rfl (lv_at hl 0 rfl) ?_
  refine lv_iconst (v := 5) hx hb dX3_init_12 (by decide) ?_
  refine n_newI hx hb htm hown hK hS (N := 5) qw_3 (by decide) (by decide) (by decide) hz (Nat.le_of_ble_eq_true rfl) (Nat.le_of_ble_eq_true rfl) dX3_init_13 (fun H1 z1 o1 h2 hS => ?_)
  have p7 := p7.kept (o1 _ (hz ▸ p7.lt))
  have h1 := h1.kept (o1 _ (hz ▸ h1.lt))
  have hz := z1
  refine n_putF hx hb htm hown hK hS hin rfl ic_wsU3 tyX3 tyX3_ok nmX3 (Or.inl rfl) p7 2 (by decide) qw_120 rfl rfl (ty := tyX3 2) rfl rfl rfl (show (2 : Nat) < 8 from by decide) dX3_init_15 (fun H1 locs z1 o1 p17 hS => ?_)
  have h1 := h1.kept (o1 _ (by show n ≠ a; omega))
  have h2 := h2.kept (o1 _ (by show (n + 1) ≠ a; omega))
  have hz := z1.trans hz
  have p17 : va_at D clM (a, .inr (3, [.int 0, .ref n, .ref (n + 1), .null, .null, .null, .null, .null])) H1 := p17
  refine lv_aload_n hx hb dX3_init_18 rfl (lv_at hl 0 rfl) ?_
  refine lv_iconst (v := 5) hx hb dX3_init_19 (by decide) ?_
  refine n_newI hx hb htm hown hK hS (N := 5) qw_3 (by decide) (by decide) (by decide) hz (Nat.le_of_ble_eq_true rfl) (Nat.le_of_ble_eq_true rfl) dX3_init_20 (fun H1 z1 o1 h3 hS => ?_)
  have p17 := p17.kept (o1 _ (hz ▸ p17.lt))
  have h1 := h1.kept (o1 _ (hz ▸ h1.lt))
  have h2 := h2.kept (o1 _ (hz ▸ h2.lt))
  have hz := z1
  refine n_putF hx hb htm hown hK hS hin rfl ic_wsU3 tyX3 tyX3_ok nmX3 (Or.inl rfl) p17 3 (by decide) qw_121 rfl rfl (ty := tyX3 3) rfl rfl rfl (show (3 : Nat) < 8 from by decide) dX3_init_22 (fun H1 locs z1 o1 p29 hS => ?_)
  have h1 := h1.kept (o1 _ (by show n ≠ a; omega))
  have h2 := h2.kept (o1 _ (by show (n + 1) ≠ a; omega))
  have h3 := h3.kept (o1 _ (by show (n + 2) ≠ a; omega))
  have hz := z1.trans hz
  have p29 : va_at D clM (a, .inr (3, [.int 0, .ref n, .ref (n + 1), .ref (n + 2), .null, .null, .null, .null])) H1 := p29
  refine lv_aload_n hx hb dX3_init_25 rfl (lv_at hl 0 rfl) ?_
  refine lv_iconst (v := 5) hx hb dX3_init_26 (by decide) ?_
  refine n_newI hx hb htm hown hK hS (N := 5) qw_3 (by decide) (by decide) (by decide) hz (Nat.le_of_ble_eq_true rfl) (Nat.le_of_ble_eq_true rfl) dX3_init_27 (fun H1 z1 o1 h4 hS => ?_)
  have p29 := p29.kept (o1 _ (hz ▸ p29.lt))
  have h1 := h1.kept (o1 _ (hz ▸ h1.lt))
  have h2 := h2.kept (o1 _ (hz ▸ h2.lt))
  have h3 := h3.kept (o1 _ (hz ▸ h3.lt))
  have hz := z1
  refine n_putF hx hb htm hown hK hS hin rfl ic_wsU3 tyX3 tyX3_ok nmX3 (Or.inl rfl) p29 4 (by decide) qw_122 rfl rfl (ty := tyX3 4) rfl rfl rfl (show (4 : Nat) < 8 from by decide) dX3_init_29 (fun H1 locs z1 o1 p43 hS => ?_)
  have h1 := h1.kept (o1 _ (by show n ≠ a; omega))
  have h2 := h2.kept (o1 _ (by show (n + 1) ≠ a; omega))
  have h3 := h3.kept (o1 _ (by show (n + 2) ≠ a; omega))
  have h4 := h4.kept (o1 _ (by show (n + 3) ≠ a; omega))
  have hz := z1.trans hz
  have p43 : va_at D clM (a, .inr (3, [.int 0, .ref n, .ref (n + 1), .ref (n + 2), .ref (n + 3), .null, .null, .null])) H1 := p43
  refine lv_aload_n hx hb dX3_init_32 rfl (lv_at hl 0 rfl) ?_
  refine lv_bipush (v := 20) hx hb dX3_init_33 (by decide) ?_
  refine n_newZ hx hb htm hown hK hS (N := 20) qw_123 (by decide) (by decide) (by decide) hz (Nat.le_of_ble_eq_true rfl) (Nat.le_of_ble_eq_true rfl) dX3_init_35 (fun H1 z1 o1 h5 hS => ?_)
  have p43 := p43.kept (o1 _ (hz ▸ p43.lt))
  have h1 := h1.kept (o1 _ (hz ▸ h1.lt))
  have h2 := h2.kept (o1 _ (hz ▸ h2.lt))
  have h3 := h3.kept (o1 _ (hz ▸ h3.lt))
  have h4 := h4.kept (o1 _ (hz ▸ h4.lt))
  have hz := z1
  refine n_putF hx hb htm hown hK hS hin rfl ic_wsU3 tyX3 tyX3_ok nmX3 (Or.inl rfl) p43 5 (by decide) qw_124 rfl rfl (ty := tyX3 5) rfl rfl rfl (show (5 : Nat) < 8 from by decide) dX3_init_37 (fun H1 locs z1 o1 p59 hS => ?_)
  have h1 := h1.kept (o1 _ (by show n ≠ a; omega))
  have h2 := h2.kept (o1 _ (by show (n + 1) ≠ a; omega))
  have h3 := h3.kept (o1 _ (by show (n + 2) ≠ a; omega))
  have h4 := h4.kept (o1 _ (by show (n + 3) ≠ a; omega))
  have h5 := h5.kept (o1 _ (by show (n + 4) ≠ a; omega))
  have hz := z1.trans hz
  have p59 : va_at D clM (a, .inr (3, [.int 0, .ref n, .ref (n + 1), .ref (n + 2), .ref (n + 3), .ref (n + 4), .null, .null])) H1 := p59
  refine lv_aload_n hx hb dX3_init_40 rfl (lv_at hl 0 rfl) ?_
  refine lv_bipush (v := 20) hx hb dX3_init_41 (by decide) ?_
  refine n_newI hx hb htm hown hK hS (N := 20) qw_3 (by decide) (by decide) (by decide) hz (Nat.le_of_ble_eq_true rfl) (Nat.le_of_ble_eq_true rfl) dX3_init_43 (fun H1 z1 o1 h6 hS => ?_)
  have p59 := p59.kept (o1 _ (hz ▸ p59.lt))
  have h1 := h1.kept (o1 _ (hz ▸ h1.lt))
  have h2 := h2.kept (o1 _ (hz ▸ h2.lt))
  have h3 := h3.kept (o1 _ (hz ▸ h3.lt))
  have h4 := h4.kept (o1 _ (hz ▸ h4.lt))
  have h5 := h5.kept (o1 _ (hz ▸ h5.lt))
  have hz := z1
  refine n_putF hx hb htm hown hK hS hin rfl ic_wsU3 tyX3 tyX3_ok nmX3 (Or.inl rfl) p59 6 (by decide) qw_125 rfl rfl (ty := tyX3 6) rfl rfl rfl (show (6 : Nat) < 8 from by decide) dX3_init_45 (fun H1 locs z1 o1 p77 hS => ?_)
  have h1 := h1.kept (o1 _ (by show n ≠ a; omega))
  have h2 := h2.kept (o1 _ (by show (n + 1) ≠ a; omega))
  have h3 := h3.kept (o1 _ (by show (n + 2) ≠ a; omega))
  have h4 := h4.kept (o1 _ (by show (n + 3) ≠ a; omega))
  have h5 := h5.kept (o1 _ (by show (n + 4) ≠ a; omega))
  have h6 := h6.kept (o1 _ (by show (n + 5) ≠ a; omega))
  have hz := z1.trans hz
  have p77 : va_at D clM (a, .inr (3, [.int 0, .ref n, .ref (n + 1), .ref (n + 2), .ref (n + 3), .ref (n + 4), .ref (n + 5), .null])) H1 := p77
  refine lv_aload_n hx hb dX3_init_48 rfl (lv_at hl 0 rfl) ?_
  refine lv_bipush (v := 20) hx hb dX3_init_49 (by decide) ?_
  refine n_newI hx hb htm hown hK hS (N := 20) qw_3 (by decide) (by decide) (by decide) hz (Nat.le_of_ble_eq_true rfl) (Nat.le_of_ble_eq_true rfl) dX3_init_51 (fun H1 z1 o1 h7 hS => ?_)
  have p77 := p77.kept (o1 _ (hz ▸ p77.lt))
  have h1 := h1.kept (o1 _ (hz ▸ h1.lt))
  have h2 := h2.kept (o1 _ (hz ▸ h2.lt))
  have h3 := h3.kept (o1 _ (hz ▸ h3.lt))
  have h4 := h4.kept (o1 _ (hz ▸ h4.lt))
  have h5 := h5.kept (o1 _ (hz ▸ h5.lt))
  have h6 := h6.kept (o1 _ (hz ▸ h6.lt))
  have hz := z1
  refine n_putF hx hb htm hown hK hS hin rfl ic_wsU3 tyX3 tyX3_ok nmX3 (Or.inl rfl) p77 7 (by decide) qw_126 rfl rfl (ty := tyX3 7) rfl rfl rfl (show (7 : Nat) < 8 from by decide) dX3_init_53 (fun H1 locs z1 o1 p97 hS => ?_)
  have h1 := h1.kept (o1 _ (by show n ≠ a; omega))
  have h2 := h2.kept (o1 _ (by show (n + 1) ≠ a; omega))
  have h3 := h3.kept (o1 _ (by show (n + 2) ≠ a; omega))
  have h4 := h4.kept (o1 _ (by show (n + 3) ≠ a; omega))
  have h5 := h5.kept (o1 _ (by show (n + 4) ≠ a; omega))
  have h6 := h6.kept (o1 _ (by show (n + 5) ≠ a; omega))
  have h7 := h7.kept (o1 _ (by show (n + 6) ≠ a; omega))
  have hz := z1.trans hz
  have p97 : va_at D clM (a, .inr (3, [.int 0, .ref n, .ref (n + 1), .ref (n + 2), .ref (n + 3), .ref (n + 4), .ref (n + 5), .ref (n + 6)])) H1 := p97
  exact n_ret hx hb hr hlk hS ⟨hz, p97, h1, h2, h3, h4, h5, h6, h7⟩ dX3_init_56
def rm_X2_init : Room := { frames := 2, cells := 8, slots := 78, locals := 44 }
theorem iw_X2_init : IW yX2_init cX2_init 2 1 := ⟨qw_152, qw_109, qw_69, ⟨by decide, by decide, by decide +kernel⟩, rfl⟩
set_option maxRecDepth 20000 in
set_option maxHeartbeats 4000000 in
theorem c_X2_init {l : Launch} {D : va_G} {cI cZ cP : ClassId} {a n : Nat} {x1 : Int32} : Met l yX2_init (.code yX2_init cX2_init 2 none :: WM) rm_X2_init (PcN D cI cZ cP [.ref a, .int x1] (fun H => H.size = n ∧ a < n ∧ va_at D clM (a, .inr (2, [.int 0, .int 0, .int 0, .int 0, .int 0, .int 0, .int 0, .int 0, .int 0, .int 0, .int 0, .int 0, .int 0, .int 0, .int 0, .null, .null, .null, .null])) H)) (QcN (fun H => H.size = n + 8 ∧ va_at D clM (a, .inr (2, [.int x1, .int (-1), .int (-1), .int (-1), .int (-1), .int 1, .int (-1), .int 0, .int 0, .int (-1), .int (-1), .int 0, .int 0, .int 0, .int 0, .ref n, .ref (n + 1), .ref (n + 2), .ref (n + 5)])) H ∧ va_at D clM (n, .inl (cI, 4, .inl (fun _ => 0))) H ∧ va_at D clM ((n + 1), .inl (cI, 4, .inl (fun _ => (-1)))) H ∧ va_at D clM ((n + 2), .inr (0, [.ref (n + 3), .ref (n + 4), .int 0])) H ∧ va_at D clM ((n + 3), .inl (cI, 8, .inl (fun _ => 0))) H ∧ va_at D clM ((n + 4), .inl (cI, 8, .inl (fun _ => 0))) H ∧ va_at D clM ((n + 5), .inr (4, [.ref (n + 6), .ref (n + 7), .int 0])) H ∧ va_at D clM ((n + 6), .inl (cI, 24, .inl (fun _ => 0))) H ∧ va_at D clM ((n + 7), .inl (cI, 24, .inl (fun _ => 0))) H) (nA a n)) 8 78 (nA a n) := by
  refine n_entry (by decide) (Nat.le_of_ble_eq_true rfl) (fun p e s m below meth c ls hx hb hml hown htm hr hlk hin hK hpre hS hl => ?_)
  obtain ⟨hz, han, h0⟩ := hpre
  have hown : s.vm.findClass RX2 = some m.cls := hown
  have hl : lv_has ls 2 [(0, .ref a), (1, .int x1)] := hl
  refine lv_aload_n hx hb dX2_init_0 rfl (lv_at hl 0 rfl) ?_
  refine n_obj hx hb htm hown hK hS (hml.trans hl.1.symm) qw_43 qw_1 qw_2 dX2_init_1 (Nat.le_of_ble_eq_true rfl) (Nat.le_of_ble_eq_true rfl) ?_
  refine lv_aload_n hx hb dX2_init_4 rfl (lv_at hl 0 rfl) ?_
  refine lv_iconst (v := (-1)) hx hb dX2_init_5 (by decide) ?_
  refine n_put hx hb htm hown hK hS rfl ic_wsU2 tyX2 tyX2_ok nmX2 (Or.inl rfl) h0 1 (by decide) qw_44 rfl (ty := tyX2 1) rfl rfl rfl (show (1 : Nat) < 19 from by decide) dX2_init_6 (fun H1 locs z1 o1 p4 hS => ?_)
  have hz := z1.trans hz
  have p4 : va_at D clM (a, .inr (2, [.int 0, .int (-1), .int 0, .int 0, .int 0, .int 0, .int 0, .int 0, .int 0, .int 0, .int 0, .int 0, .int 0, .int 0, .int 0, .null, .null, .null, .null])) H1 := p4
  refine lv_aload_n hx hb dX2_init_9 rfl (lv_at hl 0 rfl) ?_
  refine lv_iconst (v := (-1)) hx hb dX2_init_10 (by decide) ?_
  refine n_put hx hb htm hown hK hS rfl ic_wsU2 tyX2 tyX2_ok nmX2 (Or.inl rfl) p4 2 (by decide) qw_45 rfl (ty := tyX2 2) rfl rfl rfl (show (2 : Nat) < 19 from by decide) dX2_init_11 (fun H1 locs z1 o1 p9 hS => ?_)
  have hz := z1.trans hz
  have p9 : va_at D clM (a, .inr (2, [.int 0, .int (-1), .int (-1), .int 0, .int 0, .int 0, .int 0, .int 0, .int 0, .int 0, .int 0, .int 0, .int 0, .int 0, .int 0, .null, .null, .null, .null])) H1 := p9
  refine lv_aload_n hx hb dX2_init_14 rfl (lv_at hl 0 rfl) ?_
  refine lv_iconst (v := (-1)) hx hb dX2_init_15 (by decide) ?_
  refine n_put hx hb htm hown hK hS rfl ic_wsU2 tyX2 tyX2_ok nmX2 (Or.inl rfl) p9 3 (by decide) qw_46 rfl (ty := tyX2 3) rfl rfl rfl (show (3 : Nat) < 19 from by decide) dX2_init_16 (fun H1 locs z1 o1 p14 hS => ?_)
  have hz := z1.trans hz
  have p14 : va_at D clM (a, .inr (2, [.int 0, .int (-1), .int (-1), .int (-1), .int 0, .int 0, .int 0, .int 0, .int 0, .int 0, .int 0, .int 0, .int 0, .int 0, .int 0, .null, .null, .null, .null])) H1 := p14
  refine lv_aload_n hx hb dX2_init_19 rfl (lv_at hl 0 rfl) ?_
  refine lv_iconst (v := (-1)) hx hb dX2_init_20 (by decide) ?_
  refine n_put hx hb htm hown hK hS rfl ic_wsU2 tyX2 tyX2_ok nmX2 (Or.inl rfl) p14 4 (by decide) qw_47 rfl (ty := tyX2 4) rfl rfl rfl (show (4 : Nat) < 19 from by decide) dX2_init_21 (fun H1 locs z1 o1 p19 hS => ?_)
  have hz := z1.trans hz
  have p19 : va_at D clM (a, .inr (2, [.int 0, .int (-1), .int (-1), .int (-1), .int (-1), .int 0, .int 0, .int 0, .int 0, .int 0, .int 0, .int 0, .int 0, .int 0, .int 0, .null, .null, .null, .null])) H1 := p19
  refine lv_aload_n hx hb dX2_init_24 rfl (lv_at hl 0 rfl) ?_
  refine lv_iconst (v := 1) hx hb dX2_init_25 (by decide) ?_
  refine n_put hx hb htm hown hK hS rfl ic_wsU2 tyX2 tyX2_ok nmX2 (Or.inl rfl) p19 5 (by decide) qw_48 rfl (ty := tyX2 5) rfl rfl rfl (show (5 : Nat) < 19 from by decide) dX2_init_26 (fun H1 locs z1 o1 p24 hS => ?_)
  have hz := z1.trans hz
  have p24 : va_at D clM (a, .inr (2, [.int 0, .int (-1), .int (-1), .int (-1), .int (-1), .int 1, .int 0, .int 0, .int 0, .int 0, .int 0, .int 0, .int 0, .int 0, .int 0, .null, .null, .null, .null])) H1 := p24
  refine lv_aload_n hx hb dX2_init_29 rfl (lv_at hl 0 rfl) ?_
  refine lv_iconst (v := (-1)) hx hb dX2_init_30 (by decide) ?_
  refine n_put hx hb htm hown hK hS rfl ic_wsU2 tyX2 tyX2_ok nmX2 (Or.inl rfl) p24 6 (by decide) qw_49 rfl (ty := tyX2 6) rfl rfl rfl (show (6 : Nat) < 19 from by decide) dX2_init_31 (fun H1 locs z1 o1 p29 hS => ?_)
  have hz := z1.trans hz
  have p29 : va_at D clM (a, .inr (2, [.int 0, .int (-1), .int (-1), .int (-1), .int (-1), .int 1, .int (-1), .int 0, .int 0, .int 0, .int 0, .int 0, .int 0, .int 0, .int 0, .null, .null, .null, .null])) H1 := p29
  refine lv_aload_n hx hb dX2_init_34 rfl (lv_at hl 0 rfl) ?_
  refine lv_iconst (v := (-1)) hx hb dX2_init_35 (by decide) ?_
  refine n_put hx hb htm hown hK hS rfl ic_wsU2 tyX2 tyX2_ok nmX2 (Or.inl rfl) p29 9 (by decide) qw_50 rfl (ty := tyX2 9) rfl rfl rfl (show (9 : Nat) < 19 from by decide) dX2_init_36 (fun H1 locs z1 o1 p34 hS => ?_)
  have hz := z1.trans hz
  have p34 : va_at D clM (a, .inr (2, [.int 0, .int (-1), .int (-1), .int (-1), .int (-1), .int 1, .int (-1), .int 0, .int 0, .int (-1), .int 0, .int 0, .int 0, .int 0, .int 0, .null, .null, .null, .null])) H1 := p34
  refine lv_aload_n hx hb dX2_init_39 rfl (lv_at hl 0 rfl) ?_
  refine lv_iconst (v := (-1)) hx hb dX2_init_40 (by decide) ?_
  refine n_put hx hb htm hown hK hS rfl ic_wsU2 tyX2 tyX2_ok nmX2 (Or.inl rfl) p34 10 (by decide) qw_51 rfl (ty := tyX2 10) rfl rfl rfl (show (10 : Nat) < 19 from by decide) dX2_init_41 (fun H1 locs z1 o1 p39 hS => ?_)
  have hz := z1.trans hz
  have p39 : va_at D clM (a, .inr (2, [.int 0, .int (-1), .int (-1), .int (-1), .int (-1), .int 1, .int (-1), .int 0, .int 0, .int (-1), .int (-1), .int 0, .int 0, .int 0, .int 0, .null, .null, .null, .null])) H1 := p39
  refine lv_aload_n hx hb dX2_init_44 rfl (lv_at hl 0 rfl) ?_
  refine lv_iconst (v := 4) hx hb dX2_init_45 (by decide) ?_
  refine n_newI hx hb htm hown hK hS (N := 4) qw_3 (by decide) (by decide) (by decide) hz (Nat.le_of_ble_eq_true rfl) (Nat.le_of_ble_eq_true rfl) dX2_init_46 (fun H1 z1 o1 h1 hS => ?_)
  have p39 := p39.kept (o1 _ (hz ▸ p39.lt))
  have hz := z1
  refine n_putF hx hb htm hown hK hS hin rfl ic_wsU2 tyX2 tyX2_ok nmX2 (Or.inl rfl) p39 15 (by decide) qw_52 rfl rfl (ty := tyX2 15) rfl rfl rfl (show (15 : Nat) < 19 from by decide) dX2_init_48 (fun H1 locs z1 o1 p47 hS => ?_)
  have h1 := h1.kept (o1 _ (by show n ≠ a; omega))
  have hz := z1.trans hz
  have p47 : va_at D clM (a, .inr (2, [.int 0, .int (-1), .int (-1), .int (-1), .int (-1), .int 1, .int (-1), .int 0, .int 0, .int (-1), .int (-1), .int 0, .int 0, .int 0, .int 0, .ref n, .null, .null, .null])) H1 := p47
  refine lv_aload_n hx hb dX2_init_51 rfl (lv_at hl 0 rfl) ?_
  refine lv_iconst (v := 4) hx hb dX2_init_52 (by decide) ?_
  refine n_newI hx hb htm hown hK hS (N := 4) qw_3 (by decide) (by decide) (by decide) hz (Nat.le_of_ble_eq_true rfl) (Nat.le_of_ble_eq_true rfl) dX2_init_53 (fun H1 z1 o1 h2 hS => ?_)
  have p47 := p47.kept (o1 _ (hz ▸ p47.lt))
  have h1 := h1.kept (o1 _ (hz ▸ h1.lt))
  have hz := z1
  refine n_putF hx hb htm hown hK hS hin rfl ic_wsU2 tyX2 tyX2_ok nmX2 (Or.inl rfl) p47 16 (by decide) qw_53 rfl rfl (ty := tyX2 16) rfl rfl rfl (show (16 : Nat) < 19 from by decide) dX2_init_55 (fun H1 locs z1 o1 p57 hS => ?_)
  have h1 := h1.kept (o1 _ (by show n ≠ a; omega))
  have h2 := h2.kept (o1 _ (by show (n + 1) ≠ a; omega))
  have hz := z1.trans hz
  have p57 : va_at D clM (a, .inr (2, [.int 0, .int (-1), .int (-1), .int (-1), .int (-1), .int 1, .int (-1), .int 0, .int 0, .int (-1), .int (-1), .int 0, .int 0, .int 0, .int 0, .ref n, .ref (n + 1), .null, .null])) H1 := p57
  refine lv_aload_n hx hb dX2_init_58 rfl (lv_at hl 0 rfl) ?_
  refine n_new hx hb htm hown hK hS (ci := 0) (fs := [.null, .null, .int 0]) rfl ic_wsU0 tyX0 tyX0_ok (fun j hj => by rcases (show j = 0 ∨ j = 1 ∨ j = 2 by omega) with rfl | rfl | rfl <;> rfl) qw_54 qw_55 qw_56 hz (Nat.le_of_ble_eq_true rfl) (Nat.le_of_ble_eq_true rfl) dX2_init_59 (fun H1 z1 o1 h3 hS => ?_)
  have p57 := p57.kept (o1 _ (hz ▸ p57.lt))
  have h1 := h1.kept (o1 _ (hz ▸ h1.lt))
  have h2 := h2.kept (o1 _ (hz ▸ h2.lt))
  have hz := z1
  refine lv_dup hx hb dX2_init_62 rfl ?_
  refine n_cN hx hb hml htm hown hK hS iw_X0_init nst_2_45 (c_X0_init (a := (n + 2)) (n := (n + 3))) ⟨rfl, rfl⟩ ⟨Nat.le_of_ble_eq_true rfl, Nat.le_of_ble_eq_true rfl⟩ ⟨Nat.le_of_ble_eq_true rfl, Nat.le_of_ble_eq_true rfl⟩ ⟨hz, by omega, h3⟩ (fun q h9 => by rcases h9 with h9 | h9 <;> first | exact Or.inr (by omega)) rfl hl.1 (rest := [.ref (n + 2), .ref a]) rfl (Nat.le_of_ble_eq_true rfl) dX2_init_63 (fun H1 locs hQ z1 o1 hS => ?_)
  obtain ⟨hz1, g69_0, g69_1, g69_2⟩ := hQ
  have p57 := p57.kept (o1 _ p57.lt (nA_no (by show a ≠ (n + 2); omega) (by show a < (n + 3); omega)))
  have h1 := h1.kept (o1 _ h1.lt (nA_no (by show n ≠ (n + 2); omega) (by show n < (n + 3); omega)))
  have h2 := h2.kept (o1 _ h2.lt (nA_no (by show (n + 1) ≠ (n + 2); omega) (by show (n + 1) < (n + 3); omega)))
  have hz := hz1
  refine n_putF hx hb htm hown hK hS hin rfl ic_wsU2 tyX2 tyX2_ok nmX2 (Or.inl rfl) p57 17 (by decide) qw_57 rfl rfl (ty := tyX2 17) rfl rfl rfl (show (17 : Nat) < 19 from by decide) dX2_init_66 (fun H1 locs z1 o1 p75 hS => ?_)
  have h1 := h1.kept (o1 _ (by show n ≠ a; omega))
  have h2 := h2.kept (o1 _ (by show (n + 1) ≠ a; omega))
  have g69_0 := g69_0.kept (o1 _ (by show (n + 2) ≠ a; omega))
  have g69_1 := g69_1.kept (o1 _ (by show (n + 3) ≠ a; omega))
  have g69_2 := g69_2.kept (o1 _ (by show (n + 4) ≠ a; omega))
  have hz := z1.trans hz
  have p75 : va_at D clM (a, .inr (2, [.int 0, .int (-1), .int (-1), .int (-1), .int (-1), .int 1, .int (-1), .int 0, .int 0, .int (-1), .int (-1), .int 0, .int 0, .int 0, .int 0, .ref n, .ref (n + 1), .ref (n + 2), .null])) H1 := p75
  refine lv_aload_n hx hb dX2_init_69 rfl (lv_at hl 0 rfl) ?_
  refine n_new hx hb htm hown hK hS (ci := 4) (fs := [.null, .null, .int 0]) rfl ic_wsU4 tyX4 tyX4_ok (fun j hj => by rcases (show j = 0 ∨ j = 1 ∨ j = 2 by omega) with rfl | rfl | rfl <;> rfl) qw_58 qw_59 qw_60 hz (Nat.le_of_ble_eq_true rfl) (Nat.le_of_ble_eq_true rfl) dX2_init_70 (fun H1 z1 o1 h6 hS => ?_)
  have p75 := p75.kept (o1 _ (hz ▸ p75.lt))
  have h1 := h1.kept (o1 _ (hz ▸ h1.lt))
  have h2 := h2.kept (o1 _ (hz ▸ h2.lt))
  have g69_0 := g69_0.kept (o1 _ (hz ▸ g69_0.lt))
  have g69_1 := g69_1.kept (o1 _ (hz ▸ g69_1.lt))
  have g69_2 := g69_2.kept (o1 _ (hz ▸ g69_2.lt))
  have hz := z1
  refine lv_dup hx hb dX2_init_73 rfl ?_
  refine n_cN hx hb hml htm hown hK hS iw_X4_init nst_2_52 (c_X4_init (a := (n + 5)) (n := (n + 6))) ⟨rfl, rfl⟩ ⟨Nat.le_of_ble_eq_true rfl, Nat.le_of_ble_eq_true rfl⟩ ⟨Nat.le_of_ble_eq_true rfl, Nat.le_of_ble_eq_true rfl⟩ ⟨hz, by omega, h6⟩ (fun q h9 => by rcases h9 with h9 | h9 <;> first | exact Or.inr (by omega)) rfl hl.1 (rest := [.ref (n + 5), .ref a]) rfl (Nat.le_of_ble_eq_true rfl) dX2_init_74 (fun H1 locs hQ z1 o1 hS => ?_)
  obtain ⟨hz1, g93_0, g93_1, g93_2⟩ := hQ
  have p75 := p75.kept (o1 _ p75.lt (nA_no (by show a ≠ (n + 5); omega) (by show a < (n + 6); omega)))
  have h1 := h1.kept (o1 _ h1.lt (nA_no (by show n ≠ (n + 5); omega) (by show n < (n + 6); omega)))
  have h2 := h2.kept (o1 _ h2.lt (nA_no (by show (n + 1) ≠ (n + 5); omega) (by show (n + 1) < (n + 6); omega)))
  have g69_0 := g69_0.kept (o1 _ g69_0.lt (nA_no (by show (n + 2) ≠ (n + 5); omega) (by show (n + 2) < (n + 6); omega)))
  have g69_1 := g69_1.kept (o1 _ g69_1.lt (nA_no (by show (n + 3) ≠ (n + 5); omega) (by show (n + 3) < (n + 6); omega)))
  have g69_2 := g69_2.kept (o1 _ g69_2.lt (nA_no (by show (n + 4) ≠ (n + 5); omega) (by show (n + 4) < (n + 6); omega)))
  have hz := hz1
  refine n_putF hx hb htm hown hK hS hin rfl ic_wsU2 tyX2 tyX2_ok nmX2 (Or.inl rfl) p75 18 (by decide) qw_61 rfl rfl (ty := tyX2 18) rfl rfl rfl (show (18 : Nat) < 19 from by decide) dX2_init_77 (fun H1 locs z1 o1 p102 hS => ?_)
  have h1 := h1.kept (o1 _ (by show n ≠ a; omega))
  have h2 := h2.kept (o1 _ (by show (n + 1) ≠ a; omega))
  have g69_0 := g69_0.kept (o1 _ (by show (n + 2) ≠ a; omega))
  have g69_1 := g69_1.kept (o1 _ (by show (n + 3) ≠ a; omega))
  have g69_2 := g69_2.kept (o1 _ (by show (n + 4) ≠ a; omega))
  have g93_0 := g93_0.kept (o1 _ (by show (n + 5) ≠ a; omega))
  have g93_1 := g93_1.kept (o1 _ (by show (n + 6) ≠ a; omega))
  have g93_2 := g93_2.kept (o1 _ (by show (n + 7) ≠ a; omega))
  have hz := z1.trans hz
  have p102 : va_at D clM (a, .inr (2, [.int 0, .int (-1), .int (-1), .int (-1), .int (-1), .int 1, .int (-1), .int 0, .int 0, .int (-1), .int (-1), .int 0, .int 0, .int 0, .int 0, .ref n, .ref (n + 1), .ref (n + 2), .ref (n + 5)])) H1 := p102
  refine lv_aload_n hx hb dX2_init_80 rfl (lv_at hl 0 rfl) ?_
  refine lv_iload_n hx hb dX2_init_81 rfl (lv_at hl 1 rfl) ?_
  refine n_putF hx hb htm hown hK hS hin rfl ic_wsU2 tyX2 tyX2_ok nmX2 (Or.inl rfl) p102 0 (by decide) qw_62 rfl rfl (ty := tyX2 0) rfl rfl rfl (show (0 : Nat) < 19 from by decide) dX2_init_82 (fun H1 locs z1 o1 p115 hS => ?_)
  have h1 := h1.kept (o1 _ (by show n ≠ a; omega))
  have h2 := h2.kept (o1 _ (by show (n + 1) ≠ a; omega))
  have g69_0 := g69_0.kept (o1 _ (by show (n + 2) ≠ a; omega))
  have g69_1 := g69_1.kept (o1 _ (by show (n + 3) ≠ a; omega))
  have g69_2 := g69_2.kept (o1 _ (by show (n + 4) ≠ a; omega))
  have g93_0 := g93_0.kept (o1 _ (by show (n + 5) ≠ a; omega))
  have g93_1 := g93_1.kept (o1 _ (by show (n + 6) ≠ a; omega))
  have g93_2 := g93_2.kept (o1 _ (by show (n + 7) ≠ a; omega))
  have hz := z1.trans hz
  have p115 : va_at D clM (a, .inr (2, [.int x1, .int (-1), .int (-1), .int (-1), .int (-1), .int 1, .int (-1), .int 0, .int 0, .int (-1), .int (-1), .int 0, .int 0, .int 0, .int 0, .ref n, .ref (n + 1), .ref (n + 2), .ref (n + 5)])) H1 := p115
  refine lv_aload_n hx hb dX2_init_85 rfl (lv_at hl 0 rfl) ?_
  refine n_get hx hb htm hown hK hS rfl ic_wsU2 p115 16 (by decide) qw_53 rfl dX2_init_86 ?_
  refine lv_iconst (v := (-1)) hx hb dX2_init_89 (by decide) ?_
  refine n_cO hx hb hml htm hown hK hS sw_J7_fill_53178 qw_65 (c_fill (q := (n + 1)) (sz := n + 8) (N := 4) (f := fun _ => 0) (v := (-1)) (by decide)) ⟨rfl, rfl⟩ ⟨Nat.le_of_ble_eq_true rfl, Nat.le_of_ble_eq_true rfl⟩ ⟨Nat.le_of_ble_eq_true rfl, Nat.le_of_ble_eq_true rfl⟩ ⟨hz, h2⟩ (fun q h9 => by subst h9; exact Or.inr (by omega)) rfl hl.1 (rest := []) rfl (Nat.le_of_ble_eq_true rfl) dX2_init_90 (fun H1 locs hQ z1 o1 hS => ?_)
  obtain ⟨hz1, f129⟩ := hQ
  have p115 := p115.kept (o1 _ p115.lt (by show ¬ a = (n + 1); omega))
  have h1 := h1.kept (o1 _ h1.lt (by show ¬ n = (n + 1); omega))
  have g69_0 := g69_0.kept (o1 _ g69_0.lt (by show ¬ (n + 2) = (n + 1); omega))
  have g69_1 := g69_1.kept (o1 _ g69_1.lt (by show ¬ (n + 3) = (n + 1); omega))
  have g69_2 := g69_2.kept (o1 _ g69_2.lt (by show ¬ (n + 4) = (n + 1); omega))
  have g93_0 := g93_0.kept (o1 _ g93_0.lt (by show ¬ (n + 5) = (n + 1); omega))
  have g93_1 := g93_1.kept (o1 _ g93_1.lt (by show ¬ (n + 6) = (n + 1); omega))
  have g93_2 := g93_2.kept (o1 _ g93_2.lt (by show ¬ (n + 7) = (n + 1); omega))
  have hz := hz1
  exact n_ret hx hb hr hlk hS ⟨hz, p115, h1, f129, g69_0, g69_1, g69_2, g93_0, g93_1, g93_2⟩ dX2_init_93
