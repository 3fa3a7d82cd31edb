def rm_X6_init : Room := { frames := 4, cells := 459, slots := 5583, locals := 88 }
theorem iw_X6_init : IW yX6_init cX6_init 1 0 := ⟨qw_629, qw_12, qw_388, ⟨by decide, by decide, by decide +kernel⟩, rfl⟩
set_option maxRecDepth 20000 in
set_option maxHeartbeats 4000000 in
theorem c_X6_init {l : Launch} {D : va_G} {cI cZ cP : ClassId} {a n : Nat}  : Met l yX6_init (.code yX6_init cX6_init 1 none :: WM) rm_X6_init (PcN D cI cZ cP [.ref a] (fun H => H.size = n ∧ a < n ∧ va_at D clM (a, .inr (6, [.null, .null, .null, .null])) H)) (QcN (fun H => H.size = n + 459 ∧ va_at D clM (a, .inr (6, [.ref n, .ref (n + 5), .ref (n + 13), .ref (n + 236)])) H ∧ va_at D clM (n, .inr (1, [.int 0, .ref (n + 1), .ref (n + 2), .ref (n + 3), .ref (n + 4)])) H ∧ va_at D clM ((n + 1), .inl (cI, 16, .inl (fun _ => 0))) H ∧ va_at D clM ((n + 2), .inl (cI, 192, .inl (fun _ => 0))) H ∧ va_at D clM ((n + 3), .inl (cI, 192, .inl (fun _ => 0))) H ∧ va_at D clM ((n + 4), .inl (cI, 192, .inl (fun _ => 0))) H ∧ va_at D clM ((n + 5), .inr (3, [.int 0, .ref (n + 6), .ref (n + 7), .ref (n + 8), .ref (n + 9), .ref (n + 10), .ref (n + 11), .ref (n + 12)])) H ∧ va_at D clM ((n + 6), .inl (cI, 5, .inl (fun _ => 0))) H ∧ va_at D clM ((n + 7), .inl (cI, 5, .inl (fun _ => 0))) H ∧ va_at D clM ((n + 8), .inl (cI, 5, .inl (fun _ => 0))) H ∧ va_at D clM ((n + 9), .inl (cI, 5, .inl (fun _ => 0))) H ∧ va_at D clM ((n + 10), .inl (cZ, 20, .inl (fun _ => 0))) H ∧ va_at D clM ((n + 11), .inl (cI, 20, .inl (fun _ => 0))) H ∧ va_at D clM ((n + 12), .inl (cI, 20, .inl (fun _ => 0))) H ∧ wdB D cI cP (n + 13) n (n + 5) (n + 14) 24 H ∧ wdB D cI cP (n + 236) n (n + 5) (n + 237) 24 H) (nA a n)) 459 5583 (nA a n) := by
  refine n_entry (by decide) (Nat.le_of_ble_eq_true rfl) (fun p e s m below meth c ls hx hb hml hown htm hr hlk hin hK hpre hS hl => ?_)
  obtain ⟨hz, han, h0⟩ := hpre
  have hown : s.vm.findClass RX6 = some m.cls := hown
  have hl : lv_has ls 1 [(0, .ref a)] := hl
  refine lv_aload_n hx hb dX6_init_0 rfl (lv_at hl 0 rfl) ?_
  refine n_obj hx hb htm hown hK hS (hml.trans hl.1.symm) qw_373 qw_1 qw_2 dX6_init_1 (Nat.le_of_ble_eq_true rfl) (Nat.le_of_ble_eq_true rfl) ?_
  refine lv_aload_n hx hb dX6_init_4 rfl (lv_at hl 0 rfl) ?_
  refine n_new hx hb htm hown hK hS (ci := 1) (fs := [.int 0, .null, .null, .null, .null]) rfl ic_wsU1 tyX1 tyX1_ok (fun j hj => by rcases (show j = 0 ∨ j = 1 ∨ j = 2 ∨ j = 3 ∨ j = 4 by omega) with rfl | rfl | rfl | rfl | rfl <;> rfl) qw_374 qw_375 qw_30 hz (Nat.le_of_ble_eq_true rfl) (Nat.le_of_ble_eq_true rfl) dX6_init_5 (fun H1 z1 o1 h1 hS => ?_)
  have h0 := h0.kept (o1 _ (hz ▸ h0.lt))
  have hz := z1
  refine lv_dup hx hb dX6_init_8 rfl ?_
  refine n_cN hx hb hml htm hown hK hS iw_X1_init nst_6_11 (c_X1_init (a := n) (n := (n + 1))) ⟨rfl, rfl⟩ ⟨Nat.le_of_ble_eq_true rfl, Nat.le_of_ble_eq_true rfl⟩ ⟨Nat.le_of_ble_eq_true rfl, Nat.le_of_ble_eq_true rfl⟩ ⟨hz, by omega, h1⟩ (fun q h9 => by rcases h9 with h9 | h9 <;> first | exact Or.inr (by omega)) rfl hl.1 (rest := [.ref n, .ref a]) rfl (Nat.le_of_ble_eq_true rfl) dX6_init_9 (fun H1 locs hQ z1 o1 hS => ?_)
  obtain ⟨hz1, g7_0, g7_1, g7_2, g7_3, g7_4⟩ := hQ
  have h0 := h0.kept (o1 _ h0.lt (nA_no (by show a ≠ n; omega) (by show a < (n + 1); omega)))
  have hz := hz1
  refine n_putF hx hb htm hown hK hS hin rfl ic_wsU6 tyX6 tyX6_ok nmX6 (Or.inl rfl) h0 0 (by decide) qw_376 rfl rfl (ty := tyX6 0) rfl rfl rfl (show (0 : Nat) < 4 from by decide) dX6_init_12 (fun H1 locs z1 o1 p11 hS => ?_)
  have g7_0 := g7_0.kept (o1 _ (by show n ≠ a; omega))
  have g7_1 := g7_1.kept (o1 _ (by show (n + 1) ≠ a; omega))
  have g7_2 := g7_2.kept (o1 _ (by show (n + 2) ≠ a; omega))
  have g7_3 := g7_3.kept (o1 _ (by show (n + 3) ≠ a; omega))
  have g7_4 := g7_4.kept (o1 _ (by show (n + 4) ≠ a; omega))
  have hz := z1.trans hz
  have p11 : va_at D clM (a, .inr (6, [.ref n, .null, .null, .null])) H1 := p11
  refine lv_aload_n hx hb dX6_init_15 rfl (lv_at hl 0 rfl) ?_
  refine n_new hx hb htm hown hK hS (ci := 3) (fs := [.int 0, .null, .null, .null, .null, .null, .null, .null]) rfl ic_wsU3 tyX3 tyX3_ok (fun j hj => by rcases (show j = 0 ∨ j = 1 ∨ j = 2 ∨ j = 3 ∨ j = 4 ∨ j = 5 ∨ j = 6 ∨ j = 7 by omega) with rfl | rfl | rfl | rfl | rfl | rfl | rfl | rfl <;> rfl) qw_377 qw_378 qw_133 hz (Nat.le_of_ble_eq_true rfl) (Nat.le_of_ble_eq_true rfl) dX6_init_16 (fun H1 z1 o1 h6 hS => ?_)
  have p11 := p11.kept (o1 _ (hz ▸ p11.lt))
  have g7_0 := g7_0.kept (o1 _ (hz ▸ g7_0.lt))
  have g7_1 := g7_1.kept (o1 _ (hz ▸ g7_1.lt))
  have g7_2 := g7_2.kept (o1 _ (hz ▸ g7_2.lt))
  have g7_3 := g7_3.kept (o1 _ (hz ▸ g7_3.lt))
  have g7_4 := g7_4.kept (o1 _ (hz ▸ g7_4.lt))
  have hz := z1
  refine lv_dup hx hb dX6_init_19 rfl ?_
  refine n_cN hx hb hml htm hown hK hS iw_X3_init nst_6_18 (c_X3_init (a := (n + 5)) (n := (n + 6))) ⟨rfl, rfl⟩ ⟨Nat.le_of_ble_eq_true rfl, Nat.le_of_ble_eq_true rfl⟩ ⟨Nat.le_of_ble_eq_true rfl, Nat.le_of_ble_eq_true rfl⟩ ⟨hz, by omega, h6⟩ (fun q h9 => by rcases h9 with h9 | h9 <;> first | exact Or.inr (by omega)) rfl hl.1 (rest := [.ref (n + 5), .ref a]) rfl (Nat.le_of_ble_eq_true rfl) dX6_init_20 (fun H1 locs hQ z1 o1 hS => ?_)
  obtain ⟨hz1, g29_0, g29_1, g29_2, g29_3, g29_4, g29_5, g29_6, g29_7⟩ := hQ
  have p11 := p11.kept (o1 _ p11.lt (nA_no (by show a ≠ (n + 5); omega) (by show a < (n + 6); omega)))
  have g7_0 := g7_0.kept (o1 _ g7_0.lt (nA_no (by show n ≠ (n + 5); omega) (by show n < (n + 6); omega)))
  have g7_1 := g7_1.kept (o1 _ g7_1.lt (nA_no (by show (n + 1) ≠ (n + 5); omega) (by show (n + 1) < (n + 6); omega)))
  have g7_2 := g7_2.kept (o1 _ g7_2.lt (nA_no (by show (n + 2) ≠ (n + 5); omega) (by show (n + 2) < (n + 6); omega)))
  have g7_3 := g7_3.kept (o1 _ g7_3.lt (nA_no (by show (n + 3) ≠ (n + 5); omega) (by show (n + 3) < (n + 6); omega)))
  have g7_4 := g7_4.kept (o1 _ g7_4.lt (nA_no (by show (n + 4) ≠ (n + 5); omega) (by show (n + 4) < (n + 6); omega)))
  have hz := hz1
  refine n_putF hx hb htm hown hK hS hin rfl ic_wsU6 tyX6 tyX6_ok nmX6 (Or.inl rfl) p11 1 (by decide) qw_379 rfl rfl (ty := tyX6 1) rfl rfl rfl (show (1 : Nat) < 4 from by decide) dX6_init_23 (fun H1 locs z1 o1 p38 hS => ?_)
  have g7_0 := g7_0.kept (o1 _ (by show n ≠ a; omega))
  have g7_1 := g7_1.kept (o1 _ (by show (n + 1) ≠ a; omega))
  have g7_2 := g7_2.kept (o1 _ (by show (n + 2) ≠ a; omega))
  have g7_3 := g7_3.kept (o1 _ (by show (n + 3) ≠ a; omega))
  have g7_4 := g7_4.kept (o1 _ (by show (n + 4) ≠ a; omega))
  have g29_0 := g29_0.kept (o1 _ (by show (n + 5) ≠ a; omega))
  have g29_1 := g29_1.kept (o1 _ (by show (n + 6) ≠ a; omega))
  have g29_2 := g29_2.kept (o1 _ (by show (n + 7) ≠ a; omega))
  have g29_3 := g29_3.kept (o1 _ (by show (n + 8) ≠ a; omega))
  have g29_4 := g29_4.kept (o1 _ (by show (n + 9) ≠ a; omega))
  have g29_5 := g29_5.kept (o1 _ (by show (n + 10) ≠ a; omega))
  have g29_6 := g29_6.kept (o1 _ (by show (n + 11) ≠ a; omega))
  have g29_7 := g29_7.kept (o1 _ (by show (n + 12) ≠ a; omega))
  have hz := z1.trans hz
  have p38 : va_at D clM (a, .inr (6, [.ref n, .ref (n + 5), .null, .null])) H1 := p38
  refine lv_aload_n hx hb dX6_init_26 rfl (lv_at hl 0 rfl) ?_
  refine n_new hx hb htm hown hK hS (ci := 5) (fs := [.null, .null, .null, .null, .null, .int 0, .int 0, .int 0, .int 0, .int 0, .int 0, .null, .int 0, .int 0, .null, .null, .int 0]) rfl ic_wsU5 tyX5 tyX5_ok (fun j hj => by rcases (show j = 0 ∨ j = 1 ∨ j = 2 ∨ j = 3 ∨ j = 4 ∨ j = 5 ∨ j = 6 ∨ j = 7 ∨ j = 8 ∨ j = 9 ∨ j = 10 ∨ j = 11 ∨ j = 12 ∨ j = 13 ∨ j = 14 ∨ j = 15 ∨ j = 16 by omega) with rfl | rfl | rfl | rfl | rfl | rfl | rfl | rfl | rfl | rfl | rfl | rfl | rfl | rfl | rfl | rfl | rfl <;> rfl) qw_380 qw_381 qw_203 hz (Nat.le_of_ble_eq_true rfl) (Nat.le_of_ble_eq_true rfl) dX6_init_27 (fun H1 z1 o1 h14 hS => ?_)
  have p38 := p38.kept (o1 _ (hz ▸ p38.lt))
  have g7_0 := g7_0.kept (o1 _ (hz ▸ g7_0.lt))
  have g7_1 := g7_1.kept (o1 _ (hz ▸ g7_1.lt))
  have g7_2 := g7_2.kept (o1 _ (hz ▸ g7_2.lt))
  have g7_3 := g7_3.kept (o1 _ (hz ▸ g7_3.lt))
  have g7_4 := g7_4.kept (o1 _ (hz ▸ g7_4.lt))
  have g29_0 := g29_0.kept (o1 _ (hz ▸ g29_0.lt))
  have g29_1 := g29_1.kept (o1 _ (hz ▸ g29_1.lt))
  have g29_2 := g29_2.kept (o1 _ (hz ▸ g29_2.lt))
  have g29_3 := g29_3.kept (o1 _ (hz ▸ g29_3.lt))
  have g29_4 := g29_4.kept (o1 _ (hz ▸ g29_4.lt))
  have g29_5 := g29_5.kept (o1 _ (hz ▸ g29_5.lt))
  have g29_6 := g29_6.kept (o1 _ (hz ▸ g29_6.lt))
  have g29_7 := g29_7.kept (o1 _ (hz ▸ g29_7.lt))
  have hz := z1
  refine lv_dup hx hb dX6_init_30 rfl ?_
  refine lv_aload_n hx hb dX6_init_31 rfl (lv_at hl 0 rfl) ?_
  refine n_get hx hb htm hown hK hS rfl ic_wsU6 p38 0 (by decide) qw_376 rfl dX6_init_32 ?_
  refine lv_aload_n hx hb dX6_init_35 rfl (lv_at hl 0 rfl) ?_
  refine n_get hx hb htm hown hK hS rfl ic_wsU6 p38 1 (by decide) qw_379 rfl dX6_init_36 ?_
  refine n_cI hx hb hml htm hown hK hS iw_X5_init qw_386 (c_X5_init (a := (n + 13)) (n := n + 14) (r1 := n) (r2 := n + 5)) ⟨rfl, rfl⟩ ⟨Nat.le_of_ble_eq_true rfl, Nat.le_of_ble_eq_true rfl⟩ ⟨Nat.le_of_ble_eq_true rfl, Nat.le_of_ble_eq_true rfl⟩ ⟨hz, by omega, h14⟩ (fun q h9 => by rcases h9 with h9 | h9 <;> exact Or.inr (by omega)) rfl hl.1 (rest := [.ref (n + 13), .ref a]) rfl (Nat.le_of_ble_eq_true rfl) dX6_init_39 (fun H1 locs hQ z1 o1 hS => ?_)
  have p38 := p38.kept (o1 _ p38.lt (nA_no (by show a ≠ (n + 13); omega) (by show a < n + 14; omega)))
  have g7_0 := g7_0.kept (o1 _ g7_0.lt (nA_no (by show n ≠ (n + 13); omega) (by show n < n + 14; omega)))
  have g7_1 := g7_1.kept (o1 _ g7_1.lt (nA_no (by show (n + 1) ≠ (n + 13); omega) (by show (n + 1) < n + 14; omega)))
  have g7_2 := g7_2.kept (o1 _ g7_2.lt (nA_no (by show (n + 2) ≠ (n + 13); omega) (by show (n + 2) < n + 14; omega)))
  have g7_3 := g7_3.kept (o1 _ g7_3.lt (nA_no (by show (n + 3) ≠ (n + 13); omega) (by show (n + 3) < n + 14; omega)))
  have g7_4 := g7_4.kept (o1 _ g7_4.lt (nA_no (by show (n + 4) ≠ (n + 13); omega) (by show (n + 4) < n + 14; omega)))
  have g29_0 := g29_0.kept (o1 _ g29_0.lt (nA_no (by show (n + 5) ≠ (n + 13); omega) (by show (n + 5) < n + 14; omega)))
  have g29_1 := g29_1.kept (o1 _ g29_1.lt (nA_no (by show (n + 6) ≠ (n + 13); omega) (by show (n + 6) < n + 14; omega)))
  have g29_2 := g29_2.kept (o1 _ g29_2.lt (nA_no (by show (n + 7) ≠ (n + 13); omega) (by show (n + 7) < n + 14; omega)))
  have g29_3 := g29_3.kept (o1 _ g29_3.lt (nA_no (by show (n + 8) ≠ (n + 13); omega) (by show (n + 8) < n + 14; omega)))
  have g29_4 := g29_4.kept (o1 _ g29_4.lt (nA_no (by show (n + 9) ≠ (n + 13); omega) (by show (n + 9) < n + 14; omega)))
  have g29_5 := g29_5.kept (o1 _ g29_5.lt (nA_no (by show (n + 10) ≠ (n + 13); omega) (by show (n + 10) < n + 14; omega)))
  have g29_6 := g29_6.kept (o1 _ g29_6.lt (nA_no (by show (n + 11) ≠ (n + 13); omega) (by show (n + 11) < n + 14; omega)))
  have g29_7 := g29_7.kept (o1 _ g29_7.lt (nA_no (by show (n + 12) ≠ (n + 13); omega) (by show (n + 12) < n + 14; omega)))
  have hz : H1.size = n + 14 + 6 + 9 * 24 := hQ.1
  have hW0 := hQ.2
  refine n_putF hx hb htm hown hK hS hin rfl ic_wsU6 tyX6 tyX6_ok nmX6 (Or.inl rfl) p38 2 (by decide) qw_382 rfl rfl (ty := tyX6 2) rfl rfl rfl (show (2 : Nat) < 4 from by decide) dX6_init_42 (fun H1 locs z1 o1 p42 hS => ?_)
  have g7_0 := g7_0.kept (o1 _ (by show n ≠ a; omega))
  have g7_1 := g7_1.kept (o1 _ (by show (n + 1) ≠ a; omega))
  have g7_2 := g7_2.kept (o1 _ (by show (n + 2) ≠ a; omega))
  have g7_3 := g7_3.kept (o1 _ (by show (n + 3) ≠ a; omega))
  have g7_4 := g7_4.kept (o1 _ (by show (n + 4) ≠ a; omega))
  have g29_0 := g29_0.kept (o1 _ (by show (n + 5) ≠ a; omega))
  have g29_1 := g29_1.kept (o1 _ (by show (n + 6) ≠ a; omega))
  have g29_2 := g29_2.kept (o1 _ (by show (n + 7) ≠ a; omega))
  have g29_3 := g29_3.kept (o1 _ (by show (n + 8) ≠ a; omega))
  have g29_4 := g29_4.kept (o1 _ (by show (n + 9) ≠ a; omega))
  have g29_5 := g29_5.kept (o1 _ (by show (n + 10) ≠ a; omega))
  have g29_6 := g29_6.kept (o1 _ (by show (n + 11) ≠ a; omega))
  have g29_7 := g29_7.kept (o1 _ (by show (n + 12) ≠ a; omega))
  have hW0 := hW0.kept (fun q h9 => o1 q (by omega))
  have hz := z1.trans hz
  have p42 : va_at D clM (a, .inr (6, [.ref n, .ref (n + 5), .ref (n + 13), .null])) H1 := p42
  refine lv_aload_n hx hb dX6_init_45 rfl (lv_at hl 0 rfl) ?_
  refine n_new hx hb htm hown hK hS (ci := 5) (z := n + 236) (fs := [.null, .null, .null, .null, .null, .int 0, .int 0, .int 0, .int 0, .int 0, .int 0, .null, .int 0, .int 0, .null, .null, .int 0]) rfl ic_wsU5 tyX5 tyX5_ok (fun j hj => by rcases (show j = 0 ∨ j = 1 ∨ j = 2 ∨ j = 3 ∨ j = 4 ∨ j = 5 ∨ j = 6 ∨ j = 7 ∨ j = 8 ∨ j = 9 ∨ j = 10 ∨ j = 11 ∨ j = 12 ∨ j = 13 ∨ j = 14 ∨ j = 15 ∨ j = 16 by omega) with rfl | rfl | rfl | rfl | rfl | rfl | rfl | rfl | rfl | rfl | rfl | rfl | rfl | rfl | rfl | rfl | rfl <;> rfl) qw_380 qw_381 qw_203 (by omega) (Nat.le_of_ble_eq_true rfl) (Nat.le_of_ble_eq_true rfl) dX6_init_46 (fun H1 z1 o1 hB hS => ?_)
  have p42 := p42.kept (o1 _ (by show a < n + 236; omega))
  have g7_0 := g7_0.kept (o1 _ (by show n < n + 236; omega))
  have g7_1 := g7_1.kept (o1 _ (by show (n + 1) < n + 236; omega))
  have g7_2 := g7_2.kept (o1 _ (by show (n + 2) < n + 236; omega))
  have g7_3 := g7_3.kept (o1 _ (by show (n + 3) < n + 236; omega))
  have g7_4 := g7_4.kept (o1 _ (by show (n + 4) < n + 236; omega))
  have g29_0 := g29_0.kept (o1 _ (by show (n + 5) < n + 236; omega))
  have g29_1 := g29_1.kept (o1 _ (by show (n + 6) < n + 236; omega))
  have g29_2 := g29_2.kept (o1 _ (by show (n + 7) < n + 236; omega))
  have g29_3 := g29_3.kept (o1 _ (by show (n + 8) < n + 236; omega))
  have g29_4 := g29_4.kept (o1 _ (by show (n + 9) < n + 236; omega))
  have g29_5 := g29_5.kept (o1 _ (by show (n + 10) < n + 236; omega))
  have g29_6 := g29_6.kept (o1 _ (by show (n + 11) < n + 236; omega))
  have g29_7 := g29_7.kept (o1 _ (by show (n + 12) < n + 236; omega))
  have hW0 := hW0.kept (fun q h9 => o1 q (by omega))
  have hz := z1
  refine lv_dup hx hb dX6_init_49 rfl ?_
  refine lv_aload_n hx hb dX6_init_50 rfl (lv_at hl 0 rfl) ?_
  refine n_get hx hb htm hown hK hS rfl ic_wsU6 p42 0 (by decide) qw_376 rfl dX6_init_51 ?_
  refine lv_aload_n hx hb dX6_init_54 rfl (lv_at hl 0 rfl) ?_
  refine n_get hx hb htm hown hK hS rfl ic_wsU6 p42 1 (by decide) qw_379 rfl dX6_init_55 ?_
  refine n_cI hx hb hml htm hown hK hS iw_X5_init qw_386 (c_X5_init (a := (n + 236)) (n := n + 237) (r1 := n) (r2 := n + 5)) ⟨rfl, rfl⟩ ⟨Nat.le_of_ble_eq_true rfl, Nat.le_of_ble_eq_true rfl⟩ ⟨Nat.le_of_ble_eq_true rfl, Nat.le_of_ble_eq_true rfl⟩ ⟨hz, by omega, hB⟩ (fun q h9 => by rcases h9 with h9 | h9 <;> exact Or.inr (by omega)) rfl hl.1 (rest := [.ref (n + 236), .ref a]) rfl (Nat.le_of_ble_eq_true rfl) dX6_init_58 (fun H1 locs hQ z1 o1 hS => ?_)
  have p42 := p42.kept (o1 _ p42.lt (nA_no (by show a ≠ (n + 236); omega) (by show a < n + 237; omega)))
  have g7_0 := g7_0.kept (o1 _ g7_0.lt (nA_no (by show n ≠ (n + 236); omega) (by show n < n + 237; omega)))
  have g7_1 := g7_1.kept (o1 _ g7_1.lt (nA_no (by show (n + 1) ≠ (n + 236); omega) (by show (n + 1) < n + 237; omega)))
  have g7_2 := g7_2.kept (o1 _ g7_2.lt (nA_no (by show (n + 2) ≠ (n + 236); omega) (by show (n + 2) < n + 237; omega)))
  have g7_3 := g7_3.kept (o1 _ g7_3.lt (nA_no (by show (n + 3) ≠ (n + 236); omega) (by show (n + 3) < n + 237; omega)))
  have g7_4 := g7_4.kept (o1 _ g7_4.lt (nA_no (by show (n + 4) ≠ (n + 236); omega) (by show (n + 4) < n + 237; omega)))
  have g29_0 := g29_0.kept (o1 _ g29_0.lt (nA_no (by show (n + 5) ≠ (n + 236); omega) (by show (n + 5) < n + 237; omega)))
  have g29_1 := g29_1.kept (o1 _ g29_1.lt (nA_no (by show (n + 6) ≠ (n + 236); omega) (by show (n + 6) < n + 237; omega)))
  have g29_2 := g29_2.kept (o1 _ g29_2.lt (nA_no (by show (n + 7) ≠ (n + 236); omega) (by show (n + 7) < n + 237; omega)))
  have g29_3 := g29_3.kept (o1 _ g29_3.lt (nA_no (by show (n + 8) ≠ (n + 236); omega) (by show (n + 8) < n + 237; omega)))
  have g29_4 := g29_4.kept (o1 _ g29_4.lt (nA_no (by show (n + 9) ≠ (n + 236); omega) (by show (n + 9) < n + 237; omega)))
  have g29_5 := g29_5.kept (o1 _ g29_5.lt (nA_no (by show (n + 10) ≠ (n + 236); omega) (by show (n + 10) < n + 237; omega)))
  have g29_6 := g29_6.kept (o1 _ g29_6.lt (nA_no (by show (n + 11) ≠ (n + 236); omega) (by show (n + 11) < n + 237; omega)))
  have g29_7 := g29_7.kept (o1 _ g29_7.lt (nA_no (by show (n + 12) ≠ (n + 236); omega) (by show (n + 12) < n + 237; omega)))
  have hW0 := hW0.kept (fun q h9 => o1 q (by omega) (nA_no (by omega) (by omega)))
  have hz : H1.size = n + 237 + 6 + 9 * 24 := hQ.1
  have hW1 := hQ.2
  refine n_putF hx hb htm hown hK hS hin rfl ic_wsU6 tyX6 tyX6_ok nmX6 (Or.inl rfl) p42 3 (by decide) qw_383 rfl rfl (ty := tyX6 3) rfl rfl rfl (show (3 : Nat) < 4 from by decide) dX6_init_61 (fun H1 locs z1 o1 p61 hS => ?_)
  have g7_0 := g7_0.kept (o1 _ (by show n ≠ a; omega))
  have g7_1 := g7_1.kept (o1 _ (by show (n + 1) ≠ a; omega))
  have g7_2 := g7_2.kept (o1 _ (by show (n + 2) ≠ a; omega))
  have g7_3 := g7_3.kept (o1 _ (by show (n + 3) ≠ a; omega))
  have g7_4 := g7_4.kept (o1 _ (by show (n + 4) ≠ a; omega))
  have g29_0 := g29_0.kept (o1 _ (by show (n + 5) ≠ a; omega))
  have g29_1 := g29_1.kept (o1 _ (by show (n + 6) ≠ a; omega))
  have g29_2 := g29_2.kept (o1 _ (by show (n + 7) ≠ a; omega))
  have g29_3 := g29_3.kept (o1 _ (by show (n + 8) ≠ a; omega))
  have g29_4 := g29_4.kept (o1 _ (by show (n + 9) ≠ a; omega))
  have g29_5 := g29_5.kept (o1 _ (by show (n + 10) ≠ a; omega))
  have g29_6 := g29_6.kept (o1 _ (by show (n + 11) ≠ a; omega))
  have g29_7 := g29_7.kept (o1 _ (by show (n + 12) ≠ a; omega))
  have hW0 := hW0.kept (fun q h9 => o1 q (by omega))
  have hW1 := hW1.kept (fun q h9 => o1 q (by omega))
  have hz := z1.trans hz
  have p61 : va_at D clM (a, .inr (6, [.ref n, .ref (n + 5), .ref (n + 13), .ref (n + 236)])) H1 := p61
  exact n_ret hx hb hr hlk hS ⟨by omega, p61, g7_0, g7_1, g7_2, g7_3, g7_4, g29_0, g29_1, g29_2, g29_3, g29_4, g29_5, g29_6, g29_7, hW0, hW1⟩ dX6_init_64
