/-! the walk of the law -/
section
variable {p : Program} {l : Launch} {e : Env} {s : State} {m : MethodId} {below : List Frame} {meth : Method} {c : Code} {H : Heap} {locs : List Loc} {cells slots : Nat}
variable {ls : Array Slot} {D : va_G} {ad : Nat → Nat → Nat → Nat} {cI cZ cP : ClassId} {A : Nat → Prop} {b L nz : Nat} {xs : Nat → Int32} {G V U : MT} {M ra : Nat}
theorem hw_c (hc : cells ≤ 2000) (hs : slots ≤ 20000) : cells ≤ room_1.cells ∧ slots ≤ room_1.slots := ⟨by show cells ≤ 728327; omega, by show slots ≤ 6916643; omega⟩
theorem lw_end (Y : lawY p s m meth c D ad cI cZ cP A b L xs nz) (h : lawS s D ad cI cZ cP nz G V U H locs) (hc : cells ≤ 2000) (hs : slots ≤ 20000) : W p l e room_1 s m #[Value.ref b] below meth c H locs cells slots (lw_Z below #[Value.ref b] s) (F0 m 358 ls []) := by
  obtain ⟨hx, hb, hml, hown, htm, hr, hlk, hE⟩ := Y.1
  refine lv_iconst (v := 1) hx hb dW_358 (by decide) ?_
  refine lv_goto (tgt := 363) hx hb dW_359 (by decide) ?_
  refine va_forget h.2.1.2.2 ?_
  refine W.widen (k := 728327) (n := 6916643) (by omega) (by omega) ?_
  exact lw_ret hx hb hr hlk dW_363
theorem lw_cmp (d : Int64) : lg_cmp d d = 0 := by
  unfold lg_cmp
  rw [if_neg (show ¬ d > d from fun h => by rw [gt_iff_lt, Int64.lt_iff_toInt_lt] at h; omega), if_pos rfl]
set_option maxRecDepth 20000 in
set_option maxHeartbeats 4000000 in
theorem lw_314 {bb C E : Nat} (Y : lawY p s m meth c D ad cI cZ cP A b L xs nz) (h : lawS s D ad cI cZ cP nz G V U H locs) (hG : gK G) (hM : G 17 0 0 = nI M) (h4 : M ≤ 4) (hw : wI bb C E V) (hb0 : bb + 30000 < 2 ^ 20) (hU : jT U) (hC1 : 1 ≤ C) (hc : cells ≤ 2000) (hs : slots ≤ 20000) (hl : lv_has ls 6 [(1, .ref (ad 2 16 0))]) : W p l e room_1 s m #[Value.ref b] below meth c H locs cells slots (lw_Z below #[Value.ref b] s) (F0 m 314 ls []) := by
  obtain ⟨hx, hb, hml, hown, htm, hr, hlk, hE⟩ := Y.1
  have hcs := hw_c hc hs
  have hb8 : bb + 30000 < 2 ^ 28 := by omega
  obtain ⟨d, hd⟩ := dg_all (G := G) hG hb8 hw hM h4
  obtain ⟨U1, e1, t1⟩ := hd U hU
  have e1 : f_X6_digest G V U = some (d, U1) := e1
  refine lv_aload_n hx hb dW_314 rfl (lv_at hl 0 rfl) ?_
  refine ln_cVl Y h vw_X6_digest qw_645 (c_X6_digest e1) ⟨rfl, rfl⟩ ⟨Nat.le_of_ble_eq_true rfl, Nat.le_of_ble_eq_true rfl⟩ hcs (As := []) rfl hl.1 (rest := []) rfl (Nat.le_of_ble_eq_true rfl) dW_315 (fun H1 locs1 h => ?_)
  refine lv_lstore (lv' := [(4, .long d), (1, .ref (ad 2 16 0))]) hx hb dW_318 hl (by decide) rfl (fun ls hl => ?_)
  refine lv_aload_n hx hb dW_320 rfl (lv_at hl 1 rfl) ?_
  refine lv_iconst (v := 2) hx hb dW_321 (by decide) ?_
  refine lv_bipush (v := 9) hx hb dW_322 (by decide) ?_
  obtain ⟨d2, W2, g1, g2, g3, g4⟩ := ov_all G hG (t := 2) (u := 9) hb8 hw (by decide) (by decide) (by decide) (by decide)
  have e2 : f_X6_overBy G V U1 2 9 = some (nI d2, W2) := g4 U1 t1
  refine ln_cV Y h vw_X6_overBy qw_648 (c_X6_overBy e2) ⟨rfl, rfl⟩ ⟨Nat.le_of_ble_eq_true rfl, Nat.le_of_ble_eq_true rfl⟩ hcs (As := [.int 2, .int 9]) rfl hl.1 (rest := []) rfl (Nat.le_of_ble_eq_true rfl) dW_324 (fun H2 locs2 h _ _ => ?_)
  refine lv_aload_n hx hb dW_327 rfl (lv_at hl 1 rfl) ?_
  refine lv_iconst (v := 5) hx hb dW_328 (by decide) ?_
  have e3 : f_X6_many G V W2 5 = some (nI E) := by
    have q := (mn_st G W2 hw).2.2
    rw [cst_2, hw.1.2.2.2.2.2] at q
    exact q
  refine ln_cV Y h vw_X6_many qw_588 (c_X6_many e3) ⟨rfl, rfl⟩ ⟨Nat.le_of_ble_eq_true rfl, Nat.le_of_ble_eq_true rfl⟩ hcs (As := [.int 5]) rfl hl.1 (rest := [.int (nI d2)]) rfl (Nat.le_of_ble_eq_true rfl) dW_329 (fun H3 locs3 h _ _ => ?_)
  refine lv_icmp_lt (tgt := 346) hx hb dW_332 (by decide) (fun c1 => absurd c1 (nI_nlt g1 (by omega))) (fun _ => ?_)
  refine lv_aload_n hx hb dW_335 rfl (lv_at hl 1 rfl) ?_
  refine lv_iconst (v := 0) hx hb dW_336 (by decide) ?_
  refine lv_iconst (v := 4) hx hb dW_337 (by decide) ?_
  obtain ⟨r4, e4, hr4⟩ := po_T G W2 hw (show 0 < C by omega) (w := 4) (by decide)
  have e4 : f_X6_passedOver G V W2 0 4 = some r4 := e4
  refine ln_cV Y h vw_X6_passedOver qw_649 (c_X6_passedOver e4) ⟨rfl, rfl⟩ ⟨Nat.le_of_ble_eq_true rfl, Nat.le_of_ble_eq_true rfl⟩ hcs (As := [.int 0, .int 4]) rfl hl.1 (rest := []) rfl (Nat.le_of_ble_eq_true rfl) dW_338 (fun H4 locs4 h _ _ => ?_)
  refine lv_bipush (v := 7) hx hb dW_341 (by decide) ?_
  have hle : r4 ≤ 7 := by
    rcases hr4 with z | ⟨d, hd, z⟩
    · rw [z]; decide
    · rw [z]; exact nI_le (a := d) (b := 7) (by omega) (by decide)
  refine lv_icmp_le (tgt := 348) hx hb dW_343 (by decide) (fun _ => ?_) (fun c1 => absurd hle c1)
  obtain ⟨U3, e5, t5⟩ := hd W2 g3
  have e5 : f_X6_digest G V W2 = some (d, U3) := e5
  refine lv_aload_n hx hb dW_348 rfl (lv_at hl 1 rfl) ?_
  refine ln_cVl Y h vw_X6_digest qw_645 (c_X6_digest e5) ⟨rfl, rfl⟩ ⟨Nat.le_of_ble_eq_true rfl, Nat.le_of_ble_eq_true rfl⟩ hcs (As := []) rfl hl.1 (rest := []) rfl (Nat.le_of_ble_eq_true rfl) dW_349 (fun H5 locs5 h => ?_)
  refine lv_lload hx hb dW_352 (lv_at hl 0 rfl) ?_
  refine W.lcmp hx hb dW_354 ?_
  refine lv_if_ne (tgt := 362) hx hb dW_355 (by decide) (fun c1 => absurd (lw_cmp d) c1) (fun _ => ?_)
  exact lw_end Y h hc hs
set_option maxRecDepth 20000 in
set_option maxHeartbeats 4000000 in
theorem lw_249 (Y : lawY p s m meth c D ad cI cZ cP A b L xs nz) (hG : gK G) (hM : G 17 0 0 = nI M) (h1 : 1 ≤ M) (h4 : M ≤ 4) (hs2 : G 22 0 0 = nI 2) (hra : nz ≤ ra) (hLr : lawB s ra) (d : Nat) : ∀ (k C E : Nat) (V U : MT) (H : Heap) (locs : List Loc) (ls : Array Slot) (R : RT), k + d = 22 → lawS s D ad cI cZ cP nz G V U H locs → wI (240 * k) C E V → jT U → wC M V → wRO C V R → va_at D clM (ra, .inl (cI, 24, .inl R)) H → 1 ≤ C → lv_has ls 6 [(4, .int (nI k)), (3, .ref ra), (1, .ref (ad 2 16 0)), (2, .int (nI M)), (0, .ref b)] → W p l e room_1 s m #[Value.ref b] below meth c H locs (1000 + k) (9000 + 3 * k) (lw_Z below #[Value.ref b] s) (F0 m 249 ls []) := by
  obtain ⟨hx, hb, hml, hown, htm, hr, hlk, hE⟩ := Y.1
  have hnA : ¬ A ra := fun z => by have := Y.2.2.2.1 ra z; omega
  induction d with
  | zero =>
    intro k C E V U H locs ls R hkd h hw hU hcM hRO hra2 hC1 hl
    refine lv_iload hx hb dW_249 (lv_at hl 0 rfl) ?_
    refine lv_bipush (v := 22) hx hb dW_251 (by decide) ?_
    refine lv_icmp_ge (tgt := 314) hx hb dW_253 (by decide) (fun _ => ?_) (fun c1 => ?_)
    · exact lw_314 Y h hG hM h4 hw (by omega) hU hC1 (by omega) (by omega) (lv_sub hl [2] rfl)
    · exact absurd (nI_le (a := 22) (b := k) (by omega) (by omega)) c1
  | succ d ih =>
    intro k C E V U H locs ls R hkd h hw hU hcM hRO hra2 hC1 hl
    have hcs := hw_c (cells := 1000 + k) (slots := 9000 + 3 * k) (by omega) (by omega)
    refine lv_iload hx hb dW_249 (lv_at hl 0 rfl) ?_
    refine lv_bipush (v := 22) hx hb dW_251 (by decide) ?_
    refine lv_icmp_ge (tgt := 314) hx hb dW_253 (by decide) (fun c1 => absurd c1 (nI_ge (a := k) (b := 22) (by omega) (by omega))) (fun _ => ?_)
    refine lv_aload_n hx hb dW_256 rfl (lv_at hl 2 rfl) ?_
    refine lv_aload_n hx hb dW_257 rfl (lv_at hl 4 rfl) ?_
    refine lv_aload_n hx hb dW_258 rfl (lv_at hl 4 rfl) ?_
    refine lv_iload hx hb dW_259 (lv_at hl 0 rfl) ?_
    refine lv_bipush (v := 16) hx hb dW_261 (by decide) ?_
    refine lv_irem hx hb dW_263 (by decide) ?_
    rw [show nI k - nI k / 16 * 16 = nI (k % 16) from pk_rem (a := k) (d := 16) (by omega) (by decide) (by decide)]
    refine ln_cell Y h (by omega) ⟨Nat.le_of_ble_eq_true rfl, Nat.le_of_ble_eq_true rfl⟩ hcs hl.1 (rest := [.ref b, .ref (ad 2 16 0)]) (Nat.le_of_ble_eq_true rfl) dW_264 (fun r1 H1 locs1 h hk1 hz1 => ?_)
    have hra2 := hra2.kept (hk1 ra hra2.lt2)
    refine lv_bipush (v := 13) hx hb dW_267 (by decide) ?_
    refine lv_iload hx hb dW_269 (lv_at hl 0 rfl) ?_
    refine lv_imul hx hb dW_271 ?_
    refine lv_iadd hx hb dW_272 ?_
    refine lv_aload_n hx hb dW_273 rfl (lv_at hl 4 rfl) ?_
    refine lv_iconst (v := 3) hx hb dW_274 (by decide) ?_
    refine lv_iload hx hb dW_275 (lv_at hl 0 rfl) ?_
    refine lv_imul hx hb dW_277 ?_
    refine lv_iconst (v := 1) hx hb dW_278 (by decide) ?_
    refine lv_iadd hx hb dW_279 ?_
    refine lv_bipush (v := 16) hx hb dW_280 (by decide) ?_
    refine lv_irem hx hb dW_282 (by decide) ?_
    rw [show (3 : Int32) * nI k = nI (3 * k) from pk_mul 3 k, nI_1, show nI (3 * k + 1) - nI (3 * k + 1) / 16 * 16 = nI ((3 * k + 1) % 16) from pk_rem (a := 3 * k + 1) (d := 16) (by omega) (by decide) (by decide)]
    refine ln_cell Y h (by omega) ⟨Nat.le_of_ble_eq_true rfl, Nat.le_of_ble_eq_true rfl⟩ hcs hl.1 (rest := [.int (r1 + 13 * nI k), .ref b, .ref (ad 2 16 0)]) (Nat.le_of_ble_eq_true rfl) dW_283 (fun r2 H2 locs2 h hk2 hz2 => ?_)
    have hra2 := hra2.kept (hk2 ra hra2.lt2)
    refine lv_iload hx hb dW_286 (lv_at hl 0 rfl) ?_
    refine lv_iadd hx hb dW_288 ?_
    refine lv_iload_n hx hb dW_289 rfl (lv_at hl 3 rfl) ?_
    obtain ⟨⟨rr, V1, U1⟩, eF, a1, a2, a3, a4, C', E', a5, a6⟩ := act_at (G := G) hG hM h1 h4 hs2 (b := 240 * k) (by omega) hw hU hcM (r1 + 13 * nI k) (r2 + nI k)
    have a1 : rr = 1 := a1
    subst a1
    refine ln_act Y h eF ⟨Nat.le_of_ble_eq_true rfl, Nat.le_of_ble_eq_true rfl⟩ hcs hl.1 dW_290 (fun H3 locs3 h hk3 hz3 => ?_)
    have hra2 := hra2.kept (hk3 ra hra2.lt2 hnA)
    refine lv_if_ne (tgt := 298) hx hb dW_293 (by decide) (fun _ => ?_) (fun c1 => absurd c1 (by decide))
    refine lv_aload_n hx hb dW_298 rfl (lv_at hl 2 rfl) ?_
    refine lv_aload_n hx hb dW_299 rfl (lv_at hl 1 rfl) ?_
    have hRO2 : wRO C' V1 R := fun j hj => (hRO j hj).elim Or.inl (fun q => Or.inr ⟨Nat.lt_of_lt_of_le q.1 a5, (a4 j q.1 q.2.1).1, q.2.2.trans (a4 j q.1 q.2.1).2.symm⟩)
    have a6 : wI (240 * (k + 1)) C' E' V1 := by
      rw [show 240 * (k + 1) = 240 * k + 240 by omega]
      exact a6
    refine ln_sound Y h hra hLr hra2 a6 hRO2 ⟨Nat.le_of_ble_eq_true rfl, Nat.le_of_ble_eq_true rfl⟩ ⟨by show 1000 + k + 1 ≤ 728327; omega, by show 9000 + 3 * k + 3 ≤ 6916643; omega⟩ hl.1 dW_300 (fun H4 locs4 R2 h hra4 hRO4 => ?_)
    refine lv_if_ne (tgt := 308) hx hb dW_303 (by decide) (fun _ => ?_) (fun c1 => absurd c1 (by decide))
    refine lv_iinc (k := 0) (v := nI (k + 1)) (lv' := [(4, .int (nI (k + 1))), (3, .ref ra), (1, .ref (ad 2 16 0)), (2, .int (nI M)), (0, .ref b)]) hx hb dW_308 hl rfl (nI_1 k) (by decide) rfl (fun ls hl => ?_)
    refine lv_goto (tgt := 249) hx hb dW_311 (by decide) ?_
    exact ih (k + 1) C' E' V1 U1 H4 locs4 ls R2 (by omega) h a6 a2 a3 hRO4 hra4 (by omega) hl
set_option maxRecDepth 20000 in
set_option maxHeartbeats 4000000 in
theorem lw_228 {C E : Nat} (Y : lawY p s m meth c D ad cI cZ cP A b L xs nz) (hG : gK G) (hM : G 17 0 0 = nI M) (h1 : 1 ≤ M) (h4 : M ≤ 4) (hs2 : G 22 0 0 = nI 2) (hra : nz ≤ ra) (hLr : lawB s ra) (hw : wI 0 C E V) (hU : jT U) (hcM : wC M V) (hC1 : 1 ≤ C) (d : Nat) : ∀ (k : Nat) (H : Heap) (locs : List Loc) (ls : Array Slot) (R : RT), k + d = 24 → lawS s D ad cI cZ cP nz G V U H locs → (∀ j, j < k → R j = -1) → va_at D clM (ra, .inl (cI, 24, .inl R)) H → lv_has ls 6 [(4, .int (nI k)), (3, .ref ra), (1, .ref (ad 2 16 0)), (2, .int (nI M)), (0, .ref b)] → W p l e room_1 s m #[Value.ref b] below meth c H locs 1000 9000 (lw_Z below #[Value.ref b] s) (F0 m 228 ls []) := by
  obtain ⟨hx, hb, hml, hown, htm, hr, hlk, hE⟩ := Y.1
  induction d with
  | zero =>
    intro k H locs ls R hkd h hR hra2 hl
    refine lv_iload hx hb dW_228 (lv_at hl 0 rfl) ?_
    refine lv_bipush (v := 24) hx hb dW_230 (by decide) ?_
    refine lv_icmp_ge (tgt := 246) hx hb dW_232 (by decide) (fun _ => ?_) (fun c1 => absurd (nI_le (a := 24) (b := k) (by omega) (by omega)) c1)
    refine lv_iconst (v := 0) hx hb dW_246 (by decide) ?_
    refine lv_istore (lv' := [(4, .int (nI 0)), (3, .ref ra), (1, .ref (ad 2 16 0)), (2, .int (nI M)), (0, .ref b)]) hx hb dW_247 hl (by decide) rfl (fun ls hl => ?_)
    exact lw_249 Y hG hM h1 h4 hs2 hra hLr 22 0 C E V U H locs ls R (by omega) h hw hU hcM (fun j hj => Or.inl (by rw [hR j (by omega)]; decide)) hra2 hC1 hl
  | succ d ih =>
    intro k H locs ls R hkd h hR hra2 hl
    refine lv_iload hx hb dW_228 (lv_at hl 0 rfl) ?_
    refine lv_bipush (v := 24) hx hb dW_230 (by decide) ?_
    refine lv_icmp_ge (tgt := 246) hx hb dW_232 (by decide) (fun c1 => absurd c1 (nI_ge (a := k) (b := 24) (by omega) (by omega))) (fun _ => ?_)
    refine lv_aload_n hx hb dW_235 rfl (lv_at hl 1 rfl) ?_
    refine lv_iload hx hb dW_236 (lv_at hl 0 rfl) ?_
    refine lv_iconst (v := -1) hx hb dW_238 (by decide) ?_
    refine la_st hx hb hE hra2 hLr h.2.1 (vp_in_nI (show k < 24 by omega) (by decide)) dW_239 (fun H1 locs1 hra3 ho hz hS => ?_)
    have h := h.keep Y (fun q hq => ho q (by omega)) (Nat.le_of_eq hz.symm) hS
    refine lv_iinc (k := 0) (v := nI (k + 1)) (lv' := [(4, .int (nI (k + 1))), (3, .ref ra), (1, .ref (ad 2 16 0)), (2, .int (nI M)), (0, .ref b)]) hx hb dW_240 hl rfl (nI_1 k) (by decide) rfl (fun ls hl => ?_)
    refine lv_goto (tgt := 228) hx hb dW_243 (by decide) ?_
    refine ih (k + 1) H1 locs1 ls _ (by omega) h (fun j hj => ?_) hra3 hl
    rw [wd_cl (show k < 2 ^ 31 by omega)]
    by_cases z : j = k
    · subst z; exact pk_us ..
    · rw [pk_un z]; exact hR j (by omega)
set_option maxRecDepth 20000 in
set_option maxHeartbeats 4000000 in
theorem lw_210 (Y : lawY p s m meth c D ad cI cZ cP A b L xs nz) (h : lawS s D ad cI cZ cP nz G V0 V0 H locs) (hP : gP M 2 G) (h1 : 1 ≤ M) (h4 : M ≤ 3) (hl : lv_has ls 6 [(1, .ref (ad 2 16 0)), (2, .int (nI M)), (0, .ref b)]) : W p l e room_1 s m #[Value.ref b] below meth c H locs 999 8976 (lw_Z below #[Value.ref b] s) (F0 m 210 ls []) := by
  obtain ⟨hx, hb, hml, hown, htm, hr, hlk, hE⟩ := Y.1
  have hcs := hw_c (cells := 999) (slots := 8976) (by omega) (by omega)
  refine lv_aload_n hx hb dW_210 rfl (lv_at hl 0 rfl) ?_
  refine lv_iconst (v := 0) hx hb dW_211 (by decide) ?_
  obtain ⟨V1, e1, w1, w2⟩ := st_all (G := G) V0 wI.new (by decide) hP.1 (show M ≤ 4 by omega) (k := 0) (by omega)
  have e1 : f_X6_start G V0 V0 0 = some (0, V1) := e1
  refine ln_cV Y h vw_X6_start qw_590 (c_X6_start e1) ⟨rfl, rfl⟩ ⟨Nat.le_of_ble_eq_true rfl, Nat.le_of_ble_eq_true rfl⟩ hcs (As := [.int 0]) rfl hl.1 (rest := []) rfl (Nat.le_of_ble_eq_true rfl) dW_212 (fun H1 locs1 h _ _ => ?_)
  refine lv_if_eq (tgt := 220) hx hb dW_215 (by decide) (fun _ => ?_) (fun c1 => absurd rfl c1)
  have hcM : wC M V1 := wC.R (V := V0) (fun k _ => ⟨0, by decide, rfl⟩) w2
  refine lv_bipush (v := 24) hx hb dW_220 (by decide) ?_
  refine la_new hx hb (htm _ qw_3) hE h.2.1 (n := 24) (N := 24) (by decide) (by decide) (by decide) (by show 999 + 1 ≤ 728327; omega) (by show 8976 + 24 ≤ 6916643; omega) dW_222 (fun H2 hT hk2 hz2 hS => ?_)
  have hzn := h.2.2
  have hLr : lawB s H1.size := h.2.1.1
  have h := h.keep Y (fun q hq => hk2 q (by omega)) (by omega) hS
  refine lv_astore_n (lv' := [(3, .ref H1.size), (1, .ref (ad 2 16 0)), (2, .int (nI M)), (0, .ref b)]) hx hb dW_224 rfl hl (by decide) rfl (fun ls hl => ?_)
  refine lv_iconst (v := 0) hx hb dW_225 (by decide) ?_
  refine lv_istore (lv' := [(4, .int (nI 0)), (3, .ref H1.size), (1, .ref (ad 2 16 0)), (2, .int (nI M)), (0, .ref b)]) hx hb dW_226 hl (by decide) rfl (fun ls hl => ?_)
  exact lw_228 Y hP.2.1 hP.1 h1 (by omega) hP.2.2.1 hzn hLr w1 jT.V0 hcM (by decide) 24 0 H2 locs1 ls _ (by omega) h (fun j hj => absurd hj (Nat.not_lt_zero _)) hT hl
set_option maxRecDepth 20000 in
set_option maxHeartbeats 4000000 in
theorem lw_172 {k i w : Nat} {x2 : Int32} (Y : lawY p s m meth c D ad cI cZ cP A b L xs nz) (h : lawS s D ad cI cZ cP nz G V0 V0 H locs) (hP : gP M (k + 1) G) (h1 : 1 ≤ M) (h4 : M ≤ 3) (hk : k < 2) (hi : i < 3) (hq : G 26 0 k = nI i) (hx2 : (x2 = 0 ∧ w < M) ∨ (x2 ≠ 0 ∧ w = 0 ∧ 1 ≤ k)) (hc : cells ≤ 2000) (hs : slots ≤ 20000) (hl : lv_has ls 6 [(4, .int (nI i)), (3, .int (nI k)), (1, .ref (ad 2 16 0)), (2, .int (nI M)), (0, .ref b)]) (kk : ∀ (G1 : MT) (H1 : Heap) (locs1 : List Loc) (ls1 : Array Slot), lawS s D ad cI cZ cP nz G1 V0 V0 H1 locs1 → gP M (k + 1) G1 → G1 26 0 k = nI (i + 1) → lv_has ls1 6 [(4, .int (nI (i + 1))), (3, .int (nI k)), (1, .ref (ad 2 16 0)), (2, .int (nI M)), (0, .ref b)] → W p l e room_1 s m #[Value.ref b] below meth c H1 locs1 cells slots (lw_Z below #[Value.ref b] s) (F0 m 109 ls1 [])) : W p l e room_1 s m #[Value.ref b] below meth c H locs cells slots (lw_Z below #[Value.ref b] s) (F0 m 172 ls [.int (nI w), .int x2, .int (nI k), .ref (ad 2 16 0)]) := by
  obtain ⟨hx, hb, hml, hown, htm, hr, hlk, hE⟩ := Y.1
  have hcs := hw_c hc hs
  refine lv_aload_n hx hb dW_172 rfl (lv_at hl 4 rfl) ?_
  refine lv_iload hx hb dW_173 (lv_at hl 0 rfl) ?_
  refine lv_iload_n hx hb dW_175 rfl (lv_at hl 1 rfl) ?_
  refine lv_iadd hx hb dW_176 ?_
  refine lv_iconst (v := 5) hx hb dW_177 (by decide) ?_
  refine lv_iadd hx hb dW_178 ?_
  rw [nI_add, show nI (i + k) + (5 : Int32) = nI (i + k + 5) from nI_add (i + k) 5]
  refine ln_cell Y h (by omega) ⟨Nat.le_of_ble_eq_true rfl, Nat.le_of_ble_eq_true rfl⟩ hcs hl.1 (rest := [.int (nI w), .int x2, .int (nI k), .ref (ad 2 16 0)]) (Nat.le_of_ble_eq_true rfl) dW_179 (fun r1 H1 locs1 h _ _ => ?_)
  refine lv_iconst (v := 3) hx hb dW_182 (by decide) ?_
  refine lv_ishr hx hb dW_183 ?_
  refine lv_iconst (v := 3) hx hb dW_184 (by decide) ?_
  refine ln_below Y h _ (n := 3) (by decide) (by decide) rfl ⟨Nat.le_of_ble_eq_true rfl, Nat.le_of_ble_eq_true rfl⟩ hcs hl.1 (rest := [.int (nI w), .int x2, .int (nI k), .ref (ad 2 16 0)]) (Nat.le_of_ble_eq_true rfl) dW_185 (fun d2 H2 locs2 hd2 h _ _ => ?_)
  obtain ⟨G1, e1, hP1, hq1⟩ := pl_all (d := d2) V0 hP (by omega) (Nat.lt_succ_self k) (by omega) hq (by omega) (by omega) hx2
  refine ln_cV Y h vw_X6_place qw_638 (c_X6_place e1) ⟨rfl, rfl⟩ ⟨Nat.le_of_ble_eq_true rfl, Nat.le_of_ble_eq_true rfl⟩ hcs (As := [.int (nI k), .int x2, .int (nI w), .int (nI d2)]) rfl hl.1 (rest := []) rfl (Nat.le_of_ble_eq_true rfl) dW_188 (fun H3 locs3 h _ _ => ?_)
  refine lv_iload hx hb dW_191 (lv_at hl 0 rfl) ?_
  refine lv_icmp_eq (tgt := 198) hx hb dW_193 (by decide) (fun _ => ?_) (fun c1 => absurd rfl c1)
  refine lv_iinc (k := 0) (v := nI (i + 1)) (lv' := [(4, .int (nI (i + 1))), (3, .int (nI k)), (1, .ref (ad 2 16 0)), (2, .int (nI M)), (0, .ref b)]) hx hb dW_198 hl rfl (nI_1 i) (by decide) rfl (fun ls hl => ?_)
  refine lv_goto (tgt := 109) hx hb dW_201 (by decide) ?_
  exact kk G1 H3 locs3 ls h hP1 hq1 hl
set_option maxRecDepth 20000 in
set_option maxHeartbeats 4000000 in
theorem lw_145 {k i : Nat} {x2 : Int32} (Y : lawY p s m meth c D ad cI cZ cP A b L xs nz) (h : lawS s D ad cI cZ cP nz G V0 V0 H locs) (hP : gP M (k + 1) G) (h1 : 1 ≤ M) (h4 : M ≤ 3) (hk : k < 2) (hi : i < 3) (hq : G 26 0 k = nI i) (hx2 : (x2 = 0 ∧ ¬ (k = 1 ∧ i = 1)) ∨ (x2 = 1 ∧ k = 1 ∧ i = 1)) (hc : cells ≤ 2000) (hs : slots ≤ 20000) (hl : lv_has ls 6 [(4, .int (nI i)), (3, .int (nI k)), (1, .ref (ad 2 16 0)), (2, .int (nI M)), (0, .ref b)]) (kk : ∀ (G1 : MT) (H1 : Heap) (locs1 : List Loc) (ls1 : Array Slot), lawS s D ad cI cZ cP nz G1 V0 V0 H1 locs1 → gP M (k + 1) G1 → G1 26 0 k = nI (i + 1) → lv_has ls1 6 [(4, .int (nI (i + 1))), (3, .int (nI k)), (1, .ref (ad 2 16 0)), (2, .int (nI M)), (0, .ref b)] → W p l e room_1 s m #[Value.ref b] below meth c H1 locs1 cells slots (lw_Z below #[Value.ref b] s) (F0 m 109 ls1 [])) : W p l e room_1 s m #[Value.ref b] below meth c H locs cells slots (lw_Z below #[Value.ref b] s) (F0 m 145 ls [.int x2, .int (nI k), .ref (ad 2 16 0)]) := by
  obtain ⟨hx, hb, hml, hown, htm, hr, hlk, hE⟩ := Y.1
  have hcs := hw_c hc hs
  have at160 : ¬ (k = 1 ∧ i = 1) → W p l e room_1 s m #[Value.ref b] below meth c H locs cells slots (lw_Z below #[Value.ref b] s) (F0 m 160 ls [.int x2, .int (nI k), .ref (ad 2 16 0)]) := fun hn => by
    have hx0 : x2 = 0 := hx2.elim (fun z => z.1) (fun z => absurd z.2 hn)
    refine lv_aload_n hx hb dW_160 rfl (lv_at hl 4 rfl) ?_
    refine lv_iload hx hb dW_161 (lv_at hl 0 rfl) ?_
    refine lv_iload_n hx hb dW_163 rfl (lv_at hl 1 rfl) ?_
    refine lv_iadd hx hb dW_164 ?_
    rw [nI_add]
    refine ln_cell Y h (by omega) ⟨Nat.le_of_ble_eq_true rfl, Nat.le_of_ble_eq_true rfl⟩ hcs hl.1 (rest := [.int x2, .int (nI k), .ref (ad 2 16 0)]) (Nat.le_of_ble_eq_true rfl) dW_165 (fun r1 H1 locs1 h _ _ => ?_)
    refine lv_iload_n hx hb dW_168 rfl (lv_at hl 3 rfl) ?_
    refine ln_below Y h _ (n := M) (by omega) (by omega) rfl ⟨Nat.le_of_ble_eq_true rfl, Nat.le_of_ble_eq_true rfl⟩ hcs hl.1 (rest := [.int x2, .int (nI k), .ref (ad 2 16 0)]) (Nat.le_of_ble_eq_true rfl) dW_169 (fun j H2 locs2 hj h _ _ => ?_)
    exact lw_172 Y h hP h1 h4 hk hi hq (Or.inl ⟨hx0, hj⟩) hc hs hl kk
  refine lv_iload_n hx hb dW_145 rfl (lv_at hl 1 rfl) ?_
  refine lv_iconst (v := 1) hx hb dW_146 (by decide) ?_
  refine lv_icmp_ne (tgt := 160) hx hb dW_147 (by decide) (fun c1 => at160 (fun z => c1 (by rw [z.1]; rfl))) (fun c1 => ?_)
  refine lv_iload hx hb dW_150 (lv_at hl 0 rfl) ?_
  refine lv_iconst (v := 1) hx hb dW_152 (by decide) ?_
  refine lv_icmp_ne (tgt := 160) hx hb dW_153 (by decide) (fun c2 => at160 (fun z => c2 (by rw [z.2]; rfl))) (fun c2 => ?_)
  have k1 : k = 1 := nI_i (a := k) (b := 1) c1
  have i1 : i = 1 := nI_i (a := i) (b := 1) c2
  refine lv_iconst (v := 0) hx hb dW_156 (by decide) ?_
  refine lv_goto (tgt := 172) hx hb dW_157 (by decide) ?_
  have hx1 : x2 = 1 := hx2.elim (fun z => absurd ⟨k1, i1⟩ z.2) (fun z => z.1)
  exact lw_172 (w := 0) Y h hP h1 h4 hk hi hq (Or.inr ⟨by rw [hx1]; decide, rfl, by omega⟩) hc hs hl kk
set_option maxRecDepth 20000 in
set_option maxHeartbeats 4000000 in
theorem lw_109 {k : Nat} (Y : lawY p s m meth c D ad cI cZ cP A b L xs nz) (h1 : 1 ≤ M) (h4 : M ≤ 3) (hk : k < 2) (hc : cells ≤ 2000) (hs : slots ≤ 20000) (kk : ∀ (G1 : MT) (H1 : Heap) (locs1 : List Loc) (ls1 : Array Slot), lawS s D ad cI cZ cP nz G1 V0 V0 H1 locs1 → gP M (k + 1) G1 → lv_has ls1 6 [(3, .int (nI k)), (1, .ref (ad 2 16 0)), (2, .int (nI M)), (0, .ref b)] → W p l e room_1 s m #[Value.ref b] below meth c H1 locs1 cells slots (lw_Z below #[Value.ref b] s) (F0 m 204 ls1 [])) (d : Nat) : ∀ (i : Nat) (G : MT) (H : Heap) (locs : List Loc) (ls : Array Slot), i + d = 3 → lawS s D ad cI cZ cP nz G V0 V0 H locs → gP M (k + 1) G → G 26 0 k = nI i → lv_has ls 6 [(4, .int (nI i)), (3, .int (nI k)), (1, .ref (ad 2 16 0)), (2, .int (nI M)), (0, .ref b)] → W p l e room_1 s m #[Value.ref b] below meth c H locs cells slots (lw_Z below #[Value.ref b] s) (F0 m 109 ls []) := by
  obtain ⟨hx, hb, hml, hown, htm, hr, hlk, hE⟩ := Y.1
  have hcs := hw_c hc hs
  have step : ∀ (i : Nat) (G : MT) (H : Heap) (locs : List Loc) (ls : Array Slot), i ≤ 3 → lawS s D ad cI cZ cP nz G V0 V0 H locs → gP M (k + 1) G → G 26 0 k = nI i → lv_has ls 6 [(4, .int (nI i)), (3, .int (nI k)), (1, .ref (ad 2 16 0)), (2, .int (nI M)), (0, .ref b)] → (i < 3 → ∀ (G1 : MT) (H1 : Heap) (locs1 : List Loc) (ls1 : Array Slot), lawS s D ad cI cZ cP nz G1 V0 V0 H1 locs1 → gP M (k + 1) G1 → G1 26 0 k = nI (i + 1) → lv_has ls1 6 [(4, .int (nI (i + 1))), (3, .int (nI k)), (1, .ref (ad 2 16 0)), (2, .int (nI M)), (0, .ref b)] → W p l e room_1 s m #[Value.ref b] below meth c H1 locs1 cells slots (lw_Z below #[Value.ref b] s) (F0 m 109 ls1 [])) → W p l e room_1 s m #[Value.ref b] below meth c H locs cells slots (lw_Z below #[Value.ref b] s) (F0 m 109 ls []) := fun i G H locs ls hi3 h hP hq hl k2 => by
    refine lv_iload hx hb dW_109 (lv_at hl 0 rfl) ?_
    refine lv_iconst (v := 1) hx hb dW_111 (by decide) ?_
    refine lv_aload_n hx hb dW_112 rfl (lv_at hl 4 rfl) ?_
    refine lv_iload_n hx hb dW_113 rfl (lv_at hl 1 rfl) ?_
    refine lv_iconst (v := 4) hx hb dW_114 (by decide) ?_
    refine lv_iadd hx hb dW_115 ?_
    rw [show nI k + (4 : Int32) = nI (k + 4) from nI_add k 4]
    refine ln_cell Y h (by omega) ⟨Nat.le_of_ble_eq_true rfl, Nat.le_of_ble_eq_true rfl⟩ hcs hl.1 (rest := [.int 1, .int (nI i)]) (Nat.le_of_ble_eq_true rfl) dW_116 (fun r1 H1 locs1 h _ _ => ?_)
    refine lv_iconst (v := 3) hx hb dW_119 (by decide) ?_
    refine ln_below Y h _ (n := 3) (by decide) (by decide) rfl ⟨Nat.le_of_ble_eq_true rfl, Nat.le_of_ble_eq_true rfl⟩ hcs hl.1 (rest := [.int 1, .int (nI i)]) (Nat.le_of_ble_eq_true rfl) dW_120 (fun j H2 locs2 hj h _ _ => ?_)
    refine lv_iadd hx hb dW_123 ?_
    rw [show (1 : Int32) + nI j = nI (1 + j) from nI_add 1 j]
    refine lv_icmp_ge (tgt := 204) hx hb dW_124 (by decide) (fun c1 => kk G H2 locs2 ls h hP (lv_sub hl [1, 2, 3, 4] rfl)) (fun c1 => ?_)
    have hi : i < 3 := by
      by_cases z : 1 + j ≤ i
      · exact absurd (nI_le z (by omega)) c1
      · omega
    have at145 : ∀ x2 : Int32, ((x2 = 0 ∧ ¬ (k = 1 ∧ i = 1)) ∨ (x2 = 1 ∧ k = 1 ∧ i = 1)) → W p l e room_1 s m #[Value.ref b] below meth c H2 locs2 cells slots (lw_Z below #[Value.ref b] s) (F0 m 145 ls [.int x2, .int (nI k), .ref (ad 2 16 0)]) := fun x2 hx2 => lw_145 Y h hP h1 h4 hk hi hq hx2 hc hs hl (k2 hi)
    have at144 : ¬ (k = 1 ∧ i = 1) → W p l e room_1 s m #[Value.ref b] below meth c H2 locs2 cells slots (lw_Z below #[Value.ref b] s) (F0 m 144 ls [.int (nI k), .ref (ad 2 16 0)]) := fun hn => by
      refine lv_iconst (v := 0) hx hb dW_144 (by decide) ?_
      exact at145 0 (Or.inl ⟨rfl, hn⟩)
    refine lv_aload_n hx hb dW_127 rfl (lv_at hl 2 rfl) ?_
    refine lv_iload_n hx hb dW_128 rfl (lv_at hl 1 rfl) ?_
    refine lv_iload_n hx hb dW_129 rfl (lv_at hl 1 rfl) ?_
    refine lv_iconst (v := 1) hx hb dW_130 (by decide) ?_
    refine lv_icmp_ne (tgt := 144) hx hb dW_131 (by decide) (fun c2 => at144 (fun z => c2 (by rw [z.1]; rfl))) (fun c2 => ?_)
    refine lv_iload hx hb dW_134 (lv_at hl 0 rfl) ?_
    refine lv_iconst (v := 1) hx hb dW_136 (by decide) ?_
    refine lv_icmp_ne (tgt := 144) hx hb dW_137 (by decide) (fun c3 => at144 (fun z => c3 (by rw [z.2]; rfl))) (fun c3 => ?_)
    refine lv_iconst (v := 1) hx hb dW_140 (by decide) ?_
    refine lv_goto (tgt := 145) hx hb dW_141 (by decide) ?_
    exact at145 1 (Or.inr ⟨rfl, nI_i (a := k) (b := 1) c2, nI_i (a := i) (b := 1) c3⟩)
  induction d with
  | zero => intro i G H locs ls hid h hP hq hl; exact step i G H locs ls (by omega) h hP hq hl (fun hi => by omega)
  | succ d ih => intro i G H locs ls hid h hP hq hl; exact step i G H locs ls (by omega) h hP hq hl (fun hi G1 H1 locs1 ls1 a1 a2 a3 a4 => ih (i + 1) G1 H1 locs1 ls1 (by omega) a1 a2 a3 a4)
set_option maxRecDepth 20000 in
set_option maxHeartbeats 4000000 in
theorem lw_55 {k : Nat} (Y : lawY p s m meth c D ad cI cZ cP A b L xs nz) (h : lawS s D ad cI cZ cP nz G V0 V0 H locs) (hP : gP M k G) (h1 : 1 ≤ M) (h4 : M ≤ 3) (hk : k < 2) (hc : cells ≤ 2000) (hs : slots ≤ 20000) (hl : lv_has ls 6 [(3, .int (nI k)), (1, .ref (ad 2 16 0)), (2, .int (nI M)), (0, .ref b)]) (kk : ∀ (G1 : MT) (H1 : Heap) (locs1 : List Loc) (ls1 : Array Slot), lawS s D ad cI cZ cP nz G1 V0 V0 H1 locs1 → gP M (k + 1) G1 → lv_has ls1 6 [(3, .int (nI (k + 1))), (1, .ref (ad 2 16 0)), (2, .int (nI M)), (0, .ref b)] → W p l e room_1 s m #[Value.ref b] below meth c H1 locs1 cells slots (lw_Z below #[Value.ref b] s) (F0 m 55 ls1 [])) : W p l e room_1 s m #[Value.ref b] below meth c H locs cells slots (lw_Z below #[Value.ref b] s) (F0 m 55 ls []) := by
  obtain ⟨hx, hb, hml, hown, htm, hr, hlk, hE⟩ := Y.1
  have hcs := hw_c hc hs
  refine lv_iload_n hx hb dW_55 rfl (lv_at hl 0 rfl) ?_
  refine lv_iconst (v := 2) hx hb dW_56 (by decide) ?_
  refine lv_icmp_ge (tgt := 210) hx hb dW_57 (by decide) (fun c1 => absurd c1 (nI_ge (a := k) (b := 2) hk (by decide))) (fun _ => ?_)
  refine lv_aload_n hx hb dW_60 rfl (lv_at hl 1 rfl) ?_
  refine lv_aload_n hx hb dW_61 rfl (lv_at hl 3 rfl) ?_
  refine lv_iload_n hx hb dW_62 rfl (lv_at hl 0 rfl) ?_
  refine lv_iconst (v := 1) hx hb dW_63 (by decide) ?_
  refine lv_iadd hx hb dW_64 ?_
  rw [nI_1]
  refine ln_cell Y h (by omega) ⟨Nat.le_of_ble_eq_true rfl, Nat.le_of_ble_eq_true rfl⟩ hcs hl.1 (rest := [.ref (ad 2 16 0)]) (Nat.le_of_ble_eq_true rfl) dW_65 (fun r1 H1 locs1 h _ _ => ?_)
  refine lv_iconst (v := 3) hx hb dW_68 (by decide) ?_
  refine ln_below Y h _ (n := 3) (by decide) (by decide) rfl ⟨Nat.le_of_ble_eq_true rfl, Nat.le_of_ble_eq_true rfl⟩ hcs hl.1 (rest := [.ref (ad 2 16 0)]) (Nat.le_of_ble_eq_true rfl) dW_69 (fun j1 H2 locs2 hj1 h _ _ => ?_)
  refine lv_aload_n hx hb dW_72 rfl (lv_at hl 3 rfl) ?_
  refine lv_iload_n hx hb dW_73 rfl (lv_at hl 0 rfl) ?_
  refine lv_iconst (v := 2) hx hb dW_74 (by decide) ?_
  refine lv_iadd hx hb dW_75 ?_
  rw [show nI k + (2 : Int32) = nI (k + 2) from nI_add k 2]
  refine ln_cell Y h (by omega) ⟨Nat.le_of_ble_eq_true rfl, Nat.le_of_ble_eq_true rfl⟩ hcs hl.1 (rest := [.int (nI j1), .ref (ad 2 16 0)]) (Nat.le_of_ble_eq_true rfl) dW_76 (fun r2 H3 locs3 h _ _ => ?_)
  refine lv_iconst (v := 4) hx hb dW_79 (by decide) ?_
  refine ln_below Y h _ (n := 4) (by decide) (by decide) rfl ⟨Nat.le_of_ble_eq_true rfl, Nat.le_of_ble_eq_true rfl⟩ hcs hl.1 (rest := [.int (nI j1), .ref (ad 2 16 0)]) (Nat.le_of_ble_eq_true rfl) dW_80 (fun j2 H4 locs4 hj2 h _ _ => ?_)
  refine lv_iconst (v := 1) hx hb dW_83 (by decide) ?_
  refine lv_aload_n hx hb dW_84 rfl (lv_at hl 3 rfl) ?_
  refine lv_iload_n hx hb dW_85 rfl (lv_at hl 0 rfl) ?_
  refine lv_iconst (v := 3) hx hb dW_86 (by decide) ?_
  refine lv_iadd hx hb dW_87 ?_
  rw [show nI k + (3 : Int32) = nI (k + 3) from nI_add k 3]
  refine ln_cell Y h (by omega) ⟨Nat.le_of_ble_eq_true rfl, Nat.le_of_ble_eq_true rfl⟩ hcs hl.1 (rest := [.int 1, .int (nI j2), .int (nI j1), .ref (ad 2 16 0)]) (Nat.le_of_ble_eq_true rfl) dW_88 (fun r3 H5 locs5 h _ _ => ?_)
  refine lv_bipush (v := 9) hx hb dW_91 (by decide) ?_
  refine ln_below Y h _ (n := 9) (by decide) (by decide) rfl ⟨Nat.le_of_ble_eq_true rfl, Nat.le_of_ble_eq_true rfl⟩ hcs hl.1 (rest := [.int 1, .int (nI j2), .int (nI j1), .ref (ad 2 16 0)]) (Nat.le_of_ble_eq_true rfl) dW_93 (fun j3 H6 locs6 hj3 h _ _ => ?_)
  refine lv_iadd hx hb dW_96 ?_
  rw [show (1 : Int32) + nI j3 = nI (1 + j3) from nI_add 1 j3]
  obtain ⟨G1, e1, hP1, hq1⟩ := sp_all (x := j1) (y := j2) (z := 1 + j3) V0 hP (by omega) (by omega) (by omega) (by omega) (by omega)
  refine ln_cV Y h vw_X6_spec qw_635 (c_X6_spec e1) ⟨rfl, rfl⟩ ⟨Nat.le_of_ble_eq_true rfl, Nat.le_of_ble_eq_true rfl⟩ hcs (As := [.int (nI j1), .int (nI j2), .int (nI (1 + j3))]) rfl hl.1 (rest := []) rfl (Nat.le_of_ble_eq_true rfl) dW_97 (fun H7 locs7 h _ _ => ?_)
  refine lv_iload_n hx hb dW_100 rfl (lv_at hl 0 rfl) ?_
  refine lv_icmp_eq (tgt := 106) hx hb dW_101 (by decide) (fun _ => ?_) (fun c1 => absurd rfl c1)
  refine lv_iconst (v := 0) hx hb dW_106 (by decide) ?_
  refine lv_istore (lv' := [(4, .int (nI 0)), (3, .int (nI k)), (1, .ref (ad 2 16 0)), (2, .int (nI M)), (0, .ref b)]) hx hb dW_107 hl (by decide) rfl (fun ls hl => ?_)
  refine lw_109 Y h1 h4 hk hc hs (fun G2 H8 locs8 ls8 h8 hP8 hl8 => ?_) 3 0 G1 H7 locs7 ls (by omega) h hP1 hq1 hl
  refine lv_iinc (k := 0) (v := nI (k + 1)) (lv' := [(3, .int (nI (k + 1))), (1, .ref (ad 2 16 0)), (2, .int (nI M)), (0, .ref b)]) hx hb dW_204 hl8 rfl (nI_1 k) (by decide) rfl (fun ls hl => ?_)
  refine lv_goto (tgt := 55) hx hb dW_207 (by decide) ?_
  exact kk G2 H8 locs8 ls h8 hP8 hl
set_option maxRecDepth 20000 in
set_option maxHeartbeats 4000000 in
theorem lw_22 (Y : lawY p s m meth c D ad cI cZ cP A b L xs nz) (h1 : 1 ≤ M) (h4 : M ≤ 3) (d : Nat) : ∀ (k : Nat) (G : MT) (H : Heap) (locs : List Loc) (ls : Array Slot), k + d = M → lawS s D ad cI cZ cP nz G V0 V0 H locs → gP k 0 G → lv_has ls 6 [(3, .int (nI k)), (1, .ref (ad 2 16 0)), (2, .int (nI M)), (0, .ref b)] → W p l e room_1 s m #[Value.ref b] below meth c H locs (460 + 170 * k) (5587 + 640 * k) (lw_Z below #[Value.ref b] s) (F0 m 22 ls []) := by
  obtain ⟨hx, hb, hml, hown, htm, hr, hlk, hE⟩ := Y.1
  induction d with
  | zero =>
    intro k G H locs ls hkd h hP hl
    have hkM : k = M := by omega
    subst hkM
    refine lv_iload_n hx hb dW_22 rfl (lv_at hl 0 rfl) ?_
    refine lv_iload_n hx hb dW_23 rfl (lv_at hl 2 rfl) ?_
    refine lv_icmp_ge (tgt := 53) hx hb dW_24 (by decide) (fun _ => ?_) (fun c1 => absurd (nI_le (Nat.le_refl _) (by omega)) c1)
    refine lv_iconst (v := 0) hx hb dW_53 (by decide) ?_
    refine lv_istore_n (lv' := [(3, .int (nI 0)), (1, .ref (ad 2 16 0)), (2, .int (nI k)), (0, .ref b)]) hx hb dW_54 rfl hl (by decide) rfl (fun ls hl => ?_)
    refine W.widen (k := 999) (n := 8976) (by omega) (by omega) ?_
    refine lw_55 (k := 0) Y h hP h1 h4 (by decide) (by decide) (by decide) hl (fun G1 H1 locs1 ls1 a1 a2 a3 => ?_)
    refine lw_55 (k := 1) Y a1 a2 h1 h4 (by decide) (by decide) (by decide) a3 (fun G2 H2 locs2 ls2 b1 b2 b3 => ?_)
    refine lv_iload_n hx hb dW_55 rfl (lv_at b3 0 rfl) ?_
    refine lv_iconst (v := 2) hx hb dW_56 (by decide) ?_
    refine lv_icmp_ge (tgt := 210) hx hb dW_57 (by decide) (fun _ => ?_) (fun c1 => absurd (nI_le (a := 2) (b := 1 + 1) (by decide) (by decide)) c1)
    exact lw_210 Y b1 b2 h1 h4 (lv_sub b3 [1, 2, 3] rfl)
  | succ d ih =>
    intro k G H locs ls hkd h hP hl
    have hcs := hw_c (cells := 460 + 170 * k) (slots := 5587 + 640 * k) (by omega) (by omega)
    refine lv_iload_n hx hb dW_22 rfl (lv_at hl 0 rfl) ?_
    refine lv_iload_n hx hb dW_23 rfl (lv_at hl 2 rfl) ?_
    refine lv_icmp_ge (tgt := 53) hx hb dW_24 (by decide) (fun c1 => absurd c1 (nI_ge (show k < M by omega) (by omega))) (fun _ => ?_)
    refine lv_aload_n hx hb dW_27 rfl (lv_at hl 1 rfl) ?_
    obtain ⟨G1, e1, hP1, hz1⟩ := md_all V0 hP (show k < 4 by omega)
    refine ln_cV Y h vw_X6_module qw_630 (c_X6_module e1) ⟨rfl, rfl⟩ ⟨Nat.le_of_ble_eq_true rfl, Nat.le_of_ble_eq_true rfl⟩ hcs (As := []) rfl hl.1 (rest := []) rfl (Nat.le_of_ble_eq_true rfl) dW_28 (fun H1 locs1 h _ _ => ?_)
    refine lv_iload_n hx hb dW_31 rfl (lv_at hl 0 rfl) ?_
    refine lv_icmp_ne (tgt := 45) hx hb dW_32 (by decide) (fun c1 => absurd rfl c1) (fun _ => ?_)
    refine lv_aload_n hx hb dW_35 rfl (lv_at hl 1 rfl) ?_
    refine lv_aload_n hx hb dW_36 rfl (lv_at hl 3 rfl) ?_
    refine lv_iload_n hx hb dW_37 rfl (lv_at hl 0 rfl) ?_
    refine lv_iload_n hx hb dW_38 rfl (lv_at hl 2 rfl) ?_
    refine ln_write Y h h1 h4 (show k < 4 by omega) ⟨hP1, hz1⟩ ⟨Nat.le_of_ble_eq_true rfl, Nat.le_of_ble_eq_true rfl⟩ ⟨by show 460 + 170 * k + 170 ≤ 728327; omega, by show 5587 + 640 * k + 640 ≤ 6916643; omega⟩ hl.1 dW_39 (fun H2 locs2 G2 h hP2 => ?_)
    refine lv_if_ne (tgt := 47) hx hb dW_42 (by decide) (fun _ => ?_) (fun c1 => absurd c1 (by decide))
    refine lv_iinc (k := 0) (v := nI (k + 1)) (lv' := [(3, .int (nI (k + 1))), (1, .ref (ad 2 16 0)), (2, .int (nI M)), (0, .ref b)]) hx hb dW_47 hl rfl (nI_1 k) (by decide) rfl (fun ls hl => ?_)
    refine lv_goto (tgt := 22) hx hb dW_50 (by decide) ?_
    exact ih (k + 1) G2 H2 locs2 ls (by omega) h hP2 hl
end
