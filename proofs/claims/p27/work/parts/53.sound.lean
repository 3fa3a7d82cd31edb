theorem sw_L_isSound : SW RL yL_isSound cL_isSound 8 (some .boolean) 2 := ⟨qw_644, qw_579, qw_625, ⟨rfl, by decide, by decide, by decide +kernel⟩⟩
def f_L_isSound_366 (G V U : MT) : Nat → RT → RT → Option (Int32 × RT)
  | 0, _, _ => none
  | n + 1, R, T => if ¬ ((0 : Int32) < 0 ∨ 3 ≤ Int32.toNatClampNeg 0) then ((f_X6_many G V U 3).bind (fun q4_ => if T (Int32.toNatClampNeg 0) = q4_ then (if ¬ ((1 : Int32) < 0 ∨ 3 ≤ Int32.toNatClampNeg 1) then ((f_X6_many G V U 4).bind (fun q7_ => if T (Int32.toNatClampNeg 1) = q7_ then (if ¬ ((2 : Int32) < 0 ∨ 3 ≤ Int32.toNatClampNeg 2) then ((f_X6_many G V U 5).bind (fun q10_ => if T (Int32.toNatClampNeg 2) = q10_ then (some (1, R)) else (some (0, R)))) else none) else (some (0, R)))) else none) else (some (0, R)))) else none
def f_L_isSound_328 (G V U : MT) : Nat → Int32 → RT → RT → Option (Int32 × RT)
  | 0, _, _, _ => none
  | n + 1, y4, R, T => if 4 ≤ y4 then (f_L_isSound_366 G V U  30 R T) else ((f_X6_named G V U y4).bind (fun q12_ => if q12_ < 0 then ((f_L_isSound_328 G V U n) (y4 + 1) R T) else ((f_X6_named G V U y4).bind (fun q14_ => (f_X6_ofProcess G V U q14_ 2).bind (fun q15_ => if q15_ = 2 then (some (0, R)) else ((f_L_isSound_328 G V U n) (y4 + 1) R T))))))
def f_L_isSound_319 (G V U : MT) (k13 : Int32 → Int32 → RT → RT → Option (Int32 × RT)) : Nat → Int32 → Int32 → RT → RT → Option (Int32 × RT)
  | 0, _, _, _, _ => none
  | n + 1, y2, y4, R, T => k13 y2 (y4 + 1) R T
def f_L_isSound_294 (G V U : MT) (k13 : Int32 → Int32 → RT → RT → Option (Int32 × RT)) : Nat → Int32 → Int32 → Int32 → RT → RT → Option (Int32 × RT)
  | 0, _, _, _, _, _ => none
  | n + 1, y2, y4, y5, R, T => if 2 ≤ y5 then (f_L_isSound_319 G V U k13 30 y2 y4 R T) else ((f_X6_ofProcess G V U y4 11).bind (fun q37_ => (f_L_isKnown G V U y4 q37_).bind (fun q38_ => if q38_ = 0 then (some (0, R)) else (f_L_isSound_319 G V U k13 30 y2 y4 R T))))
def f_L_isSound_229 (G V U : MT) (k13 : Int32 → Int32 → RT → RT → Option (Int32 × RT)) : Nat → Int32 → Int32 → Int32 → Int32 → RT → RT → Option (Int32 × RT)
  | 0, _, _, _, _, _, _ => none
  | n + 1, y2, y4, y5, y7, R, T => if y2 ≤ y7 then (f_L_isSound_294 G V U k13 30 y2 y4 y5 R T) else ((f_X6_ofProcess G V U y4 9).bind (fun q40_ => if (q40_ >>> (y7 &&& 31)) &&& 1 = 1 then (if y7 = y4 then (some (0, R)) else ((f_X6_ofProcess G V U y7 9).bind (fun q43_ => if (q43_ >>> (y4 &&& 31)) &&& 1 = 0 then (some (0, R)) else ((f_X6_ofProcess G V U y7 2).bind (fun q45_ => if q45_ = 2 then (some (0, R)) else ((f_L_isSound_229 G V U k13 n) y2 y4 y5 (y7 + 1) R T)))))) else ((f_L_isSound_229 G V U k13 n) y2 y4 y5 (y7 + 1) R T)))
def f_L_isSound_226 (G V U : MT) (k13 : Int32 → Int32 → RT → RT → Option (Int32 × RT)) : Nat → Int32 → Int32 → Int32 → RT → RT → Option (Int32 × RT)
  | 0, _, _, _, _, _ => none
  | n + 1, y2, y4, y5, R, T => f_L_isSound_229 G V U k13 30 y2 y4 y5 0 R T
def f_L_isSound_181 (G V U : MT) (k13 : Int32 → Int32 → RT → RT → Option (Int32 × RT)) : Nat → Int32 → Int32 → Int32 → Int32 → RT → RT → Option (Int32 × RT)
  | 0, _, _, _, _, _, _ => none
  | n + 1, y2, y4, y5, y6, R, T => if y6 = 0 then (if y6 = 0 then (if y5 = 0 then (some (0, R)) else (f_L_isSound_226 G V U k13 30 y2 y4 y5 R T)) else (f_L_isSound_226 G V U k13 30 y2 y4 y5 R T)) else (if y5 = 0 then ((f_X6_ofProcess G V U y4 4).bind (fun q55_ => if q55_ < 0 then (some (0, R)) else (if y6 = 0 then (if y5 = 0 then (some (0, R)) else (f_L_isSound_226 G V U k13 30 y2 y4 y5 R T)) else (f_L_isSound_226 G V U k13 30 y2 y4 y5 R T)))) else ((f_X6_ofProcess G V U y4 4).bind (fun q49_ => if q49_ < 0 then (if y6 = 0 then (if y5 = 0 then (some (0, R)) else (f_L_isSound_226 G V U k13 30 y2 y4 y5 R T)) else (f_L_isSound_226 G V U k13 30 y2 y4 y5 R T)) else (some (0, R)))))
def f_L_isSound_164 (G V U : MT) (k13 : Int32 → Int32 → RT → RT → Option (Int32 × RT)) : Nat → Int32 → Int32 → Int32 → RT → RT → Option (Int32 × RT)
  | 0, _, _, _, _, _ => none
  | n + 1, y2, y4, y5, R, T => (f_X6_ofProcess G V U y4 0).bind (fun q31_ => if q31_ < 0 then (f_L_isSound_181 G V U k13 30 y2 y4 y5 0 R T) else (f_L_isSound_181 G V U k13 30 y2 y4 y5 1 R T))
def f_L_isSound_112 (G V U : MT) (k13 : Int32 → Int32 → RT → RT → Option (Int32 × RT)) : Nat → Int32 → Int32 → Int32 → RT → RT → Option (Int32 × RT)
  | 0, _, _, _, _, _ => none
  | n + 1, y2, y4, y5, R, T => if y5 = 2 then ((f_X6_ofProcess G V U y4 8).bind (fun q61_ => if q61_ = 0 then ((f_X6_ofProcess G V U y4 9).bind (fun q63_ => if q63_ = 0 then ((f_X6_ofProcess G V U y4 4).bind (fun q65_ => if q65_ = (-1) then ((f_X6_ofProcess G V U y4 12).bind (fun q67_ => if q67_ = 0 then (f_L_isSound_164 G V U k13 30 y2 y4 y5 R T) else (some (0, R)))) else (some (0, R)))) else (some (0, R)))) else (some (0, R)))) else (f_L_isSound_164 G V U k13 30 y2 y4 y5 R T)
def f_L_isSound_101 (G V U : MT) (k13 : Int32 → Int32 → RT → RT → Option (Int32 × RT)) : Nat → Int32 → Int32 → Int32 → RT → RT → Option (Int32 × RT)
  | 0, _, _, _, _, _ => none
  | n + 1, y2, y4, y5, R, T => (f_X6_ofProcess G V U y4 3).bind (fun q28_ => if ¬ (y4 < 0 ∨ 24 ≤ Int32.toNatClampNeg y4) then (f_L_isSound_112 G V U k13 30 y2 y4 y5 (upd R (Int32.toNatClampNeg y4) q28_) T) else none)
def f_L_isSound_13 (G V U : MT) : Nat → Int32 → Int32 → RT → RT → Option (Int32 × RT)
  | 0, _, _, _, _ => none
  | n + 1, y2, y4, R, T => if y2 ≤ y4 then (f_L_isSound_328 G V U  30 0 R T) else ((f_X6_ofProcess G V U y4 2).bind (fun q17_ => if ¬ (q17_ < 0 ∨ 3 ≤ Int32.toNatClampNeg q17_) then (if ¬ (q17_ < 0 ∨ 3 ≤ Int32.toNatClampNeg q17_) then ((f_X6_ofProcess G V U y4 8).bind (fun q20_ => if 8 < q20_ then (some (0, R)) else ((f_X6_ofProcess G V U y4 3).bind (fun q22_ => if q22_ < 0 then (if q17_ = 2 then (some (0, R)) else (if ¬ (y4 < 0 ∨ 24 ≤ Int32.toNatClampNeg y4) then (if R (Int32.toNatClampNeg y4) < 0 then (f_L_isSound_101 G V U (f_L_isSound_13 G V U n) 30 y2 y4 q17_ R (upd T (Int32.toNatClampNeg q17_) ((T (Int32.toNatClampNeg q17_)) + 1))) else ((f_X6_ofProcess G V U y4 3).bind (fun q69_ => if ¬ (y4 < 0 ∨ 24 ≤ Int32.toNatClampNeg y4) then (if q69_ = R (Int32.toNatClampNeg y4) then (f_L_isSound_101 G V U (f_L_isSound_13 G V U n) 30 y2 y4 q17_ R (upd T (Int32.toNatClampNeg q17_) ((T (Int32.toNatClampNeg q17_)) + 1))) else (some (0, R))) else none))) else none)) else (if q17_ = 2 then (if ¬ (y4 < 0 ∨ 24 ≤ Int32.toNatClampNeg y4) then (if R (Int32.toNatClampNeg y4) < 0 then (f_L_isSound_101 G V U (f_L_isSound_13 G V U n) 30 y2 y4 q17_ R (upd T (Int32.toNatClampNeg q17_) ((T (Int32.toNatClampNeg q17_)) + 1))) else ((f_X6_ofProcess G V U y4 3).bind (fun q78_ => if ¬ (y4 < 0 ∨ 24 ≤ Int32.toNatClampNeg y4) then (if q78_ = R (Int32.toNatClampNeg y4) then (f_L_isSound_101 G V U (f_L_isSound_13 G V U n) 30 y2 y4 q17_ R (upd T (Int32.toNatClampNeg q17_) ((T (Int32.toNatClampNeg q17_)) + 1))) else (some (0, R))) else none))) else none) else (some (0, R))))))) else none) else none))
def rm_L_isSound : Room := { frames := 4, cells := 1, slots := 3, locals := 92 }
set_option maxRecDepth 20000 in
set_option maxHeartbeats 4000000 in
theorem l_L_isSound_366 {p : Program} {l : Launch} {e : Env} {s : State} {m : MethodId} {args : Array Value} {below : List Frame} {meth : Method} {c : Code} {D : va_G} {ad : Nat → Nat → Nat → Nat} {cI cZ cP : ClassId} {A Ar B : Nat → Prop} {ra ta : Nat} {G V U : MT} {r : Int32} {R' : RT} (X : MX p s m args meth c cL_isSound RL 8 (some .boolean) D ad cI cZ cP Ar) (Y : SY ad A Ar B s ra ta) (n : Nat) : ∀ {H : Heap} {locs : List Loc} {ls : Array Slot}  (R T : RT), LH D ad cI cZ cP ra ta G V U R T H → va_S B s.heap H locs → lv_has ls 8 [(0, .ref (ad 2 16 0)), (3, .ref ta)] → f_L_isSound_366 G V U n R T = some (r, R') → W p l e rm_L_isSound s m args below meth c H locs 1 3 (MQ below (QcI B r (SHp D ad cI cZ cP ra G V U R')) args s 1 3 B) (F0 m 366 ls []) := by
  obtain ⟨hx, hb, hml, hown, htm, hr, hlk, hE⟩ := id X
  obtain ⟨hLA, hAr, hAB, hBs, hra, hta, hrt, hBr, hBt⟩ := id Y
  induction n with
  | zero =>
    intros
    exact ns_S (by assumption)
  | succ n ih366 =>
    intro H locs ls R T   hP hS hl hF
    rw [f_L_isSound_366] at hF
    refine lv_aload_n hx hb dL_isSound_366 rfl (lv_at hl 1 rfl) ?_
    refine lv_iconst (v := 0) hx hb dL_isSound_367 (by decide) ?_
    obtain ⟨hn3, hF⟩ := ite_S hF
    refine la_ld hx hb hE hP.2.2 hn3 dL_isSound_368 ?_
    refine lv_aload_n hx hb dL_isSound_369 rfl (lv_at hl 0 rfl) ?_
    refine lv_iconst (v := 3) hx hb dL_isSound_370 (by decide) ?_
    obtain ⟨r4, hc4, hF⟩ := ob_S hF
    refine n_cVi X hLA hAr hAB hBs hS vw_X6_many qw_588 (c_X6_many hc4) ⟨rfl, rfl⟩ ⟨Nat.le_of_ble_eq_true rfl, Nat.le_of_ble_eq_true rfl⟩ ⟨Nat.le_refl _, Nat.le_refl _⟩ (rc_16 hE hP.1) hP.1 rfl hl.1 (rest := [.int (T (Int32.toNatClampNeg 0))]) rfl (Nat.le_of_ble_eq_true rfl) dL_isSound_371 (fun H1 locs hP1 hK hZ hS => ?_)
    have hP := LH.go hra hta hP hP1 hK
    refine lv_icmp_ne (tgt := 403) hx hb dL_isSound_374 (by decide) (fun c5 => ?_) (fun c5 => ?_)
    · have hF := ite_F c5 hF
      refine lv_iconst (v := 0) hx hb dL_isSound_403 (by decide) ?_
      obtain ⟨e1, e2⟩ := Prod.mk.inj (Option.some.inj hF)
      subst e1
      subst e2
      exact l_zret X hS (P := SHp D ad cI cZ cP ra G V U _) ⟨hP.1, hP.2.1⟩ rfl (Or.inl rfl) dL_isSound_404
    · have hF := ite_T c5 hF
      refine lv_aload_n hx hb dL_isSound_377 rfl (lv_at hl 1 rfl) ?_
      refine lv_iconst (v := 1) hx hb dL_isSound_378 (by decide) ?_
      obtain ⟨hn6, hF⟩ := ite_S hF
      refine la_ld hx hb hE hP.2.2 hn6 dL_isSound_379 ?_
      refine lv_aload_n hx hb dL_isSound_380 rfl (lv_at hl 0 rfl) ?_
      refine lv_iconst (v := 4) hx hb dL_isSound_381 (by decide) ?_
      obtain ⟨r7, hc7, hF⟩ := ob_S hF
      refine n_cVi X hLA hAr hAB hBs hS vw_X6_many qw_588 (c_X6_many hc7) ⟨rfl, rfl⟩ ⟨Nat.le_of_ble_eq_true rfl, Nat.le_of_ble_eq_true rfl⟩ ⟨Nat.le_refl _, Nat.le_refl _⟩ (rc_16 hE hP.1) hP.1 rfl hl.1 (rest := [.int (T (Int32.toNatClampNeg 1))]) rfl (Nat.le_of_ble_eq_true rfl) dL_isSound_382 (fun H1 locs hP1 hK hZ hS => ?_)
      have hP := LH.go hra hta hP hP1 hK
      refine lv_icmp_ne (tgt := 403) hx hb dL_isSound_385 (by decide) (fun c8 => ?_) (fun c8 => ?_)
      · have hF := ite_F c8 hF
        refine lv_iconst (v := 0) hx hb dL_isSound_403 (by decide) ?_
        obtain ⟨e1, e2⟩ := Prod.mk.inj (Option.some.inj hF)
        subst e1
        subst e2
        exact l_zret X hS (P := SHp D ad cI cZ cP ra G V U _) ⟨hP.1, hP.2.1⟩ rfl (Or.inl rfl) dL_isSound_404
      · have hF := ite_T c8 hF
        refine lv_aload_n hx hb dL_isSound_388 rfl (lv_at hl 1 rfl) ?_
        refine lv_iconst (v := 2) hx hb dL_isSound_389 (by decide) ?_
        obtain ⟨hn9, hF⟩ := ite_S hF
        refine la_ld hx hb hE hP.2.2 hn9 dL_isSound_390 ?_
        refine lv_aload_n hx hb dL_isSound_391 rfl (lv_at hl 0 rfl) ?_
        refine lv_iconst (v := 5) hx hb dL_isSound_392 (by decide) ?_
        obtain ⟨r10, hc10, hF⟩ := ob_S hF
        refine n_cVi X hLA hAr hAB hBs hS vw_X6_many qw_588 (c_X6_many hc10) ⟨rfl, rfl⟩ ⟨Nat.le_of_ble_eq_true rfl, Nat.le_of_ble_eq_true rfl⟩ ⟨Nat.le_refl _, Nat.le_refl _⟩ (rc_16 hE hP.1) hP.1 rfl hl.1 (rest := [.int (T (Int32.toNatClampNeg 2))]) rfl (Nat.le_of_ble_eq_true rfl) dL_isSound_393 (fun H1 locs hP1 hK hZ hS => ?_)
        have hP := LH.go hra hta hP hP1 hK
        refine lv_icmp_ne (tgt := 403) hx hb dL_isSound_396 (by decide) (fun c11 => ?_) (fun c11 => ?_)
        · have hF := ite_F c11 hF
          refine lv_iconst (v := 0) hx hb dL_isSound_403 (by decide) ?_
          obtain ⟨e1, e2⟩ := Prod.mk.inj (Option.some.inj hF)
          subst e1
          subst e2
          exact l_zret X hS (P := SHp D ad cI cZ cP ra G V U _) ⟨hP.1, hP.2.1⟩ rfl (Or.inl rfl) dL_isSound_404
        · have hF := ite_T c11 hF
          refine lv_iconst (v := 1) hx hb dL_isSound_399 (by decide) ?_
          refine lv_goto (tgt := 404) hx hb dL_isSound_400 (by decide) ?_
          obtain ⟨e1, e2⟩ := Prod.mk.inj (Option.some.inj hF)
          subst e1
          subst e2
          exact l_zret X hS (P := SHp D ad cI cZ cP ra G V U _) ⟨hP.1, hP.2.1⟩ rfl (Or.inr rfl) dL_isSound_404
set_option maxRecDepth 20000 in
set_option maxHeartbeats 4000000 in
theorem l_L_isSound_328 {p : Program} {l : Launch} {e : Env} {s : State} {m : MethodId} {args : Array Value} {below : List Frame} {meth : Method} {c : Code} {D : va_G} {ad : Nat → Nat → Nat → Nat} {cI cZ cP : ClassId} {A Ar B : Nat → Prop} {ra ta : Nat} {G V U : MT} {r : Int32} {R' : RT} (X : MX p s m args meth c cL_isSound RL 8 (some .boolean) D ad cI cZ cP Ar) (Y : SY ad A Ar B s ra ta) (n : Nat) : ∀ {H : Heap} {locs : List Loc} {ls : Array Slot} (y4 : Int32) (R T : RT), LH D ad cI cZ cP ra ta G V U R T H → va_S B s.heap H locs → lv_has ls 8 [(0, .ref (ad 2 16 0)), (3, .ref ta), (4, .int y4)] → f_L_isSound_328 G V U n y4 R T = some (r, R') → W p l e rm_L_isSound s m args below meth c H locs 1 3 (MQ below (QcI B r (SHp D ad cI cZ cP ra G V U R')) args s 1 3 B) (F0 m 328 ls []) := by
  obtain ⟨hx, hb, hml, hown, htm, hr, hlk, hE⟩ := id X
  obtain ⟨hLA, hAr, hAB, hBs, hra, hta, hrt, hBr, hBt⟩ := id Y
  induction n with
  | zero =>
    intros
    exact ns_S (by assumption)
  | succ n ih328 =>
    intro H locs ls y4 R T   hP hS hl hF
    rw [f_L_isSound_328] at hF
    refine lv_iload hx hb dL_isSound_328 (lv_at hl 2 rfl) ?_
    refine lv_iconst (v := 4) hx hb dL_isSound_330 (by decide) ?_
    refine lv_icmp_ge (tgt := 366) hx hb dL_isSound_331 (by decide) (fun c2 => ?_) (fun c2 => ?_)
    · have hF := ite_T c2 hF
      exact l_L_isSound_366 X Y  30 _ _ hP hS (lv_sub hl [0, 1] rfl) hF
    · have hF := ite_F c2 hF
      refine lv_aload_n hx hb dL_isSound_334 rfl (lv_at hl 0 rfl) ?_
      refine lv_iload hx hb dL_isSound_335 (lv_at hl 2 rfl) ?_
      obtain ⟨r12, hc12, hF⟩ := ob_S hF
      refine n_cVi X hLA hAr hAB hBs hS vw_X6_named qw_624 (c_X6_named hc12) ⟨rfl, rfl⟩ ⟨Nat.le_of_ble_eq_true rfl, Nat.le_of_ble_eq_true rfl⟩ ⟨Nat.le_refl _, Nat.le_refl _⟩ (rc_16 hE hP.1) hP.1 rfl hl.1 (rest := []) rfl (Nat.le_of_ble_eq_true rfl) dL_isSound_337 (fun H1 locs hP1 hK hZ hS => ?_)
      have hP := LH.go hra hta hP hP1 hK
      refine lv_if_lt (tgt := 360) hx hb dL_isSound_340 (by decide) (fun c13 => ?_) (fun c13 => ?_)
      · have hF := ite_T c13 hF
        refine lv_iinc (v := y4 + 1) (lv' := [(4, .int (y4 + 1)), (0, .ref (ad 2 16 0)), (3, .ref ta)]) hx hb dL_isSound_360 hl (k := 2) rfl rfl (by decide) rfl (fun ls hl => ?_)
        refine lv_goto (tgt := 328) hx hb dL_isSound_363 (by decide) ?_
        exact ih328 _ _ _  hP hS (lv_sub hl [1, 2, 0] rfl) hF
      · have hF := ite_F c13 hF
        refine lv_aload_n hx hb dL_isSound_343 rfl (lv_at hl 0 rfl) ?_
        refine lv_aload_n hx hb dL_isSound_344 rfl (lv_at hl 0 rfl) ?_
        refine lv_iload hx hb dL_isSound_345 (lv_at hl 2 rfl) ?_
        obtain ⟨r14, hc14, hF⟩ := ob_S hF
        refine n_cVi X hLA hAr hAB hBs hS vw_X6_named qw_624 (c_X6_named hc14) ⟨rfl, rfl⟩ ⟨Nat.le_of_ble_eq_true rfl, Nat.le_of_ble_eq_true rfl⟩ ⟨Nat.le_refl _, Nat.le_refl _⟩ (rc_16 hE hP.1) hP.1 rfl hl.1 (rest := [.ref (ad 2 16 0)]) rfl (Nat.le_of_ble_eq_true rfl) dL_isSound_347 (fun H1 locs hP1 hK hZ hS => ?_)
        have hP := LH.go hra hta hP hP1 hK
        refine lv_iconst (v := 2) hx hb dL_isSound_350 (by decide) ?_
        obtain ⟨r15, hc15, hF⟩ := ob_S hF
        refine n_cVi X hLA hAr hAB hBs hS vw_X6_ofProcess qw_586 (c_X6_ofProcess hc15) ⟨rfl, rfl⟩ ⟨Nat.le_of_ble_eq_true rfl, Nat.le_of_ble_eq_true rfl⟩ ⟨Nat.le_refl _, Nat.le_refl _⟩ (rc_16 hE hP.1) hP.1 rfl hl.1 (rest := []) rfl (Nat.le_of_ble_eq_true rfl) dL_isSound_351 (fun H1 locs hP1 hK hZ hS => ?_)
        have hP := LH.go hra hta hP hP1 hK
        refine lv_iconst (v := 2) hx hb dL_isSound_354 (by decide) ?_
        refine lv_icmp_ne (tgt := 360) hx hb dL_isSound_355 (by decide) (fun c16 => ?_) (fun c16 => ?_)
        · have hF := ite_F c16 hF
          refine lv_iinc (v := y4 + 1) (lv' := [(4, .int (y4 + 1)), (0, .ref (ad 2 16 0)), (3, .ref ta)]) hx hb dL_isSound_360 hl (k := 2) rfl rfl (by decide) rfl (fun ls hl => ?_)
          refine lv_goto (tgt := 328) hx hb dL_isSound_363 (by decide) ?_
          exact ih328 _ _ _  hP hS (lv_sub hl [1, 2, 0] rfl) hF
        · have hF := ite_T c16 hF
          refine lv_iconst (v := 0) hx hb dL_isSound_358 (by decide) ?_
          obtain ⟨e1, e2⟩ := Prod.mk.inj (Option.some.inj hF)
          subst e1
          subst e2
          exact l_zret X hS (P := SHp D ad cI cZ cP ra G V U _) ⟨hP.1, hP.2.1⟩ rfl (Or.inl rfl) dL_isSound_359
set_option maxRecDepth 20000 in
set_option maxHeartbeats 4000000 in
theorem l_L_isSound_319 {p : Program} {l : Launch} {e : Env} {s : State} {m : MethodId} {args : Array Value} {below : List Frame} {meth : Method} {c : Code} {D : va_G} {ad : Nat → Nat → Nat → Nat} {cI cZ cP : ClassId} {A Ar B : Nat → Prop} {ra ta : Nat} {G V U : MT} {r : Int32} {R' : RT} (X : MX p s m args meth c cL_isSound RL 8 (some .boolean) D ad cI cZ cP Ar) (Y : SY ad A Ar B s ra ta) (k13 : Int32 → Int32 → RT → RT → Option (Int32 × RT)) (ih13 : ∀ {H : Heap} {locs : List Loc} {ls : Array Slot} (y2 : Int32) (y4 : Int32) (R T : RT), LH D ad cI cZ cP ra ta G V U R T H → va_S B s.heap H locs → lv_has ls 8 [(0, .ref (ad 2 16 0)), (1, .ref ra), (2, .int y2), (3, .ref ta), (4, .int y4)] → k13 y2 y4 R T = some (r, R') → W p l e rm_L_isSound s m args below meth c H locs 1 3 (MQ below (QcI B r (SHp D ad cI cZ cP ra G V U R')) args s 1 3 B) (F0 m 13 ls [])) (n : Nat) : ∀ {H : Heap} {locs : List Loc} {ls : Array Slot} (y2 : Int32) (y4 : Int32) (R T : RT), LH D ad cI cZ cP ra ta G V U R T H → va_S B s.heap H locs → lv_has ls 8 [(0, .ref (ad 2 16 0)), (1, .ref ra), (2, .int y2), (3, .ref ta), (4, .int y4)] → f_L_isSound_319 G V U k13 n y2 y4 R T = some (r, R') → W p l e rm_L_isSound s m args below meth c H locs 1 3 (MQ below (QcI B r (SHp D ad cI cZ cP ra G V U R')) args s 1 3 B) (F0 m 319 ls []) := by
  obtain ⟨hx, hb, hml, hown, htm, hr, hlk, hE⟩ := id X
  obtain ⟨hLA, hAr, hAB, hBs, hra, hta, hrt, hBr, hBt⟩ := id Y
  induction n with
  | zero =>
    intros
    exact ns_S (by assumption)
  | succ n ih319 =>
    intro H locs ls y2 y4 R T   hP hS hl hF
    rw [f_L_isSound_319] at hF
    refine lv_iinc (v := y4 + 1) (lv' := [(4, .int (y4 + 1)), (0, .ref (ad 2 16 0)), (1, .ref ra), (2, .int y2), (3, .ref ta)]) hx hb dL_isSound_319 hl (k := 4) rfl rfl (by decide) rfl (fun ls hl => ?_)
    refine lv_goto (tgt := 13) hx hb dL_isSound_322 (by decide) ?_
    exact ih13 _ _ _ _  hP hS (lv_sub hl [1, 2, 3, 4, 0] rfl) hF
set_option maxRecDepth 20000 in
set_option maxHeartbeats 4000000 in
theorem l_L_isSound_294 {p : Program} {l : Launch} {e : Env} {s : State} {m : MethodId} {args : Array Value} {below : List Frame} {meth : Method} {c : Code} {D : va_G} {ad : Nat → Nat → Nat → Nat} {cI cZ cP : ClassId} {A Ar B : Nat → Prop} {ra ta : Nat} {G V U : MT} {r : Int32} {R' : RT} (X : MX p s m args meth c cL_isSound RL 8 (some .boolean) D ad cI cZ cP Ar) (Y : SY ad A Ar B s ra ta) (k13 : Int32 → Int32 → RT → RT → Option (Int32 × RT)) (ih13 : ∀ {H : Heap} {locs : List Loc} {ls : Array Slot} (y2 : Int32) (y4 : Int32) (R T : RT), LH D ad cI cZ cP ra ta G V U R T H → va_S B s.heap H locs → lv_has ls 8 [(0, .ref (ad 2 16 0)), (1, .ref ra), (2, .int y2), (3, .ref ta), (4, .int y4)] → k13 y2 y4 R T = some (r, R') → W p l e rm_L_isSound s m args below meth c H locs 1 3 (MQ below (QcI B r (SHp D ad cI cZ cP ra G V U R')) args s 1 3 B) (F0 m 13 ls [])) (n : Nat) : ∀ {H : Heap} {locs : List Loc} {ls : Array Slot} (y2 : Int32) (y4 : Int32) (y5 : Int32) (R T : RT), LH D ad cI cZ cP ra ta G V U R T H → va_S B s.heap H locs → lv_has ls 8 [(0, .ref (ad 2 16 0)), (1, .ref ra), (2, .int y2), (3, .ref ta), (4, .int y4), (5, .int y5)] → f_L_isSound_294 G V U k13 n y2 y4 y5 R T = some (r, R') → W p l e rm_L_isSound s m args below meth c H locs 1 3 (MQ below (QcI B r (SHp D ad cI cZ cP ra G V U R')) args s 1 3 B) (F0 m 294 ls []) := by
  obtain ⟨hx, hb, hml, hown, htm, hr, hlk, hE⟩ := id X
  obtain ⟨hLA, hAr, hAB, hBs, hra, hta, hrt, hBr, hBt⟩ := id Y
  induction n with
  | zero =>
    intros
    exact ns_S (by assumption)
  | succ n ih294 =>
    intro H locs ls y2 y4 y5 R T   hP hS hl hF
    rw [f_L_isSound_294] at hF
    refine lv_iload hx hb dL_isSound_294 (lv_at hl 5 rfl) ?_
    refine lv_iconst (v := 2) hx hb dL_isSound_296 (by decide) ?_
    refine lv_icmp_ge (tgt := 319) hx hb dL_isSound_297 (by decide) (fun c36 => ?_) (fun c36 => ?_)
    · have hF := ite_T c36 hF
      exact l_L_isSound_319 X Y k13 ih13 30 _ _ _ _ hP hS (lv_sub hl [0, 1, 2, 3, 4] rfl) hF
    · have hF := ite_F c36 hF
      refine lv_aload_n hx hb dL_isSound_300 rfl (lv_at hl 0 rfl) ?_
      refine lv_iload hx hb dL_isSound_301 (lv_at hl 4 rfl) ?_
      refine lv_aload_n hx hb dL_isSound_303 rfl (lv_at hl 0 rfl) ?_
      refine lv_iload hx hb dL_isSound_304 (lv_at hl 4 rfl) ?_
      refine lv_bipush (v := 11) hx hb dL_isSound_306 (by decide) ?_
      obtain ⟨r37, hc37, hF⟩ := ob_S hF
      refine n_cVi X hLA hAr hAB hBs hS vw_X6_ofProcess qw_586 (c_X6_ofProcess hc37) ⟨rfl, rfl⟩ ⟨Nat.le_of_ble_eq_true rfl, Nat.le_of_ble_eq_true rfl⟩ ⟨Nat.le_refl _, Nat.le_refl _⟩ (rc_16 hE hP.1) hP.1 rfl hl.1 (rest := [.int y4, .ref (ad 2 16 0)]) rfl (Nat.le_of_ble_eq_true rfl) dL_isSound_308 (fun H1 locs hP1 hK hZ hS => ?_)
      have hP := LH.go hra hta hP hP1 hK
      obtain ⟨r38, hc38, hF⟩ := ob_S hF
      refine n_cSi X hLA hAr hAB hBs hS sw_L_isKnown qw_622 (c_L_isKnown hc38) ⟨rfl, rfl⟩ ⟨Nat.le_of_ble_eq_true rfl, Nat.le_of_ble_eq_true rfl⟩ ⟨Nat.le_refl _, Nat.le_refl _⟩ hP.1 rfl hl.1 (rest := []) rfl (Nat.le_of_ble_eq_true rfl) dL_isSound_311 (fun H1 locs hP1 hK hZ hS => ?_)
      have hP := LH.go hra hta hP hP1 hK
      refine lv_if_ne (tgt := 319) hx hb dL_isSound_314 (by decide) (fun c39 => ?_) (fun c39 => ?_)
      · have hF := ite_F c39 hF
        exact l_L_isSound_319 X Y k13 ih13 30 _ _ _ _ hP hS (lv_sub hl [0, 1, 2, 3, 4] rfl) hF
      · have hF := ite_T c39 hF
        refine lv_iconst (v := 0) hx hb dL_isSound_317 (by decide) ?_
        obtain ⟨e1, e2⟩ := Prod.mk.inj (Option.some.inj hF)
        subst e1
        subst e2
        exact l_zret X hS (P := SHp D ad cI cZ cP ra G V U _) ⟨hP.1, hP.2.1⟩ rfl (Or.inl rfl) dL_isSound_318
set_option maxRecDepth 20000 in
set_option maxHeartbeats 4000000 in
theorem l_L_isSound_229 {p : Program} {l : Launch} {e : Env} {s : State} {m : MethodId} {args : Array Value} {below : List Frame} {meth : Method} {c : Code} {D : va_G} {ad : Nat → Nat → Nat → Nat} {cI cZ cP : ClassId} {A Ar B : Nat → Prop} {ra ta : Nat} {G V U : MT} {r : Int32} {R' : RT} (X : MX p s m args meth c cL_isSound RL 8 (some .boolean) D ad cI cZ cP Ar) (Y : SY ad A Ar B s ra ta) (k13 : Int32 → Int32 → RT → RT → Option (Int32 × RT)) (ih13 : ∀ {H : Heap} {locs : List Loc} {ls : Array Slot} (y2 : Int32) (y4 : Int32) (R T : RT), LH D ad cI cZ cP ra ta G V U R T H → va_S B s.heap H locs → lv_has ls 8 [(0, .ref (ad 2 16 0)), (1, .ref ra), (2, .int y2), (3, .ref ta), (4, .int y4)] → k13 y2 y4 R T = some (r, R') → W p l e rm_L_isSound s m args below meth c H locs 1 3 (MQ below (QcI B r (SHp D ad cI cZ cP ra G V U R')) args s 1 3 B) (F0 m 13 ls [])) (n : Nat) : ∀ {H : Heap} {locs : List Loc} {ls : Array Slot} (y2 : Int32) (y4 : Int32) (y5 : Int32) (y7 : Int32) (R T : RT), LH D ad cI cZ cP ra ta G V U R T H → va_S B s.heap H locs → lv_has ls 8 [(0, .ref (ad 2 16 0)), (1, .ref ra), (2, .int y2), (3, .ref ta), (4, .int y4), (5, .int y5), (7, .int y7)] → f_L_isSound_229 G V U k13 n y2 y4 y5 y7 R T = some (r, R') → W p l e rm_L_isSound s m args below meth c H locs 1 3 (MQ below (QcI B r (SHp D ad cI cZ cP ra G V U R')) args s 1 3 B) (F0 m 229 ls []) := by
  obtain ⟨hx, hb, hml, hown, htm, hr, hlk, hE⟩ := id X
  obtain ⟨hLA, hAr, hAB, hBs, hra, hta, hrt, hBr, hBt⟩ := id Y
  induction n with
  | zero =>
    intros
    exact ns_S (by assumption)
  | succ n ih229 =>
    intro H locs ls y2 y4 y5 y7 R T   hP hS hl hF
    rw [f_L_isSound_229] at hF
    refine lv_iload hx hb dL_isSound_229 (lv_at hl 6 rfl) ?_
    refine lv_iload_n hx hb dL_isSound_231 rfl (lv_at hl 2 rfl) ?_
    refine lv_icmp_ge (tgt := 294) hx hb dL_isSound_232 (by decide) (fun c35 => ?_) (fun c35 => ?_)
    · have hF := ite_T c35 hF
      exact l_L_isSound_294 X Y k13 ih13 30 _ _ _ _ _ hP hS (lv_sub hl [0, 1, 2, 3, 4, 5] rfl) hF
    · have hF := ite_F c35 hF
      refine lv_aload_n hx hb dL_isSound_235 rfl (lv_at hl 0 rfl) ?_
      refine lv_iload hx hb dL_isSound_236 (lv_at hl 4 rfl) ?_
      refine lv_bipush (v := 9) hx hb dL_isSound_238 (by decide) ?_
      obtain ⟨r40, hc40, hF⟩ := ob_S hF
      refine n_cVi X hLA hAr hAB hBs hS vw_X6_ofProcess qw_586 (c_X6_ofProcess hc40) ⟨rfl, rfl⟩ ⟨Nat.le_of_ble_eq_true rfl, Nat.le_of_ble_eq_true rfl⟩ ⟨Nat.le_refl _, Nat.le_refl _⟩ (rc_16 hE hP.1) hP.1 rfl hl.1 (rest := []) rfl (Nat.le_of_ble_eq_true rfl) dL_isSound_240 (fun H1 locs hP1 hK hZ hS => ?_)
      have hP := LH.go hra hta hP hP1 hK
      refine lv_iload hx hb dL_isSound_243 (lv_at hl 6 rfl) ?_
      refine lv_ishr hx hb dL_isSound_245 ?_
      refine lv_iconst (v := 1) hx hb dL_isSound_246 (by decide) ?_
      refine lv_iand hx hb dL_isSound_247 ?_
      refine lv_iconst (v := 1) hx hb dL_isSound_248 (by decide) ?_
      refine lv_icmp_ne (tgt := 288) hx hb dL_isSound_249 (by decide) (fun c41 => ?_) (fun c41 => ?_)
      · have hF := ite_F c41 hF
        refine lv_iinc (v := y7 + 1) (lv' := [(7, .int (y7 + 1)), (0, .ref (ad 2 16 0)), (1, .ref ra), (2, .int y2), (3, .ref ta), (4, .int y4), (5, .int y5)]) hx hb dL_isSound_288 hl (k := 6) rfl rfl (by decide) rfl (fun ls hl => ?_)
        refine lv_goto (tgt := 229) hx hb dL_isSound_291 (by decide) ?_
        exact ih229 _ _ _ _ _ _  hP hS (lv_sub hl [1, 2, 3, 4, 5, 6, 0] rfl) hF
      · have hF := ite_T c41 hF
        refine lv_iload hx hb dL_isSound_252 (lv_at hl 6 rfl) ?_
        refine lv_iload hx hb dL_isSound_254 (lv_at hl 4 rfl) ?_
        refine lv_icmp_eq (tgt := 286) hx hb dL_isSound_256 (by decide) (fun c42 => ?_) (fun c42 => ?_)
        · have hF := ite_T c42 hF
          refine lv_iconst (v := 0) hx hb dL_isSound_286 (by decide) ?_
          obtain ⟨e1, e2⟩ := Prod.mk.inj (Option.some.inj hF)
          subst e1
          subst e2
          exact l_zret X hS (P := SHp D ad cI cZ cP ra G V U _) ⟨hP.1, hP.2.1⟩ rfl (Or.inl rfl) dL_isSound_287
        · have hF := ite_F c42 hF
          refine lv_aload_n hx hb dL_isSound_259 rfl (lv_at hl 0 rfl) ?_
          refine lv_iload hx hb dL_isSound_260 (lv_at hl 6 rfl) ?_
          refine lv_bipush (v := 9) hx hb dL_isSound_262 (by decide) ?_
          obtain ⟨r43, hc43, hF⟩ := ob_S hF
          refine n_cVi X hLA hAr hAB hBs hS vw_X6_ofProcess qw_586 (c_X6_ofProcess hc43) ⟨rfl, rfl⟩ ⟨Nat.le_of_ble_eq_true rfl, Nat.le_of_ble_eq_true rfl⟩ ⟨Nat.le_refl _, Nat.le_refl _⟩ (rc_16 hE hP.1) hP.1 rfl hl.1 (rest := []) rfl (Nat.le_of_ble_eq_true rfl) dL_isSound_264 (fun H1 locs hP1 hK hZ hS => ?_)
          have hP := LH.go hra hta hP hP1 hK
          refine lv_iload hx hb dL_isSound_267 (lv_at hl 4 rfl) ?_
          refine lv_ishr hx hb dL_isSound_269 ?_
          refine lv_iconst (v := 1) hx hb dL_isSound_270 (by decide) ?_
          refine lv_iand hx hb dL_isSound_271 ?_
          refine lv_if_eq (tgt := 286) hx hb dL_isSound_272 (by decide) (fun c44 => ?_) (fun c44 => ?_)
          · have hF := ite_T c44 hF
            refine lv_iconst (v := 0) hx hb dL_isSound_286 (by decide) ?_
            obtain ⟨e1, e2⟩ := Prod.mk.inj (Option.some.inj hF)
            subst e1
            subst e2
            exact l_zret X hS (P := SHp D ad cI cZ cP ra G V U _) ⟨hP.1, hP.2.1⟩ rfl (Or.inl rfl) dL_isSound_287
          · have hF := ite_F c44 hF
            refine lv_aload_n hx hb dL_isSound_275 rfl (lv_at hl 0 rfl) ?_
            refine lv_iload hx hb dL_isSound_276 (lv_at hl 6 rfl) ?_
            refine lv_iconst (v := 2) hx hb dL_isSound_278 (by decide) ?_
            obtain ⟨r45, hc45, hF⟩ := ob_S hF
            refine n_cVi X hLA hAr hAB hBs hS vw_X6_ofProcess qw_586 (c_X6_ofProcess hc45) ⟨rfl, rfl⟩ ⟨Nat.le_of_ble_eq_true rfl, Nat.le_of_ble_eq_true rfl⟩ ⟨Nat.le_refl _, Nat.le_refl _⟩ (rc_16 hE hP.1) hP.1 rfl hl.1 (rest := []) rfl (Nat.le_of_ble_eq_true rfl) dL_isSound_279 (fun H1 locs hP1 hK hZ hS => ?_)
            have hP := LH.go hra hta hP hP1 hK
            refine lv_iconst (v := 2) hx hb dL_isSound_282 (by decide) ?_
            refine lv_icmp_ne (tgt := 288) hx hb dL_isSound_283 (by decide) (fun c46 => ?_) (fun c46 => ?_)
            · have hF := ite_F c46 hF
              refine lv_iinc (v := y7 + 1) (lv' := [(7, .int (y7 + 1)), (0, .ref (ad 2 16 0)), (1, .ref ra), (2, .int y2), (3, .ref ta), (4, .int y4), (5, .int y5)]) hx hb dL_isSound_288 hl (k := 6) rfl rfl (by decide) rfl (fun ls hl => ?_)
              refine lv_goto (tgt := 229) hx hb dL_isSound_291 (by decide) ?_
              exact ih229 _ _ _ _ _ _  hP hS (lv_sub hl [1, 2, 3, 4, 5, 6, 0] rfl) hF
            · have hF := ite_T c46 hF
              refine lv_iconst (v := 0) hx hb dL_isSound_286 (by decide) ?_
              obtain ⟨e1, e2⟩ := Prod.mk.inj (Option.some.inj hF)
              subst e1
              subst e2
              exact l_zret X hS (P := SHp D ad cI cZ cP ra G V U _) ⟨hP.1, hP.2.1⟩ rfl (Or.inl rfl) dL_isSound_287
set_option maxRecDepth 20000 in
set_option maxHeartbeats 4000000 in
theorem l_L_isSound_226 {p : Program} {l : Launch} {e : Env} {s : State} {m : MethodId} {args : Array Value} {below : List Frame} {meth : Method} {c : Code} {D : va_G} {ad : Nat → Nat → Nat → Nat} {cI cZ cP : ClassId} {A Ar B : Nat → Prop} {ra ta : Nat} {G V U : MT} {r : Int32} {R' : RT} (X : MX p s m args meth c cL_isSound RL 8 (some .boolean) D ad cI cZ cP Ar) (Y : SY ad A Ar B s ra ta) (k13 : Int32 → Int32 → RT → RT → Option (Int32 × RT)) (ih13 : ∀ {H : Heap} {locs : List Loc} {ls : Array Slot} (y2 : Int32) (y4 : Int32) (R T : RT), LH D ad cI cZ cP ra ta G V U R T H → va_S B s.heap H locs → lv_has ls 8 [(0, .ref (ad 2 16 0)), (1, .ref ra), (2, .int y2), (3, .ref ta), (4, .int y4)] → k13 y2 y4 R T = some (r, R') → W p l e rm_L_isSound s m args below meth c H locs 1 3 (MQ below (QcI B r (SHp D ad cI cZ cP ra G V U R')) args s 1 3 B) (F0 m 13 ls [])) (n : Nat) : ∀ {H : Heap} {locs : List Loc} {ls : Array Slot} (y2 : Int32) (y4 : Int32) (y5 : Int32) (R T : RT), LH D ad cI cZ cP ra ta G V U R T H → va_S B s.heap H locs → lv_has ls 8 [(0, .ref (ad 2 16 0)), (1, .ref ra), (2, .int y2), (3, .ref ta), (4, .int y4), (5, .int y5)] → f_L_isSound_226 G V U k13 n y2 y4 y5 R T = some (r, R') → W p l e rm_L_isSound s m args below meth c H locs 1 3 (MQ below (QcI B r (SHp D ad cI cZ cP ra G V U R')) args s 1 3 B) (F0 m 226 ls []) := by
  obtain ⟨hx, hb, hml, hown, htm, hr, hlk, hE⟩ := id X
  obtain ⟨hLA, hAr, hAB, hBs, hra, hta, hrt, hBr, hBt⟩ := id Y
  induction n with
  | zero =>
    intros
    exact ns_S (by assumption)
  | succ n ih226 =>
    intro H locs ls y2 y4 y5 R T   hP hS hl hF
    rw [f_L_isSound_226] at hF
    refine lv_iconst (v := 0) hx hb dL_isSound_226 (by decide) ?_
    refine lv_istore (lv' := [(7, .int 0), (0, .ref (ad 2 16 0)), (1, .ref ra), (2, .int y2), (3, .ref ta), (4, .int y4), (5, .int y5)]) hx hb dL_isSound_227 hl (by decide) rfl (fun ls hl => ?_)
    exact l_L_isSound_229 X Y k13 ih13 30 _ _ _ _ _ _ hP hS (lv_sub hl [1, 2, 3, 4, 5, 6, 0] rfl) hF
set_option maxRecDepth 20000 in
set_option maxHeartbeats 4000000 in
theorem l_L_isSound_181 {p : Program} {l : Launch} {e : Env} {s : State} {m : MethodId} {args : Array Value} {below : List Frame} {meth : Method} {c : Code} {D : va_G} {ad : Nat → Nat → Nat → Nat} {cI cZ cP : ClassId} {A Ar B : Nat → Prop} {ra ta : Nat} {G V U : MT} {r : Int32} {R' : RT} (X : MX p s m args meth c cL_isSound RL 8 (some .boolean) D ad cI cZ cP Ar) (Y : SY ad A Ar B s ra ta) (k13 : Int32 → Int32 → RT → RT → Option (Int32 × RT)) (ih13 : ∀ {H : Heap} {locs : List Loc} {ls : Array Slot} (y2 : Int32) (y4 : Int32) (R T : RT), LH D ad cI cZ cP ra ta G V U R T H → va_S B s.heap H locs → lv_has ls 8 [(0, .ref (ad 2 16 0)), (1, .ref ra), (2, .int y2), (3, .ref ta), (4, .int y4)] → k13 y2 y4 R T = some (r, R') → W p l e rm_L_isSound s m args below meth c H locs 1 3 (MQ below (QcI B r (SHp D ad cI cZ cP ra G V U R')) args s 1 3 B) (F0 m 13 ls [])) (n : Nat) : ∀ {H : Heap} {locs : List Loc} {ls : Array Slot} (y2 : Int32) (y4 : Int32) (y5 : Int32) (y6 : Int32) (R T : RT), LH D ad cI cZ cP ra ta G V U R T H → va_S B s.heap H locs → lv_has ls 8 [(0, .ref (ad 2 16 0)), (1, .ref ra), (2, .int y2), (3, .ref ta), (4, .int y4), (5, .int y5), (6, .int y6)] → f_L_isSound_181 G V U k13 n y2 y4 y5 y6 R T = some (r, R') → W p l e rm_L_isSound s m args below meth c H locs 1 3 (MQ below (QcI B r (SHp D ad cI cZ cP ra G V U R')) args s 1 3 B) (F0 m 181 ls []) := by
  obtain ⟨hx, hb, hml, hown, htm, hr, hlk, hE⟩ := id X
  obtain ⟨hLA, hAr, hAB, hBs, hra, hta, hrt, hBr, hBt⟩ := id Y
  induction n with
  | zero =>
    intros
    exact ns_S (by assumption)
  | succ n ih181 =>
    intro H locs ls y2 y4 y5 y6 R T   hP hS hl hF
    rw [f_L_isSound_181] at hF
    refine lv_iload hx hb dL_isSound_181 (lv_at hl 6 rfl) ?_
    refine lv_if_eq (tgt := 214) hx hb dL_isSound_183 (by decide) (fun c33 => ?_) (fun c33 => ?_)
    · have hF := ite_T c33 hF
      refine lv_iload hx hb dL_isSound_214 (lv_at hl 6 rfl) ?_
      refine lv_if_ne (tgt := 226) hx hb dL_isSound_216 (by decide) (fun c34 => ?_) (fun c34 => ?_)
      · have hF := ite_F c34 hF
        exact l_L_isSound_226 X Y k13 ih13 30 _ _ _ _ _ hP hS (lv_sub hl [0, 1, 2, 3, 4, 5] rfl) hF
      · have hF := ite_T c34 hF
        refine lv_iload hx hb dL_isSound_219 (lv_at hl 5 rfl) ?_
        refine lv_if_ne (tgt := 226) hx hb dL_isSound_221 (by decide) (fun c47 => ?_) (fun c47 => ?_)
        · have hF := ite_F c47 hF
          exact l_L_isSound_226 X Y k13 ih13 30 _ _ _ _ _ hP hS (lv_sub hl [0, 1, 2, 3, 4, 5] rfl) hF
        · have hF := ite_T c47 hF
          refine lv_iconst (v := 0) hx hb dL_isSound_224 (by decide) ?_
          obtain ⟨e1, e2⟩ := Prod.mk.inj (Option.some.inj hF)
          subst e1
          subst e2
          exact l_zret X hS (P := SHp D ad cI cZ cP ra G V U _) ⟨hP.1, hP.2.1⟩ rfl (Or.inl rfl) dL_isSound_225
    · have hF := ite_F c33 hF
      refine lv_iload hx hb dL_isSound_186 (lv_at hl 5 rfl) ?_
      refine lv_if_ne (tgt := 195) hx hb dL_isSound_188 (by decide) (fun c48 => ?_) (fun c48 => ?_)
      · have hF := ite_F c48 hF
        refine lv_iconst (v := 0) hx hb dL_isSound_195 (by decide) ?_
        refine lv_aload_n hx hb dL_isSound_196 rfl (lv_at hl 0 rfl) ?_
        refine lv_iload hx hb dL_isSound_197 (lv_at hl 4 rfl) ?_
        refine lv_iconst (v := 4) hx hb dL_isSound_199 (by decide) ?_
        obtain ⟨r49, hc49, hF⟩ := ob_S hF
        refine n_cVi X hLA hAr hAB hBs hS vw_X6_ofProcess qw_586 (c_X6_ofProcess hc49) ⟨rfl, rfl⟩ ⟨Nat.le_of_ble_eq_true rfl, Nat.le_of_ble_eq_true rfl⟩ ⟨Nat.le_refl _, Nat.le_refl _⟩ (rc_16 hE hP.1) hP.1 rfl hl.1 (rest := [.int 0]) rfl (Nat.le_of_ble_eq_true rfl) dL_isSound_200 (fun H1 locs hP1 hK hZ hS => ?_)
        have hP := LH.go hra hta hP hP1 hK
        refine lv_if_lt (tgt := 210) hx hb dL_isSound_203 (by decide) (fun c50 => ?_) (fun c50 => ?_)
        · have hF := ite_T c50 hF
          refine lv_iconst (v := 0) hx hb dL_isSound_210 (by decide) ?_
          refine lv_icmp_ne (tgt := 224) hx hb dL_isSound_211 (by decide) (fun c51 => ?_) (fun c51 => ?_)
          · exact absurd c51 (by decide)
          · skip
            refine lv_iload hx hb dL_isSound_214 (lv_at hl 6 rfl) ?_
            refine lv_if_ne (tgt := 226) hx hb dL_isSound_216 (by decide) (fun c52 => ?_) (fun c52 => ?_)
            · have hF := ite_F c52 hF
              exact l_L_isSound_226 X Y k13 ih13 30 _ _ _ _ _ hP hS (lv_sub hl [0, 1, 2, 3, 4, 5] rfl) hF
            · have hF := ite_T c52 hF
              refine lv_iload hx hb dL_isSound_219 (lv_at hl 5 rfl) ?_
              refine lv_if_ne (tgt := 226) hx hb dL_isSound_221 (by decide) (fun c53 => ?_) (fun c53 => ?_)
              · have hF := ite_F c53 hF
                exact l_L_isSound_226 X Y k13 ih13 30 _ _ _ _ _ hP hS (lv_sub hl [0, 1, 2, 3, 4, 5] rfl) hF
              · have hF := ite_T c53 hF
                refine lv_iconst (v := 0) hx hb dL_isSound_224 (by decide) ?_
                obtain ⟨e1, e2⟩ := Prod.mk.inj (Option.some.inj hF)
                subst e1
                subst e2
                exact l_zret X hS (P := SHp D ad cI cZ cP ra G V U _) ⟨hP.1, hP.2.1⟩ rfl (Or.inl rfl) dL_isSound_225
        · have hF := ite_F c50 hF
          refine lv_iconst (v := 1) hx hb dL_isSound_206 (by decide) ?_
          refine lv_goto (tgt := 211) hx hb dL_isSound_207 (by decide) ?_
          refine lv_icmp_ne (tgt := 224) hx hb dL_isSound_211 (by decide) (fun c54 => ?_) (fun c54 => ?_)
          · skip
            refine lv_iconst (v := 0) hx hb dL_isSound_224 (by decide) ?_
            obtain ⟨e1, e2⟩ := Prod.mk.inj (Option.some.inj hF)
            subst e1
            subst e2
            exact l_zret X hS (P := SHp D ad cI cZ cP ra G V U _) ⟨hP.1, hP.2.1⟩ rfl (Or.inl rfl) dL_isSound_225
          · exact absurd c54 (by decide)
      · have hF := ite_T c48 hF
        refine lv_iconst (v := 1) hx hb dL_isSound_191 (by decide) ?_
        refine lv_goto (tgt := 196) hx hb dL_isSound_192 (by decide) ?_
        refine lv_aload_n hx hb dL_isSound_196 rfl (lv_at hl 0 rfl) ?_
        refine lv_iload hx hb dL_isSound_197 (lv_at hl 4 rfl) ?_
        refine lv_iconst (v := 4) hx hb dL_isSound_199 (by decide) ?_
        obtain ⟨r55, hc55, hF⟩ := ob_S hF
        refine n_cVi X hLA hAr hAB hBs hS vw_X6_ofProcess qw_586 (c_X6_ofProcess hc55) ⟨rfl, rfl⟩ ⟨Nat.le_of_ble_eq_true rfl, Nat.le_of_ble_eq_true rfl⟩ ⟨Nat.le_refl _, Nat.le_refl _⟩ (rc_16 hE hP.1) hP.1 rfl hl.1 (rest := [.int 1]) rfl (Nat.le_of_ble_eq_true rfl) dL_isSound_200 (fun H1 locs hP1 hK hZ hS => ?_)
        have hP := LH.go hra hta hP hP1 hK
        refine lv_if_lt (tgt := 210) hx hb dL_isSound_203 (by decide) (fun c56 => ?_) (fun c56 => ?_)
        · have hF := ite_T c56 hF
          refine lv_iconst (v := 0) hx hb dL_isSound_210 (by decide) ?_
          refine lv_icmp_ne (tgt := 224) hx hb dL_isSound_211 (by decide) (fun c57 => ?_) (fun c57 => ?_)
          · skip
            refine lv_iconst (v := 0) hx hb dL_isSound_224 (by decide) ?_
            obtain ⟨e1, e2⟩ := Prod.mk.inj (Option.some.inj hF)
            subst e1
            subst e2
            exact l_zret X hS (P := SHp D ad cI cZ cP ra G V U _) ⟨hP.1, hP.2.1⟩ rfl (Or.inl rfl) dL_isSound_225
          · exact absurd c57 (by decide)
        · have hF := ite_F c56 hF
          refine lv_iconst (v := 1) hx hb dL_isSound_206 (by decide) ?_
          refine lv_goto (tgt := 211) hx hb dL_isSound_207 (by decide) ?_
          refine lv_icmp_ne (tgt := 224) hx hb dL_isSound_211 (by decide) (fun c58 => ?_) (fun c58 => ?_)
          · exact absurd c58 (by decide)
          · skip
            refine lv_iload hx hb dL_isSound_214 (lv_at hl 6 rfl) ?_
            refine lv_if_ne (tgt := 226) hx hb dL_isSound_216 (by decide) (fun c59 => ?_) (fun c59 => ?_)
            · have hF := ite_F c59 hF
              exact l_L_isSound_226 X Y k13 ih13 30 _ _ _ _ _ hP hS (lv_sub hl [0, 1, 2, 3, 4, 5] rfl) hF
            · have hF := ite_T c59 hF
              refine lv_iload hx hb dL_isSound_219 (lv_at hl 5 rfl) ?_
              refine lv_if_ne (tgt := 226) hx hb dL_isSound_221 (by decide) (fun c60 => ?_) (fun c60 => ?_)
              · have hF := ite_F c60 hF
                exact l_L_isSound_226 X Y k13 ih13 30 _ _ _ _ _ hP hS (lv_sub hl [0, 1, 2, 3, 4, 5] rfl) hF
              · have hF := ite_T c60 hF
                refine lv_iconst (v := 0) hx hb dL_isSound_224 (by decide) ?_
                obtain ⟨e1, e2⟩ := Prod.mk.inj (Option.some.inj hF)
                subst e1
                subst e2
                exact l_zret X hS (P := SHp D ad cI cZ cP ra G V U _) ⟨hP.1, hP.2.1⟩ rfl (Or.inl rfl) dL_isSound_225
set_option maxRecDepth 20000 in
set_option maxHeartbeats 4000000 in
theorem l_L_isSound_164 {p : Program} {l : Launch} {e : Env} {s : State} {m : MethodId} {args : Array Value} {below : List Frame} {meth : Method} {c : Code} {D : va_G} {ad : Nat → Nat → Nat → Nat} {cI cZ cP : ClassId} {A Ar B : Nat → Prop} {ra ta : Nat} {G V U : MT} {r : Int32} {R' : RT} (X : MX p s m args meth c cL_isSound RL 8 (some .boolean) D ad cI cZ cP Ar) (Y : SY ad A Ar B s ra ta) (k13 : Int32 → Int32 → RT → RT → Option (Int32 × RT)) (ih13 : ∀ {H : Heap} {locs : List Loc} {ls : Array Slot} (y2 : Int32) (y4 : Int32) (R T : RT), LH D ad cI cZ cP ra ta G V U R T H → va_S B s.heap H locs → lv_has ls 8 [(0, .ref (ad 2 16 0)), (1, .ref ra), (2, .int y2), (3, .ref ta), (4, .int y4)] → k13 y2 y4 R T = some (r, R') → W p l e rm_L_isSound s m args below meth c H locs 1 3 (MQ below (QcI B r (SHp D ad cI cZ cP ra G V U R')) args s 1 3 B) (F0 m 13 ls [])) (n : Nat) : ∀ {H : Heap} {locs : List Loc} {ls : Array Slot} (y2 : Int32) (y4 : Int32) (y5 : Int32) (R T : RT), LH D ad cI cZ cP ra ta G V U R T H → va_S B s.heap H locs → lv_has ls 8 [(0, .ref (ad 2 16 0)), (1, .ref ra), (2, .int y2), (3, .ref ta), (4, .int y4), (5, .int y5)] → f_L_isSound_164 G V U k13 n y2 y4 y5 R T = some (r, R') → W p l e rm_L_isSound s m args below meth c H locs 1 3 (MQ below (QcI B r (SHp D ad cI cZ cP ra G V U R')) args s 1 3 B) (F0 m 164 ls []) := by
  obtain ⟨hx, hb, hml, hown, htm, hr, hlk, hE⟩ := id X
  obtain ⟨hLA, hAr, hAB, hBs, hra, hta, hrt, hBr, hBt⟩ := id Y
  induction n with
  | zero =>
    intros
    exact ns_S (by assumption)
  | succ n ih164 =>
    intro H locs ls y2 y4 y5 R T   hP hS hl hF
    rw [f_L_isSound_164] at hF
    refine lv_aload_n hx hb dL_isSound_164 rfl (lv_at hl 0 rfl) ?_
    refine lv_iload hx hb dL_isSound_165 (lv_at hl 4 rfl) ?_
    refine lv_iconst (v := 0) hx hb dL_isSound_167 (by decide) ?_
    obtain ⟨r31, hc31, hF⟩ := ob_S hF
    refine n_cVi X hLA hAr hAB hBs hS vw_X6_ofProcess qw_586 (c_X6_ofProcess hc31) ⟨rfl, rfl⟩ ⟨Nat.le_of_ble_eq_true rfl, Nat.le_of_ble_eq_true rfl⟩ ⟨Nat.le_refl _, Nat.le_refl _⟩ (rc_16 hE hP.1) hP.1 rfl hl.1 (rest := []) rfl (Nat.le_of_ble_eq_true rfl) dL_isSound_168 (fun H1 locs hP1 hK hZ hS => ?_)
    have hP := LH.go hra hta hP hP1 hK
    refine lv_if_lt (tgt := 178) hx hb dL_isSound_171 (by decide) (fun c32 => ?_) (fun c32 => ?_)
    · have hF := ite_T c32 hF
      refine lv_iconst (v := 0) hx hb dL_isSound_178 (by decide) ?_
      refine lv_istore (lv' := [(6, .int 0), (0, .ref (ad 2 16 0)), (1, .ref ra), (2, .int y2), (3, .ref ta), (4, .int y4), (5, .int y5)]) hx hb dL_isSound_179 hl (by decide) rfl (fun ls hl => ?_)
      exact l_L_isSound_181 X Y k13 ih13 30 _ _ _ _ _ _ hP hS (lv_sub hl [1, 2, 3, 4, 5, 6, 0] rfl) hF
    · have hF := ite_F c32 hF
      refine lv_iconst (v := 1) hx hb dL_isSound_174 (by decide) ?_
      refine lv_goto (tgt := 179) hx hb dL_isSound_175 (by decide) ?_
      refine lv_istore (lv' := [(6, .int 1), (0, .ref (ad 2 16 0)), (1, .ref ra), (2, .int y2), (3, .ref ta), (4, .int y4), (5, .int y5)]) hx hb dL_isSound_179 hl (by decide) rfl (fun ls hl => ?_)
      exact l_L_isSound_181 X Y k13 ih13 30 _ _ _ _ _ _ hP hS (lv_sub hl [1, 2, 3, 4, 5, 6, 0] rfl) hF
set_option maxRecDepth 20000 in
set_option maxHeartbeats 4000000 in
theorem l_L_isSound_112 {p : Program} {l : Launch} {e : Env} {s : State} {m : MethodId} {args : Array Value} {below : List Frame} {meth : Method} {c : Code} {D : va_G} {ad : Nat → Nat → Nat → Nat} {cI cZ cP : ClassId} {A Ar B : Nat → Prop} {ra ta : Nat} {G V U : MT} {r : Int32} {R' : RT} (X : MX p s m args meth c cL_isSound RL 8 (some .boolean) D ad cI cZ cP Ar) (Y : SY ad A Ar B s ra ta) (k13 : Int32 → Int32 → RT → RT → Option (Int32 × RT)) (ih13 : ∀ {H : Heap} {locs : List Loc} {ls : Array Slot} (y2 : Int32) (y4 : Int32) (R T : RT), LH D ad cI cZ cP ra ta G V U R T H → va_S B s.heap H locs → lv_has ls 8 [(0, .ref (ad 2 16 0)), (1, .ref ra), (2, .int y2), (3, .ref ta), (4, .int y4)] → k13 y2 y4 R T = some (r, R') → W p l e rm_L_isSound s m args below meth c H locs 1 3 (MQ below (QcI B r (SHp D ad cI cZ cP ra G V U R')) args s 1 3 B) (F0 m 13 ls [])) (n : Nat) : ∀ {H : Heap} {locs : List Loc} {ls : Array Slot} (y2 : Int32) (y4 : Int32) (y5 : Int32) (R T : RT), LH D ad cI cZ cP ra ta G V U R T H → va_S B s.heap H locs → lv_has ls 8 [(0, .ref (ad 2 16 0)), (1, .ref ra), (2, .int y2), (3, .ref ta), (4, .int y4), (5, .int y5)] → f_L_isSound_112 G V U k13 n y2 y4 y5 R T = some (r, R') → W p l e rm_L_isSound s m args below meth c H locs 1 3 (MQ below (QcI B r (SHp D ad cI cZ cP ra G V U R')) args s 1 3 B) (F0 m 112 ls []) := by
  obtain ⟨hx, hb, hml, hown, htm, hr, hlk, hE⟩ := id X
  obtain ⟨hLA, hAr, hAB, hBs, hra, hta, hrt, hBr, hBt⟩ := id Y
  induction n with
  | zero =>
    intros
    exact ns_S (by assumption)
  | succ n ih112 =>
    intro H locs ls y2 y4 y5 R T   hP hS hl hF
    rw [f_L_isSound_112] at hF
    refine lv_iload hx hb dL_isSound_112 (lv_at hl 5 rfl) ?_
    refine lv_iconst (v := 2) hx hb dL_isSound_114 (by decide) ?_
    refine lv_icmp_ne (tgt := 164) hx hb dL_isSound_115 (by decide) (fun c30 => ?_) (fun c30 => ?_)
    · have hF := ite_F c30 hF
      exact l_L_isSound_164 X Y k13 ih13 30 _ _ _ _ _ hP hS (lv_sub hl [0, 1, 2, 3, 4, 5] rfl) hF
    · have hF := ite_T c30 hF
      refine lv_aload_n hx hb dL_isSound_118 rfl (lv_at hl 0 rfl) ?_
      refine lv_iload hx hb dL_isSound_119 (lv_at hl 4 rfl) ?_
      refine lv_bipush (v := 8) hx hb dL_isSound_121 (by decide) ?_
      obtain ⟨r61, hc61, hF⟩ := ob_S hF
      refine n_cVi X hLA hAr hAB hBs hS vw_X6_ofProcess qw_586 (c_X6_ofProcess hc61) ⟨rfl, rfl⟩ ⟨Nat.le_of_ble_eq_true rfl, Nat.le_of_ble_eq_true rfl⟩ ⟨Nat.le_refl _, Nat.le_refl _⟩ (rc_16 hE hP.1) hP.1 rfl hl.1 (rest := []) rfl (Nat.le_of_ble_eq_true rfl) dL_isSound_123 (fun H1 locs hP1 hK hZ hS => ?_)
      have hP := LH.go hra hta hP hP1 hK
      refine lv_if_ne (tgt := 162) hx hb dL_isSound_126 (by decide) (fun c62 => ?_) (fun c62 => ?_)
      · have hF := ite_F c62 hF
        refine lv_iconst (v := 0) hx hb dL_isSound_162 (by decide) ?_
        obtain ⟨e1, e2⟩ := Prod.mk.inj (Option.some.inj hF)
        subst e1
        subst e2
        exact l_zret X hS (P := SHp D ad cI cZ cP ra G V U _) ⟨hP.1, hP.2.1⟩ rfl (Or.inl rfl) dL_isSound_163
      · have hF := ite_T c62 hF
        refine lv_aload_n hx hb dL_isSound_129 rfl (lv_at hl 0 rfl) ?_
        refine lv_iload hx hb dL_isSound_130 (lv_at hl 4 rfl) ?_
        refine lv_bipush (v := 9) hx hb dL_isSound_132 (by decide) ?_
        obtain ⟨r63, hc63, hF⟩ := ob_S hF
        refine n_cVi X hLA hAr hAB hBs hS vw_X6_ofProcess qw_586 (c_X6_ofProcess hc63) ⟨rfl, rfl⟩ ⟨Nat.le_of_ble_eq_true rfl, Nat.le_of_ble_eq_true rfl⟩ ⟨Nat.le_refl _, Nat.le_refl _⟩ (rc_16 hE hP.1) hP.1 rfl hl.1 (rest := []) rfl (Nat.le_of_ble_eq_true rfl) dL_isSound_134 (fun H1 locs hP1 hK hZ hS => ?_)
        have hP := LH.go hra hta hP hP1 hK
        refine lv_if_ne (tgt := 162) hx hb dL_isSound_137 (by decide) (fun c64 => ?_) (fun c64 => ?_)
        · have hF := ite_F c64 hF
          refine lv_iconst (v := 0) hx hb dL_isSound_162 (by decide) ?_
          obtain ⟨e1, e2⟩ := Prod.mk.inj (Option.some.inj hF)
          subst e1
          subst e2
          exact l_zret X hS (P := SHp D ad cI cZ cP ra G V U _) ⟨hP.1, hP.2.1⟩ rfl (Or.inl rfl) dL_isSound_163
        · have hF := ite_T c64 hF
          refine lv_aload_n hx hb dL_isSound_140 rfl (lv_at hl 0 rfl) ?_
          refine lv_iload hx hb dL_isSound_141 (lv_at hl 4 rfl) ?_
          refine lv_iconst (v := 4) hx hb dL_isSound_143 (by decide) ?_
          obtain ⟨r65, hc65, hF⟩ := ob_S hF
          refine n_cVi X hLA hAr hAB hBs hS vw_X6_ofProcess qw_586 (c_X6_ofProcess hc65) ⟨rfl, rfl⟩ ⟨Nat.le_of_ble_eq_true rfl, Nat.le_of_ble_eq_true rfl⟩ ⟨Nat.le_refl _, Nat.le_refl _⟩ (rc_16 hE hP.1) hP.1 rfl hl.1 (rest := []) rfl (Nat.le_of_ble_eq_true rfl) dL_isSound_144 (fun H1 locs hP1 hK hZ hS => ?_)
          have hP := LH.go hra hta hP hP1 hK
          refine lv_iconst (v := (-1)) hx hb dL_isSound_147 (by decide) ?_
          refine lv_icmp_ne (tgt := 162) hx hb dL_isSound_148 (by decide) (fun c66 => ?_) (fun c66 => ?_)
          · have hF := ite_F c66 hF
            refine lv_iconst (v := 0) hx hb dL_isSound_162 (by decide) ?_
            obtain ⟨e1, e2⟩ := Prod.mk.inj (Option.some.inj hF)
            subst e1
            subst e2
            exact l_zret X hS (P := SHp D ad cI cZ cP ra G V U _) ⟨hP.1, hP.2.1⟩ rfl (Or.inl rfl) dL_isSound_163
          · have hF := ite_T c66 hF
            refine lv_aload_n hx hb dL_isSound_151 rfl (lv_at hl 0 rfl) ?_
            refine lv_iload hx hb dL_isSound_152 (lv_at hl 4 rfl) ?_
            refine lv_bipush (v := 12) hx hb dL_isSound_154 (by decide) ?_
            obtain ⟨r67, hc67, hF⟩ := ob_S hF
            refine n_cVi X hLA hAr hAB hBs hS vw_X6_ofProcess qw_586 (c_X6_ofProcess hc67) ⟨rfl, rfl⟩ ⟨Nat.le_of_ble_eq_true rfl, Nat.le_of_ble_eq_true rfl⟩ ⟨Nat.le_refl _, Nat.le_refl _⟩ (rc_16 hE hP.1) hP.1 rfl hl.1 (rest := []) rfl (Nat.le_of_ble_eq_true rfl) dL_isSound_156 (fun H1 locs hP1 hK hZ hS => ?_)
            have hP := LH.go hra hta hP hP1 hK
            refine lv_if_eq (tgt := 164) hx hb dL_isSound_159 (by decide) (fun c68 => ?_) (fun c68 => ?_)
            · have hF := ite_T c68 hF
              exact l_L_isSound_164 X Y k13 ih13 30 _ _ _ _ _ hP hS (lv_sub hl [0, 1, 2, 3, 4, 5] rfl) hF
            · have hF := ite_F c68 hF
              refine lv_iconst (v := 0) hx hb dL_isSound_162 (by decide) ?_
              obtain ⟨e1, e2⟩ := Prod.mk.inj (Option.some.inj hF)
              subst e1
              subst e2
              exact l_zret X hS (P := SHp D ad cI cZ cP ra G V U _) ⟨hP.1, hP.2.1⟩ rfl (Or.inl rfl) dL_isSound_163
set_option maxRecDepth 20000 in
set_option maxHeartbeats 4000000 in
theorem l_L_isSound_101 {p : Program} {l : Launch} {e : Env} {s : State} {m : MethodId} {args : Array Value} {below : List Frame} {meth : Method} {c : Code} {D : va_G} {ad : Nat → Nat → Nat → Nat} {cI cZ cP : ClassId} {A Ar B : Nat → Prop} {ra ta : Nat} {G V U : MT} {r : Int32} {R' : RT} (X : MX p s m args meth c cL_isSound RL 8 (some .boolean) D ad cI cZ cP Ar) (Y : SY ad A Ar B s ra ta) (k13 : Int32 → Int32 → RT → RT → Option (Int32 × RT)) (ih13 : ∀ {H : Heap} {locs : List Loc} {ls : Array Slot} (y2 : Int32) (y4 : Int32) (R T : RT), LH D ad cI cZ cP ra ta G V U R T H → va_S B s.heap H locs → lv_has ls 8 [(0, .ref (ad 2 16 0)), (1, .ref ra), (2, .int y2), (3, .ref ta), (4, .int y4)] → k13 y2 y4 R T = some (r, R') → W p l e rm_L_isSound s m args below meth c H locs 1 3 (MQ below (QcI B r (SHp D ad cI cZ cP ra G V U R')) args s 1 3 B) (F0 m 13 ls [])) (n : Nat) : ∀ {H : Heap} {locs : List Loc} {ls : Array Slot} (y2 : Int32) (y4 : Int32) (y5 : Int32) (R T : RT), LH D ad cI cZ cP ra ta G V U R T H → va_S B s.heap H locs → lv_has ls 8 [(0, .ref (ad 2 16 0)), (1, .ref ra), (2, .int y2), (3, .ref ta), (4, .int y4), (5, .int y5)] → f_L_isSound_101 G V U k13 n y2 y4 y5 R T = some (r, R') → W p l e rm_L_isSound s m args below meth c H locs 1 3 (MQ below (QcI B r (SHp D ad cI cZ cP ra G V U R')) args s 1 3 B) (F0 m 101 ls []) := by
  obtain ⟨hx, hb, hml, hown, htm, hr, hlk, hE⟩ := id X
  obtain ⟨hLA, hAr, hAB, hBs, hra, hta, hrt, hBr, hBt⟩ := id Y
  induction n with
  | zero =>
    intros
    exact ns_S (by assumption)
  | succ n ih101 =>
    intro H locs ls y2 y4 y5 R T   hP hS hl hF
    rw [f_L_isSound_101] at hF
    refine lv_aload_n hx hb dL_isSound_101 rfl (lv_at hl 1 rfl) ?_
    refine lv_iload hx hb dL_isSound_102 (lv_at hl 4 rfl) ?_
    refine lv_aload_n hx hb dL_isSound_104 rfl (lv_at hl 0 rfl) ?_
    refine lv_iload hx hb dL_isSound_105 (lv_at hl 4 rfl) ?_
    refine lv_iconst (v := 3) hx hb dL_isSound_107 (by decide) ?_
    obtain ⟨r28, hc28, hF⟩ := ob_S hF
    refine n_cVi X hLA hAr hAB hBs hS vw_X6_ofProcess qw_586 (c_X6_ofProcess hc28) ⟨rfl, rfl⟩ ⟨Nat.le_of_ble_eq_true rfl, Nat.le_of_ble_eq_true rfl⟩ ⟨Nat.le_refl _, Nat.le_refl _⟩ (rc_16 hE hP.1) hP.1 rfl hl.1 (rest := [.int y4, .ref ra]) rfl (Nat.le_of_ble_eq_true rfl) dL_isSound_108 (fun H1 locs hP1 hK hZ hS => ?_)
    have hP := LH.go hra hta hP hP1 hK
    obtain ⟨hn29, hF⟩ := ite_S hF
    refine la_st hx hb hE hP.2.1 hBr hS hn29 dL_isSound_111 (fun H1 locs h1 hk hz hS => ?_)
    have hP := LH.stR hLA hra hrt hP h1 hk
    exact l_L_isSound_112 X Y k13 ih13 30 _ _ _ _ _ hP hS (lv_sub hl [0, 1, 2, 3, 4, 5] rfl) hF
set_option maxRecDepth 20000 in
set_option maxHeartbeats 4000000 in
theorem l_L_isSound_13 {p : Program} {l : Launch} {e : Env} {s : State} {m : MethodId} {args : Array Value} {below : List Frame} {meth : Method} {c : Code} {D : va_G} {ad : Nat → Nat → Nat → Nat} {cI cZ cP : ClassId} {A Ar B : Nat → Prop} {ra ta : Nat} {G V U : MT} {r : Int32} {R' : RT} (X : MX p s m args meth c cL_isSound RL 8 (some .boolean) D ad cI cZ cP Ar) (Y : SY ad A Ar B s ra ta) (n : Nat) : ∀ {H : Heap} {locs : List Loc} {ls : Array Slot} (y2 : Int32) (y4 : Int32) (R T : RT), LH D ad cI cZ cP ra ta G V U R T H → va_S B s.heap H locs → lv_has ls 8 [(0, .ref (ad 2 16 0)), (1, .ref ra), (2, .int y2), (3, .ref ta), (4, .int y4)] → f_L_isSound_13 G V U n y2 y4 R T = some (r, R') → W p l e rm_L_isSound s m args below meth c H locs 1 3 (MQ below (QcI B r (SHp D ad cI cZ cP ra G V U R')) args s 1 3 B) (F0 m 13 ls []) := by
  obtain ⟨hx, hb, hml, hown, htm, hr, hlk, hE⟩ := id X
  obtain ⟨hLA, hAr, hAB, hBs, hra, hta, hrt, hBr, hBt⟩ := id Y
  induction n with
  | zero =>
    intros
    exact ns_S (by assumption)
  | succ n ih13 =>
    intro H locs ls y2 y4 R T   hP hS hl hF
    rw [f_L_isSound_13] at hF
    refine lv_iload hx hb dL_isSound_13 (lv_at hl 4 rfl) ?_
    refine lv_iload_n hx hb dL_isSound_15 rfl (lv_at hl 2 rfl) ?_
    refine lv_icmp_ge (tgt := 325) hx hb dL_isSound_16 (by decide) (fun c1 => ?_) (fun c1 => ?_)
    · have hF := ite_T c1 hF
      refine lv_iconst (v := 0) hx hb dL_isSound_325 (by decide) ?_
      refine lv_istore (lv' := [(4, .int 0), (0, .ref (ad 2 16 0)), (1, .ref ra), (2, .int y2), (3, .ref ta)]) hx hb dL_isSound_326 hl (by decide) rfl (fun ls hl => ?_)
      exact l_L_isSound_328 X Y  30 _ _ _ hP hS (lv_sub hl [1, 4, 0] rfl) hF
    · have hF := ite_F c1 hF
      refine lv_aload_n hx hb dL_isSound_19 rfl (lv_at hl 0 rfl) ?_
      refine lv_iload hx hb dL_isSound_20 (lv_at hl 4 rfl) ?_
      refine lv_iconst (v := 2) hx hb dL_isSound_22 (by decide) ?_
      obtain ⟨r17, hc17, hF⟩ := ob_S hF
      refine n_cVi X hLA hAr hAB hBs hS vw_X6_ofProcess qw_586 (c_X6_ofProcess hc17) ⟨rfl, rfl⟩ ⟨Nat.le_of_ble_eq_true rfl, Nat.le_of_ble_eq_true rfl⟩ ⟨Nat.le_refl _, Nat.le_refl _⟩ (rc_16 hE hP.1) hP.1 rfl hl.1 (rest := []) rfl (Nat.le_of_ble_eq_true rfl) dL_isSound_23 (fun H1 locs hP1 hK hZ hS => ?_)
      have hP := LH.go hra hta hP hP1 hK
      refine lv_istore (lv' := [(5, .int r17), (0, .ref (ad 2 16 0)), (1, .ref ra), (2, .int y2), (3, .ref ta), (4, .int y4)]) hx hb dL_isSound_26 hl (by decide) rfl (fun ls hl => ?_)
      refine lv_aload_n hx hb dL_isSound_28 rfl (lv_at hl 4 rfl) ?_
      refine lv_iload hx hb dL_isSound_29 (lv_at hl 0 rfl) ?_
      refine lv_dup2_11 hx hb dL_isSound_31 rfl rfl ?_
      obtain ⟨hn18, hF⟩ := ite_S hF
      refine la_ld hx hb hE hP.2.2 hn18 dL_isSound_32 ?_
      refine lv_iconst (v := 1) hx hb dL_isSound_33 (by decide) ?_
      refine lv_iadd hx hb dL_isSound_34 ?_
      obtain ⟨hn19, hF⟩ := ite_S hF
      refine la_st hx hb hE hP.2.2 hBt hS hn19 dL_isSound_35 (fun H1 locs h1 hk hz hS => ?_)
      have hP := LH.stT hLA hta hrt hP h1 hk
      refine lv_aload_n hx hb dL_isSound_36 rfl (lv_at hl 1 rfl) ?_
      refine lv_iload hx hb dL_isSound_37 (lv_at hl 5 rfl) ?_
      refine lv_bipush (v := 8) hx hb dL_isSound_39 (by decide) ?_
      obtain ⟨r20, hc20, hF⟩ := ob_S hF
      refine n_cVi X hLA hAr hAB hBs hS vw_X6_ofProcess qw_586 (c_X6_ofProcess hc20) ⟨rfl, rfl⟩ ⟨Nat.le_of_ble_eq_true rfl, Nat.le_of_ble_eq_true rfl⟩ ⟨Nat.le_refl _, Nat.le_refl _⟩ (rc_16 hE hP.1) hP.1 rfl hl.1 (rest := []) rfl (Nat.le_of_ble_eq_true rfl) dL_isSound_41 (fun H1 locs hP1 hK hZ hS => ?_)
      have hP := LH.go hra hta hP hP1 hK
      refine lv_bipush (v := 8) hx hb dL_isSound_44 (by decide) ?_
      refine lv_icmp_gt (tgt := 99) hx hb dL_isSound_46 (by decide) (fun c21 => ?_) (fun c21 => ?_)
      · have hF := ite_T c21 hF
        refine lv_iconst (v := 0) hx hb dL_isSound_99 (by decide) ?_
        obtain ⟨e1, e2⟩ := Prod.mk.inj (Option.some.inj hF)
        subst e1
        subst e2
        exact l_zret X hS (P := SHp D ad cI cZ cP ra G V U _) ⟨hP.1, hP.2.1⟩ rfl (Or.inl rfl) dL_isSound_100
      · have hF := ite_F c21 hF
        refine lv_aload_n hx hb dL_isSound_49 rfl (lv_at hl 1 rfl) ?_
        refine lv_iload hx hb dL_isSound_50 (lv_at hl 5 rfl) ?_
        refine lv_iconst (v := 3) hx hb dL_isSound_52 (by decide) ?_
        obtain ⟨r22, hc22, hF⟩ := ob_S hF
        refine n_cVi X hLA hAr hAB hBs hS vw_X6_ofProcess qw_586 (c_X6_ofProcess hc22) ⟨rfl, rfl⟩ ⟨Nat.le_of_ble_eq_true rfl, Nat.le_of_ble_eq_true rfl⟩ ⟨Nat.le_refl _, Nat.le_refl _⟩ (rc_16 hE hP.1) hP.1 rfl hl.1 (rest := []) rfl (Nat.le_of_ble_eq_true rfl) dL_isSound_53 (fun H1 locs hP1 hK hZ hS => ?_)
        have hP := LH.go hra hta hP hP1 hK
        refine lv_if_lt (tgt := 63) hx hb dL_isSound_56 (by decide) (fun c23 => ?_) (fun c23 => ?_)
        · have hF := ite_T c23 hF
          refine lv_iconst (v := 0) hx hb dL_isSound_63 (by decide) ?_
          refine lv_iload hx hb dL_isSound_64 (lv_at hl 0 rfl) ?_
          refine lv_iconst (v := 2) hx hb dL_isSound_66 (by decide) ?_
          refine lv_icmp_ne (tgt := 74) hx hb dL_isSound_67 (by decide) (fun c24 => ?_) (fun c24 => ?_)
          · have hF := ite_F c24 hF
            refine lv_iconst (v := 0) hx hb dL_isSound_74 (by decide) ?_
            refine lv_icmp_ne (tgt := 99) hx hb dL_isSound_75 (by decide) (fun c25 => ?_) (fun c25 => ?_)
            · exact absurd c25 (by decide)
            · skip
              refine lv_aload_n hx hb dL_isSound_78 rfl (lv_at hl 2 rfl) ?_
              refine lv_iload hx hb dL_isSound_79 (lv_at hl 5 rfl) ?_
              obtain ⟨hn26, hF⟩ := ite_S hF
              refine la_ld hx hb hE hP.2.1 hn26 dL_isSound_81 ?_
              refine lv_if_lt (tgt := 101) hx hb dL_isSound_82 (by decide) (fun c27 => ?_) (fun c27 => ?_)
              · have hF := ite_T c27 hF
                exact l_L_isSound_101 X Y (f_L_isSound_13 G V U n) ih13 30 _ _ _ _ _ hP hS (lv_sub hl [1, 2, 3, 4, 5, 0] rfl) hF
              · have hF := ite_F c27 hF
                refine lv_aload_n hx hb dL_isSound_85 rfl (lv_at hl 1 rfl) ?_
                refine lv_iload hx hb dL_isSound_86 (lv_at hl 5 rfl) ?_
                refine lv_iconst (v := 3) hx hb dL_isSound_88 (by decide) ?_
                obtain ⟨r69, hc69, hF⟩ := ob_S hF
                refine n_cVi X hLA hAr hAB hBs hS vw_X6_ofProcess qw_586 (c_X6_ofProcess hc69) ⟨rfl, rfl⟩ ⟨Nat.le_of_ble_eq_true rfl, Nat.le_of_ble_eq_true rfl⟩ ⟨Nat.le_refl _, Nat.le_refl _⟩ (rc_16 hE hP.1) hP.1 rfl hl.1 (rest := []) rfl (Nat.le_of_ble_eq_true rfl) dL_isSound_89 (fun H1 locs hP1 hK hZ hS => ?_)
                have hP := LH.go hra hta hP hP1 hK
                refine lv_aload_n hx hb dL_isSound_92 rfl (lv_at hl 2 rfl) ?_
                refine lv_iload hx hb dL_isSound_93 (lv_at hl 5 rfl) ?_
                obtain ⟨hn70, hF⟩ := ite_S hF
                refine la_ld hx hb hE hP.2.1 hn70 dL_isSound_95 ?_
                refine lv_icmp_eq (tgt := 101) hx hb dL_isSound_96 (by decide) (fun c71 => ?_) (fun c71 => ?_)
                · have hF := ite_T c71 hF
                  exact l_L_isSound_101 X Y (f_L_isSound_13 G V U n) ih13 30 _ _ _ _ _ hP hS (lv_sub hl [1, 2, 3, 4, 5, 0] rfl) hF
                · have hF := ite_F c71 hF
                  refine lv_iconst (v := 0) hx hb dL_isSound_99 (by decide) ?_
                  obtain ⟨e1, e2⟩ := Prod.mk.inj (Option.some.inj hF)
                  subst e1
                  subst e2
                  exact l_zret X hS (P := SHp D ad cI cZ cP ra G V U _) ⟨hP.1, hP.2.1⟩ rfl (Or.inl rfl) dL_isSound_100
          · have hF := ite_T c24 hF
            refine lv_iconst (v := 1) hx hb dL_isSound_70 (by decide) ?_
            refine lv_goto (tgt := 75) hx hb dL_isSound_71 (by decide) ?_
            refine lv_icmp_ne (tgt := 99) hx hb dL_isSound_75 (by decide) (fun c72 => ?_) (fun c72 => ?_)
            · skip
              refine lv_iconst (v := 0) hx hb dL_isSound_99 (by decide) ?_
              obtain ⟨e1, e2⟩ := Prod.mk.inj (Option.some.inj hF)
              subst e1
              subst e2
              exact l_zret X hS (P := SHp D ad cI cZ cP ra G V U _) ⟨hP.1, hP.2.1⟩ rfl (Or.inl rfl) dL_isSound_100
            · exact absurd c72 (by decide)
        · have hF := ite_F c23 hF
          refine lv_iconst (v := 1) hx hb dL_isSound_59 (by decide) ?_
          refine lv_goto (tgt := 64) hx hb dL_isSound_60 (by decide) ?_
          refine lv_iload hx hb dL_isSound_64 (lv_at hl 0 rfl) ?_
          refine lv_iconst (v := 2) hx hb dL_isSound_66 (by decide) ?_
          refine lv_icmp_ne (tgt := 74) hx hb dL_isSound_67 (by decide) (fun c73 => ?_) (fun c73 => ?_)
          · have hF := ite_F c73 hF
            refine lv_iconst (v := 0) hx hb dL_isSound_74 (by decide) ?_
            refine lv_icmp_ne (tgt := 99) hx hb dL_isSound_75 (by decide) (fun c74 => ?_) (fun c74 => ?_)
            · skip
              refine lv_iconst (v := 0) hx hb dL_isSound_99 (by decide) ?_
              obtain ⟨e1, e2⟩ := Prod.mk.inj (Option.some.inj hF)
              subst e1
              subst e2
              exact l_zret X hS (P := SHp D ad cI cZ cP ra G V U _) ⟨hP.1, hP.2.1⟩ rfl (Or.inl rfl) dL_isSound_100
            · exact absurd c74 (by decide)
          · have hF := ite_T c73 hF
            refine lv_iconst (v := 1) hx hb dL_isSound_70 (by decide) ?_
            refine lv_goto (tgt := 75) hx hb dL_isSound_71 (by decide) ?_
            refine lv_icmp_ne (tgt := 99) hx hb dL_isSound_75 (by decide) (fun c75 => ?_) (fun c75 => ?_)
            · exact absurd c75 (by decide)
            · skip
              refine lv_aload_n hx hb dL_isSound_78 rfl (lv_at hl 2 rfl) ?_
              refine lv_iload hx hb dL_isSound_79 (lv_at hl 5 rfl) ?_
              obtain ⟨hn76, hF⟩ := ite_S hF
              refine la_ld hx hb hE hP.2.1 hn76 dL_isSound_81 ?_
              refine lv_if_lt (tgt := 101) hx hb dL_isSound_82 (by decide) (fun c77 => ?_) (fun c77 => ?_)
              · have hF := ite_T c77 hF
                exact l_L_isSound_101 X Y (f_L_isSound_13 G V U n) ih13 30 _ _ _ _ _ hP hS (lv_sub hl [1, 2, 3, 4, 5, 0] rfl) hF
              · have hF := ite_F c77 hF
                refine lv_aload_n hx hb dL_isSound_85 rfl (lv_at hl 1 rfl) ?_
                refine lv_iload hx hb dL_isSound_86 (lv_at hl 5 rfl) ?_
                refine lv_iconst (v := 3) hx hb dL_isSound_88 (by decide) ?_
                obtain ⟨r78, hc78, hF⟩ := ob_S hF
                refine n_cVi X hLA hAr hAB hBs hS vw_X6_ofProcess qw_586 (c_X6_ofProcess hc78) ⟨rfl, rfl⟩ ⟨Nat.le_of_ble_eq_true rfl, Nat.le_of_ble_eq_true rfl⟩ ⟨Nat.le_refl _, Nat.le_refl _⟩ (rc_16 hE hP.1) hP.1 rfl hl.1 (rest := []) rfl (Nat.le_of_ble_eq_true rfl) dL_isSound_89 (fun H1 locs hP1 hK hZ hS => ?_)
                have hP := LH.go hra hta hP hP1 hK
                refine lv_aload_n hx hb dL_isSound_92 rfl (lv_at hl 2 rfl) ?_
                refine lv_iload hx hb dL_isSound_93 (lv_at hl 5 rfl) ?_
                obtain ⟨hn79, hF⟩ := ite_S hF
                refine la_ld hx hb hE hP.2.1 hn79 dL_isSound_95 ?_
                refine lv_icmp_eq (tgt := 101) hx hb dL_isSound_96 (by decide) (fun c80 => ?_) (fun c80 => ?_)
                · have hF := ite_T c80 hF
                  exact l_L_isSound_101 X Y (f_L_isSound_13 G V U n) ih13 30 _ _ _ _ _ hP hS (lv_sub hl [1, 2, 3, 4, 5, 0] rfl) hF
                · have hF := ite_F c80 hF
                  refine lv_iconst (v := 0) hx hb dL_isSound_99 (by decide) ?_
                  obtain ⟨e1, e2⟩ := Prod.mk.inj (Option.some.inj hF)
                  subst e1
                  subst e2
                  exact l_zret X hS (P := SHp D ad cI cZ cP ra G V U _) ⟨hP.1, hP.2.1⟩ rfl (Or.inl rfl) dL_isSound_100
