/-! the sixteen rows of write's array of arrays (printed from the bytecode) -/
theorem v3_0 : vp_in 0 3 := vp_in_nI (show 0 < 3 by decide) (by decide)
theorem v3_1 : vp_in 1 3 := vp_in_nI (show 1 < 3 by decide) (by decide)
theorem v3_2 : vp_in 2 3 := vp_in_nI (show 2 < 3 by decide) (by decide)
section
variable {p : Program} {l : Launch} {e : Env} {R : Room} {s : State} {m : MethodId} {args : Array Value} {below : List Frame} {meth : Method} {c : Code} {H : Heap} {locs : List Loc} {cells slots : Nat} {Q : State → Prop}
variable {nL : Nat} {ls : Array Slot} {D : va_G} {ad : Nat → Nat → Nat → Nat} {cI cZ cP : ClassId} {A B : Nat → Prop} {G : MT} {b L : Nat} {xs : Nat → Int32} {cA : ClassId} {oa k z M : Nat} {x y w4 w2 : Int32}
/-- what the rows of write stand on -/
def WY (s : State) (D : va_G) (ad : Nat → Nat → Nat → Nat) (cI : ClassId) (A B : Nat → Prop) (cA : ClassId) (oa : Nat) (R : Room) (k M : Nat) : Prop := Lay ad A ∧ (∀ q, A q → q < oa) ∧ OK0 cI cA s ∧ B oa ∧ (∀ q, oa ≤ q → B q) ∧ (1 ≤ R.frames ∧ 21 ≤ R.locals) ∧ k < 12 ∧ 1 ≤ M ∧ M ≤ 3

set_option maxRecDepth 20000 in
set_option maxHeartbeats 2000000 in
theorem wb_0 (X : MX p s m args meth c cL_write RL 10 (some .boolean) D ad cI cZ cP A) (Y : WY s D ad cI A B cA oa R k M) (h : wKO D ad cI cZ cP G s b L xs cA oa k 0 z H) (hS : va_S B s.heap H locs) (hcs : cells + 1 ≤ R.cells ∧ slots + 3 ≤ R.slots) (hl : lv_has ls 10 [(7, .int y), (6, .int x), (5, .int (nI k)), (4, .int w4), (0, .ref (ad 2 16 0)), (1, .ref b), (2, .int w2), (3, .int (nI M))]) (kk : ∀ (H1 : Heap) (locs1 : List Loc) (z1 : Nat), wKO D ad cI cZ cP G s b L xs cA oa k 1 z1 H1 → va_S B s.heap H1 locs1 → W p l e R s m args below meth c H1 locs1 (cells + 1) (slots + 3) Q (F0 m 99 ls [.ref oa])) : W p l e R s m args below meth c H locs cells slots Q (F0 m 73 ls [.ref oa]) := by
  obtain ⟨hx, hb, hml, hown, htm, hr, hlk, hE⟩ := id X
  obtain ⟨hLA, hAo, hO, hBo, hBq, hR, hk12, hM1, hM3⟩ := Y
  have hzo := h.2.2.1
  have hAz : ∀ q, A q → q < z := fun q hq => by have := hAo q hq; omega
  refine lv_dup hx hb dL_write_73 rfl ?_
  refine lv_iconst (v := 0) hx hb dL_write_74 (by decide) ?_
  refine lv_iconst (v := 3) hx hb dL_write_75 (by decide) ?_
  refine la_new hx hb (htm _ qw_3) hE hS (n := 3) (N := 3) (by decide) (by decide) (by decide) hcs.1 hcs.2 dL_write_76 (fun H1 hT hk1 hz1 hS1 => ?_)
  have hzH := h.2.2.2.2.2.1
  have h := h.keep hLA hAz (fun q hq => hk1 q (by omega)) (by omega)
  have hq0 : z ≤ H.size := hzH
  have hBq0 : B H.size := hBq _ (by omega)
  generalize e0 : H.size = q0 at *
  refine lv_dup hx hb dL_write_78 rfl ?_
  refine lv_iconst (v := 0) hx hb dL_write_79 (by decide) ?_
  refine lv_iconst (v := 0) hx hb dL_write_80 (by decide) ?_
  refine la_st hx hb hE hT hBq0 hS1 (i := 0) (x := 0) v3_0 dL_write_81 (fun H2 locs2 hT hoq hzq hSb => ?_)
  have h := h.keep hLA hAz (fun q hq => hoq q (by omega)) (by have := h.2.2.2.2.2.1; omega)
  refine lv_dup hx hb dL_write_82 rfl ?_
  refine lv_iconst (v := 1) hx hb dL_write_83 (by decide) ?_
  refine lv_iload hx hb dL_write_84 (lv_at hl 0 rfl) ?_
  refine lv_bipush (v := 9) hx hb dL_write_86 (by decide) ?_
  obtain ⟨j88, hj88, ej88⟩ := bl_at (y) (n := 9) (by omega) (by omega)
  refine n_below hx hb hml hown htm hSb ej88 hR ⟨Nat.le_trans (Nat.le_refl _) hcs.1, hcs.2⟩ hl.1 (rest := [.int 1, .ref q0, .ref q0, .int 0, .ref oa, .ref oa]) (Nat.le_of_ble_eq_true rfl) dL_write_88 (fun H3 locs3 hkb hzb hSb => ?_)
  have hT := hT.kept (hkb q0 hT.lt2)
  have h := h.keep hLA hAz (fun q hq => hkb q (by have := h.2.2.2.2.2.1; omega)) (Nat.le_trans h.2.2.2.2.2.1 hzb)
  refine lv_iconst (v := 2) hx hb dL_write_91 (by decide) ?_
  refine lv_isub hx hb dL_write_92 ?_
  refine la_st hx hb hE hT hBq0 hSb (i := 1) (x := ((nI j88) - 2)) v3_1 dL_write_93 (fun H4 locs4 hT hoq hzq hSb => ?_)
  have h := h.keep hLA hAz (fun q hq => hoq q (by omega)) (by have := h.2.2.2.2.2.1; omega)
  refine lv_dup hx hb dL_write_94 rfl ?_
  refine lv_iconst (v := 2) hx hb dL_write_95 (by decide) ?_
  refine lv_iconst (v := 0) hx hb dL_write_96 (by decide) ?_
  refine la_st hx hb hE hT hBq0 hSb (i := 2) (x := 0) v3_2 dL_write_97 (fun H5 locs5 hT hoq hzq hSb => ?_)
  have h := h.keep hLA hAz (fun q hq => hoq q (by omega)) (by have := h.2.2.2.2.2.1; omega)
  refine la_sto hx hb hO hLA hAo h hT hq0 ?_ (by decide) hBo hSb (i := 0) rfl dL_write_98 (fun H1 locs1 h hS => kk H1 locs1 _ h hS)
  show okL k 0 (((nI j88) - 2)) 0
  exact okL.of (x := 0) (by decide) (by decide) (by decide) ((by decide : ∀ j, j < 9 → f_X6_isWithin (((nI j) - 2)) (tS0 0) (tS1 0) = some 1) j88 (by omega)) (by decide) (fun z => absurd rfl z)
set_option maxRecDepth 20000 in
set_option maxHeartbeats 2000000 in
theorem wb_1 (X : MX p s m args meth c cL_write RL 10 (some .boolean) D ad cI cZ cP A) (Y : WY s D ad cI A B cA oa R k M) (h : wKO D ad cI cZ cP G s b L xs cA oa k 1 z H) (hS : va_S B s.heap H locs) (hcs : cells + 1 ≤ R.cells ∧ slots + 3 ≤ R.slots) (hl : lv_has ls 10 [(7, .int y), (6, .int x), (5, .int (nI k)), (4, .int w4), (0, .ref (ad 2 16 0)), (1, .ref b), (2, .int w2), (3, .int (nI M))]) (kk : ∀ (H1 : Heap) (locs1 : List Loc) (z1 : Nat), wKO D ad cI cZ cP G s b L xs cA oa k 2 z1 H1 → va_S B s.heap H1 locs1 → W p l e R s m args below meth c H1 locs1 (cells + 1) (slots + 3) Q (F0 m 130 ls [.ref oa])) : W p l e R s m args below meth c H locs cells slots Q (F0 m 99 ls [.ref oa]) := by
  obtain ⟨hx, hb, hml, hown, htm, hr, hlk, hE⟩ := id X
  obtain ⟨hLA, hAo, hO, hBo, hBq, hR, hk12, hM1, hM3⟩ := Y
  have hzo := h.2.2.1
  have hAz : ∀ q, A q → q < z := fun q hq => by have := hAo q hq; omega
  refine lv_dup hx hb dL_write_99 rfl ?_
  refine lv_iconst (v := 1) hx hb dL_write_100 (by decide) ?_
  refine lv_iconst (v := 3) hx hb dL_write_101 (by decide) ?_
  refine la_new hx hb (htm _ qw_3) hE hS (n := 3) (N := 3) (by decide) (by decide) (by decide) hcs.1 hcs.2 dL_write_102 (fun H1 hT hk1 hz1 hS1 => ?_)
  have hzH := h.2.2.2.2.2.1
  have h := h.keep hLA hAz (fun q hq => hk1 q (by omega)) (by omega)
  have hq0 : z ≤ H.size := hzH
  have hBq0 : B H.size := hBq _ (by omega)
  generalize e0 : H.size = q0 at *
  refine lv_dup hx hb dL_write_104 rfl ?_
  refine lv_iconst (v := 0) hx hb dL_write_105 (by decide) ?_
  refine lv_bipush (v := 14) hx hb dL_write_106 (by decide) ?_
  refine la_st hx hb hE hT hBq0 hS1 (i := 0) (x := 14) v3_0 dL_write_108 (fun H2 locs2 hT hoq hzq hSb => ?_)
  have h := h.keep hLA hAz (fun q hq => hoq q (by omega)) (by have := h.2.2.2.2.2.1; omega)
  refine lv_dup hx hb dL_write_109 rfl ?_
  refine lv_iconst (v := 1) hx hb dL_write_110 (by decide) ?_
  refine lv_iload hx hb dL_write_111 (lv_at hl 0 rfl) ?_
  refine lv_iconst (v := 5) hx hb dL_write_113 (by decide) ?_
  obtain ⟨j114, hj114, ej114⟩ := bl_at (y) (n := 5) (by omega) (by omega)
  refine n_below hx hb hml hown htm hSb ej114 hR ⟨Nat.le_trans (Nat.le_refl _) hcs.1, hcs.2⟩ hl.1 (rest := [.int 1, .ref q0, .ref q0, .int 1, .ref oa, .ref oa]) (Nat.le_of_ble_eq_true rfl) dL_write_114 (fun H3 locs3 hkb hzb hSb => ?_)
  have hT := hT.kept (hkb q0 hT.lt2)
  have h := h.keep hLA hAz (fun q hq => hkb q (by have := h.2.2.2.2.2.1; omega)) (Nat.le_trans h.2.2.2.2.2.1 hzb)
  refine la_st hx hb hE hT hBq0 hSb (i := 1) (x := (nI j114)) v3_1 dL_write_117 (fun H4 locs4 hT hoq hzq hSb => ?_)
  have h := h.keep hLA hAz (fun q hq => hoq q (by omega)) (by have := h.2.2.2.2.2.1; omega)
  refine lv_dup hx hb dL_write_118 rfl ?_
  refine lv_iconst (v := 2) hx hb dL_write_119 (by decide) ?_
  refine lv_iload hx hb dL_write_120 (lv_at hl 0 rfl) ?_
  refine lv_iconst (v := 3) hx hb dL_write_122 (by decide) ?_
  refine lv_ishr hx hb dL_write_123 ?_
  refine lv_iconst (v := 5) hx hb dL_write_124 (by decide) ?_
  obtain ⟨j125, hj125, ej125⟩ := bl_at ((y >>> (3 &&& 31))) (n := 5) (by omega) (by omega)
  refine n_below hx hb hml hown htm hSb ej125 hR ⟨Nat.le_trans (Nat.le_refl _) hcs.1, hcs.2⟩ hl.1 (rest := [.int 2, .ref q0, .ref q0, .int 1, .ref oa, .ref oa]) (Nat.le_of_ble_eq_true rfl) dL_write_125 (fun H5 locs5 hkb hzb hSb => ?_)
  have hT := hT.kept (hkb q0 hT.lt2)
  have h := h.keep hLA hAz (fun q hq => hkb q (by have := h.2.2.2.2.2.1; omega)) (Nat.le_trans h.2.2.2.2.2.1 hzb)
  refine la_st hx hb hE hT hBq0 hSb (i := 2) (x := (nI j125)) v3_2 dL_write_128 (fun H6 locs6 hT hoq hzq hSb => ?_)
  have h := h.keep hLA hAz (fun q hq => hoq q (by omega)) (by have := h.2.2.2.2.2.1; omega)
  refine la_sto hx hb hO hLA hAo h hT hq0 ?_ (by decide) hBo hSb (i := 1) rfl dL_write_129 (fun H1 locs1 h hS => kk H1 locs1 _ h hS)
  show okL k 14 (nI j114) (nI j125)
  exact okL.of (x := 14) (by decide) (by decide) (by decide) ((by decide : ∀ j, j < 5 → f_X6_isWithin ((nI j)) (tS0 14) (tS1 14) = some 1) j114 (by omega)) ((by decide : ∀ j, j < 5 → f_X6_isWithin ((nI j)) 0 (tS2 14) = some 1) j125 (by omega)) (fun _ => (by decide : ∀ j, j < 5 → (0 : Int32) ≤ ((nI j))) j114 (by omega))
set_option maxRecDepth 20000 in
set_option maxHeartbeats 2000000 in
theorem wb_2 (X : MX p s m args meth c cL_write RL 10 (some .boolean) D ad cI cZ cP A) (Y : WY s D ad cI A B cA oa R k M) (h : wKO D ad cI cZ cP G s b L xs cA oa k 2 z H) (hS : va_S B s.heap H locs) (hcs : cells + 1 ≤ R.cells ∧ slots + 3 ≤ R.slots) (hl : lv_has ls 10 [(7, .int y), (6, .int x), (5, .int (nI k)), (4, .int w4), (0, .ref (ad 2 16 0)), (1, .ref b), (2, .int w2), (3, .int (nI M))]) (kk : ∀ (H1 : Heap) (locs1 : List Loc) (z1 : Nat), wKO D ad cI cZ cP G s b L xs cA oa k 3 z1 H1 → va_S B s.heap H1 locs1 → W p l e R s m args below meth c H1 locs1 (cells + 1) (slots + 3) Q (F0 m 161 ls [.ref oa])) : W p l e R s m args below meth c H locs cells slots Q (F0 m 130 ls [.ref oa]) := by
  obtain ⟨hx, hb, hml, hown, htm, hr, hlk, hE⟩ := id X
  obtain ⟨hLA, hAo, hO, hBo, hBq, hR, hk12, hM1, hM3⟩ := Y
  have hzo := h.2.2.1
  have hAz : ∀ q, A q → q < z := fun q hq => by have := hAo q hq; omega
  refine lv_dup hx hb dL_write_130 rfl ?_
  refine lv_iconst (v := 2) hx hb dL_write_131 (by decide) ?_
  refine lv_iconst (v := 3) hx hb dL_write_132 (by decide) ?_
  refine la_new hx hb (htm _ qw_3) hE hS (n := 3) (N := 3) (by decide) (by decide) (by decide) hcs.1 hcs.2 dL_write_133 (fun H1 hT hk1 hz1 hS1 => ?_)
  have hzH := h.2.2.2.2.2.1
  have h := h.keep hLA hAz (fun q hq => hk1 q (by omega)) (by omega)
  have hq0 : z ≤ H.size := hzH
  have hBq0 : B H.size := hBq _ (by omega)
  generalize e0 : H.size = q0 at *
  refine lv_dup hx hb dL_write_135 rfl ?_
  refine lv_iconst (v := 0) hx hb dL_write_136 (by decide) ?_
  refine lv_bipush (v := 6) hx hb dL_write_137 (by decide) ?_
  refine la_st hx hb hE hT hBq0 hS1 (i := 0) (x := 6) v3_0 dL_write_139 (fun H2 locs2 hT hoq hzq hSb => ?_)
  have h := h.keep hLA hAz (fun q hq => hoq q (by omega)) (by have := h.2.2.2.2.2.1; omega)
  refine lv_dup hx hb dL_write_140 rfl ?_
  refine lv_iconst (v := 1) hx hb dL_write_141 (by decide) ?_
  refine lv_iload hx hb dL_write_142 (lv_at hl 0 rfl) ?_
  refine lv_iload_n hx hb dL_write_144 rfl (lv_at hl 7 rfl) ?_
  obtain ⟨j145, hj145, ej145⟩ := bl_at (y) (n := M) (by omega) (by omega)
  refine n_below hx hb hml hown htm hSb ej145 hR ⟨Nat.le_trans (Nat.le_refl _) hcs.1, hcs.2⟩ hl.1 (rest := [.int 1, .ref q0, .ref q0, .int 2, .ref oa, .ref oa]) (Nat.le_of_ble_eq_true rfl) dL_write_145 (fun H3 locs3 hkb hzb hSb => ?_)
  have hT := hT.kept (hkb q0 hT.lt2)
  have h := h.keep hLA hAz (fun q hq => hkb q (by have := h.2.2.2.2.2.1; omega)) (Nat.le_trans h.2.2.2.2.2.1 hzb)
  refine la_st hx hb hE hT hBq0 hSb (i := 1) (x := (nI j145)) v3_1 dL_write_148 (fun H4 locs4 hT hoq hzq hSb => ?_)
  have h := h.keep hLA hAz (fun q hq => hoq q (by omega)) (by have := h.2.2.2.2.2.1; omega)
  refine lv_dup hx hb dL_write_149 rfl ?_
  refine lv_iconst (v := 2) hx hb dL_write_150 (by decide) ?_
  refine lv_iload hx hb dL_write_151 (lv_at hl 0 rfl) ?_
  refine lv_iconst (v := 4) hx hb dL_write_153 (by decide) ?_
  refine lv_ishr hx hb dL_write_154 ?_
  refine lv_iconst (v := 2) hx hb dL_write_155 (by decide) ?_
  obtain ⟨j156, hj156, ej156⟩ := bl_at ((y >>> (4 &&& 31))) (n := 2) (by omega) (by omega)
  refine n_below hx hb hml hown htm hSb ej156 hR ⟨Nat.le_trans (Nat.le_refl _) hcs.1, hcs.2⟩ hl.1 (rest := [.int 2, .ref q0, .ref q0, .int 2, .ref oa, .ref oa]) (Nat.le_of_ble_eq_true rfl) dL_write_156 (fun H5 locs5 hkb hzb hSb => ?_)
  have hT := hT.kept (hkb q0 hT.lt2)
  have h := h.keep hLA hAz (fun q hq => hkb q (by have := h.2.2.2.2.2.1; omega)) (Nat.le_trans h.2.2.2.2.2.1 hzb)
  refine la_st hx hb hE hT hBq0 hSb (i := 2) (x := (nI j156)) v3_2 dL_write_159 (fun H6 locs6 hT hoq hzq hSb => ?_)
  have h := h.keep hLA hAz (fun q hq => hoq q (by omega)) (by have := h.2.2.2.2.2.1; omega)
  refine la_sto hx hb hO hLA hAo h hT hq0 ?_ (by decide) hBo hSb (i := 2) rfl dL_write_160 (fun H1 locs1 h hS => kk H1 locs1 _ h hS)
  show okL k 6 (nI j145) (nI j156)
  exact okL.of (x := 6) (by decide) (by decide) (by decide) ((by decide : ∀ j, j < 4 → f_X6_isWithin ((nI j)) (tS0 6) (tS1 6) = some 1) j145 (by omega)) ((by decide : ∀ j, j < 2 → f_X6_isWithin ((nI j)) 0 (tS2 6) = some 1) j156 (by omega)) (fun _ => (by decide : ∀ j, j < 4 → (0 : Int32) ≤ ((nI j))) j145 (by omega))
set_option maxRecDepth 20000 in
set_option maxHeartbeats 2000000 in
theorem wb_3 (X : MX p s m args meth c cL_write RL 10 (some .boolean) D ad cI cZ cP A) (Y : WY s D ad cI A B cA oa R k M) (h : wKO D ad cI cZ cP G s b L xs cA oa k 3 z H) (hS : va_S B s.heap H locs) (hcs : cells + 1 ≤ R.cells ∧ slots + 3 ≤ R.slots) (hl : lv_has ls 10 [(7, .int y), (6, .int x), (5, .int (nI k)), (4, .int w4), (0, .ref (ad 2 16 0)), (1, .ref b), (2, .int w2), (3, .int (nI M))]) (kk : ∀ (H1 : Heap) (locs1 : List Loc) (z1 : Nat), wKO D ad cI cZ cP G s b L xs cA oa k 4 z1 H1 → va_S B s.heap H1 locs1 → W p l e R s m args below meth c H1 locs1 (cells + 1) (slots + 3) Q (F0 m 180 ls [.ref oa])) : W p l e R s m args below meth c H locs cells slots Q (F0 m 161 ls [.ref oa]) := by
  obtain ⟨hx, hb, hml, hown, htm, hr, hlk, hE⟩ := id X
  obtain ⟨hLA, hAo, hO, hBo, hBq, hR, hk12, hM1, hM3⟩ := Y
  have hzo := h.2.2.1
  have hAz : ∀ q, A q → q < z := fun q hq => by have := hAo q hq; omega
  refine lv_dup hx hb dL_write_161 rfl ?_
  refine lv_iconst (v := 3) hx hb dL_write_162 (by decide) ?_
  refine lv_iconst (v := 3) hx hb dL_write_163 (by decide) ?_
  refine la_new hx hb (htm _ qw_3) hE hS (n := 3) (N := 3) (by decide) (by decide) (by decide) hcs.1 hcs.2 dL_write_164 (fun H1 hT hk1 hz1 hS1 => ?_)
  have hzH := h.2.2.2.2.2.1
  have h := h.keep hLA hAz (fun q hq => hk1 q (by omega)) (by omega)
  have hq0 : z ≤ H.size := hzH
  have hBq0 : B H.size := hBq _ (by omega)
  generalize e0 : H.size = q0 at *
  refine lv_dup hx hb dL_write_166 rfl ?_
  refine lv_iconst (v := 0) hx hb dL_write_167 (by decide) ?_
  refine lv_bipush (v := 7) hx hb dL_write_168 (by decide) ?_
  refine la_st hx hb hE hT hBq0 hS1 (i := 0) (x := 7) v3_0 dL_write_170 (fun H2 locs2 hT hoq hzq hSb => ?_)
  have h := h.keep hLA hAz (fun q hq => hoq q (by omega)) (by have := h.2.2.2.2.2.1; omega)
  refine lv_dup hx hb dL_write_171 rfl ?_
  refine lv_iconst (v := 1) hx hb dL_write_172 (by decide) ?_
  refine lv_iconst (v := 0) hx hb dL_write_173 (by decide) ?_
  refine la_st hx hb hE hT hBq0 hSb (i := 1) (x := 0) v3_1 dL_write_174 (fun H3 locs3 hT hoq hzq hSb => ?_)
  have h := h.keep hLA hAz (fun q hq => hoq q (by omega)) (by have := h.2.2.2.2.2.1; omega)
  refine lv_dup hx hb dL_write_175 rfl ?_
  refine lv_iconst (v := 2) hx hb dL_write_176 (by decide) ?_
  refine lv_iconst (v := 0) hx hb dL_write_177 (by decide) ?_
  refine la_st hx hb hE hT hBq0 hSb (i := 2) (x := 0) v3_2 dL_write_178 (fun H4 locs4 hT hoq hzq hSb => ?_)
  have h := h.keep hLA hAz (fun q hq => hoq q (by omega)) (by have := h.2.2.2.2.2.1; omega)
  refine la_sto hx hb hO hLA hAo h hT hq0 ?_ (by decide) hBo hSb (i := 3) rfl dL_write_179 (fun H1 locs1 h hS => kk H1 locs1 _ h hS)
  show okL k 7 0 0
  exact okL.of (x := 7) (by decide) (by decide) (by decide) (by decide) (by decide) (fun _ => by decide)
set_option maxRecDepth 20000 in
set_option maxHeartbeats 2000000 in
theorem wb_4 (X : MX p s m args meth c cL_write RL 10 (some .boolean) D ad cI cZ cP A) (Y : WY s D ad cI A B cA oa R k M) (h : wKO D ad cI cZ cP G s b L xs cA oa k 4 z H) (hS : va_S B s.heap H locs) (hcs : cells + 1 ≤ R.cells ∧ slots + 3 ≤ R.slots) (hl : lv_has ls 10 [(7, .int y), (6, .int x), (5, .int (nI k)), (4, .int w4), (0, .ref (ad 2 16 0)), (1, .ref b), (2, .int w2), (3, .int (nI M))]) (kk : ∀ (H1 : Heap) (locs1 : List Loc) (z1 : Nat), wKO D ad cI cZ cP G s b L xs cA oa k 5 z1 H1 → va_S B s.heap H1 locs1 → W p l e R s m args below meth c H1 locs1 (cells + 1) (slots + 3) Q (F0 m 199 ls [.ref oa])) : W p l e R s m args below meth c H locs cells slots Q (F0 m 180 ls [.ref oa]) := by
  obtain ⟨hx, hb, hml, hown, htm, hr, hlk, hE⟩ := id X
  obtain ⟨hLA, hAo, hO, hBo, hBq, hR, hk12, hM1, hM3⟩ := Y
  have hzo := h.2.2.1
  have hAz : ∀ q, A q → q < z := fun q hq => by have := hAo q hq; omega
  refine lv_dup hx hb dL_write_180 rfl ?_
  refine lv_iconst (v := 4) hx hb dL_write_181 (by decide) ?_
  refine lv_iconst (v := 3) hx hb dL_write_182 (by decide) ?_
  refine la_new hx hb (htm _ qw_3) hE hS (n := 3) (N := 3) (by decide) (by decide) (by decide) hcs.1 hcs.2 dL_write_183 (fun H1 hT hk1 hz1 hS1 => ?_)
  have hzH := h.2.2.2.2.2.1
  have h := h.keep hLA hAz (fun q hq => hk1 q (by omega)) (by omega)
  have hq0 : z ≤ H.size := hzH
  have hBq0 : B H.size := hBq _ (by omega)
  generalize e0 : H.size = q0 at *
  refine lv_dup hx hb dL_write_185 rfl ?_
  refine lv_iconst (v := 0) hx hb dL_write_186 (by decide) ?_
  refine lv_bipush (v := 9) hx hb dL_write_187 (by decide) ?_
  refine la_st hx hb hE hT hBq0 hS1 (i := 0) (x := 9) v3_0 dL_write_189 (fun H2 locs2 hT hoq hzq hSb => ?_)
  have h := h.keep hLA hAz (fun q hq => hoq q (by omega)) (by have := h.2.2.2.2.2.1; omega)
  refine lv_dup hx hb dL_write_190 rfl ?_
  refine lv_iconst (v := 1) hx hb dL_write_191 (by decide) ?_
  refine lv_iconst (v := 0) hx hb dL_write_192 (by decide) ?_
  refine la_st hx hb hE hT hBq0 hSb (i := 1) (x := 0) v3_1 dL_write_193 (fun H3 locs3 hT hoq hzq hSb => ?_)
  have h := h.keep hLA hAz (fun q hq => hoq q (by omega)) (by have := h.2.2.2.2.2.1; omega)
  refine lv_dup hx hb dL_write_194 rfl ?_
  refine lv_iconst (v := 2) hx hb dL_write_195 (by decide) ?_
  refine lv_iconst (v := 0) hx hb dL_write_196 (by decide) ?_
  refine la_st hx hb hE hT hBq0 hSb (i := 2) (x := 0) v3_2 dL_write_197 (fun H4 locs4 hT hoq hzq hSb => ?_)
  have h := h.keep hLA hAz (fun q hq => hoq q (by omega)) (by have := h.2.2.2.2.2.1; omega)
  refine la_sto hx hb hO hLA hAo h hT hq0 ?_ (by decide) hBo hSb (i := 4) rfl dL_write_198 (fun H1 locs1 h hS => kk H1 locs1 _ h hS)
  show okL k 9 0 0
  exact okL.of (x := 9) (by decide) (by decide) (by decide) (by decide) (by decide) (fun _ => by decide)
set_option maxRecDepth 20000 in
set_option maxHeartbeats 2000000 in
theorem wb_5 (X : MX p s m args meth c cL_write RL 10 (some .boolean) D ad cI cZ cP A) (Y : WY s D ad cI A B cA oa R k M) (h : wKO D ad cI cZ cP G s b L xs cA oa k 5 z H) (hS : va_S B s.heap H locs) (hcs : cells + 1 ≤ R.cells ∧ slots + 3 ≤ R.slots) (hl : lv_has ls 10 [(7, .int y), (6, .int x), (5, .int (nI k)), (4, .int w4), (0, .ref (ad 2 16 0)), (1, .ref b), (2, .int w2), (3, .int (nI M))]) (kk : ∀ (H1 : Heap) (locs1 : List Loc) (z1 : Nat), wKO D ad cI cZ cP G s b L xs cA oa k 6 z1 H1 → va_S B s.heap H1 locs1 → W p l e R s m args below meth c H1 locs1 (cells + 1) (slots + 3) Q (F0 m 223 ls [.ref oa])) : W p l e R s m args below meth c H locs cells slots Q (F0 m 199 ls [.ref oa]) := by
  obtain ⟨hx, hb, hml, hown, htm, hr, hlk, hE⟩ := id X
  obtain ⟨hLA, hAo, hO, hBo, hBq, hR, hk12, hM1, hM3⟩ := Y
  have hzo := h.2.2.1
  have hAz : ∀ q, A q → q < z := fun q hq => by have := hAo q hq; omega
  refine lv_dup hx hb dL_write_199 rfl ?_
  refine lv_iconst (v := 5) hx hb dL_write_200 (by decide) ?_
  refine lv_iconst (v := 3) hx hb dL_write_201 (by decide) ?_
  refine la_new hx hb (htm _ qw_3) hE hS (n := 3) (N := 3) (by decide) (by decide) (by decide) hcs.1 hcs.2 dL_write_202 (fun H1 hT hk1 hz1 hS1 => ?_)
  have hzH := h.2.2.2.2.2.1
  have h := h.keep hLA hAz (fun q hq => hk1 q (by omega)) (by omega)
  have hq0 : z ≤ H.size := hzH
  have hBq0 : B H.size := hBq _ (by omega)
  generalize e0 : H.size = q0 at *
  refine lv_dup hx hb dL_write_204 rfl ?_
  refine lv_iconst (v := 0) hx hb dL_write_205 (by decide) ?_
  refine lv_bipush (v := 10) hx hb dL_write_206 (by decide) ?_
  refine la_st hx hb hE hT hBq0 hS1 (i := 0) (x := 10) v3_0 dL_write_208 (fun H2 locs2 hT hoq hzq hSb => ?_)
  have h := h.keep hLA hAz (fun q hq => hoq q (by omega)) (by have := h.2.2.2.2.2.1; omega)
  refine lv_dup hx hb dL_write_209 rfl ?_
  refine lv_iconst (v := 1) hx hb dL_write_210 (by decide) ?_
  refine lv_iload hx hb dL_write_211 (lv_at hl 0 rfl) ?_
  refine lv_iconst (v := 2) hx hb dL_write_213 (by decide) ?_
  obtain ⟨j214, hj214, ej214⟩ := bl_at (y) (n := 2) (by omega) (by omega)
  refine n_below hx hb hml hown htm hSb ej214 hR ⟨Nat.le_trans (Nat.le_refl _) hcs.1, hcs.2⟩ hl.1 (rest := [.int 1, .ref q0, .ref q0, .int 5, .ref oa, .ref oa]) (Nat.le_of_ble_eq_true rfl) dL_write_214 (fun H3 locs3 hkb hzb hSb => ?_)
  have hT := hT.kept (hkb q0 hT.lt2)
  have h := h.keep hLA hAz (fun q hq => hkb q (by have := h.2.2.2.2.2.1; omega)) (Nat.le_trans h.2.2.2.2.2.1 hzb)
  refine la_st hx hb hE hT hBq0 hSb (i := 1) (x := (nI j214)) v3_1 dL_write_217 (fun H4 locs4 hT hoq hzq hSb => ?_)
  have h := h.keep hLA hAz (fun q hq => hoq q (by omega)) (by have := h.2.2.2.2.2.1; omega)
  refine lv_dup hx hb dL_write_218 rfl ?_
  refine lv_iconst (v := 2) hx hb dL_write_219 (by decide) ?_
  refine lv_iconst (v := 0) hx hb dL_write_220 (by decide) ?_
  refine la_st hx hb hE hT hBq0 hSb (i := 2) (x := 0) v3_2 dL_write_221 (fun H5 locs5 hT hoq hzq hSb => ?_)
  have h := h.keep hLA hAz (fun q hq => hoq q (by omega)) (by have := h.2.2.2.2.2.1; omega)
  refine la_sto hx hb hO hLA hAo h hT hq0 ?_ (by decide) hBo hSb (i := 5) rfl dL_write_222 (fun H1 locs1 h hS => kk H1 locs1 _ h hS)
  show okL k 10 (nI j214) 0
  exact okL.of (x := 10) (by decide) (by decide) (by decide) ((by decide : ∀ j, j < 2 → f_X6_isWithin ((nI j)) (tS0 10) (tS1 10) = some 1) j214 (by omega)) (by decide) (fun _ => (by decide : ∀ j, j < 2 → (0 : Int32) ≤ ((nI j))) j214 (by omega))
set_option maxRecDepth 20000 in
set_option maxHeartbeats 2000000 in
theorem wb_6 (X : MX p s m args meth c cL_write RL 10 (some .boolean) D ad cI cZ cP A) (Y : WY s D ad cI A B cA oa R k M) (h : wKO D ad cI cZ cP G s b L xs cA oa k 6 z H) (hS : va_S B s.heap H locs) (hcs : cells + 1 ≤ R.cells ∧ slots + 3 ≤ R.slots) (hl : lv_has ls 10 [(7, .int y), (6, .int x), (5, .int (nI k)), (4, .int w4), (0, .ref (ad 2 16 0)), (1, .ref b), (2, .int w2), (3, .int (nI M))]) (kk : ∀ (H1 : Heap) (locs1 : List Loc) (z1 : Nat), wKO D ad cI cZ cP G s b L xs cA oa k 7 z1 H1 → va_S B s.heap H1 locs1 → W p l e R s m args below meth c H1 locs1 (cells + 1) (slots + 3) Q (F0 m 248 ls [.ref oa])) : W p l e R s m args below meth c H locs cells slots Q (F0 m 223 ls [.ref oa]) := by
  obtain ⟨hx, hb, hml, hown, htm, hr, hlk, hE⟩ := id X
  obtain ⟨hLA, hAo, hO, hBo, hBq, hR, hk12, hM1, hM3⟩ := Y
  have hzo := h.2.2.1
  have hAz : ∀ q, A q → q < z := fun q hq => by have := hAo q hq; omega
  refine lv_dup hx hb dL_write_223 rfl ?_
  refine lv_bipush (v := 6) hx hb dL_write_224 (by decide) ?_
  refine lv_iconst (v := 3) hx hb dL_write_226 (by decide) ?_
  refine la_new hx hb (htm _ qw_3) hE hS (n := 3) (N := 3) (by decide) (by decide) (by decide) hcs.1 hcs.2 dL_write_227 (fun H1 hT hk1 hz1 hS1 => ?_)
  have hzH := h.2.2.2.2.2.1
  have h := h.keep hLA hAz (fun q hq => hk1 q (by omega)) (by omega)
  have hq0 : z ≤ H.size := hzH
  have hBq0 : B H.size := hBq _ (by omega)
  generalize e0 : H.size = q0 at *
  refine lv_dup hx hb dL_write_229 rfl ?_
  refine lv_iconst (v := 0) hx hb dL_write_230 (by decide) ?_
  refine lv_bipush (v := 12) hx hb dL_write_231 (by decide) ?_
  refine la_st hx hb hE hT hBq0 hS1 (i := 0) (x := 12) v3_0 dL_write_233 (fun H2 locs2 hT hoq hzq hSb => ?_)
  have h := h.keep hLA hAz (fun q hq => hoq q (by omega)) (by have := h.2.2.2.2.2.1; omega)
  refine lv_dup hx hb dL_write_234 rfl ?_
  refine lv_iconst (v := 1) hx hb dL_write_235 (by decide) ?_
  refine lv_iload hx hb dL_write_236 (lv_at hl 0 rfl) ?_
  refine lv_iconst (v := 2) hx hb dL_write_238 (by decide) ?_
  obtain ⟨j239, hj239, ej239⟩ := bl_at (y) (n := 2) (by omega) (by omega)
  refine n_below hx hb hml hown htm hSb ej239 hR ⟨Nat.le_trans (Nat.le_refl _) hcs.1, hcs.2⟩ hl.1 (rest := [.int 1, .ref q0, .ref q0, .int 6, .ref oa, .ref oa]) (Nat.le_of_ble_eq_true rfl) dL_write_239 (fun H3 locs3 hkb hzb hSb => ?_)
  have hT := hT.kept (hkb q0 hT.lt2)
  have h := h.keep hLA hAz (fun q hq => hkb q (by have := h.2.2.2.2.2.1; omega)) (Nat.le_trans h.2.2.2.2.2.1 hzb)
  refine la_st hx hb hE hT hBq0 hSb (i := 1) (x := (nI j239)) v3_1 dL_write_242 (fun H4 locs4 hT hoq hzq hSb => ?_)
  have h := h.keep hLA hAz (fun q hq => hoq q (by omega)) (by have := h.2.2.2.2.2.1; omega)
  refine lv_dup hx hb dL_write_243 rfl ?_
  refine lv_iconst (v := 2) hx hb dL_write_244 (by decide) ?_
  refine lv_iconst (v := 0) hx hb dL_write_245 (by decide) ?_
  refine la_st hx hb hE hT hBq0 hSb (i := 2) (x := 0) v3_2 dL_write_246 (fun H5 locs5 hT hoq hzq hSb => ?_)
  have h := h.keep hLA hAz (fun q hq => hoq q (by omega)) (by have := h.2.2.2.2.2.1; omega)
  refine la_sto hx hb hO hLA hAo h hT hq0 ?_ (by decide) hBo hSb (i := 6) rfl dL_write_247 (fun H1 locs1 h hS => kk H1 locs1 _ h hS)
  show okL k 12 (nI j239) 0
  exact okL.of (x := 12) (by decide) (by decide) (by decide) ((by decide : ∀ j, j < 2 → f_X6_isWithin ((nI j)) (tS0 12) (tS1 12) = some 1) j239 (by omega)) (by decide) (fun _ => (by decide : ∀ j, j < 2 → (0 : Int32) ≤ ((nI j))) j239 (by omega))
set_option maxRecDepth 20000 in
set_option maxHeartbeats 2000000 in
theorem wb_7 (X : MX p s m args meth c cL_write RL 10 (some .boolean) D ad cI cZ cP A) (Y : WY s D ad cI A B cA oa R k M) (h : wKO D ad cI cZ cP G s b L xs cA oa k 7 z H) (hS : va_S B s.heap H locs) (hcs : cells + 1 ≤ R.cells ∧ slots + 3 ≤ R.slots) (hl : lv_has ls 10 [(7, .int y), (6, .int x), (5, .int (nI k)), (4, .int w4), (0, .ref (ad 2 16 0)), (1, .ref b), (2, .int w2), (3, .int (nI M))]) (kk : ∀ (H1 : Heap) (locs1 : List Loc) (z1 : Nat), wKO D ad cI cZ cP G s b L xs cA oa k 8 z1 H1 → va_S B s.heap H1 locs1 → W p l e R s m args below meth c H1 locs1 (cells + 1) (slots + 3) Q (F0 m 276 ls [.ref oa])) : W p l e R s m args below meth c H locs cells slots Q (F0 m 248 ls [.ref oa]) := by
  obtain ⟨hx, hb, hml, hown, htm, hr, hlk, hE⟩ := id X
  obtain ⟨hLA, hAo, hO, hBo, hBq, hR, hk12, hM1, hM3⟩ := Y
  have hzo := h.2.2.1
  have hAz : ∀ q, A q → q < z := fun q hq => by have := hAo q hq; omega
  refine lv_dup hx hb dL_write_248 rfl ?_
  refine lv_bipush (v := 7) hx hb dL_write_249 (by decide) ?_
  refine lv_iconst (v := 3) hx hb dL_write_251 (by decide) ?_
  refine la_new hx hb (htm _ qw_3) hE hS (n := 3) (N := 3) (by decide) (by decide) (by decide) hcs.1 hcs.2 dL_write_252 (fun H1 hT hk1 hz1 hS1 => ?_)
  have hzH := h.2.2.2.2.2.1
  have h := h.keep hLA hAz (fun q hq => hk1 q (by omega)) (by omega)
  have hq0 : z ≤ H.size := hzH
  have hBq0 : B H.size := hBq _ (by omega)
  generalize e0 : H.size = q0 at *
  refine lv_dup hx hb dL_write_254 rfl ?_
  refine lv_iconst (v := 0) hx hb dL_write_255 (by decide) ?_
  refine lv_bipush (v := 17) hx hb dL_write_256 (by decide) ?_
  refine la_st hx hb hE hT hBq0 hS1 (i := 0) (x := 17) v3_0 dL_write_258 (fun H2 locs2 hT hoq hzq hSb => ?_)
  have h := h.keep hLA hAz (fun q hq => hoq q (by omega)) (by have := h.2.2.2.2.2.1; omega)
  refine lv_dup hx hb dL_write_259 rfl ?_
  refine lv_iconst (v := 1) hx hb dL_write_260 (by decide) ?_
  refine lv_iconst (v := 1) hx hb dL_write_261 (by decide) ?_
  refine lv_iload hx hb dL_write_262 (lv_at hl 0 rfl) ?_
  refine lv_bipush (v := 9) hx hb dL_write_264 (by decide) ?_
  obtain ⟨j266, hj266, ej266⟩ := bl_at (y) (n := 9) (by omega) (by omega)
  refine n_below hx hb hml hown htm hSb ej266 hR ⟨Nat.le_trans (Nat.le_refl _) hcs.1, hcs.2⟩ hl.1 (rest := [.int 1, .int 1, .ref q0, .ref q0, .int 7, .ref oa, .ref oa]) (Nat.le_of_ble_eq_true rfl) dL_write_266 (fun H3 locs3 hkb hzb hSb => ?_)
  have hT := hT.kept (hkb q0 hT.lt2)
  have h := h.keep hLA hAz (fun q hq => hkb q (by have := h.2.2.2.2.2.1; omega)) (Nat.le_trans h.2.2.2.2.2.1 hzb)
  refine lv_iadd hx hb dL_write_269 ?_
  refine la_st hx hb hE hT hBq0 hSb (i := 1) (x := (1 + (nI j266))) v3_1 dL_write_270 (fun H4 locs4 hT hoq hzq hSb => ?_)
  have h := h.keep hLA hAz (fun q hq => hoq q (by omega)) (by have := h.2.2.2.2.2.1; omega)
  refine lv_dup hx hb dL_write_271 rfl ?_
  refine lv_iconst (v := 2) hx hb dL_write_272 (by decide) ?_
  refine lv_iconst (v := 0) hx hb dL_write_273 (by decide) ?_
  refine la_st hx hb hE hT hBq0 hSb (i := 2) (x := 0) v3_2 dL_write_274 (fun H5 locs5 hT hoq hzq hSb => ?_)
  have h := h.keep hLA hAz (fun q hq => hoq q (by omega)) (by have := h.2.2.2.2.2.1; omega)
  refine la_sto hx hb hO hLA hAo h hT hq0 ?_ (by decide) hBo hSb (i := 7) rfl dL_write_275 (fun H1 locs1 h hS => kk H1 locs1 _ h hS)
  show okL k 17 ((1 + (nI j266))) 0
  exact okL.of (x := 17) (by decide) (by decide) (by decide) ((by decide : ∀ j, j < 9 → f_X6_isWithin ((1 + (nI j))) (tS0 17) (tS1 17) = some 1) j266 (by omega)) (by decide) (fun _ => (by decide : ∀ j, j < 9 → (0 : Int32) ≤ ((1 + (nI j)))) j266 (by omega))
set_option maxRecDepth 20000 in
set_option maxHeartbeats 2000000 in
theorem wb_8 (X : MX p s m args meth c cL_write RL 10 (some .boolean) D ad cI cZ cP A) (Y : WY s D ad cI A B cA oa R k M) (h : wKO D ad cI cZ cP G s b L xs cA oa k 8 z H) (hS : va_S B s.heap H locs) (hcs : cells + 1 ≤ R.cells ∧ slots + 3 ≤ R.slots) (hl : lv_has ls 10 [(7, .int y), (6, .int x), (5, .int (nI k)), (4, .int w4), (0, .ref (ad 2 16 0)), (1, .ref b), (2, .int w2), (3, .int (nI M))]) (kk : ∀ (H1 : Heap) (locs1 : List Loc) (z1 : Nat), wKO D ad cI cZ cP G s b L xs cA oa k 9 z1 H1 → va_S B s.heap H1 locs1 → W p l e R s m args below meth c H1 locs1 (cells + 1) (slots + 3) Q (F0 m 303 ls [.ref oa])) : W p l e R s m args below meth c H locs cells slots Q (F0 m 276 ls [.ref oa]) := by
  obtain ⟨hx, hb, hml, hown, htm, hr, hlk, hE⟩ := id X
  obtain ⟨hLA, hAo, hO, hBo, hBq, hR, hk12, hM1, hM3⟩ := Y
  have hzo := h.2.2.1
  have hAz : ∀ q, A q → q < z := fun q hq => by have := hAo q hq; omega
  refine lv_dup hx hb dL_write_276 rfl ?_
  refine lv_bipush (v := 8) hx hb dL_write_277 (by decide) ?_
  refine lv_iconst (v := 3) hx hb dL_write_279 (by decide) ?_
  refine la_new hx hb (htm _ qw_3) hE hS (n := 3) (N := 3) (by decide) (by decide) (by decide) hcs.1 hcs.2 dL_write_280 (fun H1 hT hk1 hz1 hS1 => ?_)
  have hzH := h.2.2.2.2.2.1
  have h := h.keep hLA hAz (fun q hq => hk1 q (by omega)) (by omega)
  have hq0 : z ≤ H.size := hzH
  have hBq0 : B H.size := hBq _ (by omega)
  generalize e0 : H.size = q0 at *
  refine lv_dup hx hb dL_write_282 rfl ?_
  refine lv_iconst (v := 0) hx hb dL_write_283 (by decide) ?_
  refine lv_bipush (v := 15) hx hb dL_write_284 (by decide) ?_
  refine la_st hx hb hE hT hBq0 hS1 (i := 0) (x := 15) v3_0 dL_write_286 (fun H2 locs2 hT hoq hzq hSb => ?_)
  have h := h.keep hLA hAz (fun q hq => hoq q (by omega)) (by have := h.2.2.2.2.2.1; omega)
  refine lv_dup hx hb dL_write_287 rfl ?_
  refine lv_iconst (v := 1) hx hb dL_write_288 (by decide) ?_
  refine lv_iconst (v := 1) hx hb dL_write_289 (by decide) ?_
  refine lv_iload hx hb dL_write_290 (lv_at hl 0 rfl) ?_
  refine lv_iconst (v := 3) hx hb dL_write_292 (by decide) ?_
  obtain ⟨j293, hj293, ej293⟩ := bl_at (y) (n := 3) (by omega) (by omega)
  refine n_below hx hb hml hown htm hSb ej293 hR ⟨Nat.le_trans (Nat.le_refl _) hcs.1, hcs.2⟩ hl.1 (rest := [.int 1, .int 1, .ref q0, .ref q0, .int 8, .ref oa, .ref oa]) (Nat.le_of_ble_eq_true rfl) dL_write_293 (fun H3 locs3 hkb hzb hSb => ?_)
  have hT := hT.kept (hkb q0 hT.lt2)
  have h := h.keep hLA hAz (fun q hq => hkb q (by have := h.2.2.2.2.2.1; omega)) (Nat.le_trans h.2.2.2.2.2.1 hzb)
  refine lv_iadd hx hb dL_write_296 ?_
  refine la_st hx hb hE hT hBq0 hSb (i := 1) (x := (1 + (nI j293))) v3_1 dL_write_297 (fun H4 locs4 hT hoq hzq hSb => ?_)
  have h := h.keep hLA hAz (fun q hq => hoq q (by omega)) (by have := h.2.2.2.2.2.1; omega)
  refine lv_dup hx hb dL_write_298 rfl ?_
  refine lv_iconst (v := 2) hx hb dL_write_299 (by decide) ?_
  refine lv_iconst (v := 0) hx hb dL_write_300 (by decide) ?_
  refine la_st hx hb hE hT hBq0 hSb (i := 2) (x := 0) v3_2 dL_write_301 (fun H5 locs5 hT hoq hzq hSb => ?_)
  have h := h.keep hLA hAz (fun q hq => hoq q (by omega)) (by have := h.2.2.2.2.2.1; omega)
  refine la_sto hx hb hO hLA hAo h hT hq0 ?_ (by decide) hBo hSb (i := 8) rfl dL_write_302 (fun H1 locs1 h hS => kk H1 locs1 _ h hS)
  show okL k 15 ((1 + (nI j293))) 0
  exact okL.of (x := 15) (by decide) (by decide) (by decide) ((by decide : ∀ j, j < 3 → f_X6_isWithin ((1 + (nI j))) (tS0 15) (tS1 15) = some 1) j293 (by omega)) (by decide) (fun _ => (by decide : ∀ j, j < 3 → (0 : Int32) ≤ ((1 + (nI j)))) j293 (by omega))
set_option maxRecDepth 20000 in
set_option maxHeartbeats 2000000 in
theorem wb_9 (X : MX p s m args meth c cL_write RL 10 (some .boolean) D ad cI cZ cP A) (Y : WY s D ad cI A B cA oa R k M) (h : wKO D ad cI cZ cP G s b L xs cA oa k 9 z H) (hS : va_S B s.heap H locs) (hcs : cells + 1 ≤ R.cells ∧ slots + 3 ≤ R.slots) (hl : lv_has ls 10 [(7, .int y), (6, .int x), (5, .int (nI k)), (4, .int w4), (0, .ref (ad 2 16 0)), (1, .ref b), (2, .int w2), (3, .int (nI M))]) (kk : ∀ (H1 : Heap) (locs1 : List Loc) (z1 : Nat), wKO D ad cI cZ cP G s b L xs cA oa k 10 z1 H1 → va_S B s.heap H1 locs1 → W p l e R s m args below meth c H1 locs1 (cells + 1) (slots + 3) Q (F0 m 323 ls [.ref oa])) : W p l e R s m args below meth c H locs cells slots Q (F0 m 303 ls [.ref oa]) := by
  obtain ⟨hx, hb, hml, hown, htm, hr, hlk, hE⟩ := id X
  obtain ⟨hLA, hAo, hO, hBo, hBq, hR, hk12, hM1, hM3⟩ := Y
  have hzo := h.2.2.1
  have hAz : ∀ q, A q → q < z := fun q hq => by have := hAo q hq; omega
  refine lv_dup hx hb dL_write_303 rfl ?_
  refine lv_bipush (v := 9) hx hb dL_write_304 (by decide) ?_
  refine lv_iconst (v := 3) hx hb dL_write_306 (by decide) ?_
  refine la_new hx hb (htm _ qw_3) hE hS (n := 3) (N := 3) (by decide) (by decide) (by decide) hcs.1 hcs.2 dL_write_307 (fun H1 hT hk1 hz1 hS1 => ?_)
  have hzH := h.2.2.2.2.2.1
  have h := h.keep hLA hAz (fun q hq => hk1 q (by omega)) (by omega)
  have hq0 : z ≤ H.size := hzH
  have hBq0 : B H.size := hBq _ (by omega)
  generalize e0 : H.size = q0 at *
  refine lv_dup hx hb dL_write_309 rfl ?_
  refine lv_iconst (v := 0) hx hb dL_write_310 (by decide) ?_
  refine lv_bipush (v := 14) hx hb dL_write_311 (by decide) ?_
  refine la_st hx hb hE hT hBq0 hS1 (i := 0) (x := 14) v3_0 dL_write_313 (fun H2 locs2 hT hoq hzq hSb => ?_)
  have h := h.keep hLA hAz (fun q hq => hoq q (by omega)) (by have := h.2.2.2.2.2.1; omega)
  refine lv_dup hx hb dL_write_314 rfl ?_
  refine lv_iconst (v := 1) hx hb dL_write_315 (by decide) ?_
  refine lv_iconst (v := 4) hx hb dL_write_316 (by decide) ?_
  refine la_st hx hb hE hT hBq0 hSb (i := 1) (x := 4) v3_1 dL_write_317 (fun H3 locs3 hT hoq hzq hSb => ?_)
  have h := h.keep hLA hAz (fun q hq => hoq q (by omega)) (by have := h.2.2.2.2.2.1; omega)
  refine lv_dup hx hb dL_write_318 rfl ?_
  refine lv_iconst (v := 2) hx hb dL_write_319 (by decide) ?_
  refine lv_iconst (v := 0) hx hb dL_write_320 (by decide) ?_
  refine la_st hx hb hE hT hBq0 hSb (i := 2) (x := 0) v3_2 dL_write_321 (fun H4 locs4 hT hoq hzq hSb => ?_)
  have h := h.keep hLA hAz (fun q hq => hoq q (by omega)) (by have := h.2.2.2.2.2.1; omega)
  refine la_sto hx hb hO hLA hAo h hT hq0 ?_ (by decide) hBo hSb (i := 9) rfl dL_write_322 (fun H1 locs1 h hS => kk H1 locs1 _ h hS)
  show okL k 14 4 0
  exact okL.of (x := 14) (by decide) (by decide) (by decide) (by decide) (by decide) (fun _ => by decide)
set_option maxRecDepth 20000 in
set_option maxHeartbeats 2000000 in
theorem wb_10 (X : MX p s m args meth c cL_write RL 10 (some .boolean) D ad cI cZ cP A) (Y : WY s D ad cI A B cA oa R k M) (h : wKO D ad cI cZ cP G s b L xs cA oa k 10 z H) (hS : va_S B s.heap H locs) (hcs : cells + 1 ≤ R.cells ∧ slots + 3 ≤ R.slots) (hl : lv_has ls 10 [(7, .int y), (6, .int x), (5, .int (nI k)), (4, .int w4), (0, .ref (ad 2 16 0)), (1, .ref b), (2, .int w2), (3, .int (nI M))]) (kk : ∀ (H1 : Heap) (locs1 : List Loc) (z1 : Nat), wKO D ad cI cZ cP G s b L xs cA oa k 11 z1 H1 → va_S B s.heap H1 locs1 → W p l e R s m args below meth c H1 locs1 (cells + 1) (slots + 3) Q (F0 m 348 ls [.ref oa])) : W p l e R s m args below meth c H locs cells slots Q (F0 m 323 ls [.ref oa]) := by
  obtain ⟨hx, hb, hml, hown, htm, hr, hlk, hE⟩ := id X
  obtain ⟨hLA, hAo, hO, hBo, hBq, hR, hk12, hM1, hM3⟩ := Y
  have hzo := h.2.2.1
  have hAz : ∀ q, A q → q < z := fun q hq => by have := hAo q hq; omega
  refine lv_dup hx hb dL_write_323 rfl ?_
  refine lv_bipush (v := 10) hx hb dL_write_324 (by decide) ?_
  refine lv_iconst (v := 3) hx hb dL_write_326 (by decide) ?_
  refine la_new hx hb (htm _ qw_3) hE hS (n := 3) (N := 3) (by decide) (by decide) (by decide) hcs.1 hcs.2 dL_write_327 (fun H1 hT hk1 hz1 hS1 => ?_)
  have hzH := h.2.2.2.2.2.1
  have h := h.keep hLA hAz (fun q hq => hk1 q (by omega)) (by omega)
  have hq0 : z ≤ H.size := hzH
  have hBq0 : B H.size := hBq _ (by omega)
  generalize e0 : H.size = q0 at *
  refine lv_dup hx hb dL_write_329 rfl ?_
  refine lv_iconst (v := 0) hx hb dL_write_330 (by decide) ?_
  refine lv_bipush (v := 11) hx hb dL_write_331 (by decide) ?_
  refine la_st hx hb hE hT hBq0 hS1 (i := 0) (x := 11) v3_0 dL_write_333 (fun H2 locs2 hT hoq hzq hSb => ?_)
  have h := h.keep hLA hAz (fun q hq => hoq q (by omega)) (by have := h.2.2.2.2.2.1; omega)
  refine lv_dup hx hb dL_write_334 rfl ?_
  refine lv_iconst (v := 1) hx hb dL_write_335 (by decide) ?_
  refine lv_iload hx hb dL_write_336 (lv_at hl 0 rfl) ?_
  refine lv_iconst (v := 4) hx hb dL_write_338 (by decide) ?_
  obtain ⟨j339, hj339, ej339⟩ := bl_at (y) (n := 4) (by omega) (by omega)
  refine n_below hx hb hml hown htm hSb ej339 hR ⟨Nat.le_trans (Nat.le_refl _) hcs.1, hcs.2⟩ hl.1 (rest := [.int 1, .ref q0, .ref q0, .int 10, .ref oa, .ref oa]) (Nat.le_of_ble_eq_true rfl) dL_write_339 (fun H3 locs3 hkb hzb hSb => ?_)
  have hT := hT.kept (hkb q0 hT.lt2)
  have h := h.keep hLA hAz (fun q hq => hkb q (by have := h.2.2.2.2.2.1; omega)) (Nat.le_trans h.2.2.2.2.2.1 hzb)
  refine la_st hx hb hE hT hBq0 hSb (i := 1) (x := (nI j339)) v3_1 dL_write_342 (fun H4 locs4 hT hoq hzq hSb => ?_)
  have h := h.keep hLA hAz (fun q hq => hoq q (by omega)) (by have := h.2.2.2.2.2.1; omega)
  refine lv_dup hx hb dL_write_343 rfl ?_
  refine lv_iconst (v := 2) hx hb dL_write_344 (by decide) ?_
  refine lv_iconst (v := 0) hx hb dL_write_345 (by decide) ?_
  refine la_st hx hb hE hT hBq0 hSb (i := 2) (x := 0) v3_2 dL_write_346 (fun H5 locs5 hT hoq hzq hSb => ?_)
  have h := h.keep hLA hAz (fun q hq => hoq q (by omega)) (by have := h.2.2.2.2.2.1; omega)
  refine la_sto hx hb hO hLA hAo h hT hq0 ?_ (by decide) hBo hSb (i := 10) rfl dL_write_347 (fun H1 locs1 h hS => kk H1 locs1 _ h hS)
  show okL k 11 (nI j339) 0
  exact okL.of (x := 11) (by decide) (by decide) (by decide) ((by decide : ∀ j, j < 4 → f_X6_isWithin ((nI j)) (tS0 11) (tS1 11) = some 1) j339 (by omega)) (by decide) (fun _ => (by decide : ∀ j, j < 4 → (0 : Int32) ≤ ((nI j))) j339 (by omega))
set_option maxRecDepth 20000 in
set_option maxHeartbeats 2000000 in
theorem wb_11 (X : MX p s m args meth c cL_write RL 10 (some .boolean) D ad cI cZ cP A) (Y : WY s D ad cI A B cA oa R k M) (h : wKO D ad cI cZ cP G s b L xs cA oa k 11 z H) (hS : va_S B s.heap H locs) (hcs : cells + 1 ≤ R.cells ∧ slots + 3 ≤ R.slots) (hl : lv_has ls 10 [(7, .int y), (6, .int x), (5, .int (nI k)), (4, .int w4), (0, .ref (ad 2 16 0)), (1, .ref b), (2, .int w2), (3, .int (nI M))]) (kk : ∀ (H1 : Heap) (locs1 : List Loc) (z1 : Nat), wKO D ad cI cZ cP G s b L xs cA oa k 12 z1 H1 → va_S B s.heap H1 locs1 → W p l e R s m args below meth c H1 locs1 (cells + 1) (slots + 3) Q (F0 m 373 ls [.ref oa])) : W p l e R s m args below meth c H locs cells slots Q (F0 m 348 ls [.ref oa]) := by
  obtain ⟨hx, hb, hml, hown, htm, hr, hlk, hE⟩ := id X
  obtain ⟨hLA, hAo, hO, hBo, hBq, hR, hk12, hM1, hM3⟩ := Y
  have hzo := h.2.2.1
  have hAz : ∀ q, A q → q < z := fun q hq => by have := hAo q hq; omega
  refine lv_dup hx hb dL_write_348 rfl ?_
  refine lv_bipush (v := 11) hx hb dL_write_349 (by decide) ?_
  refine lv_iconst (v := 3) hx hb dL_write_351 (by decide) ?_
  refine la_new hx hb (htm _ qw_3) hE hS (n := 3) (N := 3) (by decide) (by decide) (by decide) hcs.1 hcs.2 dL_write_352 (fun H1 hT hk1 hz1 hS1 => ?_)
  have hzH := h.2.2.2.2.2.1
  have h := h.keep hLA hAz (fun q hq => hk1 q (by omega)) (by omega)
  have hq0 : z ≤ H.size := hzH
  have hBq0 : B H.size := hBq _ (by omega)
  generalize e0 : H.size = q0 at *
  refine lv_dup hx hb dL_write_354 rfl ?_
  refine lv_iconst (v := 0) hx hb dL_write_355 (by decide) ?_
  refine lv_bipush (v := 13) hx hb dL_write_356 (by decide) ?_
  refine la_st hx hb hE hT hBq0 hS1 (i := 0) (x := 13) v3_0 dL_write_358 (fun H2 locs2 hT hoq hzq hSb => ?_)
  have h := h.keep hLA hAz (fun q hq => hoq q (by omega)) (by have := h.2.2.2.2.2.1; omega)
  refine lv_dup hx hb dL_write_359 rfl ?_
  refine lv_iconst (v := 1) hx hb dL_write_360 (by decide) ?_
  refine lv_iload hx hb dL_write_361 (lv_at hl 0 rfl) ?_
  refine lv_iconst (v := 4) hx hb dL_write_363 (by decide) ?_
  obtain ⟨j364, hj364, ej364⟩ := bl_at (y) (n := 4) (by omega) (by omega)
  refine n_below hx hb hml hown htm hSb ej364 hR ⟨Nat.le_trans (Nat.le_refl _) hcs.1, hcs.2⟩ hl.1 (rest := [.int 1, .ref q0, .ref q0, .int 11, .ref oa, .ref oa]) (Nat.le_of_ble_eq_true rfl) dL_write_364 (fun H3 locs3 hkb hzb hSb => ?_)
  have hT := hT.kept (hkb q0 hT.lt2)
  have h := h.keep hLA hAz (fun q hq => hkb q (by have := h.2.2.2.2.2.1; omega)) (Nat.le_trans h.2.2.2.2.2.1 hzb)
  refine la_st hx hb hE hT hBq0 hSb (i := 1) (x := (nI j364)) v3_1 dL_write_367 (fun H4 locs4 hT hoq hzq hSb => ?_)
  have h := h.keep hLA hAz (fun q hq => hoq q (by omega)) (by have := h.2.2.2.2.2.1; omega)
  refine lv_dup hx hb dL_write_368 rfl ?_
  refine lv_iconst (v := 2) hx hb dL_write_369 (by decide) ?_
  refine lv_iconst (v := 1) hx hb dL_write_370 (by decide) ?_
  refine la_st hx hb hE hT hBq0 hSb (i := 2) (x := 1) v3_2 dL_write_371 (fun H5 locs5 hT hoq hzq hSb => ?_)
  have h := h.keep hLA hAz (fun q hq => hoq q (by omega)) (by have := h.2.2.2.2.2.1; omega)
  refine la_sto hx hb hO hLA hAo h hT hq0 ?_ (by decide) hBo hSb (i := 11) rfl dL_write_372 (fun H1 locs1 h hS => kk H1 locs1 _ h hS)
  show okL k 13 (nI j364) 1
  exact okL.of (x := 13) (by decide) (by decide) (by decide) ((by decide : ∀ j, j < 4 → f_X6_isWithin ((nI j)) (tS0 13) (tS1 13) = some 1) j364 (by omega)) (by decide) (fun _ => (by decide : ∀ j, j < 4 → (0 : Int32) ≤ ((nI j))) j364 (by omega))
set_option maxRecDepth 20000 in
set_option maxHeartbeats 2000000 in
theorem wb_12 (X : MX p s m args meth c cL_write RL 10 (some .boolean) D ad cI cZ cP A) (Y : WY s D ad cI A B cA oa R k M) (h : wKO D ad cI cZ cP G s b L xs cA oa k 12 z H) (hS : va_S B s.heap H locs) (hcs : cells + 1 ≤ R.cells ∧ slots + 3 ≤ R.slots) (hl : lv_has ls 10 [(7, .int y), (6, .int x), (5, .int (nI k)), (4, .int w4), (0, .ref (ad 2 16 0)), (1, .ref b), (2, .int w2), (3, .int (nI M))]) (kk : ∀ (H1 : Heap) (locs1 : List Loc) (z1 : Nat), wKO D ad cI cZ cP G s b L xs cA oa k 13 z1 H1 → va_S B s.heap H1 locs1 → W p l e R s m args below meth c H1 locs1 (cells + 1) (slots + 3) Q (F0 m 407 ls [.ref oa])) : W p l e R s m args below meth c H locs cells slots Q (F0 m 373 ls [.ref oa]) := by
  obtain ⟨hx, hb, hml, hown, htm, hr, hlk, hE⟩ := id X
  obtain ⟨hLA, hAo, hO, hBo, hBq, hR, hk12, hM1, hM3⟩ := Y
  have hzo := h.2.2.1
  have hAz : ∀ q, A q → q < z := fun q hq => by have := hAo q hq; omega
  refine lv_dup hx hb dL_write_373 rfl ?_
  refine lv_bipush (v := 12) hx hb dL_write_374 (by decide) ?_
  refine lv_iconst (v := 3) hx hb dL_write_376 (by decide) ?_
  refine la_new hx hb (htm _ qw_3) hE hS (n := 3) (N := 3) (by decide) (by decide) (by decide) hcs.1 hcs.2 dL_write_377 (fun H1 hT hk1 hz1 hS1 => ?_)
  have hzH := h.2.2.2.2.2.1
  have h := h.keep hLA hAz (fun q hq => hk1 q (by omega)) (by omega)
  have hq0 : z ≤ H.size := hzH
  have hBq0 : B H.size := hBq _ (by omega)
  generalize e0 : H.size = q0 at *
  refine lv_dup hx hb dL_write_379 rfl ?_
  refine lv_iconst (v := 0) hx hb dL_write_380 (by decide) ?_
  refine lv_iconst (v := 3) hx hb dL_write_381 (by decide) ?_
  refine la_st hx hb hE hT hBq0 hS1 (i := 0) (x := 3) v3_0 dL_write_382 (fun H2 locs2 hT hoq hzq hSb => ?_)
  have h := h.keep hLA hAz (fun q hq => hoq q (by omega)) (by have := h.2.2.2.2.2.1; omega)
  refine lv_dup hx hb dL_write_383 rfl ?_
  refine lv_iconst (v := 1) hx hb dL_write_384 (by decide) ?_
  refine lv_iload hx hb dL_write_385 (lv_at hl 0 rfl) ?_
  refine lv_iconst (v := 4) hx hb dL_write_387 (by decide) ?_
  obtain ⟨j388, hj388, ej388⟩ := bl_at (y) (n := 4) (by omega) (by omega)
  refine n_below hx hb hml hown htm hSb ej388 hR ⟨Nat.le_trans (Nat.le_refl _) hcs.1, hcs.2⟩ hl.1 (rest := [.int 1, .ref q0, .ref q0, .int 12, .ref oa, .ref oa]) (Nat.le_of_ble_eq_true rfl) dL_write_388 (fun H3 locs3 hkb hzb hSb => ?_)
  have hT := hT.kept (hkb q0 hT.lt2)
  have h := h.keep hLA hAz (fun q hq => hkb q (by have := h.2.2.2.2.2.1; omega)) (Nat.le_trans h.2.2.2.2.2.1 hzb)
  refine la_st hx hb hE hT hBq0 hSb (i := 1) (x := (nI j388)) v3_1 dL_write_391 (fun H4 locs4 hT hoq hzq hSb => ?_)
  have h := h.keep hLA hAz (fun q hq => hoq q (by omega)) (by have := h.2.2.2.2.2.1; omega)
  refine lv_dup hx hb dL_write_392 rfl ?_
  refine lv_iconst (v := 2) hx hb dL_write_393 (by decide) ?_
  refine lv_iload hx hb dL_write_394 (lv_at hl 0 rfl) ?_
  refine lv_iconst (v := 3) hx hb dL_write_396 (by decide) ?_
  refine lv_ishr hx hb dL_write_397 ?_
  refine lv_iload hx hb dL_write_398 (lv_at hl 2 rfl) ?_
  refine lv_iconst (v := 1) hx hb dL_write_400 (by decide) ?_
  refine lv_iadd hx hb dL_write_401 ?_
  rw [nI_1]
  obtain ⟨j402, hj402, ej402⟩ := bl_at ((y >>> (3 &&& 31))) (n := (k + 1)) (by omega) (by omega)
  refine n_below hx hb hml hown htm hSb ej402 hR ⟨Nat.le_trans (Nat.le_refl _) hcs.1, hcs.2⟩ hl.1 (rest := [.int 2, .ref q0, .ref q0, .int 12, .ref oa, .ref oa]) (Nat.le_of_ble_eq_true rfl) dL_write_402 (fun H5 locs5 hkb hzb hSb => ?_)
  have hT := hT.kept (hkb q0 hT.lt2)
  have h := h.keep hLA hAz (fun q hq => hkb q (by have := h.2.2.2.2.2.1; omega)) (Nat.le_trans h.2.2.2.2.2.1 hzb)
  refine la_st hx hb hE hT hBq0 hSb (i := 2) (x := (nI j402)) v3_2 dL_write_405 (fun H6 locs6 hT hoq hzq hSb => ?_)
  have h := h.keep hLA hAz (fun q hq => hoq q (by omega)) (by have := h.2.2.2.2.2.1; omega)
  refine la_sto hx hb hO hLA hAo h hT hq0 ?_ (by decide) hBo hSb (i := 12) rfl dL_write_406 (fun H1 locs1 h hS => kk H1 locs1 _ h hS)
  show okL k 3 (nI j388) (nI j402)
  exact okL.of3 (by omega) (by omega) (by omega)
set_option maxRecDepth 20000 in
set_option maxHeartbeats 2000000 in
theorem wb_13 (X : MX p s m args meth c cL_write RL 10 (some .boolean) D ad cI cZ cP A) (Y : WY s D ad cI A B cA oa R k M) (h : wKO D ad cI cZ cP G s b L xs cA oa k 13 z H) (hS : va_S B s.heap H locs) (hcs : cells + 1 ≤ R.cells ∧ slots + 3 ≤ R.slots) (hl : lv_has ls 10 [(7, .int y), (6, .int x), (5, .int (nI k)), (4, .int w4), (0, .ref (ad 2 16 0)), (1, .ref b), (2, .int w2), (3, .int (nI M))]) (kk : ∀ (H1 : Heap) (locs1 : List Loc) (z1 : Nat), wKO D ad cI cZ cP G s b L xs cA oa k 14 z1 H1 → va_S B s.heap H1 locs1 → W p l e R s m args below meth c H1 locs1 (cells + 1) (slots + 3) Q (F0 m 427 ls [.ref oa])) : W p l e R s m args below meth c H locs cells slots Q (F0 m 407 ls [.ref oa]) := by
  obtain ⟨hx, hb, hml, hown, htm, hr, hlk, hE⟩ := id X
  obtain ⟨hLA, hAo, hO, hBo, hBq, hR, hk12, hM1, hM3⟩ := Y
  have hzo := h.2.2.1
  have hAz : ∀ q, A q → q < z := fun q hq => by have := hAo q hq; omega
  refine lv_dup hx hb dL_write_407 rfl ?_
  refine lv_bipush (v := 13) hx hb dL_write_408 (by decide) ?_
  refine lv_iconst (v := 3) hx hb dL_write_410 (by decide) ?_
  refine la_new hx hb (htm _ qw_3) hE hS (n := 3) (N := 3) (by decide) (by decide) (by decide) hcs.1 hcs.2 dL_write_411 (fun H1 hT hk1 hz1 hS1 => ?_)
  have hzH := h.2.2.2.2.2.1
  have h := h.keep hLA hAz (fun q hq => hk1 q (by omega)) (by omega)
  have hq0 : z ≤ H.size := hzH
  have hBq0 : B H.size := hBq _ (by omega)
  generalize e0 : H.size = q0 at *
  refine lv_dup hx hb dL_write_413 rfl ?_
  refine lv_iconst (v := 0) hx hb dL_write_414 (by decide) ?_
  refine lv_bipush (v := 16) hx hb dL_write_415 (by decide) ?_
  refine la_st hx hb hE hT hBq0 hS1 (i := 0) (x := 16) v3_0 dL_write_417 (fun H2 locs2 hT hoq hzq hSb => ?_)
  have h := h.keep hLA hAz (fun q hq => hoq q (by omega)) (by have := h.2.2.2.2.2.1; omega)
  refine lv_dup hx hb dL_write_418 rfl ?_
  refine lv_iconst (v := 1) hx hb dL_write_419 (by decide) ?_
  refine lv_iconst (v := 0) hx hb dL_write_420 (by decide) ?_
  refine la_st hx hb hE hT hBq0 hSb (i := 1) (x := 0) v3_1 dL_write_421 (fun H3 locs3 hT hoq hzq hSb => ?_)
  have h := h.keep hLA hAz (fun q hq => hoq q (by omega)) (by have := h.2.2.2.2.2.1; omega)
  refine lv_dup hx hb dL_write_422 rfl ?_
  refine lv_iconst (v := 2) hx hb dL_write_423 (by decide) ?_
  refine lv_iconst (v := 0) hx hb dL_write_424 (by decide) ?_
  refine la_st hx hb hE hT hBq0 hSb (i := 2) (x := 0) v3_2 dL_write_425 (fun H4 locs4 hT hoq hzq hSb => ?_)
  have h := h.keep hLA hAz (fun q hq => hoq q (by omega)) (by have := h.2.2.2.2.2.1; omega)
  refine la_sto hx hb hO hLA hAo h hT hq0 ?_ (by decide) hBo hSb (i := 13) rfl dL_write_426 (fun H1 locs1 h hS => kk H1 locs1 _ h hS)
  show okL k 16 0 0
  exact okL.of (x := 16) (by decide) (by decide) (by decide) (by decide) (by decide) (fun _ => by decide)
set_option maxRecDepth 20000 in
set_option maxHeartbeats 2000000 in
theorem wb_14 (X : MX p s m args meth c cL_write RL 10 (some .boolean) D ad cI cZ cP A) (Y : WY s D ad cI A B cA oa R k M) (h : wKO D ad cI cZ cP G s b L xs cA oa k 14 z H) (hS : va_S B s.heap H locs) (hcs : cells + 1 ≤ R.cells ∧ slots + 3 ≤ R.slots) (hl : lv_has ls 10 [(7, .int y), (6, .int x), (5, .int (nI k)), (4, .int w4), (0, .ref (ad 2 16 0)), (1, .ref b), (2, .int w2), (3, .int (nI M))]) (kk : ∀ (H1 : Heap) (locs1 : List Loc) (z1 : Nat), wKO D ad cI cZ cP G s b L xs cA oa k 15 z1 H1 → va_S B s.heap H1 locs1 → W p l e R s m args below meth c H1 locs1 (cells + 1) (slots + 3) Q (F0 m 451 ls [.ref oa])) : W p l e R s m args below meth c H locs cells slots Q (F0 m 427 ls [.ref oa]) := by
  obtain ⟨hx, hb, hml, hown, htm, hr, hlk, hE⟩ := id X
  obtain ⟨hLA, hAo, hO, hBo, hBq, hR, hk12, hM1, hM3⟩ := Y
  have hzo := h.2.2.1
  have hAz : ∀ q, A q → q < z := fun q hq => by have := hAo q hq; omega
  refine lv_dup hx hb dL_write_427 rfl ?_
  refine lv_bipush (v := 14) hx hb dL_write_428 (by decide) ?_
  refine lv_iconst (v := 3) hx hb dL_write_430 (by decide) ?_
  refine la_new hx hb (htm _ qw_3) hE hS (n := 3) (N := 3) (by decide) (by decide) (by decide) hcs.1 hcs.2 dL_write_431 (fun H1 hT hk1 hz1 hS1 => ?_)
  have hzH := h.2.2.2.2.2.1
  have h := h.keep hLA hAz (fun q hq => hk1 q (by omega)) (by omega)
  have hq0 : z ≤ H.size := hzH
  have hBq0 : B H.size := hBq _ (by omega)
  generalize e0 : H.size = q0 at *
  refine lv_dup hx hb dL_write_433 rfl ?_
  refine lv_iconst (v := 0) hx hb dL_write_434 (by decide) ?_
  refine lv_iconst (v := 2) hx hb dL_write_435 (by decide) ?_
  refine la_st hx hb hE hT hBq0 hS1 (i := 0) (x := 2) v3_0 dL_write_436 (fun H2 locs2 hT hoq hzq hSb => ?_)
  have h := h.keep hLA hAz (fun q hq => hoq q (by omega)) (by have := h.2.2.2.2.2.1; omega)
  refine lv_dup hx hb dL_write_437 rfl ?_
  refine lv_iconst (v := 1) hx hb dL_write_438 (by decide) ?_
  refine lv_iload hx hb dL_write_439 (lv_at hl 0 rfl) ?_
  refine lv_iconst (v := 4) hx hb dL_write_441 (by decide) ?_
  obtain ⟨j442, hj442, ej442⟩ := bl_at (y) (n := 4) (by omega) (by omega)
  refine n_below hx hb hml hown htm hSb ej442 hR ⟨Nat.le_trans (Nat.le_refl _) hcs.1, hcs.2⟩ hl.1 (rest := [.int 1, .ref q0, .ref q0, .int 14, .ref oa, .ref oa]) (Nat.le_of_ble_eq_true rfl) dL_write_442 (fun H3 locs3 hkb hzb hSb => ?_)
  have hT := hT.kept (hkb q0 hT.lt2)
  have h := h.keep hLA hAz (fun q hq => hkb q (by have := h.2.2.2.2.2.1; omega)) (Nat.le_trans h.2.2.2.2.2.1 hzb)
  refine la_st hx hb hE hT hBq0 hSb (i := 1) (x := (nI j442)) v3_1 dL_write_445 (fun H4 locs4 hT hoq hzq hSb => ?_)
  have h := h.keep hLA hAz (fun q hq => hoq q (by omega)) (by have := h.2.2.2.2.2.1; omega)
  refine lv_dup hx hb dL_write_446 rfl ?_
  refine lv_iconst (v := 2) hx hb dL_write_447 (by decide) ?_
  refine lv_iconst (v := 0) hx hb dL_write_448 (by decide) ?_
  refine la_st hx hb hE hT hBq0 hSb (i := 2) (x := 0) v3_2 dL_write_449 (fun H5 locs5 hT hoq hzq hSb => ?_)
  have h := h.keep hLA hAz (fun q hq => hoq q (by omega)) (by have := h.2.2.2.2.2.1; omega)
  refine la_sto hx hb hO hLA hAo h hT hq0 ?_ (by decide) hBo hSb (i := 14) rfl dL_write_450 (fun H1 locs1 h hS => kk H1 locs1 _ h hS)
  show okL k 2 (nI j442) 0
  exact okL.of (x := 2) (by decide) (by decide) (by decide) ((by decide : ∀ j, j < 4 → f_X6_isWithin ((nI j)) (tS0 2) (tS1 2) = some 1) j442 (by omega)) (by decide) (fun _ => (by decide : ∀ j, j < 4 → (0 : Int32) ≤ ((nI j))) j442 (by omega))
set_option maxRecDepth 20000 in
set_option maxHeartbeats 2000000 in
theorem wb_15 (X : MX p s m args meth c cL_write RL 10 (some .boolean) D ad cI cZ cP A) (Y : WY s D ad cI A B cA oa R k M) (h : wKO D ad cI cZ cP G s b L xs cA oa k 15 z H) (hS : va_S B s.heap H locs) (hcs : cells + 1 ≤ R.cells ∧ slots + 3 ≤ R.slots) (hl : lv_has ls 10 [(7, .int y), (6, .int x), (5, .int (nI k)), (4, .int w4), (0, .ref (ad 2 16 0)), (1, .ref b), (2, .int w2), (3, .int (nI M))]) (kk : ∀ (H1 : Heap) (locs1 : List Loc) (z1 : Nat), wKO D ad cI cZ cP G s b L xs cA oa k 16 z1 H1 → va_S B s.heap H1 locs1 → W p l e R s m args below meth c H1 locs1 (cells + 1) (slots + 3) Q (F0 m 476 ls [.ref oa])) : W p l e R s m args below meth c H locs cells slots Q (F0 m 451 ls [.ref oa]) := by
  obtain ⟨hx, hb, hml, hown, htm, hr, hlk, hE⟩ := id X
  obtain ⟨hLA, hAo, hO, hBo, hBq, hR, hk12, hM1, hM3⟩ := Y
  have hzo := h.2.2.1
  have hAz : ∀ q, A q → q < z := fun q hq => by have := hAo q hq; omega
  refine lv_dup hx hb dL_write_451 rfl ?_
  refine lv_bipush (v := 15) hx hb dL_write_452 (by decide) ?_
  refine lv_iconst (v := 3) hx hb dL_write_454 (by decide) ?_
  refine la_new hx hb (htm _ qw_3) hE hS (n := 3) (N := 3) (by decide) (by decide) (by decide) hcs.1 hcs.2 dL_write_455 (fun H1 hT hk1 hz1 hS1 => ?_)
  have hzH := h.2.2.2.2.2.1
  have h := h.keep hLA hAz (fun q hq => hk1 q (by omega)) (by omega)
  have hq0 : z ≤ H.size := hzH
  have hBq0 : B H.size := hBq _ (by omega)
  generalize e0 : H.size = q0 at *
  refine lv_dup hx hb dL_write_457 rfl ?_
  refine lv_iconst (v := 0) hx hb dL_write_458 (by decide) ?_
  refine lv_iconst (v := 5) hx hb dL_write_459 (by decide) ?_
  refine la_st hx hb hE hT hBq0 hS1 (i := 0) (x := 5) v3_0 dL_write_460 (fun H2 locs2 hT hoq hzq hSb => ?_)
  have h := h.keep hLA hAz (fun q hq => hoq q (by omega)) (by have := h.2.2.2.2.2.1; omega)
  refine lv_dup hx hb dL_write_461 rfl ?_
  refine lv_iconst (v := 1) hx hb dL_write_462 (by decide) ?_
  refine lv_iload hx hb dL_write_463 (lv_at hl 0 rfl) ?_
  refine lv_bipush (v := 8) hx hb dL_write_465 (by decide) ?_
  obtain ⟨j467, hj467, ej467⟩ := bl_at (y) (n := 8) (by omega) (by omega)
  refine n_below hx hb hml hown htm hSb ej467 hR ⟨Nat.le_trans (Nat.le_refl _) hcs.1, hcs.2⟩ hl.1 (rest := [.int 1, .ref q0, .ref q0, .int 15, .ref oa, .ref oa]) (Nat.le_of_ble_eq_true rfl) dL_write_467 (fun H3 locs3 hkb hzb hSb => ?_)
  have hT := hT.kept (hkb q0 hT.lt2)
  have h := h.keep hLA hAz (fun q hq => hkb q (by have := h.2.2.2.2.2.1; omega)) (Nat.le_trans h.2.2.2.2.2.1 hzb)
  refine la_st hx hb hE hT hBq0 hSb (i := 1) (x := (nI j467)) v3_1 dL_write_470 (fun H4 locs4 hT hoq hzq hSb => ?_)
  have h := h.keep hLA hAz (fun q hq => hoq q (by omega)) (by have := h.2.2.2.2.2.1; omega)
  refine lv_dup hx hb dL_write_471 rfl ?_
  refine lv_iconst (v := 2) hx hb dL_write_472 (by decide) ?_
  refine lv_iconst (v := 0) hx hb dL_write_473 (by decide) ?_
  refine la_st hx hb hE hT hBq0 hSb (i := 2) (x := 0) v3_2 dL_write_474 (fun H5 locs5 hT hoq hzq hSb => ?_)
  have h := h.keep hLA hAz (fun q hq => hoq q (by omega)) (by have := h.2.2.2.2.2.1; omega)
  refine la_sto hx hb hO hLA hAo h hT hq0 ?_ (by decide) hBo hSb (i := 15) rfl dL_write_475 (fun H1 locs1 h hS => kk H1 locs1 _ h hS)
  show okL k 5 (nI j467) 0
  exact okL.of (x := 5) (by decide) (by decide) (by decide) ((by decide : ∀ j, j < 8 → f_X6_isWithin ((nI j)) (tS0 5) (tS1 5) = some 1) j467 (by omega)) (by decide) (fun _ => (by decide : ∀ j, j < 8 → (0 : Int32) ≤ ((nI j))) j467 (by omega))
end
