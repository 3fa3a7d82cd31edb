/-- a new process of the number j at b: nine cells -/
def prC (D : va_G) (cI : ClassId) (b j : Nat) (H : Heap) : Prop := va_at D clM (b, .inr (2, [.int (nI j), .int (-1), .int (-1), .int (-1), .int (-1), .int 1, .int (-1), .int 0, .int 0, .int (-1), .int (-1), .int 0, .int 0, .int 0, .int 0, .ref (b + 1), .ref (b + 2), .ref (b + 3), .ref (b + 6)])) H ∧ va_at D clM ((b + 1), .inl (cI, 4, .inl (fun _ => 0))) H ∧ va_at D clM ((b + 2), .inl (cI, 4, .inl (fun _ => (-1)))) H ∧ va_at D clM ((b + 3), .inr (0, [.ref (b + 4), .ref (b + 5), .int 0])) H ∧ va_at D clM ((b + 4), .inl (cI, 8, .inl (fun _ => 0))) H ∧ va_at D clM ((b + 5), .inl (cI, 8, .inl (fun _ => 0))) H ∧ va_at D clM ((b + 6), .inr (4, [.ref (b + 7), .ref (b + 8), .int 0])) H ∧ va_at D clM ((b + 7), .inl (cI, 24, .inl (fun _ => 0))) H ∧ va_at D clM ((b + 8), .inl (cI, 24, .inl (fun _ => 0))) H
theorem prC.kept {D : va_G} {cI : ClassId} {b j : Nat} {H H1 : Heap} (h : prC D cI b j H) (hq : ∀ q, b ≤ q → q < b + 9 → H1[q]? = H[q]?) : prC D cI b j H1 := by
  obtain ⟨h0, h1, h2, h3, h4, h5, h6, h7, h8⟩ := h
  exact ⟨h0.kept (hq _ (by show b ≤ b; omega) (by show b < b + 9; omega)), h1.kept (hq _ (by show b ≤ (b + 1); omega) (by show (b + 1) < b + 9; omega)), h2.kept (hq _ (by show b ≤ (b + 2); omega) (by show (b + 2) < b + 9; omega)), h3.kept (hq _ (by show b ≤ (b + 3); omega) (by show (b + 3) < b + 9; omega)), h4.kept (hq _ (by show b ≤ (b + 4); omega) (by show (b + 4) < b + 9; omega)), h5.kept (hq _ (by show b ≤ (b + 5); omega) (by show (b + 5) < b + 9; omega)), h6.kept (hq _ (by show b ≤ (b + 6); omega) (by show (b + 6) < b + 9; omega)), h7.kept (hq _ (by show b ≤ (b + 7); omega) (by show (b + 7) < b + 9; omega)), h8.kept (hq _ (by show b ≤ (b + 8); omega) (by show (b + 8) < b + 9; omega))⟩
theorem prC.lt {D : va_G} {cI : ClassId} {b j : Nat} {H : Heap} (h : prC D cI b j H) : b + 8 < H.size := by
  obtain ⟨h0, h1, h2, h3, h4, h5, h6, h7, h8⟩ := h
  exact h8.lt
def pF (n k : Nat) : Nat → Option Nat := fun j => if j < k then some (n + 6 + 9 * j) else none
theorem pF_0 (n : Nat) : pF n 0 = fun _ => none := by funext j; unfold pF; rw [if_neg (Nat.not_lt_zero j)]
theorem pF_up (n k : Nat) : va_up (pF n k) k (some (n + 6 + 9 * k)) = pF n (k + 1) := by
  funext j
  unfold va_up pF
  by_cases h : j = k
  · subst h; rw [if_pos rfl, if_pos (Nat.lt_succ_self _)]
  · rw [if_neg h]
    by_cases h2 : j < k
    · rw [if_pos h2, if_pos (by omega)]
    · rw [if_neg h2, if_neg (by omega)]
/-- a world on its way: k processes are made -/
def wdB (D : va_G) (cI cP : ClassId) (a r1 r2 n k : Nat) (H : Heap) : Prop := va_at D clM (a, .inr (5, [.ref r1, .ref r2, .ref n, .ref (n + 1), .ref (n + 2), .int 0, .int 0, .int 0, .int 0, .int 0, .int 0, .ref (n + 3), .int 0, .int 0, .ref (n + 4), .ref (n + 5), .int 0])) H ∧ va_at D clM (n, .inl (cI, 4, .inl (fun _ => 0))) H ∧ va_at D clM ((n + 1), .inl (cI, 4, .inl (fun _ => (-1)))) H ∧ va_at D clM ((n + 3), .inl (cI, 24, .inl (fun _ => 0))) H ∧ va_at D clM ((n + 4), .inl (cI, 24, .inl (fun _ => 0))) H ∧ va_at D clM ((n + 5), .inl (cI, 24, .inl (fun _ => 0))) H ∧ va_at D clM ((n + 2), .inl (cP, 24, .inr (.inr (.inr (.inr (pF n k)))))) H ∧ ∀ j, j < k → prC D cI (n + 6 + 9 * j) j H
def wdC (D : va_G) (cI cP : ClassId) (a r1 r2 n k : Nat) (H : Heap) : Prop := H.size = n + 6 + 9 * k ∧ wdB D cI cP a r1 r2 n k H
theorem wdB.kept {D : va_G} {cI cP : ClassId} {a r1 r2 n : Nat} {H H1 : Heap} (h : wdB D cI cP a r1 r2 n 24 H) (hq : ∀ q, (q = a ∨ (n ≤ q ∧ q < n + 222)) → H1[q]? = H[q]?) : wdB D cI cP a r1 r2 n 24 H1 := by
  obtain ⟨h0, b0, b1, b2, b3, b4, hp, hpr⟩ := h
  exact ⟨h0.kept (hq _ (Or.inl rfl)), b0.kept (hq _ (Or.inr ⟨by show n ≤ n; omega, by show n < _; omega⟩)), b1.kept (hq _ (Or.inr ⟨by show n ≤ n + 1; omega, by show n + 1 < _; omega⟩)), b2.kept (hq _ (Or.inr ⟨by show n ≤ n + 3; omega, by show n + 3 < _; omega⟩)), b3.kept (hq _ (Or.inr ⟨by show n ≤ n + 4; omega, by show n + 4 < _; omega⟩)), b4.kept (hq _ (Or.inr ⟨by show n ≤ n + 5; omega, by show n + 5 < _; omega⟩)), hp.kept (hq _ (Or.inr ⟨by show n ≤ n + 2; omega, by show n + 2 < _; omega⟩)), fun j hj => (hpr j hj).kept (fun q h1 h2 => hq q (Or.inr ⟨by omega, by omega⟩))⟩
def rm_X5_init : Room := { frames := 3, cells := 222, slots := 2432, locals := 65 }
set_option maxRecDepth 20000 in
set_option maxHeartbeats 4000000 in
theorem l_X5_init {p : Program} {l : Launch} {e : Env} {s : State} {m : MethodId} {args : Array Value} {below : List Frame} {meth : Method} {c : Code} {D : va_G} {cI cZ cP : ClassId} {a r1 r2 n : Nat} (hx : p.tables.exec = Jvm.exec) (hb : c.code = cX5_init) (hml : c.maxLocals = 4) (hown : s.vm.findClass RX5 = some m.cls) (htm : ∀ x ∈ WM, x.before args s = true) (hr : meth.sig.returnType = none) (hlk : meth.locks = false) (hK : KE D cI cZ cP s) (han : a < n) : ∀ (k i : Nat) (cs ss : Nat) (H : Heap) (locs : List Loc) (ls : Array Slot), i + k = 24 → cs + 9 * k = 222 → ss + 97 * k = 2432 → wdC D cI cP a r1 r2 n i H → va_S (nA a n) s.heap H locs → lv_has ls 4 [(3, .int (nI i)), (0, .ref a)] → W p l e rm_X5_init s m args below meth c H locs cs ss (MQ below (QcN (fun H => wdC D cI cP a r1 r2 n 24 H) (nA a n)) args s 222 2432 (nA a n)) (F0 m 71 ls []) := by
  intro k
  induction k with
  | zero =>
    intro i cs ss H locs ls hi hcs hss hw hS hl
    have hi : i = 24 := by omega
    subst hi
    have hcs : cs = 222 := by omega
    have hss : ss = 2432 := by omega
    subst hcs; subst hss
    refine lv_iload_n hx hb dX5_init_71 rfl (lv_at hl 0 rfl) ?_
    refine lv_bipush (v := 24) hx hb dX5_init_72 (by decide) ?_
    refine lv_icmp_ge (tgt := 97) hx hb dX5_init_74 (by decide) (fun c1 => ?_) (fun c1 => ?_)
    · exact n_ret hx hb hr hlk hS hw dX5_init_97
    · exact absurd (by decide) c1
  | succ k ih =>
    intro i cs ss H locs ls hi hcs hss hw hS hl
    obtain ⟨hz, h0, b0, b1, b2, b3, b4, hp, hpr⟩ := hw
    refine lv_iload_n hx hb dX5_init_71 rfl (lv_at hl 0 rfl) ?_
    refine lv_bipush (v := 24) hx hb dX5_init_72 (by decide) ?_
    refine lv_icmp_ge (tgt := 97) hx hb dX5_init_74 (by decide) (fun c1 => ?_) (fun c1 => ?_)
    · exact absurd c1 (nI_ge (b := 24) (by omega) (by decide))
    · refine lv_aload_n hx hb dX5_init_77 rfl (lv_at hl 1 rfl) ?_
      refine n_get hx hb htm hown hK hS rfl ic_wsU5 h0 4 (by decide) qw_143 rfl dX5_init_78 ?_
      refine lv_iload_n hx hb dX5_init_81 rfl (lv_at hl 0 rfl) ?_
      refine n_new hx hb htm hown hK hS (ci := 2) (fs := [.int 0, .int 0, .int 0, .int 0, .int 0, .int 0, .int 0, .int 0, .int 0, .int 0, .int 0, .int 0, .int 0, .int 0, .int 0, .null, .null, .null, .null]) rfl ic_wsU2 tyX2 tyX2_ok (fun j hj => by rcases (show j = 0 ∨ j = 1 ∨ j = 2 ∨ j = 3 ∨ j = 4 ∨ j = 5 ∨ j = 6 ∨ j = 7 ∨ j = 8 ∨ j = 9 ∨ j = 10 ∨ j = 11 ∨ j = 12 ∨ j = 13 ∨ j = 14 ∨ j = 15 ∨ j = 16 ∨ j = 17 ∨ j = 18 by omega) with rfl | rfl | rfl | rfl | rfl | rfl | rfl | rfl | rfl | rfl | rfl | rfl | rfl | rfl | rfl | rfl | rfl | rfl | rfl <;> rfl) qw_142 qw_149 qw_109 hz (by simp only [rm_X5_init]; omega) (by simp only [rm_X5_init]; omega) dX5_init_82 (fun H1 z1 o1 hn hS => ?_)
      have h0 := h0.kept (o1 _ (hz ▸ h0.lt))
      have hp := hp.kept (o1 _ (hz ▸ hp.lt))
      have b0 := b0.kept (o1 _ (by show n < _; omega))
      have b1 := b1.kept (o1 _ (by show (n + 1) < _; omega))
      have b2 := b2.kept (o1 _ (by show (n + 3) < _; omega))
      have b3 := b3.kept (o1 _ (by show (n + 4) < _; omega))
      have b4 := b4.kept (o1 _ (by show (n + 5) < _; omega))
      have hpr : ∀ j, j < i → prC D cI (n + 6 + 9 * j) j H1 := fun j hj => (hpr j hj).kept (fun q _ hq => o1 q (by omega))
      refine lv_dup hx hb dX5_init_85 rfl ?_
      refine lv_iload_n hx hb dX5_init_86 rfl (lv_at hl 0 rfl) ?_
      refine n_cI hx hb hml htm hown hK hS iw_X2_init qw_151 (c_X2_init (a := n + 6 + 9 * i) (n := n + 6 + 9 * i + 1)) ⟨rfl, rfl⟩ ⟨Nat.le_of_ble_eq_true rfl, Nat.le_of_ble_eq_true rfl⟩ ⟨by simp only [rm_X5_init]; omega, by simp only [rm_X5_init]; omega⟩ ⟨z1, by omega, hn⟩ (fun q h9 => by rcases h9 with h9 | h9 <;> exact Or.inr (by omega)) rfl hl.1 (rest := [.ref (n + 6 + 9 * i), .int (nI i), .ref (n + 2)]) rfl (Nat.le_of_ble_eq_true rfl) dX5_init_87 (fun H2 locs hQ z2 o2 hS => ?_)
      obtain ⟨hz2, hQ⟩ := hQ
      have hnew : prC D cI (n + 6 + 9 * i) i H2 := hQ
      have h0 := h0.kept (o2 _ h0.lt (nA_no (by show a ≠ _; omega) (by show a < _; omega)))
      have hp := hp.kept (o2 _ hp.lt (nA_no (by show n + 2 ≠ _; omega) (by show n + 2 < _; omega)))
      have b0 := b0.kept (o2 _ (by show n < _; omega) (nA_no (by show n ≠ _; omega) (by show n < _; omega)))
      have b1 := b1.kept (o2 _ (by show (n + 1) < _; omega) (nA_no (by show (n + 1) ≠ _; omega) (by show (n + 1) < _; omega)))
      have b2 := b2.kept (o2 _ (by show (n + 3) < _; omega) (nA_no (by show (n + 3) ≠ _; omega) (by show (n + 3) < _; omega)))
      have b3 := b3.kept (o2 _ (by show (n + 4) < _; omega) (nA_no (by show (n + 4) ≠ _; omega) (by show (n + 4) < _; omega)))
      have b4 := b4.kept (o2 _ (by show (n + 5) < _; omega) (nA_no (by show (n + 5) ≠ _; omega) (by show (n + 5) < _; omega)))
      have hpr : ∀ j, j < i → prC D cI (n + 6 + 9 * j) j H2 := fun j hj => (hpr j hj).kept (fun q h1 hq => o2 q (by omega) (nA_no (by omega) (by omega)))
      refine n_astP hx hb htm hown hK hS (Or.inr (by omega)) hp hnew.1 (vp_in_nI (by omega) (by decide)) dX5_init_90 (fun H3 locs z3 o3 hp hS => ?_)
      rw [nI_clamp (by omega), pF_up] at hp
      have h0 := h0.kept (o3 _ (by show a ≠ _; omega))
      have b0 := b0.kept (o3 _ (by show n ≠ _; omega))
      have b1 := b1.kept (o3 _ (by show (n + 1) ≠ _; omega))
      have b2 := b2.kept (o3 _ (by show (n + 3) ≠ _; omega))
      have b3 := b3.kept (o3 _ (by show (n + 4) ≠ _; omega))
      have b4 := b4.kept (o3 _ (by show (n + 5) ≠ _; omega))
      have hpr : ∀ j, j < i → prC D cI (n + 6 + 9 * j) j H3 := fun j hj => (hpr j hj).kept (fun q h1 hq => o3 q (by omega))
      have hnew : prC D cI (n + 6 + 9 * i) i H3 := hnew.kept (fun q h1 hq => o3 q (by omega))
      refine lv_iinc (v := nI (i + 1)) (lv' := [(3, .int (nI (i + 1))), (0, .ref a)]) hx hb dX5_init_91 hl (k := 0) rfl (by rw [nI_succ]; rfl) (by decide) rfl (fun ls hl => ?_)
      refine lv_goto (tgt := 71) hx hb dX5_init_94 (by decide) ?_
      exact ih (i + 1) _ _ H3 locs ls (by omega) (by omega) (by omega) ⟨by omega, h0, b0, b1, b2, b3, b4, hp, fun j hj => by
        rcases Nat.lt_or_ge j i with h9 | h9
        · exact hpr j h9
        · rw [show j = i by omega]; exact hnew⟩ hS hl
theorem iw_X5_init : IW yX5_init cX5_init 4 2 := ⟨qw_387, qw_203, qw_153, ⟨by decide, by decide, by decide +kernel⟩, rfl⟩
set_option maxRecDepth 20000 in
set_option maxHeartbeats 4000000 in
theorem c_X5_init {l : Launch} {D : va_G} {cI cZ cP : ClassId} {a n : Nat} {r1 r2 : Nat} : Met l yX5_init (.code yX5_init cX5_init 4 none :: WM) rm_X5_init (PcN D cI cZ cP [.ref a, .ref r1, .ref r2] (fun H => H.size = n ∧ a < n ∧ va_at D clM (a, .inr (5, [.null, .null, .null, .null, .null, .int 0, .int 0, .int 0, .int 0, .int 0, .int 0, .null, .int 0, .int 0, .null, .null, .int 0])) H)) (QcN (fun H => wdC D cI cP a r1 r2 n 24 H) (nA a n)) 222 2432 (nA a n) := by
  refine n_entry (by decide) (Nat.le_of_ble_eq_true rfl) (fun p e s m below meth c ls hx hb hml hown htm hr hlk hin hK hpre hS hl => ?_)
  obtain ⟨hz, han, h0⟩ := hpre
  have hown : s.vm.findClass RX5 = some m.cls := hown
  have hl : lv_has ls 4 [(0, .ref a), (1, .ref r1), (2, .ref r2)] := hl
  refine lv_aload_n hx hb dX5_init_0 rfl (lv_at hl 0 rfl) ?_
  refine n_obj hx hb htm hown hK hS (hml.trans hl.1.symm) qw_139 qw_1 qw_2 dX5_init_1 (Nat.le_of_ble_eq_true rfl) (Nat.le_of_ble_eq_true rfl) ?_
  refine lv_aload_n hx hb dX5_init_4 rfl (lv_at hl 0 rfl) ?_
  refine lv_iconst (v := 4) hx hb dX5_init_5 (by decide) ?_
  refine n_newI hx hb htm hown hK hS (N := 4) qw_3 (by decide) (by decide) (by decide) hz (Nat.le_of_ble_eq_true rfl) (Nat.le_of_ble_eq_true rfl) dX5_init_6 (fun H1 z1 o1 h1 hS => ?_)
  have h0 := h0.kept (o1 _ (hz ▸ h0.lt))
  have hz := z1
  refine n_putF hx hb htm hown hK hS hin rfl ic_wsU5 tyX5 tyX5_ok nmX5 (Or.inl rfl) h0 2 (by decide) qw_140 rfl rfl (ty := tyX5 2) rfl rfl rfl (show (2 : Nat) < 17 from by decide) dX5_init_8 (fun H1 locs z1 o1 p7 hS => ?_)
  have h1 := h1.kept (o1 _ (by show n ≠ a; omega))
  have hz := z1.trans hz
  have p7 : va_at D clM (a, .inr (5, [.null, .null, .ref n, .null, .null, .int 0, .int 0, .int 0, .int 0, .int 0, .int 0, .null, .int 0, .int 0, .null, .null, .int 0])) H1 := p7
  refine lv_aload_n hx hb dX5_init_11 rfl (lv_at hl 0 rfl) ?_
  refine lv_iconst (v := 4) hx hb dX5_init_12 (by decide) ?_
  refine n_newI hx hb htm hown hK hS (N := 4) qw_3 (by decide) (by decide) (by decide) hz (Nat.le_of_ble_eq_true rfl) (Nat.le_of_ble_eq_true rfl) dX5_init_13 (fun H1 z1 o1 h2 hS => ?_)
  have p7 := p7.kept (o1 _ (hz ▸ p7.lt))
  have h1 := h1.kept (o1 _ (hz ▸ h1.lt))
  have hz := z1
  refine n_putF hx hb htm hown hK hS hin rfl ic_wsU5 tyX5 tyX5_ok nmX5 (Or.inl rfl) p7 3 (by decide) qw_141 rfl rfl (ty := tyX5 3) rfl rfl rfl (show (3 : Nat) < 17 from by decide) dX5_init_15 (fun H1 locs z1 o1 p17 hS => ?_)
  have h1 := h1.kept (o1 _ (by show n ≠ a; omega))
  have h2 := h2.kept (o1 _ (by show (n + 1) ≠ a; omega))
  have hz := z1.trans hz
  have p17 : va_at D clM (a, .inr (5, [.null, .null, .ref n, .ref (n + 1), .null, .int 0, .int 0, .int 0, .int 0, .int 0, .int 0, .null, .int 0, .int 0, .null, .null, .int 0])) H1 := p17
  refine lv_aload_n hx hb dX5_init_18 rfl (lv_at hl 0 rfl) ?_
  refine lv_bipush (v := 24) hx hb dX5_init_19 (by decide) ?_
  refine n_newP hx hb htm hown hK hS (N := 24) qw_142 (by decide) (by decide) (by decide) hz (Nat.le_of_ble_eq_true rfl) (Nat.le_of_ble_eq_true rfl) dX5_init_21 (fun H1 z1 o1 h3 hS => ?_)
  have p17 := p17.kept (o1 _ (hz ▸ p17.lt))
  have h1 := h1.kept (o1 _ (hz ▸ h1.lt))
  have h2 := h2.kept (o1 _ (hz ▸ h2.lt))
  have hz := z1
  refine n_putF hx hb htm hown hK hS hin rfl ic_wsU5 tyX5 tyX5_ok nmX5 (Or.inl rfl) p17 4 (by decide) qw_143 rfl rfl (ty := tyX5 4) rfl rfl rfl (show (4 : Nat) < 17 from by decide) dX5_init_24 (fun H1 locs z1 o1 p29 hS => ?_)
  have h1 := h1.kept (o1 _ (by show n ≠ a; omega))
  have h2 := h2.kept (o1 _ (by show (n + 1) ≠ a; omega))
  have h3 := h3.kept (o1 _ (by show (n + 2) ≠ a; omega))
  have hz := z1.trans hz
  have p29 : va_at D clM (a, .inr (5, [.null, .null, .ref n, .ref (n + 1), .ref (n + 2), .int 0, .int 0, .int 0, .int 0, .int 0, .int 0, .null, .int 0, .int 0, .null, .null, .int 0])) H1 := p29
  refine lv_aload_n hx hb dX5_init_27 rfl (lv_at hl 0 rfl) ?_
  refine lv_bipush (v := 24) hx hb dX5_init_28 (by decide) ?_
  refine n_newI hx hb htm hown hK hS (N := 24) qw_3 (by decide) (by decide) (by decide) hz (Nat.le_of_ble_eq_true rfl) (Nat.le_of_ble_eq_true rfl) dX5_init_30 (fun H1 z1 o1 h4 hS => ?_)
  have p29 := p29.kept (o1 _ (hz ▸ p29.lt))
  have h1 := h1.kept (o1 _ (hz ▸ h1.lt))
  have h2 := h2.kept (o1 _ (hz ▸ h2.lt))
  have h3 := h3.kept (o1 _ (hz ▸ h3.lt))
  have hz := z1
  refine n_putF hx hb htm hown hK hS hin rfl ic_wsU5 tyX5 tyX5_ok nmX5 (Or.inl rfl) p29 11 (by decide) qw_144 rfl rfl (ty := tyX5 11) rfl rfl rfl (show (11 : Nat) < 17 from by decide) dX5_init_32 (fun H1 locs z1 o1 p43 hS => ?_)
  have h1 := h1.kept (o1 _ (by show n ≠ a; omega))
  have h2 := h2.kept (o1 _ (by show (n + 1) ≠ a; omega))
  have h3 := h3.kept (o1 _ (by show (n + 2) ≠ a; omega))
  have h4 := h4.kept (o1 _ (by show (n + 3) ≠ a; omega))
  have hz := z1.trans hz
  have p43 : va_at D clM (a, .inr (5, [.null, .null, .ref n, .ref (n + 1), .ref (n + 2), .int 0, .int 0, .int 0, .int 0, .int 0, .int 0, .ref (n + 3), .int 0, .int 0, .null, .null, .int 0])) H1 := p43
  refine lv_aload_n hx hb dX5_init_35 rfl (lv_at hl 0 rfl) ?_
  refine lv_bipush (v := 24) hx hb dX5_init_36 (by decide) ?_
  refine n_newI hx hb htm hown hK hS (N := 24) qw_3 (by decide) (by decide) (by decide) hz (Nat.le_of_ble_eq_true rfl) (Nat.le_of_ble_eq_true rfl) dX5_init_38 (fun H1 z1 o1 h5 hS => ?_)
  have p43 := p43.kept (o1 _ (hz ▸ p43.lt))
  have h1 := h1.kept (o1 _ (hz ▸ h1.lt))
  have h2 := h2.kept (o1 _ (hz ▸ h2.lt))
  have h3 := h3.kept (o1 _ (hz ▸ h3.lt))
  have h4 := h4.kept (o1 _ (hz ▸ h4.lt))
  have hz := z1
  refine n_putF hx hb htm hown hK hS hin rfl ic_wsU5 tyX5 tyX5_ok nmX5 (Or.inl rfl) p43 14 (by decide) qw_145 rfl rfl (ty := tyX5 14) rfl rfl rfl (show (14 : Nat) < 17 from by decide) dX5_init_40 (fun H1 locs z1 o1 p59 hS => ?_)
  have h1 := h1.kept (o1 _ (by show n ≠ a; omega))
  have h2 := h2.kept (o1 _ (by show (n + 1) ≠ a; omega))
  have h3 := h3.kept (o1 _ (by show (n + 2) ≠ a; omega))
  have h4 := h4.kept (o1 _ (by show (n + 3) ≠ a; omega))
  have h5 := h5.kept (o1 _ (by show (n + 4) ≠ a; omega))
  have hz := z1.trans hz
  have p59 : va_at D clM (a, .inr (5, [.null, .null, .ref n, .ref (n + 1), .ref (n + 2), .int 0, .int 0, .int 0, .int 0, .int 0, .int 0, .ref (n + 3), .int 0, .int 0, .ref (n + 4), .null, .int 0])) H1 := p59
  refine lv_aload_n hx hb dX5_init_43 rfl (lv_at hl 0 rfl) ?_
  refine lv_bipush (v := 24) hx hb dX5_init_44 (by decide) ?_
  refine n_newI hx hb htm hown hK hS (N := 24) qw_3 (by decide) (by decide) (by decide) hz (Nat.le_of_ble_eq_true rfl) (Nat.le_of_ble_eq_true rfl) dX5_init_46 (fun H1 z1 o1 h6 hS => ?_)
  have p59 := p59.kept (o1 _ (hz ▸ p59.lt))
  have h1 := h1.kept (o1 _ (hz ▸ h1.lt))
  have h2 := h2.kept (o1 _ (hz ▸ h2.lt))
  have h3 := h3.kept (o1 _ (hz ▸ h3.lt))
  have h4 := h4.kept (o1 _ (hz ▸ h4.lt))
  have h5 := h5.kept (o1 _ (hz ▸ h5.lt))
  have hz := z1
  refine n_putF hx hb htm hown hK hS hin rfl ic_wsU5 tyX5 tyX5_ok nmX5 (Or.inl rfl) p59 15 (by decide) qw_146 rfl rfl (ty := tyX5 15) rfl rfl rfl (show (15 : Nat) < 17 from by decide) dX5_init_48 (fun H1 locs z1 o1 p77 hS => ?_)
  have h1 := h1.kept (o1 _ (by show n ≠ a; omega))
  have h2 := h2.kept (o1 _ (by show (n + 1) ≠ a; omega))
  have h3 := h3.kept (o1 _ (by show (n + 2) ≠ a; omega))
  have h4 := h4.kept (o1 _ (by show (n + 3) ≠ a; omega))
  have h5 := h5.kept (o1 _ (by show (n + 4) ≠ a; omega))
  have h6 := h6.kept (o1 _ (by show (n + 5) ≠ a; omega))
  have hz := z1.trans hz
  have p77 : va_at D clM (a, .inr (5, [.null, .null, .ref n, .ref (n + 1), .ref (n + 2), .int 0, .int 0, .int 0, .int 0, .int 0, .int 0, .ref (n + 3), .int 0, .int 0, .ref (n + 4), .ref (n + 5), .int 0])) H1 := p77
  refine lv_aload_n hx hb dX5_init_51 rfl (lv_at hl 0 rfl) ?_
  refine lv_aload_n hx hb dX5_init_52 rfl (lv_at hl 1 rfl) ?_
  refine n_putF hx hb htm hown hK hS hin rfl ic_wsU5 tyX5 tyX5_ok nmX5 (Or.inl rfl) p77 0 (by decide) qw_147 rfl rfl (ty := tyX5 0) rfl rfl rfl (show (0 : Nat) < 17 from by decide) dX5_init_53 (fun H1 locs z1 o1 p88 hS => ?_)
  have h1 := h1.kept (o1 _ (by show n ≠ a; omega))
  have h2 := h2.kept (o1 _ (by show (n + 1) ≠ a; omega))
  have h3 := h3.kept (o1 _ (by show (n + 2) ≠ a; omega))
  have h4 := h4.kept (o1 _ (by show (n + 3) ≠ a; omega))
  have h5 := h5.kept (o1 _ (by show (n + 4) ≠ a; omega))
  have h6 := h6.kept (o1 _ (by show (n + 5) ≠ a; omega))
  have hz := z1.trans hz
  have p88 : va_at D clM (a, .inr (5, [.ref r1, .null, .ref n, .ref (n + 1), .ref (n + 2), .int 0, .int 0, .int 0, .int 0, .int 0, .int 0, .ref (n + 3), .int 0, .int 0, .ref (n + 4), .ref (n + 5), .int 0])) H1 := p88
  refine lv_aload_n hx hb dX5_init_56 rfl (lv_at hl 0 rfl) ?_
  refine lv_aload_n hx hb dX5_init_57 rfl (lv_at hl 2 rfl) ?_
  refine n_putF hx hb htm hown hK hS hin rfl ic_wsU5 tyX5 tyX5_ok nmX5 (Or.inl rfl) p88 1 (by decide) qw_148 rfl rfl (ty := tyX5 1) rfl rfl rfl (show (1 : Nat) < 17 from by decide) dX5_init_58 (fun H1 locs z1 o1 p99 hS => ?_)
  have h1 := h1.kept (o1 _ (by show n ≠ a; omega))
  have h2 := h2.kept (o1 _ (by show (n + 1) ≠ a; omega))
  have h3 := h3.kept (o1 _ (by show (n + 2) ≠ a; omega))
  have h4 := h4.kept (o1 _ (by show (n + 3) ≠ a; omega))
  have h5 := h5.kept (o1 _ (by show (n + 4) ≠ a; omega))
  have h6 := h6.kept (o1 _ (by show (n + 5) ≠ a; omega))
  have hz := z1.trans hz
  have p99 : va_at D clM (a, .inr (5, [.ref r1, .ref r2, .ref n, .ref (n + 1), .ref (n + 2), .int 0, .int 0, .int 0, .int 0, .int 0, .int 0, .ref (n + 3), .int 0, .int 0, .ref (n + 4), .ref (n + 5), .int 0])) H1 := p99
  refine lv_aload_n hx hb dX5_init_61 rfl (lv_at hl 0 rfl) ?_
  refine n_get hx hb htm hown hK hS rfl ic_wsU5 p99 3 (by decide) qw_141 rfl dX5_init_62 ?_
  refine lv_iconst (v := (-1)) hx hb dX5_init_65 (by decide) ?_
  refine n_cO hx hb hml htm hown hK hS sw_J7_fill_53178 qw_150 (c_fill (q := (n + 1)) (sz := n + 6) (N := 4) (f := fun _ => 0) (v := (-1)) (by decide)) ⟨rfl, rfl⟩ ⟨Nat.le_of_ble_eq_true rfl, Nat.le_of_ble_eq_true rfl⟩ ⟨Nat.le_of_ble_eq_true rfl, Nat.le_of_ble_eq_true rfl⟩ ⟨hz, h2⟩ (fun q h9 => by subst h9; exact Or.inr (by omega)) rfl hl.1 (rest := []) rfl (Nat.le_of_ble_eq_true rfl) dX5_init_66 (fun H1 locs hQ z1 o1 hS => ?_)
  obtain ⟨hz1, f111⟩ := hQ
  have p99 := p99.kept (o1 _ p99.lt (by show ¬ a = (n + 1); omega))
  have h1 := h1.kept (o1 _ h1.lt (by show ¬ n = (n + 1); omega))
  have h3 := h3.kept (o1 _ h3.lt (by show ¬ (n + 2) = (n + 1); omega))
  have h4 := h4.kept (o1 _ h4.lt (by show ¬ (n + 3) = (n + 1); omega))
  have h5 := h5.kept (o1 _ h5.lt (by show ¬ (n + 4) = (n + 1); omega))
  have h6 := h6.kept (o1 _ h6.lt (by show ¬ (n + 5) = (n + 1); omega))
  have hz := hz1
  refine lv_iconst (v := 0) hx hb dX5_init_69 (by decide) ?_
  refine lv_istore_n (lv' := [(3, .int 0), (0, .ref a), (1, .ref r1), (2, .ref r2)]) hx hb dX5_init_70 rfl hl (by decide) rfl (fun ls hl => ?_)
  exact l_X5_init hx hb hml hown htm hr hlk hK han 24 0 _ _ _ _ ls (by decide) (by decide) (by decide) ⟨hz, p99, h1, f111, h4, h5, h6, by rw [pF_0]; exact h3, fun j hj => absurd hj (Nat.not_lt_zero j)⟩ hS (lv_sub hl [0, 1] rfl)
