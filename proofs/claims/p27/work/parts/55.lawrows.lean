/-! the law's own small methods, by contracts that leave all as it was; isSound's contract -/
theorem wd_mono {p : Program} {l : Launch} {e : Env} {R : Room} {s : State} {m : MethodId} {args : Array Value} {below : List Frame} {meth : Method} {c : Code} {H : Heap} {locs : List Loc} {cells slots : Nat} {Q Q' : State → Prop} {g : JFrame} (h : ∀ t, Q t → Q' t) (k : W p l e R s m args below meth c H locs cells slots Q g) : W p l e R s m args below meth c H locs cells slots Q' g := fun T hT X => by
  obtain ⟨t, a, b⟩ := k T hT X
  exact ⟨t, a, h t b⟩
theorem MQ.mono {below : List Frame} {Qc Qc' : Array Value → State → Outcome → State → Prop} {a : Array Value} {s : State} {mc ms : Nat} {free : Addr → Prop} (h : ∀ o t, Qc a s o t → Qc' a s o t) (t : State) (k : MQ below Qc a s mc ms free t) : MQ below Qc' a s mc ms free t := by
  obtain ⟨o, h1, h2, h3, h4⟩ := k
  exact ⟨o, h1, h2, h o t h3, h4⟩
theorem Lay.mono {ad : Nat → Nat → Nat → Nat} {A B : Nat → Prop} (h : Lay ad A) (hAB : ∀ q, A q → B q) : Lay ad B := fun e => ⟨(h e).1, fun k q hq => hAB _ ((h e).2 k q hq)⟩
theorem l_entry {l : Launch} {y : MethodName} {cc : ByteArray} {nL mc ms : Nat} {rt : Option FieldType} {rm : Room} {D : va_G} {ad : Nat → Nat → Nat → Nat} {cI cZ cP : ClassId} {A B : Nat → Prop} {av : List Value} {P : Heap → Prop} {Qc : Array Value → State → Outcome → State → Prop} (hy : plainName y.cls = true) (hsz : (lg_sl av).length ≤ nL)
    (body : ∀ (p : Program) (e : Env) (s : State) (m : MethodId) (below : List Frame) (meth : Method) (c : Code) (ls : Array Slot), MX p s m av.toArray meth c cc y.cls nL rt D ad cI cZ cP A → P s.heap → lv_has ls nL (lv_args 0 av) → W p l e rm s m av.toArray below meth c s.heap [] 0 0 (MQ below Qc av.toArray s mc ms B) (F0 m 0 ls [])) : Met l y (.code y cc nL rt :: WM) rm (PcM D ad cI cZ cP A av P) Qc mc ms B := by
  refine Met.ofW (cc := cc) (maxL := nL) (ret := rt) hy rfl ?_
  intro p e s m args below meth c s₁ B hml hv
  obtain ⟨rfl, hE, hP⟩ := hv
  have hts := atoms_spec (ws := .code y cc nL rt :: WM) B.pre
  have hown : s.vm.findClass y.cls = some m.cls := findClass_of_methodNamed B.named
  have hl := lv_entry av (n := nL) hsz
  rw [lg_entry_eq]
  exact body p e s m below meth c _ ⟨B.exec, B.bytes, hml, hown, fun x hx => hts x (List.mem_cons_of_mem _ hx), B.returns, B.notSynchronized, hE⟩ hP hl
theorem e_entry {l : Launch} {y : MethodName} {cc : ByteArray} {nL mc ms : Nat} {rt : Option FieldType} {rm : Room} {B : Nat → Prop} {av : List Value} {P : State → Prop} {Qc : Array Value → State → Outcome → State → Prop} (hy : plainName y.cls = true) (hsz : (lg_sl av).length ≤ nL)
    (body : ∀ (p : Program) (e : Env) (s : State) (m : MethodId) (below : List Frame) (meth : Method) (c : Code) (ls : Array Slot), p.tables.exec = Jvm.exec → c.code = cc → c.maxLocals = nL → s.vm.findClass y.cls = some m.cls → (∀ x ∈ WM, x.before av.toArray s = true) → meth.sig.returnType = rt → meth.locks = false → P s → lv_has ls nL (lv_args 0 av) → W p l e rm s m av.toArray below meth c s.heap [] 0 0 (MQ below Qc av.toArray s mc ms B) (F0 m 0 ls [])) : Met l y (.code y cc nL rt :: WM) rm (va_Pc av P) Qc mc ms B := by
  refine Met.ofW (cc := cc) (maxL := nL) (ret := rt) hy rfl ?_
  intro p e s m args below meth c s₁ B hml hv
  obtain ⟨rfl, hP⟩ := hv
  have hts := atoms_spec (ws := .code y cc nL rt :: WM) B.pre
  have hown : s.vm.findClass y.cls = some m.cls := findClass_of_methodNamed B.named
  have hl := lv_entry av (n := nL) hsz
  rw [lg_entry_eq]
  exact body p e s m below meth c _ B.exec B.bytes hml hown (fun x hx => hts x (List.mem_cons_of_mem _ hx)) B.returns B.notSynchronized hP hl
/-- contracts that change nothing -/
abbrev QcE (post : Int32 → Prop) : Array Value → State → Outcome → State → Prop := va_Qi (fun r (_ : Unit) => post r) (fun _ _ => True) (fun _ => False)
def rm_L_0 : Room := { frames := 0, cells := 0, slots := 0, locals := 0 }
set_option maxRecDepth 20000 in
theorem c_below {l : Launch} {x y r : Int32} (hF : f_L_below x y = some r) : Met l yL_below (.code yL_below cL_below 2 (some .int) :: WM) rm_L_0 (va_Pc [.int x, .int y] (fun _ => True)) (QcE (fun z => z = r)) 0 0 (fun _ => False) := by
  refine e_entry (by decide) (Nat.le_of_ble_eq_true rfl) (fun p e s m below meth c ls hx hb hml hown htm hr hlk hP hl => ?_)
  have hl : lv_has ls 2 [(0, .int x), (1, .int y)] := hl
  refine lv_iload_n hx hb dL_below_0 rfl (lv_at hl 0 rfl) ?_
  refine lv_ldc (v := 2147483647) hx hb hown (htm _ qw_572) dL_below_1 ?_
  refine lv_iand hx hb dL_below_3 ?_
  refine lv_iload_n hx hb dL_below_4 rfl (lv_at hl 1 rfl) ?_
  obtain ⟨hn1, hF⟩ := ite_S hF
  refine lv_irem hx hb dL_below_5 hn1 ?_
  have e1 := Option.some.inj hF
  subst e1
  exact W.iret hx hb hr (fun t ht _ => ⟨⟨_, (), rfl, rfl, trivial⟩, va_S.rf.F ht⟩) (fun q hq => by cases hq) dL_below_6 hlk
set_option maxRecDepth 20000 in
theorem c_cell {l : Launch} {b L k : Nat} {xs : Nat → Int32} (hL : L < 2 ^ 31) (hk : k < 2 ^ 31) : Met l yL_cell (.code yL_cell cL_cell 2 (some .int) :: WM) rm_L_0 (va_Pc [.ref b, .int (nI k)] (fun U => va_X b L xs U U.heap)) (QcE (fun _ => True)) 0 0 (fun _ => False) := by
  refine e_entry (by decide) (Nat.le_of_ble_eq_true rfl) (fun p e s m below meth c ls hx hb hml hown htm hr hlk hX hl => ?_)
  have hl : lv_has ls 2 [(0, .ref b), (1, .int (nI k))] := hl
  have hX : va_X b L xs s s.heap := hX
  have hbl : b < s.heap.size := by
    obtain ⟨scr, h1, -⟩ := hX
    exact (Array.getElem?_eq_some_iff.mp h1).1
  have fin : ∀ (v : Int32) (ls : Array Slot), W p l e rm_L_0 s m [Value.ref b, Value.int (nI k)].toArray below meth c s.heap [] 0 0 (MQ below (QcE (fun _ => True)) [Value.ref b, Value.int (nI k)].toArray s 0 0 (fun _ => False)) (F0 m 18 ls [.int v]) := fun v ls => W.iret hx hb hr (fun t ht _ => ⟨⟨_, (), rfl, trivial, trivial⟩, va_S.rf.F ht⟩) (fun q hq => by cases hq) dL_cell_18 hlk
  refine lv_iload_n hx hb dL_cell_0 rfl (lv_at hl 1 rfl) ?_
  refine lv_aload_n hx hb dL_cell_1 rfl (lv_at hl 0 rfl) ?_
  refine va_slen hx hb hX hbl (A := fun _ => False) (fun h => h) va_S.rf dL_cell_2 ?_
  refine lv_icmp_ge (tgt := 12) hx hb dL_cell_3 (by decide) (fun c1 => ?_) (fun c1 => ?_)
  · refine lv_ldc (v := 790386105) hx hb hown (htm _ qw_574) dL_cell_12 ?_
    refine lv_iload_n hx hb dL_cell_14 rfl (lv_at hl 1 rfl) ?_
    refine lv_iconst (v := 3) hx hb dL_cell_15 (by decide) ?_
    refine lv_iadd hx hb dL_cell_16 ?_
    refine lv_imul hx hb dL_cell_17 ?_
    exact fin _ ls
  · have hkL : k < L := by
      by_cases z : k < L
      · exact z
      · exact absurd (nI_le (a := L) (b := k) (by omega) hk) c1
    refine lv_aload_n hx hb dL_cell_6 rfl (lv_at hl 0 rfl) ?_
    refine lv_iload_n hx hb dL_cell_7 rfl (lv_at hl 1 rfl) ?_
    refine va_sld hx hb hX hbl (A := fun _ => False) (fun h => h) va_S.rf (vp_in_nI hkL hL) dL_cell_8 ?_
    refine lv_goto (tgt := 18) hx hb dL_cell_9 (by decide) ?_
    exact fin _ ls
section
variable {p : Program} {l : Launch} {e : Env} {R : Room} {s : State} {m : MethodId} {args : Array Value} {below : List Frame} {meth : Method} {c : Code} {H : Heap} {locs : List Loc} {cells slots : Nat} {Q : State → Prop}
variable {cc : ByteArray} {pc nL : Nat} {rt : Option FieldType} {ls : Array Slot} {rest st0 : List Value} {D : va_G} {ad : Nat → Nat → Nat → Nat} {cI cZ cP : ClassId} {A Ar B : Nat → Prop} {H0 : Heap}
theorem sw_below : SW RL yL_below cL_below 2 (some .int) 2 := sw_L_below
theorem n_below (hx : p.tables.exec = Jvm.exec) (hb : c.code = cc) (hml : c.maxLocals = nL) (hown : s.vm.findClass RL = some m.cls) (htm : ∀ x ∈ WM, x.before args s = true) (hS : va_S B s.heap H locs) {x y r : Int32} (hF : f_L_below x y = some r) (hR : 1 ≤ R.frames ∧ 21 ≤ R.locals) (hcs : cells ≤ R.cells ∧ slots ≤ R.slots) (hl : ls.size = nL) (hrest : (rest.map fun v => v.category).sum ≤ 8) (hdg : decode cc pc = .ok (.invokestatic 18, 3)) (kk : ∀ (H1 : Heap) (locs1 : List Loc), (∀ q, q < H.size → H1[q]? = H[q]?) → H.size ≤ H1.size → va_S B s.heap H1 locs1 → W p l e R s m args below meth c H1 locs1 cells slots Q (F0 m (pc + 3) ls (.int r :: rest))) : W p l e R s m args below meth c H locs cells slots Q (F0 m pc ls (.int y :: .int x :: rest)) := by
  refine va_calli (A1 := fun _ => False) (va_runS (As := [.int x, .int y]) (rest := rest) ⟨hx, hb, hml, hown, htm⟩ (c_below hF) (cwS 2 htm (gSW sw_below qw_580) rfl rfl rfl sw_below.2.2.2 hR) ⟨fun _ _ _ _ q => q, fun U hU hW => ⟨rfl, trivial⟩⟩ rfl rfl hl rfl (lv_room hrest) hdg hcs) hS (fun q _ h => h.elim) (fun q h => h.elim) (fun r1 u t H1 locs1 ht hvm hp hB hz hk hS1 => ?_)
  subst hp
  exact kk H1 locs1 (fun q hq => hk q hq (fun h => h)) hz hS1
theorem sw_cell : SW RL yL_cell cL_cell 2 (some .int) 2 := ⟨qw_578, qw_579, qw_575, ⟨rfl, by decide, by decide, by decide +kernel⟩⟩
theorem n_cell (hx : p.tables.exec = Jvm.exec) (hb : c.code = cc) (hml : c.maxLocals = nL) (hown : s.vm.findClass RL = some m.cls) (htm : ∀ x ∈ WM, x.before args s = true) (hS : va_S B s.heap H locs) {b L k : Nat} {xs : Nat → Int32} (hX : va_X b L xs s H) (hL : L < 2 ^ 31) (hk : k < 2 ^ 31) (hR : 1 ≤ R.frames ∧ 21 ≤ R.locals) (hcs : cells ≤ R.cells ∧ slots ≤ R.slots) (hl : ls.size = nL) (hrest : (rest.map fun v => v.category).sum ≤ 8) (hdg : decode cc pc = .ok (.invokestatic 12, 3)) (kk : ∀ (r : Int32) (H1 : Heap) (locs1 : List Loc), (∀ q, q < H.size → H1[q]? = H[q]?) → H.size ≤ H1.size → va_S B s.heap H1 locs1 → W p l e R s m args below meth c H1 locs1 cells slots Q (F0 m (pc + 3) ls (.int r :: rest))) : W p l e R s m args below meth c H locs cells slots Q (F0 m pc ls (.int (nI k) :: .ref b :: rest)) := by
  refine va_calli (A1 := fun _ => False) (va_runS (As := [.ref b, .int (nI k)]) (rest := rest) ⟨hx, hb, hml, hown, htm⟩ (c_cell (xs := xs) hL hk) (cwS 2 htm (gSW sw_cell qw_577) rfl rfl rfl sw_cell.2.2.2 hR) ⟨fun _ _ _ _ q => q, fun U hU hW => ⟨rfl, show va_X b L xs U U.heap by rw [hU]; exact va_X.moved hW.alike hX⟩⟩ rfl rfl hl rfl (lv_room hrest) hdg hcs) hS (fun q _ h => h.elim) (fun q h => h.elim) (fun r1 u t H1 locs1 ht hvm hp hB hz hk hS1 => ?_)
  exact kk r1 H1 locs1 (fun q hq => hk q hq (fun h => h)) hz hS1
end
set_option maxRecDepth 20000 in
theorem c_L_isSound {l : Launch} {D : va_G} {ad : Nat → Nat → Nat → Nat} {cI cZ cP : ClassId} {A : Nat → Prop} {ra n0 b C E : Nat} {G V U : MT} {R : RT} (hLA : Lay ad A) (hA0 : ∀ q, A q → q < n0) (hra : ¬ A ra) (h : wI b C E V) (hRO : wRO C V R) : Met l yL_isSound (.code yL_isSound cL_isSound 8 (some .boolean) :: WM) rm_L_isSound (PcM D ad cI cZ cP (fun q => A q ∨ q = ra) [.ref (ad 2 16 0), .ref ra] (fun H => H.size = n0 ∧ SHp D ad cI cZ cP ra G V U R H)) (QcI (fun q => A q ∨ q = ra ∨ n0 ≤ q) 1 (fun H => ∃ R', wRO C V R' ∧ SHp D ad cI cZ cP ra G V U R' H)) 1 3 (fun q => A q ∨ q = ra ∨ n0 ≤ q) := by
  refine l_entry (by decide) (Nat.le_of_ble_eq_true rfl) (fun p e s m below meth c ls X hP hl => ?_)
  have X : MX p s m _ meth c cL_isSound RL 8 (some .boolean) D ad cI cZ cP (fun q => A q ∨ q = ra) := X
  obtain ⟨hx, hb, hml, hown, htm, hr, hlk, hE⟩ := id X
  have hl : lv_has ls 8 [(0, .ref (ad 2 16 0)), (1, .ref ra)] := hl
  obtain ⟨hz0, hP, hPr⟩ := hP
  have hS : va_S (fun q => A q ∨ q = ra ∨ n0 ≤ q) s.heap s.heap [] := va_S.rf
  have hAr : ∀ q, A q → A q ∨ q = ra := fun q z => Or.inl z
  have hAB : ∀ q, A q → A q ∨ q = ra ∨ n0 ≤ q := fun q z => Or.inl z
  have hBs : ∀ q, q < s.heap.size → (A q ∨ q = ra ∨ n0 ≤ q) → A q ∨ q = ra := fun q h1 h2 => by
    rcases h2 with z | z | z
    · exact Or.inl z
    · exact Or.inr z
    · omega
  refine lv_aload_n hx hb dL_isSound_0 rfl (lv_at hl 0 rfl) ?_
  refine lv_iconst (v := 2) hx hb dL_isSound_1 (by decide) ?_
  refine n_cVi X hLA hAr hAB hBs hS vw_X6_many qw_588 (c_X6_many (mn_2 G U h)) ⟨rfl, rfl⟩ ⟨Nat.le_of_ble_eq_true rfl, Nat.le_of_ble_eq_true rfl⟩ ⟨Nat.zero_le _, Nat.zero_le _⟩ (rc_16 hE hP) hP rfl hl.1 (rest := []) rfl (Nat.le_of_ble_eq_true rfl) dL_isSound_2 (fun H1 locs hP1 hK hZ hS => ?_)
  have hPr1 := hPr.kept (hK ra hPr.lt2 hra)
  refine lv_istore_n (lv' := [(2, .int (nI C)), (0, .ref (ad 2 16 0)), (1, .ref ra)]) hx hb dL_isSound_5 rfl hl (by decide) rfl (fun ls hl => ?_)
  refine lv_iconst (v := 3) hx hb dL_isSound_6 (by decide) ?_
  refine la_new hx hb (htm _ qw_3) hE hS (n := 3) (N := 3) (by decide) (by decide) (by decide) (Nat.le_of_ble_eq_true rfl) (Nat.le_of_ble_eq_true rfl) dL_isSound_7 (fun H2 hT hk2 hz2 hS => ?_)
  have hH1 : n0 ≤ H1.size := by omega
  have hP2 := hP1.keep hLA (fun q hq _ => hk2 q hq)
  have hPr2 := hPr1.kept (hk2 ra hPr1.lt2)
  refine lv_astore_n (lv' := [(3, .ref H1.size), (2, .int (nI C)), (0, .ref (ad 2 16 0)), (1, .ref ra)]) hx hb dL_isSound_9 rfl hl (by decide) rfl (fun ls hl => ?_)
  refine lv_iconst (v := 0) hx hb dL_isSound_10 (by decide) ?_
  refine lv_istore (lv' := [(4, .int 0), (3, .ref H1.size), (2, .int (nI C)), (0, .ref (ad 2 16 0)), (1, .ref ra)]) hx hb dL_isSound_11 hl (by decide) rfl (fun ls hl => ?_)
  obtain ⟨⟨r, R'⟩, eF, hr1, hRO'⟩ := so_13 (G := G) (U := U) h 30 0 R (fun _ => 0) (Nat.zero_le _) (by omega) hRO ⟨rfl, rfl, rfl⟩
  have hr1 : r = 1 := hr1
  subst hr1
  refine wd_mono (MQ.mono (fun o t q => ⟨?_, q.2⟩)) (l_L_isSound_13 X (ta := H1.size) ⟨hLA, hAr, hAB, hBs, hra, (fun z => by have := hA0 _ z; omega), (fun z => by have := hPr1.lt2; rw [← z] at *; exact absurd this (Nat.lt_irrefl _)), Or.inr (Or.inl rfl), Or.inr (Or.inr hH1)⟩ 30 (nI C) (nI 0) R (fun _ => 0) ⟨hP2, hPr2, hT⟩ hS (lv_sub hl [3, 4, 2, 1, 0] rfl) eF)
  obtain ⟨x, u, q1, q2, q3⟩ := q.1
  exact ⟨x, u, q1, q2, R', hRO', q3⟩
