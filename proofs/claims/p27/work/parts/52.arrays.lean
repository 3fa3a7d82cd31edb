/-! rows for the law: arrays of its own beside the den; calls with what they leave -/
abbrev RT : Type := Nat → Int32
theorem DEnv.cI {D : va_G} {ad : Nat → Nat → Nat → Nat} {cI cZ cP : ClassId} {A : Nat → Prop} {s : State} (h : DEnv D ad cI cZ cP A s) : ArrOfT s cI .int ∧ s.vm.findClass ("[" ++ (FieldType.int).toString) = some cI := h.1.2 0 (cI, .int) rfl
theorem Pic.keep {D : va_G} {ad : Nat → Nat → Nat → Nat} {cI cZ cP : ClassId} {A : Nat → Prop} {w : Nat} {G V U : MT} {H H1 : Heap} (hL : Lay ad A) (h : Pic D ad cI cZ cP w G V U H) (hk : ∀ q, q < H.size → A q → H1[q]? = H[q]?) : Pic D ad cI cZ cP w G V U H1 := h.kept (fun k q hq => hk q.1 (h k q hq).lt ((hL _).2 k q hq))
/-- the den, and two rows of the law's own -/
def LH (D : va_G) (ad : Nat → Nat → Nat → Nat) (cI cZ cP : ClassId) (ra ta : Nat) (G V U : MT) (R T : RT) (H : Heap) : Prop := Pic D ad cI cZ cP 0 G V U H ∧ va_at D clM (ra, .inl (cI, 24, .inl R)) H ∧ va_at D clM (ta, .inl (cI, 3, .inl T)) H
def SHp (D : va_G) (ad : Nat → Nat → Nat → Nat) (cI cZ cP : ClassId) (ra : Nat) (G V U : MT) (R : RT) (H : Heap) : Prop := Pic D ad cI cZ cP 0 G V U H ∧ va_at D clM (ra, .inl (cI, 24, .inl R)) H
/-- where all lies: the den in A; Ar: A and the old row of the law; B: all that may be written -/
def SY (ad : Nat → Nat → Nat → Nat) (A Ar B : Nat → Prop) (s : State) (ra ta : Nat) : Prop := Lay ad A ∧ (∀ q, A q → Ar q) ∧ (∀ q, A q → B q) ∧ (∀ q, q < s.heap.size → B q → Ar q) ∧ ¬ A ra ∧ ¬ A ta ∧ ra ≠ ta ∧ B ra ∧ B ta
theorem va_at.lt2 {D : va_G} {cl : List vw_C} {q : Nat × va_E} {H : Heap} (h : va_at D cl q H) : q.1 < H.size := va_at.lt h
theorem LH.go {D : va_G} {ad : Nat → Nat → Nat → Nat} {cI cZ cP : ClassId} {A : Nat → Prop} {ra ta : Nat} {G V U G1 V1 U1 : MT} {R T : RT} {H H1 : Heap} (h1 : ¬ A ra) (h2 : ¬ A ta) (h : LH D ad cI cZ cP ra ta G V U R T H) (hP : Pic D ad cI cZ cP 0 G1 V1 U1 H1) (hk : ∀ q, q < H.size → ¬ A q → H1[q]? = H[q]?) : LH D ad cI cZ cP ra ta G1 V1 U1 R T H1 := ⟨hP, h.2.1.kept (hk ra h.2.1.lt2 h1), h.2.2.kept (hk ta h.2.2.lt2 h2)⟩
theorem LH.stR {D : va_G} {ad : Nat → Nat → Nat → Nat} {cI cZ cP : ClassId} {A : Nat → Prop} {ra ta : Nat} {G V U : MT} {R R1 T : RT} {H H1 : Heap} (hL : Lay ad A) (h1 : ¬ A ra) (hn : ra ≠ ta) (h : LH D ad cI cZ cP ra ta G V U R T H) (hr : va_at D clM (ra, .inl (cI, 24, .inl R1)) H1) (hk : ∀ q, q ≠ ra → H1[q]? = H[q]?) : LH D ad cI cZ cP ra ta G V U R1 T H1 := ⟨h.1.keep hL (fun q _ hA => hk q (by rintro rfl; exact h1 hA)), hr, h.2.2.kept (hk ta (fun e => hn e.symm))⟩
theorem LH.stT {D : va_G} {ad : Nat → Nat → Nat → Nat} {cI cZ cP : ClassId} {A : Nat → Prop} {ra ta : Nat} {G V U : MT} {R T T1 : RT} {H H1 : Heap} (hL : Lay ad A) (h1 : ¬ A ta) (hn : ra ≠ ta) (h : LH D ad cI cZ cP ra ta G V U R T H) (hr : va_at D clM (ta, .inl (cI, 3, .inl T1)) H1) (hk : ∀ q, q ≠ ta → H1[q]? = H[q]?) : LH D ad cI cZ cP ra ta G V U R T1 H1 := ⟨h.1.keep hL (fun q _ hA => hk q (by rintro rfl; exact h1 hA)), h.2.1.kept (hk ra hn), hr⟩
theorem Stc.narrow {A B : Nat → Prop} {s : State} (h : Stc A s) (hAB : ∀ q, B q → A q) : Stc B s := by
  obtain ⟨⟨t0, a0, b0⟩, ⟨t1, a1, b1⟩, ⟨t2, a2, b2⟩⟩ := h
  exact ⟨⟨t0, a0.narrow hAB, b0.narrow hAB⟩, ⟨t1, a1.narrow hAB, b1.narrow hAB⟩, ⟨t2, a2.narrow hAB, b2.narrow hAB⟩⟩
theorem DEnv.go {D : va_G} {ad : Nat → Nat → Nat → Nat} {cI cZ cP : ClassId} {A Ar B : Nat → Prop} {s U : State} {H : Heap} {locs : List Loc} (h : DEnv D ad cI cZ cP Ar s) (hL : Lay ad A) (hAr : ∀ q, A q → Ar q) (hB : ∀ q, q < s.heap.size → B q → Ar q) (hS : va_S B s.heap H locs) (hW : s.WarmedH U.vm) (hU : U.heap = H) : DEnv D ad cI cZ cP A U := by
  have hS' : va_S Ar s.heap H [] := ⟨hS.1, fun q h1 h2 => hS.2.1 q h1 (fun z => h2 (hB q h1 z)), fun _ h9 => by cases h9⟩
  have h2 := h.warm hW hS' hU
  exact ⟨h2.1, h2.2.1, hL, h2.2.2.2.1.narrow hAr, h2.2.2.2.2⟩
section
variable {p : Program} {l : Launch} {e : Env} {R : Room} {s : State} {m : MethodId} {args : Array Value} {below : List Frame} {meth : Method} {c : Code} {H : Heap} {locs : List Loc} {cells slots : Nat} {Q : State → Prop}
variable {cc : ByteArray} {pc nL : Nat} {rt : Option FieldType} {ls : Array Slot} {rest st0 : List Value} {D : va_G} {ad : Nat → Nat → Nat → Nat} {cI cZ cP : ClassId} {A Ar B : Nat → Prop} {H0 : Heap} {own : String} {index : Nat}
theorem l_zret (X : MX p s m args meth c cc own nL (some .boolean) D ad cI cZ cP Ar) (hS : va_S B s.heap H locs) {r x : Int32} {P : Heap → Prop} (hP : P H) (hv : x = r) (hz : x = 0 ∨ x = 1) (hdg : decode cc pc = .ok (.ireturn, 1)) : W p l e R s m args below meth c H locs cells slots (MQ below (QcI B r P) args s cells slots B) (F0 m pc ls [.int x]) := by
  obtain ⟨hx, hb, hml, hown, htm, hr, hlk, hE⟩ := X
  exact W.zret hx hb hr (by rcases hz with rfl | rfl <;> rfl) (fun t ht _ => ⟨⟨x, (), rfl, hv, by show P t.heap; rw [ht]; exact hP⟩, hS.F ht⟩) hS.2.2 hdg hlk
theorem la_ld (hx : p.tables.exec = Jvm.exec) (hb : c.code = cc) (hE : DEnv D ad cI cZ cP Ar s) {q n : Nat} {f : RT} (h : va_at D clM (q, .inl (cI, n, .inl f)) H) {i : Int32} (hin : vp_in i n) (hdg : decode cc pc = .ok (.iaload, 1)) (kk : W p l e R s m args below meth c H locs cells slots Q (F0 m (pc + 1) ls (.int (f i.toNatClampNeg) :: rest))) : W p l e R s m args below meth c H locs cells slots Q (F0 m pc ls (.int i :: .ref q :: rest)) := va_iald hx hb hE.1 (va_P.one h) 0 0 rfl rfl hin hdg kk
theorem la_st (hx : p.tables.exec = Jvm.exec) (hb : c.code = cc) (hE : DEnv D ad cI cZ cP Ar s) {q n : Nat} {f : RT} (h : va_at D clM (q, .inl (cI, n, .inl f)) H) (hA : B q) (hS : va_S B H0 H locs) {i x : Int32} (hin : vp_in i n) (hdg : decode cc pc = .ok (.iastore, 1)) (kk : ∀ (H1 : Heap) (locs1 : List Loc), va_at D clM (q, .inl (cI, n, .inl (upd f i.toNatClampNeg x))) H1 → (∀ z, z ≠ q → H1[z]? = H[z]?) → H1.size = H.size → va_S B H0 H1 locs1 → W p l e R s m args below meth c H1 locs1 cells slots Q (F0 m (pc + 1) ls rest)) : W p l e R s m args below meth c H locs cells slots Q (F0 m pc ls (.int x :: .int i :: .ref q :: rest)) := by
  refine W.iast hx hb (show H[q]? = some (vp_cell cI (n, .inl f)) from h) (hE.cI.1 n (fun j => .int (f j))) (fun q => by cases q) (by show ¬ (i < 0 ∨ (arrV _ _ _).slots.size ≤ _); rw [arrV_size]; exact hin) rfl rfl hdg fun H1 e z oq => ?_
  refine kk H1 _ ?_ oq z (hS.put z oq hA)
  show H1[q]? = some (vp_cell _ _)
  rw [e]
  rw [vp_cell_i, vp_cell_i, arrV_store]
  congr 2
  funext q
  by_cases hq : q = i.toNatClampNeg
  · subst hq
    simp [updV, upd]
  · simp [updV, upd, hq]
theorem va_S.push {H1 : Heap} (hS : va_S B H0 H locs) (hz : H1.size = H.size + 1) (o : ∀ q, q < H.size → H1[q]? = H[q]?) : va_S B H0 H1 locs := ⟨Nat.le_trans hS.1 (by omega), fun x h1 h2 => (o x (Nat.lt_of_lt_of_le h1 hS.1)).trans (hS.2.1 x h1 h2), hS.2.2⟩
theorem la_new (hx : p.tables.exec = Jvm.exec) (hb : c.code = cc) (harr : (Cond.arrayClass .int).before args s = true) (hE : DEnv D ad cI cZ cP Ar s) (hS : va_S B H0 H locs) {n : Int32} {N : Nat} (hn : ¬ n < 0) (hN : n.toNatClampNeg = N) (hbytes : N * 4 ≤ 536870912) (hcells : cells + 1 ≤ R.cells) (hslots : slots + N ≤ R.slots) (hdg : decode cc pc = .ok (.newarray .int, 2)) (kk : ∀ (H1 : Heap), va_at D clM (H.size, .inl (cI, N, .inl (fun _ => 0))) H1 → (∀ q, q < H.size → H1[q]? = H[q]?) → H1.size = H.size + 1 → va_S B H0 H1 locs → W p l e R s m args below meth c H1 locs (cells + 1) (slots + N) Q (F0 m (pc + 2) ls (.ref H.size :: rest))) : W p l e R s m args below meth c H locs cells slots Q (F0 m pc ls (.int n :: rest)) := by
  refine va_newaK hx hb (atype := .int) harr (g := F0 m pc ls (.int n :: rest)) rfl hdg rfl hn hN hbytes hcells hslots rfl (fun H1 cA e1 z1 o1 hAr hNm => ?_)
  have e2 := hE.cI.2
  have : cA = cI := by
    have q := hNm.symm.trans e2
    exact Option.some.inj q
  subst this
  refine kk H1 ?_ o1 z1 (hS.push z1 o1)
  show H1[H.size]? = some (vp_cell _ _)
  rw [e1, vp_cell_i]
  rfl
theorem n_cVi (X : MX p s m args meth c cc own nL rt D ad cI cZ cP Ar) (hLA : Lay ad A) (hAr : ∀ q, A q → Ar q) (hAB : ∀ q, A q → B q) (hBs : ∀ q, q < s.heap.size → B q → Ar q) (hS : va_S B s.heap H locs) {y : MethodName} {b : ByteArray} {n1 n : Nat} {rt1 : Option FieldType} {rm : Room} {As : List Value} {P P1 : Heap → Prop} {C : String} {a : Nat} {r : Int32} (hV : VW C y b n1 rt1 n) (hlk : Cond.methodLink own index y ∈ WM) (hM : Met l y (.code y b n1 rt1 :: WM) rm (PcM D ad cI cZ cP A (.ref a :: As) P) (QcI A r P1) 0 0 A) (hrm : rm.cells = 0 ∧ rm.slots = 0) (hR : rm.frames + 1 ≤ R.frames ∧ 8 + (n1 + 11) + rm.locals ≤ R.locals) (hcs : cells ≤ R.cells ∧ slots ≤ R.slots) (hrc : ∃ cell : Cell, H[a]? = some cell ∧ cell.vm.isStatics = false ∧ s.vm.findClass C = some cell.cls) (hP : P H) (hn : As.length = n) (hl : ls.size = nL) (hst : st0 = As.reverse ++ .ref a :: rest) (hrest : (rest.map fun v => v.category).sum ≤ 8) (hdg : decode cc pc = .ok (.invokevirtual index, 3)) (kk : ∀ (H1 : Heap) (locs1 : List Loc), P1 H1 → (∀ q, q < H.size → ¬ A q → H1[q]? = H[q]?) → H.size ≤ H1.size → va_S B s.heap H1 locs1 → W p l e R s m args below meth c H1 locs1 cells slots Q (F0 m (pc + 3) ls (.int r :: rest))) : W p l e R s m args below meth c H locs cells slots Q (F0 m pc ls st0) := by
  obtain ⟨hx, hb, hml, hown, htm, hr, hlk2, hE⟩ := X
  refine va_calli (A1 := A) (va_runV (As := As) (rest := rest) ⟨hx, hb, hml, hown, htm⟩ hM (cwV n htm (gVW hV hlk) rfl hrm.1 hrm.2 hV.2.2.2.2 hR) ⟨m_blind, hrc, fun U hU hW => ⟨rfl, hE.go hLA hAr hBs hS hW hU, by rw [hU]; exact hP⟩⟩ rfl hn hl hst (lv_room hrest) hdg hcs) hS (fun q _ h => hAB q h) (fun q h => hAB q h) (fun r1 u t H1 locs1 ht hvm hp hB hz hk hS1 => ?_)
  subst hp; rw [ht] at hB; exact kk H1 locs1 hB hk hz hS1
theorem n_cSi (X : MX p s m args meth c cc own nL rt D ad cI cZ cP Ar) (hLA : Lay ad A) (hAr : ∀ q, A q → Ar q) (hAB : ∀ q, A q → B q) (hBs : ∀ q, q < s.heap.size → B q → Ar q) (hS : va_S B s.heap H locs) {y : MethodName} {b : ByteArray} {n1 n : Nat} {rt1 : Option FieldType} {rm : Room} {As : List Value} {P P1 : Heap → Prop} {r : Int32} (hV : SW own y b n1 rt1 n) (hlk : Cond.methodLink own index y ∈ WM) (hM : Met l y (.code y b n1 rt1 :: WM) rm (PcM D ad cI cZ cP A As P) (QcI A r P1) 0 0 A) (hrm : rm.cells = 0 ∧ rm.slots = 0) (hR : rm.frames + 1 ≤ R.frames ∧ 8 + (n1 + 11) + rm.locals ≤ R.locals) (hcs : cells ≤ R.cells ∧ slots ≤ R.slots) (hP : P H) (hn : As.length = n) (hl : ls.size = nL) (hst : st0 = As.reverse ++ rest) (hrest : (rest.map fun v => v.category).sum ≤ 8) (hdg : decode cc pc = .ok (.invokestatic index, 3)) (kk : ∀ (H1 : Heap) (locs1 : List Loc), P1 H1 → (∀ q, q < H.size → ¬ A q → H1[q]? = H[q]?) → H.size ≤ H1.size → va_S B s.heap H1 locs1 → W p l e R s m args below meth c H1 locs1 cells slots Q (F0 m (pc + 3) ls (.int r :: rest))) : W p l e R s m args below meth c H locs cells slots Q (F0 m pc ls st0) := by
  obtain ⟨hx, hb, hml, hown, htm, hr, hlk2, hE⟩ := X
  refine va_calli (A1 := A) (va_runS (As := As) (rest := rest) ⟨hx, hb, hml, hown, htm⟩ hM (cwS n htm (gSW hV hlk) rfl hrm.1 hrm.2 hV.2.2.2 hR) ⟨m_blind, fun U hU hW => ⟨rfl, hE.go hLA hAr hBs hS hW hU, by rw [hU]; exact hP⟩⟩ rfl hn hl hst (lv_room hrest) hdg hcs) hS (fun q _ h => hAB q h) (fun q h => hAB q h) (fun r1 u t H1 locs1 ht hvm hp hB hz hk hS1 => ?_)
  subst hp; rw [ht] at hB; exact kk H1 locs1 hB hk hz hS1
end
