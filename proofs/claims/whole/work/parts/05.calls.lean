/-! a method over the memory of a den: its entry, its ends, its calls -/
theorem gWM {ws : List Cond} (h : ∀ w ∈ ws, w ∈ WM) : GoodIn WM ws := fun w hw => ⟨h w hw, good_of_word (gd_WM w (h w hw))⟩
abbrev MX (p : Program) (s : State) (m : MethodId) (args : Array Value) (meth : Method) (c : Code) (cc : ByteArray) (own : String) (nL : Nat) (rt : Option FieldType) (D : va_G) (ad : Nat → Nat → Nat → Nat) (cI cZ cP : ClassId) (A : Nat → Prop) : Prop :=
  p.tables.exec = Jvm.exec ∧ c.code = cc ∧ c.maxLocals = nL ∧ s.vm.findClass own = some m.cls ∧ (∀ x ∈ WM, x.before args s = true) ∧ meth.sig.returnType = rt ∧ meth.locks = false ∧ DEnv D ad cI cZ cP A s
abbrev PcM (D : va_G) (ad : Nat → Nat → Nat → Nat) (cI cZ cP : ClassId) (A : Nat → Prop) (av : List Value) (P : Heap → Prop) : Array Value → State → Prop := va_Pc av (fun U => DEnv D ad cI cZ cP A U ∧ P U.heap)
abbrev QcI (A : Nat → Prop) (r : Int32) (P : Heap → Prop) : Array Value → State → Outcome → State → Prop := va_Qi (fun r' (_ : Unit) => r' = r) (fun _ t => P t.heap) A
abbrev QcL (A : Nat → Prop) (r : Int64) (P : Heap → Prop) : Array Value → State → Outcome → State → Prop := va_Ql (fun r' (_ : Unit) => r' = r) (fun _ t => P t.heap) A
abbrev QcV (A : Nat → Prop) (P : Heap → Prop) : Array Value → State → Outcome → State → Prop := va_Qv (fun (_ : Unit) => True) (fun _ t => P t.heap) A
abbrev QcQ (A : Nat → Prop) (r : Option Nat) (P : Heap → Prop) : Array Value → State → Outcome → State → Prop := va_Qq (fun r' (_ : Unit) => r' = r) (fun _ t => P t.heap) A
theorem m_entry {l : Launch} {y : MethodName} {cc : ByteArray} {nL : Nat} {rt : Option FieldType} {rm : Room} {D : va_G} {ad : Nat → Nat → Nat → Nat} {cI cZ cP : ClassId} {A : Nat → Prop} {av : List Value} {P : Heap → Prop} {Qc : Array Value → State → Outcome → State → Prop} (hy : plainName y.cls = true) (hsz : (lg_sl av).length ≤ nL)
    (body : ∀ (p : Program) (e : Env) (s : State) (m : MethodId) (below : List Frame) (meth : Method) (c : Code) (ls : Array Slot), MX p s m av.toArray meth c cc y.cls nL rt D ad cI cZ cP A → P s.heap → va_S A s.heap s.heap [] → lv_has ls nL (lv_args 0 av) → W p l e rm s m av.toArray below meth c s.heap [] 0 0 (MQ below Qc av.toArray s 0 0 A) (F0 m 0 ls [])) : Met l y (.code y cc nL rt :: WM) rm (PcM D ad cI cZ cP A av P) Qc 0 0 A := by
  refine Met.ofW (cc := cc) (maxL := nL) (ret := rt) hy rfl ?_
  intro p e s m args below meth c s₁ B hml hv
  obtain ⟨rfl, hE, hP⟩ := hv
  have hts := atoms_spec (ws := .code y cc nL rt :: WM) B.pre
  have hown : s.vm.findClass y.cls = some m.cls := findClass_of_methodNamed B.named
  have hl := lv_entry av (n := nL) hsz
  rw [lg_entry_eq]
  exact body p e s m below meth c _ ⟨B.exec, B.bytes, hml, hown, fun x hx => hts x (List.mem_cons_of_mem _ hx), B.returns, B.notSynchronized, hE⟩ hP va_S.rf hl
section
variable {p : Program} {l : Launch} {e : Env} {R : Room} {s : State} {m : MethodId} {args : Array Value} {below : List Frame} {meth : Method} {c : Code} {H : Heap} {locs : List Loc} {Q : State → Prop}
variable {cc : ByteArray} {pc nL : Nat} {rt : Option FieldType} {ls : Array Slot} {rest st0 : List Value} {D : va_G} {ad : Nat → Nat → Nat → Nat} {cI cZ cP : ClassId} {A : Nat → Prop} {H0 : Heap} {own : String} {index : Nat}
theorem m_iret (X : MX p s m args meth c cc own nL (some .int) D ad cI cZ cP A) (hS : va_S A s.heap H locs) {r x : Int32} {P : Heap → Prop} (hP : P H) (hv : x = r) (hdg : decode cc pc = .ok (.ireturn, 1)) : W p l e R s m args below meth c H locs 0 0 (MQ below (QcI A r P) args s 0 0 A) (F0 m pc ls [.int x]) := by
  obtain ⟨hx, hb, hml, hown, htm, hr, hlk, hE⟩ := X
  exact W.iret hx hb hr (fun t ht _ => ⟨⟨x, (), rfl, hv, by show P t.heap; rw [ht]; exact hP⟩, hS.F ht⟩) hS.2.2 hdg hlk
theorem m_zret (X : MX p s m args meth c cc own nL (some .boolean) D ad cI cZ cP A) (hS : va_S A s.heap H locs) {r x : Int32} {P : Heap → Prop} (hP : P H) (hv : x = r) (hz : x = 0 ∨ x = 1) (hdg : decode cc pc = .ok (.ireturn, 1)) : W p l e R s m args below meth c H locs 0 0 (MQ below (QcI A r P) args s 0 0 A) (F0 m pc ls [.int x]) := by
  obtain ⟨hx, hb, hml, hown, htm, hr, hlk, hE⟩ := X
  exact W.zret hx hb hr (by rcases hz with rfl | rfl <;> rfl) (fun t ht _ => ⟨⟨x, (), rfl, hv, by show P t.heap; rw [ht]; exact hP⟩, hS.F ht⟩) hS.2.2 hdg hlk
theorem m_lret (X : MX p s m args meth c cc own nL (some .long) D ad cI cZ cP A) (hS : va_S A s.heap H locs) {r x : Int64} {P : Heap → Prop} (hP : P H) (hv : x = r) (hdg : decode cc pc = .ok (.lreturn, 1)) : W p l e R s m args below meth c H locs 0 0 (MQ below (QcL A r P) args s 0 0 A) (F0 m pc ls [.long x]) := by
  obtain ⟨hx, hb, hml, hown, htm, hr, hlk, hE⟩ := X
  exact W.lret hx hb hr (fun t ht _ => ⟨⟨x, (), rfl, hv, by show P t.heap; rw [ht]; exact hP⟩, hS.F ht⟩) hS.2.2 hdg hlk
theorem m_vret (X : MX p s m args meth c cc own nL none D ad cI cZ cP A) (hS : va_S A s.heap H locs) {P : Heap → Prop} (hP : P H) (hdg : decode cc pc = .ok (.return_, 1)) : W p l e R s m args below meth c H locs 0 0 (MQ below (QcV A P) args s 0 0 A) (F0 m pc ls []) := by
  obtain ⟨hx, hb, hml, hown, htm, hr, hlk, hE⟩ := X
  exact W.vret hx hb hr (fun t ht _ => ⟨⟨(), rfl, trivial, by show P t.heap; rw [ht]; exact hP⟩, hS.F ht⟩) hS.2.2 hdg hlk
theorem m_aretR (X : MX p s m args meth c cc own nL (some (.object "MailDen$Proc")) D ad cI cZ cP A) (hS : va_S A s.heap H locs) {r : Option Nat} {x : Nat} {P : Heap → Prop} (hP : P H) (hv : some x = r) (hdg : decode cc pc = .ok (.areturn, 1)) : W p l e R s m args below meth c H locs 0 0 (MQ below (QcQ A r P) args s 0 0 A) (F0 m pc ls [.ref x]) := by
  obtain ⟨hx, hb, hml, hown, htm, hr, hlk, hE⟩ := X
  exact W.aret hx hb hr (Or.inl ⟨_, rfl⟩) (Or.inr ⟨x, rfl⟩) (fun t ht _ => ⟨⟨some x, (), rfl, hv, by show P t.heap; rw [ht]; exact hP⟩, hS.F ht⟩) hS.2.2 hdg hlk
theorem m_aretN (X : MX p s m args meth c cc own nL (some (.object "MailDen$Proc")) D ad cI cZ cP A) (hS : va_S A s.heap H locs) {r : Option Nat} {P : Heap → Prop} (hP : P H) (hv : none = r) (hdg : decode cc pc = .ok (.areturn, 1)) : W p l e R s m args below meth c H locs 0 0 (MQ below (QcQ A r P) args s 0 0 A) (F0 m pc ls [.null]) := by
  obtain ⟨hx, hb, hml, hown, htm, hr, hlk, hE⟩ := X
  exact W.aret hx hb hr (Or.inl ⟨_, rfl⟩) (Or.inl rfl) (fun t ht _ => ⟨⟨none, (), rfl, hv, by show P t.heap; rw [ht]; exact hP⟩, hS.F ht⟩) hS.2.2 hdg hlk
/-- the words of a callee -/
abbrev VW (C : String) (y : MethodName) (b : ByteArray) (n1 : Nat) (rt : Option FieldType) (n : Nat) : Prop := Cond.instanceMethod y ∈ WM ∧ Cond.selects C y y ∈ WM ∧ Cond.initialized C ∈ WM ∧ Cond.code y b n1 rt ∈ WM ∧ (y.cls = C ∧ y.cls ≠ "java/lang/invoke/MethodHandle" ∧ y.cls ≠ "java/lang/invoke/VarHandle" ∧ (parseMethodDescriptor y.desc).map (fun d => d.parameters.length) = some n)
abbrev SW (C : String) (y : MethodName) (b : ByteArray) (n1 : Nat) (rt : Option FieldType) (n : Nat) : Prop := Cond.static y ∈ WM ∧ Cond.initialized C ∈ WM ∧ Cond.code y b n1 rt ∈ WM ∧ (y.cls = C ∧ y.cls ≠ "java/lang/invoke/MethodHandle" ∧ y.cls ≠ "java/lang/invoke/VarHandle" ∧ (parseMethodDescriptor y.desc).map (fun d => d.parameters.length) = some n)
theorem gVW {C : String} {y : MethodName} {b : ByteArray} {n1 n : Nat} {rt : Option FieldType} (h : VW C y b n1 rt n) (hlk : Cond.methodLink own index y ∈ WM) : GoodIn WM (wsV own index C y (.code y b n1 rt :: WM)) := by
  refine gWM (fun w hw => ?_)
  unfold wsV at hw
  rcases List.mem_append.mp hw with h1 | h1
  · simp only [List.mem_cons, List.not_mem_nil, or_false] at h1
    rcases h1 with rfl | rfl | rfl | rfl
    · exact hlk
    · exact h.1
    · exact h.2.1
    · exact h.2.2.1
  · rcases List.mem_cons.mp h1 with rfl | h1
    · exact h.2.2.2.1
    · exact h1
theorem gSW {y : MethodName} {b : ByteArray} {n1 n : Nat} {rt : Option FieldType} (h : SW own y b n1 rt n) (hlk : Cond.methodLink own index y ∈ WM) : GoodIn WM (wsS own index y (.code y b n1 rt :: WM)) := by
  refine gWM (fun w hw => ?_)
  unfold wsS at hw
  rcases List.mem_append.mp hw with h1 | h1
  · simp only [List.mem_cons, List.not_mem_nil, or_false] at h1
    rcases h1 with rfl | rfl | rfl
    · exact hlk
    · exact h.1
    · exact h.2.1
  · rcases List.mem_cons.mp h1 with rfl | h1
    · exact h.2.2.1
    · exact h1
theorem gNW {C : String} {y : MethodName} {b : ByteArray} {n1 n : Nat} {rt : Option FieldType} (h : SW C y b n1 rt n) : GoodIn WM (.code y b n1 rt :: WM) := by
  refine gWM (fun w hw => ?_)
  rcases List.mem_cons.mp hw with rfl | h1
  · exact h.2.2.1
  · exact h1
theorem m_blind {av : List Value} {P : Heap → Prop} : FrameBlind (PcM D ad cI cZ cP A av P) := fun _ _ _ _ q => ⟨q.1, q.2.1.same rfl, q.2.2⟩

theorem m_cVi (X : MX p s m args meth c cc own nL rt D ad cI cZ cP A) (hS : va_S A H0 H locs) {y : MethodName} {b : ByteArray} {n1 n : Nat} {rt1 : Option FieldType} {rm : Room} {As : List Value} {P P1 : Heap → Prop} {C : String} {a : Nat} {r : Int32} (hV : VW C y b n1 rt1 n) (hlk : Cond.methodLink own index y ∈ WM) (hM : Met l y (.code y b n1 rt1 :: WM) rm (PcM D ad cI cZ cP A (.ref a :: As) P) (QcI A r P1) 0 0 A) (hrm : rm.cells = 0 ∧ rm.slots = 0) (hR : rm.frames + 1 ≤ R.frames ∧ 8 + (n1 + 11) + rm.locals ≤ R.locals) (hrc : ∃ cell : Cell, H[a]? = some cell ∧ cell.vm.isStatics = false ∧ s.vm.findClass C = some cell.cls) (hP : P H) (hn : As.length = n) (hl : ls.size = nL) (hst : st0 = As.reverse ++ .ref a :: rest) (hrest : (rest.map fun v => v.category).sum ≤ 8) (hdg : decode cc pc = .ok (.invokevirtual index, 3)) (kk : ∀ (H1 : Heap) (locs1 : List Loc), P1 H1 → va_S A H0 H1 locs1 → W p l e R s m args below meth c H1 locs1 0 0 Q (F0 m (pc + 3) ls (.int r :: rest))) : W p l e R s m args below meth c H locs 0 0 Q (F0 m pc ls st0) := by
  obtain ⟨hx, hb, hml, hown, htm, hr, hlk2, hE⟩ := X
  refine va_calli (A1 := A) (va_runV (As := As) (rest := rest) ⟨hx, hb, hml, hown, htm⟩ hM (cwV n htm (gVW hV hlk) rfl hrm.1 hrm.2 hV.2.2.2.2 hR) ⟨m_blind, hrc, fun U hU hW => ⟨rfl, hE.warm hW, by rw [hU]; exact hP⟩⟩ rfl hn hl hst (lv_room hrest) hdg ⟨Nat.zero_le _, Nat.zero_le _⟩) hS (fun q _ h => h) (fun q h => h) (fun r1 u t H1 locs1 ht hvm hp hB _ _ hS1 => ?_)
  subst hp; rw [ht] at hB; exact kk H1 locs1 hB hS1
theorem m_cVl (X : MX p s m args meth c cc own nL rt D ad cI cZ cP A) (hS : va_S A H0 H locs) {y : MethodName} {b : ByteArray} {n1 n : Nat} {rt1 : Option FieldType} {rm : Room} {As : List Value} {P P1 : Heap → Prop} {C : String} {a : Nat} {r : Int64} (hV : VW C y b n1 rt1 n) (hlk : Cond.methodLink own index y ∈ WM) (hM : Met l y (.code y b n1 rt1 :: WM) rm (PcM D ad cI cZ cP A (.ref a :: As) P) (QcL A r P1) 0 0 A) (hrm : rm.cells = 0 ∧ rm.slots = 0) (hR : rm.frames + 1 ≤ R.frames ∧ 8 + (n1 + 11) + rm.locals ≤ R.locals) (hrc : ∃ cell : Cell, H[a]? = some cell ∧ cell.vm.isStatics = false ∧ s.vm.findClass C = some cell.cls) (hP : P H) (hn : As.length = n) (hl : ls.size = nL) (hst : st0 = As.reverse ++ .ref a :: rest) (hrest : (rest.map fun v => v.category).sum ≤ 8) (hdg : decode cc pc = .ok (.invokevirtual index, 3)) (kk : ∀ (H1 : Heap) (locs1 : List Loc), P1 H1 → va_S A H0 H1 locs1 → W p l e R s m args below meth c H1 locs1 0 0 Q (F0 m (pc + 3) ls (.long r :: rest))) : W p l e R s m args below meth c H locs 0 0 Q (F0 m pc ls st0) := by
  obtain ⟨hx, hb, hml, hown, htm, hr, hlk2, hE⟩ := X
  refine va_calll (A1 := A) (va_runV (As := As) (rest := rest) ⟨hx, hb, hml, hown, htm⟩ hM (cwV n htm (gVW hV hlk) rfl hrm.1 hrm.2 hV.2.2.2.2 hR) ⟨m_blind, hrc, fun U hU hW => ⟨rfl, hE.warm hW, by rw [hU]; exact hP⟩⟩ rfl hn hl hst (lv_room hrest) hdg ⟨Nat.zero_le _, Nat.zero_le _⟩) hS (fun q _ h => h) (fun q h => h) (fun r1 u t H1 locs1 ht hvm hp hB _ _ hS1 => ?_)
  subst hp; rw [ht] at hB; exact kk H1 locs1 hB hS1
theorem m_cVv (X : MX p s m args meth c cc own nL rt D ad cI cZ cP A) (hS : va_S A H0 H locs) {y : MethodName} {b : ByteArray} {n1 n : Nat} {rt1 : Option FieldType} {rm : Room} {As : List Value} {P P1 : Heap → Prop} {C : String} {a : Nat}  (hV : VW C y b n1 rt1 n) (hlk : Cond.methodLink own index y ∈ WM) (hM : Met l y (.code y b n1 rt1 :: WM) rm (PcM D ad cI cZ cP A (.ref a :: As) P) (QcV A P1) 0 0 A) (hrm : rm.cells = 0 ∧ rm.slots = 0) (hR : rm.frames + 1 ≤ R.frames ∧ 8 + (n1 + 11) + rm.locals ≤ R.locals) (hrc : ∃ cell : Cell, H[a]? = some cell ∧ cell.vm.isStatics = false ∧ s.vm.findClass C = some cell.cls) (hP : P H) (hn : As.length = n) (hl : ls.size = nL) (hst : st0 = As.reverse ++ .ref a :: rest) (hrest : (rest.map fun v => v.category).sum ≤ 8) (hdg : decode cc pc = .ok (.invokevirtual index, 3)) (kk : ∀ (H1 : Heap) (locs1 : List Loc), P1 H1 → va_S A H0 H1 locs1 → W p l e R s m args below meth c H1 locs1 0 0 Q (F0 m (pc + 3) ls (rest))) : W p l e R s m args below meth c H locs 0 0 Q (F0 m pc ls st0) := by
  obtain ⟨hx, hb, hml, hown, htm, hr, hlk2, hE⟩ := X
  refine va_callv (A1 := A) (va_runV (As := As) (rest := rest) ⟨hx, hb, hml, hown, htm⟩ hM (cwV n htm (gVW hV hlk) rfl hrm.1 hrm.2 hV.2.2.2.2 hR) ⟨m_blind, hrc, fun U hU hW => ⟨rfl, hE.warm hW, by rw [hU]; exact hP⟩⟩ rfl hn hl hst (lv_room hrest) hdg ⟨Nat.zero_le _, Nat.zero_le _⟩) hS (fun q _ h => h) (fun q h => h) (fun u t H1 locs1 ht hvm hp hB _ _ hS1 => ?_)
  rw [ht] at hB; exact kk H1 locs1 hB hS1
theorem m_cVq (X : MX p s m args meth c cc own nL rt D ad cI cZ cP A) (hS : va_S A H0 H locs) {y : MethodName} {b : ByteArray} {n1 n : Nat} {rt1 : Option FieldType} {rm : Room} {As : List Value} {P P1 : Heap → Prop} {C : String} {a : Nat} {r : Option Nat} (hV : VW C y b n1 rt1 n) (hlk : Cond.methodLink own index y ∈ WM) (hM : Met l y (.code y b n1 rt1 :: WM) rm (PcM D ad cI cZ cP A (.ref a :: As) P) (QcQ A r P1) 0 0 A) (hrm : rm.cells = 0 ∧ rm.slots = 0) (hR : rm.frames + 1 ≤ R.frames ∧ 8 + (n1 + 11) + rm.locals ≤ R.locals) (hrc : ∃ cell : Cell, H[a]? = some cell ∧ cell.vm.isStatics = false ∧ s.vm.findClass C = some cell.cls) (hP : P H) (hn : As.length = n) (hl : ls.size = nL) (hst : st0 = As.reverse ++ .ref a :: rest) (hrest : (rest.map fun v => v.category).sum ≤ 8) (hdg : decode cc pc = .ok (.invokevirtual index, 3)) (kk : ∀ (H1 : Heap) (locs1 : List Loc), P1 H1 → va_S A H0 H1 locs1 → W p l e R s m args below meth c H1 locs1 0 0 Q (F0 m (pc + 3) ls (va_rf r :: rest))) : W p l e R s m args below meth c H locs 0 0 Q (F0 m pc ls st0) := by
  obtain ⟨hx, hb, hml, hown, htm, hr, hlk2, hE⟩ := X
  refine va_callq (A1 := A) (va_runV (As := As) (rest := rest) ⟨hx, hb, hml, hown, htm⟩ hM (cwV n htm (gVW hV hlk) rfl hrm.1 hrm.2 hV.2.2.2.2 hR) ⟨m_blind, hrc, fun U hU hW => ⟨rfl, hE.warm hW, by rw [hU]; exact hP⟩⟩ rfl hn hl hst (lv_room hrest) hdg ⟨Nat.zero_le _, Nat.zero_le _⟩) hS (fun q _ h => h) (fun q h => h) (fun r1 u t H1 locs1 ht hvm hp hB _ _ hS1 => ?_)
  subst hp; rw [ht] at hB; exact kk H1 locs1 hB hS1
theorem m_cSi (X : MX p s m args meth c cc own nL rt D ad cI cZ cP A) (hS : va_S A H0 H locs) {y : MethodName} {b : ByteArray} {n1 n : Nat} {rt1 : Option FieldType} {rm : Room} {As : List Value} {P P1 : Heap → Prop}  {r : Int32} (hV : SW own y b n1 rt1 n) (hlk : Cond.methodLink own index y ∈ WM) (hM : Met l y (.code y b n1 rt1 :: WM) rm (PcM D ad cI cZ cP A As P) (QcI A r P1) 0 0 A) (hrm : rm.cells = 0 ∧ rm.slots = 0) (hR : rm.frames + 1 ≤ R.frames ∧ 8 + (n1 + 11) + rm.locals ≤ R.locals) (hP : P H) (hn : As.length = n) (hl : ls.size = nL) (hst : st0 = As.reverse ++ rest) (hrest : (rest.map fun v => v.category).sum ≤ 8) (hdg : decode cc pc = .ok (.invokestatic index, 3)) (kk : ∀ (H1 : Heap) (locs1 : List Loc), P1 H1 → va_S A H0 H1 locs1 → W p l e R s m args below meth c H1 locs1 0 0 Q (F0 m (pc + 3) ls (.int r :: rest))) : W p l e R s m args below meth c H locs 0 0 Q (F0 m pc ls st0) := by
  obtain ⟨hx, hb, hml, hown, htm, hr, hlk2, hE⟩ := X
  refine va_calli (A1 := A) (va_runS (As := As) (rest := rest) ⟨hx, hb, hml, hown, htm⟩ hM (cwS n htm (gSW hV hlk) rfl hrm.1 hrm.2 hV.2.2.2 hR) ⟨m_blind, fun U hU hW => ⟨rfl, hE.warm hW, by rw [hU]; exact hP⟩⟩ rfl hn hl hst (lv_room hrest) hdg ⟨Nat.zero_le _, Nat.zero_le _⟩) hS (fun q _ h => h) (fun q h => h) (fun r1 u t H1 locs1 ht hvm hp hB _ _ hS1 => ?_)
  subst hp; rw [ht] at hB; exact kk H1 locs1 hB hS1
theorem m_cSl (X : MX p s m args meth c cc own nL rt D ad cI cZ cP A) (hS : va_S A H0 H locs) {y : MethodName} {b : ByteArray} {n1 n : Nat} {rt1 : Option FieldType} {rm : Room} {As : List Value} {P P1 : Heap → Prop}  {r : Int64} (hV : SW own y b n1 rt1 n) (hlk : Cond.methodLink own index y ∈ WM) (hM : Met l y (.code y b n1 rt1 :: WM) rm (PcM D ad cI cZ cP A As P) (QcL A r P1) 0 0 A) (hrm : rm.cells = 0 ∧ rm.slots = 0) (hR : rm.frames + 1 ≤ R.frames ∧ 8 + (n1 + 11) + rm.locals ≤ R.locals) (hP : P H) (hn : As.length = n) (hl : ls.size = nL) (hst : st0 = As.reverse ++ rest) (hrest : (rest.map fun v => v.category).sum ≤ 8) (hdg : decode cc pc = .ok (.invokestatic index, 3)) (kk : ∀ (H1 : Heap) (locs1 : List Loc), P1 H1 → va_S A H0 H1 locs1 → W p l e R s m args below meth c H1 locs1 0 0 Q (F0 m (pc + 3) ls (.long r :: rest))) : W p l e R s m args below meth c H locs 0 0 Q (F0 m pc ls st0) := by
  obtain ⟨hx, hb, hml, hown, htm, hr, hlk2, hE⟩ := X
  refine va_calll (A1 := A) (va_runS (As := As) (rest := rest) ⟨hx, hb, hml, hown, htm⟩ hM (cwS n htm (gSW hV hlk) rfl hrm.1 hrm.2 hV.2.2.2 hR) ⟨m_blind, fun U hU hW => ⟨rfl, hE.warm hW, by rw [hU]; exact hP⟩⟩ rfl hn hl hst (lv_room hrest) hdg ⟨Nat.zero_le _, Nat.zero_le _⟩) hS (fun q _ h => h) (fun q h => h) (fun r1 u t H1 locs1 ht hvm hp hB _ _ hS1 => ?_)
  subst hp; rw [ht] at hB; exact kk H1 locs1 hB hS1
theorem m_cSv (X : MX p s m args meth c cc own nL rt D ad cI cZ cP A) (hS : va_S A H0 H locs) {y : MethodName} {b : ByteArray} {n1 n : Nat} {rt1 : Option FieldType} {rm : Room} {As : List Value} {P P1 : Heap → Prop}   (hV : SW own y b n1 rt1 n) (hlk : Cond.methodLink own index y ∈ WM) (hM : Met l y (.code y b n1 rt1 :: WM) rm (PcM D ad cI cZ cP A As P) (QcV A P1) 0 0 A) (hrm : rm.cells = 0 ∧ rm.slots = 0) (hR : rm.frames + 1 ≤ R.frames ∧ 8 + (n1 + 11) + rm.locals ≤ R.locals) (hP : P H) (hn : As.length = n) (hl : ls.size = nL) (hst : st0 = As.reverse ++ rest) (hrest : (rest.map fun v => v.category).sum ≤ 8) (hdg : decode cc pc = .ok (.invokestatic index, 3)) (kk : ∀ (H1 : Heap) (locs1 : List Loc), P1 H1 → va_S A H0 H1 locs1 → W p l e R s m args below meth c H1 locs1 0 0 Q (F0 m (pc + 3) ls (rest))) : W p l e R s m args below meth c H locs 0 0 Q (F0 m pc ls st0) := by
  obtain ⟨hx, hb, hml, hown, htm, hr, hlk2, hE⟩ := X
  refine va_callv (A1 := A) (va_runS (As := As) (rest := rest) ⟨hx, hb, hml, hown, htm⟩ hM (cwS n htm (gSW hV hlk) rfl hrm.1 hrm.2 hV.2.2.2 hR) ⟨m_blind, fun U hU hW => ⟨rfl, hE.warm hW, by rw [hU]; exact hP⟩⟩ rfl hn hl hst (lv_room hrest) hdg ⟨Nat.zero_le _, Nat.zero_le _⟩) hS (fun q _ h => h) (fun q h => h) (fun u t H1 locs1 ht hvm hp hB _ _ hS1 => ?_)
  rw [ht] at hB; exact kk H1 locs1 hB hS1
theorem m_cSq (X : MX p s m args meth c cc own nL rt D ad cI cZ cP A) (hS : va_S A H0 H locs) {y : MethodName} {b : ByteArray} {n1 n : Nat} {rt1 : Option FieldType} {rm : Room} {As : List Value} {P P1 : Heap → Prop}  {r : Option Nat} (hV : SW own y b n1 rt1 n) (hlk : Cond.methodLink own index y ∈ WM) (hM : Met l y (.code y b n1 rt1 :: WM) rm (PcM D ad cI cZ cP A As P) (QcQ A r P1) 0 0 A) (hrm : rm.cells = 0 ∧ rm.slots = 0) (hR : rm.frames + 1 ≤ R.frames ∧ 8 + (n1 + 11) + rm.locals ≤ R.locals) (hP : P H) (hn : As.length = n) (hl : ls.size = nL) (hst : st0 = As.reverse ++ rest) (hrest : (rest.map fun v => v.category).sum ≤ 8) (hdg : decode cc pc = .ok (.invokestatic index, 3)) (kk : ∀ (H1 : Heap) (locs1 : List Loc), P1 H1 → va_S A H0 H1 locs1 → W p l e R s m args below meth c H1 locs1 0 0 Q (F0 m (pc + 3) ls (va_rf r :: rest))) : W p l e R s m args below meth c H locs 0 0 Q (F0 m pc ls st0) := by
  obtain ⟨hx, hb, hml, hown, htm, hr, hlk2, hE⟩ := X
  refine va_callq (A1 := A) (va_runS (As := As) (rest := rest) ⟨hx, hb, hml, hown, htm⟩ hM (cwS n htm (gSW hV hlk) rfl hrm.1 hrm.2 hV.2.2.2 hR) ⟨m_blind, fun U hU hW => ⟨rfl, hE.warm hW, by rw [hU]; exact hP⟩⟩ rfl hn hl hst (lv_room hrest) hdg ⟨Nat.zero_le _, Nat.zero_le _⟩) hS (fun q _ h => h) (fun q h => h) (fun r1 u t H1 locs1 ht hvm hp hB _ _ hS1 => ?_)
  subst hp; rw [ht] at hB; exact kk H1 locs1 hB hS1
theorem m_cNi (X : MX p s m args meth c cc own nL rt D ad cI cZ cP A) (hS : va_S A H0 H locs) {y : MethodName} {b : ByteArray} {n1 n : Nat} {rt1 : Option FieldType} {rm : Room} {As : List Value} {P P1 : Heap → Prop} {C host : String} {r : Int32} (hV : SW C y b n1 rt1 n) (hlk : (own, index, y, host) ∈ nestL) (hM : Met l y (.code y b n1 rt1 :: WM) rm (PcM D ad cI cZ cP A As P) (QcI A r P1) 0 0 A) (hrm : rm.cells = 0 ∧ rm.slots = 0) (hR : rm.frames + 1 ≤ R.frames ∧ 8 + (n1 + 11) + rm.locals ≤ R.locals) (hP : P H) (hn : As.length = n) (hl : ls.size = nL) (hst : st0 = As.reverse ++ rest) (hrest : (rest.map fun v => v.category).sum ≤ 8) (hdg : decode cc pc = .ok (.invokestatic index, 3)) (kk : ∀ (H1 : Heap) (locs1 : List Loc), P1 H1 → va_S A H0 H1 locs1 → W p l e R s m args below meth c H1 locs1 0 0 Q (F0 m (pc + 3) ls (.int r :: rest))) : W p l e R s m args below meth c H locs 0 0 Q (F0 m pc ls st0) := by
  obtain ⟨hx, hb, hml, hown, htm, hr, hlk2, hE⟩ := X
  refine va_calli (A1 := A) (va_runSN (As := As) (rest := rest) (host := host) ⟨hx, hb, hml, hown, htm⟩ hM ⟨va_cnB n htm (gNW hV) rfl hrm.1 hrm.2 (hE.2.1 _ hlk) (by rw [hV.2.2.2.1]; exact htm _ hV.2.1) hV.2.2.2.2 hR, htm _ hV.1, trivial⟩ ⟨m_blind, fun U hU hW => ⟨rfl, hE.warm hW, by rw [hU]; exact hP⟩⟩ rfl hn hl hst (lv_room hrest) hdg ⟨Nat.zero_le _, Nat.zero_le _⟩) hS (fun q _ h => h) (fun q h => h) (fun r1 u t H1 locs1 ht hvm hp hB _ _ hS1 => ?_)
  subst hp; rw [ht] at hB; exact kk H1 locs1 hB hS1
theorem m_cNl (X : MX p s m args meth c cc own nL rt D ad cI cZ cP A) (hS : va_S A H0 H locs) {y : MethodName} {b : ByteArray} {n1 n : Nat} {rt1 : Option FieldType} {rm : Room} {As : List Value} {P P1 : Heap → Prop} {C host : String} {r : Int64} (hV : SW C y b n1 rt1 n) (hlk : (own, index, y, host) ∈ nestL) (hM : Met l y (.code y b n1 rt1 :: WM) rm (PcM D ad cI cZ cP A As P) (QcL A r P1) 0 0 A) (hrm : rm.cells = 0 ∧ rm.slots = 0) (hR : rm.frames + 1 ≤ R.frames ∧ 8 + (n1 + 11) + rm.locals ≤ R.locals) (hP : P H) (hn : As.length = n) (hl : ls.size = nL) (hst : st0 = As.reverse ++ rest) (hrest : (rest.map fun v => v.category).sum ≤ 8) (hdg : decode cc pc = .ok (.invokestatic index, 3)) (kk : ∀ (H1 : Heap) (locs1 : List Loc), P1 H1 → va_S A H0 H1 locs1 → W p l e R s m args below meth c H1 locs1 0 0 Q (F0 m (pc + 3) ls (.long r :: rest))) : W p l e R s m args below meth c H locs 0 0 Q (F0 m pc ls st0) := by
  obtain ⟨hx, hb, hml, hown, htm, hr, hlk2, hE⟩ := X
  refine va_calll (A1 := A) (va_runSN (As := As) (rest := rest) (host := host) ⟨hx, hb, hml, hown, htm⟩ hM ⟨va_cnB n htm (gNW hV) rfl hrm.1 hrm.2 (hE.2.1 _ hlk) (by rw [hV.2.2.2.1]; exact htm _ hV.2.1) hV.2.2.2.2 hR, htm _ hV.1, trivial⟩ ⟨m_blind, fun U hU hW => ⟨rfl, hE.warm hW, by rw [hU]; exact hP⟩⟩ rfl hn hl hst (lv_room hrest) hdg ⟨Nat.zero_le _, Nat.zero_le _⟩) hS (fun q _ h => h) (fun q h => h) (fun r1 u t H1 locs1 ht hvm hp hB _ _ hS1 => ?_)
  subst hp; rw [ht] at hB; exact kk H1 locs1 hB hS1
theorem m_cNv (X : MX p s m args meth c cc own nL rt D ad cI cZ cP A) (hS : va_S A H0 H locs) {y : MethodName} {b : ByteArray} {n1 n : Nat} {rt1 : Option FieldType} {rm : Room} {As : List Value} {P P1 : Heap → Prop} {C host : String}  (hV : SW C y b n1 rt1 n) (hlk : (own, index, y, host) ∈ nestL) (hM : Met l y (.code y b n1 rt1 :: WM) rm (PcM D ad cI cZ cP A As P) (QcV A P1) 0 0 A) (hrm : rm.cells = 0 ∧ rm.slots = 0) (hR : rm.frames + 1 ≤ R.frames ∧ 8 + (n1 + 11) + rm.locals ≤ R.locals) (hP : P H) (hn : As.length = n) (hl : ls.size = nL) (hst : st0 = As.reverse ++ rest) (hrest : (rest.map fun v => v.category).sum ≤ 8) (hdg : decode cc pc = .ok (.invokestatic index, 3)) (kk : ∀ (H1 : Heap) (locs1 : List Loc), P1 H1 → va_S A H0 H1 locs1 → W p l e R s m args below meth c H1 locs1 0 0 Q (F0 m (pc + 3) ls (rest))) : W p l e R s m args below meth c H locs 0 0 Q (F0 m pc ls st0) := by
  obtain ⟨hx, hb, hml, hown, htm, hr, hlk2, hE⟩ := X
  refine va_callv (A1 := A) (va_runSN (As := As) (rest := rest) (host := host) ⟨hx, hb, hml, hown, htm⟩ hM ⟨va_cnB n htm (gNW hV) rfl hrm.1 hrm.2 (hE.2.1 _ hlk) (by rw [hV.2.2.2.1]; exact htm _ hV.2.1) hV.2.2.2.2 hR, htm _ hV.1, trivial⟩ ⟨m_blind, fun U hU hW => ⟨rfl, hE.warm hW, by rw [hU]; exact hP⟩⟩ rfl hn hl hst (lv_room hrest) hdg ⟨Nat.zero_le _, Nat.zero_le _⟩) hS (fun q _ h => h) (fun q h => h) (fun u t H1 locs1 ht hvm hp hB _ _ hS1 => ?_)
  rw [ht] at hB; exact kk H1 locs1 hB hS1
theorem m_cNq (X : MX p s m args meth c cc own nL rt D ad cI cZ cP A) (hS : va_S A H0 H locs) {y : MethodName} {b : ByteArray} {n1 n : Nat} {rt1 : Option FieldType} {rm : Room} {As : List Value} {P P1 : Heap → Prop} {C host : String} {r : Option Nat} (hV : SW C y b n1 rt1 n) (hlk : (own, index, y, host) ∈ nestL) (hM : Met l y (.code y b n1 rt1 :: WM) rm (PcM D ad cI cZ cP A As P) (QcQ A r P1) 0 0 A) (hrm : rm.cells = 0 ∧ rm.slots = 0) (hR : rm.frames + 1 ≤ R.frames ∧ 8 + (n1 + 11) + rm.locals ≤ R.locals) (hP : P H) (hn : As.length = n) (hl : ls.size = nL) (hst : st0 = As.reverse ++ rest) (hrest : (rest.map fun v => v.category).sum ≤ 8) (hdg : decode cc pc = .ok (.invokestatic index, 3)) (kk : ∀ (H1 : Heap) (locs1 : List Loc), P1 H1 → va_S A H0 H1 locs1 → W p l e R s m args below meth c H1 locs1 0 0 Q (F0 m (pc + 3) ls (va_rf r :: rest))) : W p l e R s m args below meth c H locs 0 0 Q (F0 m pc ls st0) := by
  obtain ⟨hx, hb, hml, hown, htm, hr, hlk2, hE⟩ := X
  refine va_callq (A1 := A) (va_runSN (As := As) (rest := rest) (host := host) ⟨hx, hb, hml, hown, htm⟩ hM ⟨va_cnB n htm (gNW hV) rfl hrm.1 hrm.2 (hE.2.1 _ hlk) (by rw [hV.2.2.2.1]; exact htm _ hV.2.1) hV.2.2.2.2 hR, htm _ hV.1, trivial⟩ ⟨m_blind, fun U hU hW => ⟨rfl, hE.warm hW, by rw [hU]; exact hP⟩⟩ rfl hn hl hst (lv_room hrest) hdg ⟨Nat.zero_le _, Nat.zero_le _⟩) hS (fun q _ h => h) (fun q h => h) (fun r1 u t H1 locs1 ht hvm hp hB _ _ hS1 => ?_)
  subst hp; rw [ht] at hB; exact kk H1 locs1 hB hS1
end
theorem ite_T {α : Type} {c : Prop} [Decidable c] {a b r : α} (h : c) (e : (if c then a else b) = r) : a = r := by rw [if_pos h] at e; exact e
theorem ite_F {α : Type} {c : Prop} [Decidable c] {a b r : α} (h : ¬ c) (e : (if c then a else b) = r) : b = r := by rw [if_neg h] at e; exact e
theorem ite_S {α : Type} {c : Prop} [Decidable c] {a : Option α} {r : α} (e : (if c then a else none) = some r) : c ∧ a = some r := by
  by_cases h : c
  · rw [if_pos h] at e; exact ⟨h, e⟩
  · rw [if_neg h] at e; cases e
theorem ob_S {α β : Type} {o : Option α} {k : α → Option β} {r : β} (e : o.bind k = some r) : ∃ a, o = some a ∧ k a = some r := by
  cases o with
  | none => cases e
  | some a => exact ⟨a, rfl, e⟩
theorem ns_S {α : Type} {r : α} {P : Prop} (e : (none : Option α) = some r) : P := by cases e
