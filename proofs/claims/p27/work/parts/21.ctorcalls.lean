/-! constructors: entry, end, calls -/
def nA (a n : Nat) : Nat → Prop := fun q => q = a ∨ n ≤ q
theorem nA_no {a n q : Nat} (h1 : q ≠ a) (h2 : q < n) : ¬ nA a n q := fun h => by rcases h with h | h <;> omega
abbrev IW (y : MethodName) (b : ByteArray) (n1 n : Nat) : Prop := Cond.instanceMethod y ∈ WM ∧ Cond.initialized y.cls ∈ WM ∧ Cond.code y b n1 none ∈ WM ∧ (y.cls ≠ "java/lang/invoke/MethodHandle" ∧ y.cls ≠ "java/lang/invoke/VarHandle" ∧ (parseMethodDescriptor y.desc).map (fun d => d.parameters.length) = some n) ∧ y.name = "<init>"
abbrev PcN (D : va_G) (cI cZ cP : ClassId) (av : List Value) (P : Heap → Prop) : Array Value → State → Prop := va_Pc av (fun U => KE D cI cZ cP U ∧ P U.heap)
abbrev QcN (P : Heap → Prop) (A : Nat → Prop) : Array Value → State → Outcome → State → Prop := va_Qv (fun (_ : Unit) => True) (fun _ t => P t.heap) A
theorem n_blind {D : va_G} {cI cZ cP : ClassId} {av : List Value} {P : Heap → Prop} : FrameBlind (PcN D cI cZ cP av P) := fun _ _ _ _ q => ⟨q.1, q.2.1.same rfl, q.2.2⟩
theorem gIW {y : MethodName} {b : ByteArray} {n1 n : Nat} (h : IW y b n1 n) : GoodIn WM (.code y b n1 none :: WM) := by
  refine gWM (fun w hw => ?_)
  rcases List.mem_cons.mp hw with rfl | h1
  · exact h.2.2.1
  · exact h1
theorem n_entry {l : Launch} {y : MethodName} {cc : ByteArray} {nL : Nat} {rm : Room} {D : va_G} {cI cZ cP : ClassId} {A : Nat → Prop} {av : List Value} {P : Heap → Prop} {Qc : Array Value → State → Outcome → State → Prop} {mc ms : Nat} (hy : plainName y.cls = true) (hsz : (lg_sl av).length ≤ nL)
    (body : ∀ (p : Program) (e : Env) (s : State) (m : MethodId) (below : List Frame) (meth : Method) (c : Code) (ls : Array Slot), p.tables.exec = Jvm.exec → c.code = cc → c.maxLocals = nL → s.vm.findClass y.cls = some m.cls → (∀ x ∈ WM, x.before av.toArray s = true) → meth.sig.returnType = none → meth.locks = false → meth.name = y.name → KE D cI cZ cP s → P s.heap → va_S A s.heap s.heap [] → lv_has ls nL (lv_args 0 av) → W p l e rm s m av.toArray below meth c s.heap [] 0 0 (MQ below Qc av.toArray s mc ms A) (F0 m 0 ls [])) : Met l y (.code y cc nL none :: WM) rm (PcN D cI cZ cP av P) Qc mc ms A := by
  refine Met.ofW (cc := cc) (maxL := nL) (ret := none) hy rfl ?_
  intro p e s m args below meth c s₁ B hml hv
  obtain ⟨rfl, hE, hP⟩ := hv
  have hts := atoms_spec (ws := .code y cc nL none :: WM) B.pre
  have hown : s.vm.findClass y.cls = some m.cls := findClass_of_methodNamed B.named
  have hl := lv_entry av (n := nL) hsz
  rw [lg_entry_eq]
  exact body p e s m below meth c _ B.exec B.bytes hml hown (fun x hx => hts x (List.mem_cons_of_mem _ hx)) B.returns B.notSynchronized (name_of_methodNamed B.named B.method).1 hE hP va_S.rf hl
section
variable {p : Program} {l : Launch} {e : Env} {R : Room} {s : State} {m : MethodId} {args : Array Value} {below : List Frame} {meth : Method} {c : Code} {H : Heap} {locs : List Loc} {cells slots : Nat} {Q : State → Prop}
variable {cc : ByteArray} {pc nL : Nat} {ls : Array Slot} {rest st0 : List Value} {D : va_G} {cI cZ cP : ClassId} {A : Nat → Prop} {own host : String} {index a : Nat}
theorem n_ret (hx : p.tables.exec = Jvm.exec) (hb : c.code = cc) (hr : meth.sig.returnType = none) (hlk : meth.locks = false) (hS : va_S A s.heap H locs) {P : Heap → Prop} (hP : P H) (hdg : decode cc pc = .ok (.return_, 1)) : W p l e R s m args below meth c H locs cells slots (MQ below (QcN P A) args s cells slots A) (F0 m pc ls []) :=
  W.vret hx hb hr (fun t ht _ => ⟨⟨(), rfl, trivial, by show P t.heap; rw [ht]; exact hP⟩, hS.F ht⟩) hS.2.2 hdg hlk
theorem n_cN (hx : p.tables.exec = Jvm.exec) (hb : c.code = cc) (hml : c.maxLocals = nL) (htm : ∀ x ∈ WM, x.before args s = true) (hown : s.vm.findClass own = some m.cls) (hK : KE D cI cZ cP s) (hS : va_S A s.heap H locs) {y : MethodName} {b : ByteArray} {n1 n k sl : Nat} {rm : Room} {As : List Value} {P P1 : Heap → Prop} {A1 : Nat → Prop} (hV : IW y b n1 n) (hlk : (own, index, y, host) ∈ nestL) (hM : Met l y (.code y b n1 none :: WM) rm (PcN D cI cZ cP (.ref a :: As) P) (QcN P1 A1) k sl A1) (hrm : rm.cells = k ∧ rm.slots = sl) (hR : rm.frames + 1 ≤ R.frames ∧ 8 + (n1 + 11) + rm.locals ≤ R.locals) (hroom : cells + k ≤ R.cells ∧ slots + sl ≤ R.slots) (hP : P H) (hA1 : ∀ q, A1 q → A q) (hn : As.length = n) (hl : ls.size = nL) (hst : st0 = As.reverse ++ .ref a :: rest) (hrest : (rest.map fun v => v.category).sum ≤ 8) (hdg : decode cc pc = .ok (.invokespecial index, 3)) (kk : ∀ (H1 : Heap) (locs1 : List Loc), P1 H1 → H.size ≤ H1.size → (∀ q, q < H.size → ¬ A1 q → H1[q]? = H[q]?) → va_S A s.heap H1 locs1 → W p l e R s m args below meth c H1 locs1 (cells + k) (slots + sl) Q (F0 m (pc + 3) ls rest)) : W p l e R s m args below meth c H locs cells slots Q (F0 m pc ls st0) := by
  refine va_callv (A1 := A1) (va_runIN (As := As) (rest := rest) (host := host) ⟨hx, hb, hml, hown, htm⟩ hM ⟨va_cnB n htm (gIW hV) rfl hrm.1 hrm.2 (hK.2.1 _ hlk) (htm _ hV.2.1) hV.2.2.2.1 hR, hV.2.2.2.2, htm _ hV.1⟩ ⟨n_blind, fun U hU hW => ⟨rfl, hK.warm hW, by rw [hU]; exact hP⟩⟩ rfl hn hl hst (lv_room hrest) hdg hroom) hS (fun q _ h => hA1 q h) (fun q h => hA1 q h) (fun u t H1 locs1 ht hvm hp hB hz hk hS1 => ?_)
  rw [ht] at hB; exact kk H1 locs1 hB hz hk hS1
theorem n_cI (hx : p.tables.exec = Jvm.exec) (hb : c.code = cc) (hml : c.maxLocals = nL) (htm : ∀ x ∈ WM, x.before args s = true) (hown : s.vm.findClass own = some m.cls) (hK : KE D cI cZ cP s) (hS : va_S A s.heap H locs) {y : MethodName} {b : ByteArray} {n1 n k sl : Nat} {rm : Room} {As : List Value} {P P1 : Heap → Prop} {A1 : Nat → Prop} (hV : IW y b n1 n) (hlk : Cond.methodLink own index y ∈ WM) (hM : Met l y (.code y b n1 none :: WM) rm (PcN D cI cZ cP (.ref a :: As) P) (QcN P1 A1) k sl A1) (hrm : rm.cells = k ∧ rm.slots = sl) (hR : rm.frames + 1 ≤ R.frames ∧ 8 + (n1 + 11) + rm.locals ≤ R.locals) (hroom : cells + k ≤ R.cells ∧ slots + sl ≤ R.slots) (hP : P H) (hA1 : ∀ q, A1 q → A q) (hn : As.length = n) (hl : ls.size = nL) (hst : st0 = As.reverse ++ .ref a :: rest) (hrest : (rest.map fun v => v.category).sum ≤ 8) (hdg : decode cc pc = .ok (.invokespecial index, 3)) (kk : ∀ (H1 : Heap) (locs1 : List Loc), P1 H1 → H.size ≤ H1.size → (∀ q, q < H.size → ¬ A1 q → H1[q]? = H[q]?) → va_S A s.heap H1 locs1 → W p l e R s m args below meth c H1 locs1 (cells + k) (slots + sl) Q (F0 m (pc + 3) ls rest)) : W p l e R s m args below meth c H locs cells slots Q (F0 m pc ls st0) := by
  refine va_callv (A1 := A1) (va_runI (As := As) (rest := rest) ⟨hx, hb, hml, hown, htm⟩ hM ⟨callB_of n htm (gIW hV) rfl hrm.1 hrm.2 (htm _ hV.2.1) (htm _ hlk) hV.2.2.2.1 hR, hV.2.2.2.2, htm _ hV.1⟩ ⟨n_blind, fun U hU hW => ⟨rfl, hK.warm hW, by rw [hU]; exact hP⟩⟩ rfl hn hl hst (lv_room hrest) hdg hroom) hS (fun q _ h => hA1 q h) (fun q h => hA1 q h) (fun u t H1 locs1 ht hvm hp hB hz hk hS1 => ?_)
  rw [ht] at hB; exact kk H1 locs1 hB hz hk hS1
/-- a static method of another class (Arrays.fill) -/
theorem n_cO (hx : p.tables.exec = Jvm.exec) (hb : c.code = cc) (hml : c.maxLocals = nL) (htm : ∀ x ∈ WM, x.before args s = true) (hown : s.vm.findClass own = some m.cls) (hK : KE D cI cZ cP s) (hS : va_S A s.heap H locs) {C : String} {y : MethodName} {b : ByteArray} {n1 n : Nat} {rm : Room} {As : List Value} {P P1 : Heap → Prop} {A1 : Nat → Prop} (hV : SW C y b n1 none n) (hlk : Cond.methodLink own index y ∈ WM) (hM : Met l y (.code y b n1 none :: WM) rm (PcN D cI cZ cP As P) (QcN P1 A1) 0 0 A1) (hrm : rm.cells = 0 ∧ rm.slots = 0) (hR : rm.frames + 1 ≤ R.frames ∧ 8 + (n1 + 11) + rm.locals ≤ R.locals) (hroom : cells ≤ R.cells ∧ slots ≤ R.slots) (hP : P H) (hA1 : ∀ q, A1 q → A q) (hn : As.length = n) (hl : ls.size = nL) (hst : st0 = As.reverse ++ rest) (hrest : (rest.map fun v => v.category).sum ≤ 8) (hdg : decode cc pc = .ok (.invokestatic index, 3)) (kk : ∀ (H1 : Heap) (locs1 : List Loc), P1 H1 → H.size ≤ H1.size → (∀ q, q < H.size → ¬ A1 q → H1[q]? = H[q]?) → va_S A s.heap H1 locs1 → W p l e R s m args below meth c H1 locs1 cells slots Q (F0 m (pc + 3) ls rest)) : W p l e R s m args below meth c H locs cells slots Q (F0 m pc ls st0) := by
  refine va_callv (A1 := A1) (va_runS (As := As) (rest := rest) ⟨hx, hb, hml, hown, htm⟩ hM ⟨callB_of n htm (gNW hV) rfl hrm.1 hrm.2 (by rw [hV.2.2.2.1]; exact htm _ hV.2.1) (htm _ hlk) hV.2.2.2.2 hR, htm _ hV.1⟩ ⟨n_blind, fun U hU hW => ⟨rfl, hK.warm hW, by rw [hU]; exact hP⟩⟩ rfl hn hl hst (lv_room hrest) hdg hroom) hS (fun q _ h => hA1 q h) (fun q h => hA1 q h) (fun u t H1 locs1 ht hvm hp hB hz hk hS1 => ?_)
  rw [ht] at hB; exact kk H1 locs1 hB hz hk hS1
end
theorem sw_J7_fill_53178 : SW RJ7 yJ7_fill_53178 cJ7_fill_53178 4 none 2 := ⟨qw_66, qw_67, qw_68, ⟨rfl, by decide, by decide, by decide +kernel⟩⟩
def rm_fill : Room := { frames := 0, cells := 0, slots := 0, locals := 0 }
def fl (f : Nat → Int32) (v : Int32) (i : Nat) : Nat → Int32 := fun j => if j < i then v else f j
theorem fl_up (f : Nat → Int32) (v : Int32) (i : Nat) : upd (fl f v i) i v = fl f v (i + 1) := by
  funext j
  unfold upd fl
  by_cases h : j = i
  · subst h; rw [if_pos rfl, if_pos (Nat.lt_succ_self _)]
  · rw [if_neg h]
    by_cases h2 : j < i
    · rw [if_pos h2, if_pos (by omega)]
    · rw [if_neg h2, if_neg (by omega)]
theorem fl_all {cA : ClassId} {N : Nat} (f : Nat → Int32) (v : Int32) : vp_cell cA (N, .inl (fl f v N)) = vp_cell cA (N, .inl (fun _ => v)) := by
  rw [vp_cell_i, vp_cell_i]
  unfold arrV
  congr 1
  refine congrArg Array.ofFn (funext fun j => ?_)
  show Value.int (fl f v N j.val) = Value.int v
  unfold fl
  rw [if_pos j.isLt]
set_option maxHeartbeats 4000000 in
theorem c_fill {l : Launch} {D : va_G} {cI cZ cP : ClassId} {q N sz : Nat} {f : Nat → Int32} {v : Int32} (hN : N < 1000) : Met l yJ7_fill_53178 (.code yJ7_fill_53178 cJ7_fill_53178 4 none :: WM) rm_fill (PcN D cI cZ cP [.ref q, .int v] (fun H => H.size = sz ∧ va_at D clM (q, .inl (cI, N, .inl f)) H)) (QcN (fun H => H.size = sz ∧ va_at D clM (q, .inl (cI, N, .inl (fun _ => v))) H) (fun x => x = q)) 0 0 (fun x => x = q) := by
  refine Met.ofW (cc := cJ7_fill_53178) (maxL := 4) (ret := none) (by decide) rfl ?_
  intro p e s m args below meth c s₁ B hml hv
  obtain ⟨rfl, hK, hsz, hP⟩ := hv
  have hx := B.exec
  have hb := B.bytes
  have hr := B.returns
  have hlk := B.notSynchronized
  have hl := lv_entry [.ref q, .int v] (n := 4) (Nat.le_of_ble_eq_true rfl)
  rw [lg_entry_eq]
  generalize (lg_sl [.ref q, .int v] ++ List.replicate (4 - (lg_sl [.ref q, .int v]).length) Slot.unset).toArray = ls at hl ⊢
  have hl : lv_has ls 4 [(0, .ref q), (1, .int v)] := hl
  have hS : va_S (fun x => x = q) s.heap s.heap [] := va_S.rf
  refine lv_iconst (v := 0) hx hb dJ7_fill_53178_0 (by decide) ?_
  refine lv_istore_n (lv' := [(2, .int 0), (0, .ref q), (1, .int v)]) hx hb dJ7_fill_53178_1 rfl hl (by decide) rfl (fun ls hl => ?_)
  refine lv_aload_n hx hb dJ7_fill_53178_2 rfl (lv_at hl 1 rfl) ?_
  refine va_alen hx hb hK.1 (va_P.one hP) 0 0 rfl (ty := .int) rfl (v := nI N) rfl dJ7_fill_53178_3 ?_
  refine lv_istore_n (lv' := [(3, .int (nI N)), (2, .int 0), (0, .ref q), (1, .int v)]) hx hb dJ7_fill_53178_4 rfl hl (by decide) rfl (fun ls hl => ?_)
  have loop : ∀ (k i : Nat) (H : Heap) (locs : List Loc) (ls : Array Slot), i + k = N → H.size = sz → va_at D clM (q, .inl (cI, N, .inl (fl f v i))) H → va_S (fun x => x = q) s.heap H locs → lv_has ls 4 [(3, .int (nI N)), (2, .int (nI i)), (0, .ref q), (1, .int v)] → W p l e rm_fill s m [.ref q, .int v].toArray below meth c H locs 0 0 (MQ below (QcN (fun H => H.size = sz ∧ va_at D clM (q, .inl (cI, N, .inl (fun _ => v))) H) (fun x => x = q)) [.ref q, .int v].toArray s 0 0 (fun x => x = q)) (F0 m 5 ls []) := by
    intro k
    induction k with
    | zero =>
      intro i H locs ls hi hsz hP hS hl
      have hi : i = N := by omega
      subst hi
      refine lv_iload_n hx hb dJ7_fill_53178_5 rfl (lv_at hl 1 rfl) ?_
      refine lv_iload_n hx hb dJ7_fill_53178_6 rfl (lv_at hl 0 rfl) ?_
      refine lv_icmp_ge (tgt := 20) hx hb dJ7_fill_53178_7 (by decide) (fun c1 => ?_) (fun c1 => ?_)
      · refine n_ret hx hb hr hlk hS ?_ dJ7_fill_53178_20
        have h2 : H[q]? = some (vp_cell cI (i, .inl (fl f v i))) := hP
        rw [fl_all] at h2
        exact ⟨hsz, h2⟩
      · exact absurd (nI_le (Nat.le_refl i) (by omega)) c1
    | succ k ih =>
      intro i H locs ls hi hsz hP hS hl
      refine lv_iload_n hx hb dJ7_fill_53178_5 rfl (lv_at hl 1 rfl) ?_
      refine lv_iload_n hx hb dJ7_fill_53178_6 rfl (lv_at hl 0 rfl) ?_
      refine lv_icmp_ge (tgt := 20) hx hb dJ7_fill_53178_7 (by decide) (fun c1 => ?_) (fun c1 => ?_)
      · exact absurd c1 (nI_ge (by omega) (by omega))
      · refine lv_aload_n hx hb dJ7_fill_53178_10 rfl (lv_at hl 2 rfl) ?_
        refine lv_iload_n hx hb dJ7_fill_53178_11 rfl (lv_at hl 1 rfl) ?_
        refine lv_iload_n hx hb dJ7_fill_53178_12 rfl (lv_at hl 3 rfl) ?_
        have hin9 : vp_in (nI i) N := vp_in_nI (by omega) (by omega)
        refine W.iast hx hb hP ((hK.1.2 0 _ rfl).1 N (fun j => .int (fl f v i j))) (fun q9 => by cases q9) (by show ¬ (nI i < 0 ∨ (arrV _ _ _).slots.size ≤ _); rw [arrV_size]; exact hin9) rfl rfl dJ7_fill_53178_13 fun H1 e1 z1 oq => ?_
        refine W.eq (g2 := F0 m 14 ls []) rfl ?_
        have hS := hS.put (k := (nI i).toNatClampNeg) z1 oq rfl
        have hP : va_at D clM (q, .inl (cI, N, .inl (fl f v (i + 1)))) H1 := by
          show H1[q]? = some (vp_cell _ _)
          rw [e1, vp_cell_i, vp_cell_i, arrV_store, nI_clamp (by omega), ← fl_up]
          congr 2
          funext x
          by_cases hq : x = i
          · subst hq; simp [updV, upd]
          · simp [updV, upd, hq]
        have hsz := z1.trans hsz
        refine lv_iinc (v := nI (i + 1)) (lv' := [(2, .int (nI (i + 1))), (3, .int (nI N)), (0, .ref q), (1, .int v)]) hx hb dJ7_fill_53178_14 hl (k := 1) rfl (by rw [nI_succ]; rfl) (by decide) rfl (fun ls hl => ?_)
        refine lv_goto (tgt := 5) hx hb dJ7_fill_53178_17 (by decide) ?_
        exact ih (i + 1) _ _ ls (by omega) hsz hP hS (lv_sub hl [1, 0, 2, 3] rfl)
  refine loop N 0 _ _ ls (by omega) hsz ?_ hS (lv_sub hl [0, 1, 2, 3] rfl)
  have h0 : fl f v 0 = f := by funext j; unfold fl; rw [if_neg (Nat.not_lt_zero j)]
  rw [h0]
  exact hP
