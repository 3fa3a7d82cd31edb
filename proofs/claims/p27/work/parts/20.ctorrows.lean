/-! constructors: rows over single cells -/
def KE (D : va_G) (cI cZ cP : ClassId) (s : State) : Prop := va_K D clM [(cI, .int), (cZ, .boolean), (cP, .object "MailDen$Proc")] s ∧ (∀ q ∈ nestL, va_Nw (.methodLinkNest q.1 q.2.1 q.2.2.1 q.2.2.2) s) ∧ va_AO "MailDen$Proc" s
theorem KE.same {D : va_G} {cI cZ cP : ClassId} {u U : State} (h : KE D cI cZ cP u) (hv : u.vm = U.vm) : KE D cI cZ cP U := ⟨va_K.moved (by rw [hv]; exact Vm.Alike.refl _) h.1, fun q hq => va_Nw.same rfl hv (h.2.1 q hq), h.2.2.moved (by rw [hv]; exact Vm.Alike.refl _)⟩
theorem KE.warm {D : va_G} {cI cZ cP : ClassId} {u U : State} (h : KE D cI cZ cP u) (hW : u.WarmedH U.vm) : KE D cI cZ cP U := ⟨va_K.moved hW.alike h.1, fun q hq => va_Nw.warmM hW (h.2.1 q hq), h.2.2.moved hW.alike⟩
section
variable {p : Program} {l : Launch} {e : Env} {R : Room} {s : State} {m : MethodId} {args : Array Value} {below : List Frame} {meth : Method} {c : Code} {H : Heap} {locs : List Loc} {cells slots : Nat} {Q : State → Prop}
variable {cc : ByteArray} {pc : Nat} {ls : Array Slot} {rest : List Value} {D : va_G} {cI cZ cP : ClassId} {A : Nat → Prop} {H0 : Heap} {own : String} {index z a : Nat}

theorem n_S (hS : va_S A H0 H locs) {H1 : Heap} (hz : H.size = z) (z1 : H1.size = z + 1) (o1 : ∀ q, q < z → H1[q]? = H[q]?) : va_S A H0 H1 locs := ⟨by have := hS.1; omega, fun x h1 h2 => (o1 x (by have := hS.1; omega)).trans (hS.2.1 x h1 h2), hS.2.2⟩
theorem n_new (hx : p.tables.exec = Jvm.exec) (hb : c.code = cc) (htm : ∀ x ∈ WM, x.before args s = true) (hown : s.vm.findClass own = some m.cls) (hK : KE D cI cZ cP s) (hS : va_S A H0 H locs) {ci N : Nat} {C : String} {T : u_T} {fs : List Value} (hc : clM[ci]? = some (C, T, N)) (hin : ∀ x ∈ u_ws C T N, x ∈ WM) (ty : Nat → FieldType) (hty : ∀ k, k < N → parseFieldDescriptor (T k).2.2.1 = some (ty k)) (hfs : ∀ j, j < N → defaultValue (ty j) = vp_V fs j) (hcl : Cond.classLink own index C ∈ WM) (hinst : Cond.instantiable C N ∈ WM) (hini : Cond.initialized C ∈ WM) (hz : H.size = z) (hcells : cells + 1 ≤ R.cells) (hslots : slots + N ≤ R.slots) (hdg : decode cc pc = .ok (.new index, 3)) (kk : ∀ H1 : Heap, H1.size = z + 1 → (∀ q, q < z → H1[q]? = H[q]?) → va_at D clM (z, .inr (ci, fs)) H1 → va_S A H0 H1 locs → W p l e R s m args below meth c H1 locs (cells + 1) (slots + N) Q (F0 m (pc + 3) ls (.ref z :: rest))) : W p l e R s m args below meth c H locs cells slots Q (F0 m pc ls (rest)) := by
  have hKn := hK.1.1 ci _ hc
  refine W.newcK hx hb hown (htm _ hcl) (htm _ hinst) (htm _ hini) rfl hdg hcells hslots hKn.2.1 hz fun H1 kC hkC e1 z1 o1 => ?_
  exact kk H1 z1 o1 ⟨_, hc, (u_born ty htm hin hKn hkC e1 hty).to hfs⟩ (n_S hS hz z1 o1)
theorem n_newI (hx : p.tables.exec = Jvm.exec) (hb : c.code = cc) (htm : ∀ x ∈ WM, x.before args s = true) (hown : s.vm.findClass own = some m.cls) (hK : KE D cI cZ cP s) (hS : va_S A H0 H locs) {n : Int32} {N : Nat} (harr : Cond.arrayClass .int ∈ WM) (hn : ¬ n < 0) (hN : n.toNatClampNeg = N) (hbytes : N * 4 ≤ 536870912) (hz : H.size = z) (hcells : cells + 1 ≤ R.cells) (hslots : slots + N ≤ R.slots) (hdg : decode cc pc = .ok (.newarray .int, 2)) (kk : ∀ H1 : Heap, H1.size = z + 1 → (∀ q, q < z → H1[q]? = H[q]?) → va_at D clM (z, .inl (cI, N, .inl (fun _ => 0))) H1 → va_S A H0 H1 locs → W p l e R s m args below meth c H1 locs (cells + 1) (slots + N) Q (F0 m (pc + 2) ls (.ref z :: rest))) : W p l e R s m args below meth c H locs cells slots Q (F0 m pc ls (.int n :: rest)) := by
  refine va_newaK (atype := .int) hx hb (htm _ harr) rfl hdg rfl hn hN hbytes hcells hslots hz fun H1 cA e1 z1 o1 _ hf => ?_
  have hc2 : s.vm.findClass ("[" ++ (FieldType.int).toString) = some cI := (hK.1.2 0 _ rfl).2
  cases Option.some.inj (hf.symm.trans hc2)
  exact kk H1 z1 o1 e1 (n_S hS hz z1 o1)
theorem n_newZ (hx : p.tables.exec = Jvm.exec) (hb : c.code = cc) (htm : ∀ x ∈ WM, x.before args s = true) (hown : s.vm.findClass own = some m.cls) (hK : KE D cI cZ cP s) (hS : va_S A H0 H locs) {n : Int32} {N : Nat} (harr : Cond.arrayClass .boolean ∈ WM) (hn : ¬ n < 0) (hN : n.toNatClampNeg = N) (hbytes : N * 1 ≤ 536870912) (hz : H.size = z) (hcells : cells + 1 ≤ R.cells) (hslots : slots + N ≤ R.slots) (hdg : decode cc pc = .ok (.newarray .boolean, 2)) (kk : ∀ H1 : Heap, H1.size = z + 1 → (∀ q, q < z → H1[q]? = H[q]?) → va_at D clM (z, .inl (cZ, N, .inl (fun _ => 0))) H1 → va_S A H0 H1 locs → W p l e R s m args below meth c H1 locs (cells + 1) (slots + N) Q (F0 m (pc + 2) ls (.ref z :: rest))) : W p l e R s m args below meth c H locs cells slots Q (F0 m pc ls (.int n :: rest)) := by
  refine va_newaK (atype := .boolean) hx hb (htm _ harr) rfl hdg rfl hn hN hbytes hcells hslots hz fun H1 cA e1 z1 o1 _ hf => ?_
  have hc2 : s.vm.findClass ("[" ++ (FieldType.boolean).toString) = some cZ := (hK.1.2 1 _ rfl).2
  cases Option.some.inj (hf.symm.trans hc2)
  exact kk H1 z1 o1 e1 (n_S hS hz z1 o1)
theorem n_newP (hx : p.tables.exec = Jvm.exec) (hb : c.code = cc) (htm : ∀ x ∈ WM, x.before args s = true) (hown : s.vm.findClass own = some m.cls) (hK : KE D cI cZ cP s) (hS : va_S A H0 H locs) {n : Int32} {N : Nat} (hcl : Cond.classLink own index "MailDen$Proc" ∈ WM) (hn : ¬ n < 0) (hN : n.toNatClampNeg = N) (hbytes : N * 4 ≤ 536870912) (hz : H.size = z) (hcells : cells + 1 ≤ R.cells) (hslots : slots + N ≤ R.slots) (hdg : decode cc pc = .ok (.anewarray index, 3)) (kk : ∀ H1 : Heap, H1.size = z + 1 → (∀ q, q < z → H1[q]? = H[q]?) → va_at D clM (z, .inl (cP, N, .inr (.inr (.inr (.inr (fun _ => none)))))) H1 → va_S A H0 H1 locs → W p l e R s m args below meth c H1 locs (cells + 1) (slots + N) Q (F0 m (pc + 3) ls (.ref z :: rest))) : W p l e R s m args below meth c H locs cells slots Q (F0 m pc ls (.int n :: rest)) := by
  subst hN
  subst hz
  refine W.anew hx hb hown (htm _ hcl) (va_AO.use hK.2.2) rfl hdg rfl hn hbytes hcells hslots fun cA kA comp f1 _ _ _ => ?_
  obtain ⟨_, _, _, _, _, g4⟩ := (hK.1.2 2 _ rfl).2
  cases Option.some.inj (f1.symm.trans g4)
  refine kk _ (Array.size_push ..) (fun q hq => ?_) ?_ (n_S hS rfl (Array.size_push ..) (fun q hq => ?_))
  · rw [Array.getElem?_push, if_neg (Nat.ne_of_lt hq)]
  · show _ = some (vp_cell _ _)
    rw [Array.getElem?_push_size, vp_cell_q, ← arrV_new]
    rfl
  · rw [Array.getElem?_push, if_neg (Nat.ne_of_lt hq)]
theorem n_get (hx : p.tables.exec = Jvm.exec) (hb : c.code = cc) (htm : ∀ x ∈ WM, x.before args s = true) (hown : s.vm.findClass own = some m.cls) (hK : KE D cI cZ cP s) (hS : va_S A H0 H locs) {ci N : Nat} {C : String} {T : u_T} {fs : List Value} {v : Value} (hc : clM[ci]? = some (C, T, N)) (hin : ∀ x ∈ u_ws C T N, x ∈ WM) (h : va_at D clM (a, .inr (ci, fs)) H) (j : Nat) (hj : j < N) (hlink : Cond.fieldLink own index (T j).1 (T j).2.1 (T j).2.2.1 ∈ WM) (hv : fs[j]? = some v) (hdg : decode cc pc = .ok (.getfield index, 3)) (kk : W p l e R s m args below meth c H locs cells slots Q (F0 m (pc + 3) ls (v :: rest))) : W p l e R s m args below meth c H locs cells slots Q (F0 m pc ls (.ref a :: rest)) :=
  va_get hx hb htm hin hown hK.1 (va_P.one h) 0 rfl hc j hj (htm _ hlink) (fun _ h9 => h9) hv hdg kk
theorem n_put (hx : p.tables.exec = Jvm.exec) (hb : c.code = cc) (htm : ∀ x ∈ WM, x.before args s = true) (hown : s.vm.findClass own = some m.cls) (hK : KE D cI cZ cP s) (hS : va_S A H0 H locs) {ci N : Nat} {C : String} {T : u_T} {fs : List Value} {v : Value} (hc : clM[ci]? = some (C, T, N)) (hin : ∀ x ∈ u_ws C T N, x ∈ WM) (ty0 : Nat → FieldType) (hty : ∀ k, k < N → parseFieldDescriptor (T k).2.2.1 = some (ty0 k)) (hnm : ∀ a, a < N → ∀ b, b < N → a ≠ b → (T a).2.1 ≠ (T b).2.1) (hA : A a) (h : va_at D clM (a, .inr (ci, fs)) H) (j : Nat) (hj : j < N) (hlink : Cond.fieldLink own index (T j).1 (T j).2.1 (T j).2.2.1 ∈ WM) (hfin : (T j).2.2.2 = false) {ty : FieldType} (hd : parseFieldDescriptor (T j).2.2.1 = some ty) (hn : narrow ty v = v) (hfit : fits ty v = true) (hl : j < fs.length) (hdg : decode cc pc = .ok (.putfield index, 3)) (kk : ∀ (H1 : Heap) (locs1 : List Loc), H1.size = H.size → (∀ q, q ≠ a → H1[q]? = H[q]?) → va_at D clM (a, .inr (ci, fs.set j v)) H1 → va_S A H0 H1 locs1 → W p l e R s m args below meth c H1 locs1 cells slots Q (F0 m (pc + 3) ls (rest))) : W p l e R s m args below meth c H locs cells slots Q (F0 m pc ls (v :: .ref a :: rest)) := by
  have hap := va_apart (own := own) htm hin ty0 hty hnm hK.1 hc
  obtain ⟨r, h1, cell, q1, q2, q3, q4⟩ := h
  have hr : r = (C, T, N) := Option.some.inj (h1.symm.trans hc)
  subst hr
  obtain ⟨hSl, hfc, kC, hkC, hkind⟩ := hK.1.1 ci _ hc
  obtain ⟨cf, kf, fi, f, hi, hsl⟩ := hSl j hj
  have hlay := htm _ (hin _ (u_in_lay hj))
  unfold u_lay at hlay
  rw [if_neg (by rw [hfin]; decide)] at hlay
  have hst := (u_facts hfc hkC (u_lays htm hin hj) hi).1
  have h6 := u_store hfc hkC hkind hlay hi hd hn hfit
  refine W.putK hx hb (f := f) ⟨hown, htm _ hlink, ⟨_, _, _, hi⟩, hst⟩ (by rw [q2]; exact h6) q1 q3 (by rw [hsl]; exact k2_hasslot (q4 j hj)) rfl rfl hdg fun H' e1 e2 e3 => ?_
  rw [hsl] at e1 ⊢
  exact kk H' _ e2 e3 ⟨_, hc, t_OB.to (V := updV (vp_V fs) j v) ⟨_, e1, q2, q3, t_set q4 hap hj v⟩ (fun k _ => vp_updV_set hl v k)⟩ (hS.put e2 e3 hA)
theorem n_putF (hx : p.tables.exec = Jvm.exec) (hb : c.code = cc) (htm : ∀ x ∈ WM, x.before args s = true) (hown : s.vm.findClass own = some m.cls) (hK : KE D cI cZ cP s) (hS : va_S A H0 H locs) (hinit : meth.name = "<init>") {ci N : Nat} {C : String} {T : u_T} {fs : List Value} {v : Value} (hc : clM[ci]? = some (C, T, N)) (hin : ∀ x ∈ u_ws C T N, x ∈ WM) (ty0 : Nat → FieldType) (hty : ∀ k, k < N → parseFieldDescriptor (T k).2.2.1 = some (ty0 k)) (hnm : ∀ a, a < N → ∀ b, b < N → a ≠ b → (T a).2.1 ≠ (T b).2.1) (hA : A a) (h : va_at D clM (a, .inr (ci, fs)) H) (j : Nat) (hj : j < N) (hlink : Cond.fieldLink own index (T j).1 (T j).2.1 (T j).2.2.1 ∈ WM) (hfin : (T j).2.2.2 = true) (hdecl : (T j).1 = own) {ty : FieldType} (hd : parseFieldDescriptor (T j).2.2.1 = some ty) (hn : narrow ty v = v) (hfit : fits ty v = true) (hl : j < fs.length) (hdg : decode cc pc = .ok (.putfield index, 3)) (kk : ∀ (H1 : Heap) (locs1 : List Loc), H1.size = H.size → (∀ q, q ≠ a → H1[q]? = H[q]?) → va_at D clM (a, .inr (ci, fs.set j v)) H1 → va_S A H0 H1 locs1 → W p l e R s m args below meth c H1 locs1 cells slots Q (F0 m (pc + 3) ls (rest))) : W p l e R s m args below meth c H locs cells slots Q (F0 m pc ls (v :: .ref a :: rest)) := by
  have hap := va_apart (own := own) htm hin ty0 hty hnm hK.1 hc
  obtain ⟨r, h1, cell, q1, q2, q3, q4⟩ := h
  have hr : r = (C, T, N) := Option.some.inj (h1.symm.trans hc)
  subst hr
  obtain ⟨hSl, hfc, kC, hkC, hkind⟩ := hK.1.1 ci _ hc
  obtain ⟨cf, kf, fi, f, hi, hsl⟩ := hSl j hj
  have hlay := htm _ (hin _ (u_in_lay hj))
  unfold u_lay at hlay
  rw [if_pos hfin] at hlay
  have hst := (u_facts hfc hkC (u_lays htm hin hj) hi).1
  have hcf : m.cls = cf := by
    obtain ⟨_, _, c', _, _, _, -, -, hf', -, -, -, hown2, -⟩ := Cond.laysFinal_spec hlay
    have e1 : c' = cf := by have := hi.symm.trans hf'; simp at this; exact this.1.symm
    rw [hdecl] at hown2
    rw [← e1]; exact Option.some.inj (hown.symm.trans hown2)
  have h6 := u_fits hfc hkC hkind (Or.inr hlay) hi hd hn hfit
  refine W.putFinK hx hb hown (htm _ hlink) hi hst hcf hinit (by rw [q2]; exact h6) q1 q3 (by rw [hsl]; exact k2_hasslot (q4 j hj)) rfl rfl hdg fun H' e1 e2 e3 => ?_
  rw [hsl] at e1 ⊢
  exact kk H' _ e2 e3 ⟨_, hc, t_OB.to (V := updV (vp_V fs) j v) ⟨_, e1, q2, q3, t_set q4 hap hj v⟩ (fun k _ => vp_updV_set hl v k)⟩ (hS.put e2 e3 hA)
theorem n_astP (hx : p.tables.exec = Jvm.exec) (hb : c.code = cc) (htm : ∀ x ∈ WM, x.before args s = true) (hown : s.vm.findClass own = some m.cls) (hK : KE D cI cZ cP s) (hS : va_S A H0 H locs) {n v : Nat} {vs : List Value} {f : Nat → Option Nat} (hA : A a) (ha : va_at D clM (a, .inl (cP, n, .inr (.inr (.inr (.inr f))))) H) (hv : va_at D clM (v, .inr (2, vs)) H) {i : Int32} (hin : vp_in i n) (hdg : decode cc pc = .ok (.aastore, 1)) (kk : ∀ (H1 : Heap) (locs1 : List Loc), H1.size = H.size → (∀ q, q ≠ a → H1[q]? = H[q]?) → va_at D clM (a, .inl (cP, n, .inr (.inr (.inr (.inr (va_up f i.toNatClampNeg (some v))))))) H1 → va_S A H0 H1 locs1 → W p l e R s m args below meth c H1 locs1 cells slots Q (F0 m (pc + 1) ls (rest))) : W p l e R s m args below meth c H locs cells slots Q (F0 m pc ls (.ref v :: .int i :: .ref a :: rest)) := by
  have hlt : i.toNatClampNeg < n := Nat.not_le.mp fun q => hin (Or.inr q)
  have h0 : ¬ i < 0 := fun q => hin (Or.inl q)
  obtain ⟨r', hr', cellV, g1, g2, g3, -⟩ := hv
  have hcls := (hK.1.1 2 (RX2, TX2, 19) rfl).2
  obtain ⟨kA, comp, k1, k2, k3, -⟩ := (hK.1.2 2 _ rfl).2
  have hcomp : comp = D.1 2 := Option.some.inj (k3.symm.trans hcls.1)
  subst hcomp
  obtain ⟨kC, hkC, -⟩ := hcls.2
  refine W.aast hx hb ha (fun q h => by cases h) (fun h => by cases h) k1 k2 rfl hkC ⟨h0, by show _ < (arrV _ _ _).slots.size; rw [arrV_size]; exact hlt⟩ g1 (fun q h => by rw [g3] at h; cases h) (by rw [g2]; exact hkC) (by rw [g2]; exact va_assign hcls) rfl rfl hdg fun H1 e z oq => ?_
  refine kk H1 _ z oq ?_ (hS.put z oq hA)
  show H1[a]? = some (vp_cell _ _)
  rw [e]
  rw [vp_cell_q, vp_cell_q, arrV_store]
  congr 2
  funext q
  by_cases hq : q = i.toNatClampNeg
  · subst hq
    simp [updV, va_up, va_rf]
  · simp [updV, va_up, hq]
theorem n_obj (hx : p.tables.exec = Jvm.exec) (hb : c.code = cc) (htm : ∀ x ∈ WM, x.before args s = true) (hown : s.vm.findClass own = some m.cls) (hK : KE D cI cZ cP s) (hS : va_S A H0 H locs) (hml : c.maxLocals = ls.size) (hlink : Cond.methodLink own index objectInit ∈ WM) (hinst : Cond.instanceMethod objectInit ∈ WM) (hcode : Cond.code objectInit ⟨#[0xb1]⟩ 1 none ∈ WM) (hdg : decode cc pc = .ok (.invokespecial index, 3)) (hf : 1 ≤ R.frames) (hlo : (rest.map fun v => v.category).sum + 12 ≤ R.locals) (kk : W p l e R s m args below meth c H locs cells slots Q (F0 m (pc + 3) ls (rest))) : W p l e R s m args below meth c H locs cells slots Q (F0 m pc ls (.ref a :: rest)) := by
  refine W.objInit hx hb hown (htm _ hlink) (htm _ hinst) (htm _ hcode) rfl hml.symm rfl hdg hf (by show 2 * 0 + _ + 12 ≤ _; omega) ?_
  exact kk

end
