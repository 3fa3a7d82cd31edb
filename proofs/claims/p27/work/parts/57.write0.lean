/-! rows for the array of arrays that write makes -/
def AOI (U : State) : Prop := (Cond.arrayOver (.array .int)).before #[] U = true
theorem AOI.moved {u U : State} (hvm : u.vm.Alike U.vm) (h : AOI u) : AOI U := by
  obtain ⟨comp, c, k, h1, h2, h3, h4, h5⟩ := arrayOverA_spec (t := .int) (show (Cond.arrayOver (.array .int)).holds #[] u none u [] = true from h)
  obtain ⟨k', hk', he⟩ := hvm.2.2 _ _ h3
  have hb2 : U.vm.bare = u.vm.bare := by first | exact hvm.bare_eq | exact hvm.bare_eq.symm
  have hi : (U.vm.classes.findIdx? fun (x : Class) => match x.kind with | .array component _ => component == comp | _ => false) = some c := (va_idx_bare U.vm comp).symm.trans ((congrArg (fun vm : Vm => vm.classes.findIdx? fun (x : Class) => match x.kind with | .array component _ => component == comp | _ => false) hb2).trans ((va_idx_bare u.vm comp).trans h2))
  have hkind : k'.kind = .array comp (.array .int) := by rw [he]; exact h4
  have f1 : U.vm.findClass (FieldType.array .int).toString = some comp := by rw [hvm.findClass]; exact h1
  have f2 : U.vm.findClass ("[" ++ (FieldType.array .int).toString) = some c := by rw [hvm.findClass]; exact h5
  unfold AOI Cond.before Cond.holds
  simp only [Cond.value]
  rw [f1, Option.bind_some]
  refine (congrArg (fun o : Option Nat => (o.bind (fun c => (U.vm.classes[c]?).map fun (k : Class) => match k.kind with | .array _ ty => decide (ty = FieldType.array .int) && decide (U.vm.findClass ("[" ++ (FieldType.array .int).toString) = some c) | _ => false) == some true)) hi).trans ?_
  simp [hk', hkind, f2]
/-- cA is what an array of int[] is of -/
def OK0 (cI cA : ClassId) (s : State) : Prop := ∃ kA kC : Class, s.vm.classes[cA]? = some kA ∧ kA.kind = .array cI (.array .int) ∧ s.vm.classes[cI]? = some kC
/-- the den, the script and the rows 0 .. i-1 of the array at oa; all lies below z -/
def wKO (D : va_G) (ad : Nat → Nat → Nat → Nat) (cI cZ cP : ClassId) (G : MT) (s : State) (b L : Nat) (xs : Nat → Int32) (cA : ClassId) (oa k i z : Nat) (H : Heap) : Prop := Pic D ad cI cZ cP 0 G V0 V0 H ∧ va_X b L xs s H ∧ oa < z ∧ b < z ∧ b ≠ oa ∧ z ≤ H.size ∧ ∃ S : Array Value, H[oa]? = some ({ cls := cA, slots := S, vm := .none } : Cell) ∧ S.size = 16 ∧ ∀ j, j < i → ∃ (q : Nat) (f : RT), S[j]? = some (.ref q) ∧ q < z ∧ q ≠ oa ∧ va_at D clM (q, .inl (cI, 3, .inl f)) H ∧ okL k (f 0) (f 1) (f 2)
theorem wKO.keep {D : va_G} {ad : Nat → Nat → Nat → Nat} {cI cZ cP : ClassId} {A : Nat → Prop} {G : MT} {s : State} {b L : Nat} {xs : Nat → Int32} {cA : ClassId} {oa k i z : Nat} {H H1 : Heap} (hLA : Lay ad A) (hA : ∀ q, A q → q < z) (h : wKO D ad cI cZ cP G s b L xs cA oa k i z H) (hk : ∀ q, q < z → H1[q]? = H[q]?) (hz : z ≤ H1.size) : wKO D ad cI cZ cP G s b L xs cA oa k i z H1 := by
  obtain ⟨h1, h2, h3, h4, h5, h6, S, h7, h8, h9⟩ := h
  refine ⟨h1.keep hLA (fun q _ hq => hk q (hA q hq)), h2.kept (hk b h4), h3, h4, h5, hz, S, by rw [hk oa h3]; exact h7, h8, fun j hj => ?_⟩
  obtain ⟨q, f, e1, e2, e3, e4, e5⟩ := h9 j hj
  exact ⟨q, f, e1, e2, e3, e4.kept (hk q e2), e5⟩
theorem wKO.put {D : va_G} {ad : Nat → Nat → Nat → Nat} {cI cZ cP : ClassId} {A : Nat → Prop} {G : MT} {s : State} {b L : Nat} {xs : Nat → Int32} {cA : ClassId} {oa k i z q0 : Nat} {f : RT} {H H1 : Heap} {S : Array Value} (hLA : Lay ad A) (hA : ∀ q, A q → q < oa) (h : wKO D ad cI cZ cP G s b L xs cA oa k i z H) (hr : va_at D clM (q0, .inl (cI, 3, .inl f)) H) (hzq : z ≤ q0) (ok : okL k (f 0) (f 1) (f 2)) (hi : i < 16) (hS : H[oa]? = some ({ cls := cA, slots := S, vm := .none } : Cell)) (e : H1[oa]? = some (Cell.setSlot ({ cls := cA, slots := S, vm := .none } : Cell) i (.ref q0))) (hz : H1.size = H.size) (o : ∀ q, q ≠ oa → H1[q]? = H[q]?) : wKO D ad cI cZ cP G s b L xs cA oa k (i + 1) (q0 + 1) H1 := by
  obtain ⟨h1, h2, h3, h4, h5, h6, S', h7, h8, h9⟩ := h
  rw [h7] at hS
  have eS : S' = S := by
    have := Option.some.inj hS
    exact congrArg Cell.slots this
  subst eS
  have hlt := hr.lt2
  have hlt : q0 < H.size := hlt
  refine ⟨h1.keep hLA (fun q _ hq => o q (by have := hA q hq; omega)), h2.kept (o b h5), by omega, by omega, h5, by omega, S'.setIfInBounds i (.ref q0), e, by rw [Array.size_setIfInBounds]; exact h8, fun j hj => ?_⟩
  by_cases hji : j = i
  · subst hji
    refine ⟨q0, f, ?_, by omega, by omega, hr.kept (o q0 (by omega)), ok⟩
    rw [Array.getElem?_setIfInBounds_self_of_lt (by omega)]
  · obtain ⟨q, g, e1, e2, e3, e4, e5⟩ := h9 j (by omega)
    refine ⟨q, g, ?_, by omega, e3, e4.kept (o q e3), e5⟩
    rw [Array.getElem?_setIfInBounds_ne (by omega)]
    exact e1
section
variable {p : Program} {l : Launch} {e : Env} {R : Room} {s : State} {m : MethodId} {args : Array Value} {below : List Frame} {meth : Method} {c : Code} {H : Heap} {locs : List Loc} {cells slots : Nat} {Q : State → Prop}
variable {cc : ByteArray} {pc nL : Nat} {rt : Option FieldType} {ls : Array Slot} {rest st0 : List Value} {D : va_G} {ad : Nat → Nat → Nat → Nat} {cI cZ cP : ClassId} {A Ar B : Nat → Prop} {H0 : Heap} {own : String} {index : Nat}
theorem la_newA (hx : p.tables.exec = Jvm.exec) (hb : c.code = cc) (hown : s.vm.findClass own = some m.cls) (hclink : (Cond.classLink own index "[I").before args s = true) (hao : AOI s) (hE : DEnv D ad cI cZ cP Ar s) (hS : va_S B H0 H locs) {n : Int32} (hn : ¬ n < 0) (hN : n.toNatClampNeg = 16) (hcells : cells + 1 ≤ R.cells) (hslots : slots + 16 ≤ R.slots) (hdg : decode cc pc = .ok (.anewarray index, 3)) (kk : ∀ (cA : ClassId) (H1 : Heap), OK0 cI cA s → H1[H.size]? = some ({ cls := cA, slots := Array.replicate 16 .null, vm := .none } : Cell) → (∀ q, q < H.size → H1[q]? = H[q]?) → H1.size = H.size + 1 → va_S B H0 H1 locs → W p l e R s m args below meth c H1 locs (cells + 1) (slots + 16) Q (F0 m (pc + 3) ls (.ref H.size :: rest))) : W p l e R s m args below meth c H locs cells slots Q (F0 m pc ls (.int n :: rest)) := by
  refine W.anewA (t := .int) hx hb hown hclink (show (Cond.arrayOver (.array .int)).before args s = true from hao) rfl hdg rfl hn (by rw [hN]; decide) hcells (by rw [hN]; exact hslots) fun cA kA comp f1 f2 f3 f4 => ?_
  rw [hN]
  have e2 := hE.cI.2
  have : comp = cI := by
    have q := (show s.vm.findClass (FieldType.array .int).toString = s.vm.findClass ("[" ++ (FieldType.int).toString) from rfl).symm.trans f4
    rw [e2] at q
    exact (Option.some.inj q).symm
  subst this
  obtain ⟨kC, hkC, -⟩ := Vm.findClass_spec f4
  generalize hH1 : H.push ({ cls := cA, slots := Array.replicate 16 .null, vm := .none } : Cell) = H1
  have z1 : H1.size = H.size + 1 := by rw [← hH1, Array.size_push]
  have o1 : ∀ q : Nat, q < H.size → H1[q]? = H[q]? := fun q hq => by rw [← hH1, Array.getElem?_push, if_neg (Nat.ne_of_lt hq)]
  exact kk cA H1 ⟨kA, kC, f2, f3, hkC⟩ (by rw [← hH1, Array.getElem?_push_size]) o1 z1 (hS.push z1 o1)
theorem la_sto (hx : p.tables.exec = Jvm.exec) (hb : c.code = cc) {G : MT} {b L : Nat} {xs : Nat → Int32} {cA : ClassId} {oa k i z q0 : Nat} {f : RT} (hO : OK0 cI cA s) (hLA : Lay ad A) (hA : ∀ q, A q → q < oa) (h : wKO D ad cI cZ cP G s b L xs cA oa k i z H) (hr : va_at D clM (q0, .inl (cI, 3, .inl f)) H) (hzq : z ≤ q0) (ok : okL k (f 0) (f 1) (f 2)) (hi : i < 16) (hB : B oa) (hS : va_S B H0 H locs) {iv : Int32} (hiv : iv = nI i) (hdg : decode cc pc = .ok (.aastore, 1)) (kk : ∀ (H1 : Heap) (locs1 : List Loc), wKO D ad cI cZ cP G s b L xs cA oa k (i + 1) (q0 + 1) H1 → va_S B H0 H1 locs1 → W p l e R s m args below meth c H1 locs1 cells slots Q (F0 m (pc + 1) ls rest)) : W p l e R s m args below meth c H locs cells slots Q (F0 m pc ls (.ref q0 :: .int iv :: .ref oa :: rest)) := by
  subst hiv
  obtain ⟨kA, kC, k1, k2, k3⟩ := hO
  obtain ⟨S, h7, h8⟩ := h.2.2.2.2.2.2
  have hcl : (nI i).toNatClampNeg = i := wd_cl (by omega)
  refine W.aast hx hb h7 (fun q h => by cases h) (fun h => by cases h) k1 k2 rfl k3 ⟨nI_pos (by omega), by show (nI i).toNatClampNeg < S.size; rw [hcl, h8.1]; exact hi⟩ (show H[q0]? = some (vp_cell cI (3, .inl f)) from hr) (fun q h => by cases h) (kv := kC) (by exact k3) ?_ rfl rfl hdg fun H1 e z oq => ?_
  · show s.vm.assignableAux (255 + 1) cI cI = true
    rw [Vm.assignableAux]; simp only [beq_self_eq_true, Bool.true_or]
  · rw [hcl] at e
    exact kk H1 _ (h.put hLA hA hr hzq ok hi h7 e z oq) (hS.put z oq hB)
theorem la_ldo (hx : p.tables.exec = Jvm.exec) (hb : c.code = cc) {G : MT} {b L : Nat} {xs : Nat → Int32} {cA : ClassId} {oa k z j : Nat} (hO : OK0 cI cA s) (h : wKO D ad cI cZ cP G s b L xs cA oa k 16 z H) (hj : j < 16) (hdg : decode cc pc = .ok (.aaload, 1)) (kk : ∀ (q : Nat) (f : RT), q < z → va_at D clM (q, .inl (cI, 3, .inl f)) H → okL k (f 0) (f 1) (f 2) → W p l e R s m args below meth c H locs cells slots Q (F0 m (pc + 1) ls (.ref q :: rest))) : W p l e R s m args below meth c H locs cells slots Q (F0 m pc ls (.int (nI j) :: .ref oa :: rest)) := by
  obtain ⟨kA, kC, k1, k2, k3⟩ := hO
  obtain ⟨S, h7, h8, h9⟩ := h.2.2.2.2.2.2
  have hcl : (nI j).toNatClampNeg = j := wd_cl (by omega)
  obtain ⟨q, f, e1, e2, e3, e4, e5⟩ := h9 j hj
  refine W.aald hx hb h7 (ty := .array .int) ⟨(fun q h => by cases h), kA, k1, cI, k2⟩ rfl (fun h => by cases h) ?_ (v := .ref q) ?_ rfl rfl hdg (kk q f e2 e4 e5)
  · show ¬ (nI j < 0 ∨ S.size ≤ (nI j).toNatClampNeg)
    rw [hcl, h8]
    intro z
    rcases z with z | z
    · exact nI_pos (by omega) z
    · omega
  · show S[(nI j).toNatClampNeg]? = some (.ref q)
    rw [hcl]; exact e1
end
