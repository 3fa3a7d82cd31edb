/-! the memory of a den: things (w, k, i): w the world (0 the real one, 1 the trial; 2: what both share), k the kind, i the number of the PROCESS. A thing's own numbers are a function of the place. -/
abbrev clM : List vw_C := [(RX0, TX0, 3), (RX1, TX1, 5), (RX2, TX2, 19), (RX3, TX3, 8), (RX4, TX4, 3), (RX5, TX5, 17), (RX6, TX6, 4)]
def cnt (k : Nat) : Nat := if 7 ≤ k then 24 else 1
def vld (w k i : Nat) : Prop := (k < 16 ∧ w < 2 ∧ i < cnt k) ∨ (16 ≤ k ∧ k < 30 ∧ w = 2 ∧ i = 0)
def rl : List (Nat × Nat × Nat) := (List.range 16).flatMap (fun k => (List.range (cnt k)).flatMap (fun i => [(0, k, i), (1, k, i)])) ++ (List.range 14).map (fun k => (2, k + 16, 0))
theorem rl_in {w k i : Nat} (h : vld w k i) : (w, k, i) ∈ rl := by
  rcases h with ⟨h1, h2, h3⟩ | ⟨h1, h2, h3, h4⟩
  · refine List.mem_append_left _ (List.mem_flatMap.mpr ⟨k, List.mem_range.mpr h1, List.mem_flatMap.mpr ⟨i, List.mem_range.mpr h3, ?_⟩⟩)
    rcases (show w = 0 ∨ w = 1 by omega) with rfl | rfl <;> simp
  · subst h3; subst h4
    exact List.mem_append_right _ (List.mem_map.mpr ⟨k - 16, List.mem_range.mpr (by omega), by rw [Nat.sub_add_cancel h1]⟩)
theorem rl_of {w k i : Nat} (h : (w, k, i) ∈ rl) : vld w k i := by
  rcases List.mem_append.mp h with h | h
  · obtain ⟨k', hk, h⟩ := List.mem_flatMap.mp h
    obtain ⟨i', hi, h⟩ := List.mem_flatMap.mp h
    have hk := List.mem_range.mp hk
    have hi := List.mem_range.mp hi
    simp only [List.mem_cons, Prod.mk.injEq, List.not_mem_nil, or_false] at h
    rcases h with ⟨rfl, rfl, rfl⟩ | ⟨rfl, rfl, rfl⟩
    · exact Or.inl ⟨hk, by decide, hi⟩
    · exact Or.inl ⟨hk, by decide, hi⟩
  · obtain ⟨k', hk, h⟩ := List.mem_map.mp h
    have hk := List.mem_range.mp hk
    simp only [Prod.mk.injEq] at h
    obtain ⟨rfl, rfl, rfl⟩ := h
    exact Or.inr ⟨by omega, by omega, rfl, rfl⟩

/-- what lies at a thing whose numbers are f -/
def ob (ad : Nat → Nat → Nat → Nat) (cI cZ cP : ClassId) (w k i : Nat) (f : Nat → Int32) : va_E := match k with
  | 0 => .inr (5, [.ref (ad 2 17 0), .ref (ad 2 22 0), .ref (ad w 1 0), .ref (ad w 2 0), .ref (ad w 3 0), .int (f 5), .int (f 6), .int (f 7), .int (f 8), .int (f 9), .int (f 10), .ref (ad w 4 0), .int (f 12), .int (f 13), .ref (ad w 5 0), .ref (ad w 6 0), .int (f 16)])
  | 1 => .inl (cI, 4, .inl f)
  | 2 => .inl (cI, 4, .inl f)
  | 3 => .inl (cP, 24, .inr (.inr (.inr (.inr (fun j => some (ad w 7 j))))))
  | 4 => .inl (cI, 24, .inl f)
  | 5 => .inl (cI, 24, .inl f)
  | 6 => .inl (cI, 24, .inl f)
  | 7 => .inr (2, [.int (nI i), .int (f 1), .int (f 2), .int (f 3), .int (f 4), .int (f 5), .int (f 6), .int (f 7), .int (f 8), .int (f 9), .int (f 10), .int (f 11), .int (f 12), .int (f 13), .int (f 14), .ref (ad w 8 i), .ref (ad w 9 i), .ref (ad w 10 i), .ref (ad w 13 i)])
  | 8 => .inl (cI, 4, .inl f)
  | 9 => .inl (cI, 4, .inl f)
  | 10 => .inr (0, [.ref (ad w 11 i), .ref (ad w 12 i), .int (f 2)])
  | 11 => .inl (cI, 8, .inl f)
  | 12 => .inl (cI, 8, .inl f)
  | 13 => .inr (4, [.ref (ad w 14 i), .ref (ad w 15 i), .int (f 2)])
  | 14 => .inl (cI, 24, .inl f)
  | 15 => .inl (cI, 24, .inl f)
  | 16 => .inr (6, [.ref (ad 2 17 0), .ref (ad 2 22 0), .ref (ad 0 0 0), .ref (ad 1 0 0)])
  | 17 => .inr (1, [.int (f 0), .ref (ad 2 18 0), .ref (ad 2 19 0), .ref (ad 2 20 0), .ref (ad 2 21 0)])
  | 18 => .inl (cI, 16, .inl f)
  | 19 => .inl (cI, 192, .inl f)
  | 20 => .inl (cI, 192, .inl f)
  | 21 => .inl (cI, 192, .inl f)
  | 22 => .inr (3, [.int (f 0), .ref (ad 2 23 0), .ref (ad 2 24 0), .ref (ad 2 25 0), .ref (ad 2 26 0), .ref (ad 2 27 0), .ref (ad 2 28 0), .ref (ad 2 29 0)])
  | 23 => .inl (cI, 5, .inl f)
  | 24 => .inl (cI, 5, .inl f)
  | 25 => .inl (cI, 5, .inl f)
  | 26 => .inl (cI, 5, .inl f)
  | 27 => .inl (cZ, 20, .inl f)
  | 28 => .inl (cI, 20, .inl f)
  | _ => .inl (cI, 20, .inl f)
/-- the numbers of all things: V of the world w, U of the other one, G of what both share -/
def Mm (w : Nat) (G V U : Nat → Nat → Nat → Int32) (r : Nat × Nat × Nat) : Nat → Int32 := if 16 ≤ r.2.1 then G r.2.1 r.2.2 else if r.1 = w then V r.2.1 r.2.2 else U r.2.1 r.2.2
def wsA (ad : Nat → Nat → Nat → Nat) (e : Nat × Nat × Nat → va_E) : va_W := rl.map (fun r => (ad r.1 r.2.1 r.2.2, e r))
def oe (ad : Nat → Nat → Nat → Nat) (cI cZ cP : ClassId) (M : Nat × Nat × Nat → Nat → Int32) (r : Nat × Nat × Nat) : va_E := ob ad cI cZ cP r.1 r.2.1 r.2.2 (M r)
/-- the heap holds the den -/
def Pic (D : va_G) (ad : Nat → Nat → Nat → Nat) (cI cZ cP : ClassId) (w : Nat) (G V U : Nat → Nat → Nat → Int32) (H : Heap) : Prop := va_P D clM (wsA ad (oe ad cI cZ cP (Mm w G V U))) H
/-- the things are apart, and of a kind -/
def Lay (ad : Nat → Nat → Nat → Nat) (A : Nat → Prop) : Prop := ∀ e, va_D A (wsA ad e)
def nestL : List (String × Nat × MethodName × String) := [(RX6, 11, yX1_init, RX6), (RX6, 18, yX3_init, RX6), (RX2, 45, yX0_init, RX6), (RX2, 52, yX4_init, RX6), (RX0, 22, yX6_isWithin, RX6), (RX1, 32, yX6_isWithin, RX6), (RX5, 103, yX6_isWithin, RX6), (RX2, 98, yX6_isWithin, RX6)]
def tS0 (j : Nat) : Int32 := ([(-99), 0, 0, 0, 0, 0, 0, 0, 0, 0, 0, 0, 0, 0, 0, 1, 0, 1] : List Int32).getD j 0
def tS1 (j : Nat) : Int32 := ([99, 3, 3, 3, 0, 7, 3, 0, 0, 0, 1, 3, 1, 3, 4, 9, 0, 9] : List Int32).getD j 0
def tS2 (j : Nat) : Int32 := ([0, 0, 0, 12, 12, 0, 1, 0, 0, 0, 0, 0, 0, 1, 9, 0, 0, 0] : List Int32).getD j 0
/-- the static tables of the class -/
def Stc (A : Nat → Prop) (s : State) : Prop := (∃ t : Nat, va_Z "MailDen" "LEAST_A" "[I" (.ref t) A s s.heap ∧ va_T .int t 18 (fun j => .int (tS0 j)) A s s.heap) ∧ (∃ t : Nat, va_Z "MailDen" "MOST_A" "[I" (.ref t) A s s.heap ∧ va_T .int t 18 (fun j => .int (tS1 j)) A s s.heap) ∧ (∃ t : Nat, va_Z "MailDen" "MOST_B" "[I" (.ref t) A s s.heap ∧ va_T .int t 18 (fun j => .int (tS2 j)) A s s.heap)
theorem Stc.on {A : Nat → Prop} {s U : State} {H : Heap} {locs : List Loc} (h : Stc A s) (hS : va_S A s.heap H locs) (hU : U.heap = H) (hW : s.vm.Alike U.vm) : Stc A U := by
  obtain ⟨⟨t0, a0, b0⟩, ⟨t1, a1, b1⟩, ⟨t2, a2, b2⟩⟩ := h
  subst hU
  exact ⟨⟨t0, (a0.kept hS.2.1).moved hW, (b0.kept hS.2.1).moved hW⟩, ⟨t1, (a1.kept hS.2.1).moved hW, (b1.kept hS.2.1).moved hW⟩, ⟨t2, (a2.kept hS.2.1).moved hW, (b2.kept hS.2.1).moved hW⟩⟩
def nestF : List (String × Nat × String × String × String × String) := [(RX1, 40, "MailDen", "LEAST_A", "[I", "MailDen"), (RX1, 43, "MailDen", "MOST_A", "[I", "MailDen"), (RX1, 46, "MailDen", "MOST_B", "[I", "MailDen")]
/-- what the tables say -/
def DEnv (D : va_G) (ad : Nat → Nat → Nat → Nat) (cI cZ cP : ClassId) (A : Nat → Prop) (s : State) : Prop := va_K D clM [(cI, .int), (cZ, .boolean), (cP, .object "MailDen$Proc")] s ∧ (∀ q ∈ nestL, va_Nw (.methodLinkNest q.1 q.2.1 q.2.2.1 q.2.2.2) s) ∧ Lay ad A ∧ Stc A s ∧ ∀ q ∈ nestF, va_Nw (.fieldLinkNest q.1 q.2.1 q.2.2.1 q.2.2.2.1 q.2.2.2.2.1 q.2.2.2.2.2) s
theorem DEnv.same {D : va_G} {ad : Nat → Nat → Nat → Nat} {cI cZ cP : ClassId} {A : Nat → Prop} {u U : State} (h : DEnv D ad cI cZ cP A u) (hv : u.vm = U.vm) (hh : u.heap = U.heap) : DEnv D ad cI cZ cP A U := ⟨va_K.moved (by rw [hv]; exact Vm.Alike.refl _) h.1, fun q hq => va_Nw.same rfl hv (h.2.1 q hq), h.2.2.1, h.2.2.2.1.on (H := U.heap) (locs := []) ⟨Nat.le_of_eq (by rw [hh]), fun _ _ _ => by rw [hh], fun _ h9 => by cases h9⟩ rfl (by rw [hv]; exact Vm.Alike.refl _), fun q hq => va_Nw.same rfl hv (h.2.2.2.2 q hq)⟩
theorem DEnv.warm {D : va_G} {ad : Nat → Nat → Nat → Nat} {cI cZ cP : ClassId} {A : Nat → Prop} {u U : State} {H : Heap} {locs : List Loc} (h : DEnv D ad cI cZ cP A u) (hW : u.WarmedH U.vm) (hS : va_S A u.heap H locs) (hU : U.heap = H) : DEnv D ad cI cZ cP A U := ⟨va_K.moved hW.alike h.1, fun q hq => va_Nw.warmM hW (h.2.1 q hq), h.2.2.1, h.2.2.2.1.on hS hU hW.alike, fun q hq => va_Nw.warmF hW (h.2.2.2.2 q hq)⟩
def st (V : Nat → Nat → Nat → Int32) (k i : Nat) (g : Nat → Int32) : Nat → Nat → Nat → Int32 := fun k' i' => if k' = k ∧ i' = i then g else V k' i'
/-- one number is written -/
def pt (V : Nat → Nat → Nat → Int32) (k i j : Nat) (x : Int32) : Nat → Nat → Nat → Int32 := st V k i (upd (V k i) j x)
/-- the first n numbers are copied -/
def ct (V : Nat → Nat → Nat → Int32) (k i : Nat) (f : Nat → Int32) (n : Nat) : Nat → Nat → Nat → Int32 := st V k i (va_cpy f (V k i) 0 0 n)
theorem wsA_at {ad : Nat → Nat → Nat → Nat} {e : Nat × Nat × Nat → va_E} {r : Nat × Nat × Nat} (h : r ∈ rl) : ∃ q : Nat, (wsA ad e)[q]? = some (ad r.1 r.2.1 r.2.2, e r) := by
  apply List.getElem?_of_mem
  exact List.mem_map.mpr ⟨r, h, rfl⟩
theorem wsA_set {ad : Nat → Nat → Nat → Nat} {A : Nat → Prop} (hL : Lay ad A) {e e' : Nat × Nat × Nat → va_E} {r : Nat × Nat × Nat} {q : Nat} (hr : r ∈ rl) (hq : (wsA ad e)[q]? = some (ad r.1 r.2.1 r.2.2, e r)) (h : ∀ r' ∈ rl, r' ≠ r → e' r' = e r') : (wsA ad e).set q (ad r.1 r.2.1 r.2.2, e' r) = wsA ad e' := by
  have hl := (List.getElem?_eq_some_iff.mp hq).1
  apply List.ext_getElem?
  intro j
  by_cases hj : j = q
  · subst hj
    rw [List.getElem?_set_self hl]
    have h1 : rl[j]? = some r := by
      obtain ⟨j2, hj2⟩ := List.getElem?_of_mem hr
      have h2 : (wsA ad e)[j2]? = some (ad r.1 r.2.1 r.2.2, e r) := by rw [wsA, List.getElem?_map, hj2]; rfl
      have := (hL e).1 j j2 _ _ hq h2 rfl
      rw [this]; exact hj2
    rw [wsA, List.getElem?_map, h1]; rfl
  · rw [List.getElem?_set_ne (Ne.symm hj)]
    rw [wsA, wsA, List.getElem?_map, List.getElem?_map]
    cases hb : rl[j]? with
    | none => rfl
    | some r' =>
      have hne : r' ≠ r := fun hh => by
        subst hh
        have h2 : (wsA ad e)[j]? = some (ad r'.1 r'.2.1 r'.2.2, e r') := by rw [wsA, List.getElem?_map, hb]; rfl
        exact hj ((hL e).1 j q _ _ h2 hq rfl)
      show some (ad r'.1 r'.2.1 r'.2.2, e r') = some (ad r'.1 r'.2.1 r'.2.2, e' r')
      rw [h r' (List.mem_of_getElem? hb) hne]
theorem Lay.ne {ad : Nat → Nat → Nat → Nat} {A : Nat → Prop} (hL : Lay ad A) {w k i w' k' i' : Nat} (h : vld w k i) (h' : vld w' k' i') (e : ad w k i = ad w' k' i') : (w, k, i) = (w', k', i') := by
  obtain ⟨j1, h1⟩ := List.getElem?_of_mem (rl_in h)
  obtain ⟨j2, h2⟩ := List.getElem?_of_mem (rl_in h')
  have e0 : Nat × Nat × Nat → va_E := fun _ => .inr (0, [])
  have g1 : (wsA ad e0)[j1]? = some (ad w k i, e0 (w, k, i)) := by rw [wsA, List.getElem?_map, h1]; rfl
  have g2 : (wsA ad e0)[j2]? = some (ad w' k' i', e0 (w', k', i')) := by rw [wsA, List.getElem?_map, h2]; rfl
  have := (hL e0).1 j1 j2 _ _ g1 g2 e
  subst this
  rw [h1] at h2
  exact Option.some.inj h2
theorem Lay.inA {ad : Nat → Nat → Nat → Nat} {A : Nat → Prop} (hL : Lay ad A) {w k i : Nat} (h : vld w k i) : A (ad w k i) := by
  obtain ⟨q, hq⟩ := wsA_at (ad := ad) (e := fun _ => .inr (0, [])) (rl_in h)
  exact (hL _).2 q _ hq
theorem Mm_V {w k i : Nat} {G V U : Nat → Nat → Nat → Int32} (hk : k < 16) : Mm w G V U (w, k, i) = V k i := by
  unfold Mm; rw [if_neg (by show ¬ 16 ≤ k; omega), if_pos rfl]
theorem Mm_G {w w' k i : Nat} {G V U : Nat → Nat → Nat → Int32} (hk : 16 ≤ k) : Mm w G V U (w', k, i) = G k i := by
  unfold Mm; rw [if_pos hk]
theorem Mm_st {w k i : Nat} {G V U : Nat → Nat → Nat → Int32} {g : Nat → Int32} (hk : k < 16) (r : Nat × Nat × Nat) (hne : r ≠ (w, k, i)) : Mm w G (st V k i g) U r = Mm w G V U r := by
  obtain ⟨a, b, c⟩ := r
  unfold Mm st
  show (if 16 ≤ b then G b c else if a = w then (if b = k ∧ c = i then g else V b c) else U b c) = (if 16 ≤ b then G b c else if a = w then V b c else U b c)
  by_cases h1 : 16 ≤ b
  · rw [if_pos h1, if_pos h1]
  · rw [if_neg h1, if_neg h1]
    by_cases h2 : a = w
    · rw [if_pos h2, if_pos h2, if_neg]
      rintro ⟨rfl, rfl⟩
      exact hne (by rw [h2])
    · rw [if_neg h2, if_neg h2]
theorem Mm_stG {w w' k i : Nat} {G V U : Nat → Nat → Nat → Int32} {g : Nat → Int32} (hk : 16 ≤ k) (r : Nat × Nat × Nat) (hr : r ∈ rl) (hv : vld w' k i) (hne : r ≠ (w', k, i)) : Mm w (st G k i g) V U r = Mm w G V U r := by
  obtain ⟨a, b, c⟩ := r
  unfold Mm st
  show (if 16 ≤ b then (if b = k ∧ c = i then g else G b c) else if a = w then V b c else U b c) = (if 16 ≤ b then G b c else if a = w then V b c else U b c)
  by_cases h1 : 16 ≤ b
  · rw [if_pos h1, if_pos h1, if_neg]
    rintro ⟨rfl, rfl⟩
    have q1 := rl_of hr
    rcases q1 with ⟨q, -⟩ | ⟨-, -, q, -⟩
    · omega
    · rcases hv with ⟨p, -⟩ | ⟨-, -, p, -⟩
      · omega
      · exact hne (by rw [q, p])
  · rw [if_neg h1, if_neg h1]
theorem st_same {V : Nat → Nat → Nat → Int32} {k i : Nat} {g : Nat → Int32} : st V k i g k i = g := by unfold st; rw [if_pos ⟨rfl, rfl⟩]
theorem Pic.swap {D : va_G} {ad : Nat → Nat → Nat → Nat} {cI cZ cP : ClassId} {w w' : Nat} {G V U : Nat → Nat → Nat → Int32} {H : Heap} (h : Pic D ad cI cZ cP w G V U H) (hw : w + w' = 1) : Pic D ad cI cZ cP w' G U V H := by
  have e : wsA ad (oe ad cI cZ cP (Mm w G V U)) = wsA ad (oe ad cI cZ cP (Mm w' G U V)) := by
    unfold wsA
    apply List.map_congr_left
    intro r hr
    obtain ⟨a, b, c⟩ := r
    have hv := rl_of hr
    have : Mm w G V U (a, b, c) = Mm w' G U V (a, b, c) := by
      unfold Mm
      show (if 16 ≤ b then G b c else if a = w then V b c else U b c) = (if 16 ≤ b then G b c else if a = w' then U b c else V b c)
      by_cases h1 : 16 ≤ b
      · rw [if_pos h1, if_pos h1]
      · rw [if_neg h1, if_neg h1]
        have ha : a < 2 := by
          rcases hv with ⟨-, q, -⟩ | ⟨q, -⟩
          · exact q
          · omega
        by_cases h2 : a = w
        · rw [if_pos h2, if_neg (by omega)]
        · rw [if_neg h2, if_pos (by omega)]
    show (_, ob ad cI cZ cP a b c (Mm w G V U (a, b, c))) = (_, ob ad cI cZ cP a b c (Mm w' G U V (a, b, c)))
    rw [this]
  unfold Pic at h ⊢
  rw [← e]
  exact h
theorem Pic.at {D : va_G} {ad : Nat → Nat → Nat → Nat} {cI cZ cP : ClassId} {w k i : Nat} {G V U : Nat → Nat → Nat → Int32} {H : Heap} (h : Pic D ad cI cZ cP w G V U H) (hw : w < 2) (hk : k < 16) (hi : i < cnt k) : va_at D clM (ad w k i, ob ad cI cZ cP w k i (V k i)) H := by
  obtain ⟨q, hq⟩ := wsA_at (ad := ad) (e := oe ad cI cZ cP (Mm w G V U)) (rl_in (Or.inl ⟨hk, hw, hi⟩))
  have := h q _ hq
  unfold oe at this
  rw [show Mm w G V U (w, k, i) = V k i from Mm_V hk] at this
  exact this
theorem Pic.atG {D : va_G} {ad : Nat → Nat → Nat → Nat} {cI cZ cP : ClassId} {w k : Nat} {G V U : Nat → Nat → Nat → Int32} {H : Heap} (h : Pic D ad cI cZ cP w G V U H) (hk : 16 ≤ k) (hk2 : k < 30) : va_at D clM (ad 2 k 0, ob ad cI cZ cP 2 k 0 (G k 0)) H := by
  obtain ⟨q, hq⟩ := wsA_at (ad := ad) (e := oe ad cI cZ cP (Mm w G V U)) (rl_in (w := 2) (Or.inr ⟨hk, hk2, rfl, rfl⟩))
  have := h q _ hq
  unfold oe at this
  rw [show Mm w G V U (2, k, 0) = G k 0 from Mm_G hk] at this
  exact this
theorem va_P.one {D : va_G} {cl : List vw_C} {q : Nat × va_E} {H : Heap} (h : va_at D cl q H) : va_P D cl [q] H := fun k p hp => by
  cases k with
  | zero => cases hp; exact h
  | succ k => simp at hp
/-- a thing is written -/
theorem Pic.set {D : va_G} {ad : Nat → Nat → Nat → Nat} {cI cZ cP : ClassId} {A : Nat → Prop} (hL : Lay ad A) {w k i q : Nat} {G V U : Nat → Nat → Nat → Int32} {H1 : Heap} {g : Nat → Int32} (hw : w < 2) (hk : k < 16) (hi : i < cnt k)
    (hq : (wsA ad (oe ad cI cZ cP (Mm w G V U)))[q]? = some (ad w k i, ob ad cI cZ cP w k i (V k i))) (h : va_P D clM ((wsA ad (oe ad cI cZ cP (Mm w G V U))).set q (ad w k i, ob ad cI cZ cP w k i g)) H1) : Pic D ad cI cZ cP w G (st V k i g) U H1 := by
  have hr := rl_in (Or.inl ⟨hk, hw, hi⟩ : vld w k i)
  have hq' : (wsA ad (oe ad cI cZ cP (Mm w G V U)))[q]? = some (ad w k i, oe ad cI cZ cP (Mm w G V U) (w, k, i)) := by
    rw [hq]; unfold oe; rw [show Mm w G V U (w, k, i) = V k i from Mm_V hk]
  have e := wsA_set hL (e' := oe ad cI cZ cP (Mm w G (st V k i g) U)) (r := (w, k, i)) hr hq' (fun r' _ hne => by unfold oe; rw [Mm_st hk r' hne])
  have e2 : oe ad cI cZ cP (Mm w G (st V k i g) U) (w, k, i) = ob ad cI cZ cP w k i g := by
    unfold oe; rw [show Mm w G (st V k i g) U (w, k, i) = st V k i g k i from Mm_V hk, st_same]
  rw [e2] at e
  unfold Pic
  rw [← e]
  exact h
theorem Pic.setG {D : va_G} {ad : Nat → Nat → Nat → Nat} {cI cZ cP : ClassId} {A : Nat → Prop} (hL : Lay ad A) {w k q : Nat} {G V U : Nat → Nat → Nat → Int32} {H1 : Heap} {g : Nat → Int32} (hk : 16 ≤ k) (hk2 : k < 30)
    (hq : (wsA ad (oe ad cI cZ cP (Mm w G V U)))[q]? = some (ad 2 k 0, ob ad cI cZ cP 2 k 0 (G k 0))) (h : va_P D clM ((wsA ad (oe ad cI cZ cP (Mm w G V U))).set q (ad 2 k 0, ob ad cI cZ cP 2 k 0 g)) H1) : Pic D ad cI cZ cP w (st G k 0 g) V U H1 := by
  have hv : vld 2 k 0 := Or.inr ⟨hk, hk2, rfl, rfl⟩
  have hr := rl_in hv
  have hq' : (wsA ad (oe ad cI cZ cP (Mm w G V U)))[q]? = some (ad 2 k 0, oe ad cI cZ cP (Mm w G V U) (2, k, 0)) := by
    rw [hq]; unfold oe; rw [show Mm w G V U (2, k, 0) = G k 0 from Mm_G hk]
  have e := wsA_set hL (e' := oe ad cI cZ cP (Mm w (st G k 0 g) V U)) (r := (2, k, 0)) hr hq' (fun r' hr' hne => by unfold oe; rw [Mm_stG hk r' hr' hv hne])
  have e2 : oe ad cI cZ cP (Mm w (st G k 0 g) V U) (2, k, 0) = ob ad cI cZ cP 2 k 0 g := by
    unfold oe; rw [show Mm w (st G k 0 g) V U (2, k, 0) = st G k 0 g k 0 from Mm_G hk, st_same]
  rw [e2] at e
  unfold Pic
  rw [← e]
  exact h
theorem Pic.spot {ad : Nat → Nat → Nat → Nat} {cI cZ cP : ClassId} {w k i : Nat} {G V U : Nat → Nat → Nat → Int32} (hw : w < 2) (hk : k < 16) (hi : i < cnt k) : ∃ q : Nat, (wsA ad (oe ad cI cZ cP (Mm w G V U)))[q]? = some (ad w k i, ob ad cI cZ cP w k i (V k i)) := by
  obtain ⟨q, hq⟩ := wsA_at (ad := ad) (e := oe ad cI cZ cP (Mm w G V U)) (rl_in (Or.inl ⟨hk, hw, hi⟩))
  unfold oe at hq
  rw [show Mm w G V U (w, k, i) = V k i from Mm_V hk] at hq
  exact ⟨q, hq⟩
theorem Pic.spotG {ad : Nat → Nat → Nat → Nat} {cI cZ cP : ClassId} {w k : Nat} {G V U : Nat → Nat → Nat → Int32} (hk : 16 ≤ k) (hk2 : k < 30) : ∃ q : Nat, (wsA ad (oe ad cI cZ cP (Mm w G V U)))[q]? = some (ad 2 k 0, ob ad cI cZ cP 2 k 0 (G k 0)) := by
  obtain ⟨q, hq⟩ := wsA_at (ad := ad) (e := oe ad cI cZ cP (Mm w G V U)) (rl_in (w := 2) (Or.inr ⟨hk, hk2, rfl, rfl⟩))
  unfold oe at hq
  rw [show Mm w G V U (2, k, 0) = G k 0 from Mm_G hk] at hq
  exact ⟨q, hq⟩

