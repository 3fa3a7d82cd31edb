/-! the law's own instructions; rows for them -/
theorem dW_0 : decode code 0 = .ok (.new 9, 3) := by decide +kernel
theorem dW_3 : decode code 3 = .ok (.dup, 1) := by decide +kernel
theorem dW_4 : decode code 4 = .ok (.invokespecial 11, 3) := by decide +kernel
theorem dW_7 : decode code 7 = .ok (.astore_n 1, 1) := by decide +kernel
theorem dW_8 : decode code 8 = .ok (.iconst 1, 1) := by decide +kernel
theorem dW_9 : decode code 9 = .ok (.aload_n 0, 1) := by decide +kernel
theorem dW_10 : decode code 10 = .ok (.iconst 0, 1) := by decide +kernel
theorem dW_11 : decode code 11 = .ok (.invokestatic 12, 3) := by decide +kernel
theorem dW_14 : decode code 14 = .ok (.iconst 3, 1) := by decide +kernel
theorem dW_15 : decode code 15 = .ok (.invokestatic 18, 3) := by decide +kernel
theorem dW_18 : decode code 18 = .ok (.iadd, 1) := by decide +kernel
theorem dW_19 : decode code 19 = .ok (.istore_n 2, 1) := by decide +kernel
theorem dW_20 : decode code 20 = .ok (.iconst 0, 1) := by decide +kernel
theorem dW_21 : decode code 21 = .ok (.istore_n 3, 1) := by decide +kernel
theorem dW_22 : decode code 22 = .ok (.iload_n 3, 1) := by decide +kernel
theorem dW_23 : decode code 23 = .ok (.iload_n 2, 1) := by decide +kernel
theorem dW_24 : decode code 24 = .ok (.if_icmp .ge 29, 3) := by decide +kernel
theorem dW_27 : decode code 27 = .ok (.aload_n 1, 1) := by decide +kernel
theorem dW_28 : decode code 28 = .ok (.invokevirtual 22, 3) := by decide +kernel
theorem dW_31 : decode code 31 = .ok (.iload_n 3, 1) := by decide +kernel
theorem dW_32 : decode code 32 = .ok (.if_icmp .ne 13, 3) := by decide +kernel
theorem dW_35 : decode code 35 = .ok (.aload_n 1, 1) := by decide +kernel
theorem dW_36 : decode code 36 = .ok (.aload_n 0, 1) := by decide +kernel
theorem dW_37 : decode code 37 = .ok (.iload_n 3, 1) := by decide +kernel
theorem dW_38 : decode code 38 = .ok (.iload_n 2, 1) := by decide +kernel
theorem dW_39 : decode code 39 = .ok (.invokestatic 26, 3) := by decide +kernel
theorem dW_42 : decode code 42 = .ok (.ifCond .ne 5, 3) := by decide +kernel
theorem dW_45 : decode code 45 = .ok (.iconst 0, 1) := by decide +kernel
theorem dW_46 : decode code 46 = .ok (.ireturn, 1) := by decide +kernel
theorem dW_47 : decode code 47 = .ok (.iinc 3 1, 3) := by decide +kernel
theorem dW_50 : decode code 50 = .ok (.goto (-28), 3) := by decide +kernel
theorem dW_53 : decode code 53 = .ok (.iconst 0, 1) := by decide +kernel
theorem dW_54 : decode code 54 = .ok (.istore_n 3, 1) := by decide +kernel
theorem dW_55 : decode code 55 = .ok (.iload_n 3, 1) := by decide +kernel
theorem dW_56 : decode code 56 = .ok (.iconst 2, 1) := by decide +kernel
theorem dW_57 : decode code 57 = .ok (.if_icmp .ge 153, 3) := by decide +kernel
theorem dW_60 : decode code 60 = .ok (.aload_n 1, 1) := by decide +kernel
theorem dW_61 : decode code 61 = .ok (.aload_n 0, 1) := by decide +kernel
theorem dW_62 : decode code 62 = .ok (.iload_n 3, 1) := by decide +kernel
theorem dW_63 : decode code 63 = .ok (.iconst 1, 1) := by decide +kernel
theorem dW_64 : decode code 64 = .ok (.iadd, 1) := by decide +kernel
theorem dW_65 : decode code 65 = .ok (.invokestatic 12, 3) := by decide +kernel
theorem dW_68 : decode code 68 = .ok (.iconst 3, 1) := by decide +kernel
theorem dW_69 : decode code 69 = .ok (.invokestatic 18, 3) := by decide +kernel
theorem dW_72 : decode code 72 = .ok (.aload_n 0, 1) := by decide +kernel
theorem dW_73 : decode code 73 = .ok (.iload_n 3, 1) := by decide +kernel
theorem dW_74 : decode code 74 = .ok (.iconst 2, 1) := by decide +kernel
theorem dW_75 : decode code 75 = .ok (.iadd, 1) := by decide +kernel
theorem dW_76 : decode code 76 = .ok (.invokestatic 12, 3) := by decide +kernel
theorem dW_79 : decode code 79 = .ok (.iconst 4, 1) := by decide +kernel
theorem dW_80 : decode code 80 = .ok (.invokestatic 18, 3) := by decide +kernel
theorem dW_83 : decode code 83 = .ok (.iconst 1, 1) := by decide +kernel
theorem dW_84 : decode code 84 = .ok (.aload_n 0, 1) := by decide +kernel
theorem dW_85 : decode code 85 = .ok (.iload_n 3, 1) := by decide +kernel
theorem dW_86 : decode code 86 = .ok (.iconst 3, 1) := by decide +kernel
theorem dW_87 : decode code 87 = .ok (.iadd, 1) := by decide +kernel
theorem dW_88 : decode code 88 = .ok (.invokestatic 12, 3) := by decide +kernel
theorem dW_91 : decode code 91 = .ok (.bipush 9, 2) := by decide +kernel
theorem dW_93 : decode code 93 = .ok (.invokestatic 18, 3) := by decide +kernel
theorem dW_96 : decode code 96 = .ok (.iadd, 1) := by decide +kernel
theorem dW_97 : decode code 97 = .ok (.invokevirtual 30, 3) := by decide +kernel
theorem dW_100 : decode code 100 = .ok (.iload_n 3, 1) := by decide +kernel
theorem dW_101 : decode code 101 = .ok (.if_icmp .eq 5, 3) := by decide +kernel
theorem dW_104 : decode code 104 = .ok (.iconst 0, 1) := by decide +kernel
theorem dW_105 : decode code 105 = .ok (.ireturn, 1) := by decide +kernel
theorem dW_106 : decode code 106 = .ok (.iconst 0, 1) := by decide +kernel
theorem dW_107 : decode code 107 = .ok (.istore 4, 2) := by decide +kernel
theorem dW_109 : decode code 109 = .ok (.iload 4, 2) := by decide +kernel
theorem dW_111 : decode code 111 = .ok (.iconst 1, 1) := by decide +kernel
theorem dW_112 : decode code 112 = .ok (.aload_n 0, 1) := by decide +kernel
theorem dW_113 : decode code 113 = .ok (.iload_n 3, 1) := by decide +kernel
theorem dW_114 : decode code 114 = .ok (.iconst 4, 1) := by decide +kernel
theorem dW_115 : decode code 115 = .ok (.iadd, 1) := by decide +kernel
theorem dW_116 : decode code 116 = .ok (.invokestatic 12, 3) := by decide +kernel
theorem dW_119 : decode code 119 = .ok (.iconst 3, 1) := by decide +kernel
theorem dW_120 : decode code 120 = .ok (.invokestatic 18, 3) := by decide +kernel
theorem dW_123 : decode code 123 = .ok (.iadd, 1) := by decide +kernel
theorem dW_124 : decode code 124 = .ok (.if_icmp .ge 80, 3) := by decide +kernel
theorem dW_127 : decode code 127 = .ok (.aload_n 1, 1) := by decide +kernel
theorem dW_128 : decode code 128 = .ok (.iload_n 3, 1) := by decide +kernel
theorem dW_129 : decode code 129 = .ok (.iload_n 3, 1) := by decide +kernel
theorem dW_130 : decode code 130 = .ok (.iconst 1, 1) := by decide +kernel
theorem dW_131 : decode code 131 = .ok (.if_icmp .ne 13, 3) := by decide +kernel
theorem dW_134 : decode code 134 = .ok (.iload 4, 2) := by decide +kernel
theorem dW_136 : decode code 136 = .ok (.iconst 1, 1) := by decide +kernel
theorem dW_137 : decode code 137 = .ok (.if_icmp .ne 7, 3) := by decide +kernel
theorem dW_140 : decode code 140 = .ok (.iconst 1, 1) := by decide +kernel
theorem dW_141 : decode code 141 = .ok (.goto 4, 3) := by decide +kernel
theorem dW_144 : decode code 144 = .ok (.iconst 0, 1) := by decide +kernel
theorem dW_145 : decode code 145 = .ok (.iload_n 3, 1) := by decide +kernel
theorem dW_146 : decode code 146 = .ok (.iconst 1, 1) := by decide +kernel
theorem dW_147 : decode code 147 = .ok (.if_icmp .ne 13, 3) := by decide +kernel
theorem dW_150 : decode code 150 = .ok (.iload 4, 2) := by decide +kernel
theorem dW_152 : decode code 152 = .ok (.iconst 1, 1) := by decide +kernel
theorem dW_153 : decode code 153 = .ok (.if_icmp .ne 7, 3) := by decide +kernel
theorem dW_156 : decode code 156 = .ok (.iconst 0, 1) := by decide +kernel
theorem dW_157 : decode code 157 = .ok (.goto 15, 3) := by decide +kernel
theorem dW_160 : decode code 160 = .ok (.aload_n 0, 1) := by decide +kernel
theorem dW_161 : decode code 161 = .ok (.iload 4, 2) := by decide +kernel
theorem dW_163 : decode code 163 = .ok (.iload_n 3, 1) := by decide +kernel
theorem dW_164 : decode code 164 = .ok (.iadd, 1) := by decide +kernel
theorem dW_165 : decode code 165 = .ok (.invokestatic 12, 3) := by decide +kernel
theorem dW_168 : decode code 168 = .ok (.iload_n 2, 1) := by decide +kernel
theorem dW_169 : decode code 169 = .ok (.invokestatic 18, 3) := by decide +kernel
theorem dW_172 : decode code 172 = .ok (.aload_n 0, 1) := by decide +kernel
theorem dW_173 : decode code 173 = .ok (.iload 4, 2) := by decide +kernel
theorem dW_175 : decode code 175 = .ok (.iload_n 3, 1) := by decide +kernel
theorem dW_176 : decode code 176 = .ok (.iadd, 1) := by decide +kernel
theorem dW_177 : decode code 177 = .ok (.iconst 5, 1) := by decide +kernel
theorem dW_178 : decode code 178 = .ok (.iadd, 1) := by decide +kernel
theorem dW_179 : decode code 179 = .ok (.invokestatic 12, 3) := by decide +kernel
theorem dW_182 : decode code 182 = .ok (.iconst 3, 1) := by decide +kernel
theorem dW_183 : decode code 183 = .ok (.ishr, 1) := by decide +kernel
theorem dW_184 : decode code 184 = .ok (.iconst 3, 1) := by decide +kernel
theorem dW_185 : decode code 185 = .ok (.invokestatic 18, 3) := by decide +kernel
theorem dW_188 : decode code 188 = .ok (.invokevirtual 34, 3) := by decide +kernel
theorem dW_191 : decode code 191 = .ok (.iload 4, 2) := by decide +kernel
theorem dW_193 : decode code 193 = .ok (.if_icmp .eq 5, 3) := by decide +kernel
theorem dW_196 : decode code 196 = .ok (.iconst 0, 1) := by decide +kernel
theorem dW_197 : decode code 197 = .ok (.ireturn, 1) := by decide +kernel
theorem dW_198 : decode code 198 = .ok (.iinc 4 1, 3) := by decide +kernel
theorem dW_201 : decode code 201 = .ok (.goto (-92), 3) := by decide +kernel
theorem dW_204 : decode code 204 = .ok (.iinc 3 1, 3) := by decide +kernel
theorem dW_207 : decode code 207 = .ok (.goto (-152), 3) := by decide +kernel
theorem dW_210 : decode code 210 = .ok (.aload_n 1, 1) := by decide +kernel
theorem dW_211 : decode code 211 = .ok (.iconst 0, 1) := by decide +kernel
theorem dW_212 : decode code 212 = .ok (.invokevirtual 38, 3) := by decide +kernel
theorem dW_215 : decode code 215 = .ok (.ifCond .eq 5, 3) := by decide +kernel
theorem dW_218 : decode code 218 = .ok (.iconst 0, 1) := by decide +kernel
theorem dW_219 : decode code 219 = .ok (.ireturn, 1) := by decide +kernel
theorem dW_220 : decode code 220 = .ok (.bipush 24, 2) := by decide +kernel
theorem dW_222 : decode code 222 = .ok (.newarray .int, 2) := by decide +kernel
theorem dW_224 : decode code 224 = .ok (.astore_n 3, 1) := by decide +kernel
theorem dW_225 : decode code 225 = .ok (.iconst 0, 1) := by decide +kernel
theorem dW_226 : decode code 226 = .ok (.istore 4, 2) := by decide +kernel
theorem dW_228 : decode code 228 = .ok (.iload 4, 2) := by decide +kernel
theorem dW_230 : decode code 230 = .ok (.bipush 24, 2) := by decide +kernel
theorem dW_232 : decode code 232 = .ok (.if_icmp .ge 14, 3) := by decide +kernel
theorem dW_235 : decode code 235 = .ok (.aload_n 3, 1) := by decide +kernel
theorem dW_236 : decode code 236 = .ok (.iload 4, 2) := by decide +kernel
theorem dW_238 : decode code 238 = .ok (.iconst (-1), 1) := by decide +kernel
theorem dW_239 : decode code 239 = .ok (.iastore, 1) := by decide +kernel
theorem dW_240 : decode code 240 = .ok (.iinc 4 1, 3) := by decide +kernel
theorem dW_243 : decode code 243 = .ok (.goto (-15), 3) := by decide +kernel
theorem dW_246 : decode code 246 = .ok (.iconst 0, 1) := by decide +kernel
theorem dW_247 : decode code 247 = .ok (.istore 4, 2) := by decide +kernel
theorem dW_249 : decode code 249 = .ok (.iload 4, 2) := by decide +kernel
theorem dW_251 : decode code 251 = .ok (.bipush 22, 2) := by decide +kernel
theorem dW_253 : decode code 253 = .ok (.if_icmp .ge 61, 3) := by decide +kernel
theorem dW_256 : decode code 256 = .ok (.aload_n 1, 1) := by decide +kernel
theorem dW_257 : decode code 257 = .ok (.aload_n 0, 1) := by decide +kernel
theorem dW_258 : decode code 258 = .ok (.aload_n 0, 1) := by decide +kernel
theorem dW_259 : decode code 259 = .ok (.iload 4, 2) := by decide +kernel
theorem dW_261 : decode code 261 = .ok (.bipush 16, 2) := by decide +kernel
theorem dW_263 : decode code 263 = .ok (.irem, 1) := by decide +kernel
theorem dW_264 : decode code 264 = .ok (.invokestatic 12, 3) := by decide +kernel
theorem dW_267 : decode code 267 = .ok (.bipush 13, 2) := by decide +kernel
theorem dW_269 : decode code 269 = .ok (.iload 4, 2) := by decide +kernel
theorem dW_271 : decode code 271 = .ok (.imul, 1) := by decide +kernel
theorem dW_272 : decode code 272 = .ok (.iadd, 1) := by decide +kernel
theorem dW_273 : decode code 273 = .ok (.aload_n 0, 1) := by decide +kernel
theorem dW_274 : decode code 274 = .ok (.iconst 3, 1) := by decide +kernel
theorem dW_275 : decode code 275 = .ok (.iload 4, 2) := by decide +kernel
theorem dW_277 : decode code 277 = .ok (.imul, 1) := by decide +kernel
theorem dW_278 : decode code 278 = .ok (.iconst 1, 1) := by decide +kernel
theorem dW_279 : decode code 279 = .ok (.iadd, 1) := by decide +kernel
theorem dW_280 : decode code 280 = .ok (.bipush 16, 2) := by decide +kernel
theorem dW_282 : decode code 282 = .ok (.irem, 1) := by decide +kernel
theorem dW_283 : decode code 283 = .ok (.invokestatic 12, 3) := by decide +kernel
theorem dW_286 : decode code 286 = .ok (.iload 4, 2) := by decide +kernel
theorem dW_288 : decode code 288 = .ok (.iadd, 1) := by decide +kernel
theorem dW_289 : decode code 289 = .ok (.iload_n 2, 1) := by decide +kernel
theorem dW_290 : decode code 290 = .ok (.invokestatic 42, 3) := by decide +kernel
theorem dW_293 : decode code 293 = .ok (.ifCond .ne 5, 3) := by decide +kernel
theorem dW_296 : decode code 296 = .ok (.iconst 0, 1) := by decide +kernel
theorem dW_297 : decode code 297 = .ok (.ireturn, 1) := by decide +kernel
theorem dW_298 : decode code 298 = .ok (.aload_n 1, 1) := by decide +kernel
theorem dW_299 : decode code 299 = .ok (.aload_n 3, 1) := by decide +kernel
theorem dW_300 : decode code 300 = .ok (.invokestatic 46, 3) := by decide +kernel
theorem dW_303 : decode code 303 = .ok (.ifCond .ne 5, 3) := by decide +kernel
theorem dW_306 : decode code 306 = .ok (.iconst 0, 1) := by decide +kernel
theorem dW_307 : decode code 307 = .ok (.ireturn, 1) := by decide +kernel
theorem dW_308 : decode code 308 = .ok (.iinc 4 1, 3) := by decide +kernel
theorem dW_311 : decode code 311 = .ok (.goto (-62), 3) := by decide +kernel
theorem dW_314 : decode code 314 = .ok (.aload_n 1, 1) := by decide +kernel
theorem dW_315 : decode code 315 = .ok (.invokevirtual 50, 3) := by decide +kernel
theorem dW_318 : decode code 318 = .ok (.lstore 4, 2) := by decide +kernel
theorem dW_320 : decode code 320 = .ok (.aload_n 1, 1) := by decide +kernel
theorem dW_321 : decode code 321 = .ok (.iconst 2, 1) := by decide +kernel
theorem dW_322 : decode code 322 = .ok (.bipush 9, 2) := by decide +kernel
theorem dW_324 : decode code 324 = .ok (.invokevirtual 54, 3) := by decide +kernel
theorem dW_327 : decode code 327 = .ok (.aload_n 1, 1) := by decide +kernel
theorem dW_328 : decode code 328 = .ok (.iconst 5, 1) := by decide +kernel
theorem dW_329 : decode code 329 = .ok (.invokevirtual 57, 3) := by decide +kernel
theorem dW_332 : decode code 332 = .ok (.if_icmp .lt 14, 3) := by decide +kernel
theorem dW_335 : decode code 335 = .ok (.aload_n 1, 1) := by decide +kernel
theorem dW_336 : decode code 336 = .ok (.iconst 0, 1) := by decide +kernel
theorem dW_337 : decode code 337 = .ok (.iconst 4, 1) := by decide +kernel
theorem dW_338 : decode code 338 = .ok (.invokevirtual 60, 3) := by decide +kernel
theorem dW_341 : decode code 341 = .ok (.bipush 7, 2) := by decide +kernel
theorem dW_343 : decode code 343 = .ok (.if_icmp .le 5, 3) := by decide +kernel
theorem dW_346 : decode code 346 = .ok (.iconst 0, 1) := by decide +kernel
theorem dW_347 : decode code 347 = .ok (.ireturn, 1) := by decide +kernel
theorem dW_348 : decode code 348 = .ok (.aload_n 1, 1) := by decide +kernel
theorem dW_349 : decode code 349 = .ok (.invokevirtual 50, 3) := by decide +kernel
theorem dW_352 : decode code 352 = .ok (.lload 4, 2) := by decide +kernel
theorem dW_354 : decode code 354 = .ok (.lcmp, 1) := by decide +kernel
theorem dW_355 : decode code 355 = .ok (.ifCond .ne 7, 3) := by decide +kernel
theorem dW_358 : decode code 358 = .ok (.iconst 1, 1) := by decide +kernel
theorem dW_359 : decode code 359 = .ok (.goto 4, 3) := by decide +kernel
theorem dW_362 : decode code 362 = .ok (.iconst 0, 1) := by decide +kernel
theorem dW_363 : decode code 363 = .ok (.ireturn, 1) := by decide +kernel
def lawB (s : State) : Nat → Prop := fun q => s.heap.size ≤ q
/-- what the law stands on: the den's things lie in A, below nz -/
def lawY (p : Program) (s : State) (m : MethodId) (meth : Method) (c : Code) (D : va_G) (ad : Nat → Nat → Nat → Nat) (cI cZ cP : ClassId) (A : Nat → Prop) (b L : Nat) (xs : Nat → Int32) (nz : Nat) : Prop := MX p s m #[Value.ref b] meth c code RL 6 ret D ad cI cZ cP (lawB s) ∧ Lay ad A ∧ (∀ q, A q → lawB s q) ∧ (∀ q, A q → q < nz) ∧ AOI s ∧ va_X b L xs s s.heap ∧ b < s.heap.size ∧ L < 2 ^ 31
/-- the den as it is now -/
def lawS (s : State) (D : va_G) (ad : Nat → Nat → Nat → Nat) (cI cZ cP : ClassId) (nz : Nat) (G V U : MT) (H : Heap) (locs : List Loc) : Prop := Pic D ad cI cZ cP 0 G V U H ∧ va_S (lawB s) s.heap H locs ∧ nz ≤ H.size
section
variable {p : Program} {l : Launch} {e : Env} {R : Room} {s : State} {m : MethodId} {below : List Frame} {meth : Method} {c : Code} {H : Heap} {locs : List Loc} {cells slots : Nat} {Q : State → Prop}
variable {pc : Nat} {ls : Array Slot} {rest st0 : List Value} {D : va_G} {ad : Nat → Nat → Nat → Nat} {cI cZ cP : ClassId} {A : Nat → Prop} {b L nz : Nat} {xs : Nat → Int32} {G V U : MT} {index : Nat}
theorem lawY.X (Y : lawY p s m meth c D ad cI cZ cP A b L xs nz) (hS : va_S (lawB s) s.heap H locs) : va_X b L xs s H := Y.2.2.2.2.2.1.kept (hS.2.1 b Y.2.2.2.2.2.2.1 (fun z => by have h := Y.2.2.2.2.2.2.1; have z : s.heap.size ≤ b := z; omega))
theorem lawS.keep (Y : lawY p s m meth c D ad cI cZ cP A b L xs nz) {H1 : Heap} {locs1 : List Loc} (h : lawS s D ad cI cZ cP nz G V U H locs) (hk : ∀ q, q < nz → H1[q]? = H[q]?) (hz : H.size ≤ H1.size) (hS : va_S (lawB s) s.heap H1 locs1) : lawS s D ad cI cZ cP nz G V U H1 locs1 := ⟨h.1.keep Y.2.1 (fun q _ hq => hk q (Y.2.2.2.1 q hq)), hS, Nat.le_trans h.2.2 hz⟩
theorem ln_cell (Y : lawY p s m meth c D ad cI cZ cP A b L xs nz) (h : lawS s D ad cI cZ cP nz G V U H locs) {k : Nat} (hk : k < 2 ^ 31) (hR : 1 ≤ R.frames ∧ 21 ≤ R.locals) (hcs : cells ≤ R.cells ∧ slots ≤ R.slots) (hl : ls.size = 6) (hrest : (rest.map fun v => v.category).sum ≤ 8) (hdg : decode code pc = .ok (.invokestatic 12, 3)) (kk : ∀ (r : Int32) (H1 : Heap) (locs1 : List Loc), lawS s D ad cI cZ cP nz G V U H1 locs1 → (∀ q, q < H.size → H1[q]? = H[q]?) → H.size ≤ H1.size → W p l e R s m #[Value.ref b] below meth c H1 locs1 cells slots Q (F0 m (pc + 3) ls (.int r :: rest))) : W p l e R s m #[Value.ref b] below meth c H locs cells slots Q (F0 m pc ls (.int (nI k) :: .ref b :: rest)) := by
  obtain ⟨hx, hb, hml, hown, htm, hr, hlk, hE⟩ := Y.1
  exact n_cell hx hb hml hown htm h.2.1 (Y.X h.2.1) Y.2.2.2.2.2.2.2 hk hR hcs hl hrest hdg (fun r H1 locs1 hk1 hz1 hS => kk r H1 locs1 (h.keep Y (fun q hq => hk1 q (Nat.lt_of_lt_of_le hq h.2.2)) hz1 hS) hk1 hz1)
theorem ln_below (Y : lawY p s m meth c D ad cI cZ cP A b L xs nz) (h : lawS s D ad cI cZ cP nz G V U H locs) (x : Int32) {n : Nat} (h0 : 0 < n) (hn : n < 2 ^ 31) {y : Int32} (hy : y = nI n) (hR : 1 ≤ R.frames ∧ 21 ≤ R.locals) (hcs : cells ≤ R.cells ∧ slots ≤ R.slots) (hl : ls.size = 6) (hrest : (rest.map fun v => v.category).sum ≤ 8) (hdg : decode code pc = .ok (.invokestatic 18, 3)) (kk : ∀ (j : Nat) (H1 : Heap) (locs1 : List Loc), j < n → lawS s D ad cI cZ cP nz G V U H1 locs1 → (∀ q, q < H.size → H1[q]? = H[q]?) → H.size ≤ H1.size → W p l e R s m #[Value.ref b] below meth c H1 locs1 cells slots Q (F0 m (pc + 3) ls (.int (nI j) :: rest))) : W p l e R s m #[Value.ref b] below meth c H locs cells slots Q (F0 m pc ls (.int y :: .int x :: rest)) := by
  subst hy
  obtain ⟨hx, hb, hml, hown, htm, hr, hlk, hE⟩ := Y.1
  obtain ⟨j, hj, ej⟩ := bl_at x h0 hn
  exact n_below hx hb hml hown htm h.2.1 ej hR hcs hl hrest hdg (fun H1 locs1 hk1 hz1 hS => kk j H1 locs1 hj (h.keep Y (fun q hq => hk1 q (Nat.lt_of_lt_of_le hq h.2.2)) hz1 hS) hk1 hz1)
theorem ln_cV (Y : lawY p s m meth c D ad cI cZ cP A b L xs nz) (h : lawS s D ad cI cZ cP nz G V U H locs) {G1 V1 U1 : MT} {y : MethodName} {bb : ByteArray} {n1 n : Nat} {rt1 : Option FieldType} {rm : Room} {As : List Value} {r : Int32} (hV : VW RX6 y bb n1 rt1 n) (hlk : Cond.methodLink RL index y ∈ WM) (hM : Met l y (.code y bb n1 rt1 :: WM) rm (PcM D ad cI cZ cP A (.ref (ad 2 16 0) :: As) (Pic D ad cI cZ cP 0 G V U)) (QcI A r (Pic D ad cI cZ cP 0 G1 V1 U1)) 0 0 A) (hrm : rm.cells = 0 ∧ rm.slots = 0) (hR : rm.frames + 1 ≤ R.frames ∧ 8 + (n1 + 11) + rm.locals ≤ R.locals) (hcs : cells ≤ R.cells ∧ slots ≤ R.slots) (hn : As.length = n) (hl : ls.size = 6) (hst : st0 = As.reverse ++ .ref (ad 2 16 0) :: rest) (hrest : (rest.map fun v => v.category).sum ≤ 8) (hdg : decode code pc = .ok (.invokevirtual index, 3)) (kk : ∀ (H1 : Heap) (locs1 : List Loc), lawS s D ad cI cZ cP nz G1 V1 U1 H1 locs1 → (∀ q, q < H.size → ¬ A q → H1[q]? = H[q]?) → H.size ≤ H1.size → W p l e R s m #[Value.ref b] below meth c H1 locs1 cells slots Q (F0 m (pc + 3) ls (.int r :: rest))) : W p l e R s m #[Value.ref b] below meth c H locs cells slots Q (F0 m pc ls st0) :=
  n_cVi Y.1 Y.2.1 Y.2.2.1 Y.2.2.1 (fun _ _ z => z) h.2.1 hV hlk hM hrm hR hcs (rc_16 Y.1.2.2.2.2.2.2.2 h.1) h.1 hn hl hst hrest hdg (fun H1 locs1 hP1 hK hZ hS => kk H1 locs1 ⟨hP1, hS, Nat.le_trans h.2.2 hZ⟩ hK hZ)
theorem ln_cVl (Y : lawY p s m meth c D ad cI cZ cP A b L xs nz) (h : lawS s D ad cI cZ cP nz G V U H locs) {G1 V1 U1 : MT} {y : MethodName} {bb : ByteArray} {n1 n : Nat} {rt1 : Option FieldType} {rm : Room} {As : List Value} {r : Int64} (hV : VW RX6 y bb n1 rt1 n) (hlk : Cond.methodLink RL index y ∈ WM) (hM : Met l y (.code y bb n1 rt1 :: WM) rm (PcM D ad cI cZ cP A (.ref (ad 2 16 0) :: As) (Pic D ad cI cZ cP 0 G V U)) (QcL A r (Pic D ad cI cZ cP 0 G1 V1 U1)) 0 0 A) (hrm : rm.cells = 0 ∧ rm.slots = 0) (hR : rm.frames + 1 ≤ R.frames ∧ 8 + (n1 + 11) + rm.locals ≤ R.locals) (hcs : cells ≤ R.cells ∧ slots ≤ R.slots) (hn : As.length = n) (hl : ls.size = 6) (hst : st0 = As.reverse ++ .ref (ad 2 16 0) :: rest) (hrest : (rest.map fun v => v.category).sum ≤ 8) (hdg : decode code pc = .ok (.invokevirtual index, 3)) (kk : ∀ (H1 : Heap) (locs1 : List Loc), lawS s D ad cI cZ cP nz G1 V1 U1 H1 locs1 → W p l e R s m #[Value.ref b] below meth c H1 locs1 cells slots Q (F0 m (pc + 3) ls (.long r :: rest))) : W p l e R s m #[Value.ref b] below meth c H locs cells slots Q (F0 m pc ls st0) := by
  obtain ⟨hx, hb, hml, hown, htm, hr, hlk2, hE⟩ := Y.1
  refine va_calll (A1 := A) (va_runV (As := As) (rest := rest) ⟨hx, hb, hml, hown, htm⟩ hM (cwV n htm (gVW hV hlk) rfl hrm.1 hrm.2 hV.2.2.2.2 hR) ⟨m_blind, rc_16 hE h.1, fun U hU hW => ⟨rfl, hE.go Y.2.1 Y.2.2.1 (fun _ _ z => z) h.2.1 hW hU, by rw [hU]; exact h.1⟩⟩ rfl hn hl hst (lv_room hrest) hdg hcs) h.2.1 (fun q _ h => Y.2.2.1 q h) (fun q h => Y.2.2.1 q h) (fun r1 u t H1 locs1 ht hvm hp hB hz hk hS1 => ?_)
  subst hp; rw [ht] at hB; exact kk H1 locs1 ⟨hB, hS1, Nat.le_trans h.2.2 hz⟩
/-- isActed -/
theorem ln_act (Y : lawY p s m meth c D ad cI cZ cP A b L xs nz) (h : lawS s D ad cI cZ cP nz G V U H locs) {V1 U1 : MT} {x y M r : Int32} (hF : f_L_isActed G V U x y M = some (r, V1, U1)) (hR : 14 ≤ R.frames ∧ 400 ≤ R.locals) (hcs : cells ≤ R.cells ∧ slots ≤ R.slots) (hl : ls.size = 6) (hdg : decode code pc = .ok (.invokestatic 42, 3)) (kk : ∀ (H1 : Heap) (locs1 : List Loc), lawS s D ad cI cZ cP nz G V1 U1 H1 locs1 → (∀ q, q < H.size → ¬ A q → H1[q]? = H[q]?) → H.size ≤ H1.size → W p l e R s m #[Value.ref b] below meth c H1 locs1 cells slots Q (F0 m (pc + 3) ls [.int r])) : W p l e R s m #[Value.ref b] below meth c H locs cells slots Q (F0 m pc ls [.int M, .int y, .int x, .ref b, .ref (ad 2 16 0)]) :=
  n_cSi Y.1 Y.2.1 Y.2.2.1 Y.2.2.1 (fun _ _ z => z) h.2.1 sw_L_isActed qw_641 (c_L_isActed hF) ⟨rfl, rfl⟩ ⟨hR.1, Nat.le_trans (by decide) hR.2⟩ hcs h.1 (As := [.ref (ad 2 16 0), .ref b, .int x, .int y, .int M]) rfl hl rfl (Nat.le_of_ble_eq_true rfl) hdg (fun H1 locs1 hP1 hK hZ hS => kk H1 locs1 ⟨hP1, hS, Nat.le_trans h.2.2 hZ⟩ hK hZ)
/-- isSound -/
theorem ln_sound (Y : lawY p s m meth c D ad cI cZ cP A b L xs nz) (h : lawS s D ad cI cZ cP nz G V U H locs) {ra bb C E : Nat} {R1 : RT} (hra : nz ≤ ra) (hLr : lawB s ra) (hr : va_at D clM (ra, .inl (cI, 24, .inl R1)) H) (hw : wI bb C E V) (hRO : wRO C V R1) (hR : rm_L_isSound.frames + 1 ≤ R.frames ∧ 8 + (8 + 11) + rm_L_isSound.locals ≤ R.locals) (hcs : cells + 1 ≤ R.cells ∧ slots + 3 ≤ R.slots) (hl : ls.size = 6) (hdg : decode code pc = .ok (.invokestatic 46, 3)) (kk : ∀ (H1 : Heap) (locs1 : List Loc) (R2 : RT), lawS s D ad cI cZ cP nz G V U H1 locs1 → va_at D clM (ra, .inl (cI, 24, .inl R2)) H1 → wRO C V R2 → W p l e R s m #[Value.ref b] below meth c H1 locs1 (cells + 1) (slots + 3) Q (F0 m (pc + 3) ls [.int 1])) : W p l e R s m #[Value.ref b] below meth c H locs cells slots Q (F0 m pc ls [.ref ra, .ref (ad 2 16 0)]) := by
  obtain ⟨hx, hb, hml, hown, htm, hr2, hlk2, hE⟩ := Y.1
  have hnA : ¬ A ra := fun z => by have := Y.2.2.2.1 ra z; omega
  have hA0 : ∀ q, A q → q < H.size := fun q hq => Nat.lt_of_lt_of_le (Y.2.2.2.1 q hq) h.2.2
  have hLA2 : Lay ad (fun q => A q ∨ q = ra) := Y.2.1.mono (fun q z => Or.inl z)
  have hA1 : ∀ q, (A q ∨ q = ra ∨ H.size ≤ q) → lawB s q := fun q z => by
    rcases z with z | z | z
    · exact Y.2.2.1 q z
    · rw [z]; exact hLr
    · exact Nat.le_trans h.2.1.1 z
  refine va_calli (A1 := fun q => A q ∨ q = ra ∨ H.size ≤ q) (va_runS (As := [.ref (ad 2 16 0), .ref ra]) (rest := []) ⟨hx, hb, hml, hown, htm⟩ (c_L_isSound (n0 := H.size) (G := G) (U := U) Y.2.1 hA0 hnA hw hRO) (cwS 2 htm (gSW sw_L_isSound qw_643) rfl rfl rfl sw_L_isSound.2.2.2 hR) ⟨m_blind, fun U2 hU hW => ⟨rfl, hE.go hLA2 (fun q z => hA1 q (z.elim Or.inl (fun z => Or.inr (Or.inl z)))) (fun _ _ z => z) h.2.1 hW hU, by rw [hU], by rw [hU]; exact ⟨h.1, hr⟩⟩⟩ rfl rfl hl rfl (lv_room (Nat.le_of_ble_eq_true rfl)) hdg hcs) h.2.1 (fun q _ z => hA1 q z) (fun q z => hA1 q z) (fun r1 u t H1 locs1 ht hvm hp hB hz hk hS1 => ?_)
  subst hp
  rw [ht] at hB
  obtain ⟨R2, hRO2, hP2, hr3⟩ := hB
  exact kk H1 locs1 R2 ⟨hP2, hS1, Nat.le_trans h.2.2 hz⟩ hr3 hRO2
/-- write -/
theorem ln_write (Y : lawY p s m meth c D ad cI cZ cP A b L xs nz) (h : lawS s D ad cI cZ cP nz G V0 V0 H locs) {mo M : Nat} (hM1 : 1 ≤ M) (hM3 : M ≤ 3) (hmo : mo < 4) (hG : gL mo 0 G) (hR : 5 ≤ R.frames ∧ 8 + (10 + 11) + 98 ≤ R.locals) (hcs : cells + 170 ≤ R.cells ∧ slots + 640 ≤ R.slots) (hl : ls.size = 6) (hdg : decode code pc = .ok (.invokestatic 26, 3)) (kk : ∀ (H1 : Heap) (locs1 : List Loc) (G1 : MT), lawS s D ad cI cZ cP nz G1 V0 V0 H1 locs1 → gP (mo + 1) 0 G1 → W p l e R s m #[Value.ref b] below meth c H1 locs1 (cells + 170) (slots + 640) Q (F0 m (pc + 3) ls [.int 1])) : W p l e R s m #[Value.ref b] below meth c H locs cells slots Q (F0 m pc ls [.int (nI M), .int (nI mo), .ref b, .ref (ad 2 16 0)]) := by
  obtain ⟨hx, hb, hml, hown, htm, hr2, hlk2, hE⟩ := Y.1
  have hbl := Y.2.2.2.2.2.2.1
  have hbA : ¬ A b := fun z => by have z : s.heap.size ≤ b := Y.2.2.1 b z; omega
  have hA0 : ∀ q, A q → q < H.size := fun q hq => Nat.lt_of_lt_of_le (Y.2.2.2.1 q hq) h.2.2
  have hA1 : ∀ q, (A q ∨ H.size ≤ q) → lawB s q := fun q z => by
    rcases z with z | z
    · exact Y.2.2.1 q z
    · exact Nat.le_trans h.2.1.1 z
  have hSW : SW RL yL_write cL_write 10 (some .boolean) 4 := ⟨qw_634, qw_579, qw_585, ⟨rfl, by decide, by decide, by decide +kernel⟩⟩
  refine va_calli (A1 := fun q => A q ∨ H.size ≤ q) (va_runS (As := [.ref (ad 2 16 0), .ref b, .int (nI mo), .int (nI M)]) (rest := []) ⟨hx, hb, hml, hown, htm⟩ (c_L_write (n0 := H.size) (G := G) (xs := xs) Y.2.1 hA0 hbA Y.2.2.2.2.2.2.2 hM1 hM3 hmo hG) (cwS 4 htm (gSW hSW qw_633) rfl rfl rfl hSW.2.2.2 hR) ⟨fun _ _ _ _ q => ⟨q.1, q.2.1.same rfl rfl, AOI.moved (Vm.Alike.refl _) q.2.2.1, va_X.moved (Vm.Alike.refl _) q.2.2.2.1, q.2.2.2.2⟩, fun U2 hU hW => ⟨rfl, hE.go Y.2.1 Y.2.2.1 (fun _ _ z => z) h.2.1 hW hU, Y.2.2.2.2.1.moved hW.alike, by rw [hU]; exact va_X.moved hW.alike (Y.X h.2.1), by rw [hU], by rw [hU]; exact h.1⟩⟩ rfl rfl hl rfl (lv_room (Nat.le_of_ble_eq_true rfl)) hdg hcs) h.2.1 (fun q _ z => hA1 q z) (fun q z => hA1 q z) (fun r1 u t H1 locs1 ht hvm hp hB hz hk hS1 => ?_)
  subst hp
  rw [ht] at hB
  obtain ⟨G1, hG1, hP2⟩ := hB
  exact kk H1 locs1 G1 ⟨hP2, hS1, Nat.le_trans h.2.2 hz⟩ hG1
end
