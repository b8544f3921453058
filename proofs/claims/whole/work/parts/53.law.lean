/-! THE CLAIM OUT OF ONE WALK OF THE LAW'S BODY. Your part is whole_start (and what it stands on); all else here is the same for every law, but numbers. -/
def R_law : String := "KnottedWindsLaw"
def lw_P (b : Addr) (xs : List Int32) (args : Array Value) (s : State) : Prop := args = #[.ref b] ∧ s.IntsAt b xs ∧ xs.length ≤ 3072 ∧ (Jvm.Cond.and given_1 narrow_1).before args s = true
def lw_Q (_ : Array Value) (s : State) (o : Outcome) (t : State) : Prop := o = .returned (some (.int 1)) ∧ Framed s o t [] 600000 7302250
def lw_Z (below : List Frame) (a : Array Value) (s : State) : State → Prop := fun t => ∃ o, t.status = .running ∧ Ended t below o ∧ lw_Q a s o t
/-- the law's own end, with 1 on the stack, nothing written that was there before, its room as the claim has it -/
theorem lw_ret {p : Program} {l : Launch} {e : Env} {s : State} {m : MethodId} {below : List Frame} {meth : Method} {c : Code} {b : Nat} (hx : p.tables.exec = Jvm.exec) (hb : c.code = code) (hr : meth.sig.returnType = ret) (hlocks : meth.locks = false) {pc : Nat} {H : Heap} {ls : Array Slot} (hdg : decode code pc = .ok (.ireturn, 1)) : W p l e room_1 s m #[Value.ref b] below meth c H [] 600000 7302250 (lw_Z below #[Value.ref b] s) (F0 m pc ls [.int 1]) := by
  intro T hT X
  obtain ⟨fs, hret, hrun, hended, hW, hframe⟩ := X.leave (v := some (.int 1)) (hlocks := hlocks) (fun h => by rw [hr] at h; cases h)
  have hmeth' : T.vm.method? m = some meth := X.method'
  refine ⟨T.setFrames fs, ?_, .returned (some (.int 1)), hrun, hended, rfl, ⟨_, rfl⟩, hW, hframe⟩
  jvm_step X.here [X.here.top, hx, hb, hdg, hmeth', hr, ret, narrow_b1]
  (try refine ⟨rfl, ?_⟩); (try refine ⟨rfl, ?_⟩)
  first | (intro acts; rw [hret _ acts rfl rfl rfl]) | rw [hret _ _ rfl rfl rfl]
  exact Steps.refl _
/-- what holds at the law's entry: the machine, the code, the tables' words (any of lw_tbl by 'hts w (by decide +kernel)'), the script of L ints xs at the cell b, what the Statement gives of the start (any of its parts by flat_of_before) -/
def lw_At (p : Program) (s : State) (m : MethodId) (meth : Method) (c : Code) (b L : Nat) (xs : Nat → Int32) : Prop :=
  p.tables.exec = Jvm.exec ∧ c.code = code ∧ meth.sig.returnType = ret ∧ c.maxLocals = 4 ∧ s.vm.findClass R_law = some m.cls ∧ (∀ w ∈ lw_tbl, w.before #[Value.ref b] s = true) ∧ va_X b L xs s s.heap ∧ b < s.heap.size ∧ meth.locks = false ∧ (Jvm.Cond.and given_1 narrow_1).before #[Value.ref b] s = true
theorem lw_retA {p : Program} {l : Launch} {e : Env} {s : State} {m : MethodId} {below : List Frame} {meth : Method} {c : Code} {args : Array Value} (hx : p.tables.exec = Jvm.exec) (hb : c.code = code) (hr : meth.sig.returnType = ret) (hlocks : meth.locks = false) {pc : Nat} {H : Heap} {ls : Array Slot} (hdg : decode code pc = .ok (.ireturn, 1)) : W p l e room_1 s m args below meth c H [] 600000 7302250 (lw_Z below args s) (F0 m pc ls [.int 1]) := by
  intro T hT X
  obtain ⟨fs, hret, hrun, hended, hW, hframe⟩ := X.leave (v := some (.int 1)) (hlocks := hlocks) (fun h => by rw [hr] at h; cases h)
  have hmeth' : T.vm.method? m = some meth := X.method'
  refine ⟨T.setFrames fs, ?_, .returned (some (.int 1)), hrun, hended, rfl, ⟨_, rfl⟩, hW, hframe⟩
  jvm_step X.here [X.here.top, hx, hb, hdg, hmeth', hr, ret, narrow_b1]
  (try refine ⟨rfl, ?_⟩); (try refine ⟨rfl, ?_⟩)
  first | (intro acts; rw [hret _ acts rfl rfl rfl]) | rw [hret _ _ rfl rfl rfl]
  exact Steps.refl _
abbrev m_L : kMt := (x, code, 4, ret)
def kEl (G : kG) (L : Nat) (xs : Nat → Int32) : kEv := (room_1, 600000, 7302250, fun s => va_X (kad G 1004) L xs s s.heap ∧ kad G 1004 < s.heap.size ∧ ¬ kA G (kad G 1004) ∧ ∀ q, kA G q → s.heap.size ≤ q, fun below args s => lw_Z below args s)
theorem wp_sld {G : kG} {d L : Nat} {xs : Nat → Int32} {pc : Nat} {ls st : List Value} {h : kM} {i : Int32} (pc' : Nat) (hd : decode code pc = .ok (.iaload, 1)) (hp : pc + 1 = pc') (hin : vp_in i L) (kk : Wp G d m_L (kEl G L xs) pc' ls (.int (xs i.toNatClampNeg) :: st) h) : Wp G d m_L (kEl G L xs) pc ls (.int i :: .ref 1004 :: st) h := by
  subst hp
  intro hO p e s m args below meth c H locs lsC X hP hS hl
  have hE := X.2.2.2.2.2.2.2.2
  exact va_sld X.1 X.2.1 hE.1 hE.2.1 hE.2.2.1 hS hin hd (kk hO p e s m args below meth c H locs lsC X hP hS hl)
theorem wp_slen {G : kG} {d L : Nat} {xs : Nat → Int32} {pc : Nat} {ls st : List Value} {h : kM} (pc' : Nat) (hd : decode code pc = .ok (.arraylength, 1)) (hp : pc + 1 = pc') (kk : Wp G d m_L (kEl G L xs) pc' ls (.int (nI L) :: st) h) : Wp G d m_L (kEl G L xs) pc ls (.ref 1004 :: st) h := by
  subst hp
  intro hO p e s m args below meth c H locs lsC X hP hS hl
  have hE := X.2.2.2.2.2.2.2.2
  exact va_slen X.1 X.2.1 hE.1 hE.2.1 hE.2.2.1 hS hd (kk hO p e s m args below meth c H locs lsC X hP hS hl)
theorem wp_lend {G : kG} {d L : Nat} {xs : Nat → Int32} {pc : Nat} {ls : List Value} {h : kM} (hd : decode code pc = .ok (.ireturn, 1)) : Wp G d m_L (kEl G L xs) pc ls [.int 1] h := by
  intro hO p e s m args below meth c H locs lsC X hP hS hl
  have hE := X.2.2.2.2.2.2.2.2
  exact va_forget (fun q hq => hE.2.2.2 _ (hS.2.2 q hq)) (lw_retA X.1 X.2.1 X.2.2.2.2.2.2.1 X.2.2.2.2.2.1 hd)
theorem lIn {i L j : Nat} (hi : i + 6 ≤ L) (hL : L ≤ 3072) (hj : j ≤ 5) : vp_in (nI i + nI j) L := by
  rw [nI_add]
  exact vp_in_nI (by omega) (by omega)
theorem lIn0 {i L : Nat} (hi : i + 6 ≤ L) (hL : L ≤ 3072) : vp_in (nI i) L := vp_in_nI (by omega) (by omega)
section Law
variable {G : kG} {L i : Nat} {xs : Nat → Int32} {h : kM}
abbrev lLs (i : Nat) : List Value := [.ref 1004, .ref 0, .ref 88, .int (nI i)]
theorem lc_0 (hR : kRel h) (hi : i + 6 ≤ L) (hL : L ≤ 3072) (next : ∀ h1, kRel h1 → Wp G 131 m_L (kEl G L xs) 1353 (lLs i) [] h1) : Wp G 131 m_L (kEl G L xs) 188 (lLs i) [] h := by
  refine wp_aload_n 189 dL_law_188 rfl rfl ?_
  refine wp_aload_n 190 dL_law_189 rfl rfl ?_
  refine wp_iload_n 191 dL_law_190 rfl rfl ?_
  refine wp_iconst (1 : Int32) 192 dL_law_191 kiconst_1 rfl ?_
  refine wp_iadd 193 dL_law_192 rfl ?_
  refine wp_sld 194 dL_law_193 rfl (lIn hi hL (j := 1) (by decide)) ?_
  refine wp_aload_n 195 dL_law_194 rfl rfl ?_
  refine wp_iload_n 196 dL_law_195 rfl rfl ?_
  refine wp_iconst (2 : Int32) 197 dL_law_196 kiconst_2 rfl ?_
  refine wp_iadd 198 dL_law_197 rfl ?_
  refine wp_sld 199 dL_law_198 rfl (lIn hi hL (j := 2) (by decide)) ?_
  refine wp_cV 130 2 [.int _, .int _] [] 202 dL_law_199 rfl (lk_L_13 rfl) (by decide) kd_0 rfl rfl rfl (Nat.le_of_ble_eq_true rfl) (Cal.mono (st_land (by decide) hR _ _) (fun x h1 hk => ?_))
  refine wp_aload_n 203 dL_law_202 rfl rfl ?_
  refine wp_aload_n 204 dL_law_203 rfl rfl ?_
  refine wp_iload_n 205 dL_law_204 rfl rfl ?_
  refine wp_iconst (1 : Int32) 206 dL_law_205 kiconst_1 rfl ?_
  refine wp_iadd 207 dL_law_206 rfl ?_
  refine wp_sld 208 dL_law_207 rfl (lIn hi hL (j := 1) (by decide)) ?_
  refine wp_aload_n 209 dL_law_208 rfl rfl ?_
  refine wp_iload_n 210 dL_law_209 rfl rfl ?_
  refine wp_iconst (2 : Int32) 211 dL_law_210 kiconst_2 rfl ?_
  refine wp_iadd 212 dL_law_211 rfl ?_
  refine wp_sld 213 dL_law_212 rfl (lIn hi hL (j := 2) (by decide)) ?_
  refine wp_cV 130 2 [.int _, .int _] [.int x] 216 dL_law_213 rfl (lk_L_17 rfl) (by decide) kd_88 rfl rfl rfl (Nat.le_of_ble_eq_true rfl) (Cal.mono hk (fun y h2 hq => ?_))
  exact wp_icmp_eq 1353 219 dL_law_216 rfl rfl ⟨fun _ => next h2 hq.2, fun c => absurd hq.1 c⟩
theorem lc_1 (hR : kRel h) (hi : i + 6 ≤ L) (hL : L ≤ 3072) (next : ∀ h1, kRel h1 → Wp G 131 m_L (kEl G L xs) 1353 (lLs i) [] h1) : Wp G 131 m_L (kEl G L xs) 221 (lLs i) [] h := by
  refine wp_aload_n 222 dL_law_221 rfl rfl ?_
  refine wp_aload_n 223 dL_law_222 rfl rfl ?_
  refine wp_iload_n 224 dL_law_223 rfl rfl ?_
  refine wp_iconst (1 : Int32) 225 dL_law_224 kiconst_1 rfl ?_
  refine wp_iadd 226 dL_law_225 rfl ?_
  refine wp_sld 227 dL_law_226 rfl (lIn hi hL (j := 1) (by decide)) ?_
  refine wp_aload_n 228 dL_law_227 rfl rfl ?_
  refine wp_iload_n 229 dL_law_228 rfl rfl ?_
  refine wp_iconst (2 : Int32) 230 dL_law_229 kiconst_2 rfl ?_
  refine wp_iadd 231 dL_law_230 rfl ?_
  refine wp_sld 232 dL_law_231 rfl (lIn hi hL (j := 2) (by decide)) ?_
  refine wp_cV 130 2 [.int _, .int _] [] 235 dL_law_232 rfl (lk_L_18 rfl) (by decide) kd_0 rfl rfl rfl (Nat.le_of_ble_eq_true rfl) (Cal.mono (st_drift (by decide) hR _ _) (fun x h1 hk => ?_))
  refine wp_aload_n 236 dL_law_235 rfl rfl ?_
  refine wp_aload_n 237 dL_law_236 rfl rfl ?_
  refine wp_iload_n 238 dL_law_237 rfl rfl ?_
  refine wp_iconst (1 : Int32) 239 dL_law_238 kiconst_1 rfl ?_
  refine wp_iadd 240 dL_law_239 rfl ?_
  refine wp_sld 241 dL_law_240 rfl (lIn hi hL (j := 1) (by decide)) ?_
  refine wp_aload_n 242 dL_law_241 rfl rfl ?_
  refine wp_iload_n 243 dL_law_242 rfl rfl ?_
  refine wp_iconst (2 : Int32) 244 dL_law_243 kiconst_2 rfl ?_
  refine wp_iadd 245 dL_law_244 rfl ?_
  refine wp_sld 246 dL_law_245 rfl (lIn hi hL (j := 2) (by decide)) ?_
  refine wp_cV 130 2 [.int _, .int _] [.int x] 249 dL_law_246 rfl (lk_L_21 rfl) (by decide) kd_88 rfl rfl rfl (Nat.le_of_ble_eq_true rfl) (Cal.mono hk (fun y h2 hq => ?_))
  exact wp_icmp_eq 1353 252 dL_law_249 rfl rfl ⟨fun _ => next h2 hq.2, fun c => absurd hq.1 c⟩
theorem lc_2 (hR : kRel h) (hi : i + 6 ≤ L) (hL : L ≤ 3072) (next : ∀ h1, kRel h1 → Wp G 131 m_L (kEl G L xs) 1353 (lLs i) [] h1) : Wp G 131 m_L (kEl G L xs) 254 (lLs i) [] h := by
  refine wp_aload_n 255 dL_law_254 rfl rfl ?_
  refine wp_aload_n 256 dL_law_255 rfl rfl ?_
  refine wp_iload_n 257 dL_law_256 rfl rfl ?_
  refine wp_iconst (1 : Int32) 258 dL_law_257 kiconst_1 rfl ?_
  refine wp_iadd 259 dL_law_258 rfl ?_
  refine wp_sld 260 dL_law_259 rfl (lIn hi hL (j := 1) (by decide)) ?_
  refine wp_aload_n 261 dL_law_260 rfl rfl ?_
  refine wp_iload_n 262 dL_law_261 rfl rfl ?_
  refine wp_iconst (2 : Int32) 263 dL_law_262 kiconst_2 rfl ?_
  refine wp_iadd 264 dL_law_263 rfl ?_
  refine wp_sld 265 dL_law_264 rfl (lIn hi hL (j := 2) (by decide)) ?_
  refine wp_cV 130 2 [.int _, .int _] [] 268 dL_law_265 rfl (lk_L_22 rfl) (by decide) kd_0 rfl rfl rfl (Nat.le_of_ble_eq_true rfl) (Cal.mono (st_ship (by decide) hR _ _) (fun x h1 hk => ?_))
  refine wp_aload_n 269 dL_law_268 rfl rfl ?_
  refine wp_aload_n 270 dL_law_269 rfl rfl ?_
  refine wp_iload_n 271 dL_law_270 rfl rfl ?_
  refine wp_iconst (1 : Int32) 272 dL_law_271 kiconst_1 rfl ?_
  refine wp_iadd 273 dL_law_272 rfl ?_
  refine wp_sld 274 dL_law_273 rfl (lIn hi hL (j := 1) (by decide)) ?_
  refine wp_aload_n 275 dL_law_274 rfl rfl ?_
  refine wp_iload_n 276 dL_law_275 rfl rfl ?_
  refine wp_iconst (2 : Int32) 277 dL_law_276 kiconst_2 rfl ?_
  refine wp_iadd 278 dL_law_277 rfl ?_
  refine wp_sld 279 dL_law_278 rfl (lIn hi hL (j := 2) (by decide)) ?_
  refine wp_cV 130 2 [.int _, .int _] [.int x] 282 dL_law_279 rfl (lk_L_25 rfl) (by decide) kd_88 rfl rfl rfl (Nat.le_of_ble_eq_true rfl) (Cal.mono hk (fun y h2 hq => ?_))
  exact wp_icmp_eq 1353 285 dL_law_282 rfl rfl ⟨fun _ => next h2 hq.2, fun c => absurd hq.1 c⟩
theorem lc_3 (hR : kRel h) (hi : i + 6 ≤ L) (hL : L ≤ 3072) (next : ∀ h1, kRel h1 → Wp G 131 m_L (kEl G L xs) 1353 (lLs i) [] h1) : Wp G 131 m_L (kEl G L xs) 287 (lLs i) [] h := by
  refine wp_aload_n 288 dL_law_287 rfl rfl ?_
  refine wp_aload_n 289 dL_law_288 rfl rfl ?_
  refine wp_iload_n 290 dL_law_289 rfl rfl ?_
  refine wp_iconst (1 : Int32) 291 dL_law_290 kiconst_1 rfl ?_
  refine wp_iadd 292 dL_law_291 rfl ?_
  refine wp_sld 293 dL_law_292 rfl (lIn hi hL (j := 1) (by decide)) ?_
  refine wp_aload_n 294 dL_law_293 rfl rfl ?_
  refine wp_iload_n 295 dL_law_294 rfl rfl ?_
  refine wp_iconst (2 : Int32) 296 dL_law_295 kiconst_2 rfl ?_
  refine wp_iadd 297 dL_law_296 rfl ?_
  refine wp_sld 298 dL_law_297 rfl (lIn hi hL (j := 2) (by decide)) ?_
  refine wp_cV 130 2 [.int _, .int _] [] 301 dL_law_298 rfl (lk_L_26 rfl) (by decide) kd_0 rfl rfl rfl (Nat.le_of_ble_eq_true rfl) (Cal.mono (st_shipIs (by decide) hR _ _) (fun x h1 hk => ?_))
  refine wp_aload_n 302 dL_law_301 rfl rfl ?_
  refine wp_aload_n 303 dL_law_302 rfl rfl ?_
  refine wp_iload_n 304 dL_law_303 rfl rfl ?_
  refine wp_iconst (1 : Int32) 305 dL_law_304 kiconst_1 rfl ?_
  refine wp_iadd 306 dL_law_305 rfl ?_
  refine wp_sld 307 dL_law_306 rfl (lIn hi hL (j := 1) (by decide)) ?_
  refine wp_aload_n 308 dL_law_307 rfl rfl ?_
  refine wp_iload_n 309 dL_law_308 rfl rfl ?_
  refine wp_iconst (2 : Int32) 310 dL_law_309 kiconst_2 rfl ?_
  refine wp_iadd 311 dL_law_310 rfl ?_
  refine wp_sld 312 dL_law_311 rfl (lIn hi hL (j := 2) (by decide)) ?_
  refine wp_cV 130 2 [.int _, .int _] [.int x] 315 dL_law_312 rfl (lk_L_29 rfl) (by decide) kd_88 rfl rfl rfl (Nat.le_of_ble_eq_true rfl) (Cal.mono hk (fun y h2 hq => ?_))
  exact wp_icmp_eq 1353 318 dL_law_315 rfl rfl ⟨fun _ => next h2 hq.2, fun c => absurd hq.1 c⟩
theorem lc_4 (hR : kRel h) (hi : i + 6 ≤ L) (hL : L ≤ 3072) (next : ∀ h1, kRel h1 → Wp G 131 m_L (kEl G L xs) 1353 (lLs i) [] h1) : Wp G 131 m_L (kEl G L xs) 320 (lLs i) [] h := by
  refine wp_aload_n 321 dL_law_320 rfl rfl ?_
  refine wp_aload_n 322 dL_law_321 rfl rfl ?_
  refine wp_iload_n 323 dL_law_322 rfl rfl ?_
  refine wp_iconst (1 : Int32) 324 dL_law_323 kiconst_1 rfl ?_
  refine wp_iadd 325 dL_law_324 rfl ?_
  refine wp_sld 326 dL_law_325 rfl (lIn hi hL (j := 1) (by decide)) ?_
  refine wp_aload_n 327 dL_law_326 rfl rfl ?_
  refine wp_iload_n 328 dL_law_327 rfl rfl ?_
  refine wp_iconst (2 : Int32) 329 dL_law_328 kiconst_2 rfl ?_
  refine wp_iadd 330 dL_law_329 rfl ?_
  refine wp_sld 331 dL_law_330 rfl (lIn hi hL (j := 2) (by decide)) ?_
  refine wp_cV 130 2 [.int _, .int _] [] 334 dL_law_331 rfl (lk_L_30 rfl) (by decide) kd_0 rfl rfl rfl (Nat.le_of_ble_eq_true rfl) (Cal.mono (st_bring (by decide) hR _ _) (fun x h1 hk => ?_))
  refine wp_aload_n 335 dL_law_334 rfl rfl ?_
  refine wp_aload_n 336 dL_law_335 rfl rfl ?_
  refine wp_iload_n 337 dL_law_336 rfl rfl ?_
  refine wp_iconst (1 : Int32) 338 dL_law_337 kiconst_1 rfl ?_
  refine wp_iadd 339 dL_law_338 rfl ?_
  refine wp_sld 340 dL_law_339 rfl (lIn hi hL (j := 1) (by decide)) ?_
  refine wp_aload_n 341 dL_law_340 rfl rfl ?_
  refine wp_iload_n 342 dL_law_341 rfl rfl ?_
  refine wp_iconst (2 : Int32) 343 dL_law_342 kiconst_2 rfl ?_
  refine wp_iadd 344 dL_law_343 rfl ?_
  refine wp_sld 345 dL_law_344 rfl (lIn hi hL (j := 2) (by decide)) ?_
  refine wp_cV 130 2 [.int _, .int _] [.int x] 348 dL_law_345 rfl (lk_L_33 rfl) (by decide) kd_88 rfl rfl rfl (Nat.le_of_ble_eq_true rfl) (Cal.mono hk (fun y h2 hq => ?_))
  exact wp_icmp_eq 1353 351 dL_law_348 rfl rfl ⟨fun _ => next h2 hq.2, fun c => absurd hq.1 c⟩
theorem lc_5 (hR : kRel h) (hi : i + 6 ≤ L) (hL : L ≤ 3072) (next : ∀ h1, kRel h1 → Wp G 131 m_L (kEl G L xs) 1353 (lLs i) [] h1) : Wp G 131 m_L (kEl G L xs) 353 (lLs i) [] h := by
  refine wp_aload_n 354 dL_law_353 rfl rfl ?_
  refine wp_aload_n 355 dL_law_354 rfl rfl ?_
  refine wp_iload_n 356 dL_law_355 rfl rfl ?_
  refine wp_iconst (1 : Int32) 357 dL_law_356 kiconst_1 rfl ?_
  refine wp_iadd 358 dL_law_357 rfl ?_
  refine wp_sld 359 dL_law_358 rfl (lIn hi hL (j := 1) (by decide)) ?_
  refine wp_aload_n 360 dL_law_359 rfl rfl ?_
  refine wp_iload_n 361 dL_law_360 rfl rfl ?_
  refine wp_iconst (2 : Int32) 362 dL_law_361 kiconst_2 rfl ?_
  refine wp_iadd 363 dL_law_362 rfl ?_
  refine wp_sld 364 dL_law_363 rfl (lIn hi hL (j := 2) (by decide)) ?_
  refine wp_aload_n 365 dL_law_364 rfl rfl ?_
  refine wp_iload_n 366 dL_law_365 rfl rfl ?_
  refine wp_iconst (3 : Int32) 367 dL_law_366 kiconst_3 rfl ?_
  refine wp_iadd 368 dL_law_367 rfl ?_
  refine wp_sld 369 dL_law_368 rfl (lIn hi hL (j := 3) (by decide)) ?_
  refine wp_aload_n 370 dL_law_369 rfl rfl ?_
  refine wp_iload_n 371 dL_law_370 rfl rfl ?_
  refine wp_iconst (4 : Int32) 372 dL_law_371 kiconst_4 rfl ?_
  refine wp_iadd 373 dL_law_372 rfl ?_
  refine wp_sld 374 dL_law_373 rfl (lIn hi hL (j := 4) (by decide)) ?_
  refine wp_cV 130 4 [.int _, .int _, .int _, .int _] [] 377 dL_law_374 rfl (lk_L_34 rfl) (by decide) kd_0 rfl rfl rfl (Nat.le_of_ble_eq_true rfl) (Cal.mono (st_tie (by decide) hR _ _ _ _) (fun x h1 hk => ?_))
  refine wp_aload_n 378 dL_law_377 rfl rfl ?_
  refine wp_aload_n 379 dL_law_378 rfl rfl ?_
  refine wp_iload_n 380 dL_law_379 rfl rfl ?_
  refine wp_iconst (1 : Int32) 381 dL_law_380 kiconst_1 rfl ?_
  refine wp_iadd 382 dL_law_381 rfl ?_
  refine wp_sld 383 dL_law_382 rfl (lIn hi hL (j := 1) (by decide)) ?_
  refine wp_aload_n 384 dL_law_383 rfl rfl ?_
  refine wp_iload_n 385 dL_law_384 rfl rfl ?_
  refine wp_iconst (2 : Int32) 386 dL_law_385 kiconst_2 rfl ?_
  refine wp_iadd 387 dL_law_386 rfl ?_
  refine wp_sld 388 dL_law_387 rfl (lIn hi hL (j := 2) (by decide)) ?_
  refine wp_aload_n 389 dL_law_388 rfl rfl ?_
  refine wp_iload_n 390 dL_law_389 rfl rfl ?_
  refine wp_iconst (3 : Int32) 391 dL_law_390 kiconst_3 rfl ?_
  refine wp_iadd 392 dL_law_391 rfl ?_
  refine wp_sld 393 dL_law_392 rfl (lIn hi hL (j := 3) (by decide)) ?_
  refine wp_aload_n 394 dL_law_393 rfl rfl ?_
  refine wp_iload_n 395 dL_law_394 rfl rfl ?_
  refine wp_iconst (4 : Int32) 396 dL_law_395 kiconst_4 rfl ?_
  refine wp_iadd 397 dL_law_396 rfl ?_
  refine wp_sld 398 dL_law_397 rfl (lIn hi hL (j := 4) (by decide)) ?_
  refine wp_cV 130 4 [.int _, .int _, .int _, .int _] [.int x] 401 dL_law_398 rfl (lk_L_38 rfl) (by decide) kd_88 rfl rfl rfl (Nat.le_of_ble_eq_true rfl) (Cal.mono hk (fun y h2 hq => ?_))
  exact wp_icmp_eq 1353 404 dL_law_401 rfl rfl ⟨fun _ => next h2 hq.2, fun c => absurd hq.1 c⟩
theorem lc_6 (hR : kRel h) (hi : i + 6 ≤ L) (hL : L ≤ 3072) (next : ∀ h1, kRel h1 → Wp G 131 m_L (kEl G L xs) 1353 (lLs i) [] h1) : Wp G 131 m_L (kEl G L xs) 406 (lLs i) [] h := by
  refine wp_aload_n 407 dL_law_406 rfl rfl ?_
  refine wp_aload_n 408 dL_law_407 rfl rfl ?_
  refine wp_iload_n 409 dL_law_408 rfl rfl ?_
  refine wp_iconst (1 : Int32) 410 dL_law_409 kiconst_1 rfl ?_
  refine wp_iadd 411 dL_law_410 rfl ?_
  refine wp_sld 412 dL_law_411 rfl (lIn hi hL (j := 1) (by decide)) ?_
  refine wp_aload_n 413 dL_law_412 rfl rfl ?_
  refine wp_iload_n 414 dL_law_413 rfl rfl ?_
  refine wp_iconst (2 : Int32) 415 dL_law_414 kiconst_2 rfl ?_
  refine wp_iadd 416 dL_law_415 rfl ?_
  refine wp_sld 417 dL_law_416 rfl (lIn hi hL (j := 2) (by decide)) ?_
  refine wp_aload_n 418 dL_law_417 rfl rfl ?_
  refine wp_iload_n 419 dL_law_418 rfl rfl ?_
  refine wp_iconst (3 : Int32) 420 dL_law_419 kiconst_3 rfl ?_
  refine wp_iadd 421 dL_law_420 rfl ?_
  refine wp_sld 422 dL_law_421 rfl (lIn hi hL (j := 3) (by decide)) ?_
  refine wp_cV 130 3 [.int _, .int _, .int _] [] 425 dL_law_422 rfl (lk_L_39 rfl) (by decide) kd_0 rfl rfl rfl (Nat.le_of_ble_eq_true rfl) (Cal.mono (st_knotIs (by decide) hR _ _ _) (fun x h1 hk => ?_))
  refine wp_aload_n 426 dL_law_425 rfl rfl ?_
  refine wp_aload_n 427 dL_law_426 rfl rfl ?_
  refine wp_iload_n 428 dL_law_427 rfl rfl ?_
  refine wp_iconst (1 : Int32) 429 dL_law_428 kiconst_1 rfl ?_
  refine wp_iadd 430 dL_law_429 rfl ?_
  refine wp_sld 431 dL_law_430 rfl (lIn hi hL (j := 1) (by decide)) ?_
  refine wp_aload_n 432 dL_law_431 rfl rfl ?_
  refine wp_iload_n 433 dL_law_432 rfl rfl ?_
  refine wp_iconst (2 : Int32) 434 dL_law_433 kiconst_2 rfl ?_
  refine wp_iadd 435 dL_law_434 rfl ?_
  refine wp_sld 436 dL_law_435 rfl (lIn hi hL (j := 2) (by decide)) ?_
  refine wp_aload_n 437 dL_law_436 rfl rfl ?_
  refine wp_iload_n 438 dL_law_437 rfl rfl ?_
  refine wp_iconst (3 : Int32) 439 dL_law_438 kiconst_3 rfl ?_
  refine wp_iadd 440 dL_law_439 rfl ?_
  refine wp_sld 441 dL_law_440 rfl (lIn hi hL (j := 3) (by decide)) ?_
  refine wp_cV 130 3 [.int _, .int _, .int _] [.int x] 444 dL_law_441 rfl (lk_L_43 rfl) (by decide) kd_88 rfl rfl rfl (Nat.le_of_ble_eq_true rfl) (Cal.mono hk (fun y h2 hq => ?_))
  exact wp_icmp_eq 1353 447 dL_law_444 rfl rfl ⟨fun _ => next h2 hq.2, fun c => absurd hq.1 c⟩
theorem lc_7 (hR : kRel h) (hi : i + 6 ≤ L) (hL : L ≤ 3072) (next : ∀ h1, kRel h1 → Wp G 131 m_L (kEl G L xs) 1353 (lLs i) [] h1) : Wp G 131 m_L (kEl G L xs) 449 (lLs i) [] h := by
  refine wp_aload_n 450 dL_law_449 rfl rfl ?_
  refine wp_aload_n 451 dL_law_450 rfl rfl ?_
  refine wp_iload_n 452 dL_law_451 rfl rfl ?_
  refine wp_iconst (1 : Int32) 453 dL_law_452 kiconst_1 rfl ?_
  refine wp_iadd 454 dL_law_453 rfl ?_
  refine wp_sld 455 dL_law_454 rfl (lIn hi hL (j := 1) (by decide)) ?_
  refine wp_aload_n 456 dL_law_455 rfl rfl ?_
  refine wp_iload_n 457 dL_law_456 rfl rfl ?_
  refine wp_iconst (2 : Int32) 458 dL_law_457 kiconst_2 rfl ?_
  refine wp_iadd 459 dL_law_458 rfl ?_
  refine wp_sld 460 dL_law_459 rfl (lIn hi hL (j := 2) (by decide)) ?_
  refine wp_aload_n 461 dL_law_460 rfl rfl ?_
  refine wp_iload_n 462 dL_law_461 rfl rfl ?_
  refine wp_iconst (3 : Int32) 463 dL_law_462 kiconst_3 rfl ?_
  refine wp_iadd 464 dL_law_463 rfl ?_
  refine wp_sld 465 dL_law_464 rfl (lIn hi hL (j := 3) (by decide)) ?_
  refine wp_cV 130 3 [.int _, .int _, .int _] [] 468 dL_law_465 rfl (lk_L_44 rfl) (by decide) kd_0 rfl rfl rfl (Nat.le_of_ble_eq_true rfl) (Cal.mono (st_as (by decide) hR _ _ _) (fun x h1 hk => ?_))
  refine wp_aload_n 469 dL_law_468 rfl rfl ?_
  refine wp_aload_n 470 dL_law_469 rfl rfl ?_
  refine wp_iload_n 471 dL_law_470 rfl rfl ?_
  refine wp_iconst (1 : Int32) 472 dL_law_471 kiconst_1 rfl ?_
  refine wp_iadd 473 dL_law_472 rfl ?_
  refine wp_sld 474 dL_law_473 rfl (lIn hi hL (j := 1) (by decide)) ?_
  refine wp_aload_n 475 dL_law_474 rfl rfl ?_
  refine wp_iload_n 476 dL_law_475 rfl rfl ?_
  refine wp_iconst (2 : Int32) 477 dL_law_476 kiconst_2 rfl ?_
  refine wp_iadd 478 dL_law_477 rfl ?_
  refine wp_sld 479 dL_law_478 rfl (lIn hi hL (j := 2) (by decide)) ?_
  refine wp_aload_n 480 dL_law_479 rfl rfl ?_
  refine wp_iload_n 481 dL_law_480 rfl rfl ?_
  refine wp_iconst (3 : Int32) 482 dL_law_481 kiconst_3 rfl ?_
  refine wp_iadd 483 dL_law_482 rfl ?_
  refine wp_sld 484 dL_law_483 rfl (lIn hi hL (j := 3) (by decide)) ?_
  refine wp_cV 130 3 [.int _, .int _, .int _] [.int x] 487 dL_law_484 rfl (lk_L_47 rfl) (by decide) kd_88 rfl rfl rfl (Nat.le_of_ble_eq_true rfl) (Cal.mono hk (fun y h2 hq => ?_))
  exact wp_icmp_eq 1353 490 dL_law_487 rfl rfl ⟨fun _ => next h2 hq.2, fun c => absurd hq.1 c⟩
theorem lc_8 (hR : kRel h) (hi : i + 6 ≤ L) (hL : L ≤ 3072) (next : ∀ h1, kRel h1 → Wp G 131 m_L (kEl G L xs) 1353 (lLs i) [] h1) : Wp G 131 m_L (kEl G L xs) 492 (lLs i) [] h := by
  refine wp_aload_n 493 dL_law_492 rfl rfl ?_
  refine wp_aload_n 494 dL_law_493 rfl rfl ?_
  refine wp_iload_n 495 dL_law_494 rfl rfl ?_
  refine wp_iconst (1 : Int32) 496 dL_law_495 kiconst_1 rfl ?_
  refine wp_iadd 497 dL_law_496 rfl ?_
  refine wp_sld 498 dL_law_497 rfl (lIn hi hL (j := 1) (by decide)) ?_
  refine wp_aload_n 499 dL_law_498 rfl rfl ?_
  refine wp_iload_n 500 dL_law_499 rfl rfl ?_
  refine wp_iconst (2 : Int32) 501 dL_law_500 kiconst_2 rfl ?_
  refine wp_iadd 502 dL_law_501 rfl ?_
  refine wp_sld 503 dL_law_502 rfl (lIn hi hL (j := 2) (by decide)) ?_
  refine wp_cV 130 2 [.int _, .int _] [] 506 dL_law_503 rfl (lk_L_48 rfl) (by decide) kd_0 rfl rfl rfl (Nat.le_of_ble_eq_true rfl) (Cal.mono (st_loose (by decide) hR _ _) (fun x h1 hk => ?_))
  refine wp_aload_n 507 dL_law_506 rfl rfl ?_
  refine wp_aload_n 508 dL_law_507 rfl rfl ?_
  refine wp_iload_n 509 dL_law_508 rfl rfl ?_
  refine wp_iconst (1 : Int32) 510 dL_law_509 kiconst_1 rfl ?_
  refine wp_iadd 511 dL_law_510 rfl ?_
  refine wp_sld 512 dL_law_511 rfl (lIn hi hL (j := 1) (by decide)) ?_
  refine wp_aload_n 513 dL_law_512 rfl rfl ?_
  refine wp_iload_n 514 dL_law_513 rfl rfl ?_
  refine wp_iconst (2 : Int32) 515 dL_law_514 kiconst_2 rfl ?_
  refine wp_iadd 516 dL_law_515 rfl ?_
  refine wp_sld 517 dL_law_516 rfl (lIn hi hL (j := 2) (by decide)) ?_
  refine wp_cV 130 2 [.int _, .int _] [.int x] 520 dL_law_517 rfl (lk_L_51 rfl) (by decide) kd_88 rfl rfl rfl (Nat.le_of_ble_eq_true rfl) (Cal.mono hk (fun y h2 hq => ?_))
  exact wp_icmp_eq 1353 523 dL_law_520 rfl rfl ⟨fun _ => next h2 hq.2, fun c => absurd hq.1 c⟩
theorem lc_9 (hR : kRel h) (hi : i + 6 ≤ L) (hL : L ≤ 3072) (next : ∀ h1, kRel h1 → Wp G 131 m_L (kEl G L xs) 1353 (lLs i) [] h1) : Wp G 131 m_L (kEl G L xs) 525 (lLs i) [] h := by
  refine wp_aload_n 526 dL_law_525 rfl rfl ?_
  refine wp_aload_n 527 dL_law_526 rfl rfl ?_
  refine wp_iload_n 528 dL_law_527 rfl rfl ?_
  refine wp_iconst (1 : Int32) 529 dL_law_528 kiconst_1 rfl ?_
  refine wp_iadd 530 dL_law_529 rfl ?_
  refine wp_sld 531 dL_law_530 rfl (lIn hi hL (j := 1) (by decide)) ?_
  refine wp_cV 130 1 [.int _] [] 534 dL_law_531 rfl (lk_L_52 rfl) (by decide) kd_0 rfl rfl rfl (Nat.le_of_ble_eq_true rfl) (Cal.mono (st_wind (by decide) hR _) (fun x h1 hk => ?_))
  refine wp_aload_n 535 dL_law_534 rfl rfl ?_
  refine wp_aload_n 536 dL_law_535 rfl rfl ?_
  refine wp_iload_n 537 dL_law_536 rfl rfl ?_
  refine wp_iconst (1 : Int32) 538 dL_law_537 kiconst_1 rfl ?_
  refine wp_iadd 539 dL_law_538 rfl ?_
  refine wp_sld 540 dL_law_539 rfl (lIn hi hL (j := 1) (by decide)) ?_
  refine wp_cV 130 1 [.int _] [.int x] 543 dL_law_540 rfl (lk_L_56 rfl) (by decide) kd_88 rfl rfl rfl (Nat.le_of_ble_eq_true rfl) (Cal.mono hk (fun y h2 hq => ?_))
  exact wp_icmp_eq 1353 546 dL_law_543 rfl rfl ⟨fun _ => next h2 hq.2, fun c => absurd hq.1 c⟩
theorem lc_10 (hR : kRel h) (hi : i + 6 ≤ L) (hL : L ≤ 3072) (next : ∀ h1, kRel h1 → Wp G 131 m_L (kEl G L xs) 1353 (lLs i) [] h1) : Wp G 131 m_L (kEl G L xs) 548 (lLs i) [] h := by
  refine wp_aload_n 549 dL_law_548 rfl rfl ?_
  refine wp_aload_n 550 dL_law_549 rfl rfl ?_
  refine wp_iload_n 551 dL_law_550 rfl rfl ?_
  refine wp_iconst (1 : Int32) 552 dL_law_551 kiconst_1 rfl ?_
  refine wp_iadd 553 dL_law_552 rfl ?_
  refine wp_sld 554 dL_law_553 rfl (lIn hi hL (j := 1) (by decide)) ?_
  refine wp_i2l 555 dL_law_554 rfl ?_
  refine wp_bipush (32 : Int32) 557 dL_law_555 kbipush_32 rfl ?_
  refine wp_lshl 558 dL_law_557 rfl ?_
  refine wp_aload_n 559 dL_law_558 rfl rfl ?_
  refine wp_iload_n 560 dL_law_559 rfl rfl ?_
  refine wp_iconst (2 : Int32) 561 dL_law_560 kiconst_2 rfl ?_
  refine wp_iadd 562 dL_law_561 rfl ?_
  refine wp_sld 563 dL_law_562 rfl (lIn hi hL (j := 2) (by decide)) ?_
  refine wp_i2l 564 dL_law_563 rfl ?_
  refine wp_ldc2 4294967295 567 dL_law_564 lc_L_57 rfl ?_
  refine wp_land 568 dL_law_567 rfl ?_
  refine wp_lor 569 dL_law_568 rfl ?_
  refine wp_aload_n 570 dL_law_569 rfl rfl ?_
  refine wp_iload_n 571 dL_law_570 rfl rfl ?_
  refine wp_iconst (3 : Int32) 572 dL_law_571 kiconst_3 rfl ?_
  refine wp_iadd 573 dL_law_572 rfl ?_
  refine wp_sld 574 dL_law_573 rfl (lIn hi hL (j := 3) (by decide)) ?_
  refine wp_cV 130 2 [.long _, .int _] [] 577 dL_law_574 rfl (lk_L_59 rfl) (by decide) kd_0 rfl rfl rfl (Nat.le_of_ble_eq_true rfl) (Cal.mono (st_feed (by decide) hR _ _) (fun x h1 hk => ?_))
  refine wp_aload_n 578 dL_law_577 rfl rfl ?_
  refine wp_aload_n 579 dL_law_578 rfl rfl ?_
  refine wp_iload_n 580 dL_law_579 rfl rfl ?_
  refine wp_iconst (1 : Int32) 581 dL_law_580 kiconst_1 rfl ?_
  refine wp_iadd 582 dL_law_581 rfl ?_
  refine wp_sld 583 dL_law_582 rfl (lIn hi hL (j := 1) (by decide)) ?_
  refine wp_i2l 584 dL_law_583 rfl ?_
  refine wp_bipush (32 : Int32) 586 dL_law_584 kbipush_32 rfl ?_
  refine wp_lshl 587 dL_law_586 rfl ?_
  refine wp_aload_n 588 dL_law_587 rfl rfl ?_
  refine wp_iload_n 589 dL_law_588 rfl rfl ?_
  refine wp_iconst (2 : Int32) 590 dL_law_589 kiconst_2 rfl ?_
  refine wp_iadd 591 dL_law_590 rfl ?_
  refine wp_sld 592 dL_law_591 rfl (lIn hi hL (j := 2) (by decide)) ?_
  refine wp_i2l 593 dL_law_592 rfl ?_
  refine wp_ldc2 4294967295 596 dL_law_593 lc_L_57 rfl ?_
  refine wp_land 597 dL_law_596 rfl ?_
  refine wp_lor 598 dL_law_597 rfl ?_
  refine wp_aload_n 599 dL_law_598 rfl rfl ?_
  refine wp_iload_n 600 dL_law_599 rfl rfl ?_
  refine wp_iconst (3 : Int32) 601 dL_law_600 kiconst_3 rfl ?_
  refine wp_iadd 602 dL_law_601 rfl ?_
  refine wp_sld 603 dL_law_602 rfl (lIn hi hL (j := 3) (by decide)) ?_
  refine wp_cV 130 2 [.long _, .int _] [.int x] 606 dL_law_603 rfl (lk_L_63 rfl) (by decide) kd_88 rfl rfl rfl (Nat.le_of_ble_eq_true rfl) (Cal.mono hk (fun y h2 hq => ?_))
  exact wp_icmp_eq 1353 609 dL_law_606 rfl rfl ⟨fun _ => next h2 hq.2, fun c => absurd hq.1 c⟩
theorem lc_11 (hR : kRel h) (hi : i + 6 ≤ L) (hL : L ≤ 3072) (next : ∀ h1, kRel h1 → Wp G 131 m_L (kEl G L xs) 1353 (lLs i) [] h1) : Wp G 131 m_L (kEl G L xs) 611 (lLs i) [] h := by
  refine wp_aload_n 612 dL_law_611 rfl rfl ?_
  refine wp_aload_n 613 dL_law_612 rfl rfl ?_
  refine wp_iload_n 614 dL_law_613 rfl rfl ?_
  refine wp_iconst (1 : Int32) 615 dL_law_614 kiconst_1 rfl ?_
  refine wp_iadd 616 dL_law_615 rfl ?_
  refine wp_sld 617 dL_law_616 rfl (lIn hi hL (j := 1) (by decide)) ?_
  refine wp_cV 130 1 [.int _] [] 620 dL_law_617 rfl (lk_L_64 rfl) (by decide) kd_0 rfl rfl rfl (Nat.le_of_ble_eq_true rfl) (Cal.mono (st_text (by decide) hR _) (fun x h1 hk => ?_))
  refine wp_aload_n 621 dL_law_620 rfl rfl ?_
  refine wp_aload_n 622 dL_law_621 rfl rfl ?_
  refine wp_iload_n 623 dL_law_622 rfl rfl ?_
  refine wp_iconst (1 : Int32) 624 dL_law_623 kiconst_1 rfl ?_
  refine wp_iadd 625 dL_law_624 rfl ?_
  refine wp_sld 626 dL_law_625 rfl (lIn hi hL (j := 1) (by decide)) ?_
  refine wp_cV 130 1 [.int _] [.int x] 629 dL_law_626 rfl (lk_L_67 rfl) (by decide) kd_88 rfl rfl rfl (Nat.le_of_ble_eq_true rfl) (Cal.mono hk (fun y h2 hq => ?_))
  exact wp_icmp_eq 1353 632 dL_law_629 rfl rfl ⟨fun _ => next h2 hq.2, fun c => absurd hq.1 c⟩
theorem lc_12 (hR : kRel h) (hi : i + 6 ≤ L) (hL : L ≤ 3072) (next : ∀ h1, kRel h1 → Wp G 131 m_L (kEl G L xs) 1353 (lLs i) [] h1) : Wp G 131 m_L (kEl G L xs) 634 (lLs i) [] h := by
  refine wp_aload_n 635 dL_law_634 rfl rfl ?_
  refine wp_aload_n 636 dL_law_635 rfl rfl ?_
  refine wp_iload_n 637 dL_law_636 rfl rfl ?_
  refine wp_iconst (1 : Int32) 638 dL_law_637 kiconst_1 rfl ?_
  refine wp_iadd 639 dL_law_638 rfl ?_
  refine wp_sld 640 dL_law_639 rfl (lIn hi hL (j := 1) (by decide)) ?_
  refine wp_cV 130 1 [.int _] [] 643 dL_law_640 rfl (lk_L_68 rfl) (by decide) kd_0 rfl rfl rfl (Nat.le_of_ble_eq_true rfl) (Cal.mono (st_untell (by decide) hR _) (fun x h1 hk => ?_))
  refine wp_aload_n 644 dL_law_643 rfl rfl ?_
  refine wp_aload_n 645 dL_law_644 rfl rfl ?_
  refine wp_iload_n 646 dL_law_645 rfl rfl ?_
  refine wp_iconst (1 : Int32) 647 dL_law_646 kiconst_1 rfl ?_
  refine wp_iadd 648 dL_law_647 rfl ?_
  refine wp_sld 649 dL_law_648 rfl (lIn hi hL (j := 1) (by decide)) ?_
  refine wp_cV 130 1 [.int _] [.int x] 652 dL_law_649 rfl (lk_L_71 rfl) (by decide) kd_88 rfl rfl rfl (Nat.le_of_ble_eq_true rfl) (Cal.mono hk (fun y h2 hq => ?_))
  exact wp_icmp_eq 1353 655 dL_law_652 rfl rfl ⟨fun _ => next h2 hq.2, fun c => absurd hq.1 c⟩
theorem lc_13 (hR : kRel h) (hi : i + 6 ≤ L) (hL : L ≤ 3072) (next : ∀ h1, kRel h1 → Wp G 131 m_L (kEl G L xs) 1353 (lLs i) [] h1) : Wp G 131 m_L (kEl G L xs) 657 (lLs i) [] h := by
  refine wp_aload_n 658 dL_law_657 rfl rfl ?_
  refine wp_aload_n 659 dL_law_658 rfl rfl ?_
  refine wp_iload_n 660 dL_law_659 rfl rfl ?_
  refine wp_iconst (1 : Int32) 661 dL_law_660 kiconst_1 rfl ?_
  refine wp_iadd 662 dL_law_661 rfl ?_
  refine wp_sld 663 dL_law_662 rfl (lIn hi hL (j := 1) (by decide)) ?_
  refine wp_cV 130 1 [.int _] [] 666 dL_law_663 rfl (lk_L_72 rfl) (by decide) kd_0 rfl rfl rfl (Nat.le_of_ble_eq_true rfl) (Cal.mono (st_hours (by decide) hR _) (fun x h1 hk => ?_))
  refine wp_aload_n 667 dL_law_666 rfl rfl ?_
  refine wp_aload_n 668 dL_law_667 rfl rfl ?_
  refine wp_iload_n 669 dL_law_668 rfl rfl ?_
  refine wp_iconst (1 : Int32) 670 dL_law_669 kiconst_1 rfl ?_
  refine wp_iadd 671 dL_law_670 rfl ?_
  refine wp_sld 672 dL_law_671 rfl (lIn hi hL (j := 1) (by decide)) ?_
  refine wp_cV 130 1 [.int _] [.int x] 675 dL_law_672 rfl (lk_L_75 rfl) (by decide) kd_88 rfl rfl rfl (Nat.le_of_ble_eq_true rfl) (Cal.mono hk (fun y h2 hq => ?_))
  exact wp_icmp_eq 1353 678 dL_law_675 rfl rfl ⟨fun _ => next h2 hq.2, fun c => absurd hq.1 c⟩
theorem lc_14 (hR : kRel h) (hi : i + 6 ≤ L) (hL : L ≤ 3072) (next : ∀ h1, kRel h1 → Wp G 131 m_L (kEl G L xs) 1353 (lLs i) [] h1) : Wp G 131 m_L (kEl G L xs) 680 (lLs i) [] h := by
  refine wp_aload_n 681 dL_law_680 rfl rfl ?_
  refine wp_aload_n 682 dL_law_681 rfl rfl ?_
  refine wp_iload_n 683 dL_law_682 rfl rfl ?_
  refine wp_iconst (1 : Int32) 684 dL_law_683 kiconst_1 rfl ?_
  refine wp_iadd 685 dL_law_684 rfl ?_
  refine wp_sld 686 dL_law_685 rfl (lIn hi hL (j := 1) (by decide)) ?_
  refine wp_cV 130 1 [.int _] [] 689 dL_law_686 rfl (lk_L_76 rfl) (by decide) kd_0 rfl rfl rfl (Nat.le_of_ble_eq_true rfl) (Cal.mono (st_draws (by decide) hR _) (fun x h1 hk => ?_))
  refine wp_aload_n 690 dL_law_689 rfl rfl ?_
  refine wp_aload_n 691 dL_law_690 rfl rfl ?_
  refine wp_iload_n 692 dL_law_691 rfl rfl ?_
  refine wp_iconst (1 : Int32) 693 dL_law_692 kiconst_1 rfl ?_
  refine wp_iadd 694 dL_law_693 rfl ?_
  refine wp_sld 695 dL_law_694 rfl (lIn hi hL (j := 1) (by decide)) ?_
  refine wp_cV 130 1 [.int _] [.int x] 698 dL_law_695 rfl (lk_L_79 rfl) (by decide) kd_88 rfl rfl rfl (Nat.le_of_ble_eq_true rfl) (Cal.mono hk (fun y h2 hq => ?_))
  exact wp_icmp_eq 1353 701 dL_law_698 rfl rfl ⟨fun _ => next h2 hq.2, fun c => absurd hq.1 c⟩
theorem lc_15 (hR : kRel h) (hi : i + 6 ≤ L) (hL : L ≤ 3072) (next : ∀ h1, kRel h1 → Wp G 131 m_L (kEl G L xs) 1353 (lLs i) [] h1) : Wp G 131 m_L (kEl G L xs) 703 (lLs i) [] h := by
  refine wp_aload_n 704 dL_law_703 rfl rfl ?_
  refine wp_aload_n 705 dL_law_704 rfl rfl ?_
  refine wp_iload_n 706 dL_law_705 rfl rfl ?_
  refine wp_iconst (1 : Int32) 707 dL_law_706 kiconst_1 rfl ?_
  refine wp_iadd 708 dL_law_707 rfl ?_
  refine wp_sld 709 dL_law_708 rfl (lIn hi hL (j := 1) (by decide)) ?_
  refine wp_cV 130 1 [.int _] [] 712 dL_law_709 rfl (lk_L_80 rfl) (by decide) kd_0 rfl rfl rfl (Nat.le_of_ble_eq_true rfl) (Cal.mono (st_seed (by decide) hR _) (fun x h1 hk => ?_))
  refine wp_aload_n 713 dL_law_712 rfl rfl ?_
  refine wp_aload_n 714 dL_law_713 rfl rfl ?_
  refine wp_iload_n 715 dL_law_714 rfl rfl ?_
  refine wp_iconst (1 : Int32) 716 dL_law_715 kiconst_1 rfl ?_
  refine wp_iadd 717 dL_law_716 rfl ?_
  refine wp_sld 718 dL_law_717 rfl (lIn hi hL (j := 1) (by decide)) ?_
  refine wp_cV 130 1 [.int _] [.int x] 721 dL_law_718 rfl (lk_L_83 rfl) (by decide) kd_88 rfl rfl rfl (Nat.le_of_ble_eq_true rfl) (Cal.mono hk (fun y h2 hq => ?_))
  exact wp_icmp_eq 1353 724 dL_law_721 rfl rfl ⟨fun _ => next h2 hq.2, fun c => absurd hq.1 c⟩
theorem lc_16 (hR : kRel h) (hi : i + 6 ≤ L) (hL : L ≤ 3072) (next : ∀ h1, kRel h1 → Wp G 131 m_L (kEl G L xs) 1353 (lLs i) [] h1) : Wp G 131 m_L (kEl G L xs) 726 (lLs i) [] h := by
  refine wp_aload_n 727 dL_law_726 rfl rfl ?_
  refine wp_aload_n 728 dL_law_727 rfl rfl ?_
  refine wp_iload_n 729 dL_law_728 rfl rfl ?_
  refine wp_iconst (1 : Int32) 730 dL_law_729 kiconst_1 rfl ?_
  refine wp_iadd 731 dL_law_730 rfl ?_
  refine wp_sld 732 dL_law_731 rfl (lIn hi hL (j := 1) (by decide)) ?_
  refine wp_aload_n 733 dL_law_732 rfl rfl ?_
  refine wp_iload_n 734 dL_law_733 rfl rfl ?_
  refine wp_iconst (2 : Int32) 735 dL_law_734 kiconst_2 rfl ?_
  refine wp_iadd 736 dL_law_735 rfl ?_
  refine wp_sld 737 dL_law_736 rfl (lIn hi hL (j := 2) (by decide)) ?_
  refine wp_aload_n 738 dL_law_737 rfl rfl ?_
  refine wp_iload_n 739 dL_law_738 rfl rfl ?_
  refine wp_iconst (3 : Int32) 740 dL_law_739 kiconst_3 rfl ?_
  refine wp_iadd 741 dL_law_740 rfl ?_
  refine wp_sld 742 dL_law_741 rfl (lIn hi hL (j := 3) (by decide)) ?_
  refine wp_cV 130 3 [.int _, .int _, .int _] [] 745 dL_law_742 rfl (lk_L_84 rfl) (by decide) kd_0 rfl rfl rfl (Nat.le_of_ble_eq_true rfl) (Cal.mono (st_then (by decide) hR _ _ _) (fun x h1 hk => ?_))
  refine wp_aload_n 746 dL_law_745 rfl rfl ?_
  refine wp_aload_n 747 dL_law_746 rfl rfl ?_
  refine wp_iload_n 748 dL_law_747 rfl rfl ?_
  refine wp_iconst (1 : Int32) 749 dL_law_748 kiconst_1 rfl ?_
  refine wp_iadd 750 dL_law_749 rfl ?_
  refine wp_sld 751 dL_law_750 rfl (lIn hi hL (j := 1) (by decide)) ?_
  refine wp_aload_n 752 dL_law_751 rfl rfl ?_
  refine wp_iload_n 753 dL_law_752 rfl rfl ?_
  refine wp_iconst (2 : Int32) 754 dL_law_753 kiconst_2 rfl ?_
  refine wp_iadd 755 dL_law_754 rfl ?_
  refine wp_sld 756 dL_law_755 rfl (lIn hi hL (j := 2) (by decide)) ?_
  refine wp_aload_n 757 dL_law_756 rfl rfl ?_
  refine wp_iload_n 758 dL_law_757 rfl rfl ?_
  refine wp_iconst (3 : Int32) 759 dL_law_758 kiconst_3 rfl ?_
  refine wp_iadd 760 dL_law_759 rfl ?_
  refine wp_sld 761 dL_law_760 rfl (lIn hi hL (j := 3) (by decide)) ?_
  refine wp_cV 130 3 [.int _, .int _, .int _] [.int x] 764 dL_law_761 rfl (lk_L_87 rfl) (by decide) kd_88 rfl rfl rfl (Nat.le_of_ble_eq_true rfl) (Cal.mono hk (fun y h2 hq => ?_))
  exact wp_icmp_eq 1353 767 dL_law_764 rfl rfl ⟨fun _ => next h2 hq.2, fun c => absurd hq.1 c⟩
theorem lc_17 (hR : kRel h) (hi : i + 6 ≤ L) (hL : L ≤ 3072) (next : ∀ h1, kRel h1 → Wp G 131 m_L (kEl G L xs) 1353 (lLs i) [] h1) : Wp G 131 m_L (kEl G L xs) 769 (lLs i) [] h := by
  refine wp_aload_n 770 dL_law_769 rfl rfl ?_
  refine wp_aload_n 771 dL_law_770 rfl rfl ?_
  refine wp_iload_n 772 dL_law_771 rfl rfl ?_
  refine wp_iconst (1 : Int32) 773 dL_law_772 kiconst_1 rfl ?_
  refine wp_iadd 774 dL_law_773 rfl ?_
  refine wp_sld 775 dL_law_774 rfl (lIn hi hL (j := 1) (by decide)) ?_
  refine wp_aload_n 776 dL_law_775 rfl rfl ?_
  refine wp_iload_n 777 dL_law_776 rfl rfl ?_
  refine wp_iconst (2 : Int32) 778 dL_law_777 kiconst_2 rfl ?_
  refine wp_iadd 779 dL_law_778 rfl ?_
  refine wp_sld 780 dL_law_779 rfl (lIn hi hL (j := 2) (by decide)) ?_
  refine wp_cV 130 2 [.int _, .int _] [] 783 dL_law_780 rfl (lk_L_88 rfl) (by decide) kd_0 rfl rfl rfl (Nat.le_of_ble_eq_true rfl) (Cal.mono (st_home (by decide) hR _ _) (fun x h1 hk => ?_))
  refine wp_aload_n 784 dL_law_783 rfl rfl ?_
  refine wp_aload_n 785 dL_law_784 rfl rfl ?_
  refine wp_iload_n 786 dL_law_785 rfl rfl ?_
  refine wp_iconst (1 : Int32) 787 dL_law_786 kiconst_1 rfl ?_
  refine wp_iadd 788 dL_law_787 rfl ?_
  refine wp_sld 789 dL_law_788 rfl (lIn hi hL (j := 1) (by decide)) ?_
  refine wp_aload_n 790 dL_law_789 rfl rfl ?_
  refine wp_iload_n 791 dL_law_790 rfl rfl ?_
  refine wp_iconst (2 : Int32) 792 dL_law_791 kiconst_2 rfl ?_
  refine wp_iadd 793 dL_law_792 rfl ?_
  refine wp_sld 794 dL_law_793 rfl (lIn hi hL (j := 2) (by decide)) ?_
  refine wp_cV 130 2 [.int _, .int _] [.int x] 797 dL_law_794 rfl (lk_L_91 rfl) (by decide) kd_88 rfl rfl rfl (Nat.le_of_ble_eq_true rfl) (Cal.mono hk (fun y h2 hq => ?_))
  exact wp_icmp_eq 1353 800 dL_law_797 rfl rfl ⟨fun _ => next h2 hq.2, fun c => absurd hq.1 c⟩
theorem lc_18 (hR : kRel h) (hi : i + 6 ≤ L) (hL : L ≤ 3072) (next : ∀ h1, kRel h1 → Wp G 131 m_L (kEl G L xs) 1353 (lLs i) [] h1) : Wp G 131 m_L (kEl G L xs) 802 (lLs i) [] h := by
  refine wp_aload_n 803 dL_law_802 rfl rfl ?_
  refine wp_aload_n 804 dL_law_803 rfl rfl ?_
  refine wp_iload_n 805 dL_law_804 rfl rfl ?_
  refine wp_iconst (1 : Int32) 806 dL_law_805 kiconst_1 rfl ?_
  refine wp_iadd 807 dL_law_806 rfl ?_
  refine wp_sld 808 dL_law_807 rfl (lIn hi hL (j := 1) (by decide)) ?_
  refine wp_aload_n 809 dL_law_808 rfl rfl ?_
  refine wp_iload_n 810 dL_law_809 rfl rfl ?_
  refine wp_iconst (2 : Int32) 811 dL_law_810 kiconst_2 rfl ?_
  refine wp_iadd 812 dL_law_811 rfl ?_
  refine wp_sld 813 dL_law_812 rfl (lIn hi hL (j := 2) (by decide)) ?_
  refine wp_aload_n 814 dL_law_813 rfl rfl ?_
  refine wp_iload_n 815 dL_law_814 rfl rfl ?_
  refine wp_iconst (3 : Int32) 816 dL_law_815 kiconst_3 rfl ?_
  refine wp_iadd 817 dL_law_816 rfl ?_
  refine wp_sld 818 dL_law_817 rfl (lIn hi hL (j := 3) (by decide)) ?_
  refine wp_cV 130 3 [.int _, .int _, .int _] [] 821 dL_law_818 rfl (lk_L_92 rfl) (by decide) kd_0 rfl rfl rfl (Nat.le_of_ble_eq_true rfl) (Cal.mono (st_soonest (by decide) hR _ _ _) (fun x h1 hk => ?_))
  refine wp_aload_n 822 dL_law_821 rfl rfl ?_
  refine wp_aload_n 823 dL_law_822 rfl rfl ?_
  refine wp_iload_n 824 dL_law_823 rfl rfl ?_
  refine wp_iconst (1 : Int32) 825 dL_law_824 kiconst_1 rfl ?_
  refine wp_iadd 826 dL_law_825 rfl ?_
  refine wp_sld 827 dL_law_826 rfl (lIn hi hL (j := 1) (by decide)) ?_
  refine wp_aload_n 828 dL_law_827 rfl rfl ?_
  refine wp_iload_n 829 dL_law_828 rfl rfl ?_
  refine wp_iconst (2 : Int32) 830 dL_law_829 kiconst_2 rfl ?_
  refine wp_iadd 831 dL_law_830 rfl ?_
  refine wp_sld 832 dL_law_831 rfl (lIn hi hL (j := 2) (by decide)) ?_
  refine wp_aload_n 833 dL_law_832 rfl rfl ?_
  refine wp_iload_n 834 dL_law_833 rfl rfl ?_
  refine wp_iconst (3 : Int32) 835 dL_law_834 kiconst_3 rfl ?_
  refine wp_iadd 836 dL_law_835 rfl ?_
  refine wp_sld 837 dL_law_836 rfl (lIn hi hL (j := 3) (by decide)) ?_
  refine wp_cV 130 3 [.int _, .int _, .int _] [.int x] 840 dL_law_837 rfl (lk_L_95 rfl) (by decide) kd_88 rfl rfl rfl (Nat.le_of_ble_eq_true rfl) (Cal.mono hk (fun y h2 hq => ?_))
  exact wp_icmp_eq 1353 843 dL_law_840 rfl rfl ⟨fun _ => next h2 hq.2, fun c => absurd hq.1 c⟩
theorem lc_19 (hR : kRel h) (hi : i + 6 ≤ L) (hL : L ≤ 3072) (next : ∀ h1, kRel h1 → Wp G 131 m_L (kEl G L xs) 1353 (lLs i) [] h1) : Wp G 131 m_L (kEl G L xs) 845 (lLs i) [] h := by
  refine wp_aload_n 846 dL_law_845 rfl rfl ?_
  refine wp_aload_n 847 dL_law_846 rfl rfl ?_
  refine wp_iload_n 848 dL_law_847 rfl rfl ?_
  refine wp_iconst (1 : Int32) 849 dL_law_848 kiconst_1 rfl ?_
  refine wp_iadd 850 dL_law_849 rfl ?_
  refine wp_sld 851 dL_law_850 rfl (lIn hi hL (j := 1) (by decide)) ?_
  refine wp_aload_n 852 dL_law_851 rfl rfl ?_
  refine wp_iload_n 853 dL_law_852 rfl rfl ?_
  refine wp_iconst (2 : Int32) 854 dL_law_853 kiconst_2 rfl ?_
  refine wp_iadd 855 dL_law_854 rfl ?_
  refine wp_sld 856 dL_law_855 rfl (lIn hi hL (j := 2) (by decide)) ?_
  refine wp_cV 130 2 [.int _, .int _] [] 859 dL_law_856 rfl (lk_L_96 rfl) (by decide) kd_0 rfl rfl rfl (Nat.le_of_ble_eq_true rfl) (Cal.mono (st_bestKnot (by decide) hR _ _) (fun x h1 hk => ?_))
  refine wp_aload_n 860 dL_law_859 rfl rfl ?_
  refine wp_aload_n 861 dL_law_860 rfl rfl ?_
  refine wp_iload_n 862 dL_law_861 rfl rfl ?_
  refine wp_iconst (1 : Int32) 863 dL_law_862 kiconst_1 rfl ?_
  refine wp_iadd 864 dL_law_863 rfl ?_
  refine wp_sld 865 dL_law_864 rfl (lIn hi hL (j := 1) (by decide)) ?_
  refine wp_aload_n 866 dL_law_865 rfl rfl ?_
  refine wp_iload_n 867 dL_law_866 rfl rfl ?_
  refine wp_iconst (2 : Int32) 868 dL_law_867 kiconst_2 rfl ?_
  refine wp_iadd 869 dL_law_868 rfl ?_
  refine wp_sld 870 dL_law_869 rfl (lIn hi hL (j := 2) (by decide)) ?_
  refine wp_cV 130 2 [.int _, .int _] [.int x] 873 dL_law_870 rfl (lk_L_99 rfl) (by decide) kd_88 rfl rfl rfl (Nat.le_of_ble_eq_true rfl) (Cal.mono hk (fun y h2 hq => ?_))
  exact wp_icmp_eq 1353 876 dL_law_873 rfl rfl ⟨fun _ => next h2 hq.2, fun c => absurd hq.1 c⟩
theorem lc_20 (hR : kRel h) (hi : i + 6 ≤ L) (hL : L ≤ 3072) (next : ∀ h1, kRel h1 → Wp G 131 m_L (kEl G L xs) 1353 (lLs i) [] h1) : Wp G 131 m_L (kEl G L xs) 878 (lLs i) [] h := by
  refine wp_aload_n 879 dL_law_878 rfl rfl ?_
  refine wp_aload_n 880 dL_law_879 rfl rfl ?_
  refine wp_iload_n 881 dL_law_880 rfl rfl ?_
  refine wp_iconst (1 : Int32) 882 dL_law_881 kiconst_1 rfl ?_
  refine wp_iadd 883 dL_law_882 rfl ?_
  refine wp_sld 884 dL_law_883 rfl (lIn hi hL (j := 1) (by decide)) ?_
  refine wp_aload_n 885 dL_law_884 rfl rfl ?_
  refine wp_iload_n 886 dL_law_885 rfl rfl ?_
  refine wp_iconst (2 : Int32) 887 dL_law_886 kiconst_2 rfl ?_
  refine wp_iadd 888 dL_law_887 rfl ?_
  refine wp_sld 889 dL_law_888 rfl (lIn hi hL (j := 2) (by decide)) ?_
  refine wp_aload_n 890 dL_law_889 rfl rfl ?_
  refine wp_iload_n 891 dL_law_890 rfl rfl ?_
  refine wp_iconst (3 : Int32) 892 dL_law_891 kiconst_3 rfl ?_
  refine wp_iadd 893 dL_law_892 rfl ?_
  refine wp_sld 894 dL_law_893 rfl (lIn hi hL (j := 3) (by decide)) ?_
  refine wp_cV 130 3 [.int _, .int _, .int _] [] 897 dL_law_894 rfl (lk_L_100 rfl) (by decide) kd_0 rfl rfl rfl (Nat.le_of_ble_eq_true rfl) (Cal.mono (st_who (by decide) hR _ _ _) (fun x h1 hk => ?_))
  refine wp_aload_n 898 dL_law_897 rfl rfl ?_
  refine wp_aload_n 899 dL_law_898 rfl rfl ?_
  refine wp_iload_n 900 dL_law_899 rfl rfl ?_
  refine wp_iconst (1 : Int32) 901 dL_law_900 kiconst_1 rfl ?_
  refine wp_iadd 902 dL_law_901 rfl ?_
  refine wp_sld 903 dL_law_902 rfl (lIn hi hL (j := 1) (by decide)) ?_
  refine wp_aload_n 904 dL_law_903 rfl rfl ?_
  refine wp_iload_n 905 dL_law_904 rfl rfl ?_
  refine wp_iconst (2 : Int32) 906 dL_law_905 kiconst_2 rfl ?_
  refine wp_iadd 907 dL_law_906 rfl ?_
  refine wp_sld 908 dL_law_907 rfl (lIn hi hL (j := 2) (by decide)) ?_
  refine wp_aload_n 909 dL_law_908 rfl rfl ?_
  refine wp_iload_n 910 dL_law_909 rfl rfl ?_
  refine wp_iconst (3 : Int32) 911 dL_law_910 kiconst_3 rfl ?_
  refine wp_iadd 912 dL_law_911 rfl ?_
  refine wp_sld 913 dL_law_912 rfl (lIn hi hL (j := 3) (by decide)) ?_
  refine wp_cV 130 3 [.int _, .int _, .int _] [.int x] 916 dL_law_913 rfl (lk_L_103 rfl) (by decide) kd_88 rfl rfl rfl (Nat.le_of_ble_eq_true rfl) (Cal.mono hk (fun y h2 hq => ?_))
  exact wp_icmp_eq 1353 919 dL_law_916 rfl rfl ⟨fun _ => next h2 hq.2, fun c => absurd hq.1 c⟩
theorem lc_21 (hR : kRel h) (hi : i + 6 ≤ L) (hL : L ≤ 3072) (next : ∀ h1, kRel h1 → Wp G 131 m_L (kEl G L xs) 1353 (lLs i) [] h1) : Wp G 131 m_L (kEl G L xs) 921 (lLs i) [] h := by
  refine wp_aload_n 922 dL_law_921 rfl rfl ?_
  refine wp_aload_n 923 dL_law_922 rfl rfl ?_
  refine wp_iload_n 924 dL_law_923 rfl rfl ?_
  refine wp_iconst (1 : Int32) 925 dL_law_924 kiconst_1 rfl ?_
  refine wp_iadd 926 dL_law_925 rfl ?_
  refine wp_sld 927 dL_law_926 rfl (lIn hi hL (j := 1) (by decide)) ?_
  refine wp_aload_n 928 dL_law_927 rfl rfl ?_
  refine wp_iload_n 929 dL_law_928 rfl rfl ?_
  refine wp_iconst (2 : Int32) 930 dL_law_929 kiconst_2 rfl ?_
  refine wp_iadd 931 dL_law_930 rfl ?_
  refine wp_sld 932 dL_law_931 rfl (lIn hi hL (j := 2) (by decide)) ?_
  refine wp_aload_n 933 dL_law_932 rfl rfl ?_
  refine wp_iload_n 934 dL_law_933 rfl rfl ?_
  refine wp_iconst (3 : Int32) 935 dL_law_934 kiconst_3 rfl ?_
  refine wp_iadd 936 dL_law_935 rfl ?_
  refine wp_sld 937 dL_law_936 rfl (lIn hi hL (j := 3) (by decide)) ?_
  refine wp_cV 130 3 [.int _, .int _, .int _] [] 940 dL_law_937 rfl (lk_L_104 rfl) (by decide) kd_0 rfl rfl rfl (Nat.le_of_ble_eq_true rfl) (Cal.mono (st_race (by decide) hR _ _ _) (fun x h1 hk => ?_))
  refine wp_aload_n 941 dL_law_940 rfl rfl ?_
  refine wp_aload_n 942 dL_law_941 rfl rfl ?_
  refine wp_iload_n 943 dL_law_942 rfl rfl ?_
  refine wp_iconst (1 : Int32) 944 dL_law_943 kiconst_1 rfl ?_
  refine wp_iadd 945 dL_law_944 rfl ?_
  refine wp_sld 946 dL_law_945 rfl (lIn hi hL (j := 1) (by decide)) ?_
  refine wp_aload_n 947 dL_law_946 rfl rfl ?_
  refine wp_iload_n 948 dL_law_947 rfl rfl ?_
  refine wp_iconst (2 : Int32) 949 dL_law_948 kiconst_2 rfl ?_
  refine wp_iadd 950 dL_law_949 rfl ?_
  refine wp_sld 951 dL_law_950 rfl (lIn hi hL (j := 2) (by decide)) ?_
  refine wp_aload_n 952 dL_law_951 rfl rfl ?_
  refine wp_iload_n 953 dL_law_952 rfl rfl ?_
  refine wp_iconst (3 : Int32) 954 dL_law_953 kiconst_3 rfl ?_
  refine wp_iadd 955 dL_law_954 rfl ?_
  refine wp_sld 956 dL_law_955 rfl (lIn hi hL (j := 3) (by decide)) ?_
  refine wp_cV 130 3 [.int _, .int _, .int _] [.int x] 959 dL_law_956 rfl (lk_L_107 rfl) (by decide) kd_88 rfl rfl rfl (Nat.le_of_ble_eq_true rfl) (Cal.mono hk (fun y h2 hq => ?_))
  exact wp_icmp_eq 1353 962 dL_law_959 rfl rfl ⟨fun _ => next h2 hq.2, fun c => absurd hq.1 c⟩
theorem lc_22 (hR : kRel h) (hi : i + 6 ≤ L) (hL : L ≤ 3072) (next : ∀ h1, kRel h1 → Wp G 131 m_L (kEl G L xs) 1353 (lLs i) [] h1) : Wp G 131 m_L (kEl G L xs) 964 (lLs i) [] h := by
  refine wp_aload_n 965 dL_law_964 rfl rfl ?_
  refine wp_aload_n 966 dL_law_965 rfl rfl ?_
  refine wp_iload_n 967 dL_law_966 rfl rfl ?_
  refine wp_iconst (1 : Int32) 968 dL_law_967 kiconst_1 rfl ?_
  refine wp_iadd 969 dL_law_968 rfl ?_
  refine wp_sld 970 dL_law_969 rfl (lIn hi hL (j := 1) (by decide)) ?_
  refine wp_aload_n 971 dL_law_970 rfl rfl ?_
  refine wp_iload_n 972 dL_law_971 rfl rfl ?_
  refine wp_iconst (2 : Int32) 973 dL_law_972 kiconst_2 rfl ?_
  refine wp_iadd 974 dL_law_973 rfl ?_
  refine wp_sld 975 dL_law_974 rfl (lIn hi hL (j := 2) (by decide)) ?_
  refine wp_aload_n 976 dL_law_975 rfl rfl ?_
  refine wp_iload_n 977 dL_law_976 rfl rfl ?_
  refine wp_iconst (3 : Int32) 978 dL_law_977 kiconst_3 rfl ?_
  refine wp_iadd 979 dL_law_978 rfl ?_
  refine wp_sld 980 dL_law_979 rfl (lIn hi hL (j := 3) (by decide)) ?_
  refine wp_aload_n 981 dL_law_980 rfl rfl ?_
  refine wp_iload_n 982 dL_law_981 rfl rfl ?_
  refine wp_iconst (4 : Int32) 983 dL_law_982 kiconst_4 rfl ?_
  refine wp_iadd 984 dL_law_983 rfl ?_
  refine wp_sld 985 dL_law_984 rfl (lIn hi hL (j := 4) (by decide)) ?_
  refine wp_cV 130 4 [.int _, .int _, .int _, .int _] [] 988 dL_law_985 rfl (lk_L_108 rfl) (by decide) kd_0 rfl rfl rfl (Nat.le_of_ble_eq_true rfl) (Cal.mono (st_voice (by decide) hR _ _ _ _) (fun x h1 hk => ?_))
  refine wp_aload_n 989 dL_law_988 rfl rfl ?_
  refine wp_aload_n 990 dL_law_989 rfl rfl ?_
  refine wp_iload_n 991 dL_law_990 rfl rfl ?_
  refine wp_iconst (1 : Int32) 992 dL_law_991 kiconst_1 rfl ?_
  refine wp_iadd 993 dL_law_992 rfl ?_
  refine wp_sld 994 dL_law_993 rfl (lIn hi hL (j := 1) (by decide)) ?_
  refine wp_aload_n 995 dL_law_994 rfl rfl ?_
  refine wp_iload_n 996 dL_law_995 rfl rfl ?_
  refine wp_iconst (2 : Int32) 997 dL_law_996 kiconst_2 rfl ?_
  refine wp_iadd 998 dL_law_997 rfl ?_
  refine wp_sld 999 dL_law_998 rfl (lIn hi hL (j := 2) (by decide)) ?_
  refine wp_aload_n 1000 dL_law_999 rfl rfl ?_
  refine wp_iload_n 1001 dL_law_1000 rfl rfl ?_
  refine wp_iconst (3 : Int32) 1002 dL_law_1001 kiconst_3 rfl ?_
  refine wp_iadd 1003 dL_law_1002 rfl ?_
  refine wp_sld 1004 dL_law_1003 rfl (lIn hi hL (j := 3) (by decide)) ?_
  refine wp_aload_n 1005 dL_law_1004 rfl rfl ?_
  refine wp_iload_n 1006 dL_law_1005 rfl rfl ?_
  refine wp_iconst (4 : Int32) 1007 dL_law_1006 kiconst_4 rfl ?_
  refine wp_iadd 1008 dL_law_1007 rfl ?_
  refine wp_sld 1009 dL_law_1008 rfl (lIn hi hL (j := 4) (by decide)) ?_
  refine wp_cV 130 4 [.int _, .int _, .int _, .int _] [.int x] 1012 dL_law_1009 rfl (lk_L_111 rfl) (by decide) kd_88 rfl rfl rfl (Nat.le_of_ble_eq_true rfl) (Cal.mono hk (fun y h2 hq => ?_))
  exact wp_icmp_eq 1353 1015 dL_law_1012 rfl rfl ⟨fun _ => next h2 hq.2, fun c => absurd hq.1 c⟩
theorem lc_23 (hR : kRel h) (hi : i + 6 ≤ L) (hL : L ≤ 3072) (next : ∀ h1, kRel h1 → Wp G 131 m_L (kEl G L xs) 1353 (lLs i) [] h1) : Wp G 131 m_L (kEl G L xs) 1017 (lLs i) [] h := by
  refine wp_aload_n 1018 dL_law_1017 rfl rfl ?_
  refine wp_aload_n 1019 dL_law_1018 rfl rfl ?_
  refine wp_iload_n 1020 dL_law_1019 rfl rfl ?_
  refine wp_iconst (1 : Int32) 1021 dL_law_1020 kiconst_1 rfl ?_
  refine wp_iadd 1022 dL_law_1021 rfl ?_
  refine wp_sld 1023 dL_law_1022 rfl (lIn hi hL (j := 1) (by decide)) ?_
  refine wp_cV 130 1 [.int _] [] 1026 dL_law_1023 rfl (lk_L_112 rfl) (by decide) kd_0 rfl rfl rfl (Nat.le_of_ble_eq_true rfl) (Cal.mono (st_body (by decide) hR _) (fun x h1 hk => ?_))
  refine wp_aload_n 1027 dL_law_1026 rfl rfl ?_
  refine wp_aload_n 1028 dL_law_1027 rfl rfl ?_
  refine wp_iload_n 1029 dL_law_1028 rfl rfl ?_
  refine wp_iconst (1 : Int32) 1030 dL_law_1029 kiconst_1 rfl ?_
  refine wp_iadd 1031 dL_law_1030 rfl ?_
  refine wp_sld 1032 dL_law_1031 rfl (lIn hi hL (j := 1) (by decide)) ?_
  refine wp_cV 130 1 [.int _] [.int x] 1035 dL_law_1032 rfl (lk_L_115 rfl) (by decide) kd_88 rfl rfl rfl (Nat.le_of_ble_eq_true rfl) (Cal.mono hk (fun y h2 hq => ?_))
  exact wp_icmp_eq 1353 1038 dL_law_1035 rfl rfl ⟨fun _ => next h2 hq.2, fun c => absurd hq.1 c⟩
theorem lc_24 (hR : kRel h) (hi : i + 6 ≤ L) (hL : L ≤ 3072) (next : ∀ h1, kRel h1 → Wp G 131 m_L (kEl G L xs) 1353 (lLs i) [] h1) : Wp G 131 m_L (kEl G L xs) 1040 (lLs i) [] h := by
  refine wp_aload_n 1041 dL_law_1040 rfl rfl ?_
  refine wp_aload_n 1042 dL_law_1041 rfl rfl ?_
  refine wp_iload_n 1043 dL_law_1042 rfl rfl ?_
  refine wp_iconst (1 : Int32) 1044 dL_law_1043 kiconst_1 rfl ?_
  refine wp_iadd 1045 dL_law_1044 rfl ?_
  refine wp_sld 1046 dL_law_1045 rfl (lIn hi hL (j := 1) (by decide)) ?_
  refine wp_aload_n 1047 dL_law_1046 rfl rfl ?_
  refine wp_iload_n 1048 dL_law_1047 rfl rfl ?_
  refine wp_iconst (2 : Int32) 1049 dL_law_1048 kiconst_2 rfl ?_
  refine wp_iadd 1050 dL_law_1049 rfl ?_
  refine wp_sld 1051 dL_law_1050 rfl (lIn hi hL (j := 2) (by decide)) ?_
  refine wp_aload_n 1052 dL_law_1051 rfl rfl ?_
  refine wp_iload_n 1053 dL_law_1052 rfl rfl ?_
  refine wp_iconst (3 : Int32) 1054 dL_law_1053 kiconst_3 rfl ?_
  refine wp_iadd 1055 dL_law_1054 rfl ?_
  refine wp_sld 1056 dL_law_1055 rfl (lIn hi hL (j := 3) (by decide)) ?_
  refine wp_cV 130 3 [.int _, .int _, .int _] [] 1059 dL_law_1056 rfl (lk_L_116 rfl) (by decide) kd_0 rfl rfl rfl (Nat.le_of_ble_eq_true rfl) (Cal.mono (st_sheet (by decide) hR _ _ _) (fun x h1 hk => ?_))
  refine wp_aload_n 1060 dL_law_1059 rfl rfl ?_
  refine wp_aload_n 1061 dL_law_1060 rfl rfl ?_
  refine wp_iload_n 1062 dL_law_1061 rfl rfl ?_
  refine wp_iconst (1 : Int32) 1063 dL_law_1062 kiconst_1 rfl ?_
  refine wp_iadd 1064 dL_law_1063 rfl ?_
  refine wp_sld 1065 dL_law_1064 rfl (lIn hi hL (j := 1) (by decide)) ?_
  refine wp_aload_n 1066 dL_law_1065 rfl rfl ?_
  refine wp_iload_n 1067 dL_law_1066 rfl rfl ?_
  refine wp_iconst (2 : Int32) 1068 dL_law_1067 kiconst_2 rfl ?_
  refine wp_iadd 1069 dL_law_1068 rfl ?_
  refine wp_sld 1070 dL_law_1069 rfl (lIn hi hL (j := 2) (by decide)) ?_
  refine wp_aload_n 1071 dL_law_1070 rfl rfl ?_
  refine wp_iload_n 1072 dL_law_1071 rfl rfl ?_
  refine wp_iconst (3 : Int32) 1073 dL_law_1072 kiconst_3 rfl ?_
  refine wp_iadd 1074 dL_law_1073 rfl ?_
  refine wp_sld 1075 dL_law_1074 rfl (lIn hi hL (j := 3) (by decide)) ?_
  refine wp_cV 130 3 [.int _, .int _, .int _] [.int x] 1078 dL_law_1075 rfl (lk_L_119 rfl) (by decide) kd_88 rfl rfl rfl (Nat.le_of_ble_eq_true rfl) (Cal.mono hk (fun y h2 hq => ?_))
  exact wp_icmp_eq 1353 1081 dL_law_1078 rfl rfl ⟨fun _ => next h2 hq.2, fun c => absurd hq.1 c⟩
theorem lc_25 (hR : kRel h) (hi : i + 6 ≤ L) (hL : L ≤ 3072) (next : ∀ h1, kRel h1 → Wp G 131 m_L (kEl G L xs) 1353 (lLs i) [] h1) : Wp G 131 m_L (kEl G L xs) 1083 (lLs i) [] h := by
  refine wp_aload_n 1084 dL_law_1083 rfl rfl ?_
  refine wp_aload_n 1085 dL_law_1084 rfl rfl ?_
  refine wp_iload_n 1086 dL_law_1085 rfl rfl ?_
  refine wp_iconst (1 : Int32) 1087 dL_law_1086 kiconst_1 rfl ?_
  refine wp_iadd 1088 dL_law_1087 rfl ?_
  refine wp_sld 1089 dL_law_1088 rfl (lIn hi hL (j := 1) (by decide)) ?_
  refine wp_aload_n 1090 dL_law_1089 rfl rfl ?_
  refine wp_iload_n 1091 dL_law_1090 rfl rfl ?_
  refine wp_iconst (2 : Int32) 1092 dL_law_1091 kiconst_2 rfl ?_
  refine wp_iadd 1093 dL_law_1092 rfl ?_
  refine wp_sld 1094 dL_law_1093 rfl (lIn hi hL (j := 2) (by decide)) ?_
  refine wp_aload_n 1095 dL_law_1094 rfl rfl ?_
  refine wp_iload_n 1096 dL_law_1095 rfl rfl ?_
  refine wp_iconst (3 : Int32) 1097 dL_law_1096 kiconst_3 rfl ?_
  refine wp_iadd 1098 dL_law_1097 rfl ?_
  refine wp_sld 1099 dL_law_1098 rfl (lIn hi hL (j := 3) (by decide)) ?_
  refine wp_cV 130 3 [.int _, .int _, .int _] [] 1102 dL_law_1099 rfl (lk_L_120 rfl) (by decide) kd_0 rfl rfl rfl (Nat.le_of_ble_eq_true rfl) (Cal.mono (st_put (by decide) hR _ _ _) (fun x h1 hk => ?_))
  refine wp_aload_n 1103 dL_law_1102 rfl rfl ?_
  refine wp_aload_n 1104 dL_law_1103 rfl rfl ?_
  refine wp_iload_n 1105 dL_law_1104 rfl rfl ?_
  refine wp_iconst (1 : Int32) 1106 dL_law_1105 kiconst_1 rfl ?_
  refine wp_iadd 1107 dL_law_1106 rfl ?_
  refine wp_sld 1108 dL_law_1107 rfl (lIn hi hL (j := 1) (by decide)) ?_
  refine wp_aload_n 1109 dL_law_1108 rfl rfl ?_
  refine wp_iload_n 1110 dL_law_1109 rfl rfl ?_
  refine wp_iconst (2 : Int32) 1111 dL_law_1110 kiconst_2 rfl ?_
  refine wp_iadd 1112 dL_law_1111 rfl ?_
  refine wp_sld 1113 dL_law_1112 rfl (lIn hi hL (j := 2) (by decide)) ?_
  refine wp_aload_n 1114 dL_law_1113 rfl rfl ?_
  refine wp_iload_n 1115 dL_law_1114 rfl rfl ?_
  refine wp_iconst (3 : Int32) 1116 dL_law_1115 kiconst_3 rfl ?_
  refine wp_iadd 1117 dL_law_1116 rfl ?_
  refine wp_sld 1118 dL_law_1117 rfl (lIn hi hL (j := 3) (by decide)) ?_
  refine wp_cV 130 3 [.int _, .int _, .int _] [.int x] 1121 dL_law_1118 rfl (lk_L_123 rfl) (by decide) kd_88 rfl rfl rfl (Nat.le_of_ble_eq_true rfl) (Cal.mono hk (fun y h2 hq => ?_))
  exact wp_icmp_eq 1353 1124 dL_law_1121 rfl rfl ⟨fun _ => next h2 hq.2, fun c => absurd hq.1 c⟩
theorem lc_26 (hR : kRel h) (hi : i + 6 ≤ L) (hL : L ≤ 3072) (next : ∀ h1, kRel h1 → Wp G 131 m_L (kEl G L xs) 1353 (lLs i) [] h1) : Wp G 131 m_L (kEl G L xs) 1126 (lLs i) [] h := by
  refine wp_aload_n 1127 dL_law_1126 rfl rfl ?_
  refine wp_aload_n 1128 dL_law_1127 rfl rfl ?_
  refine wp_iload_n 1129 dL_law_1128 rfl rfl ?_
  refine wp_iconst (1 : Int32) 1130 dL_law_1129 kiconst_1 rfl ?_
  refine wp_iadd 1131 dL_law_1130 rfl ?_
  refine wp_sld 1132 dL_law_1131 rfl (lIn hi hL (j := 1) (by decide)) ?_
  refine wp_aload_n 1133 dL_law_1132 rfl rfl ?_
  refine wp_iload_n 1134 dL_law_1133 rfl rfl ?_
  refine wp_iconst (2 : Int32) 1135 dL_law_1134 kiconst_2 rfl ?_
  refine wp_iadd 1136 dL_law_1135 rfl ?_
  refine wp_sld 1137 dL_law_1136 rfl (lIn hi hL (j := 2) (by decide)) ?_
  refine wp_aload_n 1138 dL_law_1137 rfl rfl ?_
  refine wp_iload_n 1139 dL_law_1138 rfl rfl ?_
  refine wp_iconst (3 : Int32) 1140 dL_law_1139 kiconst_3 rfl ?_
  refine wp_iadd 1141 dL_law_1140 rfl ?_
  refine wp_sld 1142 dL_law_1141 rfl (lIn hi hL (j := 3) (by decide)) ?_
  refine wp_aload_n 1143 dL_law_1142 rfl rfl ?_
  refine wp_iload_n 1144 dL_law_1143 rfl rfl ?_
  refine wp_iconst (4 : Int32) 1145 dL_law_1144 kiconst_4 rfl ?_
  refine wp_iadd 1146 dL_law_1145 rfl ?_
  refine wp_sld 1147 dL_law_1146 rfl (lIn hi hL (j := 4) (by decide)) ?_
  refine wp_aload_n 1148 dL_law_1147 rfl rfl ?_
  refine wp_iload_n 1149 dL_law_1148 rfl rfl ?_
  refine wp_iconst (5 : Int32) 1150 dL_law_1149 kiconst_5 rfl ?_
  refine wp_iadd 1151 dL_law_1150 rfl ?_
  refine wp_sld 1152 dL_law_1151 rfl (lIn hi hL (j := 5) (by decide)) ?_
  refine wp_cV 130 5 [.int _, .int _, .int _, .int _, .int _] [] 1155 dL_law_1152 rfl (lk_L_124 rfl) (by decide) kd_0 rfl rfl rfl (Nat.le_of_ble_eq_true rfl) (Cal.mono (st_move (by decide) hR _ _ _ _ _) (fun x h1 hk => ?_))
  refine wp_aload_n 1156 dL_law_1155 rfl rfl ?_
  refine wp_aload_n 1157 dL_law_1156 rfl rfl ?_
  refine wp_iload_n 1158 dL_law_1157 rfl rfl ?_
  refine wp_iconst (1 : Int32) 1159 dL_law_1158 kiconst_1 rfl ?_
  refine wp_iadd 1160 dL_law_1159 rfl ?_
  refine wp_sld 1161 dL_law_1160 rfl (lIn hi hL (j := 1) (by decide)) ?_
  refine wp_aload_n 1162 dL_law_1161 rfl rfl ?_
  refine wp_iload_n 1163 dL_law_1162 rfl rfl ?_
  refine wp_iconst (2 : Int32) 1164 dL_law_1163 kiconst_2 rfl ?_
  refine wp_iadd 1165 dL_law_1164 rfl ?_
  refine wp_sld 1166 dL_law_1165 rfl (lIn hi hL (j := 2) (by decide)) ?_
  refine wp_aload_n 1167 dL_law_1166 rfl rfl ?_
  refine wp_iload_n 1168 dL_law_1167 rfl rfl ?_
  refine wp_iconst (3 : Int32) 1169 dL_law_1168 kiconst_3 rfl ?_
  refine wp_iadd 1170 dL_law_1169 rfl ?_
  refine wp_sld 1171 dL_law_1170 rfl (lIn hi hL (j := 3) (by decide)) ?_
  refine wp_aload_n 1172 dL_law_1171 rfl rfl ?_
  refine wp_iload_n 1173 dL_law_1172 rfl rfl ?_
  refine wp_iconst (4 : Int32) 1174 dL_law_1173 kiconst_4 rfl ?_
  refine wp_iadd 1175 dL_law_1174 rfl ?_
  refine wp_sld 1176 dL_law_1175 rfl (lIn hi hL (j := 4) (by decide)) ?_
  refine wp_aload_n 1177 dL_law_1176 rfl rfl ?_
  refine wp_iload_n 1178 dL_law_1177 rfl rfl ?_
  refine wp_iconst (5 : Int32) 1179 dL_law_1178 kiconst_5 rfl ?_
  refine wp_iadd 1180 dL_law_1179 rfl ?_
  refine wp_sld 1181 dL_law_1180 rfl (lIn hi hL (j := 5) (by decide)) ?_
  refine wp_cV 130 5 [.int _, .int _, .int _, .int _, .int _] [.int x] 1184 dL_law_1181 rfl (lk_L_128 rfl) (by decide) kd_88 rfl rfl rfl (Nat.le_of_ble_eq_true rfl) (Cal.mono hk (fun y h2 hq => ?_))
  exact wp_icmp_eq 1353 1187 dL_law_1184 rfl rfl ⟨fun _ => next h2 hq.2, fun c => absurd hq.1 c⟩
theorem lc_27 (hR : kRel h) (hi : i + 6 ≤ L) (hL : L ≤ 3072) (next : ∀ h1, kRel h1 → Wp G 131 m_L (kEl G L xs) 1353 (lLs i) [] h1) : Wp G 131 m_L (kEl G L xs) 1189 (lLs i) [] h := by
  refine wp_aload_n 1190 dL_law_1189 rfl rfl ?_
  refine wp_aload_n 1191 dL_law_1190 rfl rfl ?_
  refine wp_iload_n 1192 dL_law_1191 rfl rfl ?_
  refine wp_iconst (1 : Int32) 1193 dL_law_1192 kiconst_1 rfl ?_
  refine wp_iadd 1194 dL_law_1193 rfl ?_
  refine wp_sld 1195 dL_law_1194 rfl (lIn hi hL (j := 1) (by decide)) ?_
  refine wp_cV 130 1 [.int _] [] 1198 dL_law_1195 rfl (lk_L_129 rfl) (by decide) kd_0 rfl rfl rfl (Nat.le_of_ble_eq_true rfl) (Cal.mono (st_lands (by decide) hR _) (fun x h1 hk => ?_))
  refine wp_aload_n 1199 dL_law_1198 rfl rfl ?_
  refine wp_aload_n 1200 dL_law_1199 rfl rfl ?_
  refine wp_iload_n 1201 dL_law_1200 rfl rfl ?_
  refine wp_iconst (1 : Int32) 1202 dL_law_1201 kiconst_1 rfl ?_
  refine wp_iadd 1203 dL_law_1202 rfl ?_
  refine wp_sld 1204 dL_law_1203 rfl (lIn hi hL (j := 1) (by decide)) ?_
  refine wp_cV 130 1 [.int _] [.int x] 1207 dL_law_1204 rfl (lk_L_132 rfl) (by decide) kd_88 rfl rfl rfl (Nat.le_of_ble_eq_true rfl) (Cal.mono hk (fun y h2 hq => ?_))
  exact wp_icmp_eq 1353 1210 dL_law_1207 rfl rfl ⟨fun _ => next h2 hq.2, fun c => absurd hq.1 c⟩
theorem lc_28 (hR : kRel h) (hi : i + 6 ≤ L) (hL : L ≤ 3072) (next : ∀ h1, kRel h1 → Wp G 131 m_L (kEl G L xs) 1353 (lLs i) [] h1) : Wp G 131 m_L (kEl G L xs) 1212 (lLs i) [] h := by
  refine wp_aload_n 1213 dL_law_1212 rfl rfl ?_
  refine wp_aload_n 1214 dL_law_1213 rfl rfl ?_
  refine wp_iload_n 1215 dL_law_1214 rfl rfl ?_
  refine wp_iconst (1 : Int32) 1216 dL_law_1215 kiconst_1 rfl ?_
  refine wp_iadd 1217 dL_law_1216 rfl ?_
  refine wp_sld 1218 dL_law_1217 rfl (lIn hi hL (j := 1) (by decide)) ?_
  refine wp_aload_n 1219 dL_law_1218 rfl rfl ?_
  refine wp_iload_n 1220 dL_law_1219 rfl rfl ?_
  refine wp_iconst (2 : Int32) 1221 dL_law_1220 kiconst_2 rfl ?_
  refine wp_iadd 1222 dL_law_1221 rfl ?_
  refine wp_sld 1223 dL_law_1222 rfl (lIn hi hL (j := 2) (by decide)) ?_
  refine wp_cV 130 2 [.int _, .int _] [] 1226 dL_law_1223 rfl (lk_L_133 rfl) (by decide) kd_0 rfl rfl rfl (Nat.le_of_ble_eq_true rfl) (Cal.mono (st_judge (by decide) hR _ _) (fun x h1 hk => ?_))
  refine wp_aload_n 1227 dL_law_1226 rfl rfl ?_
  refine wp_aload_n 1228 dL_law_1227 rfl rfl ?_
  refine wp_iload_n 1229 dL_law_1228 rfl rfl ?_
  refine wp_iconst (1 : Int32) 1230 dL_law_1229 kiconst_1 rfl ?_
  refine wp_iadd 1231 dL_law_1230 rfl ?_
  refine wp_sld 1232 dL_law_1231 rfl (lIn hi hL (j := 1) (by decide)) ?_
  refine wp_aload_n 1233 dL_law_1232 rfl rfl ?_
  refine wp_iload_n 1234 dL_law_1233 rfl rfl ?_
  refine wp_iconst (2 : Int32) 1235 dL_law_1234 kiconst_2 rfl ?_
  refine wp_iadd 1236 dL_law_1235 rfl ?_
  refine wp_sld 1237 dL_law_1236 rfl (lIn hi hL (j := 2) (by decide)) ?_
  refine wp_cV 130 2 [.int _, .int _] [.int x] 1240 dL_law_1237 rfl (lk_L_136 rfl) (by decide) kd_88 rfl rfl rfl (Nat.le_of_ble_eq_true rfl) (Cal.mono hk (fun y h2 hq => ?_))
  exact wp_icmp_eq 1353 1243 dL_law_1240 rfl rfl ⟨fun _ => next h2 hq.2, fun c => absurd hq.1 c⟩
theorem lc_29 (hR : kRel h) (hi : i + 6 ≤ L) (hL : L ≤ 3072) (next : ∀ h1, kRel h1 → Wp G 131 m_L (kEl G L xs) 1353 (lLs i) [] h1) : Wp G 131 m_L (kEl G L xs) 1245 (lLs i) [] h := by
  refine wp_aload_n 1246 dL_law_1245 rfl rfl ?_
  refine wp_cV 130 0 [] [] 1249 dL_law_1246 rfl (lk_L_137 rfl) (by decide) kd_0 rfl rfl rfl (Nat.le_of_ble_eq_true rfl) (Cal.mono (st_image (by decide) hR) (fun x h1 hk => ?_))
  refine wp_aload_n 1250 dL_law_1249 rfl rfl ?_
  refine wp_cV 130 0 [] [.int x] 1253 dL_law_1250 rfl (lk_L_141 rfl) (by decide) kd_88 rfl rfl rfl (Nat.le_of_ble_eq_true rfl) (Cal.mono hk (fun y h2 hq => ?_))
  exact wp_icmp_eq 1353 1256 dL_law_1253 rfl rfl ⟨fun _ => next h2 hq.2, fun c => absurd hq.1 c⟩
theorem lc_30 (hR : kRel h) (hi : i + 6 ≤ L) (hL : L ≤ 3072) (next : ∀ h1, kRel h1 → Wp G 131 m_L (kEl G L xs) 1353 (lLs i) [] h1) : Wp G 131 m_L (kEl G L xs) 1258 (lLs i) [] h := by
  refine wp_aload_n 1259 dL_law_1258 rfl rfl ?_
  refine wp_cV 130 0 [] [] 1262 dL_law_1259 rfl (lk_L_142 rfl) (by decide) kd_0 rfl rfl rfl (Nat.le_of_ble_eq_true rfl) (Cal.mono (st_restore (by decide) hR) (fun x h1 hk => ?_))
  refine wp_aload_n 1263 dL_law_1262 rfl rfl ?_
  refine wp_cV 130 0 [] [.int x] 1266 dL_law_1263 rfl (lk_L_145 rfl) (by decide) kd_88 rfl rfl rfl (Nat.le_of_ble_eq_true rfl) (Cal.mono hk (fun y h2 hq => ?_))
  exact wp_icmp_eq 1353 1269 dL_law_1266 rfl rfl ⟨fun _ => next h2 hq.2, fun c => absurd hq.1 c⟩
theorem lc_31 (hR : kRel h) (hi : i + 6 ≤ L) (hL : L ≤ 3072) (next : ∀ h1, kRel h1 → Wp G 131 m_L (kEl G L xs) 1353 (lLs i) [] h1) : Wp G 131 m_L (kEl G L xs) 1271 (lLs i) [] h := by
  refine wp_aload_n 1272 dL_law_1271 rfl rfl ?_
  refine wp_aload_n 1273 dL_law_1272 rfl rfl ?_
  refine wp_iload_n 1274 dL_law_1273 rfl rfl ?_
  refine wp_iconst (1 : Int32) 1275 dL_law_1274 kiconst_1 rfl ?_
  refine wp_iadd 1276 dL_law_1275 rfl ?_
  refine wp_sld 1277 dL_law_1276 rfl (lIn hi hL (j := 1) (by decide)) ?_
  refine wp_cV 130 1 [.int _] [] 1280 dL_law_1277 rfl (lk_L_146 rfl) (by decide) kd_0 rfl rfl rfl (Nat.le_of_ble_eq_true rfl) (Cal.mono (st_tell (by decide) hR _) (fun x h1 hk => ?_))
  refine wp_aload_n 1281 dL_law_1280 rfl rfl ?_
  refine wp_aload_n 1282 dL_law_1281 rfl rfl ?_
  refine wp_iload_n 1283 dL_law_1282 rfl rfl ?_
  refine wp_iconst (1 : Int32) 1284 dL_law_1283 kiconst_1 rfl ?_
  refine wp_iadd 1285 dL_law_1284 rfl ?_
  refine wp_sld 1286 dL_law_1285 rfl (lIn hi hL (j := 1) (by decide)) ?_
  refine wp_cV 130 1 [.int _] [.int x] 1289 dL_law_1286 rfl (lk_L_149 rfl) (by decide) kd_88 rfl rfl rfl (Nat.le_of_ble_eq_true rfl) (Cal.mono hk (fun y h2 hq => ?_))
  exact wp_icmp_eq 1353 1292 dL_law_1289 rfl rfl ⟨fun _ => next h2 hq.2, fun c => absurd hq.1 c⟩
theorem lc_32 (hR : kRel h) (hi : i + 6 ≤ L) (hL : L ≤ 3072) (next : ∀ h1, kRel h1 → Wp G 131 m_L (kEl G L xs) 1353 (lLs i) [] h1) : Wp G 131 m_L (kEl G L xs) 1294 (lLs i) [] h := by
  refine wp_aload_n 1295 dL_law_1294 rfl rfl ?_
  refine wp_cV 130 0 [] [] 1298 dL_law_1295 rfl (lk_L_150 rfl) (by decide) kd_0 rfl rfl rfl (Nat.le_of_ble_eq_true rfl) (Cal.mono (st_check (by decide) hR) (fun x h1 hk => ?_))
  refine wp_aload_n 1299 dL_law_1298 rfl rfl ?_
  refine wp_cV 130 0 [] [.int x] 1302 dL_law_1299 rfl (lk_L_153 rfl) (by decide) kd_88 rfl rfl rfl (Nat.le_of_ble_eq_true rfl) (Cal.mono hk (fun y h2 hq => ?_))
  exact wp_icmp_eq 1353 1305 dL_law_1302 rfl rfl ⟨fun _ => next h2 hq.2, fun c => absurd hq.1 c⟩
theorem lc_33 (hR : kRel h) (hi : i + 6 ≤ L) (hL : L ≤ 3072) (next : ∀ h1, kRel h1 → Wp G 131 m_L (kEl G L xs) 1353 (lLs i) [] h1) : Wp G 131 m_L (kEl G L xs) 1307 (lLs i) [] h := by
  refine wp_aload_n 1308 dL_law_1307 rfl rfl ?_
  refine wp_aload_n 1309 dL_law_1308 rfl rfl ?_
  refine wp_iload_n 1310 dL_law_1309 rfl rfl ?_
  refine wp_iconst (1 : Int32) 1311 dL_law_1310 kiconst_1 rfl ?_
  refine wp_iadd 1312 dL_law_1311 rfl ?_
  refine wp_sld 1313 dL_law_1312 rfl (lIn hi hL (j := 1) (by decide)) ?_
  refine wp_cV 130 1 [.int _] [] 1316 dL_law_1313 rfl (lk_L_154 rfl) (by decide) kd_0 rfl rfl rfl (Nat.le_of_ble_eq_true rfl) (Cal.mono (st_count (by decide) hR _) (fun x h1 hk => ?_))
  refine wp_aload_n 1317 dL_law_1316 rfl rfl ?_
  refine wp_aload_n 1318 dL_law_1317 rfl rfl ?_
  refine wp_iload_n 1319 dL_law_1318 rfl rfl ?_
  refine wp_iconst (1 : Int32) 1320 dL_law_1319 kiconst_1 rfl ?_
  refine wp_iadd 1321 dL_law_1320 rfl ?_
  refine wp_sld 1322 dL_law_1321 rfl (lIn hi hL (j := 1) (by decide)) ?_
  refine wp_cV 130 1 [.int _] [.int x] 1325 dL_law_1322 rfl (lk_L_157 rfl) (by decide) kd_88 rfl rfl rfl (Nat.le_of_ble_eq_true rfl) (Cal.mono hk (fun y h2 hq => ?_))
  exact wp_icmp_eq 1353 1328 dL_law_1325 rfl rfl ⟨fun _ => next h2 hq.2, fun c => absurd hq.1 c⟩
theorem lc_34 (hR : kRel h) (hi : i + 6 ≤ L) (hL : L ≤ 3072) (next : ∀ h1, kRel h1 → Wp G 131 m_L (kEl G L xs) 1353 (lLs i) [] h1) : Wp G 131 m_L (kEl G L xs) 1330 (lLs i) [] h := by
  refine wp_aload_n 1331 dL_law_1330 rfl rfl ?_
  refine wp_aload_n 1332 dL_law_1331 rfl rfl ?_
  refine wp_iload_n 1333 dL_law_1332 rfl rfl ?_
  refine wp_iconst (1 : Int32) 1334 dL_law_1333 kiconst_1 rfl ?_
  refine wp_iadd 1335 dL_law_1334 rfl ?_
  refine wp_sld 1336 dL_law_1335 rfl (lIn hi hL (j := 1) (by decide)) ?_
  refine wp_cV 130 1 [.int _] [] 1339 dL_law_1336 rfl (lk_L_158 rfl) (by decide) kd_0 rfl rfl rfl (Nat.le_of_ble_eq_true rfl) (Cal.mono (st_told (by decide) hR _) (fun x h1 hk => ?_))
  refine wp_aload_n 1340 dL_law_1339 rfl rfl ?_
  refine wp_aload_n 1341 dL_law_1340 rfl rfl ?_
  refine wp_iload_n 1342 dL_law_1341 rfl rfl ?_
  refine wp_iconst (1 : Int32) 1343 dL_law_1342 kiconst_1 rfl ?_
  refine wp_iadd 1344 dL_law_1343 rfl ?_
  refine wp_sld 1345 dL_law_1344 rfl (lIn hi hL (j := 1) (by decide)) ?_
  refine wp_cV 130 1 [.int _] [.int x] 1348 dL_law_1345 rfl (lk_L_161 rfl) (by decide) kd_88 rfl rfl rfl (Nat.le_of_ble_eq_true rfl) (Cal.mono hk (fun y h2 hq => ?_))
  exact wp_icmp_eq 1353 1351 dL_law_1348 rfl rfl ⟨fun _ => next h2 hq.2, fun c => absurd hq.1 c⟩
theorem l_arm (hR : kRel h) (hi : i + 6 ≤ L) (hL : L ≤ 3072) {y : Int32} (next : ∀ h1, kRel h1 → Wp G 131 m_L (kEl G L xs) 1353 (lLs i) [] h1) : Wp G 131 m_L (kEl G L xs) 33 (lLs i) [.int y] h :=
  wp_table 1353 [(0, 188), (1, 221), (2, 254), (3, 287), (4, 320), (5, 353), (6, 406), (7, 449), (8, 492), (9, 525), (10, 548), (11, 611), (12, 634), (13, 657), (14, 680), (15, 703), (16, 726), (17, 769), (18, 802), (19, 845), (20, 878), (21, 921), (22, 964), (23, 1017), (24, 1040), (25, 1083), (26, 1126), (27, 1189), (28, 1212), (29, 1245), (30, 1258), (31, 1271), (32, 1294), (33, 1307), (34, 1330)] dL_law_33 rfl (by decide +kernel) ⟨fun _ => lc_0 hR hi hL next, fun _ => ⟨fun _ => lc_1 hR hi hL next, fun _ => ⟨fun _ => lc_2 hR hi hL next, fun _ => ⟨fun _ => lc_3 hR hi hL next, fun _ => ⟨fun _ => lc_4 hR hi hL next, fun _ => ⟨fun _ => lc_5 hR hi hL next, fun _ => ⟨fun _ => lc_6 hR hi hL next, fun _ => ⟨fun _ => lc_7 hR hi hL next, fun _ => ⟨fun _ => lc_8 hR hi hL next, fun _ => ⟨fun _ => lc_9 hR hi hL next, fun _ => ⟨fun _ => lc_10 hR hi hL next, fun _ => ⟨fun _ => lc_11 hR hi hL next, fun _ => ⟨fun _ => lc_12 hR hi hL next, fun _ => ⟨fun _ => lc_13 hR hi hL next, fun _ => ⟨fun _ => lc_14 hR hi hL next, fun _ => ⟨fun _ => lc_15 hR hi hL next, fun _ => ⟨fun _ => lc_16 hR hi hL next, fun _ => ⟨fun _ => lc_17 hR hi hL next, fun _ => ⟨fun _ => lc_18 hR hi hL next, fun _ => ⟨fun _ => lc_19 hR hi hL next, fun _ => ⟨fun _ => lc_20 hR hi hL next, fun _ => ⟨fun _ => lc_21 hR hi hL next, fun _ => ⟨fun _ => lc_22 hR hi hL next, fun _ => ⟨fun _ => lc_23 hR hi hL next, fun _ => ⟨fun _ => lc_24 hR hi hL next, fun _ => ⟨fun _ => lc_25 hR hi hL next, fun _ => ⟨fun _ => lc_26 hR hi hL next, fun _ => ⟨fun _ => lc_27 hR hi hL next, fun _ => ⟨fun _ => lc_28 hR hi hL next, fun _ => ⟨fun _ => lc_29 hR hi hL next, fun _ => ⟨fun _ => lc_30 hR hi hL next, fun _ => ⟨fun _ => lc_31 hR hi hL next, fun _ => ⟨fun _ => lc_32 hR hi hL next, fun _ => ⟨fun _ => lc_33 hR hi hL next, fun _ => ⟨fun _ => lc_34 hR hi hL next, fun _ => next h hR⟩⟩⟩⟩⟩⟩⟩⟩⟩⟩⟩⟩⟩⟩⟩⟩⟩⟩⟩⟩⟩⟩⟩⟩⟩⟩⟩⟩⟩⟩⟩⟩⟩⟩⟩
theorem l_end {i L : Nat} (hL : L ≤ 3072) (hi : i ≤ 4000) : nI L - 6 < nI i ↔ ¬ i + 6 ≤ L := by
  have e6 : (6 : Int32).toInt = 6 := by decide
  have eL : (nI L).toInt = L := nI_toInt (by omega)
  have ei : (nI i).toInt = i := nI_toInt (by omega)
  have es : (nI L - 6).toInt = L - 6 := by
    rw [Int32.toInt_sub, eL, e6]
    exact Int.bmod_eq_of_le (by omega) (by omega)
  rw [Int32.lt_iff_toInt_lt, es, ei]
  omega
theorem l_loop (hL : L ≤ 3072) : ∀ (n i : Nat) (h : kM), L ≤ i + n → i ≤ L + 6 → kRel h → Wp G 131 m_L (kEl G L xs) 18 (lLs i) [] h
  | n, i, h, hn, hi, hR => by
    refine wp_iload_n 19 dL_law_18 rfl rfl ?_
    refine wp_aload_n 20 dL_law_19 rfl rfl ?_
    refine wp_slen 21 dL_law_20 rfl ?_
    refine wp_bipush (6 : Int32) 23 dL_law_21 kbipush_6 rfl ?_
    refine wp_isub 24 dL_law_23 rfl ?_
    refine wp_icmp_gt 1359 27 dL_law_24 rfl rfl ⟨fun _ => ?_, fun c => ?_⟩
    · refine wp_iconst (1 : Int32) 1360 dL_law_1359 kiconst_1 rfl ?_
      exact wp_lend dL_law_1360
    have hi6 : i + 6 ≤ L := Decidable.not_not.mp fun q => c ((l_end hL (by omega)).mpr q)
    refine wp_aload_n 28 dL_law_27 rfl rfl ?_
    refine wp_iload_n 29 dL_law_28 rfl rfl ?_
    refine wp_sld 30 dL_law_29 rfl (lIn0 hi6 hL) ?_
    refine wp_bipush (63 : Int32) 32 dL_law_30 kbipush_63 rfl ?_
    refine wp_iand 33 dL_law_32 rfl ?_
    refine l_arm hR hi6 hL (fun h1 hR1 => ?_)
    refine wp_iinc (6 : Int32) 1356 dL_law_1353 rfl rfl kiconst_6 (Nat.le_of_ble_eq_true rfl) rfl ?_
    refine wp_goto 18 dL_law_1356 rfl ?_
    match n, hn with
    | 0, hn => omega
    | n + 1, hn =>
      have e : nI i + 6 = nI (i + 6) := nI_add i 6
      have r := l_loop hL n (i + 6) h1 (by omega) (by omega) hR1
      unfold lLs at r
      rw [← e] at r
      exact r
end Law

