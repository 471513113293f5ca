/-! the first state, and what the two objects leave of each other -/
def z0 : Zt := ((0, fun _ => 0, fun _ => 0, fun _ => 0), ([], 0, []), fun _ => none, fun _ => none, fun _ => none, (0, 0, 1, 0, fun _ => 0))
theorem z0_wf : v_wf (z_V z0) := ⟨Nat.zero_le _, fun i h => absurd h (Nat.not_lt_zero i), Nat.zero_le _, fun i h => absurd h (Nat.not_lt_zero i), by decide⟩
theorem z0_at : ∀ d, d ≤ 0 → z_wf 0 (s_at ([], 0, []) d) := by
  intro d h
  obtain rfl : d = 0 := by omega
  exact ⟨fun x hx => absurd hx List.not_mem_nil, List.nodup_nil, by decide⟩
theorem z0_bs : z_bs mu0 38 [] 0 := ⟨rfl, Nat.zero_le _, fun i h => absurd h (Nat.not_lt_zero i), rfl, by decide, fun i h => absurd h (Nat.not_lt_zero i)⟩
theorem z0_C : ZC mu0 nu0 z0 := by
  refine ⟨⟨z0_wf, rfl, fun i h => absurd h (Nat.not_lt_zero i), z0_bs⟩, ⟨z0_bs, rfl, Nat.zero_le _, fun i h => absurd h (Nat.not_lt_zero i), z0_at⟩, fun k hk => ⟨?_, fun B h => by cases h⟩, fun r hr => ?_, fun r hr => ?_, ⟨rfl, rfl, rfl, rfl, fun f _ => rfl⟩, Or.inl rfl⟩
  · have h : k = 0 ∨ k = 1 ∨ k = 2 := by omega
    rcases h with rfl | rfl | rfl <;> rfl
  · have h : r = 0 ∨ r = 1 ∨ r = 2 ∨ r = 3 ∨ r = 4 ∨ r = 5 := by omega
    rcases h with rfl | rfl | rfl | rfl | rfl | rfl <;> rfl
  · have h : r = 0 ∨ r = 1 ∨ r = 2 ∨ r = 3 := by omega
    rcases h with rfl | rfl | rfl | rfl <;> rfl
theorem z0_M : ZM mu0 nu0 z0 := by
  refine ⟨z0_wf, ⟨rfl, rfl, rfl, fun i h => absurd h (Nat.not_lt_zero i), fun i h => absurd h (Nat.not_lt_zero i), rfl, fun i h => absurd h (Nat.not_lt_zero i)⟩, ⟨Nat.zero_le _, z0_at⟩, fun k hk => rfl, fun r hr => ?_, fun r hr => ?_, ⟨rfl, rfl, rfl, rfl, fun f _ => rfl⟩, Or.inl rfl⟩
  · show (if r < 6 then (-1 : Int32) else 0) = -1
    rw [if_pos hr]
  · show (if r < 4 then (-1 : Int32) else 0) = -1
    rw [if_pos hr]
theorem zc_cm {mu m : Mu} {nu n2 : Nu} {z : Zt} (h : ZC mu nu z) (hc : z_cm mu nu m n2) : ZC m n2 z := zc_keep h (fun c hq => hc.1 c (by omega)) (hc.1 63 (by decide)) (hc.2 0 (by decide))
theorem zm_cl {mu m : Mu} {nu n2 : Nu} {z : Zt} (h : ZM mu nu z) (hc : z_cl mu nu m n2) : ZM m n2 z := zm_keep h (fun c hq _ => hc.1 c (by omega)) (by rw [hc.1 64 (by decide)]) (by rw [hc.1 64 (by decide)]) (by rw [hc.2 64 (by decide)]) (by rw [hc.2 64 (by decide)])
/-- the law's script: an array that no cell of ours is -/
def Lx (G : Gl) (X : Bx) (b L : Nat) (xs : Nat → Int32) : Prop :=
  match X with
  | (_, _, _, s, _, _, _, _, _, _, _) => va_X b L xs s s.heap ∧ b < s.heap.size ∧ ¬ GA G b
section
variable {l : Launch} {G : Gl} {nL : Nat} {X : Bx} {Q : State → Prop} {cc : ByteArray} {own : String} {ret : Option FieldType} {fr pc : Nat} {lv : List (Nat × Value)} {st : List Value} {mu : Mu} {nu : Nu} {b L : Nat} {xs : Nat → Int32}
theorem m_sld (C : Cx G nL X cc own ret fr) (hX : Lx G X b L xs) {i : Int32} (p0 : Nat) (hi : i = nI p0) (hp : p0 < L) (hL : L ≤ 3072) (d : decode cc pc = .ok (.iaload, 1)) (kk : Mq l G nL X Q (pc + 1) lv (.int (xs p0) :: st) mu nu) : Mq l G nL X Q pc lv (.int i :: .ref b :: st) mu nu := by
  obtain ⟨p, e, R, s, m, args, below, meth, c, cells, slots⟩ := X
  obtain ⟨hx, hb, hml, ho, hts, hK, hGS, hGN, hd, hr, hlk, hfr, hlo, hce, hsl⟩ := C
  obtain ⟨h1, h2, h3⟩ := hX
  intro H locs ls hP hS hl
  subst hi
  refine va_sld hx hb h1 h2 h3 hS (vp_in_nI hp (by omega)) d ?_
  rw [nI_clamp (by omega)]
  exact kk H locs ls hP hS hl
theorem m_slen (C : Cx G nL X cc own ret fr) (hX : Lx G X b L xs) (d : decode cc pc = .ok (.arraylength, 1)) (kk : Mq l G nL X Q (pc + 1) lv (.int (nI L) :: st) mu nu) : Mq l G nL X Q pc lv (.ref b :: st) mu nu := by
  obtain ⟨p, e, R, s, m, args, below, meth, c, cells, slots⟩ := X
  obtain ⟨hx, hb, hml, ho, hts, hK, hGS, hGN, hd, hr, hlk, hfr, hlo, hce, hsl⟩ := C
  obtain ⟨h1, h2, h3⟩ := hX
  intro H locs ls hP hS hl
  exact va_slen hx hb h1 h2 h3 hS d (kk H locs ls hP hS hl)
end
abbrev lw_lv (G : Gl) (b i : Nat) : List (Nat × Value) := [(3, .int (nI i)), (2, .ref (G.1 64)), (1, .ref (G.1 0)), (0, .ref b)]
set_option maxHeartbeats 4000000 in
set_option maxRecDepth 100000 in
theorem law_case_0 (l : Launch) (G : Gl) (mu : Mu) (nu : Nu) {X : Bx} {Q : State → Prop} {b L : Nat} {xs : Nat → Int32} (C : Cx G 4 X cL_law RL (some .boolean) 20) (hX : Lx G X b L xs) (i : Nat) (hi : i + 6 ≤ L) (hL : L ≤ 3072) (z : Zt) (hz : ZC mu nu z) (hm : ZM mu nu z) (kk : ∀ m n2 z2, ZC m n2 z2 → ZM m n2 z2 → Mq l G 4 X Q 1358 (lw_lv G b i) [] m n2) : Mq l G 4 X Q 212 (lw_lv G b i) [] mu nu := by
  refine m_aload_n C 2 dL_law_212 rfl ?_
  refine m_aload_n C 3 dL_law_213 rfl ?_
  refine m_iload_n C 0 dL_law_214 rfl ?_
  refine m_iconst C 1 dL_law_215 (by decide +kernel) ?_
  refine m_iadd C dL_law_216 ?_
  refine m_sld C hX (i + 1) (nn_add rfl rfl) (by omega) hL dL_law_217 ?_
  refine m_aload_n C 3 dL_law_218 rfl ?_
  refine m_iload_n C 0 dL_law_219 rfl ?_
  refine m_iconst C 2 dL_law_220 (by decide +kernel) ?_
  refine m_iadd C dL_law_221 ?_
  refine m_sld C hX (i + 2) (nn_add rfl rfl) (by omega) hL dL_law_222 ?_
  refine m_callVi C 0 (by decide) rfl rfl (c_X10_row l G mu nu z hz (xs (i + 1)) (xs (i + 2))) wkL_13 (by decide) rfl rfl (Nat.le_of_ble_eq_true rfl) dL_law_223 (fun r1 m1 n1 h1 => ?_)
  obtain ⟨e1, g1, q1⟩ := h1
  have hm1 := zm_cl hm q1
  have hm0 : ZM m1 n1 z := hm1
  refine m_aload_n C 1 dL_law_226 rfl ?_
  refine m_aload_n C 3 dL_law_227 rfl ?_
  refine m_iload_n C 0 dL_law_228 rfl ?_
  refine m_iconst C 1 dL_law_229 (by decide +kernel) ?_
  refine m_iadd C dL_law_230 ?_
  refine m_sld C hX (i + 1) (nn_add rfl rfl) (by omega) hL dL_law_231 ?_
  refine m_aload_n C 3 dL_law_232 rfl ?_
  refine m_iload_n C 0 dL_law_233 rfl ?_
  refine m_iconst C 2 dL_law_234 (by decide +kernel) ?_
  refine m_iadd C dL_law_235 ?_
  refine m_sld C hX (i + 2) (nn_add rfl rfl) (by omega) hL dL_law_236 ?_
  refine m_callVi C 64 (by decide) rfl rfl (c_X11_row l G m1 n1 z hm0 (xs (i + 1)) (xs (i + 2))) wkL_17 (by decide) rfl rfl (Nat.le_of_ble_eq_true rfl) dL_law_237 (fun r2 m2 n2 h2 => ?_)
  obtain ⟨e2, g2, q2⟩ := h2
  have hz2 := zc_cm g1 q2
  refine m_icmp_eq C 1358 dL_law_240 (by decide) (fun _ => ?_) (fun h => absurd (e1.trans e2.symm) h)
  exact kk m2 n2 _ hz2 g2

set_option maxHeartbeats 4000000 in
set_option maxRecDepth 100000 in
theorem law_case_1 (l : Launch) (G : Gl) (mu : Mu) (nu : Nu) {X : Bx} {Q : State → Prop} {b L : Nat} {xs : Nat → Int32} (C : Cx G 4 X cL_law RL (some .boolean) 20) (hX : Lx G X b L xs) (i : Nat) (hi : i + 6 ≤ L) (hL : L ≤ 3072) (z : Zt) (hz : ZC mu nu z) (hm : ZM mu nu z) (kk : ∀ m n2 z2, ZC m n2 z2 → ZM m n2 z2 → Mq l G 4 X Q 1358 (lw_lv G b i) [] m n2) : Mq l G 4 X Q 245 (lw_lv G b i) [] mu nu := by
  refine m_aload_n C 2 dL_law_245 rfl ?_
  refine m_aload_n C 3 dL_law_246 rfl ?_
  refine m_iload_n C 0 dL_law_247 rfl ?_
  refine m_iconst C 1 dL_law_248 (by decide +kernel) ?_
  refine m_iadd C dL_law_249 ?_
  refine m_sld C hX (i + 1) (nn_add rfl rfl) (by omega) hL dL_law_250 ?_
  refine m_aload_n C 3 dL_law_251 rfl ?_
  refine m_iload_n C 0 dL_law_252 rfl ?_
  refine m_iconst C 2 dL_law_253 (by decide +kernel) ?_
  refine m_iadd C dL_law_254 ?_
  refine m_sld C hX (i + 2) (nn_add rfl rfl) (by omega) hL dL_law_255 ?_
  refine m_aload_n C 3 dL_law_256 rfl ?_
  refine m_iload_n C 0 dL_law_257 rfl ?_
  refine m_iconst C 3 dL_law_258 (by decide +kernel) ?_
  refine m_iadd C dL_law_259 ?_
  refine m_sld C hX (i + 3) (nn_add rfl rfl) (by omega) hL dL_law_260 ?_
  refine m_callVi C 0 (by decide) rfl rfl (c_X10_lay l G mu nu z hz (xs (i + 1)) (xs (i + 2)) (xs (i + 3))) wkL_18 (by decide) rfl rfl (Nat.le_of_ble_eq_true rfl) dL_law_261 (fun r1 m1 n1 h1 => ?_)
  obtain ⟨e1, g1, q1⟩ := h1
  have hm1 := zm_cl hm q1
  have hm0 : ZM m1 n1 z := hm1
  refine m_aload_n C 1 dL_law_264 rfl ?_
  refine m_aload_n C 3 dL_law_265 rfl ?_
  refine m_iload_n C 0 dL_law_266 rfl ?_
  refine m_iconst C 1 dL_law_267 (by decide +kernel) ?_
  refine m_iadd C dL_law_268 ?_
  refine m_sld C hX (i + 1) (nn_add rfl rfl) (by omega) hL dL_law_269 ?_
  refine m_aload_n C 3 dL_law_270 rfl ?_
  refine m_iload_n C 0 dL_law_271 rfl ?_
  refine m_iconst C 2 dL_law_272 (by decide +kernel) ?_
  refine m_iadd C dL_law_273 ?_
  refine m_sld C hX (i + 2) (nn_add rfl rfl) (by omega) hL dL_law_274 ?_
  refine m_aload_n C 3 dL_law_275 rfl ?_
  refine m_iload_n C 0 dL_law_276 rfl ?_
  refine m_iconst C 3 dL_law_277 (by decide +kernel) ?_
  refine m_iadd C dL_law_278 ?_
  refine m_sld C hX (i + 3) (nn_add rfl rfl) (by omega) hL dL_law_279 ?_
  refine m_callVi C 64 (by decide) rfl rfl (c_X11_lay l G m1 n1 z hm0 (xs (i + 1)) (xs (i + 2)) (xs (i + 3))) wkL_22 (by decide) rfl rfl (Nat.le_of_ble_eq_true rfl) dL_law_280 (fun r2 m2 n2 h2 => ?_)
  obtain ⟨e2, g2, q2⟩ := h2
  have hz2 := zc_cm g1 q2
  refine m_icmp_eq C 1358 dL_law_283 (by decide) (fun _ => ?_) (fun h => absurd (e1.trans e2.symm) h)
  exact kk m2 n2 _ hz2 g2

set_option maxHeartbeats 4000000 in
set_option maxRecDepth 100000 in
theorem law_case_2 (l : Launch) (G : Gl) (mu : Mu) (nu : Nu) {X : Bx} {Q : State → Prop} {b L : Nat} {xs : Nat → Int32} (C : Cx G 4 X cL_law RL (some .boolean) 20) (hX : Lx G X b L xs) (i : Nat) (hi : i + 6 ≤ L) (hL : L ≤ 3072) (z : Zt) (hz : ZC mu nu z) (hm : ZM mu nu z) (kk : ∀ m n2 z2, ZC m n2 z2 → ZM m n2 z2 → Mq l G 4 X Q 1358 (lw_lv G b i) [] m n2) : Mq l G 4 X Q 288 (lw_lv G b i) [] mu nu := by
  refine m_aload_n C 2 dL_law_288 rfl ?_
  refine m_aload_n C 3 dL_law_289 rfl ?_
  refine m_iload_n C 0 dL_law_290 rfl ?_
  refine m_iconst C 1 dL_law_291 (by decide +kernel) ?_
  refine m_iadd C dL_law_292 ?_
  refine m_sld C hX (i + 1) (nn_add rfl rfl) (by omega) hL dL_law_293 ?_
  refine m_aload_n C 3 dL_law_294 rfl ?_
  refine m_iload_n C 0 dL_law_295 rfl ?_
  refine m_iconst C 2 dL_law_296 (by decide +kernel) ?_
  refine m_iadd C dL_law_297 ?_
  refine m_sld C hX (i + 2) (nn_add rfl rfl) (by omega) hL dL_law_298 ?_
  refine m_callVi C 0 (by decide) rfl rfl (c_X10_at l G mu nu z hz (xs (i + 1)) (xs (i + 2))) wkL_23 (by decide) rfl rfl (Nat.le_of_ble_eq_true rfl) dL_law_299 (fun r1 m1 n1 h1 => ?_)
  obtain ⟨e1, g1, q1⟩ := h1
  have hm1 := zm_cl hm q1
  have hm0 : ZM m1 n1 z := hm1
  refine m_aload_n C 1 dL_law_302 rfl ?_
  refine m_aload_n C 3 dL_law_303 rfl ?_
  refine m_iload_n C 0 dL_law_304 rfl ?_
  refine m_iconst C 1 dL_law_305 (by decide +kernel) ?_
  refine m_iadd C dL_law_306 ?_
  refine m_sld C hX (i + 1) (nn_add rfl rfl) (by omega) hL dL_law_307 ?_
  refine m_aload_n C 3 dL_law_308 rfl ?_
  refine m_iload_n C 0 dL_law_309 rfl ?_
  refine m_iconst C 2 dL_law_310 (by decide +kernel) ?_
  refine m_iadd C dL_law_311 ?_
  refine m_sld C hX (i + 2) (nn_add rfl rfl) (by omega) hL dL_law_312 ?_
  refine m_callVi C 64 (by decide) rfl rfl (c_X11_at l G m1 n1 z hm0 (xs (i + 1)) (xs (i + 2))) wkL_26 (by decide) rfl rfl (Nat.le_of_ble_eq_true rfl) dL_law_313 (fun r2 m2 n2 h2 => ?_)
  obtain ⟨e2, g2, q2⟩ := h2
  have hz2 := zc_cm g1 q2
  refine m_icmp_eq C 1358 dL_law_316 (by decide) (fun _ => ?_) (fun h => absurd (e1.trans e2.symm) h)
  exact kk m2 n2 _ hz2 g2

set_option maxHeartbeats 4000000 in
set_option maxRecDepth 100000 in
theorem law_case_3 (l : Launch) (G : Gl) (mu : Mu) (nu : Nu) {X : Bx} {Q : State → Prop} {b L : Nat} {xs : Nat → Int32} (C : Cx G 4 X cL_law RL (some .boolean) 20) (hX : Lx G X b L xs) (i : Nat) (hi : i + 6 ≤ L) (hL : L ≤ 3072) (z : Zt) (hz : ZC mu nu z) (hm : ZM mu nu z) (kk : ∀ m n2 z2, ZC m n2 z2 → ZM m n2 z2 → Mq l G 4 X Q 1358 (lw_lv G b i) [] m n2) : Mq l G 4 X Q 321 (lw_lv G b i) [] mu nu := by
  refine m_aload_n C 2 dL_law_321 rfl ?_
  refine m_aload_n C 3 dL_law_322 rfl ?_
  refine m_iload_n C 0 dL_law_323 rfl ?_
  refine m_iconst C 1 dL_law_324 (by decide +kernel) ?_
  refine m_iadd C dL_law_325 ?_
  refine m_sld C hX (i + 1) (nn_add rfl rfl) (by omega) hL dL_law_326 ?_
  refine m_callVi C 0 (by decide) rfl rfl (c_X10_tear l G mu nu z hz (xs (i + 1))) wkL_27 (by decide) rfl rfl (Nat.le_of_ble_eq_true rfl) dL_law_327 (fun r1 m1 n1 h1 => ?_)
  obtain ⟨e1, g1, q1⟩ := h1
  have hm1 := zm_cl hm q1
  have hm0 : ZM m1 n1 z := hm1
  refine m_aload_n C 1 dL_law_330 rfl ?_
  refine m_aload_n C 3 dL_law_331 rfl ?_
  refine m_iload_n C 0 dL_law_332 rfl ?_
  refine m_iconst C 1 dL_law_333 (by decide +kernel) ?_
  refine m_iadd C dL_law_334 ?_
  refine m_sld C hX (i + 1) (nn_add rfl rfl) (by omega) hL dL_law_335 ?_
  refine m_callVi C 64 (by decide) rfl rfl (c_X11_tear l G m1 n1 z hm0 (xs (i + 1))) wkL_31 (by decide) rfl rfl (Nat.le_of_ble_eq_true rfl) dL_law_336 (fun r2 m2 n2 h2 => ?_)
  obtain ⟨e2, g2, q2⟩ := h2
  have hz2 := zc_cm g1 q2
  refine m_icmp_eq C 1358 dL_law_339 (by decide) (fun _ => ?_) (fun h => absurd (e1.trans e2.symm) h)
  exact kk m2 n2 _ hz2 g2

set_option maxHeartbeats 4000000 in
set_option maxRecDepth 100000 in
theorem law_case_4 (l : Launch) (G : Gl) (mu : Mu) (nu : Nu) {X : Bx} {Q : State → Prop} {b L : Nat} {xs : Nat → Int32} (C : Cx G 4 X cL_law RL (some .boolean) 20) (hX : Lx G X b L xs) (i : Nat) (hi : i + 6 ≤ L) (hL : L ≤ 3072) (z : Zt) (hz : ZC mu nu z) (hm : ZM mu nu z) (kk : ∀ m n2 z2, ZC m n2 z2 → ZM m n2 z2 → Mq l G 4 X Q 1358 (lw_lv G b i) [] m n2) : Mq l G 4 X Q 344 (lw_lv G b i) [] mu nu := by
  refine m_aload_n C 2 dL_law_344 rfl ?_
  refine m_aload_n C 3 dL_law_345 rfl ?_
  refine m_iload_n C 0 dL_law_346 rfl ?_
  refine m_iconst C 1 dL_law_347 (by decide +kernel) ?_
  refine m_iadd C dL_law_348 ?_
  refine m_sld C hX (i + 1) (nn_add rfl rfl) (by omega) hL dL_law_349 ?_
  refine m_aload_n C 3 dL_law_350 rfl ?_
  refine m_iload_n C 0 dL_law_351 rfl ?_
  refine m_iconst C 2 dL_law_352 (by decide +kernel) ?_
  refine m_iadd C dL_law_353 ?_
  refine m_sld C hX (i + 2) (nn_add rfl rfl) (by omega) hL dL_law_354 ?_
  refine m_aload_n C 3 dL_law_355 rfl ?_
  refine m_iload_n C 0 dL_law_356 rfl ?_
  refine m_iconst C 3 dL_law_357 (by decide +kernel) ?_
  refine m_iadd C dL_law_358 ?_
  refine m_sld C hX (i + 3) (nn_add rfl rfl) (by omega) hL dL_law_359 ?_
  refine m_aload_n C 3 dL_law_360 rfl ?_
  refine m_iload_n C 0 dL_law_361 rfl ?_
  refine m_iconst C 4 dL_law_362 (by decide +kernel) ?_
  refine m_iadd C dL_law_363 ?_
  refine m_sld C hX (i + 4) (nn_add rfl rfl) (by omega) hL dL_law_364 ?_
  refine m_aload_n C 3 dL_law_365 rfl ?_
  refine m_iload_n C 0 dL_law_366 rfl ?_
  refine m_iconst C 5 dL_law_367 (by decide +kernel) ?_
  refine m_iadd C dL_law_368 ?_
  refine m_sld C hX (i + 5) (nn_add rfl rfl) (by omega) hL dL_law_369 ?_
  refine m_callVi C 0 (by decide) rfl rfl (c_X10_copy l G mu nu z hz (xs (i + 1)) (xs (i + 2)) (xs (i + 3)) (xs (i + 4)) (xs (i + 5))) wkL_32 (by decide) rfl rfl (Nat.le_of_ble_eq_true rfl) dL_law_370 (fun r1 m1 n1 h1 => ?_)
  obtain ⟨e1, g1, q1⟩ := h1
  have hm1 := zm_cl hm q1
  have hm0 : ZM m1 n1 z := hm1
  refine m_aload_n C 1 dL_law_373 rfl ?_
  refine m_aload_n C 3 dL_law_374 rfl ?_
  refine m_iload_n C 0 dL_law_375 rfl ?_
  refine m_iconst C 1 dL_law_376 (by decide +kernel) ?_
  refine m_iadd C dL_law_377 ?_
  refine m_sld C hX (i + 1) (nn_add rfl rfl) (by omega) hL dL_law_378 ?_
  refine m_aload_n C 3 dL_law_379 rfl ?_
  refine m_iload_n C 0 dL_law_380 rfl ?_
  refine m_iconst C 2 dL_law_381 (by decide +kernel) ?_
  refine m_iadd C dL_law_382 ?_
  refine m_sld C hX (i + 2) (nn_add rfl rfl) (by omega) hL dL_law_383 ?_
  refine m_aload_n C 3 dL_law_384 rfl ?_
  refine m_iload_n C 0 dL_law_385 rfl ?_
  refine m_iconst C 3 dL_law_386 (by decide +kernel) ?_
  refine m_iadd C dL_law_387 ?_
  refine m_sld C hX (i + 3) (nn_add rfl rfl) (by omega) hL dL_law_388 ?_
  refine m_aload_n C 3 dL_law_389 rfl ?_
  refine m_iload_n C 0 dL_law_390 rfl ?_
  refine m_iconst C 4 dL_law_391 (by decide +kernel) ?_
  refine m_iadd C dL_law_392 ?_
  refine m_sld C hX (i + 4) (nn_add rfl rfl) (by omega) hL dL_law_393 ?_
  refine m_aload_n C 3 dL_law_394 rfl ?_
  refine m_iload_n C 0 dL_law_395 rfl ?_
  refine m_iconst C 5 dL_law_396 (by decide +kernel) ?_
  refine m_iadd C dL_law_397 ?_
  refine m_sld C hX (i + 5) (nn_add rfl rfl) (by omega) hL dL_law_398 ?_
  refine m_callVi C 64 (by decide) rfl rfl (c_X11_copy l G m1 n1 z hm0 (xs (i + 1)) (xs (i + 2)) (xs (i + 3)) (xs (i + 4)) (xs (i + 5))) wkL_36 (by decide) rfl rfl (Nat.le_of_ble_eq_true rfl) dL_law_399 (fun r2 m2 n2 h2 => ?_)
  obtain ⟨e2, g2, q2⟩ := h2
  have hz2 := zc_cm g1 q2
  refine m_icmp_eq C 1358 dL_law_402 (by decide) (fun _ => ?_) (fun h => absurd (e1.trans e2.symm) h)
  exact kk m2 n2 _ hz2 g2

set_option maxHeartbeats 4000000 in
set_option maxRecDepth 100000 in
theorem law_case_5 (l : Launch) (G : Gl) (mu : Mu) (nu : Nu) {X : Bx} {Q : State → Prop} {b L : Nat} {xs : Nat → Int32} (C : Cx G 4 X cL_law RL (some .boolean) 20) (hX : Lx G X b L xs) (i : Nat) (hi : i + 6 ≤ L) (hL : L ≤ 3072) (z : Zt) (hz : ZC mu nu z) (hm : ZM mu nu z) (kk : ∀ m n2 z2, ZC m n2 z2 → ZM m n2 z2 → Mq l G 4 X Q 1358 (lw_lv G b i) [] m n2) : Mq l G 4 X Q 407 (lw_lv G b i) [] mu nu := by
  refine m_aload_n C 2 dL_law_407 rfl ?_
  refine m_aload_n C 3 dL_law_408 rfl ?_
  refine m_iload_n C 0 dL_law_409 rfl ?_
  refine m_iconst C 1 dL_law_410 (by decide +kernel) ?_
  refine m_iadd C dL_law_411 ?_
  refine m_sld C hX (i + 1) (nn_add rfl rfl) (by omega) hL dL_law_412 ?_
  refine m_callVi C 0 (by decide) rfl rfl (c_X10_mean l G mu nu z hz (xs (i + 1))) wkL_37 (by decide) rfl rfl (Nat.le_of_ble_eq_true rfl) dL_law_413 (fun r1 m1 n1 h1 => ?_)
  obtain ⟨e1, g1, q1⟩ := h1
  have hm1 := zm_cl hm q1
  have hm0 : ZM m1 n1 z := hm1
  refine m_aload_n C 1 dL_law_416 rfl ?_
  refine m_aload_n C 3 dL_law_417 rfl ?_
  refine m_iload_n C 0 dL_law_418 rfl ?_
  refine m_iconst C 1 dL_law_419 (by decide +kernel) ?_
  refine m_iadd C dL_law_420 ?_
  refine m_sld C hX (i + 1) (nn_add rfl rfl) (by omega) hL dL_law_421 ?_
  refine m_callVi C 64 (by decide) rfl rfl (c_X11_mean l G m1 n1 z hm0 (xs (i + 1))) wkL_40 (by decide) rfl rfl (Nat.le_of_ble_eq_true rfl) dL_law_422 (fun r2 m2 n2 h2 => ?_)
  obtain ⟨e2, g2, q2⟩ := h2
  have hz2 := zc_cm g1 q2
  refine m_icmp_eq C 1358 dL_law_425 (by decide) (fun _ => ?_) (fun h => absurd (e1.trans e2.symm) h)
  exact kk m2 n2 _ hz2 g2

set_option maxHeartbeats 4000000 in
set_option maxRecDepth 100000 in
theorem law_case_6 (l : Launch) (G : Gl) (mu : Mu) (nu : Nu) {X : Bx} {Q : State → Prop} {b L : Nat} {xs : Nat → Int32} (C : Cx G 4 X cL_law RL (some .boolean) 20) (hX : Lx G X b L xs) (i : Nat) (hi : i + 6 ≤ L) (hL : L ≤ 3072) (z : Zt) (hz : ZC mu nu z) (hm : ZM mu nu z) (kk : ∀ m n2 z2, ZC m n2 z2 → ZM m n2 z2 → Mq l G 4 X Q 1358 (lw_lv G b i) [] m n2) : Mq l G 4 X Q 430 (lw_lv G b i) [] mu nu := by
  refine m_aload_n C 2 dL_law_430 rfl ?_
  refine m_aload_n C 3 dL_law_431 rfl ?_
  refine m_iload_n C 0 dL_law_432 rfl ?_
  refine m_iconst C 1 dL_law_433 (by decide +kernel) ?_
  refine m_iadd C dL_law_434 ?_
  refine m_sld C hX (i + 1) (nn_add rfl rfl) (by omega) hL dL_law_435 ?_
  refine m_aload_n C 3 dL_law_436 rfl ?_
  refine m_iload_n C 0 dL_law_437 rfl ?_
  refine m_iconst C 2 dL_law_438 (by decide +kernel) ?_
  refine m_iadd C dL_law_439 ?_
  refine m_sld C hX (i + 2) (nn_add rfl rfl) (by omega) hL dL_law_440 ?_
  refine m_callVi C 0 (by decide) rfl rfl (c_X10_text l G mu nu z hz (xs (i + 1)) (xs (i + 2))) wkL_41 (by decide) rfl rfl (Nat.le_of_ble_eq_true rfl) dL_law_441 (fun r1 m1 n1 h1 => ?_)
  obtain ⟨e1, g1, q1⟩ := h1
  have hm1 := zm_cl hm q1
  have hm0 : ZM m1 n1 z := hm1
  refine m_aload_n C 1 dL_law_444 rfl ?_
  refine m_aload_n C 3 dL_law_445 rfl ?_
  refine m_iload_n C 0 dL_law_446 rfl ?_
  refine m_iconst C 1 dL_law_447 (by decide +kernel) ?_
  refine m_iadd C dL_law_448 ?_
  refine m_sld C hX (i + 1) (nn_add rfl rfl) (by omega) hL dL_law_449 ?_
  refine m_aload_n C 3 dL_law_450 rfl ?_
  refine m_iload_n C 0 dL_law_451 rfl ?_
  refine m_iconst C 2 dL_law_452 (by decide +kernel) ?_
  refine m_iadd C dL_law_453 ?_
  refine m_sld C hX (i + 2) (nn_add rfl rfl) (by omega) hL dL_law_454 ?_
  refine m_callVi C 64 (by decide) rfl rfl (c_X11_text l G m1 n1 z hm0 (xs (i + 1)) (xs (i + 2))) wkL_44 (by decide) rfl rfl (Nat.le_of_ble_eq_true rfl) dL_law_455 (fun r2 m2 n2 h2 => ?_)
  obtain ⟨e2, g2, q2⟩ := h2
  have hz2 := zc_cm g1 q2
  refine m_icmp_eq C 1358 dL_law_458 (by decide) (fun _ => ?_) (fun h => absurd (e1.trans e2.symm) h)
  exact kk m2 n2 _ hz2 g2

set_option maxHeartbeats 4000000 in
set_option maxRecDepth 100000 in
theorem law_case_7 (l : Launch) (G : Gl) (mu : Mu) (nu : Nu) {X : Bx} {Q : State → Prop} {b L : Nat} {xs : Nat → Int32} (C : Cx G 4 X cL_law RL (some .boolean) 20) (hX : Lx G X b L xs) (i : Nat) (hi : i + 6 ≤ L) (hL : L ≤ 3072) (z : Zt) (hz : ZC mu nu z) (hm : ZM mu nu z) (kk : ∀ m n2 z2, ZC m n2 z2 → ZM m n2 z2 → Mq l G 4 X Q 1358 (lw_lv G b i) [] m n2) : Mq l G 4 X Q 463 (lw_lv G b i) [] mu nu := by
  refine m_aload_n C 2 dL_law_463 rfl ?_
  refine m_aload_n C 3 dL_law_464 rfl ?_
  refine m_iload_n C 0 dL_law_465 rfl ?_
  refine m_iconst C 1 dL_law_466 (by decide +kernel) ?_
  refine m_iadd C dL_law_467 ?_
  refine m_sld C hX (i + 1) (nn_add rfl rfl) (by omega) hL dL_law_468 ?_
  refine m_aload_n C 3 dL_law_469 rfl ?_
  refine m_iload_n C 0 dL_law_470 rfl ?_
  refine m_iconst C 2 dL_law_471 (by decide +kernel) ?_
  refine m_iadd C dL_law_472 ?_
  refine m_sld C hX (i + 2) (nn_add rfl rfl) (by omega) hL dL_law_473 ?_
  refine m_aload_n C 3 dL_law_474 rfl ?_
  refine m_iload_n C 0 dL_law_475 rfl ?_
  refine m_iconst C 3 dL_law_476 (by decide +kernel) ?_
  refine m_iadd C dL_law_477 ?_
  refine m_sld C hX (i + 3) (nn_add rfl rfl) (by omega) hL dL_law_478 ?_
  refine m_callVi C 0 (by decide) rfl rfl (c_X10_put l G mu nu z hz (xs (i + 1)) (xs (i + 2)) (xs (i + 3))) wkL_45 (by decide) rfl rfl (Nat.le_of_ble_eq_true rfl) dL_law_479 (fun r1 m1 n1 h1 => ?_)
  obtain ⟨e1, g1, q1⟩ := h1
  have hm1 := zm_cl hm q1
  have hm0 : ZM m1 n1 z := hm1
  refine m_aload_n C 1 dL_law_482 rfl ?_
  refine m_aload_n C 3 dL_law_483 rfl ?_
  refine m_iload_n C 0 dL_law_484 rfl ?_
  refine m_iconst C 1 dL_law_485 (by decide +kernel) ?_
  refine m_iadd C dL_law_486 ?_
  refine m_sld C hX (i + 1) (nn_add rfl rfl) (by omega) hL dL_law_487 ?_
  refine m_aload_n C 3 dL_law_488 rfl ?_
  refine m_iload_n C 0 dL_law_489 rfl ?_
  refine m_iconst C 2 dL_law_490 (by decide +kernel) ?_
  refine m_iadd C dL_law_491 ?_
  refine m_sld C hX (i + 2) (nn_add rfl rfl) (by omega) hL dL_law_492 ?_
  refine m_aload_n C 3 dL_law_493 rfl ?_
  refine m_iload_n C 0 dL_law_494 rfl ?_
  refine m_iconst C 3 dL_law_495 (by decide +kernel) ?_
  refine m_iadd C dL_law_496 ?_
  refine m_sld C hX (i + 3) (nn_add rfl rfl) (by omega) hL dL_law_497 ?_
  refine m_callVi C 64 (by decide) rfl rfl (c_X11_put l G m1 n1 z hm0 (xs (i + 1)) (xs (i + 2)) (xs (i + 3))) wkL_48 (by decide) rfl rfl (Nat.le_of_ble_eq_true rfl) dL_law_498 (fun r2 m2 n2 h2 => ?_)
  obtain ⟨e2, g2, q2⟩ := h2
  have hz2 := zc_cm g1 q2
  refine m_icmp_eq C 1358 dL_law_501 (by decide) (fun _ => ?_) (fun h => absurd (e1.trans e2.symm) h)
  exact kk m2 n2 _ hz2 g2

set_option maxHeartbeats 4000000 in
set_option maxRecDepth 100000 in
theorem law_case_8 (l : Launch) (G : Gl) (mu : Mu) (nu : Nu) {X : Bx} {Q : State → Prop} {b L : Nat} {xs : Nat → Int32} (C : Cx G 4 X cL_law RL (some .boolean) 20) (hX : Lx G X b L xs) (i : Nat) (hi : i + 6 ≤ L) (hL : L ≤ 3072) (z : Zt) (hz : ZC mu nu z) (hm : ZM mu nu z) (kk : ∀ m n2 z2, ZC m n2 z2 → ZM m n2 z2 → Mq l G 4 X Q 1358 (lw_lv G b i) [] m n2) : Mq l G 4 X Q 506 (lw_lv G b i) [] mu nu := by
  refine m_aload_n C 2 dL_law_506 rfl ?_
  refine m_aload_n C 3 dL_law_507 rfl ?_
  refine m_iload_n C 0 dL_law_508 rfl ?_
  refine m_iconst C 1 dL_law_509 (by decide +kernel) ?_
  refine m_iadd C dL_law_510 ?_
  refine m_sld C hX (i + 1) (nn_add rfl rfl) (by omega) hL dL_law_511 ?_
  refine m_callVi C 0 (by decide) rfl rfl (c_X10_fault l G mu nu z hz (xs (i + 1))) wkL_49 (by decide) rfl rfl (Nat.le_of_ble_eq_true rfl) dL_law_512 (fun r1 m1 n1 h1 => ?_)
  obtain ⟨e1, g1, q1⟩ := h1
  have hm1 := zm_cl hm q1
  have hm0 : ZM m1 n1 z := hm1
  refine m_aload_n C 1 dL_law_515 rfl ?_
  refine m_aload_n C 3 dL_law_516 rfl ?_
  refine m_iload_n C 0 dL_law_517 rfl ?_
  refine m_iconst C 1 dL_law_518 (by decide +kernel) ?_
  refine m_iadd C dL_law_519 ?_
  refine m_sld C hX (i + 1) (nn_add rfl rfl) (by omega) hL dL_law_520 ?_
  refine m_callVi C 64 (by decide) rfl rfl (c_X11_fault l G m1 n1 z hm0 (xs (i + 1))) wkL_52 (by decide) rfl rfl (Nat.le_of_ble_eq_true rfl) dL_law_521 (fun r2 m2 n2 h2 => ?_)
  obtain ⟨e2, g2, q2⟩ := h2
  have hz2 := zc_cm g1 q2
  refine m_icmp_eq C 1358 dL_law_524 (by decide) (fun _ => ?_) (fun h => absurd (e1.trans e2.symm) h)
  exact kk m2 n2 _ hz2 g2

set_option maxHeartbeats 4000000 in
set_option maxRecDepth 100000 in
theorem law_case_9 (l : Launch) (G : Gl) (mu : Mu) (nu : Nu) {X : Bx} {Q : State → Prop} {b L : Nat} {xs : Nat → Int32} (C : Cx G 4 X cL_law RL (some .boolean) 20) (hX : Lx G X b L xs) (i : Nat) (hi : i + 6 ≤ L) (hL : L ≤ 3072) (z : Zt) (hz : ZC mu nu z) (hm : ZM mu nu z) (kk : ∀ m n2 z2, ZC m n2 z2 → ZM m n2 z2 → Mq l G 4 X Q 1358 (lw_lv G b i) [] m n2) : Mq l G 4 X Q 529 (lw_lv G b i) [] mu nu := by
  refine m_aload_n C 2 dL_law_529 rfl ?_
  refine m_aload_n C 3 dL_law_530 rfl ?_
  refine m_iload_n C 0 dL_law_531 rfl ?_
  refine m_iconst C 1 dL_law_532 (by decide +kernel) ?_
  refine m_iadd C dL_law_533 ?_
  refine m_sld C hX (i + 1) (nn_add rfl rfl) (by omega) hL dL_law_534 ?_
  refine m_callVi C 0 (by decide) rfl rfl (c_X10_box l G mu nu z hz (xs (i + 1))) wkL_53 (by decide) rfl rfl (Nat.le_of_ble_eq_true rfl) dL_law_535 (fun r1 m1 n1 h1 => ?_)
  obtain ⟨e1, g1, q1⟩ := h1
  have hm1 := zm_cl hm q1
  have hm0 : ZM m1 n1 z := hm1
  refine m_aload_n C 1 dL_law_538 rfl ?_
  refine m_aload_n C 3 dL_law_539 rfl ?_
  refine m_iload_n C 0 dL_law_540 rfl ?_
  refine m_iconst C 1 dL_law_541 (by decide +kernel) ?_
  refine m_iadd C dL_law_542 ?_
  refine m_sld C hX (i + 1) (nn_add rfl rfl) (by omega) hL dL_law_543 ?_
  refine m_callVi C 64 (by decide) rfl rfl (c_X11_box l G m1 n1 z hm0 (xs (i + 1))) wkL_56 (by decide) rfl rfl (Nat.le_of_ble_eq_true rfl) dL_law_544 (fun r2 m2 n2 h2 => ?_)
  obtain ⟨e2, g2, q2⟩ := h2
  have hz2 := zc_cm g1 q2
  refine m_icmp_eq C 1358 dL_law_547 (by decide) (fun _ => ?_) (fun h => absurd (e1.trans e2.symm) h)
  exact kk m2 n2 _ hz2 g2

set_option maxHeartbeats 4000000 in
set_option maxRecDepth 100000 in
theorem law_case_10 (l : Launch) (G : Gl) (mu : Mu) (nu : Nu) {X : Bx} {Q : State → Prop} {b L : Nat} {xs : Nat → Int32} (C : Cx G 4 X cL_law RL (some .boolean) 20) (hX : Lx G X b L xs) (i : Nat) (hi : i + 6 ≤ L) (hL : L ≤ 3072) (z : Zt) (hz : ZC mu nu z) (hm : ZM mu nu z) (kk : ∀ m n2 z2, ZC m n2 z2 → ZM m n2 z2 → Mq l G 4 X Q 1358 (lw_lv G b i) [] m n2) : Mq l G 4 X Q 552 (lw_lv G b i) [] mu nu := by
  refine m_aload_n C 2 dL_law_552 rfl ?_
  refine m_aload_n C 3 dL_law_553 rfl ?_
  refine m_iload_n C 0 dL_law_554 rfl ?_
  refine m_iconst C 1 dL_law_555 (by decide +kernel) ?_
  refine m_iadd C dL_law_556 ?_
  refine m_sld C hX (i + 1) (nn_add rfl rfl) (by omega) hL dL_law_557 ?_
  refine m_aload_n C 3 dL_law_558 rfl ?_
  refine m_iload_n C 0 dL_law_559 rfl ?_
  refine m_iconst C 2 dL_law_560 (by decide +kernel) ?_
  refine m_iadd C dL_law_561 ?_
  refine m_sld C hX (i + 2) (nn_add rfl rfl) (by omega) hL dL_law_562 ?_
  refine m_callVi C 0 (by decide) rfl rfl (c_X10_rod l G mu nu z hz (xs (i + 1)) (xs (i + 2))) wkL_57 (by decide) rfl rfl (Nat.le_of_ble_eq_true rfl) dL_law_563 (fun r1 m1 n1 h1 => ?_)
  obtain ⟨e1, g1, q1⟩ := h1
  have hm1 := zm_cl hm q1
  have hm0 : ZM m1 n1 z := hm1
  refine m_aload_n C 1 dL_law_566 rfl ?_
  refine m_aload_n C 3 dL_law_567 rfl ?_
  refine m_iload_n C 0 dL_law_568 rfl ?_
  refine m_iconst C 1 dL_law_569 (by decide +kernel) ?_
  refine m_iadd C dL_law_570 ?_
  refine m_sld C hX (i + 1) (nn_add rfl rfl) (by omega) hL dL_law_571 ?_
  refine m_aload_n C 3 dL_law_572 rfl ?_
  refine m_iload_n C 0 dL_law_573 rfl ?_
  refine m_iconst C 2 dL_law_574 (by decide +kernel) ?_
  refine m_iadd C dL_law_575 ?_
  refine m_sld C hX (i + 2) (nn_add rfl rfl) (by omega) hL dL_law_576 ?_
  refine m_callVi C 64 (by decide) rfl rfl (c_X11_rod l G m1 n1 z hm0 (xs (i + 1)) (xs (i + 2))) wkL_60 (by decide) rfl rfl (Nat.le_of_ble_eq_true rfl) dL_law_577 (fun r2 m2 n2 h2 => ?_)
  obtain ⟨e2, g2, q2⟩ := h2
  have hz2 := zc_cm g1 q2
  refine m_icmp_eq C 1358 dL_law_580 (by decide) (fun _ => ?_) (fun h => absurd (e1.trans e2.symm) h)
  exact kk m2 n2 _ hz2 g2

set_option maxHeartbeats 4000000 in
set_option maxRecDepth 100000 in
theorem law_case_11 (l : Launch) (G : Gl) (mu : Mu) (nu : Nu) {X : Bx} {Q : State → Prop} {b L : Nat} {xs : Nat → Int32} (C : Cx G 4 X cL_law RL (some .boolean) 20) (hX : Lx G X b L xs) (i : Nat) (hi : i + 6 ≤ L) (hL : L ≤ 3072) (z : Zt) (hz : ZC mu nu z) (hm : ZM mu nu z) (kk : ∀ m n2 z2, ZC m n2 z2 → ZM m n2 z2 → Mq l G 4 X Q 1358 (lw_lv G b i) [] m n2) : Mq l G 4 X Q 585 (lw_lv G b i) [] mu nu := by
  refine m_aload_n C 2 dL_law_585 rfl ?_
  refine m_aload_n C 3 dL_law_586 rfl ?_
  refine m_iload_n C 0 dL_law_587 rfl ?_
  refine m_iconst C 1 dL_law_588 (by decide +kernel) ?_
  refine m_iadd C dL_law_589 ?_
  refine m_sld C hX (i + 1) (nn_add rfl rfl) (by omega) hL dL_law_590 ?_
  refine m_aload_n C 3 dL_law_591 rfl ?_
  refine m_iload_n C 0 dL_law_592 rfl ?_
  refine m_iconst C 2 dL_law_593 (by decide +kernel) ?_
  refine m_iadd C dL_law_594 ?_
  refine m_sld C hX (i + 2) (nn_add rfl rfl) (by omega) hL dL_law_595 ?_
  refine m_callVi C 0 (by decide) rfl rfl (c_X10_mark l G mu nu z hz (xs (i + 1)) (xs (i + 2))) wkL_61 (by decide) rfl rfl (Nat.le_of_ble_eq_true rfl) dL_law_596 (fun r1 m1 n1 h1 => ?_)
  obtain ⟨e1, g1, q1⟩ := h1
  have hm1 := zm_cl hm q1
  have hm0 : ZM m1 n1 z := hm1
  refine m_aload_n C 1 dL_law_599 rfl ?_
  refine m_aload_n C 3 dL_law_600 rfl ?_
  refine m_iload_n C 0 dL_law_601 rfl ?_
  refine m_iconst C 1 dL_law_602 (by decide +kernel) ?_
  refine m_iadd C dL_law_603 ?_
  refine m_sld C hX (i + 1) (nn_add rfl rfl) (by omega) hL dL_law_604 ?_
  refine m_aload_n C 3 dL_law_605 rfl ?_
  refine m_iload_n C 0 dL_law_606 rfl ?_
  refine m_iconst C 2 dL_law_607 (by decide +kernel) ?_
  refine m_iadd C dL_law_608 ?_
  refine m_sld C hX (i + 2) (nn_add rfl rfl) (by omega) hL dL_law_609 ?_
  refine m_callVi C 64 (by decide) rfl rfl (c_X11_mark l G m1 n1 z hm0 (xs (i + 1)) (xs (i + 2))) wkL_64 (by decide) rfl rfl (Nat.le_of_ble_eq_true rfl) dL_law_610 (fun r2 m2 n2 h2 => ?_)
  obtain ⟨e2, g2, q2⟩ := h2
  have hz2 := zc_cm g1 q2
  refine m_icmp_eq C 1358 dL_law_613 (by decide) (fun _ => ?_) (fun h => absurd (e1.trans e2.symm) h)
  exact kk m2 n2 _ hz2 g2

set_option maxHeartbeats 4000000 in
set_option maxRecDepth 100000 in
theorem law_case_12 (l : Launch) (G : Gl) (mu : Mu) (nu : Nu) {X : Bx} {Q : State → Prop} {b L : Nat} {xs : Nat → Int32} (C : Cx G 4 X cL_law RL (some .boolean) 20) (hX : Lx G X b L xs) (i : Nat) (hi : i + 6 ≤ L) (hL : L ≤ 3072) (z : Zt) (hz : ZC mu nu z) (hm : ZM mu nu z) (kk : ∀ m n2 z2, ZC m n2 z2 → ZM m n2 z2 → Mq l G 4 X Q 1358 (lw_lv G b i) [] m n2) : Mq l G 4 X Q 618 (lw_lv G b i) [] mu nu := by
  refine m_aload_n C 2 dL_law_618 rfl ?_
  refine m_aload_n C 3 dL_law_619 rfl ?_
  refine m_iload_n C 0 dL_law_620 rfl ?_
  refine m_iconst C 1 dL_law_621 (by decide +kernel) ?_
  refine m_iadd C dL_law_622 ?_
  refine m_sld C hX (i + 1) (nn_add rfl rfl) (by omega) hL dL_law_623 ?_
  refine m_aload_n C 3 dL_law_624 rfl ?_
  refine m_iload_n C 0 dL_law_625 rfl ?_
  refine m_iconst C 2 dL_law_626 (by decide +kernel) ?_
  refine m_iadd C dL_law_627 ?_
  refine m_sld C hX (i + 2) (nn_add rfl rfl) (by omega) hL dL_law_628 ?_
  refine m_callVi C 0 (by decide) rfl rfl (c_X10_shows l G mu nu z hz (xs (i + 1)) (xs (i + 2))) wkL_65 (by decide) rfl rfl (Nat.le_of_ble_eq_true rfl) dL_law_629 (fun r1 m1 n1 h1 => ?_)
  obtain ⟨e1, g1, q1⟩ := h1
  have hm1 := zm_cl hm q1
  have hm0 : ZM m1 n1 z := hm1
  refine m_aload_n C 1 dL_law_632 rfl ?_
  refine m_aload_n C 3 dL_law_633 rfl ?_
  refine m_iload_n C 0 dL_law_634 rfl ?_
  refine m_iconst C 1 dL_law_635 (by decide +kernel) ?_
  refine m_iadd C dL_law_636 ?_
  refine m_sld C hX (i + 1) (nn_add rfl rfl) (by omega) hL dL_law_637 ?_
  refine m_aload_n C 3 dL_law_638 rfl ?_
  refine m_iload_n C 0 dL_law_639 rfl ?_
  refine m_iconst C 2 dL_law_640 (by decide +kernel) ?_
  refine m_iadd C dL_law_641 ?_
  refine m_sld C hX (i + 2) (nn_add rfl rfl) (by omega) hL dL_law_642 ?_
  refine m_callVi C 64 (by decide) rfl rfl (c_X11_shows l G m1 n1 z hm0 (xs (i + 1)) (xs (i + 2))) wkL_68 (by decide) rfl rfl (Nat.le_of_ble_eq_true rfl) dL_law_643 (fun r2 m2 n2 h2 => ?_)
  obtain ⟨e2, g2, q2⟩ := h2
  have hz2 := zc_cm g1 q2
  refine m_icmp_eq C 1358 dL_law_646 (by decide) (fun _ => ?_) (fun h => absurd (e1.trans e2.symm) h)
  exact kk m2 n2 _ hz2 g2

set_option maxHeartbeats 4000000 in
set_option maxRecDepth 100000 in
theorem law_case_13 (l : Launch) (G : Gl) (mu : Mu) (nu : Nu) {X : Bx} {Q : State → Prop} {b L : Nat} {xs : Nat → Int32} (C : Cx G 4 X cL_law RL (some .boolean) 20) (hX : Lx G X b L xs) (i : Nat) (hi : i + 6 ≤ L) (hL : L ≤ 3072) (z : Zt) (hz : ZC mu nu z) (hm : ZM mu nu z) (kk : ∀ m n2 z2, ZC m n2 z2 → ZM m n2 z2 → Mq l G 4 X Q 1358 (lw_lv G b i) [] m n2) : Mq l G 4 X Q 651 (lw_lv G b i) [] mu nu := by
  refine m_aload_n C 2 dL_law_651 rfl ?_
  refine m_aload_n C 3 dL_law_652 rfl ?_
  refine m_iload_n C 0 dL_law_653 rfl ?_
  refine m_iconst C 1 dL_law_654 (by decide +kernel) ?_
  refine m_iadd C dL_law_655 ?_
  refine m_sld C hX (i + 1) (nn_add rfl rfl) (by omega) hL dL_law_656 ?_
  refine m_callVi C 0 (by decide) rfl rfl (c_X10_laid l G mu nu z hz (xs (i + 1))) wkL_69 (by decide) rfl rfl (Nat.le_of_ble_eq_true rfl) dL_law_657 (fun r1 m1 n1 h1 => ?_)
  obtain ⟨e1, g1, q1⟩ := h1
  have hm1 := zm_cl hm q1
  have hm0 : ZM m1 n1 z := hm1
  refine m_aload_n C 1 dL_law_660 rfl ?_
  refine m_aload_n C 3 dL_law_661 rfl ?_
  refine m_iload_n C 0 dL_law_662 rfl ?_
  refine m_iconst C 1 dL_law_663 (by decide +kernel) ?_
  refine m_iadd C dL_law_664 ?_
  refine m_sld C hX (i + 1) (nn_add rfl rfl) (by omega) hL dL_law_665 ?_
  refine m_callVi C 64 (by decide) rfl rfl (c_X11_laid l G m1 n1 z hm0 (xs (i + 1))) wkL_72 (by decide) rfl rfl (Nat.le_of_ble_eq_true rfl) dL_law_666 (fun r2 m2 n2 h2 => ?_)
  obtain ⟨e2, g2, q2⟩ := h2
  have hz2 := zc_cm g1 q2
  refine m_icmp_eq C 1358 dL_law_669 (by decide) (fun _ => ?_) (fun h => absurd (e1.trans e2.symm) h)
  exact kk m2 n2 _ hz2 g2

set_option maxHeartbeats 4000000 in
set_option maxRecDepth 100000 in
theorem law_case_14 (l : Launch) (G : Gl) (mu : Mu) (nu : Nu) {X : Bx} {Q : State → Prop} {b L : Nat} {xs : Nat → Int32} (C : Cx G 4 X cL_law RL (some .boolean) 20) (hX : Lx G X b L xs) (i : Nat) (hi : i + 6 ≤ L) (hL : L ≤ 3072) (z : Zt) (hz : ZC mu nu z) (hm : ZM mu nu z) (kk : ∀ m n2 z2, ZC m n2 z2 → ZM m n2 z2 → Mq l G 4 X Q 1358 (lw_lv G b i) [] m n2) : Mq l G 4 X Q 674 (lw_lv G b i) [] mu nu := by
  refine m_aload_n C 2 dL_law_674 rfl ?_
  refine m_callVi C 0 (by decide) rfl rfl (c_X10_lift l G mu nu z hz) wkL_73 (by decide) rfl rfl (Nat.le_of_ble_eq_true rfl) dL_law_675 (fun r1 m1 n1 h1 => ?_)
  obtain ⟨e1, g1, q1⟩ := h1
  have hm1 := zm_cl hm q1
  have hm0 : ZM m1 n1 z := hm1
  refine m_aload_n C 1 dL_law_678 rfl ?_
  refine m_callVi C 64 (by decide) rfl rfl (c_X11_lift l G m1 n1 z hm0) wkL_77 (by decide) rfl rfl (Nat.le_of_ble_eq_true rfl) dL_law_679 (fun r2 m2 n2 h2 => ?_)
  obtain ⟨e2, g2, q2⟩ := h2
  have hz2 := zc_cm g1 q2
  refine m_icmp_eq C 1358 dL_law_682 (by decide) (fun _ => ?_) (fun h => absurd (e1.trans e2.symm) h)
  exact kk m2 n2 _ hz2 g2

set_option maxHeartbeats 4000000 in
set_option maxRecDepth 100000 in
theorem law_case_15 (l : Launch) (G : Gl) (mu : Mu) (nu : Nu) {X : Bx} {Q : State → Prop} {b L : Nat} {xs : Nat → Int32} (C : Cx G 4 X cL_law RL (some .boolean) 20) (hX : Lx G X b L xs) (i : Nat) (hi : i + 6 ≤ L) (hL : L ≤ 3072) (z : Zt) (hz : ZC mu nu z) (hm : ZM mu nu z) (kk : ∀ m n2 z2, ZC m n2 z2 → ZM m n2 z2 → Mq l G 4 X Q 1358 (lw_lv G b i) [] m n2) : Mq l G 4 X Q 687 (lw_lv G b i) [] mu nu := by
  refine m_aload_n C 2 dL_law_687 rfl ?_
  refine m_aload_n C 3 dL_law_688 rfl ?_
  refine m_iload_n C 0 dL_law_689 rfl ?_
  refine m_iconst C 1 dL_law_690 (by decide +kernel) ?_
  refine m_iadd C dL_law_691 ?_
  refine m_sld C hX (i + 1) (nn_add rfl rfl) (by omega) hL dL_law_692 ?_
  refine m_aload_n C 3 dL_law_693 rfl ?_
  refine m_iload_n C 0 dL_law_694 rfl ?_
  refine m_iconst C 2 dL_law_695 (by decide +kernel) ?_
  refine m_iadd C dL_law_696 ?_
  refine m_sld C hX (i + 2) (nn_add rfl rfl) (by omega) hL dL_law_697 ?_
  refine m_callVi C 0 (by decide) rfl rfl (c_X10_change l G mu nu z hz (xs (i + 1)) (xs (i + 2))) wkL_78 (by decide) rfl rfl (Nat.le_of_ble_eq_true rfl) dL_law_698 (fun r1 m1 n1 h1 => ?_)
  obtain ⟨e1, g1, q1⟩ := h1
  have hm1 := zm_cl hm q1
  have hm0 : ZM m1 n1 z := hm1
  refine m_aload_n C 1 dL_law_701 rfl ?_
  refine m_aload_n C 3 dL_law_702 rfl ?_
  refine m_iload_n C 0 dL_law_703 rfl ?_
  refine m_iconst C 1 dL_law_704 (by decide +kernel) ?_
  refine m_iadd C dL_law_705 ?_
  refine m_sld C hX (i + 1) (nn_add rfl rfl) (by omega) hL dL_law_706 ?_
  refine m_aload_n C 3 dL_law_707 rfl ?_
  refine m_iload_n C 0 dL_law_708 rfl ?_
  refine m_iconst C 2 dL_law_709 (by decide +kernel) ?_
  refine m_iadd C dL_law_710 ?_
  refine m_sld C hX (i + 2) (nn_add rfl rfl) (by omega) hL dL_law_711 ?_
  refine m_callVi C 64 (by decide) rfl rfl (c_X11_change l G m1 n1 z hm0 (xs (i + 1)) (xs (i + 2))) wkL_81 (by decide) rfl rfl (Nat.le_of_ble_eq_true rfl) dL_law_712 (fun r2 m2 n2 h2 => ?_)
  obtain ⟨e2, g2, q2⟩ := h2
  have hz2 := zc_cm g1 q2
  refine m_icmp_eq C 1358 dL_law_715 (by decide) (fun _ => ?_) (fun h => absurd (e1.trans e2.symm) h)
  exact kk m2 n2 _ hz2 g2

set_option maxHeartbeats 4000000 in
set_option maxRecDepth 100000 in
theorem law_case_16 (l : Launch) (G : Gl) (mu : Mu) (nu : Nu) {X : Bx} {Q : State → Prop} {b L : Nat} {xs : Nat → Int32} (C : Cx G 4 X cL_law RL (some .boolean) 20) (hX : Lx G X b L xs) (i : Nat) (hi : i + 6 ≤ L) (hL : L ≤ 3072) (z : Zt) (hz : ZC mu nu z) (hm : ZM mu nu z) (kk : ∀ m n2 z2, ZC m n2 z2 → ZM m n2 z2 → Mq l G 4 X Q 1358 (lw_lv G b i) [] m n2) : Mq l G 4 X Q 720 (lw_lv G b i) [] mu nu := by
  refine m_aload_n C 2 dL_law_720 rfl ?_
  refine m_aload_n C 3 dL_law_721 rfl ?_
  refine m_iload_n C 0 dL_law_722 rfl ?_
  refine m_iconst C 1 dL_law_723 (by decide +kernel) ?_
  refine m_iadd C dL_law_724 ?_
  refine m_sld C hX (i + 1) (nn_add rfl rfl) (by omega) hL dL_law_725 ?_
  refine m_callVi C 0 (by decide) rfl rfl (c_X10_over l G mu nu z hz (xs (i + 1))) wkL_82 (by decide) rfl rfl (Nat.le_of_ble_eq_true rfl) dL_law_726 (fun r1 m1 n1 h1 => ?_)
  obtain ⟨e1, g1, q1⟩ := h1
  have hm1 := zm_cl hm q1
  have hm0 : ZM m1 n1 z := hm1
  refine m_aload_n C 1 dL_law_729 rfl ?_
  refine m_aload_n C 3 dL_law_730 rfl ?_
  refine m_iload_n C 0 dL_law_731 rfl ?_
  refine m_iconst C 1 dL_law_732 (by decide +kernel) ?_
  refine m_iadd C dL_law_733 ?_
  refine m_sld C hX (i + 1) (nn_add rfl rfl) (by omega) hL dL_law_734 ?_
  refine m_callVi C 64 (by decide) rfl rfl (c_X11_over l G m1 n1 z hm0 (xs (i + 1))) wkL_85 (by decide) rfl rfl (Nat.le_of_ble_eq_true rfl) dL_law_735 (fun r2 m2 n2 h2 => ?_)
  obtain ⟨e2, g2, q2⟩ := h2
  have hz2 := zc_cm g1 q2
  refine m_icmp_eq C 1358 dL_law_738 (by decide) (fun _ => ?_) (fun h => absurd (e1.trans e2.symm) h)
  exact kk m2 n2 _ hz2 g2

set_option maxHeartbeats 4000000 in
set_option maxRecDepth 100000 in
theorem law_case_17 (l : Launch) (G : Gl) (mu : Mu) (nu : Nu) {X : Bx} {Q : State → Prop} {b L : Nat} {xs : Nat → Int32} (C : Cx G 4 X cL_law RL (some .boolean) 20) (hX : Lx G X b L xs) (i : Nat) (hi : i + 6 ≤ L) (hL : L ≤ 3072) (z : Zt) (hz : ZC mu nu z) (hm : ZM mu nu z) (kk : ∀ m n2 z2, ZC m n2 z2 → ZM m n2 z2 → Mq l G 4 X Q 1358 (lw_lv G b i) [] m n2) : Mq l G 4 X Q 743 (lw_lv G b i) [] mu nu := by
  refine m_aload_n C 2 dL_law_743 rfl ?_
  refine m_aload_n C 3 dL_law_744 rfl ?_
  refine m_iload_n C 0 dL_law_745 rfl ?_
  refine m_iconst C 1 dL_law_746 (by decide +kernel) ?_
  refine m_iadd C dL_law_747 ?_
  refine m_sld C hX (i + 1) (nn_add rfl rfl) (by omega) hL dL_law_748 ?_
  refine m_callVi C 0 (by decide) rfl rfl (c_X10_undo l G mu nu z hz (xs (i + 1))) wkL_86 (by decide) rfl rfl (Nat.le_of_ble_eq_true rfl) dL_law_749 (fun r1 m1 n1 h1 => ?_)
  obtain ⟨e1, g1, q1⟩ := h1
  have hm1 := zm_cl hm q1
  have hm0 : ZM m1 n1 z := hm1
  refine m_aload_n C 1 dL_law_752 rfl ?_
  refine m_aload_n C 3 dL_law_753 rfl ?_
  refine m_iload_n C 0 dL_law_754 rfl ?_
  refine m_iconst C 1 dL_law_755 (by decide +kernel) ?_
  refine m_iadd C dL_law_756 ?_
  refine m_sld C hX (i + 1) (nn_add rfl rfl) (by omega) hL dL_law_757 ?_
  refine m_callVi C 64 (by decide) rfl rfl (c_X11_undo l G m1 n1 z hm0 (xs (i + 1))) wkL_89 (by decide) rfl rfl (Nat.le_of_ble_eq_true rfl) dL_law_758 (fun r2 m2 n2 h2 => ?_)
  obtain ⟨e2, g2, q2⟩ := h2
  have hz2 := zc_cm g1 q2
  refine m_icmp_eq C 1358 dL_law_761 (by decide) (fun _ => ?_) (fun h => absurd (e1.trans e2.symm) h)
  exact kk m2 n2 _ hz2 g2

set_option maxHeartbeats 4000000 in
set_option maxRecDepth 100000 in
theorem law_case_18 (l : Launch) (G : Gl) (mu : Mu) (nu : Nu) {X : Bx} {Q : State → Prop} {b L : Nat} {xs : Nat → Int32} (C : Cx G 4 X cL_law RL (some .boolean) 20) (hX : Lx G X b L xs) (i : Nat) (hi : i + 6 ≤ L) (hL : L ≤ 3072) (z : Zt) (hz : ZC mu nu z) (hm : ZM mu nu z) (kk : ∀ m n2 z2, ZC m n2 z2 → ZM m n2 z2 → Mq l G 4 X Q 1358 (lw_lv G b i) [] m n2) : Mq l G 4 X Q 766 (lw_lv G b i) [] mu nu := by
  refine m_aload_n C 2 dL_law_766 rfl ?_
  refine m_aload_n C 3 dL_law_767 rfl ?_
  refine m_iload_n C 0 dL_law_768 rfl ?_
  refine m_iconst C 1 dL_law_769 (by decide +kernel) ?_
  refine m_iadd C dL_law_770 ?_
  refine m_sld C hX (i + 1) (nn_add rfl rfl) (by omega) hL dL_law_771 ?_
  refine m_callVi C 0 (by decide) rfl rfl (c_X10_keep l G mu nu z hz (xs (i + 1))) wkL_90 (by decide) rfl rfl (Nat.le_of_ble_eq_true rfl) dL_law_772 (fun r1 m1 n1 h1 => ?_)
  obtain ⟨e1, g1, q1⟩ := h1
  have hm1 := zm_cl hm q1
  have hm0 : ZM m1 n1 z := hm1
  refine m_aload_n C 1 dL_law_775 rfl ?_
  refine m_aload_n C 3 dL_law_776 rfl ?_
  refine m_iload_n C 0 dL_law_777 rfl ?_
  refine m_iconst C 1 dL_law_778 (by decide +kernel) ?_
  refine m_iadd C dL_law_779 ?_
  refine m_sld C hX (i + 1) (nn_add rfl rfl) (by omega) hL dL_law_780 ?_
  refine m_callVi C 64 (by decide) rfl rfl (c_X11_keep l G m1 n1 z hm0 (xs (i + 1))) wkL_93 (by decide) rfl rfl (Nat.le_of_ble_eq_true rfl) dL_law_781 (fun r2 m2 n2 h2 => ?_)
  obtain ⟨e2, g2, q2⟩ := h2
  have hz2 := zc_cm g1 q2
  refine m_icmp_eq C 1358 dL_law_784 (by decide) (fun _ => ?_) (fun h => absurd (e1.trans e2.symm) h)
  exact kk m2 n2 _ hz2 g2

set_option maxHeartbeats 4000000 in
set_option maxRecDepth 100000 in
theorem law_case_19 (l : Launch) (G : Gl) (mu : Mu) (nu : Nu) {X : Bx} {Q : State → Prop} {b L : Nat} {xs : Nat → Int32} (C : Cx G 4 X cL_law RL (some .boolean) 20) (hX : Lx G X b L xs) (i : Nat) (hi : i + 6 ≤ L) (hL : L ≤ 3072) (z : Zt) (hz : ZC mu nu z) (hm : ZM mu nu z) (kk : ∀ m n2 z2, ZC m n2 z2 → ZM m n2 z2 → Mq l G 4 X Q 1358 (lw_lv G b i) [] m n2) : Mq l G 4 X Q 789 (lw_lv G b i) [] mu nu := by
  refine m_aload_n C 2 dL_law_789 rfl ?_
  refine m_aload_n C 3 dL_law_790 rfl ?_
  refine m_iload_n C 0 dL_law_791 rfl ?_
  refine m_iconst C 1 dL_law_792 (by decide +kernel) ?_
  refine m_iadd C dL_law_793 ?_
  refine m_sld C hX (i + 1) (nn_add rfl rfl) (by omega) hL dL_law_794 ?_
  refine m_callVi C 0 (by decide) rfl rfl (c_X10_on l G mu nu z hz (xs (i + 1))) wkL_94 (by decide) rfl rfl (Nat.le_of_ble_eq_true rfl) dL_law_795 (fun r1 m1 n1 h1 => ?_)
  obtain ⟨e1, g1, q1⟩ := h1
  have hm1 := zm_cl hm q1
  have hm0 : ZM m1 n1 z := hm1
  refine m_aload_n C 1 dL_law_798 rfl ?_
  refine m_aload_n C 3 dL_law_799 rfl ?_
  refine m_iload_n C 0 dL_law_800 rfl ?_
  refine m_iconst C 1 dL_law_801 (by decide +kernel) ?_
  refine m_iadd C dL_law_802 ?_
  refine m_sld C hX (i + 1) (nn_add rfl rfl) (by omega) hL dL_law_803 ?_
  refine m_callVi C 64 (by decide) rfl rfl (c_X11_on l G m1 n1 z hm0 (xs (i + 1))) wkL_97 (by decide) rfl rfl (Nat.le_of_ble_eq_true rfl) dL_law_804 (fun r2 m2 n2 h2 => ?_)
  obtain ⟨e2, g2, q2⟩ := h2
  have hz2 := zc_cm g1 q2
  refine m_icmp_eq C 1358 dL_law_807 (by decide) (fun _ => ?_) (fun h => absurd (e1.trans e2.symm) h)
  exact kk m2 n2 _ hz2 g2

set_option maxHeartbeats 4000000 in
set_option maxRecDepth 100000 in
theorem law_case_20 (l : Launch) (G : Gl) (mu : Mu) (nu : Nu) {X : Bx} {Q : State → Prop} {b L : Nat} {xs : Nat → Int32} (C : Cx G 4 X cL_law RL (some .boolean) 20) (hX : Lx G X b L xs) (i : Nat) (hi : i + 6 ≤ L) (hL : L ≤ 3072) (z : Zt) (hz : ZC mu nu z) (hm : ZM mu nu z) (kk : ∀ m n2 z2, ZC m n2 z2 → ZM m n2 z2 → Mq l G 4 X Q 1358 (lw_lv G b i) [] m n2) : Mq l G 4 X Q 812 (lw_lv G b i) [] mu nu := by
  refine m_aload_n C 2 dL_law_812 rfl ?_
  refine m_aload_n C 3 dL_law_813 rfl ?_
  refine m_iload_n C 0 dL_law_814 rfl ?_
  refine m_iconst C 1 dL_law_815 (by decide +kernel) ?_
  refine m_iadd C dL_law_816 ?_
  refine m_sld C hX (i + 1) (nn_add rfl rfl) (by omega) hL dL_law_817 ?_
  refine m_callVi C 0 (by decide) rfl rfl (c_X10_reads l G mu nu z hz (xs (i + 1))) wkL_98 (by decide) rfl rfl (Nat.le_of_ble_eq_true rfl) dL_law_818 (fun r1 m1 n1 h1 => ?_)
  obtain ⟨e1, g1, q1⟩ := h1
  have hm1 := zm_cl hm q1
  have hm0 : ZM m1 n1 z := hm1
  refine m_aload_n C 1 dL_law_821 rfl ?_
  refine m_aload_n C 3 dL_law_822 rfl ?_
  refine m_iload_n C 0 dL_law_823 rfl ?_
  refine m_iconst C 1 dL_law_824 (by decide +kernel) ?_
  refine m_iadd C dL_law_825 ?_
  refine m_sld C hX (i + 1) (nn_add rfl rfl) (by omega) hL dL_law_826 ?_
  refine m_callVi C 64 (by decide) rfl rfl (c_X11_reads l G m1 n1 z hm0 (xs (i + 1))) wkL_101 (by decide) rfl rfl (Nat.le_of_ble_eq_true rfl) dL_law_827 (fun r2 m2 n2 h2 => ?_)
  obtain ⟨e2, g2, q2⟩ := h2
  have hz2 := zc_cm g1 q2
  refine m_icmp_eq C 1358 dL_law_830 (by decide) (fun _ => ?_) (fun h => absurd (e1.trans e2.symm) h)
  exact kk m2 n2 _ hz2 g2

set_option maxHeartbeats 4000000 in
set_option maxRecDepth 100000 in
theorem law_case_21 (l : Launch) (G : Gl) (mu : Mu) (nu : Nu) {X : Bx} {Q : State → Prop} {b L : Nat} {xs : Nat → Int32} (C : Cx G 4 X cL_law RL (some .boolean) 20) (hX : Lx G X b L xs) (i : Nat) (hi : i + 6 ≤ L) (hL : L ≤ 3072) (z : Zt) (hz : ZC mu nu z) (hm : ZM mu nu z) (kk : ∀ m n2 z2, ZC m n2 z2 → ZM m n2 z2 → Mq l G 4 X Q 1358 (lw_lv G b i) [] m n2) : Mq l G 4 X Q 835 (lw_lv G b i) [] mu nu := by
  refine m_aload_n C 2 dL_law_835 rfl ?_
  refine m_callVi C 0 (by decide) rfl rfl (c_X10_wrong l G mu nu z hz) wkL_102 (by decide) rfl rfl (Nat.le_of_ble_eq_true rfl) dL_law_836 (fun r1 m1 n1 h1 => ?_)
  obtain ⟨e1, g1, q1⟩ := h1
  have hm1 := zm_cl hm q1
  have hm0 : ZM m1 n1 z := hm1
  refine m_aload_n C 1 dL_law_839 rfl ?_
  refine m_callVi C 64 (by decide) rfl rfl (c_X11_wrong l G m1 n1 z hm0) wkL_105 (by decide) rfl rfl (Nat.le_of_ble_eq_true rfl) dL_law_840 (fun r2 m2 n2 h2 => ?_)
  obtain ⟨e2, g2, q2⟩ := h2
  have hz2 := zc_cm g1 q2
  refine m_icmp_eq C 1358 dL_law_843 (by decide) (fun _ => ?_) (fun h => absurd (e1.trans e2.symm) h)
  exact kk m2 n2 _ hz2 g2

set_option maxHeartbeats 4000000 in
set_option maxRecDepth 100000 in
theorem law_case_22 (l : Launch) (G : Gl) (mu : Mu) (nu : Nu) {X : Bx} {Q : State → Prop} {b L : Nat} {xs : Nat → Int32} (C : Cx G 4 X cL_law RL (some .boolean) 20) (hX : Lx G X b L xs) (i : Nat) (hi : i + 6 ≤ L) (hL : L ≤ 3072) (z : Zt) (hz : ZC mu nu z) (hm : ZM mu nu z) (kk : ∀ m n2 z2, ZC m n2 z2 → ZM m n2 z2 → Mq l G 4 X Q 1358 (lw_lv G b i) [] m n2) : Mq l G 4 X Q 848 (lw_lv G b i) [] mu nu := by
  refine m_aload_n C 2 dL_law_848 rfl ?_
  refine m_aload_n C 3 dL_law_849 rfl ?_
  refine m_iload_n C 0 dL_law_850 rfl ?_
  refine m_iconst C 1 dL_law_851 (by decide +kernel) ?_
  refine m_iadd C dL_law_852 ?_
  refine m_sld C hX (i + 1) (nn_add rfl rfl) (by omega) hL dL_law_853 ?_
  refine m_callVi C 0 (by decide) rfl rfl (c_X10_carries l G mu nu z hz (xs (i + 1))) wkL_106 (by decide) rfl rfl (Nat.le_of_ble_eq_true rfl) dL_law_854 (fun r1 m1 n1 h1 => ?_)
  obtain ⟨e1, g1, q1⟩ := h1
  have hm1 := zm_cl hm q1
  have hm0 : ZM m1 n1 z := hm1
  refine m_aload_n C 1 dL_law_857 rfl ?_
  refine m_aload_n C 3 dL_law_858 rfl ?_
  refine m_iload_n C 0 dL_law_859 rfl ?_
  refine m_iconst C 1 dL_law_860 (by decide +kernel) ?_
  refine m_iadd C dL_law_861 ?_
  refine m_sld C hX (i + 1) (nn_add rfl rfl) (by omega) hL dL_law_862 ?_
  refine m_callVi C 64 (by decide) rfl rfl (c_X11_carries l G m1 n1 z hm0 (xs (i + 1))) wkL_109 (by decide) rfl rfl (Nat.le_of_ble_eq_true rfl) dL_law_863 (fun r2 m2 n2 h2 => ?_)
  obtain ⟨e2, g2, q2⟩ := h2
  have hz2 := zc_cm g1 q2
  refine m_icmp_eq C 1358 dL_law_866 (by decide) (fun _ => ?_) (fun h => absurd (e1.trans e2.symm) h)
  exact kk m2 n2 _ hz2 g2

set_option maxHeartbeats 4000000 in
set_option maxRecDepth 100000 in
theorem law_case_23 (l : Launch) (G : Gl) (mu : Mu) (nu : Nu) {X : Bx} {Q : State → Prop} {b L : Nat} {xs : Nat → Int32} (C : Cx G 4 X cL_law RL (some .boolean) 20) (hX : Lx G X b L xs) (i : Nat) (hi : i + 6 ≤ L) (hL : L ≤ 3072) (z : Zt) (hz : ZC mu nu z) (hm : ZM mu nu z) (kk : ∀ m n2 z2, ZC m n2 z2 → ZM m n2 z2 → Mq l G 4 X Q 1358 (lw_lv G b i) [] m n2) : Mq l G 4 X Q 871 (lw_lv G b i) [] mu nu := by
  refine m_aload_n C 2 dL_law_871 rfl ?_
  refine m_aload_n C 3 dL_law_872 rfl ?_
  refine m_iload_n C 0 dL_law_873 rfl ?_
  refine m_iconst C 1 dL_law_874 (by decide +kernel) ?_
  refine m_iadd C dL_law_875 ?_
  refine m_sld C hX (i + 1) (nn_add rfl rfl) (by omega) hL dL_law_876 ?_
  refine m_aload_n C 3 dL_law_877 rfl ?_
  refine m_iload_n C 0 dL_law_878 rfl ?_
  refine m_iconst C 2 dL_law_879 (by decide +kernel) ?_
  refine m_iadd C dL_law_880 ?_
  refine m_sld C hX (i + 2) (nn_add rfl rfl) (by omega) hL dL_law_881 ?_
  refine m_aload_n C 3 dL_law_882 rfl ?_
  refine m_iload_n C 0 dL_law_883 rfl ?_
  refine m_iconst C 3 dL_law_884 (by decide +kernel) ?_
  refine m_iadd C dL_law_885 ?_
  refine m_sld C hX (i + 3) (nn_add rfl rfl) (by omega) hL dL_law_886 ?_
  refine m_callVi C 0 (by decide) rfl rfl (c_X10_makes l G mu nu z hz (xs (i + 1)) (xs (i + 2)) (xs (i + 3))) wkL_110 (by decide) rfl rfl (Nat.le_of_ble_eq_true rfl) dL_law_887 (fun r1 m1 n1 h1 => ?_)
  obtain ⟨e1, g1, q1⟩ := h1
  have hm1 := zm_cl hm q1
  have hm0 : ZM m1 n1 z := hm1
  refine m_aload_n C 1 dL_law_890 rfl ?_
  refine m_aload_n C 3 dL_law_891 rfl ?_
  refine m_iload_n C 0 dL_law_892 rfl ?_
  refine m_iconst C 1 dL_law_893 (by decide +kernel) ?_
  refine m_iadd C dL_law_894 ?_
  refine m_sld C hX (i + 1) (nn_add rfl rfl) (by omega) hL dL_law_895 ?_
  refine m_aload_n C 3 dL_law_896 rfl ?_
  refine m_iload_n C 0 dL_law_897 rfl ?_
  refine m_iconst C 2 dL_law_898 (by decide +kernel) ?_
  refine m_iadd C dL_law_899 ?_
  refine m_sld C hX (i + 2) (nn_add rfl rfl) (by omega) hL dL_law_900 ?_
  refine m_aload_n C 3 dL_law_901 rfl ?_
  refine m_iload_n C 0 dL_law_902 rfl ?_
  refine m_iconst C 3 dL_law_903 (by decide +kernel) ?_
  refine m_iadd C dL_law_904 ?_
  refine m_sld C hX (i + 3) (nn_add rfl rfl) (by omega) hL dL_law_905 ?_
  refine m_callVi C 64 (by decide) rfl rfl (c_X11_makes l G m1 n1 z hm0 (xs (i + 1)) (xs (i + 2)) (xs (i + 3))) wkL_113 (by decide) rfl rfl (Nat.le_of_ble_eq_true rfl) dL_law_906 (fun r2 m2 n2 h2 => ?_)
  obtain ⟨e2, g2, q2⟩ := h2
  have hz2 := zc_cm g1 q2
  refine m_icmp_eq C 1358 dL_law_909 (by decide) (fun _ => ?_) (fun h => absurd (e1.trans e2.symm) h)
  exact kk m2 n2 _ hz2 g2

set_option maxHeartbeats 4000000 in
set_option maxRecDepth 100000 in
theorem law_case_24 (l : Launch) (G : Gl) (mu : Mu) (nu : Nu) {X : Bx} {Q : State → Prop} {b L : Nat} {xs : Nat → Int32} (C : Cx G 4 X cL_law RL (some .boolean) 20) (hX : Lx G X b L xs) (i : Nat) (hi : i + 6 ≤ L) (hL : L ≤ 3072) (z : Zt) (hz : ZC mu nu z) (hm : ZM mu nu z) (kk : ∀ m n2 z2, ZC m n2 z2 → ZM m n2 z2 → Mq l G 4 X Q 1358 (lw_lv G b i) [] m n2) : Mq l G 4 X Q 914 (lw_lv G b i) [] mu nu := by
  refine m_aload_n C 2 dL_law_914 rfl ?_
  refine m_aload_n C 3 dL_law_915 rfl ?_
  refine m_iload_n C 0 dL_law_916 rfl ?_
  refine m_iconst C 1 dL_law_917 (by decide +kernel) ?_
  refine m_iadd C dL_law_918 ?_
  refine m_sld C hX (i + 1) (nn_add rfl rfl) (by omega) hL dL_law_919 ?_
  refine m_aload_n C 3 dL_law_920 rfl ?_
  refine m_iload_n C 0 dL_law_921 rfl ?_
  refine m_iconst C 2 dL_law_922 (by decide +kernel) ?_
  refine m_iadd C dL_law_923 ?_
  refine m_sld C hX (i + 2) (nn_add rfl rfl) (by omega) hL dL_law_924 ?_
  refine m_aload_n C 3 dL_law_925 rfl ?_
  refine m_iload_n C 0 dL_law_926 rfl ?_
  refine m_iconst C 3 dL_law_927 (by decide +kernel) ?_
  refine m_iadd C dL_law_928 ?_
  refine m_sld C hX (i + 3) (nn_add rfl rfl) (by omega) hL dL_law_929 ?_
  refine m_callVi C 0 (by decide) rfl rfl (c_X10_most l G mu nu z hz (xs (i + 1)) (xs (i + 2)) (xs (i + 3))) wkL_114 (by decide) rfl rfl (Nat.le_of_ble_eq_true rfl) dL_law_930 (fun r1 m1 n1 h1 => ?_)
  obtain ⟨e1, g1, q1⟩ := h1
  have hm1 := zm_cl hm q1
  have hm0 : ZM m1 n1 z := hm1
  refine m_aload_n C 1 dL_law_933 rfl ?_
  refine m_aload_n C 3 dL_law_934 rfl ?_
  refine m_iload_n C 0 dL_law_935 rfl ?_
  refine m_iconst C 1 dL_law_936 (by decide +kernel) ?_
  refine m_iadd C dL_law_937 ?_
  refine m_sld C hX (i + 1) (nn_add rfl rfl) (by omega) hL dL_law_938 ?_
  refine m_aload_n C 3 dL_law_939 rfl ?_
  refine m_iload_n C 0 dL_law_940 rfl ?_
  refine m_iconst C 2 dL_law_941 (by decide +kernel) ?_
  refine m_iadd C dL_law_942 ?_
  refine m_sld C hX (i + 2) (nn_add rfl rfl) (by omega) hL dL_law_943 ?_
  refine m_aload_n C 3 dL_law_944 rfl ?_
  refine m_iload_n C 0 dL_law_945 rfl ?_
  refine m_iconst C 3 dL_law_946 (by decide +kernel) ?_
  refine m_iadd C dL_law_947 ?_
  refine m_sld C hX (i + 3) (nn_add rfl rfl) (by omega) hL dL_law_948 ?_
  refine m_callVi C 64 (by decide) rfl rfl (c_X11_most l G m1 n1 z hm0 (xs (i + 1)) (xs (i + 2)) (xs (i + 3))) wkL_117 (by decide) rfl rfl (Nat.le_of_ble_eq_true rfl) dL_law_949 (fun r2 m2 n2 h2 => ?_)
  obtain ⟨e2, g2, q2⟩ := h2
  have hz2 := zc_cm g1 q2
  refine m_icmp_eq C 1358 dL_law_952 (by decide) (fun _ => ?_) (fun h => absurd (e1.trans e2.symm) h)
  exact kk m2 n2 _ hz2 g2

set_option maxHeartbeats 4000000 in
set_option maxRecDepth 100000 in
theorem law_case_25 (l : Launch) (G : Gl) (mu : Mu) (nu : Nu) {X : Bx} {Q : State → Prop} {b L : Nat} {xs : Nat → Int32} (C : Cx G 4 X cL_law RL (some .boolean) 20) (hX : Lx G X b L xs) (i : Nat) (hi : i + 6 ≤ L) (hL : L ≤ 3072) (z : Zt) (hz : ZC mu nu z) (hm : ZM mu nu z) (kk : ∀ m n2 z2, ZC m n2 z2 → ZM m n2 z2 → Mq l G 4 X Q 1358 (lw_lv G b i) [] m n2) : Mq l G 4 X Q 957 (lw_lv G b i) [] mu nu := by
  refine m_aload_n C 2 dL_law_957 rfl ?_
  refine m_aload_n C 3 dL_law_958 rfl ?_
  refine m_iload_n C 0 dL_law_959 rfl ?_
  refine m_iconst C 1 dL_law_960 (by decide +kernel) ?_
  refine m_iadd C dL_law_961 ?_
  refine m_sld C hX (i + 1) (nn_add rfl rfl) (by omega) hL dL_law_962 ?_
  refine m_aload_n C 3 dL_law_963 rfl ?_
  refine m_iload_n C 0 dL_law_964 rfl ?_
  refine m_iconst C 2 dL_law_965 (by decide +kernel) ?_
  refine m_iadd C dL_law_966 ?_
  refine m_sld C hX (i + 2) (nn_add rfl rfl) (by omega) hL dL_law_967 ?_
  refine m_callVi C 0 (by decide) rfl rfl (c_X10_near l G mu nu z hz (xs (i + 1)) (xs (i + 2))) wkL_118 (by decide) rfl rfl (Nat.le_of_ble_eq_true rfl) dL_law_968 (fun r1 m1 n1 h1 => ?_)
  obtain ⟨e1, g1, q1⟩ := h1
  have hm1 := zm_cl hm q1
  have hm0 : ZM m1 n1 z := hm1
  refine m_aload_n C 1 dL_law_971 rfl ?_
  refine m_aload_n C 3 dL_law_972 rfl ?_
  refine m_iload_n C 0 dL_law_973 rfl ?_
  refine m_iconst C 1 dL_law_974 (by decide +kernel) ?_
  refine m_iadd C dL_law_975 ?_
  refine m_sld C hX (i + 1) (nn_add rfl rfl) (by omega) hL dL_law_976 ?_
  refine m_aload_n C 3 dL_law_977 rfl ?_
  refine m_iload_n C 0 dL_law_978 rfl ?_
  refine m_iconst C 2 dL_law_979 (by decide +kernel) ?_
  refine m_iadd C dL_law_980 ?_
  refine m_sld C hX (i + 2) (nn_add rfl rfl) (by omega) hL dL_law_981 ?_
  refine m_callVi C 64 (by decide) rfl rfl (c_X11_near l G m1 n1 z hm0 (xs (i + 1)) (xs (i + 2))) wkL_121 (by decide) rfl rfl (Nat.le_of_ble_eq_true rfl) dL_law_982 (fun r2 m2 n2 h2 => ?_)
  obtain ⟨e2, g2, q2⟩ := h2
  have hz2 := zc_cm g1 q2
  refine m_icmp_eq C 1358 dL_law_985 (by decide) (fun _ => ?_) (fun h => absurd (e1.trans e2.symm) h)
  exact kk m2 n2 _ hz2 g2

set_option maxHeartbeats 4000000 in
set_option maxRecDepth 100000 in
theorem law_case_26 (l : Launch) (G : Gl) (mu : Mu) (nu : Nu) {X : Bx} {Q : State → Prop} {b L : Nat} {xs : Nat → Int32} (C : Cx G 4 X cL_law RL (some .boolean) 20) (hX : Lx G X b L xs) (i : Nat) (hi : i + 6 ≤ L) (hL : L ≤ 3072) (z : Zt) (hz : ZC mu nu z) (hm : ZM mu nu z) (kk : ∀ m n2 z2, ZC m n2 z2 → ZM m n2 z2 → Mq l G 4 X Q 1358 (lw_lv G b i) [] m n2) : Mq l G 4 X Q 990 (lw_lv G b i) [] mu nu := by
  refine m_aload_n C 2 dL_law_990 rfl ?_
  refine m_aload_n C 3 dL_law_991 rfl ?_
  refine m_iload_n C 0 dL_law_992 rfl ?_
  refine m_iconst C 1 dL_law_993 (by decide +kernel) ?_
  refine m_iadd C dL_law_994 ?_
  refine m_sld C hX (i + 1) (nn_add rfl rfl) (by omega) hL dL_law_995 ?_
  refine m_aload_n C 3 dL_law_996 rfl ?_
  refine m_iload_n C 0 dL_law_997 rfl ?_
  refine m_iconst C 2 dL_law_998 (by decide +kernel) ?_
  refine m_iadd C dL_law_999 ?_
  refine m_sld C hX (i + 2) (nn_add rfl rfl) (by omega) hL dL_law_1000 ?_
  refine m_callVi C 0 (by decide) rfl rfl (c_X10_digits l G mu nu z hz (xs (i + 1)) (xs (i + 2))) wkL_122 (by decide) rfl rfl (Nat.le_of_ble_eq_true rfl) dL_law_1001 (fun r1 m1 n1 h1 => ?_)
  obtain ⟨e1, g1, q1⟩ := h1
  have hm1 := zm_cl hm q1
  have hm0 : ZM m1 n1 z := hm1
  refine m_aload_n C 1 dL_law_1004 rfl ?_
  refine m_aload_n C 3 dL_law_1005 rfl ?_
  refine m_iload_n C 0 dL_law_1006 rfl ?_
  refine m_iconst C 1 dL_law_1007 (by decide +kernel) ?_
  refine m_iadd C dL_law_1008 ?_
  refine m_sld C hX (i + 1) (nn_add rfl rfl) (by omega) hL dL_law_1009 ?_
  refine m_aload_n C 3 dL_law_1010 rfl ?_
  refine m_iload_n C 0 dL_law_1011 rfl ?_
  refine m_iconst C 2 dL_law_1012 (by decide +kernel) ?_
  refine m_iadd C dL_law_1013 ?_
  refine m_sld C hX (i + 2) (nn_add rfl rfl) (by omega) hL dL_law_1014 ?_
  refine m_callVi C 64 (by decide) rfl rfl (c_X11_digits l G m1 n1 z hm0 (xs (i + 1)) (xs (i + 2))) wkL_125 (by decide) rfl rfl (Nat.le_of_ble_eq_true rfl) dL_law_1015 (fun r2 m2 n2 h2 => ?_)
  obtain ⟨e2, g2, q2⟩ := h2
  have hz2 := zc_cm g1 q2
  refine m_icmp_eq C 1358 dL_law_1018 (by decide) (fun _ => ?_) (fun h => absurd (e1.trans e2.symm) h)
  exact kk m2 n2 _ hz2 g2

set_option maxHeartbeats 4000000 in
set_option maxRecDepth 100000 in
theorem law_case_27 (l : Launch) (G : Gl) (mu : Mu) (nu : Nu) {X : Bx} {Q : State → Prop} {b L : Nat} {xs : Nat → Int32} (C : Cx G 4 X cL_law RL (some .boolean) 20) (hX : Lx G X b L xs) (i : Nat) (hi : i + 6 ≤ L) (hL : L ≤ 3072) (z : Zt) (hz : ZC mu nu z) (hm : ZM mu nu z) (kk : ∀ m n2 z2, ZC m n2 z2 → ZM m n2 z2 → Mq l G 4 X Q 1358 (lw_lv G b i) [] m n2) : Mq l G 4 X Q 1023 (lw_lv G b i) [] mu nu := by
  refine m_aload_n C 2 dL_law_1023 rfl ?_
  refine m_aload_n C 3 dL_law_1024 rfl ?_
  refine m_iload_n C 0 dL_law_1025 rfl ?_
  refine m_iconst C 1 dL_law_1026 (by decide +kernel) ?_
  refine m_iadd C dL_law_1027 ?_
  refine m_sld C hX (i + 1) (nn_add rfl rfl) (by omega) hL dL_law_1028 ?_
  refine m_aload_n C 3 dL_law_1029 rfl ?_
  refine m_iload_n C 0 dL_law_1030 rfl ?_
  refine m_iconst C 2 dL_law_1031 (by decide +kernel) ?_
  refine m_iadd C dL_law_1032 ?_
  refine m_sld C hX (i + 2) (nn_add rfl rfl) (by omega) hL dL_law_1033 ?_
  refine m_callVi C 0 (by decide) rfl rfl (c_X10_kinds l G mu nu z hz (xs (i + 1)) (xs (i + 2))) wkL_126 (by decide) rfl rfl (Nat.le_of_ble_eq_true rfl) dL_law_1034 (fun r1 m1 n1 h1 => ?_)
  obtain ⟨e1, g1, q1⟩ := h1
  have hm1 := zm_cl hm q1
  have hm0 : ZM m1 n1 z := hm1
  refine m_aload_n C 1 dL_law_1037 rfl ?_
  refine m_aload_n C 3 dL_law_1038 rfl ?_
  refine m_iload_n C 0 dL_law_1039 rfl ?_
  refine m_iconst C 1 dL_law_1040 (by decide +kernel) ?_
  refine m_iadd C dL_law_1041 ?_
  refine m_sld C hX (i + 1) (nn_add rfl rfl) (by omega) hL dL_law_1042 ?_
  refine m_aload_n C 3 dL_law_1043 rfl ?_
  refine m_iload_n C 0 dL_law_1044 rfl ?_
  refine m_iconst C 2 dL_law_1045 (by decide +kernel) ?_
  refine m_iadd C dL_law_1046 ?_
  refine m_sld C hX (i + 2) (nn_add rfl rfl) (by omega) hL dL_law_1047 ?_
  refine m_callVi C 64 (by decide) rfl rfl (c_X11_kinds l G m1 n1 z hm0 (xs (i + 1)) (xs (i + 2))) wkL_129 (by decide) rfl rfl (Nat.le_of_ble_eq_true rfl) dL_law_1048 (fun r2 m2 n2 h2 => ?_)
  obtain ⟨e2, g2, q2⟩ := h2
  have hz2 := zc_cm g1 q2
  refine m_icmp_eq C 1358 dL_law_1051 (by decide) (fun _ => ?_) (fun h => absurd (e1.trans e2.symm) h)
  exact kk m2 n2 _ hz2 g2

set_option maxHeartbeats 4000000 in
set_option maxRecDepth 100000 in
theorem law_case_28 (l : Launch) (G : Gl) (mu : Mu) (nu : Nu) {X : Bx} {Q : State → Prop} {b L : Nat} {xs : Nat → Int32} (C : Cx G 4 X cL_law RL (some .boolean) 20) (hX : Lx G X b L xs) (i : Nat) (hi : i + 6 ≤ L) (hL : L ≤ 3072) (z : Zt) (hz : ZC mu nu z) (hm : ZM mu nu z) (kk : ∀ m n2 z2, ZC m n2 z2 → ZM m n2 z2 → Mq l G 4 X Q 1358 (lw_lv G b i) [] m n2) : Mq l G 4 X Q 1056 (lw_lv G b i) [] mu nu := by
  refine m_aload_n C 2 dL_law_1056 rfl ?_
  refine m_aload_n C 3 dL_law_1057 rfl ?_
  refine m_iload_n C 0 dL_law_1058 rfl ?_
  refine m_iconst C 1 dL_law_1059 (by decide +kernel) ?_
  refine m_iadd C dL_law_1060 ?_
  refine m_sld C hX (i + 1) (nn_add rfl rfl) (by omega) hL dL_law_1061 ?_
  refine m_aload_n C 3 dL_law_1062 rfl ?_
  refine m_iload_n C 0 dL_law_1063 rfl ?_
  refine m_iconst C 2 dL_law_1064 (by decide +kernel) ?_
  refine m_iadd C dL_law_1065 ?_
  refine m_sld C hX (i + 2) (nn_add rfl rfl) (by omega) hL dL_law_1066 ?_
  refine m_callVi C 0 (by decide) rfl rfl (c_X10_test l G mu nu z hz (xs (i + 1)) (xs (i + 2))) wkL_130 (by decide) rfl rfl (Nat.le_of_ble_eq_true rfl) dL_law_1067 (fun r1 m1 n1 h1 => ?_)
  obtain ⟨e1, g1, q1⟩ := h1
  have hm1 := zm_cl hm q1
  have hm0 : ZM m1 n1 z := hm1
  refine m_aload_n C 1 dL_law_1070 rfl ?_
  refine m_aload_n C 3 dL_law_1071 rfl ?_
  refine m_iload_n C 0 dL_law_1072 rfl ?_
  refine m_iconst C 1 dL_law_1073 (by decide +kernel) ?_
  refine m_iadd C dL_law_1074 ?_
  refine m_sld C hX (i + 1) (nn_add rfl rfl) (by omega) hL dL_law_1075 ?_
  refine m_aload_n C 3 dL_law_1076 rfl ?_
  refine m_iload_n C 0 dL_law_1077 rfl ?_
  refine m_iconst C 2 dL_law_1078 (by decide +kernel) ?_
  refine m_iadd C dL_law_1079 ?_
  refine m_sld C hX (i + 2) (nn_add rfl rfl) (by omega) hL dL_law_1080 ?_
  refine m_callVi C 64 (by decide) rfl rfl (c_X11_test l G m1 n1 z hm0 (xs (i + 1)) (xs (i + 2))) wkL_133 (by decide) rfl rfl (Nat.le_of_ble_eq_true rfl) dL_law_1081 (fun r2 m2 n2 h2 => ?_)
  obtain ⟨e2, g2, q2⟩ := h2
  have hz2 := zc_cm g1 q2
  refine m_icmp_eq C 1358 dL_law_1084 (by decide) (fun _ => ?_) (fun h => absurd (e1.trans e2.symm) h)
  exact kk m2 n2 _ hz2 g2

set_option maxHeartbeats 4000000 in
set_option maxRecDepth 100000 in
theorem law_case_29 (l : Launch) (G : Gl) (mu : Mu) (nu : Nu) {X : Bx} {Q : State → Prop} {b L : Nat} {xs : Nat → Int32} (C : Cx G 4 X cL_law RL (some .boolean) 20) (hX : Lx G X b L xs) (i : Nat) (hi : i + 6 ≤ L) (hL : L ≤ 3072) (z : Zt) (hz : ZC mu nu z) (hm : ZM mu nu z) (kk : ∀ m n2 z2, ZC m n2 z2 → ZM m n2 z2 → Mq l G 4 X Q 1358 (lw_lv G b i) [] m n2) : Mq l G 4 X Q 1089 (lw_lv G b i) [] mu nu := by
  refine m_aload_n C 2 dL_law_1089 rfl ?_
  refine m_aload_n C 3 dL_law_1090 rfl ?_
  refine m_iload_n C 0 dL_law_1091 rfl ?_
  refine m_iconst C 1 dL_law_1092 (by decide +kernel) ?_
  refine m_iadd C dL_law_1093 ?_
  refine m_sld C hX (i + 1) (nn_add rfl rfl) (by omega) hL dL_law_1094 ?_
  refine m_callVi C 0 (by decide) rfl rfl (c_X10_other l G mu nu z hz (xs (i + 1))) wkL_134 (by decide) rfl rfl (Nat.le_of_ble_eq_true rfl) dL_law_1095 (fun r1 m1 n1 h1 => ?_)
  obtain ⟨e1, g1, q1⟩ := h1
  have hm1 := zm_cl hm q1
  have hm0 : ZM m1 n1 z := hm1
  refine m_aload_n C 1 dL_law_1098 rfl ?_
  refine m_aload_n C 3 dL_law_1099 rfl ?_
  refine m_iload_n C 0 dL_law_1100 rfl ?_
  refine m_iconst C 1 dL_law_1101 (by decide +kernel) ?_
  refine m_iadd C dL_law_1102 ?_
  refine m_sld C hX (i + 1) (nn_add rfl rfl) (by omega) hL dL_law_1103 ?_
  refine m_callVi C 64 (by decide) rfl rfl (c_X11_other l G m1 n1 z hm0 (xs (i + 1))) wkL_137 (by decide) rfl rfl (Nat.le_of_ble_eq_true rfl) dL_law_1104 (fun r2 m2 n2 h2 => ?_)
  obtain ⟨e2, g2, q2⟩ := h2
  have hz2 := zc_cm g1 q2
  refine m_icmp_eq C 1358 dL_law_1107 (by decide) (fun _ => ?_) (fun h => absurd (e1.trans e2.symm) h)
  exact kk m2 n2 _ hz2 g2

set_option maxHeartbeats 4000000 in
set_option maxRecDepth 100000 in
theorem law_case_30 (l : Launch) (G : Gl) (mu : Mu) (nu : Nu) {X : Bx} {Q : State → Prop} {b L : Nat} {xs : Nat → Int32} (C : Cx G 4 X cL_law RL (some .boolean) 20) (hX : Lx G X b L xs) (i : Nat) (hi : i + 6 ≤ L) (hL : L ≤ 3072) (z : Zt) (hz : ZC mu nu z) (hm : ZM mu nu z) (kk : ∀ m n2 z2, ZC m n2 z2 → ZM m n2 z2 → Mq l G 4 X Q 1358 (lw_lv G b i) [] m n2) : Mq l G 4 X Q 1112 (lw_lv G b i) [] mu nu := by
  refine m_aload_n C 2 dL_law_1112 rfl ?_
  refine m_aload_n C 3 dL_law_1113 rfl ?_
  refine m_iload_n C 0 dL_law_1114 rfl ?_
  refine m_iconst C 1 dL_law_1115 (by decide +kernel) ?_
  refine m_iadd C dL_law_1116 ?_
  refine m_sld C hX (i + 1) (nn_add rfl rfl) (by omega) hL dL_law_1117 ?_
  refine m_aload_n C 3 dL_law_1118 rfl ?_
  refine m_iload_n C 0 dL_law_1119 rfl ?_
  refine m_iconst C 2 dL_law_1120 (by decide +kernel) ?_
  refine m_iadd C dL_law_1121 ?_
  refine m_sld C hX (i + 2) (nn_add rfl rfl) (by omega) hL dL_law_1122 ?_
  refine m_callVi C 0 (by decide) rfl rfl (c_X10_duel l G mu nu z hz (xs (i + 1)) (xs (i + 2))) wkL_138 (by decide) rfl rfl (Nat.le_of_ble_eq_true rfl) dL_law_1123 (fun r1 m1 n1 h1 => ?_)
  obtain ⟨e1, g1, q1⟩ := h1
  have hm1 := zm_cl hm q1
  have hm0 : ZM m1 n1 z := hm1
  refine m_aload_n C 1 dL_law_1126 rfl ?_
  refine m_aload_n C 3 dL_law_1127 rfl ?_
  refine m_iload_n C 0 dL_law_1128 rfl ?_
  refine m_iconst C 1 dL_law_1129 (by decide +kernel) ?_
  refine m_iadd C dL_law_1130 ?_
  refine m_sld C hX (i + 1) (nn_add rfl rfl) (by omega) hL dL_law_1131 ?_
  refine m_aload_n C 3 dL_law_1132 rfl ?_
  refine m_iload_n C 0 dL_law_1133 rfl ?_
  refine m_iconst C 2 dL_law_1134 (by decide +kernel) ?_
  refine m_iadd C dL_law_1135 ?_
  refine m_sld C hX (i + 2) (nn_add rfl rfl) (by omega) hL dL_law_1136 ?_
  refine m_callVi C 64 (by decide) rfl rfl (c_X11_duel l G m1 n1 z hm0 (xs (i + 1)) (xs (i + 2))) wkL_141 (by decide) rfl rfl (Nat.le_of_ble_eq_true rfl) dL_law_1137 (fun r2 m2 n2 h2 => ?_)
  obtain ⟨e2, g2, q2⟩ := h2
  have hz2 := zc_cm g1 q2
  refine m_icmp_eq C 1358 dL_law_1140 (by decide) (fun _ => ?_) (fun h => absurd (e1.trans e2.symm) h)
  exact kk m2 n2 _ hz2 g2

set_option maxHeartbeats 4000000 in
set_option maxRecDepth 100000 in
theorem law_case_31 (l : Launch) (G : Gl) (mu : Mu) (nu : Nu) {X : Bx} {Q : State → Prop} {b L : Nat} {xs : Nat → Int32} (C : Cx G 4 X cL_law RL (some .boolean) 20) (hX : Lx G X b L xs) (i : Nat) (hi : i + 6 ≤ L) (hL : L ≤ 3072) (z : Zt) (hz : ZC mu nu z) (hm : ZM mu nu z) (kk : ∀ m n2 z2, ZC m n2 z2 → ZM m n2 z2 → Mq l G 4 X Q 1358 (lw_lv G b i) [] m n2) : Mq l G 4 X Q 1145 (lw_lv G b i) [] mu nu := by
  refine m_aload_n C 2 dL_law_1145 rfl ?_
  refine m_aload_n C 3 dL_law_1146 rfl ?_
  refine m_iload_n C 0 dL_law_1147 rfl ?_
  refine m_iconst C 1 dL_law_1148 (by decide +kernel) ?_
  refine m_iadd C dL_law_1149 ?_
  refine m_sld C hX (i + 1) (nn_add rfl rfl) (by omega) hL dL_law_1150 ?_
  refine m_aload_n C 3 dL_law_1151 rfl ?_
  refine m_iload_n C 0 dL_law_1152 rfl ?_
  refine m_iconst C 2 dL_law_1153 (by decide +kernel) ?_
  refine m_iadd C dL_law_1154 ?_
  refine m_sld C hX (i + 2) (nn_add rfl rfl) (by omega) hL dL_law_1155 ?_
  refine m_callVi C 0 (by decide) rfl rfl (c_X10_odds l G mu nu z hz (xs (i + 1)) (xs (i + 2))) wkL_142 (by decide) rfl rfl (Nat.le_of_ble_eq_true rfl) dL_law_1156 (fun r1 m1 n1 h1 => ?_)
  obtain ⟨e1, g1, q1⟩ := h1
  have hm1 := zm_cl hm q1
  have hm0 : ZM m1 n1 z := hm1
  refine m_aload_n C 1 dL_law_1159 rfl ?_
  refine m_aload_n C 3 dL_law_1160 rfl ?_
  refine m_iload_n C 0 dL_law_1161 rfl ?_
  refine m_iconst C 1 dL_law_1162 (by decide +kernel) ?_
  refine m_iadd C dL_law_1163 ?_
  refine m_sld C hX (i + 1) (nn_add rfl rfl) (by omega) hL dL_law_1164 ?_
  refine m_aload_n C 3 dL_law_1165 rfl ?_
  refine m_iload_n C 0 dL_law_1166 rfl ?_
  refine m_iconst C 2 dL_law_1167 (by decide +kernel) ?_
  refine m_iadd C dL_law_1168 ?_
  refine m_sld C hX (i + 2) (nn_add rfl rfl) (by omega) hL dL_law_1169 ?_
  refine m_callVi C 64 (by decide) rfl rfl (c_X11_odds l G m1 n1 z hm0 (xs (i + 1)) (xs (i + 2))) wkL_145 (by decide) rfl rfl (Nat.le_of_ble_eq_true rfl) dL_law_1170 (fun r2 m2 n2 h2 => ?_)
  obtain ⟨e2, g2, q2⟩ := h2
  have hz2 := zc_cm g1 q2
  refine m_icmp_eq C 1358 dL_law_1173 (by decide) (fun _ => ?_) (fun h => absurd (e1.trans e2.symm) h)
  exact kk m2 n2 _ hz2 g2

set_option maxHeartbeats 4000000 in
set_option maxRecDepth 100000 in
theorem law_case_32 (l : Launch) (G : Gl) (mu : Mu) (nu : Nu) {X : Bx} {Q : State → Prop} {b L : Nat} {xs : Nat → Int32} (C : Cx G 4 X cL_law RL (some .boolean) 20) (hX : Lx G X b L xs) (i : Nat) (hi : i + 6 ≤ L) (hL : L ≤ 3072) (z : Zt) (hz : ZC mu nu z) (hm : ZM mu nu z) (kk : ∀ m n2 z2, ZC m n2 z2 → ZM m n2 z2 → Mq l G 4 X Q 1358 (lw_lv G b i) [] m n2) : Mq l G 4 X Q 1178 (lw_lv G b i) [] mu nu := by
  refine m_aload_n C 2 dL_law_1178 rfl ?_
  refine m_aload_n C 3 dL_law_1179 rfl ?_
  refine m_iload_n C 0 dL_law_1180 rfl ?_
  refine m_iconst C 1 dL_law_1181 (by decide +kernel) ?_
  refine m_iadd C dL_law_1182 ?_
  refine m_sld C hX (i + 1) (nn_add rfl rfl) (by omega) hL dL_law_1183 ?_
  refine m_aload_n C 3 dL_law_1184 rfl ?_
  refine m_iload_n C 0 dL_law_1185 rfl ?_
  refine m_iconst C 2 dL_law_1186 (by decide +kernel) ?_
  refine m_iadd C dL_law_1187 ?_
  refine m_sld C hX (i + 2) (nn_add rfl rfl) (by omega) hL dL_law_1188 ?_
  refine m_callVi C 0 (by decide) rfl rfl (c_X10_mid l G mu nu z hz (xs (i + 1)) (xs (i + 2))) wkL_146 (by decide) rfl rfl (Nat.le_of_ble_eq_true rfl) dL_law_1189 (fun r1 m1 n1 h1 => ?_)
  obtain ⟨e1, g1, q1⟩ := h1
  have hm1 := zm_cl hm q1
  have hm0 : ZM m1 n1 z := hm1
  refine m_aload_n C 1 dL_law_1192 rfl ?_
  refine m_aload_n C 3 dL_law_1193 rfl ?_
  refine m_iload_n C 0 dL_law_1194 rfl ?_
  refine m_iconst C 1 dL_law_1195 (by decide +kernel) ?_
  refine m_iadd C dL_law_1196 ?_
  refine m_sld C hX (i + 1) (nn_add rfl rfl) (by omega) hL dL_law_1197 ?_
  refine m_aload_n C 3 dL_law_1198 rfl ?_
  refine m_iload_n C 0 dL_law_1199 rfl ?_
  refine m_iconst C 2 dL_law_1200 (by decide +kernel) ?_
  refine m_iadd C dL_law_1201 ?_
  refine m_sld C hX (i + 2) (nn_add rfl rfl) (by omega) hL dL_law_1202 ?_
  refine m_callVi C 64 (by decide) rfl rfl (c_X11_mid l G m1 n1 z hm0 (xs (i + 1)) (xs (i + 2))) wkL_149 (by decide) rfl rfl (Nat.le_of_ble_eq_true rfl) dL_law_1203 (fun r2 m2 n2 h2 => ?_)
  obtain ⟨e2, g2, q2⟩ := h2
  have hz2 := zc_cm g1 q2
  refine m_icmp_eq C 1358 dL_law_1206 (by decide) (fun _ => ?_) (fun h => absurd (e1.trans e2.symm) h)
  exact kk m2 n2 _ hz2 g2

set_option maxHeartbeats 4000000 in
set_option maxRecDepth 100000 in
theorem law_case_33 (l : Launch) (G : Gl) (mu : Mu) (nu : Nu) {X : Bx} {Q : State → Prop} {b L : Nat} {xs : Nat → Int32} (C : Cx G 4 X cL_law RL (some .boolean) 20) (hX : Lx G X b L xs) (i : Nat) (hi : i + 6 ≤ L) (hL : L ≤ 3072) (z : Zt) (hz : ZC mu nu z) (hm : ZM mu nu z) (kk : ∀ m n2 z2, ZC m n2 z2 → ZM m n2 z2 → Mq l G 4 X Q 1358 (lw_lv G b i) [] m n2) : Mq l G 4 X Q 1211 (lw_lv G b i) [] mu nu := by
  refine m_aload_n C 2 dL_law_1211 rfl ?_
  refine m_aload_n C 3 dL_law_1212 rfl ?_
  refine m_iload_n C 0 dL_law_1213 rfl ?_
  refine m_iconst C 1 dL_law_1214 (by decide +kernel) ?_
  refine m_iadd C dL_law_1215 ?_
  refine m_sld C hX (i + 1) (nn_add rfl rfl) (by omega) hL dL_law_1216 ?_
  refine m_aload_n C 3 dL_law_1217 rfl ?_
  refine m_iload_n C 0 dL_law_1218 rfl ?_
  refine m_iconst C 2 dL_law_1219 (by decide +kernel) ?_
  refine m_iadd C dL_law_1220 ?_
  refine m_sld C hX (i + 2) (nn_add rfl rfl) (by omega) hL dL_law_1221 ?_
  refine m_callVi C 0 (by decide) rfl rfl (c_X10_lots l G mu nu z hz (xs (i + 1)) (xs (i + 2))) wkL_150 (by decide) rfl rfl (Nat.le_of_ble_eq_true rfl) dL_law_1222 (fun r1 m1 n1 h1 => ?_)
  obtain ⟨e1, g1, q1⟩ := h1
  have hm1 := zm_cl hm q1
  have hm0 : ZM m1 n1 z := hm1
  refine m_aload_n C 1 dL_law_1225 rfl ?_
  refine m_aload_n C 3 dL_law_1226 rfl ?_
  refine m_iload_n C 0 dL_law_1227 rfl ?_
  refine m_iconst C 1 dL_law_1228 (by decide +kernel) ?_
  refine m_iadd C dL_law_1229 ?_
  refine m_sld C hX (i + 1) (nn_add rfl rfl) (by omega) hL dL_law_1230 ?_
  refine m_aload_n C 3 dL_law_1231 rfl ?_
  refine m_iload_n C 0 dL_law_1232 rfl ?_
  refine m_iconst C 2 dL_law_1233 (by decide +kernel) ?_
  refine m_iadd C dL_law_1234 ?_
  refine m_sld C hX (i + 2) (nn_add rfl rfl) (by omega) hL dL_law_1235 ?_
  refine m_callVi C 64 (by decide) rfl rfl (c_X11_lots l G m1 n1 z hm0 (xs (i + 1)) (xs (i + 2))) wkL_153 (by decide) rfl rfl (Nat.le_of_ble_eq_true rfl) dL_law_1236 (fun r2 m2 n2 h2 => ?_)
  obtain ⟨e2, g2, q2⟩ := h2
  have hz2 := zc_cm g1 q2
  refine m_icmp_eq C 1358 dL_law_1239 (by decide) (fun _ => ?_) (fun h => absurd (e1.trans e2.symm) h)
  exact kk m2 n2 _ hz2 g2

set_option maxHeartbeats 4000000 in
set_option maxRecDepth 100000 in
theorem law_case_34 (l : Launch) (G : Gl) (mu : Mu) (nu : Nu) {X : Bx} {Q : State → Prop} {b L : Nat} {xs : Nat → Int32} (C : Cx G 4 X cL_law RL (some .boolean) 20) (hX : Lx G X b L xs) (i : Nat) (hi : i + 6 ≤ L) (hL : L ≤ 3072) (z : Zt) (hz : ZC mu nu z) (hm : ZM mu nu z) (kk : ∀ m n2 z2, ZC m n2 z2 → ZM m n2 z2 → Mq l G 4 X Q 1358 (lw_lv G b i) [] m n2) : Mq l G 4 X Q 1244 (lw_lv G b i) [] mu nu := by
  refine m_aload_n C 2 dL_law_1244 rfl ?_
  refine m_callVi C 0 (by decide) rfl rfl (c_X10_asked l G mu nu z hz) wkL_154 (by decide) rfl rfl (Nat.le_of_ble_eq_true rfl) dL_law_1245 (fun r1 m1 n1 h1 => ?_)
  obtain ⟨e1, g1, q1⟩ := h1
  have hm1 := zm_cl hm q1
  have hm0 : ZM m1 n1 z := hm1
  refine m_aload_n C 1 dL_law_1248 rfl ?_
  refine m_callVi C 64 (by decide) rfl rfl (c_X11_asked l G m1 n1 z hm0) wkL_157 (by decide) rfl rfl (Nat.le_of_ble_eq_true rfl) dL_law_1249 (fun r2 m2 n2 h2 => ?_)
  obtain ⟨e2, g2, q2⟩ := h2
  have hz2 := zc_cm g1 q2
  refine m_icmp_eq C 1358 dL_law_1252 (by decide) (fun _ => ?_) (fun h => absurd (e1.trans e2.symm) h)
  exact kk m2 n2 _ hz2 g2

set_option maxHeartbeats 4000000 in
set_option maxRecDepth 100000 in
theorem law_case_35 (l : Launch) (G : Gl) (mu : Mu) (nu : Nu) {X : Bx} {Q : State → Prop} {b L : Nat} {xs : Nat → Int32} (C : Cx G 4 X cL_law RL (some .boolean) 20) (hX : Lx G X b L xs) (i : Nat) (hi : i + 6 ≤ L) (hL : L ≤ 3072) (z : Zt) (hz : ZC mu nu z) (hm : ZM mu nu z) (kk : ∀ m n2 z2, ZC m n2 z2 → ZM m n2 z2 → Mq l G 4 X Q 1358 (lw_lv G b i) [] m n2) : Mq l G 4 X Q 1257 (lw_lv G b i) [] mu nu := by
  refine m_aload_n C 2 dL_law_1257 rfl ?_
  refine m_callVf C 0 (by decide) rfl rfl (c_X10_upper l G mu nu z hz) wkL_158 (by decide) rfl rfl (Nat.le_of_ble_eq_true rfl) dL_law_1258 ?_
  refine m_aload_n C 1 dL_law_1261 rfl ?_
  refine m_callVf C 64 (by decide) rfl rfl (c_X11_upper l G mu nu z hm) wkL_162 (by decide) rfl rfl (Nat.le_of_ble_eq_true rfl) dL_law_1262 ?_
  refine m_lcmp C dL_law_1265 ?_
  refine m_if_eq C 1358 dL_law_1266 (by decide) (fun _ => ?_) (fun h => absurd ((lg_cmp_eq _ _).mpr rfl) h)
  exact kk mu nu _ hz hm

set_option maxHeartbeats 4000000 in
set_option maxRecDepth 100000 in
theorem law_case_36 (l : Launch) (G : Gl) (mu : Mu) (nu : Nu) {X : Bx} {Q : State → Prop} {b L : Nat} {xs : Nat → Int32} (C : Cx G 4 X cL_law RL (some .boolean) 20) (hX : Lx G X b L xs) (i : Nat) (hi : i + 6 ≤ L) (hL : L ≤ 3072) (z : Zt) (hz : ZC mu nu z) (hm : ZM mu nu z) (kk : ∀ m n2 z2, ZC m n2 z2 → ZM m n2 z2 → Mq l G 4 X Q 1358 (lw_lv G b i) [] m n2) : Mq l G 4 X Q 1271 (lw_lv G b i) [] mu nu := by
  refine m_aload_n C 2 dL_law_1271 rfl ?_
  refine m_callVf C 0 (by decide) rfl rfl (c_X10_lower l G mu nu z hz) wkL_163 (by decide) rfl rfl (Nat.le_of_ble_eq_true rfl) dL_law_1272 ?_
  refine m_aload_n C 1 dL_law_1275 rfl ?_
  refine m_callVf C 64 (by decide) rfl rfl (c_X11_lower l G mu nu z hm) wkL_166 (by decide) rfl rfl (Nat.le_of_ble_eq_true rfl) dL_law_1276 ?_
  refine m_lcmp C dL_law_1279 ?_
  refine m_if_eq C 1358 dL_law_1280 (by decide) (fun _ => ?_) (fun h => absurd ((lg_cmp_eq _ _).mpr rfl) h)
  exact kk mu nu _ hz hm

set_option maxHeartbeats 4000000 in
set_option maxRecDepth 100000 in
theorem law_case_37 (l : Launch) (G : Gl) (mu : Mu) (nu : Nu) {X : Bx} {Q : State → Prop} {b L : Nat} {xs : Nat → Int32} (C : Cx G 4 X cL_law RL (some .boolean) 20) (hX : Lx G X b L xs) (i : Nat) (hi : i + 6 ≤ L) (hL : L ≤ 3072) (z : Zt) (hz : ZC mu nu z) (hm : ZM mu nu z) (kk : ∀ m n2 z2, ZC m n2 z2 → ZM m n2 z2 → Mq l G 4 X Q 1358 (lw_lv G b i) [] m n2) : Mq l G 4 X Q 1285 (lw_lv G b i) [] mu nu := by
  refine m_aload_n C 2 dL_law_1285 rfl ?_
  refine m_aload_n C 3 dL_law_1286 rfl ?_
  refine m_iload_n C 0 dL_law_1287 rfl ?_
  refine m_iconst C 1 dL_law_1288 (by decide +kernel) ?_
  refine m_iadd C dL_law_1289 ?_
  refine m_sld C hX (i + 1) (nn_add rfl rfl) (by omega) hL dL_law_1290 ?_
  refine m_callVf C 0 (by decide) rfl rfl (c_X10_count l G mu nu z hz (xs (i + 1))) wkL_167 (by decide) rfl rfl (Nat.le_of_ble_eq_true rfl) dL_law_1291 ?_
  refine m_aload_n C 1 dL_law_1294 rfl ?_
  refine m_aload_n C 3 dL_law_1295 rfl ?_
  refine m_iload_n C 0 dL_law_1296 rfl ?_
  refine m_iconst C 1 dL_law_1297 (by decide +kernel) ?_
  refine m_iadd C dL_law_1298 ?_
  refine m_sld C hX (i + 1) (nn_add rfl rfl) (by omega) hL dL_law_1299 ?_
  refine m_callVf C 64 (by decide) rfl rfl (c_X11_count l G mu nu z hm (xs (i + 1))) wkL_170 (by decide) rfl rfl (Nat.le_of_ble_eq_true rfl) dL_law_1300 ?_
  refine m_icmp_eq C 1358 dL_law_1303 (by decide) (fun _ => ?_) (fun h => absurd rfl h)
  exact kk mu nu _ hz hm

set_option maxHeartbeats 4000000 in
set_option maxRecDepth 100000 in
theorem law_case_38 (l : Launch) (G : Gl) (mu : Mu) (nu : Nu) {X : Bx} {Q : State → Prop} {b L : Nat} {xs : Nat → Int32} (C : Cx G 4 X cL_law RL (some .boolean) 20) (hX : Lx G X b L xs) (i : Nat) (hi : i + 6 ≤ L) (hL : L ≤ 3072) (z : Zt) (hz : ZC mu nu z) (hm : ZM mu nu z) (kk : ∀ m n2 z2, ZC m n2 z2 → ZM m n2 z2 → Mq l G 4 X Q 1358 (lw_lv G b i) [] m n2) : Mq l G 4 X Q 1308 (lw_lv G b i) [] mu nu := by
  refine m_aload_n C 2 dL_law_1308 rfl ?_
  refine m_callVi C 0 (by decide) rfl rfl (c_X10_finding l G mu nu z hz) wkL_171 (by decide) rfl rfl (Nat.le_of_ble_eq_true rfl) dL_law_1309 (fun r1 m1 n1 h1 => ?_)
  obtain ⟨e1, g1, q1⟩ := h1
  have hm1 := zm_cl hm q1
  have hm0 : ZM m1 n1 z := hm1
  refine m_aload_n C 1 dL_law_1312 rfl ?_
  refine m_callVi C 64 (by decide) rfl rfl (c_X11_finding l G m1 n1 z hm0) wkL_174 (by decide) rfl rfl (Nat.le_of_ble_eq_true rfl) dL_law_1313 (fun r2 m2 n2 h2 => ?_)
  obtain ⟨e2, g2, q2⟩ := h2
  have hz2 := zc_cm g1 q2
  refine m_icmp_eq C 1358 dL_law_1316 (by decide) (fun _ => ?_) (fun h => absurd (e1.trans e2.symm) h)
  exact kk m2 n2 _ hz2 g2

set_option maxHeartbeats 4000000 in
set_option maxRecDepth 100000 in
theorem law_case_39 (l : Launch) (G : Gl) (mu : Mu) (nu : Nu) {X : Bx} {Q : State → Prop} {b L : Nat} {xs : Nat → Int32} (C : Cx G 4 X cL_law RL (some .boolean) 20) (hX : Lx G X b L xs) (i : Nat) (hi : i + 6 ≤ L) (hL : L ≤ 3072) (z : Zt) (hz : ZC mu nu z) (hm : ZM mu nu z) (kk : ∀ m n2 z2, ZC m n2 z2 → ZM m n2 z2 → Mq l G 4 X Q 1358 (lw_lv G b i) [] m n2) : Mq l G 4 X Q 1321 (lw_lv G b i) [] mu nu := by
  refine m_aload_n C 2 dL_law_1321 rfl ?_
  refine m_aload_n C 3 dL_law_1322 rfl ?_
  refine m_iload_n C 0 dL_law_1323 rfl ?_
  refine m_iconst C 1 dL_law_1324 (by decide +kernel) ?_
  refine m_iadd C dL_law_1325 ?_
  refine m_sld C hX (i + 1) (nn_add rfl rfl) (by omega) hL dL_law_1326 ?_
  refine m_callVi C 0 (by decide) rfl rfl (c_X10_findings l G mu nu z hz (xs (i + 1))) wkL_175 (by decide) rfl rfl (Nat.le_of_ble_eq_true rfl) dL_law_1327 (fun r1 m1 n1 h1 => ?_)
  obtain ⟨e1, g1, q1⟩ := h1
  have hm1 := zm_cl hm q1
  have hm0 : ZM m1 n1 z := hm1
  refine m_aload_n C 1 dL_law_1330 rfl ?_
  refine m_aload_n C 3 dL_law_1331 rfl ?_
  refine m_iload_n C 0 dL_law_1332 rfl ?_
  refine m_iconst C 1 dL_law_1333 (by decide +kernel) ?_
  refine m_iadd C dL_law_1334 ?_
  refine m_sld C hX (i + 1) (nn_add rfl rfl) (by omega) hL dL_law_1335 ?_
  refine m_callVi C 64 (by decide) rfl rfl (c_X11_findings l G m1 n1 z hm0 (xs (i + 1))) wkL_178 (by decide) rfl rfl (Nat.le_of_ble_eq_true rfl) dL_law_1336 (fun r2 m2 n2 h2 => ?_)
  obtain ⟨e2, g2, q2⟩ := h2
  have hz2 := zc_cm g1 q2
  refine m_icmp_eq C 1358 dL_law_1339 (by decide) (fun _ => ?_) (fun h => absurd (e1.trans e2.symm) h)
  exact kk m2 n2 _ hz2 g2

set_option maxHeartbeats 4000000 in
set_option maxRecDepth 100000 in
theorem law_case_40 (l : Launch) (G : Gl) (mu : Mu) (nu : Nu) {X : Bx} {Q : State → Prop} {b L : Nat} {xs : Nat → Int32} (C : Cx G 4 X cL_law RL (some .boolean) 20) (hX : Lx G X b L xs) (i : Nat) (hi : i + 6 ≤ L) (hL : L ≤ 3072) (z : Zt) (hz : ZC mu nu z) (hm : ZM mu nu z) (kk : ∀ m n2 z2, ZC m n2 z2 → ZM m n2 z2 → Mq l G 4 X Q 1358 (lw_lv G b i) [] m n2) : Mq l G 4 X Q 1344 (lw_lv G b i) [] mu nu := by
  refine m_aload_n C 2 dL_law_1344 rfl ?_
  refine m_callVf C 0 (by decide) rfl rfl (c_X10_digest l G mu nu z hz) wkL_179 (by decide) rfl rfl (Nat.le_of_ble_eq_true rfl) dL_law_1345 ?_
  refine m_aload_n C 1 dL_law_1348 rfl ?_
  refine m_callVl C 64 (by decide) rfl rfl (c_X11_digest l G mu nu z hm) wkL_182 (by decide) rfl rfl (Nat.le_of_ble_eq_true rfl) dL_law_1349 (fun r2 m2 n2 h2 => ?_)
  obtain ⟨e2, g2, q2⟩ := h2
  have hz2 := zc_cm hz q2
  refine m_lcmp C dL_law_1352 ?_
  refine m_if_eq C 1358 dL_law_1353 (by decide) (fun _ => ?_) (fun h => absurd ((lg_cmp_eq _ _).mpr e2.symm) h)
  exact kk m2 n2 _ hz2 g2
