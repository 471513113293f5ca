section
variable {p : Program} {l : Launch} {e : Env} {R : Room} {s : State} {m : MethodId} {args : Array Value} {below : List Frame} {meth : Method} {c : Code} {H : Heap} {locs : List Loc} {cells slots : Nat} {Q : State → Prop} {G : Gl} {post : Option Value → Mu → Nu → Prop} {pc : Nat} {ls : Array Slot} {rest st0 : List Value} {a : Array Value}
theorem g_call (hr : va_Run p l e R s m args below meth c H locs cells slots 0 0 (F0 m pc ls st0) rest (g_Q G post a) (GA G)) (hS : va_S (GA G) s.heap H locs)
    (kk : ∀ (v : Option Value) (mu : Mu) (nu : Nu) (H1 : Heap) (locs1 : List Loc), post v mu nu → va_P G.2.1 vwCl (g_wl G mu nu) H1 → va_S (GA G) s.heap H1 locs1 → W p l e R s m args below meth c H1 locs1 cells slots Q (F0 m (pc + 3) ls (v.toList ++ rest))) : W p l e R s m args below meth c H locs cells slots Q (F0 m pc ls st0) := by
  intro T hT X
  obtain ⟨v, st₀, t, T', L, h0, X', hL, e1, e2, ⟨⟨v', mu, nu, hv, hp, hb⟩, hz, hk⟩, st⟩ := hr T hT X
  cases hv
  rw [h0] at hz hk
  obtain ⟨t2, a1, b1⟩ := kk v mu nu T'.heap (locs ++ L) hp (by rw [e1]; exact hb)
    ⟨Nat.le_trans hS.1 (by rw [e1]; exact hz), fun q h1 h2 => by rw [e1, hk q (Nat.lt_of_lt_of_le h1 hS.1) h2]; exact hS.2.1 q h1 h2, fun q hq => by
      rcases List.mem_append.mp hq with h | h
      · exact hS.2.2 q h
      · exact hL q h⟩ T' rfl X'
  exact ⟨t2, st t2 a1, b1⟩
end
/-- what a call of a static method asks of the tables -/
def WS (own : String) (index : Nat) (mm : Mr) (n : Nat) : Prop := Cond.methodLink own index mm.1 ∈ twl ∧ Cond.static mm.1 ∈ twl ∧ Cond.initialized mm.1.cls ∈ twl ∧ Cond.code mm.1 mm.2.1 mm.2.2.1 mm.2.2.2 ∈ twl ∧ (mm.1.cls ≠ "java/lang/invoke/MethodHandle" ∧ mm.1.cls ≠ "java/lang/invoke/VarHandle" ∧ (parseMethodDescriptor mm.1.desc).map (fun d => d.parameters.length) = some n) ∧ mm.2.2.1 ≤ 45
/-- of a method of an object of its own class -/
def WV (own : String) (index : Nat) (mm : Mr) (n : Nat) : Prop := Cond.methodLink own index mm.1 ∈ twl ∧ Cond.instanceMethod mm.1 ∈ twl ∧ Cond.selects mm.1.cls mm.1 mm.1 ∈ twl ∧ Cond.initialized mm.1.cls ∈ twl ∧ Cond.code mm.1 mm.2.1 mm.2.2.1 mm.2.2.2 ∈ twl ∧ (mm.1.cls ≠ "java/lang/invoke/MethodHandle" ∧ mm.1.cls ≠ "java/lang/invoke/VarHandle" ∧ (parseMethodDescriptor mm.1.desc).map (fun d => d.parameters.length) = some n) ∧ mm.2.2.1 ≤ 45
/-- of a nest mate's private method -/
def WN (own host : String) (index : Nat) (mm : Mr) (n : Nat) : Prop := Cond.methodLinkNest own index mm.1 host ∈ nwl ∧ Cond.instanceMethod mm.1 ∈ twl ∧ Cond.selects mm.1.cls mm.1 mm.1 ∈ twl ∧ Cond.initialized mm.1.cls ∈ twl ∧ Cond.code mm.1 mm.2.1 mm.2.2.1 mm.2.2.2 ∈ twl ∧ (mm.1.cls ≠ "java/lang/invoke/MethodHandle" ∧ mm.1.cls ≠ "java/lang/invoke/VarHandle" ∧ (parseMethodDescriptor mm.1.desc).map (fun d => d.parameters.length) = some n) ∧ mm.2.2.1 ≤ 45
/-- of a method that a class C has of another one, or in its place -/
def WO (own C : String) (index : Nat) (x : MethodName) (mm : Mr) (n : Nat) : Prop := Cond.methodLink own index x ∈ twl ∧ Cond.sameMethod x.cls x.cls x.name x.desc ∈ twl ∧ Cond.instanceMethod x ∈ twl ∧ (∃ b0 m0 r0, Cond.code x b0 m0 r0 ∈ twl) ∧ Cond.selects C x mm.1 ∈ twl ∧ Cond.instanceMethod mm.1 ∈ twl ∧ Cond.initialized mm.1.cls ∈ twl ∧ Cond.code mm.1 mm.2.1 mm.2.2.1 mm.2.2.2 ∈ twl ∧ (x.cls ≠ "java/lang/invoke/MethodHandle" ∧ x.cls ≠ "java/lang/invoke/VarHandle" ∧ (parseMethodDescriptor x.desc).map (fun d => d.parameters.length) = some n) ∧ mm.2.2.1 ≤ 45
/-- of the class's own elder, by super -/
def WU (own : String) (index : Nat) (mm : Mr) (n : Nat) : Prop := Cond.methodLink own index mm.1 ∈ twl ∧ Cond.sameMethod mm.1.cls mm.1.cls mm.1.name mm.1.desc ∈ twl ∧ Cond.superclass own mm.1.cls ∈ twl ∧ Cond.instanceMethod mm.1 ∈ twl ∧ Cond.initialized mm.1.cls ∈ twl ∧ Cond.code mm.1 mm.2.1 mm.2.2.1 mm.2.2.2 ∈ twl ∧ (mm.1.name ≠ "<init>" ∧ (parseMethodDescriptor mm.1.desc).map (fun d => d.parameters.length) = some n) ∧ mm.2.2.1 ≤ 45
section
variable {l : Launch} {G : Gl} {nL : Nat} {X : Bx} {Q : State → Prop} {cc : ByteArray} {own : String} {ret : Option FieldType} {fr pc : Nat} {lv : List (Nat × Value)} {st : List Value} {mu : Mu} {nu : Nu} {mm : Mr} {post : Option Value → Mu → Nu → Prop} {fr' n index : Nat}
theorem g_pre {s U : State} {H : Heap} {locs : List Loc} {as : List Value} (hP : va_P G.2.1 vwCl (g_wl G mu nu) H) (hK : va_K G.2.1 vwCl (g_tys G) s) (hGS : g_S G s s.heap) (hGN : g_N s) (hd : g_dis G) (hS : va_S (GA G) s.heap H locs) (hU : U.heap = H) (hW : s.WarmedH U.vm) : g_Pc G as mu nu as.toArray U :=
  ⟨rfl, by rw [hU]; exact hP, va_K.moved hW.alike hK, by rw [hU]; exact (hGS.kept hS.2.1).moved hW.alike, hGN.warm hW, hd⟩
theorem m_callS (C : Cx G nL X cc own ret fr) {as : List Value} {rest : List Value} (hc : Ct l G mm fr' as mu nu post) (hw : WS own index mm n) (hf : fr' + 1 ≤ fr) (hn : as.length = n) (hst : st = as.reverse ++ rest) (hrm : (rest.map fun v => v.category).sum ≤ 8) (d : decode cc pc = .ok (.invokestatic index, 3))
    (kk : ∀ (v : Option Value) (mu2 : Mu) (nu2 : Nu), post v mu2 nu2 → Mq l G nL X Q (pc + 3) lv (v.toList ++ rest) mu2 nu2) : Mq l G nL X Q pc lv st mu nu := by
  obtain ⟨p, e, R, s, m, args, below, meth, c, cells, slots⟩ := X
  obtain ⟨hx, hb, hml, ho, hts, hK, hGS, hGN, hd, hr, hlk, hfr, hlo, hce, hsl⟩ := C
  intro H locs ls hP hS hl
  obtain ⟨w1, w2, w3, w4, w5, w6⟩ := hw
  subst hst
  refine g_call (va_runS ⟨hx, hb, hml, ho, hts⟩ hc ⟨callB_of (ws' := twl) n hts (twl_good w4) rfl rfl rfl (hts _ w3) (hts _ w1) w5 ⟨Nat.le_trans hf hfr, ?_⟩, hts _ w2⟩ ⟨g_blind, fun U hU hW => g_pre hP hK hGS hGN hd hS hU hW⟩ rfl hn hl.1 rfl (lv_room hrm) d ⟨hce, hsl⟩) hS (fun v mu2 nu2 H1 locs1 hp hP1 hS1 => kk v mu2 nu2 hp H1 locs1 ls hP1 hS1 hl)
  show 8 + (mm.2.2.1 + 11) + 64 * fr' ≤ R.locals
  omega
theorem m_callV (C : Cx G nL X cc own ret fr) {as : List Value} {rest : List Value} (q0 : Nat) (hq : q0 < 79) {ci : Nat} {fs : List Value} {T : u_T} {N : Nat} (he : g_sh G q0 (mu q0) (nu q0) = .inr (ci, fs)) (hcl : vwCl[ci]? = some (mm.1.cls, T, N)) (hc : Ct l G mm fr' (.ref (G.1 q0) :: as) mu nu post) (hw : WV own index mm n) (hf : fr' + 1 ≤ fr) (hn : as.length = n) (hst : st = as.reverse ++ .ref (G.1 q0) :: rest) (hrm : (rest.map fun v => v.category).sum ≤ 8) (d : decode cc pc = .ok (.invokevirtual index, 3))
    (kk : ∀ (v : Option Value) (mu2 : Mu) (nu2 : Nu), post v mu2 nu2 → Mq l G nL X Q (pc + 3) lv (v.toList ++ rest) mu2 nu2) : Mq l G nL X Q pc lv st mu nu := by
  obtain ⟨p, e, R, s, m, args, below, meth, c, cells, slots⟩ := X
  obtain ⟨hx, hb, hml, ho, hts, hK, hGS, hGN, hd, hr, hlk, hfr, hlo, hce, hsl⟩ := C
  intro H locs ls hP hS hl
  obtain ⟨w1, w2, w3, w4, w5, w6, w7⟩ := hw
  subst hst
  refine g_call (va_runV (C := mm.1.cls) ⟨hx, hb, hml, ho, hts⟩ hc ⟨callB_of (ws' := twl) n hts (twl_good w5) rfl rfl rfl (hts _ w4) (hts _ w1) w6 ⟨Nat.le_trans hf hfr, ?_⟩, hts _ w2, hts _ w3⟩ ⟨g_blind, va_recv hK hP hcl (g_atE hq he), fun U hU hW => g_pre hP hK hGS hGN hd hS hU hW⟩ rfl hn hl.1 rfl (lv_room hrm) d ⟨hce, hsl⟩) hS (fun v mu2 nu2 H1 locs1 hp hP1 hS1 => kk v mu2 nu2 hp H1 locs1 ls hP1 hS1 hl)
  show 8 + (mm.2.2.1 + 11) + 64 * fr' ≤ R.locals
  omega
theorem m_callN (C : Cx G nL X cc own ret fr) {as : List Value} {rest : List Value} {host : String} (q0 : Nat) (hq : q0 < 79) {ci : Nat} {fs : List Value} {T : u_T} {N : Nat} (he : g_sh G q0 (mu q0) (nu q0) = .inr (ci, fs)) (hcl : vwCl[ci]? = some (mm.1.cls, T, N)) (hc : Ct l G mm fr' (.ref (G.1 q0) :: as) mu nu post) (hw : WN own host index mm n) (hf : fr' + 1 ≤ fr) (hn : as.length = n) (hst : st = as.reverse ++ .ref (G.1 q0) :: rest) (hrm : (rest.map fun v => v.category).sum ≤ 8) (d : decode cc pc = .ok (.invokevirtual index, 3))
    (kk : ∀ (v : Option Value) (mu2 : Mu) (nu2 : Nu), post v mu2 nu2 → Mq l G nL X Q (pc + 3) lv (v.toList ++ rest) mu2 nu2) : Mq l G nL X Q pc lv st mu nu := by
  obtain ⟨p, e, R, s, m, args, below, meth, c, cells, slots⟩ := X
  obtain ⟨hx, hb, hml, ho, hts, hK, hGS, hGN, hd, hr, hlk, hfr, hlo, hce, hsl⟩ := C
  intro H locs ls hP hS hl
  obtain ⟨w1, w2, w3, w4, w5, w6, w7⟩ := hw
  subst hst
  refine g_call (va_runVN (C := mm.1.cls) (host := host) ⟨hx, hb, hml, ho, hts⟩ hc ⟨va_cnB (ws' := twl) n hts (twl_good w5) rfl rfl rfl (hGN.1 _ w1) (hts _ w4) w6 ⟨Nat.le_trans hf hfr, ?_⟩, hts _ w2, hts _ w3⟩ ⟨g_blind, va_recv hK hP hcl (g_atE hq he), fun U hU hW => g_pre hP hK hGS hGN hd hS hU hW⟩ rfl hn hl.1 rfl (lv_room hrm) d ⟨hce, hsl⟩) hS (fun v mu2 nu2 H1 locs1 hp hP1 hS1 => kk v mu2 nu2 hp H1 locs1 ls hP1 hS1 hl)
  show 8 + (mm.2.2.1 + 11) + 64 * fr' ≤ R.locals
  omega
theorem m_callO (C : Cx G nL X cc own ret fr) {as : List Value} {rest : List Value} {x : MethodName} {cn : String} (q0 : Nat) (hq : q0 < 79) {ci : Nat} {fs : List Value} {T : u_T} {N : Nat} (he : g_sh G q0 (mu q0) (nu q0) = .inr (ci, fs)) (hcl : vwCl[ci]? = some (cn, T, N)) (hc : Ct l G mm fr' (.ref (G.1 q0) :: as) mu nu post) (hw : WO own cn index x mm n) (hf : fr' + 1 ≤ fr) (hn : as.length = n) (hst : st = as.reverse ++ .ref (G.1 q0) :: rest) (hrm : (rest.map fun v => v.category).sum ≤ 8) (d : decode cc pc = .ok (.invokevirtual index, 3))
    (kk : ∀ (v : Option Value) (mu2 : Mu) (nu2 : Nu), post v mu2 nu2 → Mq l G nL X Q (pc + 3) lv (v.toList ++ rest) mu2 nu2) : Mq l G nL X Q pc lv st mu nu := by
  obtain ⟨p, e, R, s, m, args, below, meth, c, cells, slots⟩ := X
  obtain ⟨hx, hb, hml, ho, hts, hK, hGS, hGN, hd, hr, hlk, hfr, hlo, hce, hsl⟩ := C
  intro H locs ls hP hS hl
  obtain ⟨w1, w2, w3, ⟨b0, m0, r0, w4⟩, w5, w6, w7, w8, w9, w10⟩ := hw
  subst hst
  refine g_call (va_runU (C := cn) (owner := x.cls) (x := x) ⟨hx, hb, hml, ho, hts⟩ hc ⟨⟨rfl, rfl, Nat.le_trans hf hfr, ?_, pay_in hts (twl_good w8), List.mem_cons_self⟩, hts _ w8, hts _ w7, ⟨w9.1, w9.2.1⟩, fun sig h => ?_, hts _ w1, hts _ w2, va_Decl.of (hts _ w3) (hts _ w4), hts _ w5, hts _ w6⟩ ⟨g_blind, va_recv hK hP hcl (g_atE hq he), fun U hU hW => g_pre hP hK hGS hGN hd hS hU hW⟩ rfl hn hl.1 rfl (lv_room hrm) d ⟨hce, hsl⟩) hS (fun v mu2 nu2 H1 locs1 hp hP1 hS1 => kk v mu2 nu2 hp H1 locs1 ls hP1 hS1 hl)
  · show 8 + (mm.2.2.1 + 11) + 64 * fr' ≤ R.locals
    omega
  · have h2 := w9.2.2
    rw [h] at h2
    exact (Option.some.inj h2).symm
theorem m_callU (C : Cx G nL X cc own ret fr) {as : List Value} {rest : List Value} {cn : String} (q0 : Nat) (hq : q0 < 79) {ci : Nat} {fs : List Value} {T : u_T} {N : Nat} (he : g_sh G q0 (mu q0) (nu q0) = .inr (ci, fs)) (hcl : vwCl[ci]? = some (cn, T, N)) (hc : Ct l G mm fr' (.ref (G.1 q0) :: as) mu nu post) (hw : WU own index mm n) (hf : fr' + 1 ≤ fr) (hn : as.length = n) (hst : st = as.reverse ++ .ref (G.1 q0) :: rest) (hrm : (rest.map fun v => v.category).sum ≤ 8) (d : decode cc pc = .ok (.invokespecial index, 3))
    (kk : ∀ (v : Option Value) (mu2 : Mu) (nu2 : Nu), post v mu2 nu2 → Mq l G nL X Q (pc + 3) lv (v.toList ++ rest) mu2 nu2) : Mq l G nL X Q pc lv st mu nu := by
  obtain ⟨p, e, R, s, m, args, below, meth, c, cells, slots⟩ := X
  obtain ⟨hx, hb, hml, ho, hts, hK, hGS, hGN, hd, hr, hlk, hfr, hlo, hce, hsl⟩ := C
  intro H locs ls hP hS hl
  obtain ⟨w1, w2, w3, w4, w5, w6, w7, w8⟩ := hw
  subst hst
  refine g_call (va_runSU (C := cn) (hK.1 ci _ hcl).2 ⟨hx, hb, hml, ho, hts⟩ hc ⟨⟨rfl, rfl, Nat.le_trans hf hfr, ?_, pay_in hts (twl_good w6), List.mem_cons_self⟩, hts _ w1, hts _ w2, hts _ w3, hts _ w4, hts _ w5, hts _ w6, w7.1, fun sig h => ?_⟩ ⟨g_blind, va_recv hK hP hcl (g_atE hq he), fun U hU hW => g_pre hP hK hGS hGN hd hS hU hW⟩ rfl hn hl.1 rfl (lv_room hrm) d ⟨hce, hsl⟩) hS (fun v mu2 nu2 H1 locs1 hp hP1 hS1 => kk v mu2 nu2 hp H1 locs1 ls hP1 hS1 hl)
  · show 8 + (mm.2.2.1 + 11) + 64 * fr' ≤ R.locals
    omega
  · have h2 := w7.2
    rw [h] at h2
    exact (Option.some.inj h2).symm
def WMax (own : String) (index : Nat) (nm : MethodName) (cd : ByteArray) : Prop := Cond.methodLink own index nm ∈ twl ∧ Cond.static nm ∈ twl ∧ Cond.initialized "java/lang/Math" ∈ twl ∧ Cond.code nm cd 2 (some .int) ∈ twl
theorem m_max (C : Cx G nL X cc own ret fr) {rest : List Value} {x y : Int32} (hw : WMax own index Lib.Math.max.name Lib.Math.max.code) (hf : 1 ≤ fr) (hrm : (rest.map fun v => v.category).sum ≤ 8) (d : decode cc pc = .ok (.invokestatic index, 3))
    (kk : Mq l G nL X Q (pc + 3) lv (.int (if x < y then y else x) :: rest) mu nu) : Mq l G nL X Q pc lv (.int y :: .int x :: rest) mu nu := by
  obtain ⟨p, e, R, s, m, args, below, meth, c, cells, slots⟩ := X
  obtain ⟨hx, hb, hml, ho, hts, hK, hGS, hGN, hd, hr, hlk, hfr, hlo, hce, hsl⟩ := C
  intro H locs ls hP hS hl
  exact va_mmax hx hb (hml.trans hl.1.symm) ho (hts _ hw.1) (hts _ hw.2.1) (hts _ hw.2.2.1) (hts _ hw.2.2.2) (Nat.le_trans hf hfr) (by omega) hce hsl d (kk H locs ls hP hS hl)
theorem m_min (C : Cx G nL X cc own ret fr) {rest : List Value} {x y : Int32} (hw : WMax own index Lib.Math.min.name Lib.Math.min.code) (hf : 1 ≤ fr) (hrm : (rest.map fun v => v.category).sum ≤ 8) (d : decode cc pc = .ok (.invokestatic index, 3))
    (kk : Mq l G nL X Q (pc + 3) lv (.int (if y < x then y else x) :: rest) mu nu) : Mq l G nL X Q pc lv (.int y :: .int x :: rest) mu nu := by
  obtain ⟨p, e, R, s, m, args, below, meth, c, cells, slots⟩ := X
  obtain ⟨hx, hb, hml, ho, hts, hK, hGS, hGN, hd, hr, hlk, hfr, hlo, hce, hsl⟩ := C
  intro H locs ls hP hS hl
  exact va_mmin hx hb (hml.trans hl.1.symm) ho (hts _ hw.1) (hts _ hw.2.1) (hts _ hw.2.2.1) (hts _ hw.2.2.2) (Nat.le_trans hf hfr) (by omega) hce hsl d (kk H locs ls hP hS hl)
def WCopy (own : String) (index : Nat) : Prop := Cond.methodLink own index arraycopyName ∈ twl ∧ Cond.native arraycopyName ∈ twl ∧ Cond.static arraycopyName ∈ twl ∧ Cond.initialized "java/lang/System" ∈ twl
theorem m_copy (C : Cx G nL X cc own ret fr) {rest : List Value} {n0 n1 : Nat} (q0 q1 : Nat) (hq0 : q0 < 79) (hq1 : q1 < 79) (he0 : ∀ f g, g_sh G q0 f g = g_ia G n0 f) (he1 : ∀ f g, g_sh G q1 f g = g_ia G n1 f) {sp dp k : Int32} (a b z : Nat) (ha : sp = nI a) (hb0 : dp = nI b) (hz : k = nI z) (h4 : a + z ≤ n0) (h5 : b + z ≤ n1) (hn0 : n0 < 2 ^ 31) (hn1 : n1 < 2 ^ 31) (hw : WCopy own index) (hf : 1 ≤ fr) (hrm : (rest.map fun v => v.category).sum ≤ 8) (d : decode cc pc = .ok (.invokestatic index, 3))
    (kk : Mq l G nL X Q (pc + 3) lv rest (mu_row mu q1 (va_cpy (mu q0) (mu q1) a b z)) nu) : Mq l G nL X Q pc lv (.int k :: .int dp :: .ref (G.1 q1) :: .int sp :: .ref (G.1 q0) :: rest) mu nu := by
  obtain ⟨p, e, R, s, m, args, below, meth, c, cells, slots⟩ := X
  obtain ⟨hx, hb, hml, ho, hts, hK, hGS, hGN, hd, hr, hlk, hfr, hlo, hce, hsl⟩ := C
  intro H locs ls hP hS hl
  subst ha; subst hb0; subst hz
  have ca : (nI a).toNatClampNeg = a := nI_clamp (by omega)
  have cb : (nI b).toNatClampNeg = b := nI_clamp (by omega)
  have cz : (nI z).toNatClampNeg = z := nI_clamp (by omega)
  refine va_copyi (ty := .int) hx hb (hml.trans hl.1.symm) ho (hts _ hw.1) (hts _ hw.2.1) (hts _ hw.2.2.1) (hts _ hw.2.2.2) hK hP (g_D hd mu nu) hS q0 q1 0 0 (g_atE hq0 (he0 _ _)) (g_atE hq1 (he1 _ _)) rfl rfl rfl (nI_pos (by omega)) (nI_pos (by omega)) (nI_pos (by omega)) (by rw [ca, cz]; exact h4) (by rw [cb, cz]; exact h5) (fun i _ => rfl) (Nat.le_trans hf hfr) ?_ d (fun H1 locs1 hP1 _ hS1 => kk H1 locs1 ls ?_ hS1 hl)
  · have : nativeFrameWords "java/lang/System" "arraycopy" 5 ≤ 30 := by decide +kernel
    omega
  · rw [ca, cb, cz, g_setM hq1 (he1 _ _)] at hP1
    exact hP1
theorem m_instY (C : Cx G nL X cc own ret fr) {nm cn : String} (q0 : Nat) (hq : q0 < 79) {ci : Nat} {fs : List Value} {T : u_T} {N : Nat} (he : g_sh G q0 (mu q0) (nu q0) = .inr (ci, fs)) (hcl : vwCl[ci]? = some (cn, T, N)) (hlink : Cond.classLink own index nm ∈ twl) (hc : Cond.castable cn nm ∈ nwl) (d : decode cc pc = .ok (.instanceof index, 3))
    (kk : Mq l G nL X Q (pc + 3) lv (.int 1 :: st) mu nu) : Mq l G nL X Q pc lv (.ref (G.1 q0) :: st) mu nu := by
  obtain ⟨p, e, R, s, m, args, below, meth, c, cells, slots⟩ := X
  obtain ⟨hx, hb, hml, ho, hts, hK, hGS, hGN, hd, hr, hlk, hfr, hlo, hce, hsl⟩ := C
  intro H locs ls hP hS hl
  exact va_instY hx hb ho (hts _ hlink) (hGN.1 _ hc) (va_recv hK hP hcl (g_atE hq he)) d (kk H locs ls hP hS hl)
theorem m_instS (C : Cx G nL X cc own ret fr) {cn : String} (q0 : Nat) (hq : q0 < 79) {ci : Nat} {fs : List Value} {T : u_T} {N : Nat} (he : g_sh G q0 (mu q0) (nu q0) = .inr (ci, fs)) (hcl : vwCl[ci]? = some (cn, T, N)) (hlink : Cond.classLink own index cn ∈ twl) (d : decode cc pc = .ok (.instanceof index, 3))
    (kk : Mq l G nL X Q (pc + 3) lv (.int 1 :: st) mu nu) : Mq l G nL X Q pc lv (.ref (G.1 q0) :: st) mu nu := by
  obtain ⟨p, e, R, s, m, args, below, meth, c, cells, slots⟩ := X
  obtain ⟨hx, hb, hml, ho, hts, hK, hGS, hGN, hd, hr, hlk, hfr, hlo, hce, hsl⟩ := C
  intro H locs ls hP hS hl
  exact va_instS hx hb ho (hts _ hlink) (hK.1 ci _ hcl).2 (va_recv hK hP hcl (g_atE hq he)) d (kk H locs ls hP hS hl)
theorem m_instN (C : Cx G nL X cc own ret fr) {nm cn : String} (q0 : Nat) (hq : q0 < 79) {ci : Nat} {fs : List Value} {T : u_T} {N : Nat} (he : g_sh G q0 (mu q0) (nu q0) = .inr (ci, fs)) (hcl : vwCl[ci]? = some (cn, T, N)) (hlink : Cond.classLink own index nm ∈ twl) (hc : (cn, nm) ∈ ncl) (d : decode cc pc = .ok (.instanceof index, 3))
    (kk : Mq l G nL X Q (pc + 3) lv (.int 0 :: st) mu nu) : Mq l G nL X Q pc lv (.ref (G.1 q0) :: st) mu nu := by
  obtain ⟨p, e, R, s, m, args, below, meth, c, cells, slots⟩ := X
  obtain ⟨hx, hb, hml, ho, hts, hK, hGS, hGN, hd, hr, hlk, hfr, hlo, hce, hsl⟩ := C
  intro H locs ls hP hS hl
  exact va_instNo hx hb ho (hts _ hlink) (hGN.2 _ hc) (va_recv hK hP hcl (g_atE hq he)) d (kk H locs ls hP hS hl)
end
