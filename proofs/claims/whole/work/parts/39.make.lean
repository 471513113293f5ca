/-! THE MAKING: a world of n cells, G.1 0, G.1 1 .., the heap ends behind the last one -/
def g_seq (G : Gl) : Prop := ∀ c, G.1 (c + 1) = G.1 c + 1
theorem g_seq.le {G : Gl} (h : g_seq G) : ∀ c, G.1 0 ≤ G.1 c := by
  intro c
  induction c with
  | zero => exact Nat.le_refl _
  | succ c ih => rw [h c]; omega
theorem g_seq.add {G : Gl} (h : g_seq G) : ∀ c, G.1 c = G.1 0 + c := by
  intro c
  induction c with
  | zero => rfl
  | succ c ih => rw [h c, ih]; omega
theorem g_seq.inj {G : Gl} (h : g_seq G) {i j : Nat} (e : G.1 i = G.1 j) : i = j := by
  rw [h.add i, h.add j] at e; omega
def up_e (e : Nat → va_E) (c : Nat) (x : va_E) : Nat → va_E := fun c' => if c' = c then x else e c'
theorem up_e_eq {e : Nat → va_E} {c : Nat} {x : va_E} : up_e e c x c = x := if_pos rfl
theorem up_e_ne {e : Nat → va_E} {c c' : Nat} {x : va_E} (h : c' ≠ c) : up_e e c x c' = e c' := if_neg h
def wn (G : Gl) (n : Nat) (e : Nat → va_E) : va_W := (List.range n).map (fun c => (G.1 c, e c))
theorem wn_at {G : Gl} {n c : Nat} {e : Nat → va_E} (h : c < n) : (wn G n e)[c]? = some (G.1 c, e c) := by simp [wn, h]
theorem wn_lt {G : Gl} {n i : Nat} {e : Nat → va_E} {p : Nat × va_E} (h : (wn G n e)[i]? = some p) : i < n ∧ p = (G.1 i, e i) := by
  by_cases hi : i < n
  · rw [wn_at hi] at h
    cases h
    exact ⟨hi, rfl⟩
  · simp [wn, hi] at h
theorem wn_set {G : Gl} {n c : Nat} {e : Nat → va_E} {x : va_E} (h : c < n) : (wn G n e).set c (G.1 c, x) = wn G n (up_e e c x) := by
  apply List.ext_getElem?
  intro i
  by_cases hi : i = c
  · subst hi
    rw [List.getElem?_set_self (by simp [wn, h]), wn_at h, up_e_eq]
  · rw [List.getElem?_set_ne (fun q => hi q.symm)]
    by_cases h2 : i < n
    · rw [wn_at h2, wn_at h2, up_e_ne hi]
    · simp [wn, h2]
theorem wn_push {G : Gl} {n : Nat} {e : Nat → va_E} {x : va_E} : wn G n e ++ [(G.1 n, x)] = wn G (n + 1) (up_e e n x) := by
  unfold wn
  rw [List.range_succ, List.map_append]
  congr 1
  · apply List.map_congr_left
    intro c hc
    rw [up_e_ne (Nat.ne_of_lt (List.mem_range.mp hc))]
  · show _ = [(G.1 n, up_e e n x n)]
    rw [up_e_eq]
theorem wn_congr {G : Gl} {n : Nat} {e e' : Nat → va_E} (h : ∀ c, c < n → e c = e' c) : wn G n e = wn G n e' := by
  unfold wn
  apply List.map_congr_left
  intro c hc
  rw [h c (List.mem_range.mp hc)]
def Kb (G : Gl) (q : Nat) : Prop := G.1 0 ≤ q
theorem wn_D {G : Gl} (hq : g_seq G) (n : Nat) (e : Nat → va_E) : va_D (Kb G) (wn G n e) := by
  refine ⟨fun i j p q hp hq2 z => ?_, fun k q hk => ?_⟩
  · obtain ⟨-, rfl⟩ := wn_lt hp
    obtain ⟨-, rfl⟩ := wn_lt hq2
    exact hq.inj z
  · obtain ⟨-, rfl⟩ := wn_lt hk
    exact hq.le k
def g_A (U : State) : Prop := va_AO RX7 U ∧ va_AO RX3 U ∧ va_AO RX4 U ∧ va_AO RX0 U
theorem g_A.moved {u U : State} (hvm : u.vm.Alike U.vm) (h : g_A u) : g_A U := ⟨h.1.moved hvm, h.2.1.moved hvm, h.2.2.1.moved hvm, h.2.2.2.moved hvm⟩
def k_W (G : Gl) (n : Nat) (e : Nat → va_E) (H : Heap) : Prop := va_P G.2.1 vwCl (wn G n e) H ∧ H.size = G.1 n
def k_Pc (G : Gl) (as : List Value) (n : Nat) (e : Nat → va_E) : Array Value → State → Prop := fun a U => a = as.toArray ∧ k_W G n e U.heap ∧ va_K G.2.1 vwCl (g_tys G) U ∧ g_N U ∧ g_A U ∧ g_seq G
def k_Q (G : Gl) (n : Nat) (e : Nat → va_E) : Array Value → State → Outcome → State → Prop := va_Qv (fun _ : Unit => True) (fun _ t => k_W G n e t.heap) (Kb G)
def k_rm (fr mc ms : Nat) : Room := { frames := fr, cells := mc, slots := ms, locals := 64 * fr }
/-- A CONTRACT OF A CONSTRUCTOR: over a world of n cells e it returns, and then the world is one of n2 cells e2 -/
def Ck (l : Launch) (G : Gl) (mm : Mr) (fr mc ms : Nat) (as : List Value) (n : Nat) (e : Nat → va_E) (n2 : Nat) (e2 : Nat → va_E) : Prop :=
  Met l mm.1 (Cond.code mm.1 mm.2.1 mm.2.2.1 mm.2.2.2 :: twl) (k_rm fr mc ms) (k_Pc G as n e) (k_Q G n2 e2) mc ms (Kb G)
theorem k_blind {G : Gl} {as : List Value} {n : Nat} {e : Nat → va_E} : FrameBlind (k_Pc G as n e) := by
  intro a U g mk h
  obtain ⟨h1, h2, h3, h4, h5, h6⟩ := h
  exact ⟨h1, h2, va_K.moved (u := U) (U := U.calling g mk a) (Vm.Alike.refl U.vm) h3, g_N.same (s := U) (U := U.calling g mk a) rfl h4, g_A.moved (u := U) (U := U.calling g mk a) (Vm.Alike.refl U.vm) h5, h6⟩
def Mk (l : Launch) (G : Gl) (nL : Nat) (X : Bx) (Q : State → Prop) (pc : Nat) (lv : List (Nat × Value)) (st : List Value) (k z n : Nat) (e : Nat → va_E) : Prop :=
  match X with
  | (p, en, R, s, m, args, below, meth, c, _, _) => ∀ (H : Heap) (locs : List Loc) (ls : Array Slot), k_W G n e H → va_S (Kb G) s.heap H locs → lv_has ls nL lv → W p l en R s m args below meth c H locs k z Q (F0 m pc ls st)
def Cy (G : Gl) (nL : Nat) (X : Bx) (cc : ByteArray) (own : String) (ret : Option FieldType) (fr : Nat) (nm : String) (mc ms : Nat) : Prop :=
  match X with
  | (p, _, R, s, m, args, _, meth, c, _, _) => p.tables.exec = Jvm.exec ∧ c.code = cc ∧ c.maxLocals = nL ∧ s.vm.findClass own = some m.cls ∧ (∀ w ∈ twl, w.before args s = true) ∧ va_K G.2.1 vwCl (g_tys G) s ∧ g_N s ∧ g_A s ∧ g_seq G ∧ meth.sig.returnType = ret ∧ meth.locks = false ∧ meth.name = nm ∧ fr ≤ R.frames ∧ 64 * fr ≤ R.locals ∧ mc ≤ R.cells ∧ ms ≤ R.slots ∧ G.1 0 ≤ s.heap.size
def k_E (G : Gl) (X : Bx) (mc ms n : Nat) (e : Nat → va_E) : State → Prop :=
  match X with
  | (_, _, _, s, _, args, below, _, _, _, _) => MQ below (k_Q G n e) args s mc ms (Kb G)
theorem Ck.of {l : Launch} {G : Gl} {mm : Mr} {fr mc ms : Nat} {as : List Value} {n n2 : Nat} {e e2 : Nat → va_E} {own : String} {lv : List (Nat × Value)} (hy : plainName mm.1.cls = true) (ho : mm.1.cls = own) (hn : (lg_sl as).length ≤ mm.2.2.1) (hlv : lv_args 0 as = lv)
    (body : ∀ X : Bx, Cy G mm.2.2.1 X mm.2.1 own mm.2.2.2 fr mm.1.name mc ms → Mk l G mm.2.2.1 X (k_E G X mc ms n2 e2) 0 lv [] 0 0 n e) : Ck l G mm fr mc ms as n e n2 e2 := by
  subst hlv
  unfold Ck
  refine Met.ofW (cc := mm.2.1) (maxL := mm.2.2.1) (ret := mm.2.2.2) hy rfl ?_
  intro p en s m args below meth c s₁ B hml hv
  obtain ⟨rfl, hP, hK, hN, hA, hd⟩ := hv
  have hts := atoms_spec (ws := Cond.code mm.1 mm.2.1 mm.2.2.1 mm.2.2.2 :: twl) B.pre
  have hown : s.vm.findClass own = some m.cls := ho ▸ findClass_of_methodNamed B.named
  rw [lg_entry_eq]
  exact body (p, en, (headSpec (Cond.code mm.1 mm.2.1 mm.2.2.1 mm.2.2.2 :: twl) (k_rm fr mc ms)).room, s, m, as.toArray, below, meth, c, 0, 0) ⟨B.exec, B.bytes, hml, hown, fun w hw => hts w (List.mem_cons_of_mem _ hw), hK, hN, hA, hd, B.returns, B.notSynchronized, (name_of_methodNamed B.named B.method).1, Nat.le_refl _, Nat.le_refl _, Nat.le_refl _, Nat.le_refl _, by rw [hP.2]; exact hd.le n⟩ s.heap [] _ hP va_S.rf (lv_entry as hn)
def WI (own : String) (index : Nat) (mm : Mr) (n : Nat) : Prop := Cond.methodLink own index mm.1 ∈ twl ∧ Cond.instanceMethod mm.1 ∈ twl ∧ Cond.initialized mm.1.cls ∈ twl ∧ Cond.code mm.1 mm.2.1 mm.2.2.1 mm.2.2.2 ∈ twl ∧ (mm.1.cls ≠ "java/lang/invoke/MethodHandle" ∧ mm.1.cls ≠ "java/lang/invoke/VarHandle" ∧ (parseMethodDescriptor mm.1.desc).map (fun d => d.parameters.length) = some n) ∧ mm.1.name = "<init>" ∧ mm.2.2.2 = none ∧ mm.2.2.1 ≤ 45
def WIN (own host : String) (index : Nat) (mm : Mr) (n : Nat) : Prop := Cond.methodLinkNest own index mm.1 host ∈ nwl ∧ Cond.instanceMethod mm.1 ∈ twl ∧ Cond.initialized mm.1.cls ∈ twl ∧ Cond.code mm.1 mm.2.1 mm.2.2.1 mm.2.2.2 ∈ twl ∧ (mm.1.cls ≠ "java/lang/invoke/MethodHandle" ∧ mm.1.cls ≠ "java/lang/invoke/VarHandle" ∧ (parseMethodDescriptor mm.1.desc).map (fun d => d.parameters.length) = some n) ∧ mm.1.name = "<init>" ∧ mm.2.2.2 = none ∧ mm.2.2.1 ≤ 45
section
variable {l : Launch} {G : Gl} {nL : Nat} {X : Bx} {Q : State → Prop} {cc : ByteArray} {own : String} {ret : Option FieldType} {fr pc : Nat} {nm : String} {mc ms : Nat} {lv : List (Nat × Value)} {st : List Value} {k z n : Nat} {e : Nat → va_E}
theorem k_iconst (C : Cy G nL X cc own ret fr nm mc ms) {i : Int} (v : Int32) (d : decode cc pc = .ok (.iconst i, 1)) (hv : Int32.ofInt i = v) (kk : Mk l G nL X Q (pc + 1) lv (.int v :: st) k z n e) : Mk l G nL X Q pc lv st k z n e := by
  obtain ⟨p, en, R, s, m, args, below, meth, c, cells, slots⟩ := X
  obtain ⟨hx, hb, hml, ho, hts, hK, hGN, hGA, hd, hr, hlk, hnm, hfr, hlo, hce, hsl, h0s⟩ := C
  intro H locs ls hP hS hl
  exact lv_iconst hx hb d hv (kk H locs ls hP hS hl)
theorem k_bipush (C : Cy G nL X cc own ret fr nm mc ms) {i : Int} (v : Int32) (d : decode cc pc = .ok (.bipush i, 2)) (hv : (Int8.ofInt i).toInt32 = v) (kk : Mk l G nL X Q (pc + 2) lv (.int v :: st) k z n e) : Mk l G nL X Q pc lv st k z n e := by
  obtain ⟨p, en, R, s, m, args, below, meth, c, cells, slots⟩ := X
  obtain ⟨hx, hb, hml, ho, hts, hK, hGN, hGA, hd, hr, hlk, hnm, hfr, hlo, hce, hsl, h0s⟩ := C
  intro H locs ls hP hS hl
  exact lv_bipush hx hb d hv (kk H locs ls hP hS hl)
theorem k_sipush (C : Cy G nL X cc own ret fr nm mc ms) {i : Int} (v : Int32) (d : decode cc pc = .ok (.sipush i, 3)) (hv : (Int16.ofInt i).toInt32 = v) (kk : Mk l G nL X Q (pc + 3) lv (.int v :: st) k z n e) : Mk l G nL X Q pc lv st k z n e := by
  obtain ⟨p, en, R, s, m, args, below, meth, c, cells, slots⟩ := X
  obtain ⟨hx, hb, hml, ho, hts, hK, hGN, hGA, hd, hr, hlk, hnm, hfr, hlo, hce, hsl, h0s⟩ := C
  intro H locs ls hP hS hl
  exact lv_sipush hx hb d hv (kk H locs ls hP hS hl)
theorem k_lconst (C : Cy G nL X cc own ret fr nm mc ms) {i : Fin 2} (v : Int64) (d : decode cc pc = .ok (.lconst i, 1)) (hv : Int64.ofNat (i : Nat) = v) (kk : Mk l G nL X Q (pc + 1) lv (.long v :: st) k z n e) : Mk l G nL X Q pc lv st k z n e := by
  obtain ⟨p, en, R, s, m, args, below, meth, c, cells, slots⟩ := X
  obtain ⟨hx, hb, hml, ho, hts, hK, hGN, hGA, hd, hr, hlk, hnm, hfr, hlo, hce, hsl, h0s⟩ := C
  intro H locs ls hP hS hl
  exact lv_lconst hx hb d hv (kk H locs ls hP hS hl)
theorem k_iload_n (C : Cy G nL X cc own ret fr nm mc ms) {i : Fin 4} {x : Int32} (j : Nat) (d : decode cc pc = .ok (.iload_n i, 1)) (h : lv[j]? = some ((i : Nat), .int x)) (kk : Mk l G nL X Q (pc + 1) lv (.int x :: st) k z n e) : Mk l G nL X Q pc lv st k z n e := by
  obtain ⟨p, en, R, s, m, args, below, meth, c, cells, slots⟩ := X
  obtain ⟨hx, hb, hml, ho, hts, hK, hGN, hGA, hd, hr, hlk, hnm, hfr, hlo, hce, hsl, h0s⟩ := C
  intro H locs ls hP hS hl
  exact lv_iload_n hx hb d rfl (lv_at hl j h) (kk H locs ls hP hS hl)
theorem k_aload_n (C : Cy G nL X cc own ret fr nm mc ms) {i : Fin 4} {x : Nat} (j : Nat) (d : decode cc pc = .ok (.aload_n i, 1)) (h : lv[j]? = some ((i : Nat), .ref x)) (kk : Mk l G nL X Q (pc + 1) lv (.ref x :: st) k z n e) : Mk l G nL X Q pc lv st k z n e := by
  obtain ⟨p, en, R, s, m, args, below, meth, c, cells, slots⟩ := X
  obtain ⟨hx, hb, hml, ho, hts, hK, hGN, hGA, hd, hr, hlk, hnm, hfr, hlo, hce, hsl, h0s⟩ := C
  intro H locs ls hP hS hl
  exact lv_aload_n hx hb d rfl (lv_at hl j h) (kk H locs ls hP hS hl)
theorem k_istore_n (C : Cy G nL X cc own ret fr nm mc ms) {i : Fin 4} {x : Int32} (lw : List (Nat × Value)) (d : decode cc pc = .ok (.istore_n i, 1)) (hn : (i : Nat) < nL) (hv : ((i : Nat), Value.int x) :: lv.filter (fun q => !(q.1 == (i : Nat)) && !(q.1 + 1 == (i : Nat) && q.2.category == 2)) = lw) (kk : Mk l G nL X Q (pc + 1) lw st k z n e) : Mk l G nL X Q pc lv (.int x :: st) k z n e := by
  obtain ⟨p, en, R, s, m, args, below, meth, c, cells, slots⟩ := X
  obtain ⟨hx, hb, hml, ho, hts, hK, hGN, hGA, hd, hr, hlk, hnm, hfr, hlo, hce, hsl, h0s⟩ := C
  intro H locs ls hP hS hl
  exact lv_istore_n hx hb d rfl hl hn hv (fun ls hl => (kk H locs ls hP hS hl))
theorem k_astore_n (C : Cy G nL X cc own ret fr nm mc ms) {i : Fin 4} {x : Nat} (lw : List (Nat × Value)) (d : decode cc pc = .ok (.astore_n i, 1)) (hn : (i : Nat) < nL) (hv : ((i : Nat), Value.ref x) :: lv.filter (fun q => !(q.1 == (i : Nat)) && !(q.1 + 1 == (i : Nat) && q.2.category == 2)) = lw) (kk : Mk l G nL X Q (pc + 1) lw st k z n e) : Mk l G nL X Q pc lv (.ref x :: st) k z n e := by
  obtain ⟨p, en, R, s, m, args, below, meth, c, cells, slots⟩ := X
  obtain ⟨hx, hb, hml, ho, hts, hK, hGN, hGA, hd, hr, hlk, hnm, hfr, hlo, hce, hsl, h0s⟩ := C
  intro H locs ls hP hS hl
  exact lv_astore_n hx hb d rfl hl hn hv (fun ls hl => (kk H locs ls hP hS hl))
theorem k_iinc (C : Cy G nL X cc own ret fr nm mc ms) {i : Nat} {by1 : Int} {x : Int32} (j : Nat) (v : Int32) (lw : List (Nat × Value)) (d : decode cc pc = .ok (.iinc i by1, 3)) (h : lv[j]? = some (i, .int x)) (hv : x + Int32.ofInt by1 = v) (hn : i < nL) (hw : (i, Value.int v) :: lv.filter (fun q => !(q.1 == i) && !(q.1 + 1 == i && q.2.category == 2)) = lw) (kk : Mk l G nL X Q (pc + 3) lw st k z n e) : Mk l G nL X Q pc lv st k z n e := by
  obtain ⟨p, en, R, s, m, args, below, meth, c, cells, slots⟩ := X
  obtain ⟨hx, hb, hml, ho, hts, hK, hGN, hGA, hd, hr, hlk, hnm, hfr, hlo, hce, hsl, h0s⟩ := C
  intro H locs ls hP hS hl
  exact lv_iinc hx hb d hl h hv hn hw (fun ls hl => (kk H locs ls hP hS hl))
theorem k_dup (C : Cy G nL X cc own ret fr nm mc ms) {va : Value} (d : decode cc pc = .ok (.dup, 1)) (hc : va.category = 1) (kk : Mk l G nL X Q (pc + 1) lv (va :: va :: st) k z n e) : Mk l G nL X Q pc lv (va :: st) k z n e := by
  obtain ⟨p, en, R, s, m, args, below, meth, c, cells, slots⟩ := X
  obtain ⟨hx, hb, hml, ho, hts, hK, hGN, hGA, hd, hr, hlk, hnm, hfr, hlo, hce, hsl, h0s⟩ := C
  intro H locs ls hP hS hl
  exact lv_dup hx hb d hc (kk H locs ls hP hS hl)
theorem k_goto (C : Cy G nL X cc own ret fr nm mc ms) {off : Int} (tgt : Nat) (d : decode cc pc = .ok (.goto off, 3)) (ht : (pc : Int) + off = (tgt : Int)) (kk : Mk l G nL X Q tgt lv st k z n e) : Mk l G nL X Q pc lv st k z n e := by
  obtain ⟨p, en, R, s, m, args, below, meth, c, cells, slots⟩ := X
  obtain ⟨hx, hb, hml, ho, hts, hK, hGN, hGA, hd, hr, hlk, hnm, hfr, hlo, hce, hsl, h0s⟩ := C
  intro H locs ls hP hS hl
  exact lv_goto hx hb d ht (kk H locs ls hP hS hl)
theorem k_icmp_geT (C : Cy G nL X cc own ret fr nm mc ms) {x y : Int32} {off : Int} (tgt : Nat) (d : decode cc pc = .ok (.if_icmp .ge off, 3)) (ht : (pc : Int) + off = (tgt : Int)) (h : y ≤ x) (kk : Mk l G nL X Q tgt lv st k z n e) : Mk l G nL X Q pc lv (.int y :: .int x :: st) k z n e := by
  obtain ⟨p, en, R, s, m, args, below, meth, c, cells, slots⟩ := X
  obtain ⟨hx, hb, hml, ho, hts, hK, hGN, hGA, hd, hr, hlk, hnm, hfr, hlo, hce, hsl, h0s⟩ := C
  intro H locs ls hP hS hl
  exact lv_icmp_ge hx hb d ht (fun _ => kk H locs ls hP hS hl) (fun q => absurd h q)
theorem k_icmp_geF (C : Cy G nL X cc own ret fr nm mc ms) {x y : Int32} {off : Int} (tgt : Nat) (d : decode cc pc = .ok (.if_icmp .ge off, 3)) (ht : (pc : Int) + off = (tgt : Int)) (h : ¬ y ≤ x) (kk : Mk l G nL X Q (pc + 3) lv st k z n e) : Mk l G nL X Q pc lv (.int y :: .int x :: st) k z n e := by
  obtain ⟨p, en, R, s, m, args, below, meth, c, cells, slots⟩ := X
  obtain ⟨hx, hb, hml, ho, hts, hK, hGN, hGA, hd, hr, hlk, hnm, hfr, hlo, hce, hsl, h0s⟩ := C
  intro H locs ls hP hS hl
  exact lv_icmp_ge hx hb d ht (fun q => absurd q h) (fun _ => kk H locs ls hP hS hl)
theorem k_congr {e2 : Nat → va_E} (h : ∀ c, c < n → e c = e2 c) (kk : Mk l G nL X Q pc lv st k z n e2) : Mk l G nL X Q pc lv st k z n e := by
  obtain ⟨p, en, R, s, m, args, below, meth, c, cells, slots⟩ := X
  intro H locs ls hP hS hl
  exact kk H locs ls ⟨by rw [← wn_congr h]; exact hP.1, hP.2⟩ hS hl
/-- an array of references: what stands beyond its end counts for nothing -/
theorem k_arr (q0 : Nat) (hq : q0 < n) {cA : ClassId} {N : Nat} {f f2 : Nat → Option Nat} (he : e q0 = .inl (cA, N, .inr (.inr (.inr (.inr f))))) (hf : ∀ j, j < N → f j = f2 j) (kk : Mk l G nL X Q pc lv st k z n (up_e e q0 (.inl (cA, N, .inr (.inr (.inr (.inr f2))))))) : Mk l G nL X Q pc lv st k z n e := by
  obtain ⟨p, en, R, s, m, args, below, meth, c, cells, slots⟩ := X
  intro H locs ls hP hS hl
  refine kk H locs ls ⟨fun i q hi => ?_, hP.2⟩ hS hl
  obtain ⟨h1, rfl⟩ := wn_lt hi
  by_cases h2 : i = q0
  · subst h2
    rw [up_e_eq]
    have h3 := hP.1 i _ (wn_at h1)
    rw [he] at h3
    have h4 : arrV cA N (fun j => va_rf (f j)) = arrV cA N (fun j => va_rf (f2 j)) := by
      unfold arrV
      congr 2
      funext j
      show va_rf (f j.1) = va_rf (f2 j.1)
      rw [hf j.1 j.2]
    show H[_]? = some (arrV cA N (fun j => va_rf (f2 j)))
    rw [← h4]
    exact h3
  · rw [up_e_ne h2]
    exact hP.1 i _ (wn_at h1)
theorem k_vret (C : Cy G nL X cc own none fr nm mc ms) (d : decode cc pc = .ok (.return_, 1)) : Mk l G nL X (k_E G X k z n e) pc lv [] k z n e := by
  obtain ⟨p, en, R, s, m, args, below, meth, c, cells, slots⟩ := X
  obtain ⟨hx, hb, hml, ho, hts, hK, hGN, hGA, hd, hr, hlk, hnm, hfr, hlo, hce, hsl, h0s⟩ := C
  intro H locs ls hP hS hl
  exact W.vret hx hb hr (fun t ht hW => ⟨⟨(), rfl, trivial, by show k_W G n e t.heap; rw [ht]; exact hP⟩, hS.F ht⟩) hS.2.2 d hlk
theorem oi_im : Cond.instanceMethod Lib.objectInit ∈ twl := twl_of 81 rfl rfl
theorem oi_co : Cond.code Lib.objectInit ⟨#[0xb1]⟩ 1 none ∈ twl := twl_of 82 rfl rfl
theorem k_objInit (C : Cy G nL X cc own ret fr nm mc ms) {a idx : Nat} (hlink : Cond.methodLink own idx Lib.objectInit ∈ twl) (hf : 1 ≤ fr) (hrm : (st.map fun v => v.category).sum ≤ 8) (d : decode cc pc = .ok (.invokespecial idx, 3)) (kk : Mk l G nL X Q (pc + 3) lv st k z n e) : Mk l G nL X Q pc lv (.ref a :: st) k z n e := by
  obtain ⟨p, en, R, s, m, args, below, meth, c, cells, slots⟩ := X
  obtain ⟨hx, hb, hml, ho, hts, hK, hGN, hGA, hd, hr, hlk, hnm, hfr, hlo, hce, hsl, h0s⟩ := C
  intro H locs ls hP hS hl
  have hm : 2 * (F0 m pc ls (.ref a :: st)).monitorRoom + (st.map fun v => v.category).sum ≤ 8 := lv_room hrm
  exact W.objInit hx hb ho (hts _ hlink) (hts _ oi_im) (hts _ oi_co) rfl (hl.1.trans hml.symm) rfl d (Nat.le_trans hf hfr) (by omega) (kk H locs ls hP hS hl)
theorem k_get (C : Cy G nL X cc own ret fr nm mc ms) {cls : String} {T : u_T} {N ci index : Nat} {fs : List Value} (q0 : Nat) (hq : q0 < n) (he : e q0 = .inr (ci, fs)) (hc : vwCl[ci]? = some (cls, T, N)) (hin : ∀ w ∈ u_ws cls T N, w ∈ twl) (j : Nat) (hj : j < N) (hcl : (T j).1 = cls) (hlink : Cond.fieldLink own index cls (T j).2.1 (T j).2.2.1 ∈ twl) {v : Value} (hv : fs[j]? = some v) (d : decode cc pc = .ok (.getfield index, 3)) (kk : Mk l G nL X Q (pc + 3) lv (v :: st) k z n e) : Mk l G nL X Q pc lv (.ref (G.1 q0) :: st) k z n e := by
  obtain ⟨p, en, R, s, m, args, below, meth, c, cells, slots⟩ := X
  obtain ⟨hx, hb, hml, ho, hts, hK, hGN, hGA, hd, hr, hlk, hnm, hfr, hlo, hce, hsl, h0s⟩ := C
  intro H locs ls hP hS hl
  exact va_get hx hb hts hin ho hK hP.1 q0 (by rw [wn_at hq, he]) hc j hj (hts _ hlink) (fun x h => by rw [← hcl]; exact h) hv d (kk H locs ls hP hS hl)
theorem k_put (C : Cy G nL X cc own ret fr nm mc ms) {cls : String} {T : u_T} {N ci index : Nat} {fs : List Value} (q0 : Nat) (hq : q0 < n) (he : e q0 = .inr (ci, fs)) (hc : vwCl[ci]? = some (cls, T, N)) (hin : ∀ w ∈ u_ws cls T N, w ∈ twl) (j : Nat) (hj : j < N) (hcl : (T j).1 = cls) (hlink : Cond.fieldLink own index cls (T j).2.1 (T j).2.2.1 ∈ twl) (ty0 : Nat → FieldType) (hty : ∀ k, k < N → parseFieldDescriptor (T k).2.2.1 = some (ty0 k)) (hap0 : ∀ a, a < N → ∀ b, b < N → a ≠ b → (T a).2.1 ≠ (T b).2.1) (hfin : (T j).2.2.2 = false)  {ty : FieldType} {v : Value} (hd2 : parseFieldDescriptor (T j).2.2.1 = some ty) (hn : narrow ty v = v) (hfit : fits ty v = true) (hlen : j < fs.length) (fs2 : List Value) (hs2 : fs.set j v = fs2) (d : decode cc pc = .ok (.putfield index, 3)) (kk : Mk l G nL X Q (pc + 3) lv st k z n (up_e e q0 (.inr (ci, fs2)))) : Mk l G nL X Q pc lv (v :: .ref (G.1 q0) :: st) k z n e := by
  obtain ⟨p, en, R, s, m, args, below, meth, c, cells, slots⟩ := X
  obtain ⟨hx, hb, hml, ho, hts, hK, hGN, hGA, hd, hr, hlk, hnm, hfr, hlo, hce, hsl, h0s⟩ := C
  intro H locs ls hP hS hl
  subst hs2
  have hD := wn_D hd n e
  have hat : (wn G n e)[q0]? = some (G.1 q0, .inr (ci, fs)) := by rw [wn_at hq, he]
  have hap := va_apart (own := own) hts hin ty0 hty hap0 hK hc
  obtain ⟨r, h1, cell, q1, q2, q3, q4⟩ := hP.1 q0 _ hat
  obtain rfl : r = (cls, T, N) := Option.some.inj (h1.symm.trans hc)
  obtain ⟨hSl, hfc, kC, hkC, hkind⟩ := hK.1 ci _ hc
  obtain ⟨cf, kf, fi, f, hi, hslot⟩ := hSl j hj
  have hlay := hts _ (hin _ (u_in_lay hj))
  unfold u_lay at hlay
  have hst := (u_facts hfc hkC (u_lays hts hin hj) hi).1
  have hi2 : s.fieldFound? cls (T j).2.1 (T j).2.2.1 = some (cf, kf, fi, f) := by rw [← hcl]; exact hi
  rw [if_neg (by rw [hfin]; decide)] at hlay
  have h6 := u_store hfc hkC hkind hlay hi hd2 hn hfit
  refine W.putK hx hb (f := f) ⟨ho, hts _ hlink, ⟨_, _, _, hi2⟩, hst⟩ (by rw [q2]; exact h6) q1 q3 (by rw [hslot]; exact k2_hasslot (q4 j hj)) rfl rfl d fun H' e1 e2 e3 => ?_
  rw [hslot] at e1 ⊢
  refine kk H' _ ls ⟨?_, e2.trans hP.2⟩ (hS.put e2 e3 (hD.2 q0 _ hat)) hl
  rw [← wn_set hq]
  exact hP.1.set hD hat ⟨_, hc, t_OB.to (V := updV (vp_V fs) j v) ⟨_, e1, q2, q3, t_set q4 hap hj v⟩ (fun i _ => vp_updV_set hlen v i)⟩ e3
theorem k_putF (C : Cy G nL X cc own ret fr "<init>" mc ms) {cls : String} {T : u_T} {N ci index : Nat} {fs : List Value} (q0 : Nat) (hq : q0 < n) (he : e q0 = .inr (ci, fs)) (hc : vwCl[ci]? = some (cls, T, N)) (hin : ∀ w ∈ u_ws cls T N, w ∈ twl) (j : Nat) (hj : j < N) (hcl : (T j).1 = cls) (hlink : Cond.fieldLink own index cls (T j).2.1 (T j).2.2.1 ∈ twl) (ty0 : Nat → FieldType) (hty : ∀ k, k < N → parseFieldDescriptor (T k).2.2.1 = some (ty0 k)) (hap0 : ∀ a, a < N → ∀ b, b < N → a ≠ b → (T a).2.1 ≠ (T b).2.1) (hfin : (T j).2.2.2 = true) (hdecl : (T j).1 = own) {ty : FieldType} {v : Value} (hd2 : parseFieldDescriptor (T j).2.2.1 = some ty) (hn : narrow ty v = v) (hfit : fits ty v = true) (hlen : j < fs.length) (fs2 : List Value) (hs2 : fs.set j v = fs2) (d : decode cc pc = .ok (.putfield index, 3)) (kk : Mk l G nL X Q (pc + 3) lv st k z n (up_e e q0 (.inr (ci, fs2)))) : Mk l G nL X Q pc lv (v :: .ref (G.1 q0) :: st) k z n e := by
  obtain ⟨p, en, R, s, m, args, below, meth, c, cells, slots⟩ := X
  obtain ⟨hx, hb, hml, ho, hts, hK, hGN, hGA, hd, hr, hlk, hnm, hfr, hlo, hce, hsl, h0s⟩ := C
  intro H locs ls hP hS hl
  subst hs2
  have hD := wn_D hd n e
  have hat : (wn G n e)[q0]? = some (G.1 q0, .inr (ci, fs)) := by rw [wn_at hq, he]
  have hap := va_apart (own := own) hts hin ty0 hty hap0 hK hc
  obtain ⟨r, h1, cell, q1, q2, q3, q4⟩ := hP.1 q0 _ hat
  obtain rfl : r = (cls, T, N) := Option.some.inj (h1.symm.trans hc)
  obtain ⟨hSl, hfc, kC, hkC, hkind⟩ := hK.1 ci _ hc
  obtain ⟨cf, kf, fi, f, hi, hslot⟩ := hSl j hj
  have hlay := hts _ (hin _ (u_in_lay hj))
  unfold u_lay at hlay
  have hst := (u_facts hfc hkC (u_lays hts hin hj) hi).1
  have hi2 : s.fieldFound? cls (T j).2.1 (T j).2.2.1 = some (cf, kf, fi, f) := by rw [← hcl]; exact hi
  rw [if_pos hfin] at hlay
  have hcf : m.cls = cf := by
    obtain ⟨_, _, c', _, _, _, -, -, hf', -, -, -, hown2, -⟩ := Cond.laysFinal_spec hlay
    have e1 : c' = cf := by have := hi.symm.trans hf'; simp at this; exact this.1.symm
    rw [hdecl] at hown2
    rw [← e1]; exact Option.some.inj (ho.symm.trans hown2)
  have h6 := u_fits hfc hkC hkind (Or.inr hlay) hi hd2 hn hfit
  refine W.putFinK hx hb ho (hts _ hlink) hi2 hst hcf hnm (by rw [q2]; exact h6) q1 q3 (by rw [hslot]; exact k2_hasslot (q4 j hj)) rfl rfl d fun H' e1 e2 e3 => ?_
  rw [hslot] at e1 ⊢
  refine kk H' _ ls ⟨?_, e2.trans hP.2⟩ (hS.put e2 e3 (hD.2 q0 _ hat)) hl
  rw [← wn_set hq]
  exact hP.1.set hD hat ⟨_, hc, t_OB.to (V := updV (vp_V fs) j v) ⟨_, e1, q2, q3, t_set q4 hap hj v⟩ (fun i _ => vp_updV_set hlen v i)⟩ e3
theorem k_new (C : Cy G nL X cc own ret fr nm mc ms) {cls : String} {T : u_T} {N ci index : Nat} (fs : List Value) (ty : Nat → FieldType) (hty : ∀ k, k < N → parseFieldDescriptor (T k).2.2.1 = some (ty k)) (hc : vwCl[ci]? = some (cls, T, N)) (hin : ∀ w ∈ u_ws cls T N, w ∈ twl) (hfs : ∀ j, j < N → defaultValue (ty j) = vp_V fs j) (hcl : Cond.classLink own index cls ∈ twl) (hinst : Cond.instantiable cls N ∈ twl) (hini : Cond.initialized cls ∈ twl) (n2 k2 z2 : Nat) (hn2 : n + 1 = n2) (hk2 : k + 1 = k2) (hz2 : z + N = z2) (h1 : k2 ≤ mc) (h2 : z2 ≤ ms) (d : decode cc pc = .ok (.new index, 3)) (kk : Mk l G nL X Q (pc + 3) lv (.ref (G.1 n) :: st) k2 z2 n2 (up_e e n (.inr (ci, fs)))) : Mk l G nL X Q pc lv st k z n e := by
  obtain ⟨p, en, R, s, m, args, below, meth, c, cells, slots⟩ := X
  obtain ⟨hx, hb, hml, ho, hts, hK, hGN, hGA, hd, hr, hlk, hnm, hfr, hlo, hce, hsl, h0s⟩ := C
  intro H locs ls hP hS hl
  subst hn2; subst hk2; subst hz2
  have hKn := hK.1 ci _ hc
  refine W.newcK hx hb ho (hts _ hcl) (hts _ hinst) (hts _ hini) rfl d (Nat.le_trans h1 hce) (Nat.le_trans h2 hsl) hKn.2.1 hP.2 fun H1 kC hkC e1 z1 o1 => ?_
  have hkp : ∀ (i : Nat) (x : Nat × va_E), (wn G n e)[i]? = some x → H1[x.1]? = H[x.1]? := fun i x hx2 => o1 x.1 (by rw [← hP.2]; exact (hP.1 i x hx2).lt)
  have hle : s.heap.size ≤ G.1 n := by rw [← hP.2]; exact hS.1
  refine kk H1 locs ls ⟨?_, z1.trans (hd n).symm⟩ ⟨by omega, fun x g1 g2 => (o1 x (Nat.lt_of_lt_of_le g1 hle)).trans (hS.2.1 x g1 g2), hS.2.2⟩ hl
  rw [← wn_push]
  refine (hP.1.kept hkp).app (fun i x hx2 => ?_)
  have hz : i < 1 := (List.getElem?_eq_some_iff.mp hx2).1
  rw [show i = 0 by omega] at hx2
  cases hx2
  exact ⟨_, hc, (u_born ty hts hin hKn hkC e1 hty).to hfs⟩
theorem k_newa (C : Cy G nL X cc own ret fr nm mc ms) (N : Nat) {i : Int32} (hi : i = nI N) (hN : N < 100000) (harr : Cond.arrayClass .int ∈ twl) (n2 k2 z2 : Nat) (hn2 : n + 1 = n2) (hk2 : k + 1 = k2) (hz2 : z + N = z2) (h1 : k2 ≤ mc) (h2 : z2 ≤ ms) (d : decode cc pc = .ok (.newarray .int, 2)) (kk : Mk l G nL X Q (pc + 2) lv (.ref (G.1 n) :: st) k2 z2 n2 (up_e e n (g_ia G N (fun _ => 0)))) : Mk l G nL X Q pc lv (.int i :: st) k z n e := by
  obtain ⟨p, en, R, s, m, args, below, meth, c, cells, slots⟩ := X
  obtain ⟨hx, hb, hml, ho, hts, hK, hGN, hGA, hd, hr, hlk, hnm, hfr, hlo, hce, hsl, h0s⟩ := C
  intro H locs ls hP hS hl
  subst hn2; subst hk2; subst hz2; subst hi
  refine va_newaK (atype := .int) hx hb (hts _ harr) rfl d rfl (nI_pos (by omega)) (nI_clamp (by omega)) (by show N * 4 ≤ _; omega) (Nat.le_trans h1 hce) (Nat.le_trans h2 hsl) hP.2 fun H1 cA e1 z1 o1 hAr hNm => ?_
  have hcA : cA = G.2.2.1 0 := by
    have h5 : s.vm.findClass ("[" ++ FieldType.int.toString) = some (G.2.2.1 0) := (hK.2 0 (G.2.2.1 0, .int) rfl).2
    exact Option.some.inj (hNm.symm.trans h5)
  subst hcA
  have hkp : ∀ (i : Nat) (x : Nat × va_E), (wn G n e)[i]? = some x → H1[x.1]? = H[x.1]? := fun i x hx2 => o1 x.1 (by rw [← hP.2]; exact (hP.1 i x hx2).lt)
  have hle : s.heap.size ≤ G.1 n := by rw [← hP.2]; exact hS.1
  refine kk H1 locs ls ⟨?_, z1.trans (hd n).symm⟩ ⟨by omega, fun x g1 g2 => (o1 x (Nat.lt_of_lt_of_le g1 hle)).trans (hS.2.1 x g1 g2), hS.2.2⟩ hl
  rw [← wn_push]
  refine (hP.1.kept hkp).app (fun i x hx2 => ?_)
  have hz : i < 1 := (List.getElem?_eq_some_iff.mp hx2).1
  rw [show i = 0 by omega] at hx2
  cases hx2
  exact e1
theorem k_newq (C : Cy G nL X cc own ret fr nm mc ms) {cls : String} {index : Nat} (t0 N : Nat) (ht : (g_tys G)[t0]? = some (G.2.2.1 t0, .object cls)) (hao : ∀ U, g_A U → va_AO cls U) {i : Int32} (hi : i = nI N) (hN : N < 100000) (hcl : Cond.classLink own index cls ∈ twl) (n2 k2 z2 : Nat) (hn2 : n + 1 = n2) (hk2 : k + 1 = k2) (hz2 : z + N = z2) (h1 : k2 ≤ mc) (h2 : z2 ≤ ms) (d : decode cc pc = .ok (.anewarray index, 3)) (kk : Mk l G nL X Q (pc + 3) lv (.ref (G.1 n) :: st) k2 z2 n2 (up_e e n (g_ra G t0 N (fun _ => none)))) : Mk l G nL X Q pc lv (.int i :: st) k z n e := by
  obtain ⟨p, en, R, s, m, args, below, meth, c, cells, slots⟩ := X
  obtain ⟨hx, hb, hml, ho, hts, hK, hGN, hGA, hd, hr, hlk, hnm, hfr, hlo, hce, hsl, h0s⟩ := C
  intro H locs ls hP hS hl
  subst hn2; subst hk2; subst hz2; subst hi
  have hcN : (nI N).toNatClampNeg = N := nI_clamp (by omega)
  refine W.anew hx hb ho (hts _ hcl) (va_AO.use (hao s hGA)) rfl d rfl (nI_pos (by omega)) (by rw [hcN]; omega) (Nat.le_trans h1 hce) (by rw [hcN]; exact Nat.le_trans h2 hsl) fun cA kA comp f1 f2 f3 f4 => ?_
  rw [hcN]
  have hcA : cA = G.2.2.1 t0 := by
    obtain ⟨_, _, _, _, _, h5⟩ := (hK.2 t0 _ ht).2
    exact Option.some.inj (f1.symm.trans h5)
  subst hcA
  generalize hH1 : H.push ({ cls := G.2.2.1 t0, slots := Array.replicate N .null, vm := .none } : Cell) = H1
  have z1 : H1.size = G.1 n + 1 := by rw [← hH1, Array.size_push, hP.2]
  have e1 : H1[G.1 n]? = some (arrV (G.2.2.1 t0) N (fun _ => .null)) := by rw [← hP.2, ← hH1, Array.getElem?_push_size, ← arrV_new]
  have o1 : ∀ q : Nat, q < G.1 n → H1[q]? = H[q]? := fun q hq => by rw [← hP.2] at hq; rw [← hH1, Array.getElem?_push, if_neg (Nat.ne_of_lt hq)]
  have hkp : ∀ (i : Nat) (x : Nat × va_E), (wn G n e)[i]? = some x → H1[x.1]? = H[x.1]? := fun i x hx2 => o1 x.1 (by rw [← hP.2]; exact (hP.1 i x hx2).lt)
  have hle : s.heap.size ≤ G.1 n := by rw [← hP.2]; exact hS.1
  rw [hP.2]
  refine kk H1 locs ls ⟨?_, z1.trans (hd n).symm⟩ ⟨by omega, fun x g1 g2 => (o1 x (Nat.lt_of_lt_of_le g1 hle)).trans (hS.2.1 x g1 g2), hS.2.2⟩ hl
  rw [← wn_push]
  refine (hP.1.kept hkp).app (fun i x hx2 => ?_)
  have hz : i < 1 := (List.getElem?_eq_some_iff.mp hx2).1
  rw [show i = 0 by omega] at hx2
  cases hx2
  exact e1
theorem k_aast (C : Cy G nL X cc own ret fr nm mc ms) (q0 t0 qk ci : Nat) {N : Nat} {vs : List Value} {f : Nat → Option Nat} {cn : String} {T : u_T} {N0 : Nat} (ht : (g_tys G)[t0]? = some (G.2.2.1 t0, .object cn)) (hq : q0 < n) (hqk : qk < n) (ha : e q0 = g_ra G t0 N f) (hv : e qk = .inr (ci, vs)) (hc : vwCl[ci]? = some (cn, T, N0)) (p0 : Nat) {i : Int32} (hi : i = nI p0) (hp : p0 < N) (hN : N < 100000) (f2 : Nat → Option Nat) (hf2 : va_up f p0 (some (G.1 qk)) = f2) (d : decode cc pc = .ok (.aastore, 1)) (kk : Mk l G nL X Q (pc + 1) lv st k z n (up_e e q0 (g_ra G t0 N f2))) : Mk l G nL X Q pc lv (.ref (G.1 qk) :: .int i :: .ref (G.1 q0) :: st) k z n e := by
  obtain ⟨p, en, R, s, m, args, below, meth, c, cells, slots⟩ := X
  obtain ⟨hx, hb, hml, ho, hts, hK, hGN, hGA, hd, hr, hlk, hnm, hfr, hlo, hce, hsl, h0s⟩ := C
  intro H locs ls hP hS hl
  subst hf2; subst hi
  have hD := wn_D hd n e
  have hcl0 : (nI p0).toNatClampNeg = p0 := nI_clamp (by omega)
  have hat : (wn G n e)[q0]? = some (G.1 q0, g_ra G t0 N f) := by rw [wn_at hq, ha]
  have hak : (wn G n e)[qk]? = some (G.1 qk, .inr (ci, vs)) := by rw [wn_at hqk, hv]
  obtain ⟨r', hr', cellV, g1, g2, g3, -⟩ := hP.1 qk _ hak
  have hcls := (hK.1 ci _ hc).2
  obtain ⟨kA, comp, k1, k2, k3, -⟩ := (hK.2 t0 _ ht).2
  obtain ⟨kC, hkC, -⟩ := hcls.2
  obtain rfl : comp = G.2.1.1 ci := Option.some.inj (k3.symm.trans hcls.1)
  refine W.aast hx hb (hP.1 q0 _ hat) (fun q h => by cases h) (fun h => by cases h) k1 k2 rfl hkC ⟨nI_pos (by omega), by show _ < (arrV _ _ _).slots.size; rw [arrV_size, hcl0]; exact hp⟩ g1 (fun q h => by rw [g3] at h; cases h) (by rw [g2]; exact hkC) (by rw [g2]; exact va_assign hcls) rfl rfl d fun H1 e1 z1 oq => ?_
  refine kk H1 _ ls ⟨?_, z1.trans hP.2⟩ (hS.put z1 oq (hD.2 q0 _ hat)) hl
  rw [← wn_set hq]
  refine hP.1.set hD hat ?_ oq
  show H1[G.1 q0]? = some (vp_cell _ _)
  rw [e1, hcl0, vp_cell_q, vp_cell_q, arrV_store]
  congr 2
  funext q
  by_cases hq : q = p0
  · subst hq
    simp [updV, va_up, va_rf]
  · simp [updV, va_up, hq]
theorem k_aastO (C : Cy G nL X cc own ret fr nm mc ms) (q0 t0 qk ci : Nat) {N : Nat} {vs : List Value} {f : Nat → Option Nat} {E cn : String} {T : u_T} {N0 : Nat} (ht : (g_tys G)[t0]? = some (G.2.2.1 t0, .object E)) (hca : Cond.castable cn E ∈ nwl) (hq : q0 < n) (hqk : qk < n) (ha : e q0 = g_ra G t0 N f) (hv : e qk = .inr (ci, vs)) (hc : vwCl[ci]? = some (cn, T, N0)) (p0 : Nat) {i : Int32} (hi : i = nI p0) (hp : p0 < N) (hN : N < 100000) (f2 : Nat → Option Nat) (hf2 : va_up f p0 (some (G.1 qk)) = f2) (d : decode cc pc = .ok (.aastore, 1)) (kk : Mk l G nL X Q (pc + 1) lv st k z n (up_e e q0 (g_ra G t0 N f2))) : Mk l G nL X Q pc lv (.ref (G.1 qk) :: .int i :: .ref (G.1 q0) :: st) k z n e := by
  obtain ⟨p, en, R, s, m, args, below, meth, c, cells, slots⟩ := X
  obtain ⟨hx, hb, hml, ho, hts, hK, hGN, hGA, hd, hr, hlk, hnm, hfr, hlo, hce, hsl, h0s⟩ := C
  intro H locs ls hP hS hl
  subst hf2; subst hi
  have hD := wn_D hd n e
  have hcl0 : (nI p0).toNatClampNeg = p0 := nI_clamp (by omega)
  have hat : (wn G n e)[q0]? = some (G.1 q0, g_ra G t0 N f) := by rw [wn_at hq, ha]
  have hak : (wn G n e)[qk]? = some (G.1 qk, .inr (ci, vs)) := by rw [wn_at hqk, hv]
  obtain ⟨r', hr', cellV, g1, g2, g3, -⟩ := hP.1 qk _ hak
  have hcls := (hK.1 ci _ hc).2
  obtain ⟨kA, comp, k1, k2, k3, -⟩ := (hK.2 t0 _ ht).2
  obtain ⟨kC, hkC, -⟩ := hcls.2
  obtain ⟨kE, hkE, -⟩ := Vm.findClass_spec k3
  obtain ⟨c0, t1, f1, f2, f3⟩ := Cond.castable_spec (va_Nw.use (A := args) rfl (hGN.1 _ hca))
  cases hcls.1.symm.trans f1
  cases k3.symm.trans f2
  refine W.aast hx hb (hP.1 q0 _ hat) (fun q h => by cases h) (fun h => by cases h) k1 k2 rfl hkE ⟨nI_pos (by omega), by show _ < (arrV _ _ _).slots.size; rw [arrV_size, hcl0]; exact hp⟩ g1 (fun q h => by rw [g3] at h; cases h) (by rw [g2]; exact hkC) (by rw [g2]; exact f3) rfl rfl d fun H1 e1 z1 oq => ?_
  refine kk H1 _ ls ⟨?_, z1.trans hP.2⟩ (hS.put z1 oq (hD.2 q0 _ hat)) hl
  rw [← wn_set hq]
  refine hP.1.set hD hat ?_ oq
  show H1[G.1 q0]? = some (vp_cell _ _)
  rw [e1, hcl0, vp_cell_q, vp_cell_q, arrV_store]
  congr 2
  funext q
  by_cases hq : q = p0
  · subst hq
    simp [updV, va_up, va_rf]
  · simp [updV, va_up, hq]
theorem k_aald (C : Cy G nL X cc own ret fr nm mc ms) (q0 t0 : Nat) {N : Nat} {f : Nat → Option Nat} {cn : String} (ht : (g_tys G)[t0]? = some (G.2.2.1 t0, .object cn)) (hq : q0 < n) (ha : e q0 = g_ra G t0 N f) (p0 a : Nat) {i : Int32} (hi : i = nI p0) (hp : p0 < N) (hN : N < 100000) (hf : f p0 = some a) (d : decode cc pc = .ok (.aaload, 1)) (kk : Mk l G nL X Q (pc + 1) lv (.ref a :: st) k z n e) : Mk l G nL X Q pc lv (.int i :: .ref (G.1 q0) :: st) k z n e := by
  obtain ⟨p, en, R, s, m, args, below, meth, c, cells, slots⟩ := X
  obtain ⟨hx, hb, hml, ho, hts, hK, hGN, hGA, hd, hr, hlk, hnm, hfr, hlo, hce, hsl, h0s⟩ := C
  intro H locs ls hP hS hl
  exact by
    subst hi
    refine va_aldq hx hb hK hP.1 q0 t0 (by rw [wn_at hq, ha]) ht (vp_in_nI hp (by omega)) d ?_
    rw [nI_clamp (by omega), hf]
    exact (kk H locs ls hP hS hl)
theorem k_iast (C : Cy G nL X cc own ret fr nm mc ms) (q0 : Nat) {N : Nat} {f : Nat → Int32} (hq : q0 < n) (ha : e q0 = g_ia G N f) (p0 : Nat) {i x : Int32} (hi : i = nI p0) (hp : p0 < N) (hN : N < 100000) (f2 : Nat → Int32) (hf2 : upd f p0 x = f2) (d : decode cc pc = .ok (.iastore, 1)) (kk : Mk l G nL X Q (pc + 1) lv st k z n (up_e e q0 (g_ia G N f2))) : Mk l G nL X Q pc lv (.int x :: .int i :: .ref (G.1 q0) :: st) k z n e := by
  obtain ⟨p, en, R, s, m, args, below, meth, c, cells, slots⟩ := X
  obtain ⟨hx, hb, hml, ho, hts, hK, hGN, hGA, hd, hr, hlk, hnm, hfr, hlo, hce, hsl, h0s⟩ := C
  intro H locs ls hP hS hl
  subst hf2; subst hi
  have hD := wn_D hd n e
  have hcl0 : (nI p0).toNatClampNeg = p0 := nI_clamp (by omega)
  have hat : (wn G n e)[q0]? = some (G.1 q0, g_ia G N f) := by rw [wn_at hq, ha]
  have hvin : vp_in (nI p0) N := vp_in_nI hp (by omega)
  refine W.iast hx hb (hP.1 q0 _ hat) ((hK.2 0 (G.2.2.1 0, .int) rfl).1 N (fun j => .int (f j))) (fun q => by cases q) (by show ¬ (_ ∨ (arrV _ _ _).slots.size ≤ _); rw [arrV_size]; exact hvin) rfl rfl d fun H1 e1 z1 oq => ?_
  refine kk H1 _ ls ⟨?_, z1.trans hP.2⟩ (hS.put z1 oq (hD.2 q0 _ hat)) hl
  rw [← wn_set hq]
  refine hP.1.set hD hat ?_ oq
  show H1[G.1 q0]? = some (vp_cell _ _)
  rw [e1, hcl0, vp_cell_i, vp_cell_i, arrV_store]
  congr 2
  funext q
  by_cases hq : q = p0
  · subst hq
    simp [updV, upd]
  · simp [updV, upd, hq]
theorem k_callI (C : Cy G nL X cc own ret fr nm mc ms) {mm : Mr} {fr2 mc2 ms2 index pn : Nat} {as rest : List Value}  (q0 : Nat) (n2 k2 z2 : Nat) {e2 : Nat → va_E} (hc : Ck l G mm fr2 mc2 ms2 (.ref (G.1 q0) :: as) n e n2 e2) (hw : WI own index mm pn) (hf : fr2 + 1 ≤ fr) (hn : as.length = pn) (hst : st = as.reverse ++ .ref (G.1 q0) :: rest) (hrm : (rest.map fun v => v.category).sum ≤ 8) (hk2 : k + mc2 = k2) (hz2 : z + ms2 = z2) (h1 : k2 ≤ mc) (h2 : z2 ≤ ms) (d : decode cc pc = .ok (.invokespecial index, 3)) (kk : Mk l G nL X Q (pc + 3) lv rest k2 z2 n2 e2) : Mk l G nL X Q pc lv st k z n e := by
  obtain ⟨p, en, R, s, m, args, below, meth, c, cells, slots⟩ := X
  obtain ⟨hx, hb, hml, ho, hts, hK, hGN, hGA, hd, hr, hlk, hnm, hfr, hlo, hce, hsl, h0s⟩ := C
  intro H locs ls hP hS hl
  subst hst; subst hk2; subst hz2
  obtain ⟨w1, w2, w3, w4, w5, w6, w7, w8⟩ := hw
  obtain ⟨y, by0, mL, rt⟩ := mm
  dsimp only at w7 w8
  subst w7
  refine va_callv (A1 := Kb G) (va_runI ⟨hx, hb, hml, ho, hts⟩ hc ⟨callB_of (ws' := twl) pn hts (twl_good w4) rfl rfl rfl (hts _ w3) (hts _ w1) w5 ⟨Nat.le_trans hf hfr, ?_⟩, w6, hts _ w2⟩ ⟨k_blind, fun U hU hW => ⟨rfl, by rw [hU]; exact hP, va_K.moved hW.alike hK, hGN.warm hW, hGA.moved hW.alike, hd⟩⟩ rfl hn hl.1 rfl (lv_room hrm) d ⟨Nat.le_trans h1 hce, Nat.le_trans h2 hsl⟩) hS (fun _ _ h => h) (fun _ h => h) (fun u t H1 locs1 ht hvm _ hB _ _ hS1 => kk H1 locs1 ls (by rw [← ht]; exact hB) hS1 hl)
  show 8 + (mL + 11) + 64 * fr2 ≤ R.locals
  omega
theorem k_callIN (C : Cy G nL X cc own ret fr nm mc ms) {mm : Mr} {fr2 mc2 ms2 index pn : Nat} {as rest : List Value} {host : String} (q0 : Nat) (n2 k2 z2 : Nat) {e2 : Nat → va_E} (hc : Ck l G mm fr2 mc2 ms2 (.ref (G.1 q0) :: as) n e n2 e2) (hw : WIN own host index mm pn) (hf : fr2 + 1 ≤ fr) (hn : as.length = pn) (hst : st = as.reverse ++ .ref (G.1 q0) :: rest) (hrm : (rest.map fun v => v.category).sum ≤ 8) (hk2 : k + mc2 = k2) (hz2 : z + ms2 = z2) (h1 : k2 ≤ mc) (h2 : z2 ≤ ms) (d : decode cc pc = .ok (.invokespecial index, 3)) (kk : Mk l G nL X Q (pc + 3) lv rest k2 z2 n2 e2) : Mk l G nL X Q pc lv st k z n e := by
  obtain ⟨p, en, R, s, m, args, below, meth, c, cells, slots⟩ := X
  obtain ⟨hx, hb, hml, ho, hts, hK, hGN, hGA, hd, hr, hlk, hnm, hfr, hlo, hce, hsl, h0s⟩ := C
  intro H locs ls hP hS hl
  subst hst; subst hk2; subst hz2
  obtain ⟨w1, w2, w3, w4, w5, w6, w7, w8⟩ := hw
  obtain ⟨y, by0, mL, rt⟩ := mm
  dsimp only at w7 w8
  subst w7
  refine va_callv (A1 := Kb G) (va_runIN (host := host) ⟨hx, hb, hml, ho, hts⟩ hc ⟨va_cnB (ws' := twl) pn hts (twl_good w4) rfl rfl rfl (hGN.1 _ w1) (hts _ w3) w5 ⟨Nat.le_trans hf hfr, ?_⟩, w6, hts _ w2⟩ ⟨k_blind, fun U hU hW => ⟨rfl, by rw [hU]; exact hP, va_K.moved hW.alike hK, hGN.warm hW, hGA.moved hW.alike, hd⟩⟩ rfl hn hl.1 rfl (lv_room hrm) d ⟨Nat.le_trans h1 hce, Nat.le_trans h2 hsl⟩) hS (fun _ _ h => h) (fun _ h => h) (fun u t H1 locs1 ht hvm _ hB _ _ hS1 => kk H1 locs1 ls (by rw [← ht]; exact hB) hS1 hl)
  show 8 + (mL + 11) + 64 * fr2 ≤ R.locals
  omega
end
