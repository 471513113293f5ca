/-! small numbers, truth values, forms of contracts -/
def bI (p : Prop) [Decidable p] : Int32 := if p then 1 else 0
theorem bI_t {p : Prop} [Decidable p] (h : p) : (1 : Int32) = bI p := (if_pos h).symm
theorem bI_f {p : Prop} [Decidable p] (h : ¬ p) : (0 : Int32) = bI p := (if_neg h).symm
theorem bI_eq0 {p : Prop} [Decidable p] : bI p = 0 ↔ ¬ p := by
  unfold bI
  by_cases h : p
  · rw [if_pos h]; exact ⟨fun q => absurd q (by decide), fun q => absurd h q⟩
  · rw [if_neg h]; exact ⟨fun _ => h, fun _ => rfl⟩
theorem bI_ne0 {p : Prop} [Decidable p] : ¬ bI p = 0 ↔ p := by rw [bI_eq0, Decidable.not_not]
theorem bI_congr {p q : Prop} [Decidable p] [Decidable q] (h : p ↔ q) : bI p = bI q := by
  unfold bI
  by_cases hp : p
  · rw [if_pos hp, if_pos (h.mp hp)]
  · rw [if_neg hp, if_neg (fun z => hp (h.mpr z))]
theorem bI_nar {p : Prop} [Decidable p] : narrow .boolean (.int (bI p)) = .int (bI p) := by
  unfold bI
  by_cases h : p
  · rw [if_pos h]; rfl
  · rw [if_neg h]; rfl
theorem ii_lt {x y : Int32} {a b : Int} (hx : x.toInt = a) (hy : y.toInt = b) : x < y ↔ a < b := by rw [Int32.lt_iff_toInt_lt, hx, hy]
theorem ii_le {x y : Int32} {a b : Int} (hx : x.toInt = a) (hy : y.toInt = b) : x ≤ y ↔ a ≤ b := by rw [Int32.le_iff_toInt_le, hx, hy]
theorem ii_eq {x y : Int32} {a b : Int} (hx : x.toInt = a) (hy : y.toInt = b) : x = y ↔ a = b := by rw [← Int32.toInt_inj, hx, hy]
theorem ll_lt {x y : Int64} {a b : Int} (hx : x.toInt = a) (hy : y.toInt = b) : x < y ↔ a < b := by rw [Int64.lt_iff_toInt_lt, hx, hy]
theorem ll_le {x y : Int64} {a b : Int} (hx : x.toInt = a) (hy : y.toInt = b) : x ≤ y ↔ a ≤ b := by rw [Int64.le_iff_toInt_le, hx, hy]
theorem ll_eq {x y : Int64} {a b : Int} (hx : x.toInt = a) (hy : y.toInt = b) : x = y ↔ a = b := by rw [← Int64.toInt_inj, hx, hy]
theorem nn_i {x : Int32} {a : Nat} (hx : x = nI a) (ha : a < 2 ^ 31) : x.toInt = (a : Int) := by rw [hx, nI_toInt ha]
theorem nn_add {x y : Int32} {a b : Nat} (hx : x = nI a) (hy : y = nI b) : x + y = nI (a + b) := by rw [hx, hy, nI_add]
theorem nn_mul {x y : Int32} {a b : Nat} (hx : x = nI a) (hy : y = nI b) : x * y = nI (a * b) := by rw [hx, hy, pk_mul]
theorem nn_sub {x y : Int32} {a b : Nat} (hx : x = nI a) (hy : y = nI b) (h : b ≤ a) : x - y = nI (a - b) := by rw [hx, hy, pk_sub h]
theorem nn_of {x : Int32} (h : 0 ≤ x.toInt) : ∃ a : Nat, x = nI a ∧ (a : Int) = x.toInt ∧ a < 2 ^ 31 := by
  have h2 := x.toInt_lt
  refine ⟨x.toInt.toNat, ?_, by omega, by omega⟩
  rw [← Int32.toInt_inj, nI_toInt (by omega)]
  omega
theorem nn_ofN {x : Int32} {a : Nat} (h : x.toInt = (a : Int)) : x = nI a := by
  have h2 := x.toInt_lt
  rw [← Int32.toInt_inj, nI_toInt (by omega), h]
theorem tl_i (x : Int32) : x.toInt64.toInt = x.toInt := Int32.toInt_toInt64 x
/-- a contract of a method that answers v and leaves the memory -/
def Cf (l : Launch) (G : Gl) (mm : Mr) (fr : Nat) (as : List Value) (mu : Mu) (nu : Nu) (v : Value) : Prop := Ct l G mm fr as mu nu (fun o m n => o = some v ∧ m = mu ∧ n = nu)
/-- of one that answers nothing -/
def Cv (l : Launch) (G : Gl) (mm : Mr) (fr : Nat) (as : List Value) (mu : Mu) (nu : Nu) (P : Mu → Nu → Prop) : Prop := Ct l G mm fr as mu nu (fun o m n => o = none ∧ P m n)
/-- of one that answers an int, the memory behind it as told -/
def Ci (l : Launch) (G : Gl) (mm : Mr) (fr : Nat) (as : List Value) (mu : Mu) (nu : Nu) (P : Int32 → Mu → Nu → Prop) : Prop := Ct l G mm fr as mu nu (fun o m n => ∃ r, o = some (.int r) ∧ P r m n)
def Cl (l : Launch) (G : Gl) (mm : Mr) (fr : Nat) (as : List Value) (mu : Mu) (nu : Nu) (P : Int64 → Mu → Nu → Prop) : Prop := Ct l G mm fr as mu nu (fun o m n => ∃ r, o = some (.long r) ∧ P r m n)
section
variable {l : Launch} {G : Gl} {nL : Nat} {X : Bx} {Q : State → Prop} {cc : ByteArray} {own : String} {ret : Option FieldType} {fr pc : Nat} {lv : List (Nat × Value)} {st : List Value} {mu : Mu} {nu : Nu} {mm : Mr} {fr' n index : Nat}
theorem m_dup2 (C : Cx G nL X cc own ret fr) {va vb : Value} (d : decode cc pc = .ok (.dup2, 1)) (ha : va.category = 1) (hb2 : vb.category = 1) (kk : Mq l G nL X Q (pc + 1) lv (va :: vb :: va :: vb :: st) mu nu) : Mq l G nL X Q pc lv (va :: vb :: st) mu nu := by
  obtain ⟨p, e, R, s, m, args, below, meth, c, cells, slots⟩ := X
  obtain ⟨hx, hb, hml, ho, hts, hK, hGS, hGN, hd, hr, hlk, hfr, hlo, hce, hsl⟩ := C
  intro H locs ls hP hS hl
  exact lv_dup2_11 hx hb d ha hb2 (kk H locs ls hP hS hl)
theorem m_iretf (C : Cx G nL X cc own (some .int) fr) {v w : Int32} {mu0 : Mu} {nu0 : Nu} (hQ : g_E G X (fun o m n => o = some (.int w) ∧ m = mu0 ∧ n = nu0) = Q) (d : decode cc pc = .ok (.ireturn, 1)) (hm : mu = mu0) (hn : nu = nu0) (hv : v = w) : Mq l G nL X Q pc lv [.int v] mu nu := by
  subst hQ; exact m_iret C d ⟨by rw [hv], hm, hn⟩
theorem m_lretf (C : Cx G nL X cc own (some .long) fr) {v w : Int64} {mu0 : Mu} {nu0 : Nu} (hQ : g_E G X (fun o m n => o = some (.long w) ∧ m = mu0 ∧ n = nu0) = Q) (d : decode cc pc = .ok (.lreturn, 1)) (hm : mu = mu0) (hn : nu = nu0) (hv : v = w) : Mq l G nL X Q pc lv [.long v] mu nu := by
  subst hQ; exact m_lret C d ⟨by rw [hv], hm, hn⟩
theorem m_zretf (C : Cx G nL X cc own (some .boolean) fr) {v w : Int32} {mu0 : Mu} {nu0 : Nu} (hQ : g_E G X (fun o m n => o = some (.int w) ∧ m = mu0 ∧ n = nu0) = Q) (d : decode cc pc = .ok (.ireturn, 1)) (hz : narrow .boolean (.int v) = .int v) (hm : mu = mu0) (hn : nu = nu0) (hv : v = w) : Mq l G nL X Q pc lv [.int v] mu nu := by
  subst hQ; exact m_zret C hz d ⟨by rw [hv], hm, hn⟩
theorem m_ireti (C : Cx G nL X cc own (some .int) fr) {v : Int32} {P : Int32 → Mu → Nu → Prop} (hQ : g_E G X (fun o m n => ∃ r, o = some (.int r) ∧ P r m n) = Q) (d : decode cc pc = .ok (.ireturn, 1)) (hp : P v mu nu) : Mq l G nL X Q pc lv [.int v] mu nu := by
  subst hQ; exact m_iret C d ⟨v, rfl, hp⟩
theorem m_lreti (C : Cx G nL X cc own (some .long) fr) {v : Int64} {P : Int64 → Mu → Nu → Prop} (hQ : g_E G X (fun o m n => ∃ r, o = some (.long r) ∧ P r m n) = Q) (d : decode cc pc = .ok (.lreturn, 1)) (hp : P v mu nu) : Mq l G nL X Q pc lv [.long v] mu nu := by
  subst hQ; exact m_lret C d ⟨v, rfl, hp⟩
theorem m_zreti (C : Cx G nL X cc own (some .boolean) fr) {v : Int32} {P : Int32 → Mu → Nu → Prop} (hQ : g_E G X (fun o m n => ∃ r, o = some (.int r) ∧ P r m n) = Q) (d : decode cc pc = .ok (.ireturn, 1)) (hz : narrow .boolean (.int v) = .int v) (hp : P v mu nu) : Mq l G nL X Q pc lv [.int v] mu nu := by
  subst hQ; exact m_zret C hz d ⟨v, rfl, hp⟩
theorem m_vretv (C : Cx G nL X cc own none fr) {P : Mu → Nu → Prop} (hQ : g_E G X (fun o m n => o = none ∧ P m n) = Q) (d : decode cc pc = .ok (.return_, 1)) (hp : P mu nu) : Mq l G nL X Q pc lv [] mu nu := by
  subst hQ; exact m_vret C d ⟨rfl, hp⟩
theorem m_callSf (C : Cx G nL X cc own ret fr) {as rest : List Value}  {v : Value} (hc : Cf l G mm fr' as mu nu v) (hw : WS own index mm n) (hf : fr' + 1 ≤ fr) (hn : as.length = n) (hst : st = as.reverse ++ rest) (hrm : (rest.map fun v => v.category).sum ≤ 8) (d : decode cc pc = .ok (.invokestatic index, 3)) (kk : Mq l G nL X Q (pc + 3) lv (v :: rest) mu nu) : Mq l G nL X Q pc lv st mu nu :=
  m_callS C hc hw hf hn hst hrm d (fun o m2 n2 hp => by obtain ⟨rfl, rfl, rfl⟩ := hp; exact kk)
theorem m_callSv (C : Cx G nL X cc own ret fr) {as rest : List Value}  {P : Mu → Nu → Prop} (hc : Cv l G mm fr' as mu nu P) (hw : WS own index mm n) (hf : fr' + 1 ≤ fr) (hn : as.length = n) (hst : st = as.reverse ++ rest) (hrm : (rest.map fun v => v.category).sum ≤ 8) (d : decode cc pc = .ok (.invokestatic index, 3)) (kk : ∀ m2 n2, P m2 n2 → Mq l G nL X Q (pc + 3) lv rest m2 n2) : Mq l G nL X Q pc lv st mu nu :=
  m_callS C hc hw hf hn hst hrm d (fun o m2 n2 hp => by obtain ⟨rfl, hp⟩ := hp; exact kk m2 n2 hp)
theorem m_callSi (C : Cx G nL X cc own ret fr) {as rest : List Value}  {P : Int32 → Mu → Nu → Prop} (hc : Ci l G mm fr' as mu nu P) (hw : WS own index mm n) (hf : fr' + 1 ≤ fr) (hn : as.length = n) (hst : st = as.reverse ++ rest) (hrm : (rest.map fun v => v.category).sum ≤ 8) (d : decode cc pc = .ok (.invokestatic index, 3)) (kk : ∀ r m2 n2, P r m2 n2 → Mq l G nL X Q (pc + 3) lv (.int r :: rest) m2 n2) : Mq l G nL X Q pc lv st mu nu :=
  m_callS C hc hw hf hn hst hrm d (fun o m2 n2 hp => by obtain ⟨r, rfl, hp⟩ := hp; exact kk r m2 n2 hp)
theorem m_callSl (C : Cx G nL X cc own ret fr) {as rest : List Value}  {P : Int64 → Mu → Nu → Prop} (hc : Cl l G mm fr' as mu nu P) (hw : WS own index mm n) (hf : fr' + 1 ≤ fr) (hn : as.length = n) (hst : st = as.reverse ++ rest) (hrm : (rest.map fun v => v.category).sum ≤ 8) (d : decode cc pc = .ok (.invokestatic index, 3)) (kk : ∀ r m2 n2, P r m2 n2 → Mq l G nL X Q (pc + 3) lv (.long r :: rest) m2 n2) : Mq l G nL X Q pc lv st mu nu :=
  m_callS C hc hw hf hn hst hrm d (fun o m2 n2 hp => by obtain ⟨r, rfl, hp⟩ := hp; exact kk r m2 n2 hp)
theorem m_callVf (C : Cx G nL X cc own ret fr) {as rest : List Value} (q0 : Nat) (hq : q0 < 79) {ci : Nat} {fs : List Value} {T : u_T} {N : Nat} (he : g_sh G q0 (mu q0) (nu q0) = .inr (ci, fs)) (hcl : vwCl[ci]? = some (mm.1.cls, T, N)) {v : Value} (hc : Cf l G mm fr' (.ref (G.1 q0) :: as) mu nu v) (hw : WV own index mm n) (hf : fr' + 1 ≤ fr) (hn : as.length = n) (hst : st = as.reverse ++ .ref (G.1 q0) :: rest) (hrm : (rest.map fun v => v.category).sum ≤ 8) (d : decode cc pc = .ok (.invokevirtual index, 3)) (kk : Mq l G nL X Q (pc + 3) lv (v :: rest) mu nu) : Mq l G nL X Q pc lv st mu nu :=
  m_callV C q0 hq he hcl hc hw hf hn hst hrm d (fun o m2 n2 hp => by obtain ⟨rfl, rfl, rfl⟩ := hp; exact kk)
theorem m_callVv (C : Cx G nL X cc own ret fr) {as rest : List Value} (q0 : Nat) (hq : q0 < 79) {ci : Nat} {fs : List Value} {T : u_T} {N : Nat} (he : g_sh G q0 (mu q0) (nu q0) = .inr (ci, fs)) (hcl : vwCl[ci]? = some (mm.1.cls, T, N)) {P : Mu → Nu → Prop} (hc : Cv l G mm fr' (.ref (G.1 q0) :: as) mu nu P) (hw : WV own index mm n) (hf : fr' + 1 ≤ fr) (hn : as.length = n) (hst : st = as.reverse ++ .ref (G.1 q0) :: rest) (hrm : (rest.map fun v => v.category).sum ≤ 8) (d : decode cc pc = .ok (.invokevirtual index, 3)) (kk : ∀ m2 n2, P m2 n2 → Mq l G nL X Q (pc + 3) lv rest m2 n2) : Mq l G nL X Q pc lv st mu nu :=
  m_callV C q0 hq he hcl hc hw hf hn hst hrm d (fun o m2 n2 hp => by obtain ⟨rfl, hp⟩ := hp; exact kk m2 n2 hp)
theorem m_callVi (C : Cx G nL X cc own ret fr) {as rest : List Value} (q0 : Nat) (hq : q0 < 79) {ci : Nat} {fs : List Value} {T : u_T} {N : Nat} (he : g_sh G q0 (mu q0) (nu q0) = .inr (ci, fs)) (hcl : vwCl[ci]? = some (mm.1.cls, T, N)) {P : Int32 → Mu → Nu → Prop} (hc : Ci l G mm fr' (.ref (G.1 q0) :: as) mu nu P) (hw : WV own index mm n) (hf : fr' + 1 ≤ fr) (hn : as.length = n) (hst : st = as.reverse ++ .ref (G.1 q0) :: rest) (hrm : (rest.map fun v => v.category).sum ≤ 8) (d : decode cc pc = .ok (.invokevirtual index, 3)) (kk : ∀ r m2 n2, P r m2 n2 → Mq l G nL X Q (pc + 3) lv (.int r :: rest) m2 n2) : Mq l G nL X Q pc lv st mu nu :=
  m_callV C q0 hq he hcl hc hw hf hn hst hrm d (fun o m2 n2 hp => by obtain ⟨r, rfl, hp⟩ := hp; exact kk r m2 n2 hp)
theorem m_callVl (C : Cx G nL X cc own ret fr) {as rest : List Value} (q0 : Nat) (hq : q0 < 79) {ci : Nat} {fs : List Value} {T : u_T} {N : Nat} (he : g_sh G q0 (mu q0) (nu q0) = .inr (ci, fs)) (hcl : vwCl[ci]? = some (mm.1.cls, T, N)) {P : Int64 → Mu → Nu → Prop} (hc : Cl l G mm fr' (.ref (G.1 q0) :: as) mu nu P) (hw : WV own index mm n) (hf : fr' + 1 ≤ fr) (hn : as.length = n) (hst : st = as.reverse ++ .ref (G.1 q0) :: rest) (hrm : (rest.map fun v => v.category).sum ≤ 8) (d : decode cc pc = .ok (.invokevirtual index, 3)) (kk : ∀ r m2 n2, P r m2 n2 → Mq l G nL X Q (pc + 3) lv (.long r :: rest) m2 n2) : Mq l G nL X Q pc lv st mu nu :=
  m_callV C q0 hq he hcl hc hw hf hn hst hrm d (fun o m2 n2 hp => by obtain ⟨r, rfl, hp⟩ := hp; exact kk r m2 n2 hp)
theorem m_callNf (C : Cx G nL X cc own ret fr) {as rest : List Value} {host : String} (q0 : Nat) (hq : q0 < 79) {ci : Nat} {fs : List Value} {T : u_T} {N : Nat} (he : g_sh G q0 (mu q0) (nu q0) = .inr (ci, fs)) (hcl : vwCl[ci]? = some (mm.1.cls, T, N)) {v : Value} (hc : Cf l G mm fr' (.ref (G.1 q0) :: as) mu nu v) (hw : WN own host index mm n) (hf : fr' + 1 ≤ fr) (hn : as.length = n) (hst : st = as.reverse ++ .ref (G.1 q0) :: rest) (hrm : (rest.map fun v => v.category).sum ≤ 8) (d : decode cc pc = .ok (.invokevirtual index, 3)) (kk : Mq l G nL X Q (pc + 3) lv (v :: rest) mu nu) : Mq l G nL X Q pc lv st mu nu :=
  m_callN C q0 hq he hcl hc hw hf hn hst hrm d (fun o m2 n2 hp => by obtain ⟨rfl, rfl, rfl⟩ := hp; exact kk)
theorem m_callNv (C : Cx G nL X cc own ret fr) {as rest : List Value} {host : String} (q0 : Nat) (hq : q0 < 79) {ci : Nat} {fs : List Value} {T : u_T} {N : Nat} (he : g_sh G q0 (mu q0) (nu q0) = .inr (ci, fs)) (hcl : vwCl[ci]? = some (mm.1.cls, T, N)) {P : Mu → Nu → Prop} (hc : Cv l G mm fr' (.ref (G.1 q0) :: as) mu nu P) (hw : WN own host index mm n) (hf : fr' + 1 ≤ fr) (hn : as.length = n) (hst : st = as.reverse ++ .ref (G.1 q0) :: rest) (hrm : (rest.map fun v => v.category).sum ≤ 8) (d : decode cc pc = .ok (.invokevirtual index, 3)) (kk : ∀ m2 n2, P m2 n2 → Mq l G nL X Q (pc + 3) lv rest m2 n2) : Mq l G nL X Q pc lv st mu nu :=
  m_callN C q0 hq he hcl hc hw hf hn hst hrm d (fun o m2 n2 hp => by obtain ⟨rfl, hp⟩ := hp; exact kk m2 n2 hp)
theorem m_callNi (C : Cx G nL X cc own ret fr) {as rest : List Value} {host : String} (q0 : Nat) (hq : q0 < 79) {ci : Nat} {fs : List Value} {T : u_T} {N : Nat} (he : g_sh G q0 (mu q0) (nu q0) = .inr (ci, fs)) (hcl : vwCl[ci]? = some (mm.1.cls, T, N)) {P : Int32 → Mu → Nu → Prop} (hc : Ci l G mm fr' (.ref (G.1 q0) :: as) mu nu P) (hw : WN own host index mm n) (hf : fr' + 1 ≤ fr) (hn : as.length = n) (hst : st = as.reverse ++ .ref (G.1 q0) :: rest) (hrm : (rest.map fun v => v.category).sum ≤ 8) (d : decode cc pc = .ok (.invokevirtual index, 3)) (kk : ∀ r m2 n2, P r m2 n2 → Mq l G nL X Q (pc + 3) lv (.int r :: rest) m2 n2) : Mq l G nL X Q pc lv st mu nu :=
  m_callN C q0 hq he hcl hc hw hf hn hst hrm d (fun o m2 n2 hp => by obtain ⟨r, rfl, hp⟩ := hp; exact kk r m2 n2 hp)
theorem m_callNl (C : Cx G nL X cc own ret fr) {as rest : List Value} {host : String} (q0 : Nat) (hq : q0 < 79) {ci : Nat} {fs : List Value} {T : u_T} {N : Nat} (he : g_sh G q0 (mu q0) (nu q0) = .inr (ci, fs)) (hcl : vwCl[ci]? = some (mm.1.cls, T, N)) {P : Int64 → Mu → Nu → Prop} (hc : Cl l G mm fr' (.ref (G.1 q0) :: as) mu nu P) (hw : WN own host index mm n) (hf : fr' + 1 ≤ fr) (hn : as.length = n) (hst : st = as.reverse ++ .ref (G.1 q0) :: rest) (hrm : (rest.map fun v => v.category).sum ≤ 8) (d : decode cc pc = .ok (.invokevirtual index, 3)) (kk : ∀ r m2 n2, P r m2 n2 → Mq l G nL X Q (pc + 3) lv (.long r :: rest) m2 n2) : Mq l G nL X Q pc lv st mu nu :=
  m_callN C q0 hq he hcl hc hw hf hn hst hrm d (fun o m2 n2 hp => by obtain ⟨r, rfl, hp⟩ := hp; exact kk r m2 n2 hp)
theorem m_callOf (C : Cx G nL X cc own ret fr) {as rest : List Value} {x : MethodName} {cn : String} (q0 : Nat) (hq : q0 < 79) {ci : Nat} {fs : List Value} {T : u_T} {N : Nat} (he : g_sh G q0 (mu q0) (nu q0) = .inr (ci, fs)) (hcl : vwCl[ci]? = some (cn, T, N)) {v : Value} (hc : Cf l G mm fr' (.ref (G.1 q0) :: as) mu nu v) (hw : WO own cn index x mm n) (hf : fr' + 1 ≤ fr) (hn : as.length = n) (hst : st = as.reverse ++ .ref (G.1 q0) :: rest) (hrm : (rest.map fun v => v.category).sum ≤ 8) (d : decode cc pc = .ok (.invokevirtual index, 3)) (kk : Mq l G nL X Q (pc + 3) lv (v :: rest) mu nu) : Mq l G nL X Q pc lv st mu nu :=
  m_callO C q0 hq he hcl hc hw hf hn hst hrm d (fun o m2 n2 hp => by obtain ⟨rfl, rfl, rfl⟩ := hp; exact kk)
theorem m_callOv (C : Cx G nL X cc own ret fr) {as rest : List Value} {x : MethodName} {cn : String} (q0 : Nat) (hq : q0 < 79) {ci : Nat} {fs : List Value} {T : u_T} {N : Nat} (he : g_sh G q0 (mu q0) (nu q0) = .inr (ci, fs)) (hcl : vwCl[ci]? = some (cn, T, N)) {P : Mu → Nu → Prop} (hc : Cv l G mm fr' (.ref (G.1 q0) :: as) mu nu P) (hw : WO own cn index x mm n) (hf : fr' + 1 ≤ fr) (hn : as.length = n) (hst : st = as.reverse ++ .ref (G.1 q0) :: rest) (hrm : (rest.map fun v => v.category).sum ≤ 8) (d : decode cc pc = .ok (.invokevirtual index, 3)) (kk : ∀ m2 n2, P m2 n2 → Mq l G nL X Q (pc + 3) lv rest m2 n2) : Mq l G nL X Q pc lv st mu nu :=
  m_callO C q0 hq he hcl hc hw hf hn hst hrm d (fun o m2 n2 hp => by obtain ⟨rfl, hp⟩ := hp; exact kk m2 n2 hp)
theorem m_callOi (C : Cx G nL X cc own ret fr) {as rest : List Value} {x : MethodName} {cn : String} (q0 : Nat) (hq : q0 < 79) {ci : Nat} {fs : List Value} {T : u_T} {N : Nat} (he : g_sh G q0 (mu q0) (nu q0) = .inr (ci, fs)) (hcl : vwCl[ci]? = some (cn, T, N)) {P : Int32 → Mu → Nu → Prop} (hc : Ci l G mm fr' (.ref (G.1 q0) :: as) mu nu P) (hw : WO own cn index x mm n) (hf : fr' + 1 ≤ fr) (hn : as.length = n) (hst : st = as.reverse ++ .ref (G.1 q0) :: rest) (hrm : (rest.map fun v => v.category).sum ≤ 8) (d : decode cc pc = .ok (.invokevirtual index, 3)) (kk : ∀ r m2 n2, P r m2 n2 → Mq l G nL X Q (pc + 3) lv (.int r :: rest) m2 n2) : Mq l G nL X Q pc lv st mu nu :=
  m_callO C q0 hq he hcl hc hw hf hn hst hrm d (fun o m2 n2 hp => by obtain ⟨r, rfl, hp⟩ := hp; exact kk r m2 n2 hp)
theorem m_callOl (C : Cx G nL X cc own ret fr) {as rest : List Value} {x : MethodName} {cn : String} (q0 : Nat) (hq : q0 < 79) {ci : Nat} {fs : List Value} {T : u_T} {N : Nat} (he : g_sh G q0 (mu q0) (nu q0) = .inr (ci, fs)) (hcl : vwCl[ci]? = some (cn, T, N)) {P : Int64 → Mu → Nu → Prop} (hc : Cl l G mm fr' (.ref (G.1 q0) :: as) mu nu P) (hw : WO own cn index x mm n) (hf : fr' + 1 ≤ fr) (hn : as.length = n) (hst : st = as.reverse ++ .ref (G.1 q0) :: rest) (hrm : (rest.map fun v => v.category).sum ≤ 8) (d : decode cc pc = .ok (.invokevirtual index, 3)) (kk : ∀ r m2 n2, P r m2 n2 → Mq l G nL X Q (pc + 3) lv (.long r :: rest) m2 n2) : Mq l G nL X Q pc lv st mu nu :=
  m_callO C q0 hq he hcl hc hw hf hn hst hrm d (fun o m2 n2 hp => by obtain ⟨r, rfl, hp⟩ := hp; exact kk r m2 n2 hp)
theorem m_callUf (C : Cx G nL X cc own ret fr) {as rest : List Value} {cn : String} (q0 : Nat) (hq : q0 < 79) {ci : Nat} {fs : List Value} {T : u_T} {N : Nat} (he : g_sh G q0 (mu q0) (nu q0) = .inr (ci, fs)) (hcl : vwCl[ci]? = some (cn, T, N)) {v : Value} (hc : Cf l G mm fr' (.ref (G.1 q0) :: as) mu nu v) (hw : WU own index mm n) (hf : fr' + 1 ≤ fr) (hn : as.length = n) (hst : st = as.reverse ++ .ref (G.1 q0) :: rest) (hrm : (rest.map fun v => v.category).sum ≤ 8) (d : decode cc pc = .ok (.invokespecial index, 3)) (kk : Mq l G nL X Q (pc + 3) lv (v :: rest) mu nu) : Mq l G nL X Q pc lv st mu nu :=
  m_callU C q0 hq he hcl hc hw hf hn hst hrm d (fun o m2 n2 hp => by obtain ⟨rfl, rfl, rfl⟩ := hp; exact kk)
theorem m_callUv (C : Cx G nL X cc own ret fr) {as rest : List Value} {cn : String} (q0 : Nat) (hq : q0 < 79) {ci : Nat} {fs : List Value} {T : u_T} {N : Nat} (he : g_sh G q0 (mu q0) (nu q0) = .inr (ci, fs)) (hcl : vwCl[ci]? = some (cn, T, N)) {P : Mu → Nu → Prop} (hc : Cv l G mm fr' (.ref (G.1 q0) :: as) mu nu P) (hw : WU own index mm n) (hf : fr' + 1 ≤ fr) (hn : as.length = n) (hst : st = as.reverse ++ .ref (G.1 q0) :: rest) (hrm : (rest.map fun v => v.category).sum ≤ 8) (d : decode cc pc = .ok (.invokespecial index, 3)) (kk : ∀ m2 n2, P m2 n2 → Mq l G nL X Q (pc + 3) lv rest m2 n2) : Mq l G nL X Q pc lv st mu nu :=
  m_callU C q0 hq he hcl hc hw hf hn hst hrm d (fun o m2 n2 hp => by obtain ⟨rfl, hp⟩ := hp; exact kk m2 n2 hp)
theorem m_callUi (C : Cx G nL X cc own ret fr) {as rest : List Value} {cn : String} (q0 : Nat) (hq : q0 < 79) {ci : Nat} {fs : List Value} {T : u_T} {N : Nat} (he : g_sh G q0 (mu q0) (nu q0) = .inr (ci, fs)) (hcl : vwCl[ci]? = some (cn, T, N)) {P : Int32 → Mu → Nu → Prop} (hc : Ci l G mm fr' (.ref (G.1 q0) :: as) mu nu P) (hw : WU own index mm n) (hf : fr' + 1 ≤ fr) (hn : as.length = n) (hst : st = as.reverse ++ .ref (G.1 q0) :: rest) (hrm : (rest.map fun v => v.category).sum ≤ 8) (d : decode cc pc = .ok (.invokespecial index, 3)) (kk : ∀ r m2 n2, P r m2 n2 → Mq l G nL X Q (pc + 3) lv (.int r :: rest) m2 n2) : Mq l G nL X Q pc lv st mu nu :=
  m_callU C q0 hq he hcl hc hw hf hn hst hrm d (fun o m2 n2 hp => by obtain ⟨r, rfl, hp⟩ := hp; exact kk r m2 n2 hp)
theorem m_callUl (C : Cx G nL X cc own ret fr) {as rest : List Value} {cn : String} (q0 : Nat) (hq : q0 < 79) {ci : Nat} {fs : List Value} {T : u_T} {N : Nat} (he : g_sh G q0 (mu q0) (nu q0) = .inr (ci, fs)) (hcl : vwCl[ci]? = some (cn, T, N)) {P : Int64 → Mu → Nu → Prop} (hc : Cl l G mm fr' (.ref (G.1 q0) :: as) mu nu P) (hw : WU own index mm n) (hf : fr' + 1 ≤ fr) (hn : as.length = n) (hst : st = as.reverse ++ .ref (G.1 q0) :: rest) (hrm : (rest.map fun v => v.category).sum ≤ 8) (d : decode cc pc = .ok (.invokespecial index, 3)) (kk : ∀ r m2 n2, P r m2 n2 → Mq l G nL X Q (pc + 3) lv (.long r :: rest) m2 n2) : Mq l G nL X Q pc lv st mu nu :=
  m_callU C q0 hq he hcl hc hw hf hn hst hrm d (fun o m2 n2 hp => by obtain ⟨r, rfl, hp⟩ := hp; exact kk r m2 n2 hp)
end
