/-! THE MEMORY: all cells of the class's object and of the model's, by their numbers; ints by mu, longs by nu -/
def twl : List Cond := lw_tbl.filter goodWord
theorem twl_of {w : Cond} (i : Nat) (h : lw_tbl[i]? = some w) (g : goodWord w = true) : w ∈ twl := List.mem_filter.mpr ⟨List.mem_of_getElem? h, g⟩
theorem twl_mem {ws : List Cond} (h : GoodIn lw_tbl ws) (g : ws.all goodWord = true) : ∀ w ∈ ws, w ∈ twl := fun w hw => List.mem_filter.mpr ⟨(h w hw).1, List.all_eq_true.mp g w hw⟩
theorem twl_good {y : MethodName} {cc : ByteArray} {n : Nat} {ret : Option FieldType} (h : Cond.code y cc n ret ∈ twl) : GoodIn twl (Cond.code y cc n ret :: twl) := by
  intro w hw
  rcases List.mem_cons.mp hw with rfl | hw
  · exact ⟨h, good_of_word (List.mem_filter.mp h).2⟩
  · exact ⟨hw, good_of_word (List.mem_filter.mp hw).2⟩
/-- words that go along with the heat of the machine: the nest's, and what can be cast -/
def nw_kind : Cond → Bool
  | .fieldLinkNest .. => true
  | .methodLinkNest .. => true
  | .castable .. => true
  | _ => false
def nwl : List Cond := lw_tbl.filter nw_kind
theorem nwl_of {w : Cond} (i : Nat) (h : lw_tbl[i]? = some w) (g : nw_kind w = true) : w ∈ nwl := List.mem_filter.mpr ⟨List.mem_of_getElem? h, g⟩
theorem nw_warm {w : Cond} (g : nw_kind w = true) {s U : State} (hW : s.WarmedH U.vm) (h : va_Nw w s) : va_Nw w U := by
  cases w <;> first | exact va_Nw.warmF hW h | exact va_Nw.warmM hW h | exact va_Nw.warmC hW h | (simp [nw_kind] at g; done)
/-- pairs of classes that can't be cast -/
def ncl : List (String × String) := [(RX3, RX9), (RX8, RX9), (RX6, RX9), (RX2, RX9), (RX3, RX8), (RX9, RX8), (RX6, RX8), (RX1, RX8), (RX3, RX6), (RX9, RX6), (RX8, RX6), (RX1, RX6), (RX2, RX6), (RX3, RX1), (RX9, RX1), (RX8, RX1), (RX6, RX1), (RX2, RX1), (RX3, RX2), (RX9, RX2), (RX8, RX2), (RX6, RX2), (RX1, RX2)]
abbrev Mu : Type := Nat → Nat → Int32
abbrev Nu : Type := Nat → Nat → Int64
def mu_row (mu : Mu) (c : Nat) (f : Nat → Int32) : Mu := fun c' => if c' = c then f else mu c'
def mu_up (mu : Mu) (c j : Nat) (x : Int32) : Mu := mu_row mu c (upd (mu c) j x)
def nu_row (nu : Nu) (c : Nat) (f : Nat → Int64) : Nu := fun c' => if c' = c then f else nu c'
def nu_up (nu : Nu) (c j : Nat) (x : Int64) : Nu := nu_row nu c (vp_updL (nu c) j x)
theorem nu_row_self (nu : Nu) (c : Nat) : nu_row nu c (nu c) = nu := by
  funext c'
  unfold nu_row
  by_cases h : c' = c
  · rw [if_pos h, h]
  · rw [if_neg h]
theorem mu_row_self (mu : Mu) (c : Nat) : mu_row mu c (mu c) = mu := by
  funext c'
  unfold mu_row
  by_cases h : c' = c
  · rw [if_pos h, h]
  · rw [if_neg h]
/-- addresses of the cells; the classes' numbers and slots; the array classes; the two static arrays -/
abbrev Gl : Type := (Nat → Nat) × va_G × (Nat → ClassId) × Nat × Nat
def g_tys (G : Gl) : List (ClassId × FieldType) := [(G.2.2.1 0, .int), (G.2.2.1 1, .object RX7), (G.2.2.1 2, .object RX3), (G.2.2.1 3, .object RX4), (G.2.2.1 4, .object RX0)]
abbrev g_rf (G : Gl) (k : Nat) : Value := .ref (G.1 k)
abbrev g_ia (G : Gl) (n : Nat) (f : Nat → Int32) : va_E := .inl (G.2.2.1 0, n, .inl f)
abbrev g_ra (G : Gl) (t n : Nat) (f : Nat → Option Nat) : va_E := .inl (G.2.2.1 t, n, .inr (.inr (.inr (.inr f))))
def g_bench (G : Gl) (c : Nat) (f : Nat → Int32) : va_E := .inr (0, [g_rf G (c + 1), .int (f 1), .int (f 2), g_rf G (c + 2), g_rf G (c + 3), g_rf G (c + 4), .int (f 6), .int (f 7)])
def g_strip (G : Gl) (c : Nat) (f : Nat → Int32) : va_E := .inr (7, [g_rf G (c + 1), .int (f 1)])
def g_rod (G : Gl) (f : Nat → Int32) : va_E := .inr (4, [g_rf G (f 0).toNatClampNeg, .int (f 1), .int (f 2), .int (f 3)])
def g_box (G : Gl) (f : Nat → Int32) (g : Nat → Int64) : va_E := .inr (10, [g_rf G 1, g_rf G 14, g_rf G 23, g_rf G 30, .int (f 4), g_rf G 38, g_rf G 43, g_rf G 59, .int (f 8), .long (g 9), .long (g 10), .int (f 11), g_rf G 63])
def g_search (G : Gl) (f : Nat → Int32) : va_E := .inr (5, [g_rf G 60, .int (f 1), g_rf G 61, g_rf G 62, .int (f 4), .int (f 5), .int (f 6)])
def g_model (G : Gl) (f : Nat → Int32) (g : Nat → Int64) : va_E := .inr (11, [g_rf G 65, g_rf G 66, g_rf G 67, g_rf G 68, g_rf G 69, .int (f 5), g_rf G 70, .int (f 7), .long (g 8), .long (g 9), g_rf G 71, .int (f 11), .int (f 12), .int (f 13), .int (f 14), g_rf G 72, g_rf G 73, g_rf G 74, g_rf G 75, .int (f 19), g_rf G 76, g_rf G 77, g_rf G 78, .long (g 23)])
def g_kci (k : Nat) : Nat := if k = 0 then 3 else if k = 1 then 9 else if k = 2 then 8 else if k = 3 then 6 else if k = 4 then 1 else 2
/-- the sizes of the model's arrays, cells 65 to 78 -/
def g_msz (c : Nat) : Nat := [1568, 6, 240, 4, 240, 6, 40, 21, 8, 9, 7, 6, 7, 6].getD (c - 65) 0
def g_sh (G : Gl) (c : Nat) (f : Nat → Int32) (g : Nat → Int64) : va_E :=
  if c = 0 then g_box G f g
  else if c = 1 then g_ra G 1 6 (fun i => some (G.1 (2 + 2 * i)))
  else if c < 14 then (if c % 2 = 0 then g_strip G c f else g_ia G 60 f)
  else if c = 14 then g_ra G 1 4 (fun i => some (G.1 (15 + 2 * i)))
  else if c < 23 then (if c % 2 = 1 then g_strip G c f else g_ia G 60 f)
  else if c = 23 then g_ra G 2 6 (fun i => some (G.1 (24 + i)))
  else if c < 30 then .inr (g_kci (c - 24), [])
  else if c = 30 then g_ra G 3 7 (fun i => some (G.1 (31 + i)))
  else if c < 38 then g_rod G f
  else if c = 38 then g_bench G 38 f
  else if c = 39 then g_ia G 7 f
  else if c < 43 then g_ia G 40 f
  else if c = 43 then g_ra G 4 3 (fun i => some (G.1 (44 + 5 * i)))
  else if c < 59 then (if (c - 44) % 5 = 0 then g_bench G c f else if (c - 44) % 5 = 1 then g_ia G 7 f else g_ia G 40 f)
  else if c = 59 then g_search G f
  else if c < 63 then g_ia G 7 f
  else if c = 63 then g_ia G 6 f
  else if c = 64 then g_model G f g
  else g_ia G (g_msz c) f
def g_wl (G : Gl) (mu : Mu) (nu : Nu) : va_W := (List.range 79).map (fun c => (G.1 c, g_sh G c (mu c) (nu c)))
theorem g_at {G : Gl} {mu : Mu} {nu : Nu} {c : Nat} (h : c < 79) : (g_wl G mu nu)[c]? = some (G.1 c, g_sh G c (mu c) (nu c)) := by
  simp [g_wl, h]
theorem g_atE {G : Gl} {mu : Mu} {nu : Nu} {c : Nat} {e : va_E} (h : c < 79) (he : g_sh G c (mu c) (nu c) = e) : (g_wl G mu nu)[c]? = some (G.1 c, e) := by
  rw [g_at h, he]
theorem g_setM {G : Gl} {mu : Mu} {nu : Nu} {c : Nat} {e : va_E} {f : Nat → Int32} (h : c < 79) (he : g_sh G c f (nu c) = e) : (g_wl G mu nu).set c (G.1 c, e) = g_wl G (mu_row mu c f) nu := by
  apply List.ext_getElem?
  intro i
  by_cases hi : i = c
  · subst hi
    rw [List.getElem?_set_self (by simp [g_wl, h]), g_at h]
    simp [mu_row, he]
  · rw [List.getElem?_set_ne (fun e => hi e.symm)]
    by_cases h2 : i < 79
    · rw [g_at h2, g_at h2]
      simp [mu_row, hi]
    · simp [g_wl, h2]
theorem g_setN {G : Gl} {mu : Mu} {nu : Nu} {c : Nat} {e : va_E} {f : Nat → Int64} (h : c < 79) (he : g_sh G c (mu c) f = e) : (g_wl G mu nu).set c (G.1 c, e) = g_wl G mu (nu_row nu c f) := by
  apply List.ext_getElem?
  intro i
  by_cases hi : i = c
  · subst hi
    rw [List.getElem?_set_self (by simp [g_wl, h]), g_at h]
    simp [nu_row, he]
  · rw [List.getElem?_set_ne (fun e => hi e.symm)]
    by_cases h2 : i < 79
    · rw [g_at h2, g_at h2]
      simp [nu_row, hi]
    · simp [g_wl, h2]
def GA (G : Gl) (q : Nat) : Prop := ∃ c, c < 79 ∧ q = G.1 c
def g_dis (G : Gl) : Prop := ∀ i j, i < 79 → j < 79 → G.1 i = G.1 j → i = j
theorem g_lt {G : Gl} {mu : Mu} {nu : Nu} {i : Nat} {p : Nat × va_E} (h : (g_wl G mu nu)[i]? = some p) : i < 79 ∧ p.1 = G.1 i := by
  by_cases hi : i < 79
  · rw [g_at hi] at h
    cases h
    exact ⟨hi, rfl⟩
  · simp [g_wl, hi] at h
theorem g_D {G : Gl} (hd : g_dis G) (mu : Mu) (nu : Nu) : va_D (GA G) (g_wl G mu nu) := by
  refine ⟨fun i j p q hp hq e => ?_, fun k q hk => ?_⟩
  · obtain ⟨h1, h2⟩ := g_lt hp
    obtain ⟨h3, h4⟩ := g_lt hq
    exact hd i j h1 h3 (by rw [← h2, ← h4, e])
  · obtain ⟨h1, h2⟩ := g_lt hk
    exact ⟨k, h1, h2⟩
def t_let (j : Nat) : Int32 := if j = 0 then 114 else if j = 1 then 119 else if j = 2 then 116 else if j = 3 then 115 else if j = 4 then 98 else 100
def t_ten (j : Nat) : Nat := 10 ^ j
/-- the static arrays hold what they held -/
def g_S (G : Gl) (U : State) (H : Heap) : Prop := (va_Z RX10 "LETTERS" "[I" (.ref G.2.2.2.1) (GA G) U H ∧ va_T .int G.2.2.2.1 6 (fun j => .int (t_let j)) (GA G) U H) ∧ va_Z RX10 "TENS" "[I" (.ref G.2.2.2.2) (GA G) U H ∧ va_T .int G.2.2.2.2 8 (fun j => .int (nI (t_ten j))) (GA G) U H
theorem g_S.moved {G : Gl} {u U : State} {H : Heap} (hvm : u.vm.Alike U.vm) (h : g_S G u H) : g_S G U H := ⟨⟨h.1.1.moved hvm, h.1.2.moved hvm⟩, h.2.1.moved hvm, h.2.2.moved hvm⟩
theorem g_S.kept {G : Gl} {U : State} {H H1 : Heap} (h : g_S G U H) (hq : ∀ a : Nat, a < H.size → ¬ GA G a → H1[a]? = H[a]?) : g_S G U H1 := ⟨⟨h.1.1.kept hq, h.1.2.kept hq⟩, h.2.1.kept hq, h.2.2.kept hq⟩
def g_N (U : State) : Prop := (∀ w ∈ nwl, va_Nw w U) ∧ ∀ q ∈ ncl, va_Nc q.1 q.2 U
theorem g_N.warm {s U : State} (hW : s.WarmedH U.vm) (h : g_N s) : g_N U := ⟨fun w hw => nw_warm (List.mem_filter.mp hw).2 hW (h.1 w hw), fun q hq => (h.2 q hq).moved hW.alike⟩
theorem g_N.same {s U : State} (hv : s.vm = U.vm) (h : g_N s) : g_N U := ⟨fun w hw => va_Nw.same (by have := (List.mem_filter.mp hw).2; cases w <;> first | rfl | (simp [nw_kind] at this; done)) hv (h.1 w hw), fun q hq => (h.2 q hq).moved (hv ▸ Vm.Alike.refl s.vm)⟩
/-- a method: its name, its code, its locals, what it returns -/
abbrev Mr : Type := MethodName × ByteArray × Nat × Option FieldType
def g_Pc (G : Gl) (as : List Value) (mu : Mu) (nu : Nu) : Array Value → State → Prop := fun a U => a = as.toArray ∧ va_P G.2.1 vwCl (g_wl G mu nu) U.heap ∧ va_K G.2.1 vwCl (g_tys G) U ∧ g_S G U U.heap ∧ g_N U ∧ g_dis G
def g_Q (G : Gl) (post : Option Value → Mu → Nu → Prop) : Array Value → State → Outcome → State → Prop := fun _ st o t => (∃ v mu nu, o = .returned v ∧ post v mu nu ∧ va_P G.2.1 vwCl (g_wl G mu nu) t.heap) ∧ va_F (GA G) st t
def g_rm (fr : Nat) : Room := { frames := fr, cells := 0, slots := 0, locals := 64 * fr }
/-- A CONTRACT: called with these values over this memory the method returns, and then post holds of its answer and of the memory -/
def Ct (l : Launch) (G : Gl) (mm : Mr) (fr : Nat) (as : List Value) (mu : Mu) (nu : Nu) (post : Option Value → Mu → Nu → Prop) : Prop :=
  Met l mm.1 (Cond.code mm.1 mm.2.1 mm.2.2.1 mm.2.2.2 :: twl) (g_rm fr) (g_Pc G as mu nu) (g_Q G post) 0 0 (GA G)
theorem g_blind {G : Gl} {as : List Value} {mu : Mu} {nu : Nu} : FrameBlind (g_Pc G as mu nu) := by
  intro a U g mk h
  obtain ⟨h1, h2, h3, h4, h5, h6⟩ := h
  exact ⟨h1, h2, va_K.moved (u := U) (U := U.calling g mk a) (Vm.Alike.refl U.vm) h3, g_S.moved (u := U) (U := U.calling g mk a) (Vm.Alike.refl U.vm) h4, g_N.same (s := U) (U := U.calling g mk a) rfl h5, h6⟩
/-- the machine in a method: program, environment, room, start, method, arguments, frames below, method, code, cells and slots made -/
abbrev Bx : Type := Program × Env × Room × State × MethodId × Array Value × List Frame × Method × Code × Nat × Nat
/-- the machine at pc, over locals, stack, memory, comes to a state with Q -/
def Mq (l : Launch) (G : Gl) (nL : Nat) (X : Bx) (Q : State → Prop) (pc : Nat) (lv : List (Nat × Value)) (st : List Value) (mu : Mu) (nu : Nu) : Prop :=
  match X with
  | (p, e, R, s, m, args, below, meth, c, cells, slots) => ∀ (H : Heap) (locs : List Loc) (ls : Array Slot), va_P G.2.1 vwCl (g_wl G mu nu) H → va_S (GA G) s.heap H locs → lv_has ls nL lv → W p l e R s m args below meth c H locs cells slots Q (F0 m pc ls st)
def Cx (G : Gl) (nL : Nat) (X : Bx) (cc : ByteArray) (own : String) (ret : Option FieldType) (fr : Nat) : Prop :=
  match X with
  | (p, _, R, s, m, args, _, meth, c, cells, slots) => p.tables.exec = Jvm.exec ∧ c.code = cc ∧ c.maxLocals = nL ∧ s.vm.findClass own = some m.cls ∧ (∀ w ∈ twl, w.before args s = true) ∧ va_K G.2.1 vwCl (g_tys G) s ∧ g_S G s s.heap ∧ g_N s ∧ g_dis G ∧ meth.sig.returnType = ret ∧ meth.locks = false ∧ fr ≤ R.frames ∧ 64 * fr ≤ R.locals ∧ cells ≤ R.cells ∧ slots ≤ R.slots
def g_E (G : Gl) (X : Bx) (post : Option Value → Mu → Nu → Prop) : State → Prop :=
  match X with
  | (_, _, _, s, _, args, below, _, _, cells, slots) => MQ below (g_Q G post) args s cells slots (GA G)
theorem Ct.of {l : Launch} {G : Gl} {mm : Mr} {fr : Nat} {as : List Value} {mu : Mu} {nu : Nu} {post : Option Value → Mu → Nu → Prop} {own : String} {lv : List (Nat × Value)} (hy : plainName mm.1.cls = true) (ho : mm.1.cls = own) (hn : (lg_sl as).length ≤ mm.2.2.1) (hlv : lv_args 0 as = lv)
    (body : ∀ X : Bx, Cx G mm.2.2.1 X mm.2.1 own mm.2.2.2 fr → Mq l G mm.2.2.1 X (g_E G X post) 0 lv [] mu nu) : Ct l G mm fr as mu nu post := by
  subst hlv
  unfold Ct
  refine Met.ofW (cc := mm.2.1) (maxL := mm.2.2.1) (ret := mm.2.2.2) hy rfl ?_
  intro p e s m args below meth c s₁ B hml hv
  obtain ⟨rfl, hP, hK, hS, hN, hd⟩ := hv
  have hts := atoms_spec (ws := Cond.code mm.1 mm.2.1 mm.2.2.1 mm.2.2.2 :: twl) B.pre
  have hown : s.vm.findClass own = some m.cls := ho ▸ findClass_of_methodNamed B.named
  rw [lg_entry_eq]
  exact body (p, e, (headSpec (Cond.code mm.1 mm.2.1 mm.2.2.1 mm.2.2.2 :: twl) (g_rm fr)).room, s, m, as.toArray, below, meth, c, 0, 0) ⟨B.exec, B.bytes, hml, hown, fun w hw => hts w (List.mem_cons_of_mem _ hw), hK, hS, hN, hd, B.returns, B.notSynchronized, Nat.le_refl _, Nat.le_refl _, Nat.zero_le _, Nat.zero_le _⟩ s.heap [] _ hP va_S.rf (lv_entry as hn)
