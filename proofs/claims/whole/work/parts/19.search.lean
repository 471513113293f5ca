theorem rf_succ {β : Type} {g : β → Nat → β} {a : β} (i : Nat) : (List.range (i + 1)).foldl g a = g ((List.range i).foldl g a) i := by
  rw [List.range_succ, List.foldl_append]; rfl
theorem foldl_const {β : Type} {g : β → Nat → β} {a : β} : ∀ (l : List Nat), (∀ i ∈ l, g a i = a) → l.foldl g a = a
  | [], _ => rfl
  | i :: l, h => by
    rw [List.foldl_cons, h i List.mem_cons_self]
    exact foldl_const l (fun j hj => h j (List.mem_cons_of_mem _ hj))
def s_vl (sh : Nat → Nat) (P : List Nat) : Nat := P.foldl (fun r i => 10 * r + sh i) 0
theorem s_vl_app {sh : Nat → Nat} {P : List Nat} {i : Nat} : s_vl sh (P ++ [i]) = 10 * s_vl sh P + sh i := by
  unfold s_vl; rw [List.foldl_append]; rfl
def s_ds (g v : Nat) : Nat := (v - g) + (g - v)
def s_lg (goal left read : Nat) : Nat := max (read * 10 ^ left - goal) (goal - (read * 10 ^ left + 9 * (10 ^ left - 1)))
/-- the first of the nearest among all frames that go on from P by k rods -/
def s_ext (N : Nat) (f : List Nat → Nat) : Nat → List Nat → Nat × List Nat → Nat × List Nat
  | 0, P, a => if f P < a.1 then (f P, P) else a
  | k + 1, P, a => (List.range N).foldl (fun a i => if i ∈ P then a else s_ext N f k (P ++ [i]) a) a
def s_fd (goal : Nat) (sh : Nat → Nat) : List Nat → Nat := fun P => s_ds goal (s_vl sh P)
theorem s_lg_0 {goal v : Nat} : s_lg goal 0 v = s_ds goal v := by
  unfold s_lg s_ds
  simp
  omega
theorem s_lg_mono {goal k v s : Nat} (hs : s ≤ 81) : s_lg goal (k + 1) v ≤ s_lg goal k (10 * v + s) := by
  unfold s_lg
  have e : (10 : Nat) ^ (k + 1) = 10 * 10 ^ k := by rw [Nat.pow_succ, Nat.mul_comm]
  have h1 : 1 ≤ (10 : Nat) ^ k := Nat.one_le_pow _ _ (by decide)
  rw [e]
  generalize (10 : Nat) ^ k = t at h1
  have h2 : (10 * v + s) * t = v * (10 * t) + s * t := by rw [Nat.add_mul, Nat.mul_comm 10 v, Nat.mul_assoc]
  have h3 : s * t ≤ 81 * t := Nat.mul_le_mul_right _ hs
  rw [h2]
  generalize v * (10 * t) = w
  generalize s * t = u at h3
  omega
theorem s_ext_prune {N goal : Nat} {sh : Nat → Nat} (hsh : ∀ i, i < N → sh i ≤ 81) : ∀ (k : Nat) (P : List Nat) (a : Nat × List Nat), a.1 ≤ s_lg goal k (s_vl sh P) → s_ext N (s_fd goal sh) k P a = a
  | 0, P, a, h => by
    unfold s_ext
    rw [s_lg_0] at h
    exact if_neg (Nat.not_lt.mpr h)
  | k + 1, P, a, h => by
    unfold s_ext
    refine foldl_const _ (fun i hi => ?_)
    have hi := List.mem_range.mp hi
    by_cases hp : i ∈ P
    · exact if_pos hp
    · rw [if_neg hp]
      refine s_ext_prune hsh k (P ++ [i]) a (Nat.le_trans h ?_)
      rw [s_vl_app]
      exact s_lg_mono (hsh i hi)
theorem s_vl_le {N : Nat} {sh : Nat → Nat} (hsh : ∀ i, i < N → sh i ≤ 81) (P : List Nat) (hP : ∀ x ∈ P, x < N) : s_vl sh P + 9 ≤ 9 * 10 ^ P.length := by
  suffices h : ∀ (l : List Nat), (∀ x ∈ l, x < N) → s_vl sh l.reverse + 9 ≤ 9 * 10 ^ l.length by
    have := h P.reverse (fun x hx => hP x (List.mem_reverse.mp hx))
    simpa using this
  intro l
  induction l with
  | nil => intro _; exact Nat.le_refl _
  | cons i l ih =>
    intro hl
    have h1 := ih (fun x hx => hl x (List.mem_cons_of_mem _ hx))
    have h2 := hsh i (hl i List.mem_cons_self)
    rw [List.reverse_cons, s_vl_app, List.length_cons, Nat.pow_succ]
    omega
theorem s_bits_app {F : List Nat} {i : Nat} : s_bits (F ++ [i]) = s_bits F ||| 2 ^ i := by
  unfold s_bits; rw [List.foldl_append]; rfl
theorem s_bits_tb (F : List Nat) (i : Nat) : (s_bits F).testBit i = decide (i ∈ F) := by
  suffices h : ∀ (l : List Nat), (s_bits l.reverse).testBit i = decide (i ∈ l.reverse) by
    have := h F.reverse
    simpa using this
  intro l
  induction l with
  | nil => simp [s_bits]
  | cons j l ih =>
    rw [List.reverse_cons, s_bits_app, Nat.testBit_or, ih, Nat.testBit_two_pow]
    by_cases h1 : i ∈ l.reverse
    · simp [List.mem_reverse.mp h1]
    · by_cases h2 : j = i
      · simp [h2]
      · have h3 : ¬ i ∈ l := fun z => h1 (List.mem_reverse.mpr z)
        simp [h2, h3]
        exact fun z => h2 z.symm
theorem s_bits_mem {F : List Nat} {i : Nat} : s_bits F / 2 ^ i % 2 = 1 ↔ i ∈ F := by
  have h := s_bits_tb F i
  rw [Nat.testBit_eq_decide_div_mod_eq] at h
  exact decide_eq_decide.mp h
theorem s_bits_lt {F : List Nat} (hF : ∀ x ∈ F, x < 7) : s_bits F < 128 := by
  suffices h : ∀ (l : List Nat), (∀ x ∈ l, x < 7) → s_bits l.reverse < 2 ^ 7 by
    have := h F.reverse (fun x hx => hF x (List.mem_reverse.mp hx))
    simpa using this
  intro l
  induction l with
  | nil => intro _; simp [s_bits]
  | cons j l ih =>
    intro hl
    rw [List.reverse_cons, s_bits_app]
    exact Nat.or_lt_two_pow (ih (fun x hx => hl x (List.mem_cons_of_mem _ hx))) (Nat.pow_lt_pow_right (by decide) (hl j List.mem_cons_self))
theorem ii_max {x y : Int32} {a b : Int} (hx : x.toInt = a) (hy : y.toInt = b) : (if x < y then y else x).toInt = max a b := by
  by_cases h : x < y
  · have := (ii_lt hx hy).mp h
    rw [if_pos h, hy]; omega
  · have := mt (ii_lt hx hy).mpr h
    rw [if_neg h, hx]; omega
section
variable {l : Launch} {G : Gl} {nL : Nat} {X : Bx} {Q : State → Prop} {cc : ByteArray} {own : String} {ret : Option FieldType} {fr pc : Nat} {lv : List (Nat × Value)} {st : List Value} {mu : Mu} {nu : Nu}
theorem m_tenLen (C : Cx G nL X cc own ret fr) (d : decode cc pc = .ok (.arraylength, 1)) (kk : Mq l G nL X Q (pc + 1) lv (.int (nI 8) :: st) mu nu) : Mq l G nL X Q pc lv (.ref G.2.2.2.2 :: st) mu nu := by
  obtain ⟨p, e, R, s, m, args, below, meth, c, cells, slots⟩ := X
  obtain ⟨hx, hb, hml, ho, hts, hK, hGS, hGN, hd, hr, hlk, hfr, hlo, hce, hsl⟩ := C
  intro H locs ls hP hS hl
  exact va_tlen hx hb hGS.2.2 hS rfl d (kk H locs ls hP hS hl)
end
/-- what the search holds: how many rods, the goal, the length, what each shows -/
def z_se (m : Mu) (N L goal : Nat) (sh : Nat → Nat) : Prop := m 59 1 = nI N ∧ m 59 4 = nI goal ∧ m 59 5 = nI L ∧ ∀ i, i < N → m 60 i = nI (sh i)
def z_sb (m : Mu) (L : Nat) (a : Nat × List Nat) : Prop := m 59 6 = nI a.1 ∧ (a.2.length = L → ∀ p, p < L → m 62 p = nI (a.2.getD p 0))
def z_sf (mu m : Mu) : Prop := (∀ c, c ≠ 59 → c ≠ 61 → c ≠ 62 → m c = mu c) ∧ ∀ j, j ≠ 6 → m 59 j = mu 59 j
theorem z_sf.trans {a b c : Mu} (h1 : z_sf a b) (h2 : z_sf b c) : z_sf a c := ⟨fun q x y z => by rw [h2.1 q x y z, h1.1 q x y z], fun j h => by rw [h2.2 j h, h1.2 j h]⟩
theorem z_se.keep {mu m : Mu} {N L goal : Nat} {sh : Nat → Nat} (h : z_se mu N L goal sh) (hf : z_sf mu m) : z_se m N L goal sh := ⟨by rw [hf.2 1 (by decide), h.1], by rw [hf.2 4 (by decide), h.2.1], by rw [hf.2 5 (by decide), h.2.2.1], fun i hi => by rw [hf.1 60 (by decide) (by decide) (by decide), h.2.2.2 i hi]⟩
theorem vl_bd {k d L v : Nat} (hv : v + 9 ≤ 9 * 10 ^ d) (hk : d + k = L) (hL : L ≤ 7) : v * 10 ^ k + 9 * (10 ^ k - 1) ≤ 90000000 := by
  have h1 : 1 ≤ (10 : Nat) ^ k := Nat.one_le_pow _ _ (by decide)
  have h2 : (v + 9) * 10 ^ k ≤ 9 * 10 ^ d * 10 ^ k := Nat.mul_le_mul_right _ hv
  have h3 : 9 * 10 ^ d * 10 ^ k = 9 * 10 ^ L := by rw [Nat.mul_assoc, ← Nat.pow_add, hk]
  have h4 : (10 : Nat) ^ L ≤ 10 ^ 7 := Nat.pow_le_pow_right (by decide) hL
  have h5 : (v + 9) * 10 ^ k = v * 10 ^ k + 9 * 10 ^ k := Nat.add_mul _ _ _
  have h6 : (10 : Nat) ^ 7 = 10000000 := by decide
  omega
set_option maxHeartbeats 4000000 in
set_option maxRecDepth 100000 in
theorem c_X5_leastGap (l : Launch) (G : Gl) (mu : Mu) (nu : Nu) (goal left read : Nat) (hg : mu 59 4 = nI goal) (hg8 : goal ≤ 100000000) (hl7 : left ≤ 7) (hbd : read * 10 ^ left + 9 * (10 ^ left - 1) ≤ 90000000) : Cf l G mX5_leastGap 1 [.ref (G.1 59), .int (nI left), .int (nI read)] mu nu (.int (nI (s_lg goal left read))) := by
  have hp1 : 1 ≤ 10 ^ left := Nat.one_le_pow _ _ (by decide)
  refine Ct.of (lv := [(0, .ref (G.1 59)), (1, .int (nI left)), (2, .int (nI read))]) rfl rfl (Nat.le_of_ble_eq_true rfl) rfl (fun X C => ?_)
  generalize hQ : g_E G X _ = Q
  replace C : Cx G 6 X cX5_leastGap RX5 (some .int) 1 := C
  show Mq l G 6 X Q 0 [(0, .ref (G.1 59)), (1, .int (nI left)), (2, .int (nI read))] [] mu nu
  refine m_iload_n C 1 dX5_leastGap_0 rfl ?_
  refine m_if_lt C 20 dX5_leastGap_1 (by decide) (fun hh1 => ?_) (fun hh1 => ?_)
  · replace hh1 := (ii_lt (nn_i (a := left) rfl (by omega)) (nn_i (a := 0) rfl (by omega))).mp hh1
    exact absurd hh1 (by omega)
  replace hh1 := mt (ii_lt (nn_i (a := left) rfl (by omega)) (nn_i (a := 0) rfl (by omega))).mpr hh1
  refine m_iload_n C 1 dX5_leastGap_4 rfl ?_
  refine m_tens C wfX5_53 dX5_leastGap_5 ?_
  refine m_tenLen C dX5_leastGap_8 ?_
  refine m_icmp_ge C 20 dX5_leastGap_9 (by decide) (fun hh2 => ?_) (fun hh2 => ?_)
  · replace hh2 := (ii_le (nn_i (a := 8) rfl (by omega)) (nn_i (a := left) rfl (by omega))).mp hh2
    exact absurd hh2 (by omega)
  replace hh2 := mt (ii_le (nn_i (a := 8) rfl (by omega)) (nn_i (a := left) rfl (by omega))).mpr hh2
  refine m_tens C wfX5_53 dX5_leastGap_12 ?_
  refine m_iload_n C 1 dX5_leastGap_15 rfl ?_
  refine m_tenAt C left rfl (by omega) dX5_leastGap_16 ?_
  refine m_topi (nI (10 ^ left)) rfl ?_
  refine m_goto C 21 dX5_leastGap_17 (by decide) ?_
  refine m_istore_n C [(3, .int (nI (10 ^ left))), (0, .ref (G.1 59)), (1, .int (nI left)), (2, .int (nI read))] dX5_leastGap_21 (by decide) rfl ?_
  refine m_iload_n C 3 dX5_leastGap_22 rfl ?_
  refine m_iload_n C 0 dX5_leastGap_23 rfl ?_
  refine m_imul C dX5_leastGap_24 ?_
  refine m_topi (nI (read * (10 ^ left))) (nn_mul rfl rfl) ?_
  refine m_istore C [(4, .int (nI (read * (10 ^ left)))), (3, .int (nI (10 ^ left))), (0, .ref (G.1 59)), (1, .int (nI left)), (2, .int (nI read))] dX5_leastGap_25 (by decide) rfl ?_
  refine m_iload C 0 dX5_leastGap_27 rfl ?_
  refine m_bipush C 9 dX5_leastGap_29 (by decide +kernel) ?_
  refine m_iload_n C 1 dX5_leastGap_31 rfl ?_
  refine m_iconst C 1 dX5_leastGap_32 (by decide +kernel) ?_
  refine m_isub C dX5_leastGap_33 ?_
  refine m_topi (nI ((10 ^ left) - 1)) (nn_sub rfl rfl (hp1)) ?_
  refine m_imul C dX5_leastGap_34 ?_
  refine m_topi (nI (9 * ((10 ^ left) - 1))) (nn_mul rfl rfl) ?_
  refine m_iadd C dX5_leastGap_35 ?_
  refine m_topi (nI ((read * (10 ^ left)) + (9 * ((10 ^ left) - 1)))) (nn_add rfl rfl) ?_
  refine m_istore C [(5, .int (nI ((read * (10 ^ left)) + (9 * ((10 ^ left) - 1))))), (4, .int (nI (read * (10 ^ left)))), (3, .int (nI (10 ^ left))), (0, .ref (G.1 59)), (1, .int (nI left)), (2, .int (nI read))] dX5_leastGap_36 (by decide) rfl ?_
  refine m_iconst C 0 dX5_leastGap_38 (by decide +kernel) ?_
  refine m_iload C 1 dX5_leastGap_39 rfl ?_
  refine m_aload_n C 3 dX5_leastGap_41 rfl ?_
  refine gfX5_21 C dX5_leastGap_42 ?_
  refine m_topi (nI goal) hg ?_
  refine m_isub C dX5_leastGap_45 ?_
  refine m_aload_n C 3 dX5_leastGap_46 rfl ?_
  refine gfX5_21 C dX5_leastGap_47 ?_
  refine m_topi (nI goal) hg ?_
  refine m_iload C 0 dX5_leastGap_50 rfl ?_
  refine m_isub C dX5_leastGap_52 ?_
  refine m_max C wkX5_56 (by decide) (Nat.le_of_ble_eq_true rfl) dX5_leastGap_53 ?_
  refine m_max C wkX5_56 (by decide) (Nat.le_of_ble_eq_true rfl) dX5_leastGap_56 ?_
  refine m_topi (nI (s_lg goal left read)) (nn_ofN ((ii_max (nn_i (a := 0) rfl (by omega)) (ii_max (ii_sub (nn_i (a := read * 10 ^ left) rfl (by omega)) (nn_i (a := goal) rfl (by omega)) (by omega) (by omega)) (ii_sub (nn_i (a := goal) rfl (by omega)) (nn_i (a := read * 10 ^ left + 9 * (10 ^ left - 1)) rfl (by omega)) (by omega) (by omega)))).trans (by unfold s_lg; omega))) ?_
  refine m_iretf C hQ dX5_leastGap_59 rfl rfl ?_
  rfl

set_option maxHeartbeats 4000000 in
set_option maxRecDepth 100000 in
theorem c_X5_extend_0 (l : Launch) (G : Gl) (mu : Mu) (nu : Nu) (N L goal : Nat) (sh : Nat → Nat) (hN : N ≤ 7) (hL : L ≤ 7) (hg8 : goal ≤ 100000000) (hsh : ∀ i, i < N → sh i ≤ 81) (P : List Nat) (a : Nat × List Nat) (hP : ∀ x ∈ P, x < N) (hk : P.length + (0) = L) (hse : z_se mu N L goal sh) (hsb : z_sb mu L a) (ha : a.1 ≤ 1000000000) (hch : ∀ p, p < P.length → mu 61 p = nI (P.getD p 0)) : Cv l G mX5_extend 2 [.ref (G.1 59), .int (nI P.length), .int (nI (s_bits P)), .int (nI (s_vl sh P))] mu nu (fun m n2 => (z_sb m L (s_ext N (s_fd goal sh) (0) P a) ∧ (s_ext N (s_fd goal sh) (0) P a).1 ≤ 1000000000 ∧ z_sf mu m ∧ ∀ p, p < P.length → m 61 p = mu 61 p) ∧ n2 = nu) := by
  have hv := s_vl_le hsh P hP
  have hbd : s_vl sh P * 10 ^ (0) + 9 * (10 ^ (0) - 1) ≤ 90000000 := vl_bd hv hk hL
  have hb7 := s_bits_lt (F := P) (fun x hx => Nat.lt_of_lt_of_le (hP x hx) hN)
  have hlgb : s_lg goal (0) (s_vl sh P) ≤ 100000000 := by unfold s_lg; omega
  refine Ct.of (lv := [(0, .ref (G.1 59)), (1, .int (nI P.length)), (2, .int (nI (s_bits P))), (3, .int (nI (s_vl sh P)))]) rfl rfl (Nat.le_of_ble_eq_true rfl) rfl (fun X C => ?_)
  generalize hQ : g_E G X _ = Q
  replace C : Cx G 6 X cX5_extend RX5 none 2 := C
  show Mq l G 6 X Q 0 [(0, .ref (G.1 59)), (1, .int (nI P.length)), (2, .int (nI (s_bits P))), (3, .int (nI (s_vl sh P)))] [] mu nu
  refine m_aload_n C 0 dX5_extend_0 rfl ?_
  refine m_aload_n C 0 dX5_extend_1 rfl ?_
  refine gfX5_34 C dX5_extend_2 ?_
  refine m_topi (nI L) hse.2.2.1 ?_
  refine m_iload_n C 1 dX5_extend_5 rfl ?_
  refine m_isub C dX5_extend_6 ?_
  refine m_topi (nI (L - P.length)) (nn_sub rfl rfl (by omega)) ?_
  refine m_topi (nI 0) (congrArg nI (by omega)) ?_
  refine m_iload_n C 3 dX5_extend_7 rfl ?_
  refine m_callVf C 59 (by decide) rfl rfl (c_X5_leastGap l G mu nu goal (0) (s_vl sh P) hse.2.1 hg8 (by omega) hbd) wkX5_44 (by omega) rfl rfl (Nat.le_of_ble_eq_true rfl) dX5_extend_8 ?_
  refine m_istore C [(4, .int (nI (s_lg goal (0) (s_vl sh P)))), (0, .ref (G.1 59)), (1, .int (nI P.length)), (2, .int (nI (s_bits P))), (3, .int (nI (s_vl sh P)))] dX5_extend_11 (by decide) rfl ?_
  refine m_iload C 0 dX5_extend_13 rfl ?_
  refine m_aload_n C 1 dX5_extend_15 rfl ?_
  refine gfX5_37 C dX5_extend_16 ?_
  refine m_topi (nI a.1) hsb.1 ?_
  refine m_icmp_lt C 23 dX5_extend_19 (by decide) (fun hh1 => ?_) (fun hh1 => ?_)
  · replace hh1 := (ii_lt (nn_i (a := s_lg goal (0) (s_vl sh P)) rfl (by omega)) (nn_i (a := a.1) rfl (by omega))).mp hh1
    refine m_iload_n C 2 dX5_extend_23 rfl ?_
    refine m_aload_n C 1 dX5_extend_24 rfl ?_
    refine gfX5_34 C dX5_extend_25 ?_
    refine m_topi (nI L) hse.2.2.1 ?_
    refine m_icmp_lt C 53 dX5_extend_28 (by decide) (fun hh2 => ?_) (fun hh2 => ?_)
    · replace hh2 := (ii_lt (nn_i (a := P.length) rfl (by omega)) (nn_i (a := L) rfl (by omega))).mp hh2
      exact absurd hh2 (by omega)
    replace hh2 := mt (ii_lt (nn_i (a := P.length) rfl (by omega)) (nn_i (a := L) rfl (by omega))).mpr hh2
    refine m_aload_n C 1 dX5_extend_31 rfl ?_
    refine m_iload C 0 dX5_extend_32 rfl ?_
    refine pfX5_37 C dX5_extend_34 ?_
    refine m_nameM (fun mu3 emu3 => ?_)
    refine m_aload_n C 1 dX5_extend_37 rfl ?_
    refine gfX5_15 C dX5_extend_38 ?_
    refine m_iconst C 0 dX5_extend_41 (by decide +kernel) ?_
    refine m_aload_n C 1 dX5_extend_42 rfl ?_
    refine gfX5_18 C dX5_extend_43 ?_
    refine m_iconst C 0 dX5_extend_46 (by decide +kernel) ?_
    refine m_bipush C 7 dX5_extend_47 (by decide +kernel) ?_
    refine m_copy C 61 62 (by decide) (by decide) sa_61 sa_62 0 0 7 rfl rfl rfl (by omega) (by omega) (by decide) (by decide) wkX5_47 (by decide) (Nat.le_of_ble_eq_true rfl) dX5_extend_49 ?_
    refine m_nameM (fun mu4 emu4 => ?_)
    refine m_vretv C hQ dX5_extend_52 ?_
    have e : s_ext N (s_fd goal sh) 0 P a = (s_lg goal 0 (s_vl sh P), P) := by
      unfold s_ext s_fd; rw [← s_lg_0]; exact if_pos (by omega)
    have hPL : P.length = L := hk
    rw [e, emu4, emu3]
    refine ⟨⟨⟨by rw [mu_row_ne (by decide), mu_up_at], fun _ p hp => ?_⟩, by omega, ⟨fun c h1 h2 h3 => by rw [mu_row_ne h3, mu_up_ne h1], fun j hj => by rw [mu_row_ne (by decide), mu_up_an hj]⟩, fun p hp => by rw [mu_row_ne (by decide), mu_up_ne (by decide)]⟩, rfl⟩
    rw [mu_row_eq, cp_in (by omega), mu_up_ne (by decide), hch p (by omega)]
  replace hh1 := mt (ii_lt (nn_i (a := s_lg goal (0) (s_vl sh P)) rfl (by omega)) (nn_i (a := a.1) rfl (by omega))).mpr hh1
  refine m_vretv C hQ dX5_extend_22 ?_
  have e : s_ext N (s_fd goal sh) (0) P a = a := s_ext_prune hsh _ P a (by omega)
  rw [e]; exact ⟨⟨hsb, ha, ⟨fun _ _ _ _ => rfl, fun _ _ => rfl⟩, fun _ _ => rfl⟩, rfl⟩

set_option maxHeartbeats 4000000 in
set_option maxRecDepth 100000 in
theorem c_X5_extend_s (l : Launch) (G : Gl) (mu : Mu) (nu : Nu) (N L goal : Nat) (sh : Nat → Nat) (hN : N ≤ 7) (hL : L ≤ 7) (hg8 : goal ≤ 100000000) (hsh : ∀ i, i < N → sh i ≤ 81) (k : Nat) (P : List Nat) (a : Nat × List Nat) (hP : ∀ x ∈ P, x < N) (hk : P.length + (k + 1) = L) (hse : z_se mu N L goal sh) (hsb : z_sb mu L a) (ha : a.1 ≤ 1000000000) (hch : ∀ p, p < P.length → mu 61 p = nI (P.getD p 0)) (ih : ∀ (mu : Mu) (nu : Nu) (P : List Nat) (a : Nat × List Nat), (∀ x ∈ P, x < N) → P.length + k = L → z_se mu N L goal sh → z_sb mu L a → a.1 ≤ 1000000000 → (∀ p, p < P.length → mu 61 p = nI (P.getD p 0)) → Cv l G mX5_extend (k + 2) [.ref (G.1 59), .int (nI P.length), .int (nI (s_bits P)), .int (nI (s_vl sh P))] mu nu (fun m n2 => (z_sb m L (s_ext N (s_fd goal sh) k P a) ∧ (s_ext N (s_fd goal sh) k P a).1 ≤ 1000000000 ∧ z_sf mu m ∧ ∀ p, p < P.length → m 61 p = mu 61 p) ∧ n2 = nu)) : Cv l G mX5_extend (k + 1 + 2) [.ref (G.1 59), .int (nI P.length), .int (nI (s_bits P)), .int (nI (s_vl sh P))] mu nu (fun m n2 => (z_sb m L (s_ext N (s_fd goal sh) (k + 1) P a) ∧ (s_ext N (s_fd goal sh) (k + 1) P a).1 ≤ 1000000000 ∧ z_sf mu m ∧ ∀ p, p < P.length → m 61 p = mu 61 p) ∧ n2 = nu) := by
  have hv := s_vl_le hsh P hP
  have hbd : s_vl sh P * 10 ^ (k + 1) + 9 * (10 ^ (k + 1) - 1) ≤ 90000000 := vl_bd hv hk hL
  have hb7 := s_bits_lt (F := P) (fun x hx => Nat.lt_of_lt_of_le (hP x hx) hN)
  have hlgb : s_lg goal (k + 1) (s_vl sh P) ≤ 100000000 := by unfold s_lg; omega
  refine Ct.of (lv := [(0, .ref (G.1 59)), (1, .int (nI P.length)), (2, .int (nI (s_bits P))), (3, .int (nI (s_vl sh P)))]) rfl rfl (Nat.le_of_ble_eq_true rfl) rfl (fun X C => ?_)
  generalize hQ : g_E G X _ = Q
  replace C : Cx G 6 X cX5_extend RX5 none (k + 1 + 2) := C
  show Mq l G 6 X Q 0 [(0, .ref (G.1 59)), (1, .int (nI P.length)), (2, .int (nI (s_bits P))), (3, .int (nI (s_vl sh P)))] [] mu nu
  refine m_aload_n C 0 dX5_extend_0 rfl ?_
  refine m_aload_n C 0 dX5_extend_1 rfl ?_
  refine gfX5_34 C dX5_extend_2 ?_
  refine m_topi (nI L) hse.2.2.1 ?_
  refine m_iload_n C 1 dX5_extend_5 rfl ?_
  refine m_isub C dX5_extend_6 ?_
  refine m_topi (nI (L - P.length)) (nn_sub rfl rfl (by omega)) ?_
  refine m_topi (nI (k + 1)) (congrArg nI (by omega)) ?_
  refine m_iload_n C 3 dX5_extend_7 rfl ?_
  refine m_callVf C 59 (by decide) rfl rfl (c_X5_leastGap l G mu nu goal (k + 1) (s_vl sh P) hse.2.1 hg8 (by omega) hbd) wkX5_44 (by omega) rfl rfl (Nat.le_of_ble_eq_true rfl) dX5_extend_8 ?_
  refine m_istore C [(4, .int (nI (s_lg goal (k + 1) (s_vl sh P)))), (0, .ref (G.1 59)), (1, .int (nI P.length)), (2, .int (nI (s_bits P))), (3, .int (nI (s_vl sh P)))] dX5_extend_11 (by decide) rfl ?_
  refine m_iload C 0 dX5_extend_13 rfl ?_
  refine m_aload_n C 1 dX5_extend_15 rfl ?_
  refine gfX5_37 C dX5_extend_16 ?_
  refine m_topi (nI a.1) hsb.1 ?_
  refine m_icmp_lt C 23 dX5_extend_19 (by decide) (fun hh1 => ?_) (fun hh1 => ?_)
  · replace hh1 := (ii_lt (nn_i (a := s_lg goal (k + 1) (s_vl sh P)) rfl (by omega)) (nn_i (a := a.1) rfl (by omega))).mp hh1
    refine m_iload_n C 2 dX5_extend_23 rfl ?_
    refine m_aload_n C 1 dX5_extend_24 rfl ?_
    refine gfX5_34 C dX5_extend_25 ?_
    refine m_topi (nI L) hse.2.2.1 ?_
    refine m_icmp_lt C 53 dX5_extend_28 (by decide) (fun hh2 => ?_) (fun hh2 => ?_)
    · replace hh2 := (ii_lt (nn_i (a := P.length) rfl (by omega)) (nn_i (a := L) rfl (by omega))).mp hh2
      refine m_iconst C 0 dX5_extend_53 (by decide +kernel) ?_
      refine m_istore C [(5, .int 0), (4, .int (nI (s_lg goal (k + 1) (s_vl sh P)))), (0, .ref (G.1 59)), (1, .int (nI P.length)), (2, .int (nI (s_bits P))), (3, .int (nI (s_vl sh P)))] dX5_extend_54 (by decide) rfl ?_
      have L56 : ∀ (fu : Nat) (i : Nat) (m : Mu) (hi : i ≤ N) (hme : z_se m N L goal sh) (hmb : z_sb m L ((List.range i).foldl (fun a i => if i ∈ P then a else s_ext N (s_fd goal sh) k (P ++ [i]) a) a)) (hal : ((List.range i).foldl (fun a i => if i ∈ P then a else s_ext N (s_fd goal sh) k (P ++ [i]) a) a).1 ≤ 1000000000) (hmf : z_sf mu m) (hmc : ∀ p, p < P.length → m 61 p = mu 61 p), N - i < fu → Mq l G 6 X Q 56 [(0, .ref (G.1 59)), (1, .int (nI P.length)), (2, .int (nI (s_bits P))), (3, .int (nI (s_vl sh P))), (5, .int (nI i))] [] m nu := by
        intro fu
        induction fu with
        | zero => intro i m hi hme hmb hal hmf hmc hm; exact absurd hm (Nat.not_lt_zero _)
        | succ fu ih56 =>
          intro i m hi hme hmb hal hmf hmc hm
          have hdv := Nat.div_le_self (s_bits P) (2 ^ i)
          refine m_iload C 4 dX5_extend_56 rfl ?_
          refine m_aload_n C 0 dX5_extend_58 rfl ?_
          refine gfX5_25 C dX5_extend_59 ?_
          refine m_topi (nI N) hme.1 ?_
          refine m_icmp_ge C 113 dX5_extend_62 (by decide) (fun hh3 => ?_) (fun hh3 => ?_)
          · replace hh3 := (ii_le (nn_i (a := N) rfl (by omega)) (nn_i (a := i) rfl (by omega))).mp hh3
            refine m_vretv C hQ dX5_extend_113 ?_
            have e : i = N := by omega
            subst e; exact ⟨⟨hmb, hal, hmf, hmc⟩, rfl⟩
          replace hh3 := mt (ii_le (nn_i (a := N) rfl (by omega)) (nn_i (a := i) rfl (by omega))).mpr hh3
          refine m_iload_n C 2 dX5_extend_65 rfl ?_
          refine m_iload C 4 dX5_extend_66 rfl ?_
          refine m_ishr C dX5_extend_68 ?_
          refine m_topi (nI ((s_bits P) / 2 ^ i)) (nn_shr rfl rfl (by omega) (by omega)) ?_
          refine m_iconst C 1 dX5_extend_69 (by decide +kernel) ?_
          refine m_iand C dX5_extend_70 ?_
          refine m_topi (nI (((s_bits P) / 2 ^ i) % 2)) (nn_and1 rfl (by omega)) ?_
          refine m_if_ne C 107 dX5_extend_71 (by decide) (fun hh4 => ?_) (fun hh4 => ?_)
          · replace hh4 := mt (ii_eq (nn_i (a := ((s_bits P) / 2 ^ i) % 2) rfl (by omega)) (nn_i (a := 0) rfl (by omega))).mpr hh4
            refine m_iinc C 4 (nI (i + 1)) [(5, .int (nI (i + 1))), (0, .ref (G.1 59)), (1, .int (nI P.length)), (2, .int (nI (s_bits P))), (3, .int (nI (s_vl sh P)))] dX5_extend_107 rfl (nn_add rfl (show Int32.ofInt 1 = nI 1 from rfl)) (by decide) rfl ?_
            refine m_goto C 56 dX5_extend_110 (by decide) ?_
            exact m_sub [1, 2, 3, 4, 0] rfl (ih56 (i + 1) m (by omega) hme (by rw [rf_succ, if_pos (s_bits_mem.mp (by omega))]; exact hmb) (by rw [rf_succ, if_pos (s_bits_mem.mp (by omega))]; exact hal) hmf hmc (by omega))
          replace hh4 := (ii_eq (nn_i (a := ((s_bits P) / 2 ^ i) % 2) rfl (by omega)) (nn_i (a := 0) rfl (by omega))).mp hh4
          refine m_aload_n C 0 dX5_extend_74 rfl ?_
          refine gfX5_15 C dX5_extend_75 ?_
          refine m_iload_n C 1 dX5_extend_78 rfl ?_
          refine m_iload C 4 dX5_extend_79 rfl ?_
          refine m_iast C 61 (by decide) sa_61 P.length rfl (by omega) (by decide) dX5_extend_81 ?_
          refine m_nameM (fun mu5 emu5 => ?_)
          have hip : ¬ i ∈ P := fun z => absurd (s_bits_mem.mpr z) (by omega)
          have hP2 : ∀ x ∈ P ++ [i], x < N := fun x hx => by
            rcases List.mem_append.mp hx with h | h
            · exact hP x h
            · rw [List.mem_singleton.mp h]; omega
          have hme2 : z_se mu5 N L goal sh := hme.keep ⟨fun c h1 h2 h3 => by rw [emu5, mu_up_ne h2], fun j hj => by rw [emu5, mu_up_ne (by decide)]⟩
          have hsb2 : z_sb mu5 L ((List.range i).foldl (fun a i => if i ∈ P then a else s_ext N (s_fd goal sh) k (P ++ [i]) a) a) := ⟨by rw [emu5, mu_up_ne (by decide)]; exact hmb.1, fun h p hp => by rw [emu5, mu_up_ne (by decide)]; exact hmb.2 h p hp⟩
          have hch2 : ∀ p, p < (P ++ [i]).length → mu5 61 p = nI ((P ++ [i]).getD p 0) := fun p hp => by
            simp only [List.length_append, List.length_cons, List.length_nil] at hp
            by_cases e : p = P.length
            · rw [emu5, e, mu_up_at, gd_eq]
            · rw [emu5, mu_up_an e, hmc p (by omega), hch p (by omega), gd_lt (by omega)]
          refine m_aload_n C 0 dX5_extend_82 rfl ?_
          refine m_iload_n C 1 dX5_extend_83 rfl ?_
          refine m_iconst C 1 dX5_extend_84 (by decide +kernel) ?_
          refine m_iadd C dX5_extend_85 ?_
          refine m_topi (nI (P.length + 1)) (nn_add rfl rfl) ?_
          refine m_topi (nI ((P ++ [i]).length)) (congrArg nI (by simp)) ?_
          refine m_iload_n C 2 dX5_extend_86 rfl ?_
          refine m_iconst C 1 dX5_extend_87 (by decide +kernel) ?_
          refine m_iload C 4 dX5_extend_88 rfl ?_
          refine m_ishl C dX5_extend_90 ?_
          refine m_topi (nI (2 ^ i)) (nn_shl1 rfl (by omega)) ?_
          refine m_ior C dX5_extend_91 ?_
          refine m_topi (nI ((s_bits P) ||| (2 ^ i))) (nn_or rfl rfl) ?_
          refine m_topi (nI (s_bits (P ++ [i]))) (congrArg nI s_bits_app.symm) ?_
          refine m_bipush C 10 dX5_extend_92 (by decide +kernel) ?_
          refine m_iload_n C 3 dX5_extend_94 rfl ?_
          refine m_imul C dX5_extend_95 ?_
          refine m_topi (nI (10 * (s_vl sh P))) (nn_mul rfl rfl) ?_
          refine m_aload_n C 0 dX5_extend_96 rfl ?_
          refine gfX5_9 C dX5_extend_97 ?_
          refine m_iload C 4 dX5_extend_100 rfl ?_
          refine m_iald C 60 (by decide) sa_60 i rfl (by omega) (by decide) dX5_extend_102 ?_
          refine m_topi (nI (sh i)) (by rw [emu5, mu_up_ne (by decide), hme.2.2.2 i (by omega)]) ?_
          refine m_iadd C dX5_extend_103 ?_
          refine m_topi (nI ((10 * (s_vl sh P)) + (sh i))) (nn_add rfl rfl) ?_
          refine m_topi (nI (s_vl sh (P ++ [i]))) (congrArg nI s_vl_app.symm) ?_
          refine m_callVv C 59 (by decide) rfl rfl (ih mu5 nu (P ++ [i]) ((List.range i).foldl (fun a i => if i ∈ P then a else s_ext N (s_fd goal sh) k (P ++ [i]) a) a) hP2 (by simp; omega) hme2 hsb2 hal hch2) wkX5_40 (by omega) rfl rfl (Nat.le_of_ble_eq_true rfl) dX5_extend_104 (fun m6 n6 hp6 => ?_)
          have hn6 := hp6.2
          refine m_mem (mu2 := m6) (nu2 := nu) rfl hp6.2 ?_
          refine m_iinc C 4 (nI (i + 1)) [(5, .int (nI (i + 1))), (0, .ref (G.1 59)), (1, .int (nI P.length)), (2, .int (nI (s_bits P))), (3, .int (nI (s_vl sh P)))] dX5_extend_107 rfl (nn_add rfl (show Int32.ofInt 1 = nI 1 from rfl)) (by decide) rfl ?_
          refine m_goto C 56 dX5_extend_110 (by decide) ?_
          exact m_sub [1, 2, 3, 4, 0] rfl (ih56 (i + 1) m6 (by omega) (hme2.keep hp6.1.2.2.1) (by rw [rf_succ, if_neg hip]; exact hp6.1.1) (by rw [rf_succ, if_neg hip]; exact hp6.1.2.1) ((hmf.trans ⟨fun c h1 h2 h3 => by rw [emu5, mu_up_ne h2], fun j hj => by rw [emu5, mu_up_ne (by decide)]⟩).trans hp6.1.2.2.1) (fun p hp => by rw [hp6.1.2.2.2 p (by simp; omega), emu5, mu_up_an (by omega), hmc p hp]) (by omega))
      exact m_sub [2, 3, 4, 5, 0] rfl (L56 (_ + 1) 0 mu (Nat.zero_le _) hse hsb ha (⟨fun _ _ _ _ => rfl, fun _ _ => rfl⟩) (fun _ _ => rfl) (Nat.lt_succ_self _))
    replace hh2 := mt (ii_lt (nn_i (a := P.length) rfl (by omega)) (nn_i (a := L) rfl (by omega))).mpr hh2
    exact absurd hh2 (by omega)
  replace hh1 := mt (ii_lt (nn_i (a := s_lg goal (k + 1) (s_vl sh P)) rfl (by omega)) (nn_i (a := a.1) rfl (by omega))).mpr hh1
  refine m_vretv C hQ dX5_extend_22 ?_
  have e : s_ext N (s_fd goal sh) (k + 1) P a = a := s_ext_prune hsh _ P a (by omega)
  rw [e]; exact ⟨⟨hsb, ha, ⟨fun _ _ _ _ => rfl, fun _ _ => rfl⟩, fun _ _ => rfl⟩, rfl⟩

theorem c_X5_extend (l : Launch) (G : Gl) (N L goal : Nat) (sh : Nat → Nat) (hN : N ≤ 7) (hL : L ≤ 7) (hg8 : goal ≤ 100000000) (hsh : ∀ i, i < N → sh i ≤ 81) : ∀ (k : Nat) (mu : Mu) (nu : Nu) (P : List Nat) (a : Nat × List Nat), (∀ x ∈ P, x < N) → P.length + k = L → z_se mu N L goal sh → z_sb mu L a → a.1 ≤ 1000000000 → (∀ p, p < P.length → mu 61 p = nI (P.getD p 0)) → Cv l G mX5_extend (k + 2) [.ref (G.1 59), .int (nI P.length), .int (nI (s_bits P)), .int (nI (s_vl sh P))] mu nu (fun m n2 => (z_sb m L (s_ext N (s_fd goal sh) k P a) ∧ (s_ext N (s_fd goal sh) k P a).1 ≤ 1000000000 ∧ z_sf mu m ∧ ∀ p, p < P.length → m 61 p = mu 61 p) ∧ n2 = nu)
  | 0 => fun mu nu P a h1 h2 h3 h4 h5 h6 => c_X5_extend_0 l G mu nu N L goal sh hN hL hg8 hsh P a h1 h2 h3 h4 h5 h6
  | k + 1 => fun mu nu P a h1 h2 h3 h4 h5 h6 => c_X5_extend_s l G mu nu N L goal sh hN hL hg8 hsh k P a h1 h2 h3 h4 h5 h6 (c_X5_extend l G N L goal sh hN hL hg8 hsh k)
