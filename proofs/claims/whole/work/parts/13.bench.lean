theorem gd_lt {F : List Nat} {a p : Nat} (h : p < F.length) : (F ++ [a]).getD p 0 = F.getD p 0 := by
  simp [List.getD, List.getElem?_append_left h]
theorem gd_eq {F : List Nat} {a : Nat} : (F ++ [a]).getD F.length 0 = a := by simp [List.getD]
theorem gd_drop {F : List Nat} {p : Nat} (h : p < F.length - 1) : F.dropLast.getD p 0 = F.getD p 0 := by
  rw [List.dropLast_eq_take]
  simp [List.getD, List.getElem?_take_of_lt h]
theorem gd_set {F : List Nat} {i x p : Nat} (h : i < F.length) : (F.set i x).getD p 0 = if p = i then x else F.getD p 0 := by
  by_cases e : p = i
  · subst e
    simp [List.getD, h]
  · rw [if_neg e]
    simp [List.getD, List.getElem?_set_ne (fun z => e z.symm)]
theorem ft_succ {β : Type} {F : List Nat} {g : β → Nat → β} {a : β} {p : Nat} (h : p < F.length) : (F.take (p + 1)).foldl g a = g ((F.take p).foldl g a) (F.getD p 0) := by
  rw [List.take_add_one, List.foldl_append]
  simp [List.getD, List.getElem?_eq_getElem h]
theorem gd_mem {F : List Nat} {p : Nat} (h : p < F.length) : F.getD p 0 ∈ F := by
  simp [List.getD, List.getElem?_eq_getElem h]
theorem mem_gd {F : List Nat} {i : Nat} (h : i ∈ F) : ∃ p, p < F.length ∧ F.getD p 0 = i := by
  obtain ⟨p, hp, e⟩ := List.getElem_of_mem h
  exact ⟨p, hp, by simp [List.getD, List.getElem?_eq_getElem hp, e]⟩
/-- the place of a rod in the frame, or NONE -/
def s_pl (F : List Nat) (i : Nat) : Int32 := if i ∈ F then nI (F.idxOf i) else -9
theorem s_pl_at {F : List Nat} {i p : Nat} (h : p < F.length) (e : F.getD p 0 = i) (hq : ∀ q, q < p → F.getD q 0 ≠ i) : nI p = s_pl F i := by
  unfold s_pl
  have hm : i ∈ F := by rw [← e]; exact gd_mem h
  rw [if_pos hm]
  congr 1
  have hl : F.idxOf i < F.length := List.idxOf_lt_length_of_mem hm
  have hg : F.getD (F.idxOf i) 0 = i := by simp [List.getD, List.getElem?_eq_getElem hl]
  rcases Nat.lt_trichotomy p (F.idxOf i) with h1 | h1 | h1
  · exfalso
    have := List.not_of_lt_findIdx (p := fun x => x == i) (xs := F) (by simpa [List.idxOf] using h1)
    simp [List.getD, List.getElem?_eq_getElem h] at e
    simp [e] at this
  · exact h1
  · exact absurd hg (hq _ h1)
theorem s_pl_no {F : List Nat} {i : Nat} (hq : ∀ q, q < F.length → F.getD q 0 ≠ i) : (-9 : Int32) = s_pl F i := by
  unfold s_pl
  rw [if_neg]
  intro h
  obtain ⟨p, h1, h2⟩ := mem_gd h
  exact hq p h1 h2
def s_bits (F : List Nat) : Nat := F.foldl (fun b i => b ||| 2 ^ i) 0
def s_swap (F : List Nat) (a b : Nat) : List Nat := (F.set a (F.getD b 0)).set b (F.getD a 0)
/-- the frame and which are over, in the bench at the cell b -/
def z_bs (mu : Mu) (b : Nat) (F : List Nat) (ov : Nat) : Prop := mu b 1 = nI F.length ∧ F.length ≤ 7 ∧ (∀ p, p < F.length → mu (b + 1) p = nI (F.getD p 0)) ∧ mu b 2 = nI ov ∧ ov < 128 ∧ ∀ p, p < F.length → F.getD p 0 < 7
def s_fw (dc a b : Nat) (S : List Nat × Nat) : List Nat × Nat := if dc = 1 then (S.1 ++ [a], S.2) else if dc = 2 then (S.1.dropLast, S.2) else if dc = 3 then (s_swap S.1 a b, S.2) else if dc = 4 then (S.1, S.2 ^^^ 2 ^ a) else S
def s_ok (dc a b : Nat) (S : List Nat × Nat) : Prop := dc ≤ 4 ∧ a < 7 ∧ b < 7 ∧ (dc = 1 → S.1.length < 7) ∧ (dc = 2 → 0 < S.1.length) ∧ (dc = 3 → a < S.1.length ∧ b < S.1.length)
def z_pf (mu m : Mu) (b : Nat) (S : List Nat × Nat) : Prop := z_bs m b S.1 S.2 ∧ (∀ c, c ≠ b → c ≠ b + 1 → m c = mu c) ∧ ∀ j, j ≠ 1 → j ≠ 2 → m b j = mu b j
theorem bs_lay {mu : Mu} {b a : Nat} {F : List Nat} {ov : Nat} (h : z_bs mu b F ov) (hl : F.length < 7) (ha : a < 7) : z_pf mu (mu_up (mu_up mu (b + 1) F.length (nI a)) b 1 (nI (F.length + 1))) b (F ++ [a], ov) := by
  obtain ⟨h1, h2, h3, h4, h5, h6⟩ := h
  refine ⟨⟨by rw [mu_up_at]; simp, by simp; omega, fun p hp => ?_, by rw [mu_up_an (by omega), mu_up_ne (by omega), h4], h5, fun p hp => ?_⟩, fun c hc hc2 => by rw [mu_up_ne hc, mu_up_ne hc2], fun j hj hj2 => by rw [mu_up_an hj, mu_up_ne (by omega)]⟩
  · simp only [List.length_append, List.length_cons, List.length_nil] at hp
    rw [mu_up_ne (by omega)]
    by_cases e : p = F.length
    · rw [e, mu_up_at, gd_eq]
    · rw [mu_up_an e, h3 p (by omega), gd_lt (by omega)]
  · simp only [List.length_append, List.length_cons, List.length_nil] at hp
    by_cases e : p = F.length
    · rw [e, gd_eq]; exact ha
    · rw [gd_lt (by omega)]; exact h6 p (by omega)
theorem bs_lift {mu : Mu} {b : Nat} {F : List Nat} {ov : Nat} (h : z_bs mu b F ov) (hl : 0 < F.length) : z_pf mu (mu_up mu b 1 (nI (F.length - 1))) b (F.dropLast, ov) := by
  obtain ⟨h1, h2, h3, h4, h5, h6⟩ := h
  refine ⟨⟨by rw [mu_up_at]; simp, by simp; omega, fun p hp => ?_, by rw [mu_up_an (by omega), h4], h5, fun p hp => ?_⟩, fun c hc hc2 => by rw [mu_up_ne hc], fun j hj hj2 => by rw [mu_up_an hj]⟩
  · simp only [List.length_dropLast] at hp
    rw [mu_up_ne (by omega), h3 p (by omega), gd_drop hp]
  · simp only [List.length_dropLast] at hp
    rw [gd_drop hp]; exact h6 p (by omega)
theorem s_swap_len {F : List Nat} {x y : Nat} : (s_swap F x y).length = F.length := by simp [s_swap]
theorem s_swap_gd {F : List Nat} {x y p : Nat} (hx : x < F.length) (hy : y < F.length) : (s_swap F x y).getD p 0 = if p = y then F.getD x 0 else if p = x then F.getD y 0 else F.getD p 0 := by
  unfold s_swap
  rw [gd_set (by simpa using hy), gd_set hx]
theorem bs_swap {mu : Mu} {b x y : Nat} {F : List Nat} {ov : Nat} (h : z_bs mu b F ov) (hx : x < F.length) (hy : y < F.length) : z_pf mu (mu_up (mu_up mu (b + 1) x (nI (F.getD y 0))) (b + 1) y (nI (F.getD x 0))) b (s_swap F x y, ov) := by
  obtain ⟨h1, h2, h3, h4, h5, h6⟩ := h
  refine ⟨⟨by rw [mu_up_ne (by omega), mu_up_ne (by omega), h1]; show _ = nI (s_swap F x y).length; rw [s_swap_len], by show (s_swap F x y).length ≤ 7; rw [s_swap_len]; exact h2, fun p hp => ?_, by rw [mu_up_ne (by omega), mu_up_ne (by omega), h4], h5, fun p hp => ?_⟩, fun c hc hc2 => by rw [mu_up_ne hc2, mu_up_ne hc2], fun j hj hj2 => by rw [mu_up_ne (by omega), mu_up_ne (by omega)]⟩
  · have hp : p < F.length := by rw [← s_swap_len (x := x) (y := y)]; exact hp
    show _ = nI ((s_swap F x y).getD p 0)
    rw [s_swap_gd hx hy]
    by_cases e1 : p = y
    · rw [if_pos e1, e1, mu_up_at]
    · rw [if_neg e1, mu_up_an e1]
      by_cases e2 : p = x
      · rw [if_pos e2, e2, mu_up_at]
      · rw [if_neg e2, mu_up_an e2, h3 p hp]
  · have hp : p < F.length := by rw [← s_swap_len (x := x) (y := y)]; exact hp
    show (s_swap F x y).getD p 0 < 7
    rw [s_swap_gd hx hy]
    split
    · exact h6 x hx
    · split
      · exact h6 y hy
      · exact h6 p hp
theorem bs_turn {mu : Mu} {b a : Nat} {F : List Nat} {ov : Nat} (h : z_bs mu b F ov) (ha : a < 7) : z_pf mu (mu_up mu b 2 (nI (ov ^^^ 2 ^ a))) b (F, ov ^^^ 2 ^ a) := by
  obtain ⟨h1, h2, h3, h4, h5, h6⟩ := h
  refine ⟨⟨by rw [mu_up_an (by omega), h1], h2, fun p hp => by rw [mu_up_ne (by omega), h3 p hp], mu_up_at, ?_, h6⟩, fun c hc hc2 => by rw [mu_up_ne hc], fun j hj hj2 => by rw [mu_up_an hj2]⟩
  exact Nat.xor_lt_two_pow (n := 7) h5 (Nat.lt_of_lt_of_le (Nat.pow_lt_pow_right (by decide) ha) (by decide))
theorem bs_same {mu : Mu} {b : Nat} {F : List Nat} {ov : Nat} (h : z_bs mu b F ov) : z_pf mu mu b (F, ov) := ⟨h, fun _ _ _ => rfl, fun _ _ _ => rfl⟩
set_option maxHeartbeats 4000000 in
set_option maxRecDepth 100000 in
theorem c_X0_isFull (l : Launch) (G : Gl) (mu : Mu) (nu : Nu) (b : Nat) (hb : bnc b) (dn : Nat) (hdn : mu b 6 = nI dn) (hd40 : dn ≤ 40) : Cf l G mX0_isFull 1 [.ref (G.1 b)] mu nu (.int (bI (40 ≤ dn))) := by
  refine Ct.of (lv := [(0, .ref (G.1 b))]) rfl rfl (Nat.le_of_ble_eq_true rfl) rfl (fun X C => ?_)
  generalize hQ : g_E G X _ = Q
  replace C : Cx G 1 X cX0_isFull RX0 (some .boolean) 1 := C
  show Mq l G 1 X Q 0 [(0, .ref (G.1 b))] [] mu nu
  refine m_aload_n C 0 dX0_isFull_0 rfl ?_
  refine gfX0_31 C b hb dX0_isFull_1 ?_
  refine m_topi (nI dn) hdn ?_
  refine m_bipush C 40 dX0_isFull_4 (by decide +kernel) ?_
  refine m_icmp_lt C 13 dX0_isFull_6 (by decide) (fun hh1 => ?_) (fun hh1 => ?_)
  · replace hh1 := (ii_lt (nn_i (a := dn) rfl (by omega)) (nn_i (a := 40) rfl (by omega))).mp hh1
    refine m_iconst C 0 dX0_isFull_13 (by decide +kernel) ?_
    refine m_zretf C hQ dX0_isFull_14 rfl rfl rfl ?_
    exact bI_f (by omega)
  replace hh1 := mt (ii_lt (nn_i (a := dn) rfl (by omega)) (nn_i (a := 40) rfl (by omega))).mpr hh1
  refine m_iconst C 1 dX0_isFull_9 (by decide +kernel) ?_
  refine m_goto C 14 dX0_isFull_10 (by decide) ?_
  refine m_zretf C hQ dX0_isFull_14 rfl rfl rfl ?_
  exact bI_t (by omega)

set_option maxHeartbeats 4000000 in
set_option maxRecDepth 100000 in
theorem c_X0_isOver (l : Launch) (G : Gl) (mu : Mu) (nu : Nu) (b : Nat) (hb : bnc b) (ov i : Nat) (hov : mu b 2 = nI ov) (ho8 : ov < 128) (hi : i < 7) : Cf l G mX0_isOver 1 [.ref (G.1 b), .int (nI i)] mu nu (.int (bI (ov / 2 ^ i % 2 = 1))) := by
  have hdv := Nat.div_le_self ov (2 ^ i)
  refine Ct.of (lv := [(0, .ref (G.1 b)), (1, .int (nI i))]) rfl rfl (Nat.le_of_ble_eq_true rfl) rfl (fun X C => ?_)
  generalize hQ : g_E G X _ = Q
  replace C : Cx G 2 X cX0_isOver RX0 (some .boolean) 1 := C
  show Mq l G 2 X Q 0 [(0, .ref (G.1 b)), (1, .int (nI i))] [] mu nu
  refine m_aload_n C 0 dX0_isOver_0 rfl ?_
  refine gfX0_28 C b hb dX0_isOver_1 ?_
  refine m_topi (nI ov) hov ?_
  refine m_iload_n C 1 dX0_isOver_4 rfl ?_
  refine m_ishr C dX0_isOver_5 ?_
  refine m_topi (nI (ov / 2 ^ i)) (nn_shr rfl rfl (by omega) (by omega)) ?_
  refine m_iconst C 1 dX0_isOver_6 (by decide +kernel) ?_
  refine m_iand C dX0_isOver_7 ?_
  refine m_topi (nI ((ov / 2 ^ i) % 2)) (nn_and1 rfl (by omega)) ?_
  refine m_iconst C 1 dX0_isOver_8 (by decide +kernel) ?_
  refine m_icmp_ne C 16 dX0_isOver_9 (by decide) (fun hh1 => ?_) (fun hh1 => ?_)
  · replace hh1 := mt (ii_eq (nn_i (a := (ov / 2 ^ i) % 2) rfl (by omega)) (nn_i (a := 1) rfl (by omega))).mpr hh1
    refine m_iconst C 0 dX0_isOver_16 (by decide +kernel) ?_
    refine m_zretf C hQ dX0_isOver_17 rfl rfl rfl ?_
    exact bI_f (by omega)
  replace hh1 := (ii_eq (nn_i (a := (ov / 2 ^ i) % 2) rfl (by omega)) (nn_i (a := 1) rfl (by omega))).mp hh1
  refine m_iconst C 1 dX0_isOver_12 (by decide +kernel) ?_
  refine m_goto C 17 dX0_isOver_13 (by decide) ?_
  refine m_zretf C hQ dX0_isOver_17 rfl rfl rfl ?_
  exact bI_t (by omega)

set_option maxHeartbeats 4000000 in
set_option maxRecDepth 100000 in
theorem c_X0_isTaken (l : Launch) (G : Gl) (mu : Mu) (nu : Nu) (b : Nat) (hb : bnc b) (z : Nat) (hz : mu b 1 = nI z) (hz7 : z ≤ 7) (p : Int32) : Cf l G mX0_isTaken 1 [.ref (G.1 b), .int p] mu nu (.int (bI (0 ≤ p.toInt ∧ p.toInt < z))) := by
  refine Ct.of (lv := [(0, .ref (G.1 b)), (1, .int p)]) rfl rfl (Nat.le_of_ble_eq_true rfl) rfl (fun X C => ?_)
  generalize hQ : g_E G X _ = Q
  replace C : Cx G 2 X cX0_isTaken RX0 (some .boolean) 1 := C
  show Mq l G 2 X Q 0 [(0, .ref (G.1 b)), (1, .int p)] [] mu nu
  refine m_iload_n C 1 dX0_isTaken_0 rfl ?_
  refine m_if_lt C 16 dX0_isTaken_1 (by decide) (fun hh1 => ?_) (fun hh1 => ?_)
  · replace hh1 := (ii_lt (rfl : (p).toInt = _) (nn_i (a := 0) rfl (by omega))).mp hh1
    refine m_iconst C 0 dX0_isTaken_16 (by decide +kernel) ?_
    refine m_zretf C hQ dX0_isTaken_17 rfl rfl rfl ?_
    exact bI_f (by omega)
  replace hh1 := mt (ii_lt (rfl : (p).toInt = _) (nn_i (a := 0) rfl (by omega))).mpr hh1
  refine m_iload_n C 1 dX0_isTaken_4 rfl ?_
  refine m_aload_n C 0 dX0_isTaken_5 rfl ?_
  refine gfX0_24 C b hb dX0_isTaken_6 ?_
  refine m_topi (nI z) hz ?_
  refine m_icmp_ge C 16 dX0_isTaken_9 (by decide) (fun hh2 => ?_) (fun hh2 => ?_)
  · replace hh2 := (ii_le (nn_i (a := z) rfl (by omega)) (rfl : (p).toInt = _)).mp hh2
    refine m_iconst C 0 dX0_isTaken_16 (by decide +kernel) ?_
    refine m_zretf C hQ dX0_isTaken_17 rfl rfl rfl ?_
    exact bI_f (by omega)
  replace hh2 := mt (ii_le (nn_i (a := z) rfl (by omega)) (rfl : (p).toInt = _)).mpr hh2
  refine m_iconst C 1 dX0_isTaken_12 (by decide +kernel) ?_
  refine m_goto C 17 dX0_isTaken_13 (by decide) ?_
  refine m_zretf C hQ dX0_isTaken_17 rfl rfl rfl ?_
  exact bI_t (by omega)

set_option maxHeartbeats 4000000 in
set_option maxRecDepth 100000 in
theorem c_X0_placeOf (l : Launch) (G : Gl) (mu : Mu) (nu : Nu) (b : Nat) (hb : bnc b) (F : List Nat) (ov : Nat) (hz : z_bs mu b F ov) (i : Nat) (hi : i < 7) : Cf l G mX0_placeOf 1 [.ref (G.1 b), .int (nI i)] mu nu (.int (s_pl F i)) := by
  have hF7 := hz.2.1
  have hov := hz.2.2.2.2.1
  refine Ct.of (lv := [(0, .ref (G.1 b)), (1, .int (nI i))]) rfl rfl (Nat.le_of_ble_eq_true rfl) rfl (fun X C => ?_)
  generalize hQ : g_E G X _ = Q
  replace C : Cx G 3 X cX0_placeOf RX0 (some .int) 1 := C
  show Mq l G 3 X Q 0 [(0, .ref (G.1 b)), (1, .int (nI i))] [] mu nu
  refine m_iconst C 0 dX0_placeOf_0 (by decide +kernel) ?_
  refine m_istore_n C [(2, .int 0), (0, .ref (G.1 b)), (1, .int (nI i))] dX0_placeOf_1 (by decide) rfl ?_
  have L2 : ∀ (fu : Nat) (p : Nat) (hp : p ≤ F.length) (hq : ∀ q, q < p → F.getD q 0 ≠ i), F.length - p < fu → Mq l G 3 X Q 2 [(0, .ref (G.1 b)), (1, .int (nI i)), (2, .int (nI p))] [] mu nu := by
    intro fu
    induction fu with
    | zero => intro p hp hq hm; exact absurd hm (Nat.not_lt_zero _)
    | succ fu ih2 =>
      intro p hp hq hm
      refine m_iload_n C 2 dX0_placeOf_2 rfl ?_
      refine m_aload_n C 0 dX0_placeOf_3 rfl ?_
      refine gfX0_24 C b hb dX0_placeOf_4 ?_
      refine m_topi (nI F.length) hz.1 ?_
      refine m_icmp_ge C 28 dX0_placeOf_7 (by decide) (fun hh1 => ?_) (fun hh1 => ?_)
      · replace hh1 := (ii_le (nn_i (a := F.length) rfl (by omega)) (nn_i (a := p) rfl (by omega))).mp hh1
        refine m_bipush C (-9) dX0_placeOf_28 (by decide +kernel) ?_
        refine m_iretf C hQ dX0_placeOf_30 rfl rfl ?_
        have e : p = F.length := by omega
        subst e; exact s_pl_no hq
      replace hh1 := mt (ii_le (nn_i (a := F.length) rfl (by omega)) (nn_i (a := p) rfl (by omega))).mpr hh1
      have hF6 := hz.2.2.2.2.2 p (by omega)
      refine m_aload_n C 0 dX0_placeOf_10 rfl ?_
      refine gfX0_9 C b hb dX0_placeOf_11 ?_
      refine m_iload_n C 2 dX0_placeOf_14 rfl ?_
      refine m_iald C (b + 1) (bnc_lt1 hb) (sa_frame hb) p rfl (by omega) (by decide) dX0_placeOf_15 ?_
      refine m_topi (nI (F.getD p 0)) (hz.2.2.1 p (by omega)) ?_
      refine m_iload_n C 1 dX0_placeOf_16 rfl ?_
      refine m_icmp_ne C 22 dX0_placeOf_17 (by decide) (fun hh2 => ?_) (fun hh2 => ?_)
      · replace hh2 := mt (ii_eq (nn_i (a := F.getD p 0) rfl (by omega)) (nn_i (a := i) rfl (by omega))).mpr hh2
        refine m_iinc C 2 (nI (p + 1)) [(2, .int (nI (p + 1))), (0, .ref (G.1 b)), (1, .int (nI i))] dX0_placeOf_22 rfl (nn_add rfl (show Int32.ofInt 1 = nI 1 from rfl)) (by decide) rfl ?_
        refine m_goto C 2 dX0_placeOf_25 (by decide) ?_
        exact m_sub [1, 2, 0] rfl (ih2 (p + 1) (by omega) (fun q h => by
                by_cases e : q = p
                · rw [e]; omega
                · exact hq q (by omega)) (by omega))
      replace hh2 := (ii_eq (nn_i (a := F.getD p 0) rfl (by omega)) (nn_i (a := i) rfl (by omega))).mp hh2
      refine m_iload_n C 2 dX0_placeOf_20 rfl ?_
      refine m_iretf C hQ dX0_placeOf_21 rfl rfl ?_
      exact s_pl_at (by omega) (by omega) hq
  exact m_sub [1, 2, 0] rfl (L2 (_ + 1) 0 (Nat.zero_le _) (fun q h => absurd h (Nat.not_lt_zero _)) (Nat.lt_succ_self _))

set_option maxHeartbeats 4000000 in
set_option maxRecDepth 100000 in
theorem c_X0_lastRod (l : Launch) (G : Gl) (mu : Mu) (nu : Nu) (b : Nat) (hb : bnc b) (F : List Nat) (ov : Nat) (hz : z_bs mu b F ov) : Cf l G mX0_lastRod 1 [.ref (G.1 b)] mu nu (.int (if 0 < F.length then nI (F.getD (F.length - 1) 0) else -9)) := by
  have hF7 := hz.2.1
  have hov := hz.2.2.2.2.1
  refine Ct.of (lv := [(0, .ref (G.1 b))]) rfl rfl (Nat.le_of_ble_eq_true rfl) rfl (fun X C => ?_)
  generalize hQ : g_E G X _ = Q
  replace C : Cx G 1 X cX0_lastRod RX0 (some .int) 1 := C
  show Mq l G 1 X Q 0 [(0, .ref (G.1 b))] [] mu nu
  refine m_aload_n C 0 dX0_lastRod_0 rfl ?_
  refine gfX0_24 C b hb dX0_lastRod_1 ?_
  refine m_topi (nI F.length) hz.1 ?_
  refine m_if_le C 21 dX0_lastRod_4 (by decide) (fun hh1 => ?_) (fun hh1 => ?_)
  · replace hh1 := (ii_le (nn_i (a := F.length) rfl (by omega)) (nn_i (a := 0) rfl (by omega))).mp hh1
    refine m_bipush C (-9) dX0_lastRod_21 (by decide +kernel) ?_
    refine m_iretf C hQ dX0_lastRod_23 rfl rfl ?_
    rw [if_neg (by omega)]
  replace hh1 := mt (ii_le (nn_i (a := F.length) rfl (by omega)) (nn_i (a := 0) rfl (by omega))).mpr hh1
  refine m_aload_n C 0 dX0_lastRod_7 rfl ?_
  refine gfX0_9 C b hb dX0_lastRod_8 ?_
  refine m_aload_n C 0 dX0_lastRod_11 rfl ?_
  refine gfX0_24 C b hb dX0_lastRod_12 ?_
  refine m_topi (nI F.length) hz.1 ?_
  refine m_iconst C 1 dX0_lastRod_15 (by decide +kernel) ?_
  refine m_isub C dX0_lastRod_16 ?_
  refine m_topi (nI (F.length - 1)) (nn_sub rfl rfl (by omega)) ?_
  refine m_iald C (b + 1) (bnc_lt1 hb) (sa_frame hb) (F.length - 1) rfl (by omega) (by decide) dX0_lastRod_17 ?_
  refine m_topi (nI (F.getD (F.length - 1) 0)) (hz.2.2.1 _ (by omega)) ?_
  refine m_goto C 23 dX0_lastRod_18 (by decide) ?_
  refine m_iretf C hQ dX0_lastRod_23 rfl rfl ?_
  rw [if_pos (by omega)]

set_option maxHeartbeats 4000000 in
set_option maxRecDepth 100000 in
theorem c_X0_bits (l : Launch) (G : Gl) (mu : Mu) (nu : Nu) (b : Nat) (hb : bnc b) (F : List Nat) (ov : Nat) (hz : z_bs mu b F ov) : Cf l G mX0_bits 1 [.ref (G.1 b)] mu nu (.int (nI (s_bits F))) := by
  have hF7 := hz.2.1
  have hov := hz.2.2.2.2.1
  refine Ct.of (lv := [(0, .ref (G.1 b))]) rfl rfl (Nat.le_of_ble_eq_true rfl) rfl (fun X C => ?_)
  generalize hQ : g_E G X _ = Q
  replace C : Cx G 3 X cX0_bits RX0 (some .int) 1 := C
  show Mq l G 3 X Q 0 [(0, .ref (G.1 b))] [] mu nu
  refine m_iconst C 0 dX0_bits_0 (by decide +kernel) ?_
  refine m_istore_n C [(1, .int 0), (0, .ref (G.1 b))] dX0_bits_1 (by decide) rfl ?_
  refine m_iconst C 0 dX0_bits_2 (by decide +kernel) ?_
  refine m_istore_n C [(2, .int 0), (1, .int 0), (0, .ref (G.1 b))] dX0_bits_3 (by decide) rfl ?_
  have L4 : ∀ (fu : Nat) (p : Nat) (hp : p ≤ F.length), F.length - p < fu → Mq l G 3 X Q 4 [(0, .ref (G.1 b)), (1, .int (nI ((F.take p).foldl (fun b i => b ||| 2 ^ i) 0))), (2, .int (nI p))] [] mu nu := by
    intro fu
    induction fu with
    | zero => intro p hp hm; exact absurd hm (Nat.not_lt_zero _)
    | succ fu ih4 =>
      intro p hp hm
      refine m_iload_n C 2 dX0_bits_4 rfl ?_
      refine m_aload_n C 0 dX0_bits_5 rfl ?_
      refine gfX0_24 C b hb dX0_bits_6 ?_
      refine m_topi (nI F.length) hz.1 ?_
      refine m_icmp_ge C 29 dX0_bits_9 (by decide) (fun hh1 => ?_) (fun hh1 => ?_)
      · replace hh1 := (ii_le (nn_i (a := F.length) rfl (by omega)) (nn_i (a := p) rfl (by omega))).mp hh1
        refine m_iload_n C 1 dX0_bits_29 rfl ?_
        refine m_iretf C hQ dX0_bits_30 rfl rfl ?_
        have e : p = F.length := by omega
        subst e; rw [List.take_length]; rfl
      replace hh1 := mt (ii_le (nn_i (a := F.length) rfl (by omega)) (nn_i (a := p) rfl (by omega))).mpr hh1
      have hF6 := hz.2.2.2.2.2 p (by omega)
      refine m_iload_n C 1 dX0_bits_12 rfl ?_
      refine m_iconst C 1 dX0_bits_13 (by decide +kernel) ?_
      refine m_aload_n C 0 dX0_bits_14 rfl ?_
      refine gfX0_9 C b hb dX0_bits_15 ?_
      refine m_iload_n C 2 dX0_bits_18 rfl ?_
      refine m_iald C (b + 1) (bnc_lt1 hb) (sa_frame hb) p rfl (by omega) (by decide) dX0_bits_19 ?_
      refine m_topi (nI (F.getD p 0)) (hz.2.2.1 p (by omega)) ?_
      refine m_ishl C dX0_bits_20 ?_
      refine m_topi (nI (2 ^ (F.getD p 0))) (nn_shl1 rfl (by omega)) ?_
      refine m_ior C dX0_bits_21 ?_
      refine m_topi (nI (((F.take p).foldl (fun b i => b ||| 2 ^ i) 0) ||| (2 ^ (F.getD p 0)))) (nn_or rfl rfl) ?_
      refine m_topi (nI ((F.take (p + 1)).foldl (fun b i => b ||| 2 ^ i) 0)) (congrArg nI (ft_succ (g := fun b i => b ||| 2 ^ i) (by omega)).symm) ?_
      refine m_istore_n C [(1, .int (nI ((F.take (p + 1)).foldl (fun b i => b ||| 2 ^ i) 0))), (0, .ref (G.1 b)), (2, .int (nI p))] dX0_bits_22 (by decide) rfl ?_
      refine m_iinc C 2 (nI (p + 1)) [(2, .int (nI (p + 1))), (1, .int (nI ((F.take (p + 1)).foldl (fun b i => b ||| 2 ^ i) 0))), (0, .ref (G.1 b))] dX0_bits_23 rfl (nn_add rfl (show Int32.ofInt 1 = nI 1 from rfl)) (by decide) rfl ?_
      refine m_goto C 4 dX0_bits_26 (by decide) ?_
      exact m_sub [2, 1, 0] rfl (ih4 (p + 1) (by omega) (by omega))
  exact m_sub [2, 1, 0] rfl (L4 (_ + 1) 0 (Nat.zero_le _) (Nat.lt_succ_self _))

set_option maxHeartbeats 4000000 in
set_option maxRecDepth 100000 in
theorem c_X0_clear (l : Launch) (G : Gl) (mu : Mu) (nu : Nu) (b : Nat) (hb : bnc b) : Cv l G mX0_clear 1 [.ref (G.1 b)] mu nu (fun m n2 => m = mu_up (mu_up (mu_up mu b 1 0) b 2 0) b 6 0 ∧ n2 = nu) := by
  refine Ct.of (lv := [(0, .ref (G.1 b))]) rfl rfl (Nat.le_of_ble_eq_true rfl) rfl (fun X C => ?_)
  generalize hQ : g_E G X _ = Q
  replace C : Cx G 1 X cX0_clear RX0 none 1 := C
  show Mq l G 1 X Q 0 [(0, .ref (G.1 b))] [] mu nu
  refine m_aload_n C 0 dX0_clear_0 rfl ?_
  refine m_iconst C 0 dX0_clear_1 (by decide +kernel) ?_
  refine pfX0_24 C b hb dX0_clear_2 ?_
  refine m_nameM (fun mu1 emu1 => ?_)
  refine m_aload_n C 0 dX0_clear_5 rfl ?_
  refine m_iconst C 0 dX0_clear_6 (by decide +kernel) ?_
  refine pfX0_28 C b hb dX0_clear_7 ?_
  refine m_nameM (fun mu2 emu2 => ?_)
  refine m_aload_n C 0 dX0_clear_10 rfl ?_
  refine m_iconst C 0 dX0_clear_11 (by decide +kernel) ?_
  refine pfX0_31 C b hb dX0_clear_12 ?_
  refine m_nameM (fun mu3 emu3 => ?_)
  refine m_vretv C hQ dX0_clear_15 ?_
  exact ⟨by rw [emu3, emu2, emu1], rfl⟩

set_option maxHeartbeats 4000000 in
set_option maxRecDepth 100000 in
theorem c_X0_backOf (l : Launch) (G : Gl) (mu : Mu) (nu : Nu) (dc : Nat) (hdc : dc ≤ 4) : Cf l G mX0_backOf 1 [.int (nI dc)] mu nu (.int (nI (if dc = 1 then 2 else if dc = 2 then 1 else dc))) := by
  refine Ct.of (lv := [(0, .int (nI dc))]) rfl rfl (Nat.le_of_ble_eq_true rfl) rfl (fun X C => ?_)
  generalize hQ : g_E G X _ = Q
  replace C : Cx G 1 X cX0_backOf RX0 (some .int) 1 := C
  show Mq l G 1 X Q 0 [(0, .int (nI dc))] [] mu nu
  refine m_iload_n C 0 dX0_backOf_0 rfl ?_
  refine m_iconst C 1 dX0_backOf_1 (by decide +kernel) ?_
  refine m_icmp_ne C 7 dX0_backOf_2 (by decide) (fun hh1 => ?_) (fun hh1 => ?_)
  · replace hh1 := mt (ii_eq (nn_i (a := dc) rfl (by omega)) (nn_i (a := 1) rfl (by omega))).mpr hh1
    refine m_iload_n C 0 dX0_backOf_7 rfl ?_
    refine m_iconst C 2 dX0_backOf_8 (by decide +kernel) ?_
    refine m_icmp_ne C 16 dX0_backOf_9 (by decide) (fun hh2 => ?_) (fun hh2 => ?_)
    · replace hh2 := mt (ii_eq (nn_i (a := dc) rfl (by omega)) (nn_i (a := 2) rfl (by omega))).mpr hh2
      refine m_iload_n C 0 dX0_backOf_16 rfl ?_
      refine m_iretf C hQ dX0_backOf_17 rfl rfl ?_
      rw [if_neg (by omega), if_neg (by omega)]
    replace hh2 := (ii_eq (nn_i (a := dc) rfl (by omega)) (nn_i (a := 2) rfl (by omega))).mp hh2
    refine m_iconst C 1 dX0_backOf_12 (by decide +kernel) ?_
    refine m_goto C 17 dX0_backOf_13 (by decide) ?_
    refine m_iretf C hQ dX0_backOf_17 rfl rfl ?_
    rw [if_neg (by omega), if_pos (by omega)]; rfl
  replace hh1 := (ii_eq (nn_i (a := dc) rfl (by omega)) (nn_i (a := 1) rfl (by omega))).mp hh1
  refine m_iconst C 2 dX0_backOf_5 (by decide +kernel) ?_
  refine m_iretf C hQ dX0_backOf_6 rfl rfl ?_
  rw [if_pos (by omega)]; rfl

set_option maxHeartbeats 4000000 in
set_option maxRecDepth 100000 in
theorem c_X0_perform (l : Launch) (G : Gl) (mu : Mu) (nu : Nu) (b : Nat) (hb : bnc b) (dc x y : Nat) (F : List Nat) (ov : Nat) (hz : z_bs mu b F ov) (hok : s_ok dc x y (F, ov)) : Cv l G mX0_perform 2 [.ref (G.1 b), .int (nI dc), .int (nI x), .int (nI y)] mu nu (fun m n2 => z_pf mu m b (s_fw dc x y (F, ov)) ∧ n2 = nu) := by
  have hF7 := hz.2.1
  have hov := hz.2.2.2.2.1
  obtain ⟨k1, k2, k3, k4, k5, k6⟩ := hok
  replace k4 : dc = 1 → F.length < 7 := k4
  replace k5 : dc = 2 → 0 < F.length := k5
  replace k6 : dc = 3 → x < F.length ∧ y < F.length := k6
  have tx := nI_toInt (n := x) (by omega)
  have ty := nI_toInt (n := y) (by omega)
  refine Ct.of (lv := [(0, .ref (G.1 b)), (1, .int (nI dc)), (2, .int (nI x)), (3, .int (nI y))]) rfl rfl (Nat.le_of_ble_eq_true rfl) rfl (fun X C => ?_)
  generalize hQ : g_E G X _ = Q
  replace C : Cx G 5 X cX0_perform RX0 none 2 := C
  show Mq l G 5 X Q 0 [(0, .ref (G.1 b)), (1, .int (nI dc)), (2, .int (nI x)), (3, .int (nI y))] [] mu nu
  refine m_iload_n C 1 dX0_perform_0 rfl ?_
  refine m_iconst C 1 dX0_perform_1 (by decide +kernel) ?_
  refine m_icmp_ne C 40 dX0_perform_2 (by decide) (fun hh1 => ?_) (fun hh1 => ?_)
  · replace hh1 := mt (ii_eq (nn_i (a := dc) rfl (by omega)) (nn_i (a := 1) rfl (by omega))).mpr hh1
    refine m_iload_n C 1 dX0_perform_40 rfl ?_
    refine m_iconst C 2 dX0_perform_41 (by decide +kernel) ?_
    refine m_icmp_ne C 65 dX0_perform_42 (by decide) (fun hh2 => ?_) (fun hh2 => ?_)
    · replace hh2 := mt (ii_eq (nn_i (a := dc) rfl (by omega)) (nn_i (a := 2) rfl (by omega))).mpr hh2
      refine m_iload_n C 1 dX0_perform_65 rfl ?_
      refine m_iconst C 3 dX0_perform_66 (by decide +kernel) ?_
      refine m_icmp_ne C 117 dX0_perform_67 (by decide) (fun hh3 => ?_) (fun hh3 => ?_)
      · replace hh3 := mt (ii_eq (nn_i (a := dc) rfl (by omega)) (nn_i (a := 3) rfl (by omega))).mpr hh3
        refine m_iload_n C 1 dX0_perform_117 rfl ?_
        refine m_iconst C 4 dX0_perform_118 (by decide +kernel) ?_
        refine m_icmp_ne C 134 dX0_perform_119 (by decide) (fun hh4 => ?_) (fun hh4 => ?_)
        · replace hh4 := mt (ii_eq (nn_i (a := dc) rfl (by omega)) (nn_i (a := 4) rfl (by omega))).mpr hh4
          refine m_vretv C hQ dX0_perform_134 ?_
          have e : s_fw dc x y (F, ov) = (F, ov) := by unfold s_fw; rw [if_neg (by omega), if_neg (by omega), if_neg (by omega), if_neg (by omega)]
          rw [e]; exact ⟨bs_same hz, rfl⟩
        replace hh4 := (ii_eq (nn_i (a := dc) rfl (by omega)) (nn_i (a := 4) rfl (by omega))).mp hh4
        refine m_aload_n C 0 dX0_perform_122 rfl ?_
        refine m_dup C dX0_perform_123 rfl ?_
        refine gfX0_28 C b hb dX0_perform_124 ?_
        refine m_topi (nI ov) hz.2.2.2.1 ?_
        refine m_iconst C 1 dX0_perform_127 (by decide +kernel) ?_
        refine m_iload_n C 2 dX0_perform_128 rfl ?_
        refine m_ishl C dX0_perform_129 ?_
        refine m_topi (nI (2 ^ x)) (nn_shl1 rfl (by omega)) ?_
        refine m_ixor C dX0_perform_130 ?_
        refine m_topi (nI (ov ^^^ (2 ^ x))) (nn_xor rfl rfl) ?_
        refine pfX0_28 C b hb dX0_perform_131 ?_
        refine m_nameM (fun mu5 emu5 => ?_)
        refine m_vretv C hQ dX0_perform_134 ?_
        have e : s_fw dc x y (F, ov) = (F, ov ^^^ 2 ^ x) := by unfold s_fw; rw [if_neg (by omega), if_neg (by omega), if_neg (by omega), if_pos (by omega)]
        rw [e]; rw [emu5]; exact ⟨bs_turn hz k2, rfl⟩
      replace hh3 := (ii_eq (nn_i (a := dc) rfl (by omega)) (nn_i (a := 3) rfl (by omega))).mp hh3
      refine m_aload_n C 0 dX0_perform_70 rfl ?_
      refine m_iload_n C 2 dX0_perform_71 rfl ?_
      refine m_callVf C b (bnc_lt hb) (sh_bench hb _ _) rfl (c_X0_isTaken l G mu nu b hb F.length hz.1 (by omega) (nI x)) wkX0_52 (by decide) rfl rfl (Nat.le_of_ble_eq_true rfl) dX0_perform_72 ?_
      refine m_if_eq C 117 dX0_perform_75 (by decide) (fun hh6 => ?_) (fun hh6 => ?_)
      · replace hh6 := bI_eq0.mp hh6
        exact absurd (k6 (by omega)) (by omega)
      replace hh6 := bI_ne0.mp hh6
      refine m_aload_n C 0 dX0_perform_78 rfl ?_
      refine m_iload_n C 3 dX0_perform_79 rfl ?_
      refine m_callVf C b (bnc_lt hb) (sh_bench hb _ _) rfl (c_X0_isTaken l G mu nu b hb F.length hz.1 (by omega) (nI y)) wkX0_52 (by decide) rfl rfl (Nat.le_of_ble_eq_true rfl) dX0_perform_80 ?_
      refine m_if_eq C 117 dX0_perform_83 (by decide) (fun hh7 => ?_) (fun hh7 => ?_)
      · replace hh7 := bI_eq0.mp hh7
        exact absurd (k6 (by omega)) (by omega)
      replace hh7 := bI_ne0.mp hh7
      refine m_aload_n C 0 dX0_perform_86 rfl ?_
      refine gfX0_9 C b hb dX0_perform_87 ?_
      refine m_iload_n C 2 dX0_perform_90 rfl ?_
      refine m_iald C (b + 1) (bnc_lt1 hb) (sa_frame hb) x rfl (by omega) (by decide) dX0_perform_91 ?_
      refine m_topi (nI (F.getD x 0)) (hz.2.2.1 x (by omega)) ?_
      refine m_istore C [(4, .int (nI (F.getD x 0))), (0, .ref (G.1 b)), (1, .int (nI dc)), (2, .int (nI x)), (3, .int (nI y))] dX0_perform_92 (by decide) rfl ?_
      refine m_aload_n C 1 dX0_perform_94 rfl ?_
      refine gfX0_9 C b hb dX0_perform_95 ?_
      refine m_iload_n C 3 dX0_perform_98 rfl ?_
      refine m_aload_n C 1 dX0_perform_99 rfl ?_
      refine gfX0_9 C b hb dX0_perform_100 ?_
      refine m_iload_n C 4 dX0_perform_103 rfl ?_
      refine m_iald C (b + 1) (bnc_lt1 hb) (sa_frame hb) y rfl (by omega) (by decide) dX0_perform_104 ?_
      refine m_topi (nI (F.getD y 0)) (hz.2.2.1 y (by omega)) ?_
      refine m_iast C (b + 1) (bnc_lt1 hb) (sa_frame hb) x rfl (by omega) (by decide) dX0_perform_105 ?_
      refine m_nameM (fun mu8 emu8 => ?_)
      refine m_aload_n C 1 dX0_perform_106 rfl ?_
      refine gfX0_9 C b hb dX0_perform_107 ?_
      refine m_iload_n C 4 dX0_perform_110 rfl ?_
      refine m_iload C 0 dX0_perform_111 rfl ?_
      refine m_iast C (b + 1) (bnc_lt1 hb) (sa_frame hb) y rfl (by omega) (by decide) dX0_perform_113 ?_
      refine m_nameM (fun mu9 emu9 => ?_)
      refine m_goto C 134 dX0_perform_114 (by decide) ?_
      refine m_vretv C hQ dX0_perform_134 ?_
      have e : s_fw dc x y (F, ov) = (s_swap F x y, ov) := by unfold s_fw; rw [if_neg (by omega), if_neg (by omega), if_pos (by omega)]
      rw [e]; rw [emu9, emu8]; exact ⟨bs_swap hz (k6 (by omega)).1 (k6 (by omega)).2, rfl⟩
    replace hh2 := (ii_eq (nn_i (a := dc) rfl (by omega)) (nn_i (a := 2) rfl (by omega))).mp hh2
    refine m_aload_n C 0 dX0_perform_45 rfl ?_
    refine gfX0_24 C b hb dX0_perform_46 ?_
    refine m_topi (nI F.length) hz.1 ?_
    refine m_if_le C 65 dX0_perform_49 (by decide) (fun hh10 => ?_) (fun hh10 => ?_)
    · replace hh10 := (ii_le (nn_i (a := F.length) rfl (by omega)) (nn_i (a := 0) rfl (by omega))).mp hh10
      exact absurd (k5 (by omega)) (by omega)
    replace hh10 := mt (ii_le (nn_i (a := F.length) rfl (by omega)) (nn_i (a := 0) rfl (by omega))).mpr hh10
    refine m_aload_n C 0 dX0_perform_52 rfl ?_
    refine m_dup C dX0_perform_53 rfl ?_
    refine gfX0_24 C b hb dX0_perform_54 ?_
    refine m_topi (nI F.length) hz.1 ?_
    refine m_iconst C 1 dX0_perform_57 (by decide +kernel) ?_
    refine m_isub C dX0_perform_58 ?_
    refine m_topi (nI (F.length - 1)) (nn_sub rfl rfl (by omega)) ?_
    refine pfX0_24 C b hb dX0_perform_59 ?_
    refine m_nameM (fun mu11 emu11 => ?_)
    refine m_goto C 134 dX0_perform_62 (by decide) ?_
    refine m_vretv C hQ dX0_perform_134 ?_
    have e : s_fw dc x y (F, ov) = (F.dropLast, ov) := by unfold s_fw; rw [if_neg (by omega), if_pos (by omega)]
    rw [e]; rw [emu11]; exact ⟨bs_lift hz (k5 (by omega)), rfl⟩
  replace hh1 := (ii_eq (nn_i (a := dc) rfl (by omega)) (nn_i (a := 1) rfl (by omega))).mp hh1
  refine m_aload_n C 0 dX0_perform_5 rfl ?_
  refine gfX0_24 C b hb dX0_perform_6 ?_
  refine m_topi (nI F.length) hz.1 ?_
  refine m_aload_n C 0 dX0_perform_9 rfl ?_
  refine gfX0_9 C b hb dX0_perform_10 ?_
  refine m_alenI C (b + 1) (bnc_lt1 hb) (sa_frame hb) dX0_perform_13 ?_
  refine m_icmp_ge C 40 dX0_perform_14 (by decide) (fun hh12 => ?_) (fun hh12 => ?_)
  · replace hh12 := (ii_le (nn_i (a := 7) rfl (by omega)) (nn_i (a := F.length) rfl (by omega))).mp hh12
    exact absurd (k4 (by omega)) (by omega)
  replace hh12 := mt (ii_le (nn_i (a := 7) rfl (by omega)) (nn_i (a := F.length) rfl (by omega))).mpr hh12
  refine m_aload_n C 0 dX0_perform_17 rfl ?_
  refine gfX0_9 C b hb dX0_perform_18 ?_
  refine m_aload_n C 0 dX0_perform_21 rfl ?_
  refine gfX0_24 C b hb dX0_perform_22 ?_
  refine m_topi (nI F.length) hz.1 ?_
  refine m_iload_n C 2 dX0_perform_25 rfl ?_
  refine m_iast C (b + 1) (bnc_lt1 hb) (sa_frame hb) F.length rfl (by omega) (by decide) dX0_perform_26 ?_
  refine m_nameM (fun mu13 emu13 => ?_)
  refine m_aload_n C 0 dX0_perform_27 rfl ?_
  refine m_dup C dX0_perform_28 rfl ?_
  refine gfX0_24 C b hb dX0_perform_29 ?_
  refine m_topi (nI F.length) (by rw [emu13, mu_up_ne (by omega), hz.1]) ?_
  refine m_iconst C 1 dX0_perform_32 (by decide +kernel) ?_
  refine m_iadd C dX0_perform_33 ?_
  refine m_topi (nI (F.length + 1)) (nn_add rfl rfl) ?_
  refine pfX0_24 C b hb dX0_perform_34 ?_
  refine m_nameM (fun mu14 emu14 => ?_)
  refine m_goto C 134 dX0_perform_37 (by decide) ?_
  refine m_vretv C hQ dX0_perform_134 ?_
  have e : s_fw dc x y (F, ov) = (F ++ [x], ov) := by unfold s_fw; rw [if_pos (by omega)]
  rw [e]; rw [emu14, emu13]; exact ⟨bs_lay hz (k4 (by omega)) k2, rfl⟩
