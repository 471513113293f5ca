/-- the first place at which a text can't go on so: place, items, part of an item -/
def s_ff : Nat → Nat → Nat → List Int32 → Int32
  | p, it, pt, [] => if 0 < pt ∨ it < 2 then nI p else -9
  | p, it, pt, x :: xs => if 0 < pt then (if 48 ≤ x.toInt ∧ x.toInt < 58 then s_ff (p + 1) it ((pt + 1) % 3) xs else nI p) else if x.toInt = 32 then s_ff (p + 1) it pt xs else if 7 ≤ it ∨ (s_kl x).toInt = -9 then nI p else s_ff (p + 1) (it + 1) 1 xs
def s_it : List Int32 → List (Int32 × Int32 × Int32)
  | x :: y :: w :: xs => if (s_kl x).toInt = -9 then s_it (y :: w :: xs) else (s_kl x, y - 48, w - 48) :: s_it (y :: w :: xs)
  | _ => []
theorem ff_fig {p it pt : Nat} {x : Int32} {l : List Int32} (h : 0 < pt) (hf : 48 ≤ x.toInt ∧ x.toInt < 58) : s_ff p it pt (x :: l) = s_ff (p + 1) it ((pt + 1) % 3) l := by rw [s_ff, if_pos h, if_pos hf]
theorem ff_nofig {p it pt : Nat} {x : Int32} {l : List Int32} (h : 0 < pt) (hf : ¬ (48 ≤ x.toInt ∧ x.toInt < 58)) : s_ff p it pt (x :: l) = nI p := by rw [s_ff, if_pos h, if_neg hf]
theorem ff_blank {p it pt : Nat} {x : Int32} {l : List Int32} (h : ¬ 0 < pt) (hf : x.toInt = 32) : s_ff p it pt (x :: l) = s_ff (p + 1) it pt l := by rw [s_ff, if_neg h, if_pos hf]
theorem ff_stop {p it pt : Nat} {x : Int32} {l : List Int32} (h : ¬ 0 < pt) (hf : ¬ x.toInt = 32) (hs : 7 ≤ it ∨ (s_kl x).toInt = -9) : s_ff p it pt (x :: l) = nI p := by rw [s_ff, if_neg h, if_neg hf, if_pos hs]
theorem ff_item {p it pt : Nat} {x : Int32} {l : List Int32} (h : ¬ 0 < pt) (hf : ¬ x.toInt = 32) (hs : ¬ (7 ≤ it ∨ (s_kl x).toInt = -9)) : s_ff p it pt (x :: l) = s_ff (p + 1) (it + 1) 1 l := by rw [s_ff, if_neg h, if_neg hf, if_neg hs]
theorem ff_nil {p it pt : Nat} : s_ff p it pt [] = if 0 < pt ∨ it < 2 then nI p else -9 := by rw [s_ff]
theorem dr_cons {xs : List Int32} {i : Nat} (h : i < xs.length) : xs.drop i = xs.getD i 0 :: xs.drop (i + 1) := by
  rw [List.drop_eq_getElem_cons h]
  simp [List.getD, List.getElem?_eq_getElem h]
theorem kl_no {y : Int32} (h : y.toInt < 98) : (s_kl y).toInt = -9 := by
  unfold s_kl
  rw [if_neg (fun e => by rw [e] at h; revert h; decide), if_neg (fun e => by rw [e] at h; revert h; decide), if_neg (fun e => by rw [e] at h; revert h; decide), if_neg (fun e => by rw [e] at h; revert h; decide), if_neg (fun e => by rw [e] at h; revert h; decide), if_neg (fun e => by rw [e] at h; revert h; decide)]
  decide
theorem kl_lt {x : Int32} (h : ¬ (s_kl x).toInt = -9) : 0 ≤ (s_kl x).toInt ∧ (s_kl x).toInt < 6 := by
  revert h
  unfold s_kl
  (repeat' split) <;> decide
theorem it_skip {y : Int32} {l : List Int32} (h : (s_kl y).toInt = -9) : s_it (y :: l) = s_it l := by
  match l with
  | [] => rfl
  | [a] => rfl
  | a :: b :: r => rw [s_it, if_pos h]
theorem it_short {l : List Int32} (h : l.length ≤ 2) : s_it l = [] := by
  match l, h with
  | [], _ => rfl
  | [a], _ => rfl
  | [a, b], _ => rfl
  | a :: b :: c :: r, h => exact absurd h (by simp)
def it_ok (e : Int32 × Int32 × Int32) : Prop := (0 ≤ e.1.toInt ∧ e.1.toInt < 6) ∧ (0 ≤ e.2.1.toInt ∧ e.2.1.toInt < 10) ∧ 0 ≤ e.2.2.toInt ∧ e.2.2.toInt < 10
theorem fig_sub {y : Int32} (h : 48 ≤ y.toInt ∧ y.toInt < 58) : 0 ≤ (y - 48).toInt ∧ (y - 48).toInt < 10 := by
  rw [ii_sub (a := y.toInt) (b := 48) rfl (by decide) (by omega) (by omega)]
  omega
theorem ff_ok : ∀ (n : Nat) (l : List Int32) (p it : Nat), l.length ≤ n → p + l.length ≤ 60 → it ≤ 7 → (s_ff p it 0 l).toInt = -9 → 2 ≤ it + (s_it l).length ∧ it + (s_it l).length ≤ 7 ∧ ∀ e ∈ s_it l, it_ok e
  | n, [], p, it, _, hp, hi, h => by
    rw [ff_nil] at h
    by_cases h2 : 0 < 0 ∨ it < 2
    · rw [if_pos h2, nI_toInt (by simp at hp; omega)] at h; omega
    · show 2 ≤ it + 0 ∧ it + 0 ≤ 7 ∧ ∀ e ∈ ([] : List (Int32 × Int32 × Int32)), it_ok e
      exact ⟨by omega, by omega, fun e he => absurd he List.not_mem_nil⟩
  | n + 1, x :: r, p, it, hn, hp, hi, h => by
    simp only [List.length_cons] at hn hp
    by_cases hb : x.toInt = 32
    · rw [ff_blank (by decide) hb] at h
      have := ff_ok n r (p + 1) it (by omega) (by omega) hi h
      rw [it_skip (kl_no (by omega))]; exact this
    · by_cases hs : 7 ≤ it ∨ (s_kl x).toInt = -9
      · rw [ff_stop (by decide) hb hs, nI_toInt (by omega)] at h; omega
      · rw [ff_item (by decide) hb hs] at h
        match r, hn, hp, h with
        | [], hn, hp, h =>
          rw [ff_nil, if_pos (Or.inl (by decide)), nI_toInt (by omega)] at h; omega
        | y :: r2, hn, hp, h =>
          simp only [List.length_cons] at hn hp
          by_cases hy : 48 ≤ y.toInt ∧ y.toInt < 58
          · rw [ff_fig (by decide) hy] at h
            match r2, hn, hp, h with
            | [], hn, hp, h =>
              rw [ff_nil, if_pos (Or.inl (by decide)), nI_toInt (by omega)] at h; omega
            | w :: t, hn, hp, h =>
              simp only [List.length_cons] at hn hp
              by_cases hw : 48 ≤ w.toInt ∧ w.toInt < 58
              · rw [ff_fig (by decide) hw] at h
                obtain ⟨q1, q2, q3⟩ := ff_ok n t (p + 1 + 1 + 1) (it + 1) (by omega) (by omega) (by omega) h
                rw [s_it, if_neg (fun e => hs (Or.inr e)), it_skip (kl_no (by omega)), it_skip (kl_no (by omega))]
                simp only [List.length_cons]
                refine ⟨by omega, by omega, fun e he => ?_⟩
                rcases List.mem_cons.mp he with rfl | he
                · exact ⟨kl_lt (fun e => hs (Or.inr e)), fig_sub hy, fig_sub hw⟩
                · exact q3 e he
              · rw [ff_nofig (by decide) hw, nI_toInt (by omega)] at h; omega
          · rw [ff_nofig (by decide) hy, nI_toInt (by omega)] at h; omega
abbrev Tri : Type := Int32 × Int32 × Int32
def t_at (its : List Tri) (i : Nat) : Tri := its.getD i (0, 0, 0)
theorem t_lt {its : List Tri} {e : Tri} {j : Nat} (h : j < its.length) : t_at (its ++ [e]) j = t_at its j := by
  simp [t_at, List.getD, List.getElem?_append_left h]
theorem t_eq {its : List Tri} {e : Tri} : t_at (its ++ [e]) its.length = e := by simp [t_at, List.getD]
theorem t_mem {its : List Tri} {j : Nat} (h : j < its.length) : t_at its j ∈ its := by
  simp [t_at, List.getD, List.getElem?_eq_getElem h]
def s_bx (z : Zt) (its : List Tri) : Zt := ((its.length, fun i => ix (t_at its i).1, fun i => ix (t_at its i).2.1, fun i => ix (t_at its i).2.2), ([], 0, []), fun _ => none, z_rw z, z_tx z, z_ms z)
def s_fault (z : Zt) (r : Int32) : Int32 × Zt := if ¬ (0 ≤ r.toInt ∧ r.toInt < 4) then (-1, z) else match z_tx z (ix r) with
  | none => (-3, u_find z 1)
  | some xs => (s_ff 0 0 0 xs, z)
def s_box (z : Zt) (r : Int32) : Int32 × Zt := if ¬ (0 ≤ r.toInt ∧ r.toInt < 4) then (-1, z) else match z_tx z (ix r) with
  | none => (-3, u_find z 1)
  | some xs => if ¬ (s_ff 0 0 0 xs).toInt = -9 then (-4, z) else (nI (s_it xs).length, s_bx z (s_it xs))
/-- the class's rods are those told -/
def z_rods (m : Mu) (its : List Tri) (n : Nat) : Prop := ∀ j, j < n → m (31 + j) 0 = nI (24 + ix (t_at its j).1) ∧ m (31 + j) 1 = (t_at its j).1 ∧ m (31 + j) 2 = (t_at its j).2.1 ∧ m (31 + j) 3 = (t_at its j).2.2
theorem zr_step {m m4 : Mu} {its : List Tri} {a b c : Int32} {k : Nat} (hk : its.length = k) (h : z_rods m its k) (e : m4 = mu_up (mu_up (mu_up (mu_up m (31 + k) 1 a) (31 + k) 0 (nI (24 + ix a))) (31 + k) 2 b) (31 + k) 3 c) : z_rods m4 (its ++ [(a, b, c)]) (k + 1) := by
  intro j hj
  by_cases ej : j = k
  · subst ej
    subst hk
    rw [t_eq, e]
    exact ⟨by rw [mu_up_an (by decide), mu_up_an (by decide), mu_up_at], by rw [mu_up_an (by decide), mu_up_an (by decide), mu_up_an (by decide), mu_up_at], by rw [mu_up_an (by decide), mu_up_at], mu_up_at⟩
  · rw [t_lt (by omega), e, mu_up_ne (by omega), mu_up_ne (by omega), mu_up_ne (by omega), mu_up_ne (by omega)]
    exact h j (by omega)
theorem zc_box {mu m : Mu} {nu : Nu} {z : Zt} {its : List Tri} (h : ZC mu nu z) (h2 : 2 ≤ its.length) (h7 : its.length ≤ 7) (hok : ∀ e ∈ its, it_ok e) (hN : m 0 4 = nI its.length) (hr : z_rods m its its.length) (hb1 : m 38 1 = 0) (hb2 : m 38 2 = 0) (hb6 : m 38 6 = 0) (hk : ∀ k, k < 3 → m (44 + 5 * k) 7 = 0) (h0 : ∀ j, j ≠ 4 → m 0 j = mu 0 j) (hc : ∀ c, 1 ≤ c → c < 31 → m c = mu c) (hc2 : ∀ c, 59 ≤ c → m c = mu c) : ZC m nu (s_bx z its) ∧ z_cl mu nu m nu := by
  obtain ⟨h1, h2', h3, h4, h5, ⟨a1, a2, a3, a4, a5⟩, h7'⟩ := h
  have hbs : z_bs m 38 [] 0 := ⟨hb1, by decide, fun p hp => absurd hp (Nat.not_lt_zero _), hb2, by decide, fun p hp => absurd hp (Nat.not_lt_zero _)⟩
  refine ⟨⟨⟨⟨h7, fun i hi => ?_, Nat.zero_le 7, fun p hp => absurd hp (Nat.not_lt_zero _), (by decide : (0 : Nat) < 128)⟩, hN, fun i hi => ?_, hbs⟩, ⟨hbs, hb6, Nat.zero_le 40, fun d hd => absurd hd (Nat.not_lt_zero _), fun d hd => ?_⟩, fun k hk' => ⟨by rw [hk k hk']; rfl, fun B hB => by cases hB⟩, zr_keep h4 (fun c q1 q2 => hc c (by omega) (by omega)), zt_keep h5 (fun c q1 q2 => hc c (by omega) (by omega)), ⟨by rw [h0 8 (by decide)]; exact a1, a2, a3, by rw [h0 11 (by decide)]; exact a4, fun f hf => by rw [hc2 63 (by decide)]; exact a5 f hf⟩, Or.inr h2⟩, fun c hq => hc2 c (by omega), fun _ _ => rfl⟩
  · have hi : i < its.length := hi
    obtain ⟨q1, q2, q3⟩ := hok _ (t_mem hi)
    show ix (t_at its i).1 < 6 ∧ ix (t_at its i).2.1 ≤ 9 ∧ ix (t_at its i).2.2 ≤ 9
    unfold ix
    omega
  · have hi : i < its.length := hi
    obtain ⟨q1, q2, q3⟩ := hok _ (t_mem hi)
    obtain ⟨r1, r2, r3, r4⟩ := hr i hi
    show m (31 + i) 0 = nI (24 + ix (t_at its i).1) ∧ m (31 + i) 1 = nI (ix (t_at its i).1) ∧ m (31 + i) 2 = nI (ix (t_at its i).2.1) ∧ m (31 + i) 3 = nI (ix (t_at its i).2.2)
    rw [← (ix_eq (x := (t_at its i).1) (by omega)).1, ← (ix_eq (x := (t_at its i).2.1) (by omega)).1, ← (ix_eq (x := (t_at its i).2.2) (by omega)).1]
    exact ⟨r1, r2, r3, r4⟩
  · have hd : d = 0 := Nat.le_zero.mp hd
    subst hd
    exact ⟨fun x hx => absurd hx List.not_mem_nil, List.nodup_nil, (by decide : (0 : Nat) < 128)⟩
set_option maxHeartbeats 4000000 in
set_option maxRecDepth 100000 in
theorem c_X10_firstFault (l : Launch) (G : Gl) (mu : Mu) (nu : Nu) (c : Nat) (hc : stc c) (xs : List Int32) (hl : mu c 1 = nI xs.length) (hl60 : xs.length ≤ 60) (hxs : ∀ j, j < xs.length → mu (c + 1) j = xs.getD j 0) : Cf l G mX10_firstFault 2 [.ref (G.1 c)] mu nu (.int (s_ff 0 0 0 xs)) := by
  refine Ct.of (lv := [(0, .ref (G.1 c))]) rfl rfl (Nat.le_of_ble_eq_true rfl) rfl (fun X C => ?_)
  generalize hQ : g_E G X _ = Q
  replace C : Cx G 5 X cX10_firstFault RX10 (some .int) 2 := C
  show Mq l G 5 X Q 0 [(0, .ref (G.1 c))] [] mu nu
  refine m_iconst C 0 dX10_firstFault_0 (by decide +kernel) ?_
  refine m_istore_n C [(1, .int 0), (0, .ref (G.1 c))] dX10_firstFault_1 (by decide) rfl ?_
  refine m_iconst C 0 dX10_firstFault_2 (by decide +kernel) ?_
  refine m_istore_n C [(2, .int 0), (1, .int 0), (0, .ref (G.1 c))] dX10_firstFault_3 (by decide) rfl ?_
  refine m_iconst C 0 dX10_firstFault_4 (by decide +kernel) ?_
  refine m_istore_n C [(3, .int 0), (2, .int 0), (1, .int 0), (0, .ref (G.1 c))] dX10_firstFault_5 (by decide) rfl ?_
  have L6 : ∀ (fu : Nat) (i it pt : Nat) (hi : i ≤ xs.length) (hit : it ≤ 7) (hpt : pt ≤ 2) (he : s_ff 0 0 0 xs = s_ff i it pt (xs.drop i)), xs.length - i < fu → Mq l G 5 X Q 6 [(0, .ref (G.1 c)), (1, .int (nI it)), (2, .int (nI pt)), (3, .int (nI i))] [] mu nu := by
    intro fu
    induction fu with
    | zero => intro i it pt hi hit hpt he hm; exact absurd hm (Nat.not_lt_zero _)
    | succ fu ih6 =>
      intro i it pt hi hit hpt he hm
      refine m_iload_n C 3 dX10_firstFault_6 rfl ?_
      refine m_aload_n C 0 dX10_firstFault_7 rfl ?_
      refine gfX10_103 C c hc dX10_firstFault_8 ?_
      refine m_topi (nI xs.length) hl ?_
      refine m_icmp_ge C 81 dX10_firstFault_11 (by decide) (fun hh1 => ?_) (fun hh1 => ?_)
      · replace hh1 := (ii_le (nn_i (a := xs.length) rfl (by omega)) (nn_i (a := i) rfl (by omega))).mp hh1
        refine m_iload_n C 2 dX10_firstFault_81 rfl ?_
        refine m_if_gt C 90 dX10_firstFault_82 (by decide) (fun hh2 => ?_) (fun hh2 => ?_)
        · replace hh2 := (ii_lt (nn_i (a := 0) rfl (by omega)) (nn_i (a := pt) rfl (by omega))).mp hh2
          refine m_aload_n C 0 dX10_firstFault_90 rfl ?_
          refine gfX10_103 C c hc dX10_firstFault_91 ?_
          refine m_topi (nI xs.length) hl ?_
          refine m_goto C 99 dX10_firstFault_94 (by decide) ?_
          refine m_iretf C hQ dX10_firstFault_99 rfl rfl ?_
          have ei : i = xs.length := by omega
          rw [he, ei, List.drop_length, ff_nil, if_pos (by omega)]
        replace hh2 := mt (ii_lt (nn_i (a := 0) rfl (by omega)) (nn_i (a := pt) rfl (by omega))).mpr hh2
        refine m_iload_n C 1 dX10_firstFault_85 rfl ?_
        refine m_iconst C 2 dX10_firstFault_86 (by decide +kernel) ?_
        refine m_icmp_ge C 97 dX10_firstFault_87 (by decide) (fun hh3 => ?_) (fun hh3 => ?_)
        · replace hh3 := (ii_le (nn_i (a := 2) rfl (by omega)) (nn_i (a := it) rfl (by omega))).mp hh3
          refine m_bipush C (-9) dX10_firstFault_97 (by decide +kernel) ?_
          refine m_iretf C hQ dX10_firstFault_99 rfl rfl ?_
          have ei : i = xs.length := by omega
          rw [he, ei, List.drop_length, ff_nil, if_neg (by omega)]
        replace hh3 := mt (ii_le (nn_i (a := 2) rfl (by omega)) (nn_i (a := it) rfl (by omega))).mpr hh3
        refine m_aload_n C 0 dX10_firstFault_90 rfl ?_
        refine gfX10_103 C c hc dX10_firstFault_91 ?_
        refine m_topi (nI xs.length) hl ?_
        refine m_goto C 99 dX10_firstFault_94 (by decide) ?_
        refine m_iretf C hQ dX10_firstFault_99 rfl rfl ?_
        have ei : i = xs.length := by omega
        rw [he, ei, List.drop_length, ff_nil, if_pos (by omega)]
      replace hh1 := mt (ii_le (nn_i (a := xs.length) rfl (by omega)) (nn_i (a := i) rfl (by omega))).mpr hh1
      rw [dr_cons (show i < xs.length by omega)] at he
      refine m_aload_n C 0 dX10_firstFault_14 rfl ?_
      refine gfX10_92 C c hc dX10_firstFault_15 ?_
      refine m_iload_n C 3 dX10_firstFault_18 rfl ?_
      refine m_iald C (c + 1) (stc_lt1 hc) (sa_strip hc) i rfl (by omega) (by decide) dX10_firstFault_19 ?_
      refine m_topi (xs.getD i 0) (hxs _ (by omega)) ?_
      refine m_istore C [(4, .int (xs.getD i 0)), (0, .ref (G.1 c)), (1, .int (nI it)), (2, .int (nI pt)), (3, .int (nI i))] dX10_firstFault_20 (by decide) rfl ?_
      refine m_iload_n C 3 dX10_firstFault_22 rfl ?_
      refine m_if_le C 45 dX10_firstFault_23 (by decide) (fun hh4 => ?_) (fun hh4 => ?_)
      · replace hh4 := (ii_le (nn_i (a := pt) rfl (by omega)) (nn_i (a := 0) rfl (by omega))).mp hh4
        refine m_iload C 0 dX10_firstFault_45 rfl ?_
        refine m_bipush C 32 dX10_firstFault_47 (by decide +kernel) ?_
        refine m_icmp_eq C 75 dX10_firstFault_49 (by decide) (fun hh5 => ?_) (fun hh5 => ?_)
        · replace hh5 := (ii_eq (rfl : (xs.getD i 0).toInt = _) (nn_i (a := 32) rfl (by omega))).mp hh5
          refine m_iinc C 4 (nI (i + 1)) [(3, .int (nI (i + 1))), (4, .int (xs.getD i 0)), (0, .ref (G.1 c)), (1, .int (nI it)), (2, .int (nI pt))] dX10_firstFault_75 rfl (nn_add rfl (show Int32.ofInt 1 = nI 1 from rfl)) (by decide) rfl ?_
          refine m_goto C 6 dX10_firstFault_78 (by decide) ?_
          exact m_sub [2, 3, 4, 0] rfl (ih6 (i + 1) it pt (by omega) (by omega) (by omega) (by first | exact he.trans (ff_fig (by omega) (by omega)) | exact he.trans (ff_blank (by omega) (by omega)) | exact he.trans (ff_item (by omega) (by omega) (by omega))) (by omega))
        replace hh5 := mt (ii_eq (rfl : (xs.getD i 0).toInt = _) (nn_i (a := 32) rfl (by omega))).mpr hh5
        refine m_iload_n C 2 dX10_firstFault_52 rfl ?_
        refine m_bipush C 7 dX10_firstFault_53 (by decide +kernel) ?_
        refine m_icmp_ge C 68 dX10_firstFault_55 (by decide) (fun hh6 => ?_) (fun hh6 => ?_)
        · replace hh6 := (ii_le (nn_i (a := 7) rfl (by omega)) (nn_i (a := it) rfl (by omega))).mp hh6
          refine m_iload_n C 4 dX10_firstFault_68 rfl ?_
          refine m_iretf C hQ dX10_firstFault_69 rfl rfl ?_
          rw [he, ff_stop (by omega) (by omega) (by omega)]
        replace hh6 := mt (ii_le (nn_i (a := 7) rfl (by omega)) (nn_i (a := it) rfl (by omega))).mpr hh6
        refine m_iload C 0 dX10_firstFault_58 rfl ?_
        refine m_callSf C (c_X10_kindByLetter l G mu nu (xs.getD i 0)) wkX10_324 (by decide) rfl rfl (Nat.le_of_ble_eq_true rfl) dX10_firstFault_60 ?_
        refine m_bipush C (-9) dX10_firstFault_63 (by decide +kernel) ?_
        refine m_icmp_ne C 70 dX10_firstFault_65 (by decide) (fun hh7 => ?_) (fun hh7 => ?_)
        · replace hh7 := mt (ii_eq (rfl : (s_kl (xs.getD i 0)).toInt = _) (show ((-9) : Int32).toInt = (-9) from by decide +kernel)).mpr hh7
          refine m_iinc C 2 (nI (it + 1)) [(1, .int (nI (it + 1))), (4, .int (xs.getD i 0)), (0, .ref (G.1 c)), (2, .int (nI pt)), (3, .int (nI i))] dX10_firstFault_70 rfl (nn_add rfl (show Int32.ofInt 1 = nI 1 from rfl)) (by decide) rfl ?_
          refine m_iconst C 1 dX10_firstFault_73 (by decide +kernel) ?_
          refine m_istore_n C [(2, .int 1), (1, .int (nI (it + 1))), (4, .int (xs.getD i 0)), (0, .ref (G.1 c)), (3, .int (nI i))] dX10_firstFault_74 (by decide) rfl ?_
          refine m_iinc C 4 (nI (i + 1)) [(3, .int (nI (i + 1))), (2, .int 1), (1, .int (nI (it + 1))), (4, .int (xs.getD i 0)), (0, .ref (G.1 c))] dX10_firstFault_75 rfl (nn_add rfl (show Int32.ofInt 1 = nI 1 from rfl)) (by decide) rfl ?_
          refine m_goto C 6 dX10_firstFault_78 (by decide) ?_
          exact m_sub [4, 2, 1, 0] rfl (ih6 (i + 1) (it + 1) 1 (by omega) (by omega) (by omega) (by first | exact he.trans (ff_fig (by omega) (by omega)) | exact he.trans (ff_blank (by omega) (by omega)) | exact he.trans (ff_item (by omega) (by omega) (by omega))) (by omega))
        replace hh7 := (ii_eq (rfl : (s_kl (xs.getD i 0)).toInt = _) (show ((-9) : Int32).toInt = (-9) from by decide +kernel)).mp hh7
        refine m_iload_n C 4 dX10_firstFault_68 rfl ?_
        refine m_iretf C hQ dX10_firstFault_69 rfl rfl ?_
        rw [he, ff_stop (by omega) (by omega) (by omega)]
      replace hh4 := mt (ii_le (nn_i (a := pt) rfl (by omega)) (nn_i (a := 0) rfl (by omega))).mpr hh4
      refine m_iload C 0 dX10_firstFault_26 rfl ?_
      refine m_callSf C (c_X10_isFigure l G mu nu (xs.getD i 0)) wkX10_321 (by decide) rfl rfl (Nat.le_of_ble_eq_true rfl) dX10_firstFault_28 ?_
      refine m_if_ne C 36 dX10_firstFault_31 (by decide) (fun hh8 => ?_) (fun hh8 => ?_)
      · replace hh8 := bI_ne0.mp hh8
        refine m_iload_n C 3 dX10_firstFault_36 rfl ?_
        refine m_iconst C 1 dX10_firstFault_37 (by decide +kernel) ?_
        refine m_iadd C dX10_firstFault_38 ?_
        refine m_topi (nI (pt + 1)) (nn_add rfl rfl) ?_
        refine m_iconst C 3 dX10_firstFault_39 (by decide +kernel) ?_
        refine m_irem C dX10_firstFault_40 (by decide) ?_
        refine m_topi (nI ((pt + 1) % 3)) (nn_rem rfl rfl (by omega) (by omega) (by omega)) ?_
        refine m_istore_n C [(2, .int (nI ((pt + 1) % 3))), (4, .int (xs.getD i 0)), (0, .ref (G.1 c)), (1, .int (nI it)), (3, .int (nI i))] dX10_firstFault_41 (by decide) rfl ?_
        refine m_goto C 75 dX10_firstFault_42 (by decide) ?_
        refine m_iinc C 4 (nI (i + 1)) [(3, .int (nI (i + 1))), (2, .int (nI ((pt + 1) % 3))), (4, .int (xs.getD i 0)), (0, .ref (G.1 c)), (1, .int (nI it))] dX10_firstFault_75 rfl (nn_add rfl (show Int32.ofInt 1 = nI 1 from rfl)) (by decide) rfl ?_
        refine m_goto C 6 dX10_firstFault_78 (by decide) ?_
        exact m_sub [3, 4, 1, 0] rfl (ih6 (i + 1) it ((pt + 1) % 3) (by omega) (by omega) (by omega) (by first | exact he.trans (ff_fig (by omega) (by omega)) | exact he.trans (ff_blank (by omega) (by omega)) | exact he.trans (ff_item (by omega) (by omega) (by omega))) (by omega))
      replace hh8 := bI_eq0.mp hh8
      refine m_iload_n C 4 dX10_firstFault_34 rfl ?_
      refine m_iretf C hQ dX10_firstFault_35 rfl rfl ?_
      rw [he, ff_nofig (by omega) (by omega)]
  exact m_sub [3, 2, 1, 0] rfl (L6 (_ + 1) 0 0 0 (Nat.zero_le _) (Nat.zero_le _) (Nat.zero_le _) rfl (Nat.lt_succ_self _))

set_option maxHeartbeats 4000000 in
set_option maxRecDepth 100000 in
theorem c_X10_fillBox (l : Launch) (G : Gl) (mu : Mu) (nu : Nu) (c : Nat) (hc : stc c) (xs : List Int32) (hl : mu c 1 = nI xs.length) (hl60 : xs.length ≤ 60) (hxs : ∀ j, j < xs.length → mu (c + 1) j = xs.getD j 0) (hok : ∀ e ∈ s_it xs, it_ok e) (h7 : (s_it xs).length ≤ 7) : Cv l G mX10_fillBox 2 [.ref (G.1 0), .ref (G.1 c)] mu nu (fun m n2 => (∀ q, ¬ (31 ≤ q ∧ q < 38) → q ≠ 0 → m q = mu q) ∧ (∀ j, j ≠ 4 → m 0 j = mu 0 j) ∧ m 0 4 = nI (s_it xs).length ∧ z_rods m (s_it xs) (s_it xs).length ∧ n2 = nu) := by
  have hcs : c < 30 := by unfold stc at hc; omega
  refine Ct.of (lv := [(0, .ref (G.1 0)), (1, .ref (G.1 c))]) rfl rfl (Nat.le_of_ble_eq_true rfl) rfl (fun X C => ?_)
  generalize hQ : g_E G X _ = Q
  replace C : Cx G 5 X cX10_fillBox RX10 none 2 := C
  show Mq l G 5 X Q 0 [(0, .ref (G.1 0)), (1, .ref (G.1 c))] [] mu nu
  refine m_iconst C 0 dX10_fillBox_0 (by decide +kernel) ?_
  refine m_istore_n C [(2, .int 0), (0, .ref (G.1 0)), (1, .ref (G.1 c))] dX10_fillBox_1 (by decide) rfl ?_
  refine m_iconst C 0 dX10_fillBox_2 (by decide +kernel) ?_
  refine m_istore_n C [(3, .int 0), (2, .int 0), (0, .ref (G.1 0)), (1, .ref (G.1 c))] dX10_fillBox_3 (by decide) rfl ?_
  have L4 : ∀ (fu : Nat) (i k : Nat) (its : List Tri) (m : Mu) (hi : i ≤ xs.length) (hlen : its.length = k) (hk7 : k ≤ 7) (he : s_it xs = its ++ s_it (xs.drop i)) (hm1 : ∀ q, ¬ (31 ≤ q ∧ q < 38) → m q = mu q) (hm3 : z_rods m its k), xs.length - i < fu → Mq l G 5 X Q 4 [(0, .ref (G.1 0)), (1, .ref (G.1 c)), (2, .int (nI k)), (3, .int (nI i))] [] m nu := by
    intro fu
    induction fu with
    | zero => intro i k its m hi hlen hk7 he hm1 hm3 hm; exact absurd hm (Nat.not_lt_zero _)
    | succ fu ih4 =>
      intro i k its m hi hlen hk7 he hm1 hm3 hm
      have hlm : m c 1 = nI xs.length := by rw [hm1 c (by omega)]; exact hl
      refine m_iload_n C 3 dX10_fillBox_4 rfl ?_
      refine m_iconst C 2 dX10_fillBox_5 (by decide +kernel) ?_
      refine m_iadd C dX10_fillBox_6 ?_
      refine m_topi (nI (i + 2)) (nn_add rfl rfl) ?_
      refine m_aload_n C 1 dX10_fillBox_7 rfl ?_
      refine gfX10_103 C c hc dX10_fillBox_8 ?_
      refine m_topi (nI xs.length) hlm ?_
      refine m_icmp_ge C 114 dX10_fillBox_11 (by decide) (fun hh1 => ?_) (fun hh1 => ?_)
      · replace hh1 := (ii_le (nn_i (a := xs.length) rfl (by omega)) (nn_i (a := i + 2) rfl (by omega))).mp hh1
        refine m_aload_n C 0 dX10_fillBox_114 rfl ?_
        refine m_iload_n C 2 dX10_fillBox_115 rfl ?_
        refine pfX10_134 C dX10_fillBox_116 ?_
        refine m_nameM (fun mu2 emu2 => ?_)
        refine m_vretv C hQ dX10_fillBox_119 ?_
        have hall : its = s_it xs := by
          have h0 : (s_it (xs.drop i)).length = 0 := by
            have hle := congrArg List.length he
            rw [List.length_append] at hle
            first | (rw [it_short (by rw [List.length_drop]; omega)]; rfl) | omega
          rw [he, List.eq_nil_of_length_eq_zero h0, List.append_nil]
        subst hlen
        rw [← hall]
        exact ⟨fun q h1 h2 => by rw [emu2, mu_up_ne h2]; exact hm1 q h1, fun j hj => by rw [emu2, mu_up_an hj, hm1 0 (by omega)], by rw [emu2, mu_up_at], fun j hj => by rw [emu2, mu_up_ne (by omega)]; exact hm3 j hj, rfl⟩
      replace hh1 := mt (ii_le (nn_i (a := xs.length) rfl (by omega)) (nn_i (a := i + 2) rfl (by omega))).mpr hh1
      have hd0 : xs.drop i = xs.getD i 0 :: xs.getD (i + 1) 0 :: xs.getD (i + 2) 0 :: xs.drop (i + 3) := by rw [dr_cons (show i < xs.length by omega), dr_cons (show i + 1 < xs.length by omega), dr_cons (show i + 2 < xs.length by omega)]
      have hd1 : xs.drop (i + 1) = xs.getD (i + 1) 0 :: xs.getD (i + 2) 0 :: xs.drop (i + 3) := by rw [dr_cons (show i + 1 < xs.length by omega), dr_cons (show i + 2 < xs.length by omega)]
      refine m_iload_n C 2 dX10_fillBox_14 rfl ?_
      refine m_bipush C 7 dX10_fillBox_15 (by decide +kernel) ?_
      refine m_icmp_ge C 114 dX10_fillBox_17 (by decide) (fun hh3 => ?_) (fun hh3 => ?_)
      · replace hh3 := (ii_le (nn_i (a := 7) rfl (by omega)) (nn_i (a := k) rfl (by omega))).mp hh3
        refine m_aload_n C 0 dX10_fillBox_114 rfl ?_
        refine m_iload_n C 2 dX10_fillBox_115 rfl ?_
        refine pfX10_134 C dX10_fillBox_116 ?_
        refine m_nameM (fun mu4 emu4 => ?_)
        refine m_vretv C hQ dX10_fillBox_119 ?_
        have hall : its = s_it xs := by
          have h0 : (s_it (xs.drop i)).length = 0 := by
            have hle := congrArg List.length he
            rw [List.length_append] at hle
            first | (rw [it_short (by rw [List.length_drop]; omega)]; rfl) | omega
          rw [he, List.eq_nil_of_length_eq_zero h0, List.append_nil]
        subst hlen
        rw [← hall]
        exact ⟨fun q h1 h2 => by rw [emu4, mu_up_ne h2]; exact hm1 q h1, fun j hj => by rw [emu4, mu_up_an hj, hm1 0 (by omega)], by rw [emu4, mu_up_at], fun j hj => by rw [emu4, mu_up_ne (by omega)]; exact hm3 j hj, rfl⟩
      replace hh3 := mt (ii_le (nn_i (a := 7) rfl (by omega)) (nn_i (a := k) rfl (by omega))).mpr hh3
      refine m_aload_n C 1 dX10_fillBox_20 rfl ?_
      refine gfX10_92 C c hc dX10_fillBox_21 ?_
      refine m_iload_n C 3 dX10_fillBox_24 rfl ?_
      refine m_iald C (c + 1) (stc_lt1 hc) (sa_strip hc) i rfl (by omega) (by decide) dX10_fillBox_25 ?_
      refine m_topi (xs.getD i 0) ((congrFun (hm1 (c + 1) (by omega)) i).trans (hxs _ (by omega))) ?_
      refine m_callSf C (c_X10_kindByLetter l G m nu (xs.getD i 0)) wkX10_324 (by decide) rfl rfl (Nat.le_of_ble_eq_true rfl) dX10_fillBox_26 ?_
      refine m_istore C [(4, .int (s_kl (xs.getD i 0))), (0, .ref (G.1 0)), (1, .ref (G.1 c)), (2, .int (nI k)), (3, .int (nI i))] dX10_fillBox_29 (by decide) rfl ?_
      refine m_iload C 0 dX10_fillBox_31 rfl ?_
      refine m_bipush C (-9) dX10_fillBox_33 (by decide +kernel) ?_
      refine m_icmp_eq C 108 dX10_fillBox_35 (by decide) (fun hh5 => ?_) (fun hh5 => ?_)
      · replace hh5 := (ii_eq (rfl : (s_kl (xs.getD i 0)).toInt = _) (show ((-9) : Int32).toInt = (-9) from by decide +kernel)).mp hh5
        refine m_iinc C 4 (nI (i + 1)) [(3, .int (nI (i + 1))), (4, .int (s_kl (xs.getD i 0))), (0, .ref (G.1 0)), (1, .ref (G.1 c)), (2, .int (nI k))] dX10_fillBox_108 rfl (nn_add rfl (show Int32.ofInt 1 = nI 1 from rfl)) (by decide) rfl ?_
        refine m_goto C 4 dX10_fillBox_111 (by decide) ?_
        exact m_sub [2, 3, 4, 0] rfl (ih4 (i + 1) k its m (by omega) hlen hk7 (by rw [he, hd0, s_it, if_pos hh5, ← hd1]) hm1 hm3 (by omega))
      replace hh5 := mt (ii_eq (rfl : (s_kl (xs.getD i 0)).toInt = _) (show ((-9) : Int32).toInt = (-9) from by decide +kernel)).mpr hh5
      obtain ⟨hk0, hk6⟩ := kl_lt hh5
      obtain ⟨ekl, kkl⟩ := ix_eq hk0
      refine m_aload_n C 1 dX10_fillBox_38 rfl ?_
      refine gfX10_43 C dX10_fillBox_39 ?_
      refine m_iload_n C 3 dX10_fillBox_42 rfl ?_
      refine m_aald C 30 (by decide) 3 rfl ra_30 k (G.1 (31 + k)) rfl (by omega) (by decide) rfl dX10_fillBox_43 ?_
      refine m_iload C 0 dX10_fillBox_44 rfl ?_
      refine m_topi (nI (ix (s_kl (xs.getD i 0)))) ekl ?_
      refine pfX10_327 C (31 + k) (rdc_of (by omega)) dX10_fillBox_46 ?_
      refine m_nameM (fun mu6 emu6 => ?_)
      refine m_aload_n C 1 dX10_fillBox_49 rfl ?_
      refine gfX10_43 C dX10_fillBox_50 ?_
      refine m_iload_n C 3 dX10_fillBox_53 rfl ?_
      refine m_aald C 30 (by decide) 3 rfl ra_30 k (G.1 (31 + k)) rfl (by omega) (by decide) rfl dX10_fillBox_54 ?_
      refine m_aload_n C 1 dX10_fillBox_55 rfl ?_
      refine gfX10_21 C dX10_fillBox_56 ?_
      refine m_iload C 0 dX10_fillBox_59 rfl ?_
      refine m_topi (nI (ix (s_kl (xs.getD i 0)))) ekl ?_
      refine m_aald C 23 (by decide) 2 rfl ra_23 (ix (s_kl (xs.getD i 0))) (G.1 (24 + (ix (s_kl (xs.getD i 0))))) rfl (by omega) (by decide) rfl dX10_fillBox_61 ?_
      refine pfX10_144 C (31 + k) (rdc_of (by omega)) (24 + (ix (s_kl (xs.getD i 0)))) (by omega) dX10_fillBox_62 ?_
      refine m_nameM (fun mu7 emu7 => ?_)
      refine m_aload_n C 1 dX10_fillBox_65 rfl ?_
      refine gfX10_43 C dX10_fillBox_66 ?_
      refine m_iload_n C 3 dX10_fillBox_69 rfl ?_
      refine m_aald C 30 (by decide) 3 rfl ra_30 k (G.1 (31 + k)) rfl (by omega) (by decide) rfl dX10_fillBox_70 ?_
      refine m_aload_n C 2 dX10_fillBox_71 rfl ?_
      refine gfX10_92 C c hc dX10_fillBox_72 ?_
      refine m_iload_n C 4 dX10_fillBox_75 rfl ?_
      refine m_iconst C 1 dX10_fillBox_76 (by decide +kernel) ?_
      refine m_iadd C dX10_fillBox_77 ?_
      refine m_topi (nI (i + 1)) (nn_add rfl rfl) ?_
      refine m_iald C (c + 1) (stc_lt1 hc) (sa_strip hc) (i + 1) rfl (by omega) (by decide) dX10_fillBox_78 ?_
      refine m_topi (xs.getD (i + 1) 0) (by rw [emu7, mu_up_ne (by omega), emu6, mu_up_ne (by omega), hm1 (c + 1) (by omega)]; exact hxs _ (by omega)) ?_
      refine m_bipush C 48 dX10_fillBox_79 (by decide +kernel) ?_
      refine m_isub C dX10_fillBox_81 ?_
      refine pfX10_330 C (31 + k) (rdc_of (by omega)) dX10_fillBox_82 ?_
      refine m_nameM (fun mu8 emu8 => ?_)
      refine m_aload_n C 1 dX10_fillBox_85 rfl ?_
      refine gfX10_43 C dX10_fillBox_86 ?_
      refine m_iload_n C 3 dX10_fillBox_89 rfl ?_
      refine m_aald C 30 (by decide) 3 rfl ra_30 k (G.1 (31 + k)) rfl (by omega) (by decide) rfl dX10_fillBox_90 ?_
      refine m_aload_n C 2 dX10_fillBox_91 rfl ?_
      refine gfX10_92 C c hc dX10_fillBox_92 ?_
      refine m_iload_n C 4 dX10_fillBox_95 rfl ?_
      refine m_iconst C 2 dX10_fillBox_96 (by decide +kernel) ?_
      refine m_iadd C dX10_fillBox_97 ?_
      refine m_topi (nI (i + 2)) (nn_add rfl rfl) ?_
      refine m_iald C (c + 1) (stc_lt1 hc) (sa_strip hc) (i + 2) rfl (by omega) (by decide) dX10_fillBox_98 ?_
      refine m_topi (xs.getD (i + 2) 0) (by rw [emu8, mu_up_ne (by omega), emu7, mu_up_ne (by omega), emu6, mu_up_ne (by omega), hm1 (c + 1) (by omega)]; exact hxs _ (by omega)) ?_
      refine m_bipush C 48 dX10_fillBox_99 (by decide +kernel) ?_
      refine m_isub C dX10_fillBox_101 ?_
      refine pfX10_238 C (31 + k) (rdc_of (by omega)) dX10_fillBox_102 ?_
      refine m_nameM (fun mu9 emu9 => ?_)
      refine m_iinc C 3 (nI (k + 1)) [(2, .int (nI (k + 1))), (4, .int (s_kl (xs.getD i 0))), (0, .ref (G.1 0)), (1, .ref (G.1 c)), (3, .int (nI i))] dX10_fillBox_105 rfl (nn_add rfl (show Int32.ofInt 1 = nI 1 from rfl)) (by decide) rfl ?_
      refine m_iinc C 4 (nI (i + 1)) [(3, .int (nI (i + 1))), (2, .int (nI (k + 1))), (4, .int (s_kl (xs.getD i 0))), (0, .ref (G.1 0)), (1, .ref (G.1 c))] dX10_fillBox_108 rfl (nn_add rfl (show Int32.ofInt 1 = nI 1 from rfl)) (by decide) rfl ?_
      refine m_goto C 4 dX10_fillBox_111 (by decide) ?_
      exact m_sub [3, 4, 1, 0] rfl (ih4 (i + 1) (k + 1) (its ++ [(s_kl (xs.getD i 0), xs.getD (i + 1) 0 - 48, xs.getD (i + 2) 0 - 48)]) mu9 (by omega) (by simp [hlen]) (by omega) (by rw [he, hd0, s_it, if_neg hh5, ← hd1, List.append_assoc]; rfl) (fun q hq => by rw [emu9, mu_up_ne (by omega), emu8, mu_up_ne (by omega), emu7, mu_up_ne (by omega), emu6, mu_up_ne (by omega)]; exact hm1 q hq) (zr_step hlen hm3 (by rw [emu9, emu8, emu7, emu6, ← ekl])) (by omega))
  exact m_sub [2, 3, 1, 0] rfl (L4 (_ + 1) 0 0 ([]) mu (Nat.zero_le _) rfl (Nat.zero_le _) rfl (fun q hq => rfl) (fun j hj => absurd hj (Nat.not_lt_zero _)) (Nat.lt_succ_self _))

set_option maxHeartbeats 4000000 in
set_option maxRecDepth 100000 in
theorem c_X10_fault (l : Launch) (G : Gl) (mu : Mu) (nu : Nu) (z : Zt) (hz : ZC mu nu z) (r : Int32) : Ci l G mX10_fault 3 [.ref (G.1 0), .int r] mu nu (PC mu nu (s_fault z r)) := by
  refine Ct.of (lv := [(0, .ref (G.1 0)), (1, .int r)]) rfl rfl (Nat.le_of_ble_eq_true rfl) rfl (fun X C => ?_)
  generalize hQ : g_E G X _ = Q
  replace C : Cx G 2 X cX10_fault RX10 (some .int) 3 := C
  show Mq l G 2 X Q 0 [(0, .ref (G.1 0)), (1, .int r)] [] mu nu
  refine m_iload_n C 1 dX10_fault_0 rfl ?_
  refine m_callSf C (c_X10_isText l G mu nu r) wkX10_116 (by decide) rfl rfl (Nat.le_of_ble_eq_true rfl) dX10_fault_1 ?_
  refine m_if_ne C 9 dX10_fault_4 (by decide) (fun hh1 => ?_) (fun hh1 => ?_)
  · replace hh1 := bI_ne0.mp hh1
    obtain ⟨er, kr⟩ := ix_eq (x := r) (by omega)
    refine m_aload_n C 0 dX10_fault_9 rfl ?_
    refine gfX10_16 C dX10_fault_10 ?_
    refine m_iload_n C 1 dX10_fault_13 rfl ?_
    refine m_topi (nI (ix r)) er ?_
    refine m_aald C 14 (by decide) 1 rfl ra_14 (ix r) (G.1 (15 + 2 * (ix r))) rfl (by omega) (by decide) rfl dX10_fault_14 ?_
    refine m_callVf C (15 + 2 * (ix r)) (stc_lt (stc_text (by omega))) (sh_strip (stc_text (by omega)) _ _) rfl (c_X7_isThere l G mu nu (15 + 2 * (ix r)) (stc_text (by omega))) wkX10_99 (by decide) rfl rfl (Nat.le_of_ble_eq_true rfl) dX10_fault_15 ?_
    refine m_if_ne C 27 dX10_fault_18 (by decide) (fun hh2 => ?_) (fun hh2 => ?_)
    · replace hh2 := bI_ne0.mp hh2
      obtain ⟨xs, hxe, hx1, hx2, hx3⟩ := zs_some (hz.2.2.2.2.1 (ix r) (by omega)) (by decide) (by omega)
      refine m_aload_n C 0 dX10_fault_27 rfl ?_
      refine gfX10_16 C dX10_fault_28 ?_
      refine m_iload_n C 1 dX10_fault_31 rfl ?_
      refine m_topi (nI (ix r)) er ?_
      refine m_aald C 14 (by decide) 1 rfl ra_14 (ix r) (G.1 (15 + 2 * (ix r))) rfl (by omega) (by decide) rfl dX10_fault_32 ?_
      refine m_callSf C (c_X10_firstFault l G mu nu (15 + 2 * ix r) (stc_text (by omega)) xs hx1 (by omega) hx3) wkX10_119 (by decide) rfl rfl (Nat.le_of_ble_eq_true rfl) dX10_fault_33 ?_
      refine m_ireti C hQ dX10_fault_36 ?_
      exact PC_of (by unfold s_fault; rw [if_neg (by omega)]; simp only [hxe]) hz zcl_rfl
    replace hh2 := bI_eq0.mp hh2
    refine m_aload_n C 0 dX10_fault_21 rfl ?_
    refine m_iconst C 1 dX10_fault_22 (by decide +kernel) ?_
    refine m_callVi C 0 (by decide) rfl rfl (c_X10_found l G mu nu 1 (by decide)) wkX10_80 (by decide) rfl rfl (Nat.le_of_ble_eq_true rfl) dX10_fault_23 (fun r3 m3 n3 hp3 => ?_)
    refine m_ireti C hQ dX10_fault_26 ?_
    have hxe := zs_none (hz.2.2.2.2.1 (ix r) (by omega)) (by decide) (by omega)
    exact PC_find hz (by decide) hp3 (by unfold s_fault; rw [if_neg (by omega)]; simp only [hxe])
  replace hh1 := bI_eq0.mp hh1
  refine m_iconst C (-1) dX10_fault_7 (by decide +kernel) ?_
  refine m_ireti C hQ dX10_fault_8 ?_
  exact PC_of (by unfold s_fault; rw [if_pos (by omega)]) hz zcl_rfl

set_option maxHeartbeats 4000000 in
set_option maxRecDepth 100000 in
theorem c_X10_box (l : Launch) (G : Gl) (mu : Mu) (nu : Nu) (z : Zt) (hz : ZC mu nu z) (r : Int32) : Ci l G mX10_box 3 [.ref (G.1 0), .int r] mu nu (PC mu nu (s_box z r)) := by
  refine Ct.of (lv := [(0, .ref (G.1 0)), (1, .int r)]) rfl rfl (Nat.le_of_ble_eq_true rfl) rfl (fun X C => ?_)
  generalize hQ : g_E G X _ = Q
  replace C : Cx G 3 X cX10_box RX10 (some .int) 3 := C
  show Mq l G 3 X Q 0 [(0, .ref (G.1 0)), (1, .int r)] [] mu nu
  refine m_iload_n C 1 dX10_box_0 rfl ?_
  refine m_callSf C (c_X10_isText l G mu nu r) wkX10_116 (by decide) rfl rfl (Nat.le_of_ble_eq_true rfl) dX10_box_1 ?_
  refine m_if_ne C 9 dX10_box_4 (by decide) (fun hh1 => ?_) (fun hh1 => ?_)
  · replace hh1 := bI_ne0.mp hh1
    obtain ⟨er, kr⟩ := ix_eq (x := r) (by omega)
    refine m_aload_n C 0 dX10_box_9 rfl ?_
    refine gfX10_16 C dX10_box_10 ?_
    refine m_iload_n C 1 dX10_box_13 rfl ?_
    refine m_topi (nI (ix r)) er ?_
    refine m_aald C 14 (by decide) 1 rfl ra_14 (ix r) (G.1 (15 + 2 * (ix r))) rfl (by omega) (by decide) rfl dX10_box_14 ?_
    refine m_callVf C (15 + 2 * (ix r)) (stc_lt (stc_text (by omega))) (sh_strip (stc_text (by omega)) _ _) rfl (c_X7_isThere l G mu nu (15 + 2 * (ix r)) (stc_text (by omega))) wkX10_99 (by decide) rfl rfl (Nat.le_of_ble_eq_true rfl) dX10_box_15 ?_
    refine m_if_ne C 27 dX10_box_18 (by decide) (fun hh2 => ?_) (fun hh2 => ?_)
    · replace hh2 := bI_ne0.mp hh2
      obtain ⟨xs, hxe, hx1, hx2, hx3⟩ := zs_some (hz.2.2.2.2.1 (ix r) (by omega)) (by decide) (by omega)
      refine m_aload_n C 0 dX10_box_27 rfl ?_
      refine gfX10_16 C dX10_box_28 ?_
      refine m_iload_n C 1 dX10_box_31 rfl ?_
      refine m_topi (nI (ix r)) er ?_
      refine m_aald C 14 (by decide) 1 rfl ra_14 (ix r) (G.1 (15 + 2 * (ix r))) rfl (by omega) (by decide) rfl dX10_box_32 ?_
      refine m_callSf C (c_X10_firstFault l G mu nu (15 + 2 * ix r) (stc_text (by omega)) xs hx1 (by omega) hx3) wkX10_119 (by decide) rfl rfl (Nat.le_of_ble_eq_true rfl) dX10_box_33 ?_
      refine m_bipush C (-9) dX10_box_36 (by decide +kernel) ?_
      refine m_icmp_eq C 44 dX10_box_38 (by decide) (fun hh3 => ?_) (fun hh3 => ?_)
      · replace hh3 := (ii_eq (rfl : (s_ff 0 0 0 xs).toInt = _) (show ((-9) : Int32).toInt = (-9) from by decide +kernel)).mp hh3
        have hok := ff_ok 60 xs 0 0 (by omega) (by omega) (by decide) (by omega)
        simp only [Nat.zero_add] at hok
        refine m_aload_n C 0 dX10_box_44 rfl ?_
        refine m_aload_n C 0 dX10_box_45 rfl ?_
        refine gfX10_16 C dX10_box_46 ?_
        refine m_iload_n C 1 dX10_box_49 rfl ?_
        refine m_topi (nI (ix r)) er ?_
        refine m_aald C 14 (by decide) 1 rfl ra_14 (ix r) (G.1 (15 + 2 * (ix r))) rfl (by omega) (by decide) rfl dX10_box_50 ?_
        refine m_callVv C 0 (by decide) rfl rfl (c_X10_fillBox l G mu nu (15 + 2 * ix r) (stc_text (by omega)) xs hx1 (by omega) hx3 hok.2.2 hok.2.1) wkX10_123 (by decide) rfl rfl (Nat.le_of_ble_eq_true rfl) dX10_box_51 (fun m4 n4 hp4 => ?_)
        obtain ⟨hf1, hf2, hf3, hf4, hfn⟩ := hp4
        rw [hfn]
        refine m_aload_n C 0 dX10_box_54 rfl ?_
        refine gfX10_53 C dX10_box_55 ?_
        refine m_callVv C 38 (by decide) rfl rfl (c_X0_clear l G m4 nu 38 bnc_38) wkX10_127 (by decide) rfl rfl (Nat.le_of_ble_eq_true rfl) dX10_box_58 (fun m5 n5 hp5 => ?_)
        obtain ⟨hc0, hcn⟩ := hp5
        rw [hcn]
        have hcl : ∀ q, q ≠ 38 → m5 q = m4 q := fun q hq => by rw [hc0, mu_up_ne hq, mu_up_ne hq, mu_up_ne hq]
        refine m_iconst C 0 dX10_box_61 (by decide +kernel) ?_
        refine m_istore_n C [(2, .int 0), (0, .ref (G.1 0)), (1, .int r)] dX10_box_62 (by decide) rfl ?_
        have L63 : ∀ (fu : Nat) (k : Nat) (m : Mu) (hk : k ≤ 3) (hmo : ∀ q, ¬ (44 ≤ q ∧ q < 59) → m q = m5 q) (hk0 : ∀ j, j < k → m (44 + 5 * j) 7 = 0), 3 - k < fu → Mq l G 3 X Q 63 [(0, .ref (G.1 0)), (1, .int r), (2, .int (nI k))] [] m nu := by
          intro fu
          induction fu with
          | zero => intro k m hk hmo hk0 hm; exact absurd hm (Nat.not_lt_zero _)
          | succ fu ih63 =>
            intro k m hk hmo hk0 hm
            have hN4 : m 0 4 = nI (s_it xs).length := by rw [hmo 0 (by omega), hcl 0 (by decide)]; exact hf3
            refine m_iload_n C 2 dX10_box_63 rfl ?_
            refine m_iconst C 3 dX10_box_64 (by decide +kernel) ?_
            refine m_icmp_ge C 84 dX10_box_65 (by decide) (fun hh6 => ?_) (fun hh6 => ?_)
            · replace hh6 := (ii_le (nn_i (a := 3) rfl (by omega)) (nn_i (a := k) rfl (by omega))).mp hh6
              refine m_aload_n C 0 dX10_box_84 rfl ?_
              refine gfX10_134 C dX10_box_85 ?_
              refine m_topi (nI ((s_it xs).length)) hN4 ?_
              refine m_ireti C hQ dX10_box_88 ?_
              have ek : k = 3 := by omega
              subst ek
              obtain ⟨q1, q2⟩ := zc_box (its := s_it xs) (m := m) hz hok.1 hok.2.1 hok.2.2 hN4 (fun j hj => by rw [hmo (31 + j) (by omega), hcl _ (by omega)]; exact hf4 j hj) (by rw [hmo 38 (by omega), hc0, mu_up_an (by decide), mu_up_an (by decide), mu_up_at]) (by rw [hmo 38 (by omega), hc0, mu_up_an (by decide), mu_up_at]) (by rw [hmo 38 (by omega), hc0, mu_up_at]) hk0 (fun j hj => by rw [hmo 0 (by omega), hcl 0 (by decide)]; exact hf2 j hj) (fun q h1 h2 => by rw [hmo q (by omega), hcl q (by omega)]; exact hf1 q (by omega) (by omega)) (fun q h1 => by rw [hmo q (by omega), hcl q (by omega)]; exact hf1 q (by omega) (by omega))
              exact PC_of (by unfold s_box; rw [if_neg (by omega)]; simp only [hxe]; rw [if_neg (by omega)]) q1 q2
            replace hh6 := mt (ii_le (nn_i (a := 3) rfl (by omega)) (nn_i (a := k) rfl (by omega))).mpr hh6
            refine m_aload_n C 0 dX10_box_68 rfl ?_
            refine gfX10_57 C dX10_box_69 ?_
            refine m_iload_n C 2 dX10_box_72 rfl ?_
            refine m_aald C 43 (by decide) 4 rfl ra_43 k (G.1 (44 + 5 * k)) rfl (by omega) (by decide) rfl dX10_box_73 ?_
            refine m_iconst C 0 dX10_box_74 (by decide +kernel) ?_
            refine pfX10_130 C (44 + 5 * k) (bnc_kept (by omega)) rfl rfl dX10_box_75 ?_
            refine m_nameM (fun mu7 emu7 => ?_)
            refine m_iinc C 2 (nI (k + 1)) [(2, .int (nI (k + 1))), (0, .ref (G.1 0)), (1, .int r)] dX10_box_78 rfl (nn_add rfl (show Int32.ofInt 1 = nI 1 from rfl)) (by decide) rfl ?_
            refine m_goto C 63 dX10_box_81 (by decide) ?_
            exact m_sub [1, 2, 0] rfl (ih63 (k + 1) mu7 (by omega) (fun q hq => by rw [emu7, mu_up_ne (by omega)]; exact hmo q hq) (fun j hj => by
                      by_cases e : j = k
                      · rw [e, emu7, mu_up_at]
                      · rw [emu7, mu_up_ne (by omega)]; exact hk0 j (by omega)) (by omega))
        exact m_sub [1, 2, 0] rfl (L63 (_ + 1) 0 m5 (Nat.zero_le _) (fun q hq => rfl) (fun j hj => absurd hj (Nat.not_lt_zero _)) (Nat.lt_succ_self _))
      replace hh3 := mt (ii_eq (rfl : (s_ff 0 0 0 xs).toInt = _) (show ((-9) : Int32).toInt = (-9) from by decide +kernel)).mpr hh3
      refine m_bipush C (-4) dX10_box_41 (by decide +kernel) ?_
      refine m_ireti C hQ dX10_box_43 ?_
      exact PC_of (by unfold s_box; rw [if_neg (by omega)]; simp only [hxe]; rw [if_pos (by assumption)]) hz zcl_rfl
    replace hh2 := bI_eq0.mp hh2
    refine m_aload_n C 0 dX10_box_21 rfl ?_
    refine m_iconst C 1 dX10_box_22 (by decide +kernel) ?_
    refine m_callVi C 0 (by decide) rfl rfl (c_X10_found l G mu nu 1 (by decide)) wkX10_80 (by decide) rfl rfl (Nat.le_of_ble_eq_true rfl) dX10_box_23 (fun r8 m8 n8 hp8 => ?_)
    refine m_ireti C hQ dX10_box_26 ?_
    have hxe := zs_none (hz.2.2.2.2.1 (ix r) (by omega)) (by decide) (by omega)
    exact PC_find hz (by decide) hp8 (by unfold s_box; rw [if_neg (by omega)]; simp only [hxe])
  replace hh1 := bI_eq0.mp hh1
  refine m_iconst C (-1) dX10_box_7 (by decide +kernel) ?_
  refine m_ireti C hQ dX10_box_8 ?_
  exact PC_of (by unfold s_box; rw [if_pos (by omega)]) hz zcl_rfl
