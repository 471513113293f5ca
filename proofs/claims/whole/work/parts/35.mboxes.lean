def s_ko (x : Int32) : Int32 := if x.toInt = 114 then 0 else if x.toInt = 119 then 1 else if x.toInt = 116 then 2 else if x.toInt = 115 then 3 else if x.toInt = 98 then 4 else if x.toInt = 100 then 5 else -1
theorem ko_kl (x : Int32) : ((s_ko x).toInt < 0 ∧ (s_kl x).toInt = -9) ∨ (0 ≤ (s_ko x).toInt ∧ ¬ (s_kl x).toInt = -9 ∧ s_ko x = s_kl x) := by
  unfold s_ko s_kl
  simp only [← Int32.toInt_inj]
  simp only [show (114 : Int32).toInt = 114 by decide, show (119 : Int32).toInt = 119 by decide, show (116 : Int32).toInt = 116 by decide, show (115 : Int32).toInt = 115 by decide, show (98 : Int32).toInt = 98 by decide, show (100 : Int32).toInt = 100 by decide]
  (repeat' split) <;> decide
/-- the sign at a place of a text; behind its end none -/
def s_hr (xs : List Int32) (p : Nat) : Int32 := if p < xs.length then xs.getD p 0 else -1000
theorem hr_in {xs : List Int32} {p : Nat} (h : p < xs.length) : s_hr xs p = xs.getD p 0 := if_pos h
theorem hr_out {xs : List Int32} {p : Nat} (h : ¬ p < xs.length) : s_hr xs p = -1000 := if_neg h
/-- a text is being read: place, rods so far -/
def RS (mu : Mu) (t : Nat) (xs : List Int32) (p k : Nat) : Prop := mu 64 11 = nI (60 * t) ∧ mu 64 12 = nI p ∧ mu 64 13 = nI xs.length ∧ mu 64 14 = nI k ∧ ∀ j, j < xs.length → mu 69 (60 * t + j) = xs.getD j 0
theorem rs_place {mu m : Mu} {t p k p2 : Nat} {xs : List Int32} (h : RS mu t xs p k) (e : m = mu_up mu 64 12 (nI p2)) : RS m t xs p2 k := by
  obtain ⟨h1, h2, h3, h4, h5⟩ := h
  rw [e]
  exact ⟨by rw [mu_up_an (by decide)]; exact h1, mu_up_at, by rw [mu_up_an (by decide)]; exact h3, by rw [mu_up_an (by decide)]; exact h4, fun j hj => by rw [mu_up_ne (by decide)]; exact h5 j hj⟩
theorem rs_many {mu m : Mu} {t p k k2 : Nat} {xs : List Int32} (h : RS mu t xs p k) (e : m = mu_up mu 64 14 (nI k2)) : RS m t xs p k2 := by
  obtain ⟨h1, h2, h3, h4, h5⟩ := h
  rw [e]
  exact ⟨by rw [mu_up_an (by decide)]; exact h1, by rw [mu_up_an (by decide)]; exact h2, by rw [mu_up_an (by decide)]; exact h3, mu_up_at, fun j hj => by rw [mu_up_ne (by decide)]; exact h5 j hj⟩
theorem rs_read {mu m : Mu} {t p k q : Nat} {v : Int32} {xs : List Int32} (h : RS mu t xs p k) (e : m = mu_up mu 72 q v) : RS m t xs p k := by
  obtain ⟨h1, h2, h3, h4, h5⟩ := h
  rw [e]
  exact ⟨by rw [mu_up_ne (by decide)]; exact h1, by rw [mu_up_ne (by decide)]; exact h2, by rw [mu_up_ne (by decide)]; exact h3, by rw [mu_up_ne (by decide)]; exact h4, fun j hj => by rw [mu_up_ne (by decide)]; exact h5 j hj⟩
/-- the model's place, rods so far and what was read may change -/
def RF (mu m : Mu) (k : Nat) : Prop := (∀ c, c ≠ 64 → c ≠ 72 → m c = mu c) ∧ (∀ j, j ≠ 12 → j ≠ 14 → m 64 j = mu 64 j) ∧ ∀ j, j < 3 * k → m 72 j = mu 72 j
theorem rf_rfl {mu : Mu} {k : Nat} : RF mu mu k := ⟨fun _ _ _ => rfl, fun _ _ _ => rfl, fun _ _ => rfl⟩
theorem rf_64 {mu m0 m : Mu} {k s : Nat} {v : Int32} (h : RF mu m0 k) (hs : s = 12 ∨ s = 14) (e : m = mu_up m0 64 s v) : RF mu m k := by
  obtain ⟨h1, h2, h3⟩ := h
  rw [e]
  exact ⟨fun c q1 q2 => by rw [mu_up_ne q1]; exact h1 c q1 q2, fun j q1 q2 => by rw [mu_up_an (by omega)]; exact h2 j q1 q2, fun j hj => by rw [mu_up_ne (by decide)]; exact h3 j hj⟩
theorem rf_72 {mu m0 m : Mu} {k s : Nat} {v : Int32} (h : RF mu m0 k) (hs : 3 * k ≤ s) (e : m = mu_up m0 72 s v) : RF mu m k := by
  obtain ⟨h1, h2, h3⟩ := h
  rw [e]
  exact ⟨fun c q1 q2 => by rw [mu_up_ne q2]; exact h1 c q1 q2, fun j q1 q2 => by rw [mu_up_ne (by decide)]; exact h2 j q1 q2, fun j hj => by rw [mu_up_an (by omega)]; exact h3 j hj⟩
theorem RF.trans {a b c : Mu} {k k2 : Nat} (h1 : RF a b k) (h2 : RF b c k2) (hk : k ≤ k2) : RF a c k := ⟨fun q x y => (h2.1 q x y).trans (h1.1 q x y), fun j x y => (h2.2.1 j x y).trans (h1.2.1 j x y), fun j hj => (h2.2.2 j (by omega)).trans (h1.2.2 j hj)⟩
def TR (mu : Mu) (nu : Nu) (t : Nat) (xs : List Int32) (p k : Nat) : Int32 → Mu → Nu → Prop := fun r m n2 => n2 = nu ∧ RF mu m k ∧ ((r = 0 ∧ ∃ p2, m 64 12 = nI p2 ∧ s_ff p k 0 (xs.drop p) = nI p2 ∧ p2 ≤ 60) ∨ (r = 1 ∧ RS m t xs (p + 3) (k + 1) ∧ p + 3 ≤ xs.length ∧ k < 7 ∧ s_ff p k 0 (xs.drop p) = s_ff (p + 3) (k + 1) 0 (xs.drop (p + 3)) ∧ ∃ e, s_it (xs.drop p) = e :: s_it (xs.drop (p + 3)) ∧ m 72 (3 * k) = e.1 ∧ m 72 (3 * k + 1) = e.2.1 ∧ m 72 (3 * k + 2) = e.2.2))
theorem fig_v {xs : List Int32} {p : Nat} (h0 : 0 ≤ (s_hr xs p - 48).toInt) (h9 : (s_hr xs p - 48).toInt ≤ 9) : p < xs.length ∧ 48 ≤ (xs.getD p 0).toInt ∧ (xs.getD p 0).toInt < 58 := by
  by_cases h : p < xs.length
  · rw [hr_in h] at h0 h9
    have b1 := (xs.getD p 0).toInt_lt
    have b2 := (xs.getD p 0).le_toInt
    refine ⟨h, ?_⟩
    rw [Int32.toInt_sub, show (48 : Int32).toInt = 48 by decide] at h0 h9
    by_cases c : -2147483648 ≤ (xs.getD p 0).toInt - 48
    · rw [Int.bmod_eq_of_le (by omega) (by omega)] at h0 h9
      omega
    · have e : ((xs.getD p 0).toInt - 48).bmod (2 ^ 32) = (xs.getD p 0).toInt - 48 + 4294967296 := by
        rw [← Int.add_mul_bmod_self_left ((xs.getD p 0).toInt - 48) (2 ^ 32) 1]
        rw [Int.bmod_eq_of_le (by omega) (by omega)]
        omega
      rw [e] at h0 h9
      omega
  · rw [hr_out h] at h0
    exact absurd h0 (by decide)
theorem nofig_v {xs : List Int32} {p : Nat} (hp : p < xs.length) (h : ¬ (0 ≤ (s_hr xs p - 48).toInt ∧ (s_hr xs p - 48).toInt ≤ 9)) : ¬ (48 ≤ (xs.getD p 0).toInt ∧ (xs.getD p 0).toInt < 58) := by
  intro q
  apply h
  rw [hr_in hp]
  have := fig_sub q
  omega
/-- a text at an item: what its signs say -/
theorem tr_stop {xs : List Int32} {p k : Nat} (hb : ¬ (s_hr xs p).toInt = 32) (hq : p < xs.length ∨ k < 2) (hp : p ≤ xs.length) (h : (s_ko (s_hr xs p)).toInt < 0 ∨ 7 ≤ k) : s_ff p k 0 (xs.drop p) = nI p := by
  by_cases h1 : p < xs.length
  · rw [hr_in h1] at hb h
    rw [dr_cons h1, ff_stop (by decide) hb]
    rcases ko_kl (xs.getD p 0) with ⟨a, b⟩ | ⟨a, b, c⟩
    · exact Or.inr b
    · exact Or.inl (by omega)
  · rw [List.drop_eq_nil_of_le (by omega), ff_nil, if_pos (by omega)]
theorem tr_in {xs : List Int32} {p k : Nat} (hb : ¬ (s_hr xs p).toInt = 32) (h : 0 ≤ (s_ko (s_hr xs p)).toInt) (hk : k < 7) : p < xs.length ∧ s_ko (s_hr xs p) = s_kl (xs.getD p 0) ∧ ¬ (s_kl (xs.getD p 0)).toInt = -9 ∧ s_ff p k 0 (xs.drop p) = s_ff (p + 1) (k + 1) 1 (xs.drop (p + 1)) := by
  by_cases h1 : p < xs.length
  · rw [hr_in h1] at hb h
    rcases ko_kl (xs.getD p 0) with ⟨a, b⟩ | ⟨a, b, c⟩
    · omega
    · refine ⟨h1, by rw [hr_in h1]; exact c, b, ?_⟩
      rw [dr_cons h1, ff_item (by decide) hb (by omega)]
  · rw [hr_out h1] at h
    exact absurd h (by decide)
theorem tr_no {xs : List Int32} {p k pt : Nat} (hpt : 0 < pt) (hp : p ≤ xs.length) (h : ¬ (0 ≤ (s_hr xs p - 48).toInt ∧ (s_hr xs p - 48).toInt ≤ 9)) : s_ff p k pt (xs.drop p) = nI p := by
  by_cases h1 : p < xs.length
  · rw [dr_cons h1, ff_nofig hpt (nofig_v h1 h)]
  · rw [List.drop_eq_nil_of_le (by omega), ff_nil, if_pos (Or.inl hpt)]
theorem tr_it {xs : List Int32} {p : Nat} (h1 : p + 2 < xs.length) (hk : ¬ (s_kl (xs.getD p 0)).toInt = -9) (hy : (xs.getD (p + 1) 0).toInt < 98) (hw : (xs.getD (p + 2) 0).toInt < 98) : s_it (xs.drop p) = (s_kl (xs.getD p 0), xs.getD (p + 1) 0 - 48, xs.getD (p + 2) 0 - 48) :: s_it (xs.drop (p + 3)) := by
  rw [dr_cons (show p < xs.length by omega), dr_cons (show p + 1 < xs.length by omega), dr_cons (show p + 1 + 1 < xs.length by omega), s_it, if_neg hk, it_skip (kl_no hy), it_skip (kl_no hw)]
def RI_ (m : Mu) (its : List Tri) : Prop := ∀ i, i < its.length → m 72 (3 * i) = (t_at its i).1 ∧ m 72 (3 * i + 1) = (t_at its i).2.1 ∧ m 72 (3 * i + 2) = (t_at its i).2.2
theorem ri_keep {m m2 : Mu} {its : List Tri} {k : Nat} (h : RI_ m its) (hk : its.length = k) (hf : RF m m2 k) : RI_ m2 its := by
  intro i hi
  obtain ⟨a, b, c⟩ := h i hi
  exact ⟨by rw [hf.2.2 _ (by omega), a], by rw [hf.2.2 _ (by omega), b], by rw [hf.2.2 _ (by omega), c]⟩
theorem ri_add {m m2 : Mu} {its : List Tri} {k : Nat} {e : Tri} (h : RI_ m its) (hk : its.length = k) (hf : RF m m2 k) (h0 : m2 72 (3 * k) = e.1) (h1 : m2 72 (3 * k + 1) = e.2.1) (h2 : m2 72 (3 * k + 2) = e.2.2) : RI_ m2 (its ++ [e]) := by
  intro i hi
  simp only [List.length_append, List.length_cons, List.length_nil] at hi
  by_cases c : i = k
  · subst c
    subst hk
    rw [t_eq]; exact ⟨h0, h1, h2⟩
  · rw [t_lt (by omega)]
    exact ri_keep h hk hf i (by omega)
def RFm (mu m : Mu) : Prop := (∀ c, c ≠ 64 → c ≠ 72 → m c = mu c) ∧ ∀ j, j < 11 → m 64 j = mu 64 j
theorem rfm_rf {mu m m2 : Mu} {k : Nat} (h : RFm mu m) (hf : RF m m2 k) : RFm mu m2 := ⟨fun c a b => (hf.1 c a b).trans (h.1 c a b), fun j hj => (hf.2.1 j (by omega) (by omega)).trans (h.2 j hj)⟩
/-- the state of the reading at the head of its loop -/
def FS (mu m : Mu) (t : Nat) (xs : List Int32) (p k : Nat) (its : List Tri) : Prop := RS m t xs p k ∧ p ≤ xs.length ∧ k ≤ 7 ∧ its.length = k ∧ s_ff 0 0 0 xs = s_ff p k 0 (xs.drop p) ∧ s_it xs = its ++ s_it (xs.drop p) ∧ RI_ m its ∧ RFm mu m
theorem fs_blank {mu m m2 : Mu} {t p k : Nat} {xs : List Int32} {its : List Tri} (h : FS mu m t xs p k its) (hb : (s_hr xs p).toInt = 32) (e : m2 = mu_up m 64 12 (nI (p + 1))) : FS mu m2 t xs (p + 1) k its ∧ p < xs.length := by
  obtain ⟨h1, h2, h3, h4, h5, h6, h7, h8⟩ := h
  have hp : p < xs.length := by
    by_cases c : p < xs.length
    · exact c
    · rw [hr_out c] at hb; exact absurd hb (by decide)
  rw [hr_in hp] at hb
  have hrf : RF m m2 k := rf_64 rf_rfl (Or.inl rfl) e
  refine ⟨⟨rs_place h1 e, by omega, h3, h4, ?_, ?_, ri_keep h7 h4 hrf, rfm_rf h8 hrf⟩, hp⟩
  · rw [h5, dr_cons hp, ff_blank (by decide) hb]
  · rw [h6, dr_cons hp, it_skip (kl_no (by omega))]
theorem fs_item {mu m m2 : Mu} {nu n2 : Nu} {t p k : Nat} {xs : List Int32} {its : List Tri} {r : Int32} (h : FS mu m t xs p k its) (hr : TR m nu t xs p k r m2 n2) (h1 : ¬ r.toInt = 0) : ∃ e, FS mu m2 t xs (p + 3) (k + 1) (its ++ [e]) := by
  obtain ⟨g1, g2, g3, g4, g5, g6, g7, g8⟩ := h
  obtain ⟨-, hf, hr⟩ := hr
  rcases hr with ⟨e0, -⟩ | ⟨-, q1, q2, q3, q4, e, q5, q6, q7, q8⟩
  · rw [e0] at h1; exact absurd rfl h1
  · exact ⟨e, q1, q2, by omega, by simp [g4], g5.trans q4, by rw [g6, q5, List.append_assoc]; rfl, ri_add g7 g4 hf q6 q7 q8, rfm_rf g8 hf⟩
theorem fs_stop {mu m m2 : Mu} {nu n2 : Nu} {t p k : Nat} {xs : List Int32} {its : List Tri} {r : Int32} (h : FS mu m t xs p k its) (hr : TR m nu t xs p k r m2 n2) (h1 : r.toInt = 0) : m2 64 12 = s_ff 0 0 0 xs ∧ RFm mu m2 := by
  obtain ⟨g1, g2, g3, g4, g5, g6, g7, g8⟩ := h
  obtain ⟨-, hf, hr⟩ := hr
  rcases hr with ⟨-, p2, a, b, -⟩ | ⟨e1, -⟩
  · exact ⟨by rw [a, g5, b], rfm_rf g8 hf⟩
  · rw [e1] at h1; exact absurd h1 (by decide)
def FO (mu : Mu) (nu : Nu) (xs : List Int32) : Int32 → Mu → Nu → Prop := fun r m n2 => n2 = nu ∧ r = s_ff 0 0 0 xs ∧ RFm mu m ∧ (r.toInt = -9 → m 64 14 = nI (s_it xs).length ∧ RI_ m (s_it xs))
theorem ff_pos : ∀ (l : List Int32) (p it pt : Nat), p + l.length ≤ 60 → (s_ff p it pt l).toInt = -9 ∨ 0 ≤ (s_ff p it pt l).toInt
  | [], p, it, pt, hp => by
    rw [ff_nil]
    split
    · right; rw [nI_toInt (by simp at hp; omega)]; omega
    · left; decide
  | x :: l, p, it, pt, hp => by
    simp only [List.length_cons] at hp
    rw [s_ff]
    split
    · split
      · exact ff_pos l _ _ _ (by omega)
      · right; rw [nI_toInt (by omega)]; omega
    · split
      · exact ff_pos l _ _ _ (by omega)
      · split
        · right; rw [nI_toInt (by omega)]; omega
        · exact ff_pos l _ _ _ (by omega)
theorem PM_fo {mu m : Mu} {nu n2 : Nu} {z : Zt} {xs : List Int32} {r : Int32} (hz : ZM mu nu z) (h : FO mu nu xs r m n2) : ZM m n2 z ∧ z_cm mu nu m n2 := by
  obtain ⟨rfl, -, hf, -⟩ := h
  exact ⟨zm_keep hz (fun c h1 h2 => hf.1 c (by omega) (by omega)) (hf.2 5 (by decide)) (hf.2 7 (by decide)) rfl rfl, fun c hc => hf.1 c (by omega) (by omega), fun _ _ => rfl⟩
theorem ff_ge : ∀ (l : List Int32) (p it pt : Nat), p + l.length ≤ 60 → (s_ff p it pt l).toInt ≤ 60
  | [], p, it, pt, hp => by
    rw [ff_nil]
    split
    · rw [nI_toInt (by simp at hp; omega)]; simp at hp; omega
    · decide
  | x :: l, p, it, pt, hp => by
    simp only [List.length_cons] at hp
    rw [s_ff]
    split
    · split
      · exact ff_ge l _ _ _ (by omega)
      · rw [nI_toInt (by omega)]; omega
    · split
      · exact ff_ge l _ _ _ (by omega)
      · split
        · rw [nI_toInt (by omega)]; omega
        · exact ff_ge l _ _ _ (by omega)
theorem zm_box {mu m : Mu} {nu : Nu} {z : Zt} {its : List Tri} (h : ZM mu nu z) (h2 : 2 ≤ its.length) (h7 : its.length ≤ 7) (hok : ∀ e ∈ its, it_ok e) (hc : ∀ c, 66 ≤ c → c ≤ 70 → m c = mu c) (h0 : ∀ j, j < 11 → m 64 j = mu 64 j) (hN : m 65 0 = nI its.length) (hz0 : ∀ j, 1 ≤ j → j < 1568 → ¬ (10 ≤ j ∧ j < 31) → m 65 j = 0) (hr : ∀ i, i < its.length → m 65 (10 + i) = (t_at its i).1 ∧ m 65 (17 + i) = (t_at its i).2.1 ∧ m 65 (24 + i) = (t_at its i).2.2) : ZM m nu (s_bx z its) := by
  obtain ⟨h1, h2', h3, h4, h5, h6, ⟨a1, a2, a3, a4, a5⟩, h8⟩ := h
  refine ⟨⟨h7, fun i hi => ?_, Nat.zero_le 7, fun p hp => absurd hp (Nat.not_lt_zero _), (by decide : (0 : Nat) < 128)⟩, ⟨hN, hz0 1 (by decide) (by decide) (by decide), hz0 2 (by decide) (by decide) (by decide), fun p hp => absurd hp (Nat.not_lt_zero _), fun i hi => ?_, hz0 31 (by decide) (by decide) (by decide), fun d hd => absurd hd (Nat.not_lt_zero _)⟩, ⟨Nat.zero_le 40, fun d hd => ?_⟩, fun k hk => ?_, fun r hr => zar_keep (h5 r hr) (by rw [hc 66 (by decide) (by decide)]) (fun j _ => by rw [hc 67 (by decide) (by decide)]), fun r hr => zar_keep (h6 r hr) (by rw [hc 68 (by decide) (by decide)]) (fun j _ => by rw [hc 69 (by decide) (by decide)]), ⟨by rw [h0 7 (by decide)]; exact a1, a2, a3, by rw [h0 5 (by decide)]; exact a4, fun f hf => by rw [hc 70 (by decide) (by decide)]; exact a5 f hf⟩, Or.inr h2⟩
  · have hi : i < its.length := hi
    obtain ⟨q1, q2, q3⟩ := hok _ (t_mem hi)
    show ix (t_at its i).1 < 6 ∧ ix (t_at its i).2.1 ≤ 9 ∧ ix (t_at its i).2.2 ≤ 9
    unfold ix
    omega
  · have hi : i < its.length := hi
    obtain ⟨q1, q2, q3⟩ := hok _ (t_mem hi)
    show m 65 (10 + i) = nI (ix (t_at its i).1) ∧ m 65 (17 + i) = nI (ix (t_at its i).2.1) ∧ m 65 (24 + i) = nI (ix (t_at its i).2.2)
    rw [← (ix_eq (x := (t_at its i).1) (by omega)).1, ← (ix_eq (x := (t_at its i).2.1) (by omega)).1, ← (ix_eq (x := (t_at its i).2.2) (by omega)).1]
    exact hr i hi
  · have hd : d = 0 := Nat.le_zero.mp hd
    subst hd
    exact ⟨fun x hx => absurd hx List.not_mem_nil, List.nodup_nil, (by decide : (0 : Nat) < 128)⟩
  · show m 65 (392 + 392 * k + 0) = 0
    exact hz0 _ (by omega) (by omega) (by omega)
set_option maxHeartbeats 4000000 in
set_option maxRecDepth 100000 in
theorem c_X11_kindOf (l : Launch) (G : Gl) (mu : Mu) (nu : Nu) (x : Int32) : Cf l G mX11_kindOf 1 [.int x] mu nu (.int (s_ko x)) := by
  refine Ct.of (lv := [(0, .int x)]) rfl rfl (Nat.le_of_ble_eq_true rfl) rfl (fun X C => ?_)
  generalize hQ : g_E G X _ = Q
  replace C : Cx G 1 X cX11_kindOf RX11 (some .int) 1 := C
  show Mq l G 1 X Q 0 [(0, .int x)] [] mu nu
  refine m_iload_n C 0 dX11_kindOf_0 rfl ?_
  refine m_bipush C 114 dX11_kindOf_1 (by decide +kernel) ?_
  refine m_icmp_ne C 10 dX11_kindOf_3 (by decide) (fun hh1 => ?_) (fun hh1 => ?_)
  · replace hh1 := mt (ii_eq (rfl : (x).toInt = _) (nn_i (a := 114) rfl (by omega))).mpr hh1
    refine m_iload_n C 0 dX11_kindOf_10 rfl ?_
    refine m_bipush C 119 dX11_kindOf_11 (by decide +kernel) ?_
    refine m_icmp_ne C 20 dX11_kindOf_13 (by decide) (fun hh2 => ?_) (fun hh2 => ?_)
    · replace hh2 := mt (ii_eq (rfl : (x).toInt = _) (nn_i (a := 119) rfl (by omega))).mpr hh2
      refine m_iload_n C 0 dX11_kindOf_20 rfl ?_
      refine m_bipush C 116 dX11_kindOf_21 (by decide +kernel) ?_
      refine m_icmp_ne C 30 dX11_kindOf_23 (by decide) (fun hh3 => ?_) (fun hh3 => ?_)
      · replace hh3 := mt (ii_eq (rfl : (x).toInt = _) (nn_i (a := 116) rfl (by omega))).mpr hh3
        refine m_iload_n C 0 dX11_kindOf_30 rfl ?_
        refine m_bipush C 115 dX11_kindOf_31 (by decide +kernel) ?_
        refine m_icmp_ne C 40 dX11_kindOf_33 (by decide) (fun hh4 => ?_) (fun hh4 => ?_)
        · replace hh4 := mt (ii_eq (rfl : (x).toInt = _) (nn_i (a := 115) rfl (by omega))).mpr hh4
          refine m_iload_n C 0 dX11_kindOf_40 rfl ?_
          refine m_bipush C 98 dX11_kindOf_41 (by decide +kernel) ?_
          refine m_icmp_ne C 50 dX11_kindOf_43 (by decide) (fun hh5 => ?_) (fun hh5 => ?_)
          · replace hh5 := mt (ii_eq (rfl : (x).toInt = _) (nn_i (a := 98) rfl (by omega))).mpr hh5
            refine m_iload_n C 0 dX11_kindOf_50 rfl ?_
            refine m_bipush C 100 dX11_kindOf_51 (by decide +kernel) ?_
            refine m_icmp_ne C 60 dX11_kindOf_53 (by decide) (fun hh6 => ?_) (fun hh6 => ?_)
            · replace hh6 := mt (ii_eq (rfl : (x).toInt = _) (nn_i (a := 100) rfl (by omega))).mpr hh6
              refine m_iconst C (-1) dX11_kindOf_60 (by decide +kernel) ?_
              refine m_iretf C hQ dX11_kindOf_61 rfl rfl ?_
              unfold s_ko; rw [if_neg (by omega), if_neg (by omega), if_neg (by omega), if_neg (by omega), if_neg (by omega), if_neg (by omega)]
            replace hh6 := (ii_eq (rfl : (x).toInt = _) (nn_i (a := 100) rfl (by omega))).mp hh6
            refine m_iconst C 5 dX11_kindOf_56 (by decide +kernel) ?_
            refine m_goto C 61 dX11_kindOf_57 (by decide) ?_
            refine m_iretf C hQ dX11_kindOf_61 rfl rfl ?_
            unfold s_ko; rw [if_neg (by omega), if_neg (by omega), if_neg (by omega), if_neg (by omega), if_neg (by omega), if_pos (by omega)]
          replace hh5 := (ii_eq (rfl : (x).toInt = _) (nn_i (a := 98) rfl (by omega))).mp hh5
          refine m_iconst C 4 dX11_kindOf_46 (by decide +kernel) ?_
          refine m_goto C 61 dX11_kindOf_47 (by decide) ?_
          refine m_iretf C hQ dX11_kindOf_61 rfl rfl ?_
          unfold s_ko; rw [if_neg (by omega), if_neg (by omega), if_neg (by omega), if_neg (by omega), if_pos (by omega)]
        replace hh4 := (ii_eq (rfl : (x).toInt = _) (nn_i (a := 115) rfl (by omega))).mp hh4
        refine m_iconst C 3 dX11_kindOf_36 (by decide +kernel) ?_
        refine m_goto C 61 dX11_kindOf_37 (by decide) ?_
        refine m_iretf C hQ dX11_kindOf_61 rfl rfl ?_
        unfold s_ko; rw [if_neg (by omega), if_neg (by omega), if_neg (by omega), if_pos (by omega)]
      replace hh3 := (ii_eq (rfl : (x).toInt = _) (nn_i (a := 116) rfl (by omega))).mp hh3
      refine m_iconst C 2 dX11_kindOf_26 (by decide +kernel) ?_
      refine m_goto C 61 dX11_kindOf_27 (by decide) ?_
      refine m_iretf C hQ dX11_kindOf_61 rfl rfl ?_
      unfold s_ko; rw [if_neg (by omega), if_neg (by omega), if_pos (by omega)]
    replace hh2 := (ii_eq (rfl : (x).toInt = _) (nn_i (a := 119) rfl (by omega))).mp hh2
    refine m_iconst C 1 dX11_kindOf_16 (by decide +kernel) ?_
    refine m_goto C 61 dX11_kindOf_17 (by decide) ?_
    refine m_iretf C hQ dX11_kindOf_61 rfl rfl ?_
    unfold s_ko; rw [if_neg (by omega), if_pos (by omega)]
  replace hh1 := (ii_eq (rfl : (x).toInt = _) (nn_i (a := 114) rfl (by omega))).mp hh1
  refine m_iconst C 0 dX11_kindOf_6 (by decide +kernel) ?_
  refine m_goto C 61 dX11_kindOf_7 (by decide) ?_
  refine m_iretf C hQ dX11_kindOf_61 rfl rfl ?_
  unfold s_ko; rw [if_pos (by omega)]

set_option maxHeartbeats 4000000 in
set_option maxRecDepth 100000 in
theorem c_X11_here (l : Launch) (G : Gl) (mu : Mu) (nu : Nu) (t : Nat) (ht : t < 4) (xs : List Int32) (hl60 : xs.length ≤ 60) (p k : Nat) (hp : p ≤ xs.length) (hrs : RS mu t xs p k) : Cf l G mX11_here 1 [.ref (G.1 64)] mu nu (.int (s_hr xs p)) := by
  refine Ct.of (lv := [(0, .ref (G.1 64))]) rfl rfl (Nat.le_of_ble_eq_true rfl) rfl (fun X C => ?_)
  generalize hQ : g_E G X _ = Q
  replace C : Cx G 1 X cX11_here RX11 (some .int) 1 := C
  show Mq l G 1 X Q 0 [(0, .ref (G.1 64))] [] mu nu
  refine m_aload_n C 0 dX11_here_0 rfl ?_
  refine gfX11_89 C dX11_here_1 ?_
  refine m_topi (nI p) hrs.2.1 ?_
  refine m_aload_n C 0 dX11_here_4 rfl ?_
  refine gfX11_92 C dX11_here_5 ?_
  refine m_topi (nI xs.length) hrs.2.2.1 ?_
  refine m_icmp_ge C 28 dX11_here_8 (by decide) (fun hh1 => ?_) (fun hh1 => ?_)
  · replace hh1 := (ii_le (nn_i (a := xs.length) rfl (by omega)) (nn_i (a := p) rfl (by omega))).mp hh1
    refine m_sipush C (-1000) dX11_here_28 (by decide +kernel) ?_
    refine m_iretf C hQ dX11_here_31 rfl rfl ?_
    exact (hr_out (by omega)).symm
  replace hh1 := mt (ii_le (nn_i (a := xs.length) rfl (by omega)) (nn_i (a := p) rfl (by omega))).mpr hh1
  refine m_aload_n C 0 dX11_here_11 rfl ?_
  refine gfX11_22 C dX11_here_12 ?_
  refine m_aload_n C 0 dX11_here_15 rfl ?_
  refine gfX11_95 C dX11_here_16 ?_
  refine m_topi (nI (60 * t)) hrs.1 ?_
  refine m_aload_n C 0 dX11_here_19 rfl ?_
  refine gfX11_89 C dX11_here_20 ?_
  refine m_topi (nI p) hrs.2.1 ?_
  refine m_iadd C dX11_here_23 ?_
  refine m_topi (nI ((60 * t) + p)) (nn_add rfl rfl) ?_
  refine m_iald C 69 (by decide) sa_69 ((60 * t) + p) rfl (by omega) (by decide) dX11_here_24 ?_
  refine m_topi (xs.getD p 0) (hrs.2.2.2.2 p (by omega)) ?_
  refine m_goto C 31 dX11_here_25 (by decide) ?_
  refine m_iretf C hQ dX11_here_31 rfl rfl ?_
  exact (hr_in (by omega)).symm

set_option maxHeartbeats 4000000 in
set_option maxRecDepth 100000 in
theorem c_X11_takesRod (l : Launch) (G : Gl) (mu : Mu) (nu : Nu) (t : Nat) (ht : t < 4) (xs : List Int32) (hl60 : xs.length ≤ 60) (p k : Nat) (hp : p ≤ xs.length) (hrs : RS mu t xs p k) (hk7 : k ≤ 7) (hbl : ¬ (s_hr xs p).toInt = 32) (hq : p < xs.length ∨ k < 2) : Ci l G mX11_takesRod 2 [.ref (G.1 64)] mu nu (TR mu nu t xs p k) := by
  refine Ct.of (lv := [(0, .ref (G.1 64))]) rfl rfl (Nat.le_of_ble_eq_true rfl) rfl (fun X C => ?_)
  generalize hQ : g_E G X _ = Q
  replace C : Cx G 5 X cX11_takesRod RX11 (some .boolean) 2 := C
  show Mq l G 5 X Q 0 [(0, .ref (G.1 64))] [] mu nu
  refine m_aload_n C 0 dX11_takesRod_0 rfl ?_
  refine m_callVf C 64 (by decide) rfl rfl (c_X11_here l G mu nu t ht xs hl60 p k hp hrs) wkX11_98 (by decide) rfl rfl (Nat.le_of_ble_eq_true rfl) dX11_takesRod_1 ?_
  refine m_callSf C (c_X11_kindOf l G mu nu (s_hr xs p)) wkX11_102 (by decide) rfl rfl (Nat.le_of_ble_eq_true rfl) dX11_takesRod_4 ?_
  refine m_istore_n C [(1, .int (s_ko (s_hr xs p))), (0, .ref (G.1 64))] dX11_takesRod_7 (by decide) rfl ?_
  refine m_iload_n C 0 dX11_takesRod_8 rfl ?_
  refine m_if_lt C 21 dX11_takesRod_9 (by decide) (fun hh1 => ?_) (fun hh1 => ?_)
  · replace hh1 := (ii_lt (rfl : (s_ko (s_hr xs p)).toInt = _) (nn_i (a := 0) rfl (by omega))).mp hh1
    refine m_iconst C 0 dX11_takesRod_21 (by decide +kernel) ?_
    refine m_zreti C hQ dX11_takesRod_22 rfl ?_
    exact ⟨rfl, rf_rfl, Or.inl ⟨rfl, p, hrs.2.1, tr_stop hbl hq hp (by omega), by omega⟩⟩
  replace hh1 := mt (ii_lt (rfl : (s_ko (s_hr xs p)).toInt = _) (nn_i (a := 0) rfl (by omega))).mpr hh1
  refine m_aload_n C 1 dX11_takesRod_12 rfl ?_
  refine gfX11_105 C dX11_takesRod_13 ?_
  refine m_topi (nI k) hrs.2.2.2.1 ?_
  refine m_bipush C 7 dX11_takesRod_16 (by decide +kernel) ?_
  refine m_icmp_ne C 23 dX11_takesRod_18 (by decide) (fun hh2 => ?_) (fun hh2 => ?_)
  · replace hh2 := mt (ii_eq (nn_i (a := k) rfl (by omega)) (nn_i (a := 7) rfl (by omega))).mpr hh2
    have hti := tr_in (k := k) hbl (by omega) (by omega)
    refine m_aload_n C 1 dX11_takesRod_23 rfl ?_
    refine m_dup C dX11_takesRod_24 rfl ?_
    refine gfX11_89 C dX11_takesRod_25 ?_
    refine m_topi (nI p) hrs.2.1 ?_
    refine m_iconst C 1 dX11_takesRod_28 (by decide +kernel) ?_
    refine m_iadd C dX11_takesRod_29 ?_
    refine m_topi (nI (p + 1)) (nn_add rfl rfl) ?_
    refine pfX11_89 C dX11_takesRod_30 ?_
    refine m_nameM (fun mu3 emu3 => ?_)
    have hrs_mu3 : RS mu3 t xs (p + 1) k := rs_place hrs emu3
    have hrf_mu3 : RF mu mu3 k := rf_64 rf_rfl (Or.inl rfl) emu3
    refine m_iconst C 3 dX11_takesRod_33 (by decide +kernel) ?_
    refine m_aload_n C 1 dX11_takesRod_34 rfl ?_
    refine gfX11_105 C dX11_takesRod_35 ?_
    refine m_topi (nI k) hrs_mu3.2.2.2.1 ?_
    refine m_imul C dX11_takesRod_38 ?_
    refine m_topi (nI (3 * k)) (nn_mul rfl rfl) ?_
    refine m_istore_n C [(2, .int (nI (3 * k))), (1, .int (s_ko (s_hr xs p))), (0, .ref (G.1 64))] dX11_takesRod_39 (by decide) rfl ?_
    refine m_aload_n C 2 dX11_takesRod_40 rfl ?_
    refine gfX11_35 C dX11_takesRod_41 ?_
    refine m_iload_n C 0 dX11_takesRod_44 rfl ?_
    refine m_iload_n C 1 dX11_takesRod_45 rfl ?_
    refine m_iast C 72 (by decide) sa_72 (3 * k) rfl (by omega) (by decide) dX11_takesRod_46 ?_
    refine m_nameM (fun mu4 emu4 => ?_)
    have hrs_mu4 : RS mu4 t xs (p + 1) (k) := rs_read hrs_mu3 emu4
    have hrf_mu4 : RF mu mu4 k := rf_72 hrf_mu3 (by omega) emu4
    refine m_iconst C 1 dX11_takesRod_47 (by decide +kernel) ?_
    refine m_istore_n C [(3, .int 1), (2, .int (nI (3 * k))), (1, .int (s_ko (s_hr xs p))), (0, .ref (G.1 64))] dX11_takesRod_48 (by decide) rfl ?_
    refine m_iload_n C 0 dX11_takesRod_49 rfl ?_
    refine m_iconst C 3 dX11_takesRod_50 (by decide +kernel) ?_
    refine m_icmp_ge C 104 dX11_takesRod_51 (by decide) (fun h => absurd h (by decide)) (fun _ => ?_)
    refine m_aload_n C 3 dX11_takesRod_54 rfl ?_
    refine m_callVf C 64 (by decide) rfl rfl (c_X11_here l G mu4 nu t ht xs hl60 (p + 1) k (by omega) hrs_mu4) wkX11_98 (by decide) rfl rfl (Nat.le_of_ble_eq_true rfl) dX11_takesRod_55 ?_
    refine m_bipush C 48 dX11_takesRod_58 (by decide +kernel) ?_
    refine m_isub C dX11_takesRod_60 ?_
    refine m_istore C [(4, .int ((s_hr xs (p + 1)) - 48)), (3, .int 1), (2, .int (nI (3 * k))), (1, .int (s_ko (s_hr xs p))), (0, .ref (G.1 64))] dX11_takesRod_61 (by decide) rfl ?_
    refine m_iload C 0 dX11_takesRod_63 rfl ?_
    refine m_i2l C dX11_takesRod_65 ?_
    refine m_lconst C 0 dX11_takesRod_66 rfl ?_
    refine m_ldc2 C 9 wcX11_74 dX11_takesRod_67 ?_
    refine m_callSf C (c_in (a := ((s_hr xs (p + 1)) - 48).toInt) (b := ((0 : Nat) : Int)) (c := ((9 : Nat) : Int)) ((tl_i _).trans (rfl : ((s_hr xs (p + 1)) - 48).toInt = _)) (ln_i (a := 0) rfl (by omega)) (ln_i (a := 9) rfl (by omega))) wkX11_68 (by decide) rfl rfl (Nat.le_of_ble_eq_true rfl) dX11_takesRod_70 ?_
    refine m_if_ne C 78 dX11_takesRod_73 (by decide) (fun hh5 => ?_) (fun hh5 => ?_)
    · replace hh5 := bI_ne0.mp hh5
      have hfg1 := fig_v hh5.1 hh5.2
      have hf1 : s_ff (p + 1) (k + 1) 1 (xs.drop (p + 1)) = s_ff (p + 2) (k + 1) 2 (xs.drop (p + 2)) := by rw [dr_cons hfg1.1, ff_fig (by decide) hfg1.2]
      refine m_aload_n C 4 dX11_takesRod_78 rfl ?_
      refine gfX11_35 C dX11_takesRod_79 ?_
      refine m_iload_n C 2 dX11_takesRod_82 rfl ?_
      refine m_iload_n C 1 dX11_takesRod_83 rfl ?_
      refine m_iadd C dX11_takesRod_84 ?_
      refine m_topi (nI ((3 * k) + 1)) (nn_add rfl rfl) ?_
      refine m_iload C 0 dX11_takesRod_85 rfl ?_
      refine m_iast C 72 (by decide) sa_72 ((3 * k) + 1) rfl (by omega) (by decide) dX11_takesRod_87 ?_
      refine m_nameM (fun mu6 emu6 => ?_)
      have hrs_mu6 : RS mu6 t xs (p + 1) (k) := rs_read hrs_mu4 emu6
      have hrf_mu6 : RF mu mu6 k := rf_72 hrf_mu4 (by omega) emu6
      refine m_aload_n C 4 dX11_takesRod_88 rfl ?_
      refine m_dup C dX11_takesRod_89 rfl ?_
      refine gfX11_89 C dX11_takesRod_90 ?_
      refine m_topi (nI (p + 1)) hrs_mu6.2.1 ?_
      refine m_iconst C 1 dX11_takesRod_93 (by decide +kernel) ?_
      refine m_iadd C dX11_takesRod_94 ?_
      refine m_topi (nI ((p + 1) + 1)) (nn_add rfl rfl) ?_
      refine pfX11_89 C dX11_takesRod_95 ?_
      refine m_nameM (fun mu7 emu7 => ?_)
      have hrs_mu7 : RS mu7 t xs (p + 2) (k) := rs_place hrs_mu6 emu7
      have hrf_mu7 : RF mu mu7 k := rf_64 hrf_mu6 (Or.inl rfl) emu7
      refine m_iinc C 1 2 [(3, .int 2), (4, .int ((s_hr xs (p + 1)) - 48)), (2, .int (nI (3 * k))), (1, .int (s_ko (s_hr xs p))), (0, .ref (G.1 64))] dX11_takesRod_98 rfl (by decide +kernel) (by decide) rfl ?_
      refine m_goto C 49 dX11_takesRod_101 (by decide) ?_
      refine m_iload_n C 0 dX11_takesRod_49 rfl ?_
      refine m_iconst C 3 dX11_takesRod_50 (by decide +kernel) ?_
      refine m_icmp_ge C 104 dX11_takesRod_51 (by decide) (fun h => absurd h (by decide)) (fun _ => ?_)
      refine m_aload_n C 4 dX11_takesRod_54 rfl ?_
      refine m_callVf C 64 (by decide) rfl rfl (c_X11_here l G mu7 nu t ht xs hl60 (p + 2) k (by omega) hrs_mu7) wkX11_98 (by decide) rfl rfl (Nat.le_of_ble_eq_true rfl) dX11_takesRod_55 ?_
      refine m_bipush C 48 dX11_takesRod_58 (by decide +kernel) ?_
      refine m_isub C dX11_takesRod_60 ?_
      refine m_istore C [(4, .int ((s_hr xs (p + 2)) - 48)), (3, .int 2), (2, .int (nI (3 * k))), (1, .int (s_ko (s_hr xs p))), (0, .ref (G.1 64))] dX11_takesRod_61 (by decide) rfl ?_
      refine m_iload C 0 dX11_takesRod_63 rfl ?_
      refine m_i2l C dX11_takesRod_65 ?_
      refine m_lconst C 0 dX11_takesRod_66 rfl ?_
      refine m_ldc2 C 9 wcX11_74 dX11_takesRod_67 ?_
      refine m_callSf C (c_in (a := ((s_hr xs (p + 2)) - 48).toInt) (b := ((0 : Nat) : Int)) (c := ((9 : Nat) : Int)) ((tl_i _).trans (rfl : ((s_hr xs (p + 2)) - 48).toInt = _)) (ln_i (a := 0) rfl (by omega)) (ln_i (a := 9) rfl (by omega))) wkX11_68 (by decide) rfl rfl (Nat.le_of_ble_eq_true rfl) dX11_takesRod_70 ?_
      refine m_if_ne C 78 dX11_takesRod_73 (by decide) (fun hh8 => ?_) (fun hh8 => ?_)
      · replace hh8 := bI_ne0.mp hh8
        have hfg2 := fig_v hh8.1 hh8.2
        have hf2 : s_ff (p + 2) (k + 1) 2 (xs.drop (p + 2)) = s_ff (p + 3) (k + 1) 0 (xs.drop (p + 3)) := by rw [dr_cons hfg2.1, ff_fig (by decide) hfg2.2]
        refine m_aload_n C 4 dX11_takesRod_78 rfl ?_
        refine gfX11_35 C dX11_takesRod_79 ?_
        refine m_iload_n C 2 dX11_takesRod_82 rfl ?_
        refine m_iload_n C 1 dX11_takesRod_83 rfl ?_
        refine m_iadd C dX11_takesRod_84 ?_
        refine m_topi (nI ((3 * k) + 2)) (nn_add rfl rfl) ?_
        refine m_iload C 0 dX11_takesRod_85 rfl ?_
        refine m_iast C 72 (by decide) sa_72 ((3 * k) + 2) rfl (by omega) (by decide) dX11_takesRod_87 ?_
        refine m_nameM (fun mu9 emu9 => ?_)
        have hrs_mu9 : RS mu9 t xs (p + 2) (k) := rs_read hrs_mu7 emu9
        have hrf_mu9 : RF mu mu9 k := rf_72 hrf_mu7 (by omega) emu9
        refine m_aload_n C 4 dX11_takesRod_88 rfl ?_
        refine m_dup C dX11_takesRod_89 rfl ?_
        refine gfX11_89 C dX11_takesRod_90 ?_
        refine m_topi (nI (p + 2)) hrs_mu9.2.1 ?_
        refine m_iconst C 1 dX11_takesRod_93 (by decide +kernel) ?_
        refine m_iadd C dX11_takesRod_94 ?_
        refine m_topi (nI ((p + 2) + 1)) (nn_add rfl rfl) ?_
        refine pfX11_89 C dX11_takesRod_95 ?_
        refine m_nameM (fun mu10 emu10 => ?_)
        have hrs_mu10 : RS mu10 t xs (p + 3) (k) := rs_place hrs_mu9 emu10
        have hrf_mu10 : RF mu mu10 k := rf_64 hrf_mu9 (Or.inl rfl) emu10
        refine m_iinc C 1 3 [(3, .int 3), (4, .int ((s_hr xs (p + 2)) - 48)), (2, .int (nI (3 * k))), (1, .int (s_ko (s_hr xs p))), (0, .ref (G.1 64))] dX11_takesRod_98 rfl (by decide +kernel) (by decide) rfl ?_
        refine m_goto C 49 dX11_takesRod_101 (by decide) ?_
        refine m_iload_n C 0 dX11_takesRod_49 rfl ?_
        refine m_iconst C 3 dX11_takesRod_50 (by decide +kernel) ?_
        refine m_icmp_ge C 104 dX11_takesRod_51 (by decide) (fun _ => ?_) (fun h => absurd (by decide) h)
        refine m_aload_n C 4 dX11_takesRod_104 rfl ?_
        refine m_dup C dX11_takesRod_105 rfl ?_
        refine gfX11_105 C dX11_takesRod_106 ?_
        refine m_topi (nI k) hrs_mu10.2.2.2.1 ?_
        refine m_iconst C 1 dX11_takesRod_109 (by decide +kernel) ?_
        refine m_iadd C dX11_takesRod_110 ?_
        refine m_topi (nI (k + 1)) (nn_add rfl rfl) ?_
        refine pfX11_105 C dX11_takesRod_111 ?_
        refine m_nameM (fun mu11 emu11 => ?_)
        have hrs_mu11 : RS mu11 t xs (p + 3) (k + 1) := rs_many hrs_mu10 emu11
        have hrf_mu11 : RF mu mu11 k := rf_64 hrf_mu10 (Or.inr rfl) emu11
        refine m_iconst C 1 dX11_takesRod_114 (by decide +kernel) ?_
        refine m_zreti C hQ dX11_takesRod_115 rfl ?_
        exact ⟨rfl, hrf_mu11, Or.inr ⟨rfl, hrs_mu11, by omega, by omega, (hti.2.2.2.trans hf1).trans hf2, (s_kl (xs.getD p 0), xs.getD (p + 1) 0 - 48, xs.getD (p + 2) 0 - 48), tr_it (by omega) hti.2.2.1 (by omega) (by omega), by rw [emu11, mu_up_ne (by decide), emu10, mu_up_ne (by decide), emu9, mu_up_an (by omega), emu7, mu_up_ne (by decide), emu6, mu_up_an (by omega), emu4, mu_up_at]; exact hti.2.1, by rw [emu11, mu_up_ne (by decide), emu10, mu_up_ne (by decide), emu9, mu_up_an (by omega), emu7, mu_up_ne (by decide), emu6, mu_up_at]; rw [hr_in (by omega)], by rw [emu11, mu_up_ne (by decide), emu10, mu_up_ne (by decide), emu9, mu_up_at]; rw [hr_in (by omega)]⟩⟩
      replace hh8 := bI_eq0.mp hh8
      refine m_iconst C 0 dX11_takesRod_76 (by decide +kernel) ?_
      refine m_zreti C hQ dX11_takesRod_77 rfl ?_
      exact ⟨rfl, hrf_mu7, Or.inl ⟨rfl, p + 2, hrs_mu7.2.1, (hti.2.2.2.trans hf1).trans (tr_no (by decide) (by omega) (by omega)), by omega⟩⟩
    replace hh5 := bI_eq0.mp hh5
    refine m_iconst C 0 dX11_takesRod_76 (by decide +kernel) ?_
    refine m_zreti C hQ dX11_takesRod_77 rfl ?_
    exact ⟨rfl, hrf_mu4, Or.inl ⟨rfl, p + 1, hrs_mu4.2.1, hti.2.2.2.trans (tr_no (by decide) (by omega) (by omega)), by omega⟩⟩
  replace hh2 := (ii_eq (nn_i (a := k) rfl (by omega)) (nn_i (a := 7) rfl (by omega))).mp hh2
  refine m_iconst C 0 dX11_takesRod_21 (by decide +kernel) ?_
  refine m_zreti C hQ dX11_takesRod_22 rfl ?_
  exact ⟨rfl, rf_rfl, Or.inl ⟨rfl, p, hrs.2.1, tr_stop hbl hq hp (by omega), by omega⟩⟩

set_option maxHeartbeats 4000000 in
set_option maxRecDepth 100000 in
theorem c_X11_faultOf (l : Launch) (G : Gl) (mu : Mu) (nu : Nu) (t : Nat) (ht : t < 4) (xs : List Int32) (hl : mu 68 t = nI xs.length) (hl60 : xs.length ≤ 60) (hxs : ∀ j, j < xs.length → mu 69 (60 * t + j) = xs.getD j 0) : Ci l G mX11_faultOf 3 [.ref (G.1 64), .int (nI t)] mu nu (FO mu nu xs) := by
  refine Ct.of (lv := [(0, .ref (G.1 64)), (1, .int (nI t))]) rfl rfl (Nat.le_of_ble_eq_true rfl) rfl (fun X C => ?_)
  generalize hQ : g_E G X _ = Q
  replace C : Cx G 3 X cX11_faultOf RX11 (some .int) 3 := C
  show Mq l G 3 X Q 0 [(0, .ref (G.1 64)), (1, .int (nI t))] [] mu nu
  refine m_aload_n C 0 dX11_faultOf_0 rfl ?_
  refine m_bipush C 60 dX11_faultOf_1 (by decide +kernel) ?_
  refine m_iload_n C 1 dX11_faultOf_3 rfl ?_
  refine m_imul C dX11_faultOf_4 ?_
  refine m_topi (nI (60 * t)) (nn_mul rfl rfl) ?_
  refine pfX11_95 C dX11_faultOf_5 ?_
  refine m_nameM (fun mu1 emu1 => ?_)
  refine m_aload_n C 0 dX11_faultOf_8 rfl ?_
  refine m_iconst C 0 dX11_faultOf_9 (by decide +kernel) ?_
  refine pfX11_89 C dX11_faultOf_10 ?_
  refine m_nameM (fun mu2 emu2 => ?_)
  refine m_aload_n C 0 dX11_faultOf_13 rfl ?_
  refine m_aload_n C 0 dX11_faultOf_14 rfl ?_
  refine gfX11_19 C dX11_faultOf_15 ?_
  refine m_iload_n C 1 dX11_faultOf_18 rfl ?_
  refine m_iald C 68 (by decide) sa_68 t rfl (by omega) (by decide) dX11_faultOf_19 ?_
  refine m_topi (nI xs.length) (by rw [emu2, mu_up_ne (by decide), emu1, mu_up_ne (by decide)]; exact hl) ?_
  refine pfX11_92 C dX11_faultOf_20 ?_
  refine m_nameM (fun mu3 emu3 => ?_)
  refine m_aload_n C 0 dX11_faultOf_23 rfl ?_
  refine m_iconst C 0 dX11_faultOf_24 (by decide +kernel) ?_
  refine pfX11_105 C dX11_faultOf_25 ?_
  refine m_nameM (fun mu4 emu4 => ?_)
  have hfs0 : FS mu mu4 t xs 0 0 [] := ⟨⟨by rw [emu4, mu_up_an (by decide), emu3, mu_up_an (by decide), emu2, mu_up_an (by decide), emu1, mu_up_at], by rw [emu4, mu_up_an (by decide), emu3, mu_up_an (by decide), emu2, mu_up_at]; rfl, by rw [emu4, mu_up_an (by decide), emu3, mu_up_at], by rw [emu4, mu_up_at]; rfl, fun j hj => by rw [emu4, mu_up_ne (by decide), emu3, mu_up_ne (by decide), emu2, mu_up_ne (by decide), emu1, mu_up_ne (by decide)]; exact hxs j hj⟩, Nat.zero_le _, Nat.zero_le _, rfl, rfl, rfl, fun i hi => absurd hi (Nat.not_lt_zero _), fun c h1 h2 => by rw [emu4, mu_up_ne h1, emu3, mu_up_ne h1, emu2, mu_up_ne h1, emu1, mu_up_ne h1], fun j hj => by rw [emu4, mu_up_an (by omega), emu3, mu_up_an (by omega), emu2, mu_up_an (by omega), emu1, mu_up_an (by omega)]⟩
  refine m_iconst C 1 dX11_faultOf_28 (by decide +kernel) ?_
  refine m_istore_n C [(2, .int 1), (0, .ref (G.1 64)), (1, .int (nI t))] dX11_faultOf_29 (by decide) rfl ?_
  have L30 : ∀ (fu : Nat) (bn p k : Nat) (its : List Tri) (m : Mu) (hbn : bn = 1 ∨ (bn = 0 ∧ p = xs.length ∧ 2 ≤ k)) (hfs : FS mu m t xs p k its), 2 * (xs.length - p) + bn < fu → Mq l G 3 X Q 30 [(0, .ref (G.1 64)), (1, .int (nI t)), (2, .int (nI bn))] [] m nu := by
    intro fu
    induction fu with
    | zero => intro bn p k its m hbn hfs hm; exact absurd hm (Nat.not_lt_zero _)
    | succ fu ih30 =>
      intro bn p k its m hbn hfs hm
      have hpl := hfs.2.1
      have hk7 := hfs.2.2.1
      refine m_iload_n C 2 dX11_faultOf_30 rfl ?_
      refine m_if_eq C 97 dX11_faultOf_31 (by decide) (fun hh5 => ?_) (fun hh5 => ?_)
      · replace hh5 := (ii_eq (nn_i (a := bn) rfl (by omega)) (nn_i (a := 0) rfl (by omega))).mp hh5
        refine m_bipush C (-9) dX11_faultOf_97 (by decide +kernel) ?_
        refine m_ireti C hQ dX11_faultOf_99 ?_
        have hfs := hfs
        obtain ⟨g1, g2, g3, g4, g5, g6, g7, g8⟩ := hfs
        have hpe : p = xs.length := by omega
        have hk2 : 2 ≤ k := by omega
        rw [hpe, List.drop_length] at g5 g6
        rw [ff_nil, if_neg (by omega)] at g5
        have g6 : s_it xs = its := by rw [g6, it_short (by simp), List.append_nil]
        exact ⟨rfl, g5.symm, g8, fun _ => by rw [g6, g4]; exact ⟨g1.2.2.2.1, g7⟩⟩
      replace hh5 := mt (ii_eq (nn_i (a := bn) rfl (by omega)) (nn_i (a := 0) rfl (by omega))).mpr hh5
      have L34 : ∀ (fu : Nat) (p2 : Nat) (m2 : Mu) (hpp : p ≤ p2) (hf2 : FS mu m2 t xs p2 k its), xs.length - p2 < fu → Mq l G 3 X Q 34 [(0, .ref (G.1 64)), (1, .int (nI t)), (2, .int (nI bn))] [] m2 nu := by
        intro fu
        induction fu with
        | zero => intro p2 m2 hpp hf2 hm; exact absurd hm (Nat.not_lt_zero _)
        | succ fu ih34 =>
          intro p2 m2 hpp hf2 hm
          have hpl2 := hf2.2.1
          refine m_aload_n C 0 dX11_faultOf_34 rfl ?_
          refine m_callVf C 64 (by decide) rfl rfl (c_X11_here l G m2 nu t ht xs hl60 p2 k hf2.2.1 hf2.1) wkX11_98 (by decide) rfl rfl (Nat.le_of_ble_eq_true rfl) dX11_faultOf_35 ?_
          refine m_bipush C 32 dX11_faultOf_38 (by decide +kernel) ?_
          refine m_icmp_ne C 56 dX11_faultOf_40 (by decide) (fun hh6 => ?_) (fun hh6 => ?_)
          · replace hh6 := mt (ii_eq (rfl : (s_hr xs p2).toInt = _) (nn_i (a := 32) rfl (by omega))).mpr hh6
            have hnb : ¬ (s_hr xs p2).toInt = 32 := hh6
            refine m_aload_n C 0 dX11_faultOf_56 rfl ?_
            refine gfX11_89 C dX11_faultOf_57 ?_
            refine m_topi (nI p2) hf2.1.2.1 ?_
            refine m_aload_n C 0 dX11_faultOf_60 rfl ?_
            refine gfX11_92 C dX11_faultOf_61 ?_
            refine m_topi (nI xs.length) hf2.1.2.2.1 ?_
            refine m_icmp_lt C 75 dX11_faultOf_64 (by decide) (fun hh7 => ?_) (fun hh7 => ?_)
            · replace hh7 := (ii_lt (nn_i (a := p2) rfl (by omega)) (nn_i (a := xs.length) rfl (by omega))).mp hh7
              refine m_iconst C 1 dX11_faultOf_75 (by decide +kernel) ?_
              refine m_goto C 80 dX11_faultOf_76 (by decide) ?_
              refine m_istore_n C [(2, .int 1), (0, .ref (G.1 64)), (1, .int (nI t))] dX11_faultOf_80 (by decide) rfl ?_
              refine m_iload_n C 0 dX11_faultOf_81 rfl ?_
              refine m_if_eq C 30 dX11_faultOf_82 (by decide) (fun h => absurd h (by decide)) (fun _ => ?_)
              refine m_aload_n C 1 dX11_faultOf_85 rfl ?_
              refine m_callVi C 64 (by decide) rfl rfl (c_X11_takesRod l G m2 nu t ht xs hl60 p2 k hf2.2.1 hf2.1 hf2.2.2.1 hnb (by omega)) wkX11_108 (by decide) rfl rfl (Nat.le_of_ble_eq_true rfl) dX11_faultOf_86 (fun r8 m8 n8 hp8 => ?_)
              refine m_if_ne C 30 dX11_faultOf_89 (by decide) (fun hh9 => ?_) (fun hh9 => ?_)
              · replace hh9 := mt (ii_eq (rfl : (r8).toInt = _) (nn_i (a := 0) rfl (by omega))).mpr hh9
                obtain ⟨e, hfe⟩ := fs_item hf2 hp8 hh9
                have hn2 := hp8.1
                have hpe := hfe.2.1
                rw [hn2]
                exact m_sub [1, 2, 0] rfl (ih30 1 (p2 + 3) (k + 1) (its ++ [e]) m8 (Or.inl rfl) hfe (by omega))
              replace hh9 := (ii_eq (rfl : (r8).toInt = _) (nn_i (a := 0) rfl (by omega))).mp hh9
              have hst0 := hh9
              have hno9 : ¬ (s_ff 0 0 0 xs).toInt = -9 := by
                have g := hp8.2.2
                rcases g with ⟨-, p4, a, b, b2⟩ | ⟨e1, -⟩
                · rw [hf2.2.2.2.2.1, b, nI_toInt (by omega)]
                  omega
                · rw [e1] at hst0; exact absurd hst0 (by decide)
              refine m_aload_n C 1 dX11_faultOf_92 rfl ?_
              refine gfX11_89 C dX11_faultOf_93 ?_
              refine m_ireti C hQ dX11_faultOf_96 ?_
              obtain ⟨hs1, hs2⟩ := fs_stop hf2 hp8 hst0
              have hpos := ff_pos xs 0 0 0 (by omega)
              have hn3 := hp8.1
              rw [hs1, hn3]
              exact ⟨rfl, rfl, hs2, fun h9 => absurd h9 hno9⟩
            replace hh7 := mt (ii_lt (nn_i (a := p2) rfl (by omega)) (nn_i (a := xs.length) rfl (by omega))).mpr hh7
            refine m_aload_n C 0 dX11_faultOf_67 rfl ?_
            refine gfX11_105 C dX11_faultOf_68 ?_
            refine m_topi (nI k) hf2.1.2.2.2.1 ?_
            refine m_iconst C 2 dX11_faultOf_71 (by decide +kernel) ?_
            refine m_icmp_ge C 79 dX11_faultOf_72 (by decide) (fun hh10 => ?_) (fun hh10 => ?_)
            · replace hh10 := (ii_le (nn_i (a := 2) rfl (by omega)) (nn_i (a := k) rfl (by omega))).mp hh10
              refine m_iconst C 0 dX11_faultOf_79 (by decide +kernel) ?_
              refine m_istore_n C [(2, .int 0), (0, .ref (G.1 64)), (1, .int (nI t))] dX11_faultOf_80 (by decide) rfl ?_
              refine m_iload_n C 0 dX11_faultOf_81 rfl ?_
              refine m_if_eq C 30 dX11_faultOf_82 (by decide) (fun _ => ?_) (fun h => absurd (by decide) h)
              exact m_sub [1, 2, 0] rfl (ih30 0 p2 k its m2 (Or.inr ⟨rfl, by omega, by omega⟩) hf2 (by omega))
            replace hh10 := mt (ii_le (nn_i (a := 2) rfl (by omega)) (nn_i (a := k) rfl (by omega))).mpr hh10
            refine m_iconst C 1 dX11_faultOf_75 (by decide +kernel) ?_
            refine m_goto C 80 dX11_faultOf_76 (by decide) ?_
            refine m_istore_n C [(2, .int 1), (0, .ref (G.1 64)), (1, .int (nI t))] dX11_faultOf_80 (by decide) rfl ?_
            refine m_iload_n C 0 dX11_faultOf_81 rfl ?_
            refine m_if_eq C 30 dX11_faultOf_82 (by decide) (fun h => absurd h (by decide)) (fun _ => ?_)
            refine m_aload_n C 1 dX11_faultOf_85 rfl ?_
            refine m_callVi C 64 (by decide) rfl rfl (c_X11_takesRod l G m2 nu t ht xs hl60 p2 k hf2.2.1 hf2.1 hf2.2.2.1 hnb (by omega)) wkX11_108 (by decide) rfl rfl (Nat.le_of_ble_eq_true rfl) dX11_faultOf_86 (fun r11 m11 n11 hp11 => ?_)
            refine m_if_ne C 30 dX11_faultOf_89 (by decide) (fun hh12 => ?_) (fun hh12 => ?_)
            · replace hh12 := mt (ii_eq (rfl : (r11).toInt = _) (nn_i (a := 0) rfl (by omega))).mpr hh12
              obtain ⟨e, hfe⟩ := fs_item hf2 hp11 hh12
              have hn2 := hp11.1
              have hpe := hfe.2.1
              rw [hn2]
              exact m_sub [1, 2, 0] rfl (ih30 1 (p2 + 3) (k + 1) (its ++ [e]) m11 (Or.inl rfl) hfe (by omega))
            replace hh12 := (ii_eq (rfl : (r11).toInt = _) (nn_i (a := 0) rfl (by omega))).mp hh12
            have hst0 := hh12
            have hno9 : ¬ (s_ff 0 0 0 xs).toInt = -9 := by
              have g := hp11.2.2
              rcases g with ⟨-, p4, a, b, b2⟩ | ⟨e1, -⟩
              · rw [hf2.2.2.2.2.1, b, nI_toInt (by omega)]
                omega
              · rw [e1] at hst0; exact absurd hst0 (by decide)
            refine m_aload_n C 1 dX11_faultOf_92 rfl ?_
            refine gfX11_89 C dX11_faultOf_93 ?_
            refine m_ireti C hQ dX11_faultOf_96 ?_
            obtain ⟨hs1, hs2⟩ := fs_stop hf2 hp11 hst0
            have hpos := ff_pos xs 0 0 0 (by omega)
            have hn3 := hp11.1
            rw [hs1, hn3]
            exact ⟨rfl, rfl, hs2, fun h9 => absurd h9 hno9⟩
          replace hh6 := (ii_eq (rfl : (s_hr xs p2).toInt = _) (nn_i (a := 32) rfl (by omega))).mp hh6
          refine m_aload_n C 0 dX11_faultOf_43 rfl ?_
          refine m_dup C dX11_faultOf_44 rfl ?_
          refine gfX11_89 C dX11_faultOf_45 ?_
          refine m_topi (nI p2) hf2.1.2.1 ?_
          refine m_iconst C 1 dX11_faultOf_48 (by decide +kernel) ?_
          refine m_iadd C dX11_faultOf_49 ?_
          refine m_topi (nI (p2 + 1)) (nn_add rfl rfl) ?_
          refine pfX11_89 C dX11_faultOf_50 ?_
          refine m_nameM (fun mu13 emu13 => ?_)
          obtain ⟨hf3, hlt⟩ := fs_blank hf2 hh6 emu13
          refine m_goto C 34 dX11_faultOf_53 (by decide) ?_
          exact m_sub [0, 1, 2] rfl (ih34 (p2 + 1) mu13 (by omega) hf3 (by omega))
      exact m_sub [0, 1, 2] rfl (L34 (_ + 1) p m (Nat.le_refl _) hfs (Nat.lt_succ_self _))
  exact m_sub [1, 2, 0] rfl (L30 (_ + 1) 1 0 0 ([]) mu4 (Or.inl rfl) hfs0 (Nat.lt_succ_self _))

set_option maxHeartbeats 4000000 in
set_option maxRecDepth 100000 in
theorem c_X11_fault (l : Launch) (G : Gl) (mu : Mu) (nu : Nu) (z : Zt) (hz : ZM mu nu z) (r : Int32) : Ci l G mX11_fault 4 [.ref (G.1 64), .int r] mu nu (PM mu nu (s_fault z r)) := by
  refine Ct.of (lv := [(0, .ref (G.1 64)), (1, .int r)]) rfl rfl (Nat.le_of_ble_eq_true rfl) rfl (fun X C => ?_)
  generalize hQ : g_E G X _ = Q
  replace C : Cx G 2 X cX11_fault RX11 (some .int) 4 := C
  show Mq l G 2 X Q 0 [(0, .ref (G.1 64)), (1, .int r)] [] mu nu
  refine m_iload_n C 1 dX11_fault_0 rfl ?_
  refine m_callSf C (c_X11_isText l G mu nu r) wkX11_86 (by decide) rfl rfl (Nat.le_of_ble_eq_true rfl) dX11_fault_1 ?_
  refine m_if_ne C 9 dX11_fault_4 (by decide) (fun hh1 => ?_) (fun hh1 => ?_)
  · replace hh1 := bI_ne0.mp hh1
    obtain ⟨er, kr⟩ := ix_eq (x := r) (by omega)
    refine m_aload_n C 0 dX11_fault_9 rfl ?_
    refine gfX11_19 C dX11_fault_10 ?_
    refine m_iload_n C 1 dX11_fault_13 rfl ?_
    refine m_topi (nI (ix r)) er ?_
    refine m_iald C 68 (by decide) sa_68 (ix r) rfl (by omega) (by decide) dX11_fault_14 ?_
    refine m_if_ge C 26 dX11_fault_15 (by decide) (fun hh2 => ?_) (fun hh2 => ?_)
    · replace hh2 := (ii_le (nn_i (a := 0) rfl (by omega)) (rfl : (mu 68 (ix r)).toInt = _)).mp hh2
      obtain ⟨xs, hxe, hx1, hx2, hx3⟩ := za_some (hz.2.2.2.2.2.1 (ix r) (by omega)) hh2
      refine m_aload_n C 0 dX11_fault_26 rfl ?_
      refine m_iload_n C 1 dX11_fault_27 rfl ?_
      refine m_topi (nI (ix r)) er ?_
      refine m_callVi C 64 (by decide) rfl rfl (c_X11_faultOf l G mu nu (ix r) (by omega) xs hx1 hx2 hx3) wkX11_112 (by decide) rfl rfl (Nat.le_of_ble_eq_true rfl) dX11_fault_28 (fun r3 m3 n3 hp3 => ?_)
      refine m_ireti C hQ dX11_fault_31 ?_
      obtain ⟨hz2, hc2⟩ := PM_fo hz hp3
      have er := hp3.2.1
      rw [er]; exact PM_of (by unfold s_fault; rw [if_neg (by omega)]; simp only [hxe]) hz2 hc2
    replace hh2 := mt (ii_le (nn_i (a := 0) rfl (by omega)) (rfl : (mu 68 (ix r)).toInt = _)).mpr hh2
    refine m_aload_n C 0 dX11_fault_18 rfl ?_
    refine m_iconst C 1 dX11_fault_19 (by decide +kernel) ?_
    refine m_callVi C 64 (by decide) rfl rfl (c_X11_finds l G mu nu 1 (by decide)) wkX11_80 (by decide) rfl rfl (Nat.le_of_ble_eq_true rfl) dX11_fault_20 (fun r4 m4 n4 hp4 => ?_)
    refine m_goto C 31 dX11_fault_23 (by decide) ?_
    refine m_ireti C hQ dX11_fault_31 ?_
    have hxe := za_none (hz.2.2.2.2.2.1 (ix r) (by omega)) (by decide) (by omega)
    exact PM_find hz (by decide) hp4 (by unfold s_fault; rw [if_neg (by omega)]; simp only [hxe])
  replace hh1 := bI_eq0.mp hh1
  refine m_iconst C (-1) dX11_fault_7 (by decide +kernel) ?_
  refine m_ireti C hQ dX11_fault_8 ?_
  exact PM_of (by unfold s_fault; rw [if_pos (by omega)]) hz zcm_rfl

set_option maxHeartbeats 4000000 in
set_option maxRecDepth 100000 in
theorem c_X11_box (l : Launch) (G : Gl) (mu : Mu) (nu : Nu) (z : Zt) (hz : ZM mu nu z) (r : Int32) : Ci l G mX11_box 4 [.ref (G.1 64), .int r] mu nu (PM mu nu (s_box z r)) := by
  refine Ct.of (lv := [(0, .ref (G.1 64)), (1, .int r)]) rfl rfl (Nat.le_of_ble_eq_true rfl) rfl (fun X C => ?_)
  generalize hQ : g_E G X _ = Q
  replace C : Cx G 3 X cX11_box RX11 (some .int) 4 := C
  show Mq l G 3 X Q 0 [(0, .ref (G.1 64)), (1, .int r)] [] mu nu
  refine m_iload_n C 1 dX11_box_0 rfl ?_
  refine m_callSf C (c_X11_isText l G mu nu r) wkX11_86 (by decide) rfl rfl (Nat.le_of_ble_eq_true rfl) dX11_box_1 ?_
  refine m_if_ne C 9 dX11_box_4 (by decide) (fun hh1 => ?_) (fun hh1 => ?_)
  · replace hh1 := bI_ne0.mp hh1
    obtain ⟨er, kr⟩ := ix_eq (x := r) (by omega)
    refine m_aload_n C 0 dX11_box_9 rfl ?_
    refine gfX11_19 C dX11_box_10 ?_
    refine m_iload_n C 1 dX11_box_13 rfl ?_
    refine m_topi (nI (ix r)) er ?_
    refine m_iald C 68 (by decide) sa_68 (ix r) rfl (by omega) (by decide) dX11_box_14 ?_
    refine m_if_ge C 24 dX11_box_15 (by decide) (fun hh2 => ?_) (fun hh2 => ?_)
    · replace hh2 := (ii_le (nn_i (a := 0) rfl (by omega)) (rfl : (mu 68 (ix r)).toInt = _)).mp hh2
      obtain ⟨xs, hxe, hx1, hx2, hx3⟩ := za_some (hz.2.2.2.2.2.1 (ix r) (by omega)) hh2
      refine m_aload_n C 0 dX11_box_24 rfl ?_
      refine m_iload_n C 1 dX11_box_25 rfl ?_
      refine m_topi (nI (ix r)) er ?_
      refine m_callVi C 64 (by decide) rfl rfl (c_X11_faultOf l G mu nu (ix r) (by omega) xs hx1 hx2 hx3) wkX11_112 (by decide) rfl rfl (Nat.le_of_ble_eq_true rfl) dX11_box_26 (fun r3 m3 n3 hp3 => ?_)
      refine m_bipush C (-9) dX11_box_29 (by decide +kernel) ?_
      refine m_icmp_eq C 37 dX11_box_31 (by decide) (fun hh4 => ?_) (fun hh4 => ?_)
      · replace hh4 := (ii_eq (rfl : (r3).toInt = _) (show ((-9) : Int32).toInt = (-9) from by decide +kernel)).mp hh4
        obtain ⟨hnn, er, hrm, hall⟩ := hp3
        rw [hnn]
        obtain ⟨h14, hri⟩ := hall hh4
        have hok := ff_ok 60 xs 0 0 (by omega) (by omega) (by decide) (by rw [← er]; omega)
        simp only [Nat.zero_add] at hok
        refine m_iconst C 0 dX11_box_37 (by decide +kernel) ?_
        refine m_istore_n C [(2, .int 0), (0, .ref (G.1 64)), (1, .int r)] dX11_box_38 (by decide) rfl ?_
        have L39 : ∀ (fu : Nat) (k : Nat) (m : Mu) (hk : k ≤ 1568) (hm1 : ∀ c, c ≠ 65 → m c = m3 c) (hm2 : ∀ j, j < k → m 65 j = 0), 1568 - k < fu → Mq l G 3 X Q 39 [(0, .ref (G.1 64)), (1, .int r), (2, .int (nI k))] [] m nu := by
          intro fu
          induction fu with
          | zero => intro k m hk hm1 hm2 hm; exact absurd hm (Nat.not_lt_zero _)
          | succ fu ih39 =>
            intro k m hk hm1 hm2 hm
            refine m_iload_n C 2 dX11_box_39 rfl ?_
            refine m_sipush C 1568 dX11_box_40 (by decide +kernel) ?_
            refine m_icmp_ge C 59 dX11_box_43 (by decide) (fun hh5 => ?_) (fun hh5 => ?_)
            · replace hh5 := (ii_le (nn_i (a := 1568) rfl (by omega)) (nn_i (a := k) rfl (by omega))).mp hh5
              have ek : k = 1568 := by omega
              subst ek
              refine m_aload_n C 0 dX11_box_59 rfl ?_
              refine gfX11_7 C dX11_box_60 ?_
              refine m_iconst C 0 dX11_box_63 (by decide +kernel) ?_
              refine m_aload_n C 0 dX11_box_64 rfl ?_
              refine gfX11_105 C dX11_box_65 ?_
              refine m_topi (nI ((s_it xs).length)) ((by rw [hm1 64 (by decide)]; exact h14)) ?_
              refine m_iast C 65 (by decide) sa_65 0 rfl (by omega) (by decide) dX11_box_68 ?_
              refine m_nameM (fun mu6 emu6 => ?_)
              refine m_iconst C 0 dX11_box_69 (by decide +kernel) ?_
              refine m_istore_n C [(2, .int 0), (0, .ref (G.1 64)), (1, .int r)] dX11_box_70 (by decide) rfl ?_
              have L71 : ∀ (fu : Nat) (i : Nat) (m2 : Mu) (hi : i ≤ (s_it xs).length) (hc2 : ∀ c, c ≠ 65 → m2 c = m3 c) (hn0 : m2 65 0 = nI (s_it xs).length) (hzz : ∀ j, 1 ≤ j → j < 1568 → ¬ (10 ≤ j ∧ j < 31) → m2 65 j = 0) (hrr : ∀ q, q < i → m2 65 (10 + q) = (t_at (s_it xs) q).1 ∧ m2 65 (17 + q) = (t_at (s_it xs) q).2.1 ∧ m2 65 (24 + q) = (t_at (s_it xs) q).2.2), (s_it xs).length - i < fu → Mq l G 3 X Q 71 [(0, .ref (G.1 64)), (1, .int r), (2, .int (nI i))] [] m2 nu := by
                intro fu
                induction fu with
                | zero => intro i m2 hi hc2 hn0 hzz hrr hm; exact absurd hm (Nat.not_lt_zero _)
                | succ fu ih71 =>
                  intro i m2 hi hc2 hn0 hzz hrr hm
                  refine m_iload_n C 2 dX11_box_71 rfl ?_
                  refine m_aload_n C 0 dX11_box_72 rfl ?_
                  refine gfX11_105 C dX11_box_73 ?_
                  refine m_topi (nI ((s_it xs).length)) ((by rw [hc2 64 (by decide)]; exact h14)) ?_
                  refine m_icmp_ge C 140 dX11_box_76 (by decide) (fun hh7 => ?_) (fun hh7 => ?_)
                  · replace hh7 := (ii_le (nn_i (a := (s_it xs).length) rfl (by omega)) (nn_i (a := i) rfl (by omega))).mp hh7
                    refine m_aload_n C 0 dX11_box_140 rfl ?_
                    refine gfX11_105 C dX11_box_141 ?_
                    refine m_topi (nI ((s_it xs).length)) ((by rw [hc2 64 (by decide)]; exact h14)) ?_
                    refine m_ireti C hQ dX11_box_144 ?_
                    have ei : i = (s_it xs).length := by omega
                    have hq : ZM m2 nu (s_bx z (s_it xs)) := zm_box (its := s_it xs) hz hok.1 hok.2.1 hok.2.2 (fun c c1 c2 => by rw [hc2 c (by omega), hrm.1 c (by omega) (by omega)]) (fun j hj => by rw [hc2 64 (by decide)]; exact hrm.2 j hj) hn0 hzz (fun q hq => hrr q (by omega))
                    exact PM_of (by unfold s_box; rw [if_neg (by omega)]; simp only [hxe]; rw [if_neg (by rw [← er]; omega)]) hq ⟨fun c hc => by rw [hc2 c (by omega), hrm.1 c (by omega) (by omega)], fun _ _ => rfl⟩
                  replace hh7 := mt (ii_le (nn_i (a := (s_it xs).length) rfl (by omega)) (nn_i (a := i) rfl (by omega))).mpr hh7
                  refine m_aload_n C 0 dX11_box_79 rfl ?_
                  refine gfX11_7 C dX11_box_80 ?_
                  refine m_bipush C 10 dX11_box_83 (by decide +kernel) ?_
                  refine m_iload_n C 2 dX11_box_85 rfl ?_
                  refine m_iadd C dX11_box_86 ?_
                  refine m_topi (nI (10 + i)) (nn_add rfl rfl) ?_
                  refine m_aload_n C 0 dX11_box_87 rfl ?_
                  refine gfX11_35 C dX11_box_88 ?_
                  refine m_iconst C 3 dX11_box_91 (by decide +kernel) ?_
                  refine m_iload_n C 2 dX11_box_92 rfl ?_
                  refine m_imul C dX11_box_93 ?_
                  refine m_topi (nI (3 * i)) (nn_mul rfl rfl) ?_
                  refine m_iald C 72 (by decide) sa_72 (3 * i) rfl (by omega) (by decide) dX11_box_94 ?_
                  refine m_topi ((t_at (s_it xs) i).1) (by rw [hc2 72 (by decide)]; exact (hri i (by omega)).1) ?_
                  refine m_iast C 65 (by decide) sa_65 (10 + i) rfl (by omega) (by decide) dX11_box_95 ?_
                  refine m_nameM (fun mu8 emu8 => ?_)
                  refine m_aload_n C 0 dX11_box_96 rfl ?_
                  refine gfX11_7 C dX11_box_97 ?_
                  refine m_bipush C 17 dX11_box_100 (by decide +kernel) ?_
                  refine m_iload_n C 2 dX11_box_102 rfl ?_
                  refine m_iadd C dX11_box_103 ?_
                  refine m_topi (nI (17 + i)) (nn_add rfl rfl) ?_
                  refine m_aload_n C 0 dX11_box_104 rfl ?_
                  refine gfX11_35 C dX11_box_105 ?_
                  refine m_iconst C 3 dX11_box_108 (by decide +kernel) ?_
                  refine m_iload_n C 2 dX11_box_109 rfl ?_
                  refine m_imul C dX11_box_110 ?_
                  refine m_topi (nI (3 * i)) (nn_mul rfl rfl) ?_
                  refine m_iconst C 1 dX11_box_111 (by decide +kernel) ?_
                  refine m_iadd C dX11_box_112 ?_
                  refine m_topi (nI ((3 * i) + 1)) (nn_add rfl rfl) ?_
                  refine m_iald C 72 (by decide) sa_72 ((3 * i) + 1) rfl (by omega) (by decide) dX11_box_113 ?_
                  refine m_topi ((t_at (s_it xs) i).2.1) (by rw [emu8, mu_up_ne (by decide), hc2 72 (by decide)]; exact (hri i (by omega)).2.1) ?_
                  refine m_iast C 65 (by decide) sa_65 (17 + i) rfl (by omega) (by decide) dX11_box_114 ?_
                  refine m_nameM (fun mu9 emu9 => ?_)
                  refine m_aload_n C 0 dX11_box_115 rfl ?_
                  refine gfX11_7 C dX11_box_116 ?_
                  refine m_bipush C 24 dX11_box_119 (by decide +kernel) ?_
                  refine m_iload_n C 2 dX11_box_121 rfl ?_
                  refine m_iadd C dX11_box_122 ?_
                  refine m_topi (nI (24 + i)) (nn_add rfl rfl) ?_
                  refine m_aload_n C 0 dX11_box_123 rfl ?_
                  refine gfX11_35 C dX11_box_124 ?_
                  refine m_iconst C 3 dX11_box_127 (by decide +kernel) ?_
                  refine m_iload_n C 2 dX11_box_128 rfl ?_
                  refine m_imul C dX11_box_129 ?_
                  refine m_topi (nI (3 * i)) (nn_mul rfl rfl) ?_
                  refine m_iconst C 2 dX11_box_130 (by decide +kernel) ?_
                  refine m_iadd C dX11_box_131 ?_
                  refine m_topi (nI ((3 * i) + 2)) (nn_add rfl rfl) ?_
                  refine m_iald C 72 (by decide) sa_72 ((3 * i) + 2) rfl (by omega) (by decide) dX11_box_132 ?_
                  refine m_topi ((t_at (s_it xs) i).2.2) (by rw [emu9, mu_up_ne (by decide), emu8, mu_up_ne (by decide), hc2 72 (by decide)]; exact (hri i (by omega)).2.2) ?_
                  refine m_iast C 65 (by decide) sa_65 (24 + i) rfl (by omega) (by decide) dX11_box_133 ?_
                  refine m_nameM (fun mu10 emu10 => ?_)
                  refine m_iinc C 2 (nI (i + 1)) [(2, .int (nI (i + 1))), (0, .ref (G.1 64)), (1, .int r)] dX11_box_134 rfl (nn_add rfl (show Int32.ofInt 1 = nI 1 from rfl)) (by decide) rfl ?_
                  refine m_goto C 71 dX11_box_137 (by decide) ?_
                  exact m_sub [1, 2, 0] rfl (ih71 (i + 1) mu10 (by omega) (fun c hc => by rw [emu10, mu_up_ne hc, emu9, mu_up_ne hc, emu8, mu_up_ne hc]; exact hc2 c hc) (by rw [emu10, mu_up_an (by omega), emu9, mu_up_an (by omega), emu8, mu_up_an (by omega)]; exact hn0) (fun j h1 h2 h3 => by rw [emu10, mu_up_an (by omega), emu9, mu_up_an (by omega), emu8, mu_up_an (by omega)]; exact hzz j h1 h2 h3) (fun q hq => by
                            by_cases e : q = i
                            · rw [e]
                              exact ⟨by rw [emu10, mu_up_an (by omega), emu9, mu_up_an (by omega), emu8, mu_up_at], by rw [emu10, mu_up_an (by omega), emu9, mu_up_at], by rw [emu10, mu_up_at]⟩
                            · rw [emu10, mu_up_an (by omega), mu_up_an (by omega), mu_up_an (by omega), emu9, mu_up_an (by omega), mu_up_an (by omega), mu_up_an (by omega), emu8, mu_up_an (by omega), mu_up_an (by omega), mu_up_an (by omega)]; exact hrr q (by omega)) (by omega))
              exact m_sub [1, 2, 0] rfl (L71 (_ + 1) 0 mu6 (Nat.zero_le _) (fun c hc => by rw [emu6, mu_up_ne hc]; exact hm1 c hc) (by rw [emu6, mu_up_at]) (fun j h1 h2 h3 => by rw [emu6, mu_up_an (by omega)]; exact hm2 j h2) (fun q hq => absurd hq (Nat.not_lt_zero _)) (Nat.lt_succ_self _))
            replace hh5 := mt (ii_le (nn_i (a := 1568) rfl (by omega)) (nn_i (a := k) rfl (by omega))).mpr hh5
            refine m_aload_n C 0 dX11_box_46 rfl ?_
            refine gfX11_7 C dX11_box_47 ?_
            refine m_iload_n C 2 dX11_box_50 rfl ?_
            refine m_iconst C 0 dX11_box_51 (by decide +kernel) ?_
            refine m_iast C 65 (by decide) sa_65 k rfl (by omega) (by decide) dX11_box_52 ?_
            refine m_nameM (fun mu11 emu11 => ?_)
            refine m_iinc C 2 (nI (k + 1)) [(2, .int (nI (k + 1))), (0, .ref (G.1 64)), (1, .int r)] dX11_box_53 rfl (nn_add rfl (show Int32.ofInt 1 = nI 1 from rfl)) (by decide) rfl ?_
            refine m_goto C 39 dX11_box_56 (by decide) ?_
            exact m_sub [1, 2, 0] rfl (ih39 (k + 1) mu11 (by omega) (fun c hc => by rw [emu11, mu_up_ne hc]; exact hm1 c hc) (fun j hj => by
                      by_cases e : j = k
                      · rw [e, emu11, mu_up_at]
                      · rw [emu11, mu_up_an e]; exact hm2 j (by omega)) (by omega))
        exact m_sub [1, 2, 0] rfl (L39 (_ + 1) 0 m3 (Nat.zero_le _) (fun c _ => rfl) (fun j hj => absurd hj (Nat.not_lt_zero _)) (Nat.lt_succ_self _))
      replace hh4 := mt (ii_eq (rfl : (r3).toInt = _) (show ((-9) : Int32).toInt = (-9) from by decide +kernel)).mpr hh4
      refine m_bipush C (-4) dX11_box_34 (by decide +kernel) ?_
      refine m_ireti C hQ dX11_box_36 ?_
      obtain ⟨hz2, hc2⟩ := PM_fo hz hp3
      have er := hp3.2.1
      exact PM_of (by unfold s_box; rw [if_neg (by omega)]; simp only [hxe]; rw [if_pos (by rw [← er]; assumption)]) hz2 hc2
    replace hh2 := mt (ii_le (nn_i (a := 0) rfl (by omega)) (rfl : (mu 68 (ix r)).toInt = _)).mpr hh2
    refine m_aload_n C 0 dX11_box_18 rfl ?_
    refine m_iconst C 1 dX11_box_19 (by decide +kernel) ?_
    refine m_callVi C 64 (by decide) rfl rfl (c_X11_finds l G mu nu 1 (by decide)) wkX11_80 (by decide) rfl rfl (Nat.le_of_ble_eq_true rfl) dX11_box_20 (fun r12 m12 n12 hp12 => ?_)
    refine m_ireti C hQ dX11_box_23 ?_
    have hxe := za_none (hz.2.2.2.2.2.1 (ix r) (by omega)) (by decide) (by omega)
    exact PM_find hz (by decide) hp12 (by unfold s_box; rw [if_neg (by omega)]; simp only [hxe])
  replace hh1 := bI_eq0.mp hh1
  refine m_iconst C (-1) dX11_box_7 (by decide +kernel) ?_
  refine m_ireti C hQ dX11_box_8 ?_
  exact PM_of (by unfold s_box; rw [if_pos (by omega)]) hz zcm_rfl
