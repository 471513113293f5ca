theorem s_pl_t {F : List Nat} {i : Nat} (hF : F.length ≤ 7) : (s_pl F i).toInt = -9 ↔ ¬ i ∈ F := by
  unfold s_pl
  by_cases h : i ∈ F
  · have := List.idxOf_lt_length_of_mem h
    rw [if_pos h, nI_toInt (by omega)]
    exact ⟨fun q => absurd q (by omega), fun q => absurd h q⟩
  · rw [if_neg h]
    exact ⟨fun _ => h, fun _ => by decide +kernel⟩
theorem zb_wf {mu : Mu} {b N : Nat} {B : Zb} (h : z_b mu b N B) : z_wf N (B.1, B.2.1) := by
  have := h.2.2.2.2 B.2.2.length (Nat.le_refl _)
  rwa [s_at_last] at this
theorem zc_bench {mu m : Mu} {nu : Nu} {z : Zt} {B : Zb} (h : ZC mu nu z) (hb : z_b m 38 (z_N z) B) (hf : z_fr mu m 38) : ZC m nu (u_bn z B) ∧ z_cl mu nu m nu := by
  obtain ⟨h1, h2, h3, h4, h5, ⟨a1, a2, a3, a4, a5⟩, h7⟩ := h
  have k : ∀ c, c < 38 ∨ 42 < c → m c = mu c := hf.1
  have hw := zb_wf hb
  refine ⟨⟨⟨⟨h1.1.1, h1.1.2.1, hb.1.2.1, fun p hp => hw.1 _ (gd_mem hp), hb.1.2.2.2.2.1⟩, by rw [k 0 (by decide)]; exact h1.2.1, fun i hi => ?_, hb.1⟩, hb, zk_keep h3 (fun c _ _ => k c (by omega)), zr_keep h4 (fun c _ _ => k c (by omega)), zt_keep h5 (fun c _ _ => k c (by omega)), ⟨by rw [k 0 (by decide)]; exact a1, a2, a3, by rw [k 0 (by decide)]; exact a4, fun f hf2 => by rw [k 63 (by decide)]; exact a5 f hf2⟩, h7⟩, fun c hc => k c (by omega), fun _ _ => rfl⟩
  have hN := h1.1.1
  have hi : i < v_N (z_V z) := hi
  rw [k (31 + i) (by omega)]
  exact h1.2.2.1 i hi
/-- a deed that can be done, and undone -/
def a_ok (N dc x y : Nat) (S : List Nat × Nat) : Prop := s_ok dc x y S ∧ (s_ok (s_bk dc) x y (s_fw dc x y S) ∧ s_fw (s_bk dc) x y (s_fw dc x y S) = S) ∧ z_wf N (s_fw dc x y S)
theorem a_lay {N i : Nat} {F : List Nat} {ov : Nat} (hN : N ≤ 7) (hw : z_wf N (F, ov)) (hi : i < N) (hp : ¬ i ∈ F) : a_ok N 1 i 0 (F, ov) := by
  have hnd : (F ++ [i]).Nodup := nodup_app hw.2.1 hp
  have hm : ∀ x ∈ F ++ [i], x < N := fun x hx => by
    rcases List.mem_append.mp hx with h | h
    · exact hw.1 x h
    · rw [List.mem_singleton.mp h]; exact hi
  have hl := nodup_le N (F ++ [i]) hnd hm
  simp only [List.length_append, List.length_cons, List.length_nil] at hl
  have e1 : s_fw 1 i 0 (F, ov) = (F ++ [i], ov) := rfl
  have e2 : s_fw (s_bk 1) i 0 (F ++ [i], ov) = (F, ov) := by show ((F ++ [i]).dropLast, ov) = (F, ov); rw [List.dropLast_concat]
  rw [a_ok, e1, e2]
  exact ⟨⟨by decide, by omega, by decide, fun _ => by show F.length < 7; omega, fun q => absurd q (by decide), fun q => absurd q (by decide)⟩, ⟨⟨by decide, by omega, by decide, fun q => absurd q (by decide), fun _ => by show 0 < (F ++ [i]).length; simp, fun q => absurd q (by decide)⟩, rfl⟩, ⟨hm, hnd, hw.2.2⟩⟩
theorem dl_gd {F : List Nat} (h : 0 < F.length) : F.dropLast ++ [F.getD (F.length - 1) 0] = F := by
  have hne : F ≠ [] := fun e => by rw [e] at h; exact absurd h (by decide)
  have h1 := List.dropLast_concat_getLast hne
  have h2 : F.getD (F.length - 1) 0 = F.getLast hne := by
    rw [List.getLast_eq_getElem]
    simp [List.getD, List.getElem?_eq_getElem (show F.length - 1 < F.length by omega)]
  rw [h2]; exact h1
theorem a_lift {N : Nat} {F : List Nat} {ov : Nat} (hN : N ≤ 7) (hw : z_wf N (F, ov)) (hp : 0 < F.length) : a_ok N 2 (F.getD (F.length - 1) 0) 0 (F, ov) := by
  have hg := hw.1 _ (gd_mem (F := F) (p := F.length - 1) (by omega))
  have hl := nodup_le N F hw.2.1 hw.1
  have e1 : s_fw 2 (F.getD (F.length - 1) 0) 0 (F, ov) = (F.dropLast, ov) := rfl
  have e2 : s_fw (s_bk 2) (F.getD (F.length - 1) 0) 0 (F.dropLast, ov) = (F, ov) := by show (F.dropLast ++ [F.getD (F.length - 1) 0], ov) = (F, ov); rw [dl_gd hp]
  rw [a_ok, e1, e2]
  exact ⟨⟨by decide, by omega, by decide, fun q => absurd q (by decide), fun _ => hp, fun q => absurd q (by decide)⟩, ⟨⟨by decide, by omega, by decide, fun _ => by show F.dropLast.length < 7; simp; omega, fun q => absurd q (by decide), fun q => absurd q (by decide)⟩, rfl⟩, ⟨fun x hx => hw.1 x (List.dropLast_subset F hx), hw.2.1.sublist (List.dropLast_sublist F), hw.2.2⟩⟩
theorem gd_ext {F H : List Nat} (hl : F.length = H.length) (h : ∀ p, p < F.length → F.getD p 0 = H.getD p 0) : F = H := by
  apply List.ext_getElem hl
  intro p h1 h2
  have := h p h1
  simpa [List.getD, List.getElem?_eq_getElem h1, List.getElem?_eq_getElem h2] using this
theorem swap_swap {F : List Nat} {x y : Nat} (hx : x < F.length) (hy : y < F.length) : s_swap (s_swap F x y) x y = F := by
  apply gd_ext
  · rw [s_swap_len, s_swap_len]
  · intro p hp
    rw [s_swap_gd (by rw [s_swap_len]; exact hx) (by rw [s_swap_len]; exact hy), s_swap_gd hx hy, s_swap_gd hx hy, s_swap_gd hx hy]
    by_cases h1 : p = y
    · subst h1
      rw [if_pos rfl]
      by_cases h2 : x = p
      · subst h2; rw [if_pos rfl]
      · rw [if_neg h2, if_pos rfl]
    · rw [if_neg h1]
      by_cases h2 : p = x
      · subst h2; rw [if_pos rfl, if_pos rfl]
      · rw [if_neg h2, if_neg h1, if_neg h2]
theorem nd_gd {F : List Nat} (h : F.Nodup) {p q : Nat} (hp : p < F.length) (hq : q < F.length) (e : F.getD p 0 = F.getD q 0) : p = q := by
  have h1 : F[p]? = F[q]? := by
    rw [List.getElem?_eq_getElem hp, List.getElem?_eq_getElem hq]
    simp [List.getD, List.getElem?_eq_getElem hp, List.getElem?_eq_getElem hq] at e
    rw [e]
  exact (List.getElem?_inj hp h).mp h1
theorem gd_nd {F : List Nat} (h : ∀ p q, p < F.length → q < F.length → F.getD p 0 = F.getD q 0 → p = q) : F.Nodup := by
  show F.Pairwise (fun a b => a ≠ b)
  rw [List.pairwise_iff_getElem]
  intro p q hp hq hlt e
  have := h p q hp hq (by simp [List.getD, List.getElem?_eq_getElem hp, List.getElem?_eq_getElem hq, e])
  omega
theorem a_swap {N x y : Nat} {F : List Nat} {ov : Nat} (hN : N ≤ 7) (hw : z_wf N (F, ov)) (hx : x < F.length) (hy : y < F.length) : a_ok N 3 x y (F, ov) := by
  have hl := nodup_le N F hw.2.1 hw.1
  have hl : F.length ≤ N := hl
  have e1 : s_fw 3 x y (F, ov) = (s_swap F x y, ov) := rfl
  have e2 : s_fw (s_bk 3) x y (s_swap F x y, ov) = (F, ov) := by show (s_swap (s_swap F x y) x y, ov) = (F, ov); rw [swap_swap hx hy]
  rw [a_ok, e1, e2]
  refine ⟨⟨by decide, by omega, by omega, fun q => absurd q (by decide), fun q => absurd q (by decide), fun _ => ⟨hx, hy⟩⟩, ⟨⟨by decide, by omega, by omega, fun q => absurd q (by decide), fun q => absurd q (by decide), fun _ => by show x < (s_swap F x y).length ∧ y < (s_swap F x y).length; rw [s_swap_len]; exact ⟨hx, hy⟩⟩, rfl⟩, fun a ha => ?_, gd_nd (fun p q hp hq e => ?_), hw.2.2⟩
  · obtain ⟨p, hp, rfl⟩ := mem_gd ha
    have hp : p < F.length := by rw [← s_swap_len (x := x) (y := y)]; exact hp
    rw [s_swap_gd hx hy]
    split
    · exact hw.1 _ (gd_mem hx)
    · split
      · exact hw.1 _ (gd_mem hy)
      · exact hw.1 _ (gd_mem hp)
  · have hp : p < F.length := by rw [← s_swap_len (x := x) (y := y)]; exact hp
    have hq : q < F.length := by rw [← s_swap_len (x := x) (y := y)]; exact hq
    rw [s_swap_gd hx hy, s_swap_gd hx hy] at e
    by_cases p1 : p = y
    · rw [if_pos p1] at e
      by_cases q1 : q = y
      · omega
      · rw [if_neg q1] at e
        by_cases q2 : q = x
        · rw [if_pos q2] at e
          have := nd_gd hw.2.1 hx hy e
          omega
        · rw [if_neg q2] at e
          have := nd_gd hw.2.1 hx hq e
          omega
    · rw [if_neg p1] at e
      by_cases p2 : p = x
      · rw [if_pos p2] at e
        by_cases q1 : q = y
        · rw [if_pos q1] at e
          have := nd_gd hw.2.1 hy hx e
          omega
        · rw [if_neg q1] at e
          by_cases q2 : q = x
          · omega
          · rw [if_neg q2] at e
            have := nd_gd hw.2.1 hy hq e
            omega
      · rw [if_neg p2] at e
        by_cases q1 : q = y
        · rw [if_pos q1] at e
          have := nd_gd hw.2.1 hp hx e
          omega
        · rw [if_neg q1] at e
          by_cases q2 : q = x
          · rw [if_pos q2] at e
            have := nd_gd hw.2.1 hp hy e
            omega
          · rw [if_neg q2] at e
            exact nd_gd hw.2.1 hp hq e
theorem a_turn {N i : Nat} {F : List Nat} {ov : Nat} (hN : N ≤ 7) (hw : z_wf N (F, ov)) (hi : i < N) : a_ok N 4 i 0 (F, ov) := by
  have e1 : s_fw 4 i 0 (F, ov) = (F, ov ^^^ 2 ^ i) := rfl
  have e2 : s_fw (s_bk 4) i 0 (F, ov ^^^ 2 ^ i) = (F, ov) := by show (F, (ov ^^^ 2 ^ i) ^^^ 2 ^ i) = (F, ov); rw [Nat.xor_assoc, Nat.xor_self, Nat.xor_zero]
  rw [a_ok, e1, e2]
  exact ⟨⟨by decide, by omega, by decide, fun q => absurd q (by decide), fun q => absurd q (by decide), fun q => absurd q (by decide)⟩, ⟨⟨by decide, by omega, by decide, fun q => absurd q (by decide), fun q => absurd q (by decide), fun q => absurd q (by decide)⟩, rfl⟩, ⟨hw.1, hw.2.1, Nat.xor_lt_two_pow (n := 7) hw.2.2 (Nat.lt_of_lt_of_le (Nat.pow_lt_pow_right (by decide) (show i < 7 by omega)) (by decide))⟩⟩
theorem a_idle {N : Nat} {F : List Nat} {ov : Nat} (hw : z_wf N (F, ov)) : a_ok N 0 0 0 (F, ov) :=
  ⟨⟨by decide, by decide, by decide, fun q => absurd q (by decide), fun q => absurd q (by decide), fun q => absurd q (by decide)⟩, ⟨⟨by decide, by decide, by decide, fun q => absurd q (by decide), fun q => absurd q (by decide), fun q => absurd q (by decide)⟩, rfl⟩, hw⟩
/-- the bench behind a deed -/
def b_do (B : Zb) (dc x y : Nat) : Zb := ((s_fw dc x y (B.1, B.2.1)).1, (s_fw dc x y (B.1, B.2.1)).2, B.2.2 ++ [(B.1, B.2.1)])
def s_laid (z : Zt) (i : Int32) : Int32 × Zt := if ¬ (0 ≤ i.toInt ∧ i.toInt < z_N z) then (-1, z) else if ix i ∈ (z_B z).1 then (-4, z) else if 40 ≤ (z_B z).2.2.length then (-2, z) else (nI ((z_B z).1.length + 1), u_bn z (b_do (z_B z) 1 (ix i) 0))
def s_lift (z : Zt) : Int32 × Zt := if (z_B z).1.length = 0 then (-4, z) else if 40 ≤ (z_B z).2.2.length then (-2, z) else (nI ((z_B z).1.getD ((z_B z).1.length - 1) 0), u_bn z (b_do (z_B z) 2 ((z_B z).1.getD ((z_B z).1.length - 1) 0) 0))
def s_chg (z : Zt) (a b : Int32) : Int32 × Zt := if a.toInt = b.toInt ∨ ¬ (0 ≤ a.toInt ∧ a.toInt < (z_B z).1.length) ∨ ¬ (0 ≤ b.toInt ∧ b.toInt < (z_B z).1.length) then (-1, z) else if 40 ≤ (z_B z).2.2.length then (-2, z) else (nI ((s_swap (z_B z).1 (ix a) (ix b)).getD (ix a) 0), u_bn z (b_do (z_B z) 3 (ix a) (ix b)))
def s_over (z : Zt) (i : Int32) : Int32 × Zt := if ¬ (0 ≤ i.toInt ∧ i.toInt < z_N z) then (-1, z) else if 40 ≤ (z_B z).2.2.length then (-2, z) else (nI (v_dg (z_V (u_bn z (b_do (z_B z) 4 (ix i) 0))) (ix i)), u_bn z (b_do (z_B z) 4 (ix i) 0))
/-- the bench as it was before deed d -/
def b_un (B : Zb) (d : Nat) : Zb := ((s_at B d).1, (s_at B d).2, B.2.2.take d)
def s_undo (z : Zt) (n : Int32) : Int32 × Zt := if ¬ (0 ≤ n.toInt ∧ n.toInt ≤ (z_B z).2.2.length) then (-1, z) else (nI ((z_B z).2.2.length - ix n), u_bn z (b_un (z_B z) (ix n)))
theorem b_un_all (B : Zb) : b_un B B.2.2.length = B := by
  unfold b_un
  rw [s_at_last, List.take_length]
theorem b_un_succ {B : Zb} {d : Nat} (h : d < B.2.2.length) : b_un B (d + 1) = ((s_at B (d + 1)).1, (s_at B (d + 1)).2, B.2.2.take d ++ [s_at B d]) := by
  unfold b_un
  rw [List.take_add_one, show s_at B d = B.2.2.getD d ([], 0) from s_at_lt h]
  simp [List.getD, List.getElem?_eq_getElem h]
def s_keep (z : Zt) (k : Int32) : Int32 × Zt := if ¬ (0 ≤ k.toInt ∧ k.toInt < 3) then (-1, z) else if z_N z = 0 then (-4, z) else (nI (z_B z).2.2.length, u_kp z (ix k) (z_B z))
def s_on (z : Zt) (k : Int32) : Int32 × Zt := if ¬ (0 ≤ k.toInt ∧ k.toInt < 3) then (-1, z) else match z_kp z (ix k) with
  | none => (-3, u_find z 1)
  | some B => (nI B.2.2.length, u_bn z B)
theorem zc_kp {mu m m2 : Mu} {nu : Nu} {z : Zt} {k : Nat} (h : ZC mu nu z) (hk : k < 3) (hc : z_cp mu m (44 + 5 * k) 38) (hf : z_fr mu m (44 + 5 * k)) (e : m2 = mu_up m (44 + 5 * k) 7 1) : ZC m2 nu (u_kp z k (z_B z)) ∧ z_cl mu nu m2 nu := by
  obtain ⟨h1, h2, h3, h4, h5, ⟨a1, a2, a3, a4, a5⟩, h7⟩ := h
  have q : ∀ c, c < 44 + 5 * k ∨ 44 + 5 * k + 4 < c → m2 c = mu c := fun c hq => by rw [e, mu_up_ne (by omega)]; exact hf.1 c hq
  have hzb := zb_cp h2 hc
  have hzb2 : z_b m2 (44 + 5 * k) (z_N z) (z_B z) := by
    obtain ⟨⟨y1, y2, y3, y4, y5, y6⟩, z2, z3, z4, z5⟩ := hzb
    refine ⟨⟨by rw [e, mu_up_an (by decide), y1], y2, fun p hp => by rw [e, mu_up_ne (by omega), y3 p hp], by rw [e, mu_up_an (by decide), y4], y5, y6⟩, by rw [e, mu_up_an (by decide), z2], z3, fun d hd => z_dd_keep (z4 d hd) (by rw [e, mu_up_ne (by omega)]) (by rw [e, mu_up_ne (by omega)]) (by rw [e, mu_up_ne (by omega)]), z5⟩
  refine ⟨⟨zv_keep h1 (by rw [q 0 (by omega)]) (fun c _ _ => q c (by omega)), zb_keep h2 (fun c _ _ => q c (by omega)), fun s hs => ?_, zr_keep h4 (fun c _ _ => q c (by omega)), zt_keep h5 (fun c _ _ => q c (by omega)), ⟨by rw [q 0 (by omega)]; exact a1, a2, a3, by rw [q 0 (by omega)]; exact a4, fun f hf2 => by rw [q 63 (by omega)]; exact a5 f hf2⟩, h7⟩, fun c _ => q c (by omega), fun _ _ => rfl⟩
  show m2 (44 + 5 * s) 7 = (if (va_up (z_kp z) k (some (z_B z)) s).isSome = true then 1 else 0) ∧ ∀ B, va_up (z_kp z) k (some (z_B z)) s = some B → z_b m2 (44 + 5 * s) (z_N z) B
  by_cases es : s = k
  · subst es
    simp only [va_up, if_true]
    exact ⟨by rw [e, mu_up_at]; rfl, fun B hB => by cases hB; exact hzb2⟩
  · simp only [va_up, if_neg es]
    exact ⟨by rw [q _ (by omega)]; exact (h3 s hs).1, fun B hB => zb_keep ((h3 s hs).2 B hB) (fun c _ _ => q c (by omega))⟩
theorem s_cnt_eq {z : Zt} {w : Nat} (h : w < 11) : (s_count z (nI w)).1 = s_cnt z w := by
  have e := nI_toInt (n := w) (by omega)
  unfold s_count
  rw [if_neg (by omega)]
  show s_cnt z (ix (nI w)) = _
  rw [show ix (nI w) = w by unfold ix; omega]
set_option maxHeartbeats 4000000 in
set_option maxRecDepth 100000 in
theorem c_X10_count (l : Launch) (G : Gl) (mu : Mu) (nu : Nu) (z : Zt) (hz : ZC mu nu z) (w : Int32) : Cf l G mX10_count 7 [.ref (G.1 0), .int w] mu nu (.int (s_count z w).1) := by
  have hv : zv mu (z_V z) := hz.1
  have hw := hv.1
  have hN7 := hw.1
  have hm7 := hw.2.2.1
  have ho8 := hw.2.2.2.2
  refine Ct.of (lv := [(0, .ref (G.1 0)), (1, .int w)]) rfl rfl (Nat.le_of_ble_eq_true rfl) rfl (fun X C => ?_)
  generalize hQ : g_E G X _ = Q
  replace C : Cx G 2 X cX10_count RX10 (some .int) 7 := C
  show Mq l G 2 X Q 0 [(0, .ref (G.1 0)), (1, .int w)] [] mu nu
  refine m_iload_n C 1 dX10_count_0 rfl ?_
  have hh1i : w.toInt = w.toInt := (rfl : (w).toInt = _)
  have hh1 : (w.toInt < 0 ∨ 10 < w.toInt) ∨ w.toInt = 0 ∨ w.toInt = 1 ∨ w.toInt = 2 ∨ w.toInt = 3 ∨ w.toInt = 4 ∨ w.toInt = 5 ∨ w.toInt = 6 ∨ w.toInt = 7 ∨ w.toInt = 8 ∨ w.toInt = 9 ∨ w.toInt = 10 := by omega
  rcases hh1 with hh1 | hh1 | hh1 | hh1 | hh1 | hh1 | hh1 | hh1 | hh1 | hh1 | hh1 | hh1
  · refine m_tblOut C 136 dX10_count_1 (by rw [hh1i]; exact hh1) (by decide) ?_
    refine m_iconst C (-1) dX10_count_136 (by decide +kernel) ?_
    refine m_iretf C hQ dX10_count_137 rfl rfl ?_
    unfold s_count; rw [if_pos (by omega)]
  · refine m_tblIn C 60 dX10_count_1 (by rw [hh1i]; omega) (by rw [hh1i]; omega) (off := 59) (by rw [hh1i, hh1]; decide +kernel) (by decide) ?_
    refine m_aload_n C 0 dX10_count_60 rfl ?_
    refine gfX10_134 C dX10_count_61 ?_
    refine m_topi (nI (z_N z)) hv.2.1 ?_
    refine m_iretf C hQ dX10_count_64 rfl rfl ?_
    unfold s_count; rw [if_neg (by omega)]; show _ = s_cnt z (ix w); rw [show ix w = 0 by unfold ix; omega]; rfl
  · refine m_tblIn C 65 dX10_count_1 (by rw [hh1i]; omega) (by rw [hh1i]; omega) (off := 64) (by rw [hh1i, hh1]; decide +kernel) (by decide) ?_
    refine m_aload_n C 0 dX10_count_65 rfl ?_
    refine gfX10_53 C dX10_count_66 ?_
    refine gfX10_175 C 38 bnc_38 dX10_count_69 ?_
    refine m_topi (nI (v_m (z_V z))) (zv_m hv) ?_
    refine m_iretf C hQ dX10_count_72 rfl rfl ?_
    unfold s_count; rw [if_neg (by omega)]; show _ = s_cnt z (ix w); rw [show ix w = 1 by unfold ix; omega]; rfl
  · refine m_tblIn C 73 dX10_count_1 (by rw [hh1i]; omega) (by rw [hh1i]; omega) (off := 72) (by rw [hh1i, hh1]; decide +kernel) (by decide) ?_
    refine m_aload_n C 0 dX10_count_73 rfl ?_
    refine gfX10_53 C dX10_count_74 ?_
    refine gfX10_191 C 38 bnc_38 dX10_count_77 ?_
    refine m_topi (nI ((z_B z).2.2.length)) hz.2.1.2.1 ?_
    refine m_iretf C hQ dX10_count_80 rfl rfl ?_
    unfold s_count; rw [if_neg (by omega)]; show _ = s_cnt z (ix w); rw [show ix w = 2 by unfold ix; omega]; rfl
  · refine m_tblIn C 81 dX10_count_1 (by rw [hh1i]; omega) (by rw [hh1i]; omega) (off := 80) (by rw [hh1i, hh1]; decide +kernel) (by decide) ?_
    refine m_aload_n C 0 dX10_count_81 rfl ?_
    refine m_iconst C 1 dX10_count_82 (by decide +kernel) ?_
    refine m_callVf C 0 (by decide) rfl rfl (c_X10_readOff l G mu nu (z_V z) hv 1 (by omega) (by omega)) wkX10_207 (by decide) rfl rfl (Nat.le_of_ble_eq_true rfl) dX10_count_83 ?_
    refine m_iretf C hQ dX10_count_86 rfl rfl ?_
    unfold s_count; rw [if_neg (by omega)]; show _ = s_cnt z (ix w); rw [show ix w = 3 by unfold ix; omega]; rfl
  · refine m_tblIn C 87 dX10_count_1 (by rw [hh1i]; omega) (by rw [hh1i]; omega) (off := 86) (by rw [hh1i, hh1]; decide +kernel) (by decide) ?_
    refine m_aload_n C 0 dX10_count_87 rfl ?_
    refine gfX10_53 C dX10_count_88 ?_
    refine m_callVf C 38 (by decide) rfl rfl (c_X0_bits l G mu nu 38 bnc_38 (v_F (z_V z)) (v_ov (z_V z)) hv.2.2.2) wkX10_256 (by decide) rfl rfl (Nat.le_of_ble_eq_true rfl) dX10_count_91 ?_
    refine m_iretf C hQ dX10_count_94 rfl rfl ?_
    unfold s_count; rw [if_neg (by omega)]; show _ = s_cnt z (ix w); rw [show ix w = 4 by unfold ix; omega]; rfl
  · refine m_tblIn C 95 dX10_count_1 (by rw [hh1i]; omega) (by rw [hh1i]; omega) (off := 94) (by rw [hh1i, hh1]; decide +kernel) (by decide) ?_
    refine m_aload_n C 0 dX10_count_95 rfl ?_
    refine gfX10_53 C dX10_count_96 ?_
    refine gfX10_290 C 38 bnc_38 dX10_count_99 ?_
    refine m_topi (nI (v_ov (z_V z))) (zv_ov hv) ?_
    refine m_iretf C hQ dX10_count_102 rfl rfl ?_
    unfold s_count; rw [if_neg (by omega)]; show _ = s_cnt z (ix w); rw [show ix w = 5 by unfold ix; omega]; rfl
  · refine m_tblIn C 103 dX10_count_1 (by rw [hh1i]; omega) (by rw [hh1i]; omega) (off := 102) (by rw [hh1i, hh1]; decide +kernel) (by decide) ?_
    refine m_aload_n C 0 dX10_count_103 rfl ?_
    refine gfX10_11 C dX10_count_104 ?_
    refine m_callSf C (c_X10_howManyThere_rows l G mu nu (z_rw z) hz.2.2.2.1) wkX10_293 (by decide) rfl rfl (Nat.le_of_ble_eq_true rfl) dX10_count_107 ?_
    refine m_iretf C hQ dX10_count_110 rfl rfl ?_
    unfold s_count; rw [if_neg (by omega)]; show _ = s_cnt z (ix w); rw [show ix w = 6 by unfold ix; omega]; rfl
  · refine m_tblIn C 111 dX10_count_1 (by rw [hh1i]; omega) (by rw [hh1i]; omega) (off := 110) (by rw [hh1i, hh1]; decide +kernel) (by decide) ?_
    refine m_aload_n C 0 dX10_count_111 rfl ?_
    refine gfX10_16 C dX10_count_112 ?_
    refine m_callSf C (c_X10_howManyThere_texts l G mu nu (z_tx z) hz.2.2.2.2.1) wkX10_293 (by decide) rfl rfl (Nat.le_of_ble_eq_true rfl) dX10_count_115 ?_
    refine m_iretf C hQ dX10_count_118 rfl rfl ?_
    unfold s_count; rw [if_neg (by omega)]; show _ = s_cnt z (ix w); rw [show ix w = 7 by unfold ix; omega]; rfl
  · refine m_tblIn C 119 dX10_count_1 (by rw [hh1i]; omega) (by rw [hh1i]; omega) (off := 118) (by rw [hh1i, hh1]; decide +kernel) (by decide) ?_
    refine m_aload_n C 0 dX10_count_119 rfl ?_
    refine m_callVf C 0 (by decide) rfl rfl (c_X10_howManyKept l G mu nu (z_kp z) (fun k hk => (hz.2.2.1 k hk).1)) wkX10_297 (by decide) rfl rfl (Nat.le_of_ble_eq_true rfl) dX10_count_120 ?_
    refine m_iretf C hQ dX10_count_123 rfl rfl ?_
    unfold s_count; rw [if_neg (by omega)]; show _ = s_cnt z (ix w); rw [show ix w = 8 by unfold ix; omega]; rfl
  · refine m_tblIn C 124 dX10_count_1 (by rw [hh1i]; omega) (by rw [hh1i]; omega) (off := 123) (by rw [hh1i, hh1]; decide +kernel) (by decide) ?_
    refine m_aload_n C 0 dX10_count_124 rfl ?_
    refine m_iconst C 1 dX10_count_125 (by decide +kernel) ?_
    refine m_callVf C 0 (by decide) rfl rfl (c_X10_howManyOf l G mu nu (z_V z) hv 1 (by decide) (by decide)) wkX10_300 (by decide) rfl rfl (Nat.le_of_ble_eq_true rfl) dX10_count_126 ?_
    refine m_iretf C hQ dX10_count_129 rfl rfl ?_
    unfold s_count; rw [if_neg (by omega)]; show _ = s_cnt z (ix w); rw [show ix w = 9 by unfold ix; omega]; rfl
  · refine m_tblIn C 130 dX10_count_1 (by rw [hh1i]; omega) (by rw [hh1i]; omega) (off := 129) (by rw [hh1i, hh1]; decide +kernel) (by decide) ?_
    refine m_aload_n C 0 dX10_count_130 rfl ?_
    refine m_iconst C 2 dX10_count_131 (by decide +kernel) ?_
    refine m_callVf C 0 (by decide) rfl rfl (c_X10_howManyOf l G mu nu (z_V z) hv 2 (by decide) (by decide)) wkX10_300 (by decide) rfl rfl (Nat.le_of_ble_eq_true rfl) dX10_count_132 ?_
    refine m_iretf C hQ dX10_count_135 rfl rfl ?_
    unfold s_count; rw [if_neg (by omega)]; show _ = s_cnt z (ix w); rw [show ix w = 10 by unfold ix; omega]; rfl

set_option maxHeartbeats 4000000 in
set_option maxRecDepth 100000 in
theorem c_X10_digest (l : Launch) (G : Gl) (mu : Mu) (nu : Nu) (z : Zt) (hz : ZC mu nu z) : Cf l G mX10_digest 8 [.ref (G.1 0)] mu nu (.long (s_dig z)) := by
  have hv : zv mu (z_V z) := hz.1
  have hw := hv.1
  have hN7 := hw.1
  have hm7 := hw.2.2.1
  have ho8 := hw.2.2.2.2
  have hzN : z_N z ≤ 7 := hN7
  refine Ct.of (lv := [(0, .ref (G.1 0))]) rfl rfl (Nat.le_of_ble_eq_true rfl) rfl (fun X C => ?_)
  generalize hQ : g_E G X _ = Q
  replace C : Cx G 5 X cX10_digest RX10 (some .long) 8 := C
  show Mq l G 5 X Q 0 [(0, .ref (G.1 0))] [] mu nu
  refine m_ldc2 C 17 wcX10_306 dX10_digest_0 ?_
  refine m_lstore_n C [(1, .long 17), (0, .ref (G.1 0))] dX10_digest_3 (by decide) rfl ?_
  refine m_iconst C 0 dX10_digest_4 (by decide +kernel) ?_
  refine m_istore_n C [(3, .int 0), (1, .long 17), (0, .ref (G.1 0))] dX10_digest_5 (by decide) rfl ?_
  have L6 : ∀ (fu : Nat) (w : Nat) (hw11 : w ≤ 11), 11 - w < fu → Mq l G 5 X Q 6 [(0, .ref (G.1 0)), (1, .long (s_d1 z w)), (3, .int (nI w))] [] mu nu := by
    intro fu
    induction fu with
    | zero => intro w hw11 hm; exact absurd hm (Nat.not_lt_zero _)
    | succ fu ih6 =>
      intro w hw11 hm
      refine m_iload_n C 2 dX10_digest_6 rfl ?_
      refine m_bipush C 11 dX10_digest_7 (by decide +kernel) ?_
      refine m_icmp_ge C 31 dX10_digest_9 (by decide) (fun hh1 => ?_) (fun hh1 => ?_)
      · replace hh1 := (ii_le (nn_i (a := 11) rfl (by omega)) (nn_i (a := w) rfl (by omega))).mp hh1
        have ew : w = 11 := by omega
        rw [ew]
        refine m_iconst C 0 dX10_digest_31 (by decide +kernel) ?_
        refine m_istore_n C [(3, .int 0), (0, .ref (G.1 0)), (1, .long (s_d1 z 11))] dX10_digest_32 (by decide) rfl ?_
        have L33 : ∀ (fu : Nat) (i : Nat) (hi : i ≤ z_N z), z_N z - i < fu → Mq l G 5 X Q 33 [(0, .ref (G.1 0)), (1, .long (s_d3 (z_V z) (s_d1 z 11) i)), (3, .int (nI i))] [] mu nu := by
          intro fu
          induction fu with
          | zero => intro i hi hm; exact absurd hm (Nat.not_lt_zero _)
          | succ fu ih33 =>
            intro i hi hm
            refine m_iload_n C 2 dX10_digest_33 rfl ?_
            refine m_aload_n C 0 dX10_digest_34 rfl ?_
            refine gfX10_134 C dX10_digest_35 ?_
            refine m_topi (nI (z_N z)) hv.2.1 ?_
            refine m_icmp_ge C 77 dX10_digest_38 (by decide) (fun hh2 => ?_) (fun hh2 => ?_)
            · replace hh2 := (ii_le (nn_i (a := z_N z) rfl (by omega)) (nn_i (a := i) rfl (by omega))).mp hh2
              have ei : i = z_N z := by omega
              rw [ei]
              refine m_iconst C 0 dX10_digest_77 (by decide +kernel) ?_
              refine m_istore_n C [(3, .int 0), (0, .ref (G.1 0)), (1, .long (s_d3 (z_V z) (s_d1 z 11) (z_N z)))] dX10_digest_78 (by decide) rfl ?_
              have L79 : ∀ (fu : Nat) (k : Nat) (hk : k ≤ 3), 3 - k < fu → Mq l G 5 X Q 79 [(0, .ref (G.1 0)), (1, .long (s_d4 (z_kp z) (s_d3 (z_V z) (s_d1 z 11) (z_N z)) k)), (3, .int (nI k))] [] mu nu := by
                intro fu
                induction fu with
                | zero => intro k hk hm; exact absurd hm (Nat.not_lt_zero _)
                | succ fu ih79 =>
                  intro k hk hm
                  refine m_iload_n C 2 dX10_digest_79 rfl ?_
                  refine m_iconst C 3 dX10_digest_80 (by decide +kernel) ?_
                  refine m_icmp_ge C 123 dX10_digest_81 (by decide) (fun hh3 => ?_) (fun hh3 => ?_)
                  · replace hh3 := (ii_le (nn_i (a := 3) rfl (by omega)) (nn_i (a := k) rfl (by omega))).mp hh3
                    have ek : k = 3 := by omega
                    rw [ek]
                    refine m_lload_n C 1 dX10_digest_123 rfl ?_
                    refine m_aload_n C 0 dX10_digest_124 rfl ?_
                    refine gfX10_11 C dX10_digest_125 ?_
                    refine m_callSf C (c_X10_withStrips_rows l G mu nu (s_d4 (z_kp z) (s_d3 (z_V z) (s_d1 z 11) (z_N z)) 3) (z_rw z) hz.2.2.2.1) wkX10_313 (by decide) rfl rfl (Nat.le_of_ble_eq_true rfl) dX10_digest_128 ?_
                    refine m_aload_n C 0 dX10_digest_131 rfl ?_
                    refine gfX10_16 C dX10_digest_132 ?_
                    refine m_callSf C (c_X10_withStrips_texts l G mu nu (s_hs (z_rw z) (s_d4 (z_kp z) (s_d3 (z_V z) (s_d1 z 11) (z_N z)) 3) 6) (z_tx z) hz.2.2.2.2.1) wkX10_313 (by decide) rfl rfl (Nat.le_of_ble_eq_true rfl) dX10_digest_135 ?_
                    refine m_lretf C hQ dX10_digest_138 rfl rfl ?_
                    rfl
                  replace hh3 := mt (ii_le (nn_i (a := 3) rfl (by omega)) (nn_i (a := k) rfl (by omega))).mpr hh3
                  refine m_ldc2 C 31 wcX10_308 dX10_digest_84 ?_
                  refine m_lload_n C 1 dX10_digest_87 rfl ?_
                  refine m_lmul C dX10_digest_88 ?_
                  refine m_aload_n C 0 dX10_digest_89 rfl ?_
                  refine gfX10_57 C dX10_digest_90 ?_
                  refine m_iload_n C 2 dX10_digest_93 rfl ?_
                  refine m_aald C 43 (by decide) 4 rfl ra_43 k (G.1 (44 + 5 * k)) rfl (by omega) (by decide) rfl dX10_digest_94 ?_
                  refine gfX10_130 C (44 + 5 * k) (bnc_kept (by omega)) dX10_digest_95 ?_
                  refine m_topi (bI ((z_kp z k).isSome = true)) ((hz.2.2.1 k (by omega)).1) ?_
                  refine m_if_eq C 113 dX10_digest_98 (by decide) (fun hh4 => ?_) (fun hh4 => ?_)
                  · replace hh4 := bI_eq0.mp hh4
                    refine m_iconst C (-1) dX10_digest_113 (by decide +kernel) ?_
                    refine m_i2l C dX10_digest_114 ?_
                    refine m_topl (s_kd (z_kp z k)) (by rw [Option.not_isSome_iff_eq_none.mp (by assumption : ¬ (z_kp z k).isSome = true)]; decide +kernel) ?_
                    refine m_ladd C dX10_digest_115 ?_
                    refine m_topl (s_d4 (z_kp z) (s_d3 (z_V z) (s_d1 z 11) (z_N z)) (k + 1)) rfl ?_
                    refine m_lstore_n C [(1, .long (s_d4 (z_kp z) (s_d3 (z_V z) (s_d1 z 11) (z_N z)) (k + 1))), (0, .ref (G.1 0)), (3, .int (nI k))] dX10_digest_116 (by decide) rfl ?_
                    refine m_iinc C 2 (nI (k + 1)) [(3, .int (nI (k + 1))), (1, .long (s_d4 (z_kp z) (s_d3 (z_V z) (s_d1 z 11) (z_N z)) (k + 1))), (0, .ref (G.1 0))] dX10_digest_117 rfl (nn_add rfl (show Int32.ofInt 1 = nI 1 from rfl)) (by decide) rfl ?_
                    refine m_goto C 79 dX10_digest_120 (by decide) ?_
                    exact m_sub [2, 1, 0] rfl (ih79 (k + 1) (by omega) (by omega))
                  replace hh4 := bI_ne0.mp hh4
                  refine m_aload_n C 0 dX10_digest_101 rfl ?_
                  refine gfX10_57 C dX10_digest_102 ?_
                  refine m_iload_n C 2 dX10_digest_105 rfl ?_
                  refine m_aald C 43 (by decide) 4 rfl ra_43 k (G.1 (44 + 5 * k)) rfl (by omega) (by decide) rfl dX10_digest_106 ?_
                  refine gfX10_191 C (44 + 5 * k) (bnc_kept (by omega)) dX10_digest_107 ?_
                  obtain ⟨B, hB⟩ := Option.isSome_iff_exists.mp (by assumption : (z_kp z k).isSome = true)
                  refine m_topi (nI B.2.2.length) (((hz.2.2.1 k (by omega)).2 B hB).2.1) ?_
                  have hB40 := ((hz.2.2.1 k (by omega)).2 B hB).2.2.1
                  refine m_goto C 114 dX10_digest_110 (by decide) ?_
                  refine m_i2l C dX10_digest_114 ?_
                  refine m_topl (lN B.2.2.length) (ln_i2l rfl (by omega)) ?_
                  refine m_topl (s_kd (z_kp z k)) (by rw [hB]; rfl) ?_
                  refine m_ladd C dX10_digest_115 ?_
                  refine m_topl (s_d4 (z_kp z) (s_d3 (z_V z) (s_d1 z 11) (z_N z)) (k + 1)) rfl ?_
                  refine m_lstore_n C [(1, .long (s_d4 (z_kp z) (s_d3 (z_V z) (s_d1 z 11) (z_N z)) (k + 1))), (0, .ref (G.1 0)), (3, .int (nI k))] dX10_digest_116 (by decide) rfl ?_
                  refine m_iinc C 2 (nI (k + 1)) [(3, .int (nI (k + 1))), (1, .long (s_d4 (z_kp z) (s_d3 (z_V z) (s_d1 z 11) (z_N z)) (k + 1))), (0, .ref (G.1 0))] dX10_digest_117 rfl (nn_add rfl (show Int32.ofInt 1 = nI 1 from rfl)) (by decide) rfl ?_
                  refine m_goto C 79 dX10_digest_120 (by decide) ?_
                  exact m_sub [2, 1, 0] rfl (ih79 (k + 1) (by omega) (by omega))
              exact m_sub [1, 2, 0] rfl (L79 (_ + 1) 0 (Nat.zero_le _) (Nat.lt_succ_self _))
            replace hh2 := mt (ii_le (nn_i (a := z_N z) rfl (by omega)) (nn_i (a := i) rfl (by omega))).mpr hh2
            refine m_iconst C 0 dX10_digest_41 (by decide +kernel) ?_
            refine m_istore C [(4, .int 0), (0, .ref (G.1 0)), (1, .long (s_d3 (z_V z) (s_d1 z 11) i)), (3, .int (nI i))] dX10_digest_42 (by decide) rfl ?_
            have L44 : ∀ (fu : Nat) (w : Nat) (hw5 : w ≤ 5), 5 - w < fu → Mq l G 5 X Q 44 [(0, .ref (G.1 0)), (1, .long (s_d2 (z_V z) (s_d3 (z_V z) (s_d1 z 11) i) i w)), (3, .int (nI i)), (4, .int (nI w))] [] mu nu := by
              intro fu
              induction fu with
              | zero => intro w hw5 hm; exact absurd hm (Nat.not_lt_zero _)
              | succ fu ih44 =>
                intro w hw5 hm
                refine m_iload C 3 dX10_digest_44 rfl ?_
                refine m_iconst C 5 dX10_digest_46 (by decide +kernel) ?_
                refine m_icmp_ge C 71 dX10_digest_47 (by decide) (fun hh5 => ?_) (fun hh5 => ?_)
                · replace hh5 := (ii_le (nn_i (a := 5) rfl (by omega)) (nn_i (a := w) rfl (by omega))).mp hh5
                  have ew5 : w = 5 := by omega
                  rw [ew5]
                  show Mq l G 5 X Q 71 [(0, .ref (G.1 0)), (1, .long (s_d3 (z_V z) (s_d1 z 11) (i + 1))), (3, .int (nI i)), (4, .int (nI 5))] [] mu nu
                  refine m_iinc C 2 (nI (i + 1)) [(3, .int (nI (i + 1))), (0, .ref (G.1 0)), (1, .long (s_d3 (z_V z) (s_d1 z 11) (i + 1))), (4, .int (nI 5))] dX10_digest_71 rfl (nn_add rfl (show Int32.ofInt 1 = nI 1 from rfl)) (by decide) rfl ?_
                  refine m_goto C 33 dX10_digest_74 (by decide) ?_
                  exact m_sub [1, 2, 0] rfl (ih33 (i + 1) (by omega) (by omega))
                replace hh5 := mt (ii_le (nn_i (a := 5) rfl (by omega)) (nn_i (a := w) rfl (by omega))).mpr hh5
                refine m_ldc2 C 31 wcX10_308 dX10_digest_50 ?_
                refine m_lload_n C 1 dX10_digest_53 rfl ?_
                refine m_lmul C dX10_digest_54 ?_
                refine m_aload_n C 0 dX10_digest_55 rfl ?_
                refine m_iload_n C 2 dX10_digest_56 rfl ?_
                refine m_iload C 3 dX10_digest_57 rfl ?_
                refine m_callVf C 0 (by decide) rfl rfl (c_X10_ofRod l G mu nu (z_V z) hv i (show i < v_N (z_V z) from by show i < z_N z; omega) w (by omega)) wkX10_140 (by decide) rfl rfl (Nat.le_of_ble_eq_true rfl) dX10_digest_59 ?_
                refine m_i2l C dX10_digest_62 ?_
                refine m_ladd C dX10_digest_63 ?_
                refine m_topl (s_d2 (z_V z) (s_d3 (z_V z) (s_d1 z 11) i) i (w + 1)) rfl ?_
                refine m_lstore_n C [(1, .long (s_d2 (z_V z) (s_d3 (z_V z) (s_d1 z 11) i) i (w + 1))), (0, .ref (G.1 0)), (3, .int (nI i)), (4, .int (nI w))] dX10_digest_64 (by decide) rfl ?_
                refine m_iinc C 3 (nI (w + 1)) [(4, .int (nI (w + 1))), (1, .long (s_d2 (z_V z) (s_d3 (z_V z) (s_d1 z 11) i) i (w + 1))), (0, .ref (G.1 0)), (3, .int (nI i))] dX10_digest_65 rfl (nn_add rfl (show Int32.ofInt 1 = nI 1 from rfl)) (by decide) rfl ?_
                refine m_goto C 44 dX10_digest_68 (by decide) ?_
                exact m_sub [2, 1, 3, 0] rfl (ih44 (w + 1) (by omega) (by omega))
            exact m_sub [1, 2, 3, 0] rfl (L44 (_ + 1) 0 (Nat.zero_le _) (Nat.lt_succ_self _))
        exact m_sub [1, 2, 0] rfl (L33 (_ + 1) 0 (Nat.zero_le _) (Nat.lt_succ_self _))
      replace hh1 := mt (ii_le (nn_i (a := 11) rfl (by omega)) (nn_i (a := w) rfl (by omega))).mpr hh1
      refine m_ldc2 C 31 wcX10_308 dX10_digest_12 ?_
      refine m_lload_n C 1 dX10_digest_15 rfl ?_
      refine m_lmul C dX10_digest_16 ?_
      refine m_aload_n C 0 dX10_digest_17 rfl ?_
      refine m_iload_n C 2 dX10_digest_18 rfl ?_
      refine m_callVf C 0 (by decide) rfl rfl ((by rw [← s_cnt_eq (z := z) (w := w) (by omega)]; exact c_X10_count l G mu nu z hz (nI w) : Cf l G mX10_count 7 [.ref (G.1 0), .int (nI w)] mu nu (.int (s_cnt z w)))) wkX10_310 (by decide) rfl rfl (Nat.le_of_ble_eq_true rfl) dX10_digest_19 ?_
      refine m_i2l C dX10_digest_22 ?_
      refine m_ladd C dX10_digest_23 ?_
      refine m_topl (s_d1 z (w + 1)) rfl ?_
      refine m_lstore_n C [(1, .long (s_d1 z (w + 1))), (0, .ref (G.1 0)), (3, .int (nI w))] dX10_digest_24 (by decide) rfl ?_
      refine m_iinc C 2 (nI (w + 1)) [(3, .int (nI (w + 1))), (1, .long (s_d1 z (w + 1))), (0, .ref (G.1 0))] dX10_digest_25 rfl (nn_add rfl (show Int32.ofInt 1 = nI 1 from rfl)) (by decide) rfl ?_
      refine m_goto C 6 dX10_digest_28 (by decide) ?_
      exact m_sub [2, 1, 0] rfl (ih6 (w + 1) (by omega) (by omega))
  exact m_sub [2, 1, 0] rfl (L6 (_ + 1) 0 (Nat.zero_le _) (Nat.lt_succ_self _))
