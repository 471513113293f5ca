def EF (mu m : Mu) : Prop := (∀ c, c ≠ 64 → c ≠ 73 → c ≠ 74 → c ≠ 75 → m c = mu c) ∧ ∀ j, j ≠ 19 → m 64 j = mu 64 j
theorem ef_rfl {mu : Mu} : EF mu mu := ⟨fun _ _ _ _ _ => rfl, fun _ _ => rfl⟩
theorem ef_gf {mu m m2 : Mu} (h : EF mu m) (hg : GF m m2) : EF mu m2 := ⟨fun c a b d e => (hg.1 c a b d).trans (h.1 c a b d e), fun j hj => (hg.2 j hj).trans (h.2 j hj)⟩
theorem ef_75 {mu m m2 : Mu} (h : EF mu m) (hg : ∀ c, c ≠ 75 → m2 c = m c) : EF mu m2 := ⟨fun c a b d e => (hg c e).trans (h.1 c a b d e), fun j hj => by rw [hg 64 (by decide)]; exact h.2 j hj⟩
theorem zm_ef {mu m : Mu} {nu : Nu} {z : Zt} (h : ZM mu nu z) (he : EF mu m) : ZM m nu z ∧ z_cm mu nu m nu := ⟨zm_keep h (fun c h1 h2 => he.1 c (by omega) (by omega) (by omega) (by omega)) (he.2 5 (by decide)) (he.2 7 (by decide)) rfl rfl, fun c hc => he.1 c (by omega) (by omega) (by omega) (by omega), fun _ _ => rfl⟩
/-- the best frame so far lies in the model's row for it -/
def BS (m : Mu) (L : Nat) (a : Nat × List Nat) : Prop := a.2.length = L → ∀ p, p < L → m 75 p = nI (a.2.getD p 0)
theorem bs_keep {m m2 : Mu} {L : Nat} {a : Nat × List Nat} (h : BS m L a) (e : m2 75 = m 75) : BS m2 L a := fun hl p hp => by rw [e]; exact h hl p hp
theorem gs_keep {m m2 : Mu} {N L : Nat} {sh : Nat → Nat} {Q : List Nat} (h : GS m N L sh Q) (e : m2 73 = m 73) (e2 : m2 74 = m 74) : GS m2 N L sh Q := ⟨h.1, h.2.1, fun p hp => by rw [e]; exact h.2.2.1 p hp, fun p hp => by rw [e2]; exact h.2.2.2 p hp⟩
theorem gs_vl {m : Mu} {N L : Nat} {sh : Nat → Nat} {Q : List Nat} (h : GS m N L sh Q) : m 74 L = nI (s_vl sh Q) := by
  have := h.2.2.2 L (Nat.le_refl _)
  rw [← h.1, List.take_length] at this
  rw [← h.1]; exact this
def KP (mu : Mu) (nu : Nu) (L : Nat) (m : Mu) (n2 : Nu) : Prop := n2 = nu ∧ (∀ c, c ≠ 75 → m c = mu c) ∧ ∀ p, p < L → m 75 p = mu 73 p
theorem bs_new {mu m : Mu} {nu n2 : Nu} {N L v : Nat} {sh : Nat → Nat} {Q : List Nat} (h : GS mu N L sh Q) (hk : KP mu nu L m n2) : BS m L (v, Q) := fun _ p hp => by rw [hk.2.2 p hp]; exact h.2.2.1 p hp
def LB (mu : Mu) (nu : Nu) (L r : Nat) (m : Mu) (n2 : Nu) : Prop := n2 = nu ∧ (∀ c, c ≠ 66 → c ≠ 67 → m c = mu c) ∧ m 66 r = nI L ∧ (∀ s, s ≠ r → m 66 s = mu 66 s) ∧ (∀ j, ¬ (40 * r ≤ j ∧ j < 40 * r + 40) → m 67 j = mu 67 j) ∧ ∀ p, p < L → m 67 (40 * r + p) = mu 75 p
theorem zm_lb {mu m : Mu} {nu n2 : Nu} {z : Zt} {L r : Nat} {a : Nat × List Nat} (h : ZM mu nu z) (hr : r < 6) (hL : L ≤ 7) (hb : BS mu L a) (ha : a.2.length = L) (hl : LB mu nu L r m n2) : ZM m n2 (u_row z r (some (s_is a.2))) ∧ z_cm mu nu m n2 := by
  obtain ⟨rfl, h1, h2, h3, h4, h5⟩ := hl
  refine ⟨zm_row h hr (fun c c1 c2 c3 c4 => h1 c c3 c4) h3 h4 ⟨by rw [h2]; simp [s_is, ha], by simp [s_is, ha]; omega, fun j hj => ?_⟩, fun c hc => h1 c (by omega) (by omega), fun _ _ => rfl⟩
  have hj : j < L := by simpa [s_is, ha] using hj
  rw [h5 j hj, hb ha j hj, s_is_gd (by omega)]
theorem nr_far {V : Vw} {n goal k : Nat} (hw : v_wf V) (hn : n ≤ 9) (hk : k ≤ v_N V) (hg : goal ≤ 9999) : s_nr V n goal k 99999999 = (e_all (v_N V) k []).foldl (e_st (s_fd goal (fun i => v_sh V i n))) (1000000000, []) := by
  have hok := s_nr_ok (V := V) (n := n) (goal := goal) (k := k) (c := 99999999) hw hn hk (by omega) (by decide)
  have e : s_nr V n goal k 99999999 = (e_all (v_N V) k []).foldl (e_st (s_fd goal (fun i => v_sh V i n))) (99999999, []) := ext_all _ _ _
  rw [e] at hok ⊢
  cases hR : e_all (v_N V) k [] with
  | nil => rw [hR] at hok; exact absurd hok.2 (Nat.lt_irrefl _)
  | cons T R =>
    obtain ⟨h1, h2⟩ := ea_len k [] T (by rw [hR]; exact List.mem_cons_self)
    have h3 := s_vl_le (N := v_N V) (sh := fun i => v_sh V i n) (fun i hi => v_sh_le hw hi hn) T (fun x hx => (h2 x hx).resolve_left List.not_mem_nil)
    have h4 := p10_7 (p := T.length) (by have := hw.1; simp at h1; omega)
    have h5 : s_fd goal (fun i => v_sh V i n) T < 99999999 := by
      show s_ds goal (s_vl (fun i => v_sh V i n) T) < _
      unfold s_ds
      omega
    exact es_head h5 (by omega)
theorem mf_at {V : Vw} {n v k : Nat} (hk : k ≤ v_N V) (h0 : (s_nr V n v k 1).1 = 0) (hno : ∀ j, j < k → ¬ (s_nr V n v j 1).1 = 0) : s_mf V n v = some k := by
  unfold s_mf
  rw [List.find?_range_eq_some]
  exact ⟨by simpa using h0, by rw [List.mem_range]; omega, fun j hj => by simpa using hno j hj⟩
theorem mr_keep {r : Int32} {A B : Prop} (h : (r = 1 ∧ A) ∨ (r = 0 ∧ B)) (hr : ¬ r.toInt = 0) : ((1 : Int32) = 1 ∧ A) ∨ ((1 : Int32) = 0 ∧ B) := by
  rcases h with ⟨-, h⟩ | ⟨h, -⟩
  · exact Or.inl ⟨rfl, h⟩
  · rw [h] at hr; exact absurd rfl hr
theorem mr_no {r : Int32} {A B : Prop} (h : (r = 1 ∧ A) ∨ (r = 0 ∧ B)) (hr : r.toInt = 0) : ((0 : Int32) = 1 ∧ A) ∨ ((0 : Int32) = 0 ∧ B) := by
  rcases h with ⟨h, -⟩ | ⟨-, h⟩
  · rw [h] at hr; exact absurd hr (by decide)
  · exact Or.inr ⟨rfl, h⟩
set_option maxHeartbeats 4000000 in
set_option maxRecDepth 100000 in
theorem c_X11_keeps (l : Launch) (G : Gl) (mu : Mu) (nu : Nu) (L : Nat) (hL : L ≤ 7) : Cv l G mX11_keeps 1 [.ref (G.1 64), .int (nI L)] mu nu (KP mu nu L) := by
  refine Ct.of (lv := [(0, .ref (G.1 64)), (1, .int (nI L))]) rfl rfl (Nat.le_of_ble_eq_true rfl) rfl (fun X C => ?_)
  generalize hQ : g_E G X _ = Q
  replace C : Cx G 3 X cX11_keeps RX11 none 1 := C
  show Mq l G 3 X Q 0 [(0, .ref (G.1 64)), (1, .int (nI L))] [] mu nu
  refine m_iconst C 0 dX11_keeps_0 (by decide +kernel) ?_
  refine m_istore_n C [(2, .int 0), (0, .ref (G.1 64)), (1, .int (nI L))] dX11_keeps_1 (by decide) rfl ?_
  have L2 : ∀ (fu : Nat) (k : Nat) (m : Mu) (hk : k ≤ L) (hm0 : ∀ c, c ≠ 75 → m c = mu c) (hm1 : ∀ p, p < k → m 75 p = mu 73 p), L - k < fu → Mq l G 3 X Q 2 [(0, .ref (G.1 64)), (1, .int (nI L)), (2, .int (nI k))] [] m nu := by
    intro fu
    induction fu with
    | zero => intro k m hk hm0 hm1 hm; exact absurd hm (Nat.not_lt_zero _)
    | succ fu ih2 =>
      intro k m hk hm0 hm1 hm
      refine m_iload_n C 2 dX11_keeps_2 rfl ?_
      refine m_iload_n C 1 dX11_keeps_3 rfl ?_
      refine m_icmp_ge C 25 dX11_keeps_4 (by decide) (fun hh1 => ?_) (fun hh1 => ?_)
      · replace hh1 := (ii_le (nn_i (a := L) rfl (by omega)) (nn_i (a := k) rfl (by omega))).mp hh1
        refine m_vretv C hQ dX11_keeps_25 ?_
        have ek : k = L := by omega
        subst ek
        exact ⟨rfl, hm0, hm1⟩
      replace hh1 := mt (ii_le (nn_i (a := L) rfl (by omega)) (nn_i (a := k) rfl (by omega))).mpr hh1
      refine m_aload_n C 0 dX11_keeps_7 rfl ?_
      refine gfX11_44 C dX11_keeps_8 ?_
      refine m_iload_n C 2 dX11_keeps_11 rfl ?_
      refine m_aload_n C 0 dX11_keeps_12 rfl ?_
      refine gfX11_38 C dX11_keeps_13 ?_
      refine m_iload_n C 2 dX11_keeps_16 rfl ?_
      refine m_iald C 73 (by decide) sa_73 k rfl (by omega) (by decide) dX11_keeps_17 ?_
      refine m_topi (mu 73 k) (by rw [hm0 73 (by decide)]) ?_
      refine m_iast C 75 (by decide) sa_75 k rfl (by omega) (by decide) dX11_keeps_18 ?_
      refine m_nameM (fun mu2 emu2 => ?_)
      refine m_iinc C 2 (nI (k + 1)) [(2, .int (nI (k + 1))), (0, .ref (G.1 64)), (1, .int (nI L))] dX11_keeps_19 rfl (nn_add rfl (show Int32.ofInt 1 = nI 1 from rfl)) (by decide) rfl ?_
      refine m_goto C 2 dX11_keeps_22 (by decide) ?_
      exact m_sub [1, 2, 0] rfl (ih2 (k + 1) mu2 (by omega) (fun c hc => by rw [emu2, mu_up_ne hc]; exact hm0 c hc) (fun p hp => by
                by_cases e : p = k
                · rw [e, emu2, mu_up_at]
                · rw [emu2, mu_up_an e]; exact hm1 p (by omega)) (by omega))
  exact m_sub [1, 2, 0] rfl (L2 (_ + 1) 0 mu (Nat.zero_le _) (fun c _ => rfl) (fun p hp => absurd hp (Nat.not_lt_zero _)) (Nat.lt_succ_self _))

set_option maxHeartbeats 4000000 in
set_option maxRecDepth 100000 in
theorem c_X11_laysBest (l : Launch) (G : Gl) (mu : Mu) (nu : Nu) (L r : Nat) (hL : L ≤ 7) (hr : r < 6) : Cv l G mX11_laysBest 1 [.ref (G.1 64), .int (nI L), .int (nI r)] mu nu (LB mu nu L r) := by
  refine Ct.of (lv := [(0, .ref (G.1 64)), (1, .int (nI L)), (2, .int (nI r))]) rfl rfl (Nat.le_of_ble_eq_true rfl) rfl (fun X C => ?_)
  generalize hQ : g_E G X _ = Q
  replace C : Cx G 4 X cX11_laysBest RX11 none 1 := C
  show Mq l G 4 X Q 0 [(0, .ref (G.1 64)), (1, .int (nI L)), (2, .int (nI r))] [] mu nu
  refine m_aload_n C 0 dX11_laysBest_0 rfl ?_
  refine gfX11_13 C dX11_laysBest_1 ?_
  refine m_iload_n C 2 dX11_laysBest_4 rfl ?_
  refine m_iload_n C 1 dX11_laysBest_5 rfl ?_
  refine m_iast C 66 (by decide) sa_66 r rfl (by omega) (by decide) dX11_laysBest_6 ?_
  refine m_nameM (fun mu1 emu1 => ?_)
  refine m_iconst C 0 dX11_laysBest_7 (by decide +kernel) ?_
  refine m_istore_n C [(3, .int 0), (0, .ref (G.1 64)), (1, .int (nI L)), (2, .int (nI r))] dX11_laysBest_8 (by decide) rfl ?_
  have L9 : ∀ (fu : Nat) (k : Nat) (m : Mu) (hk : k ≤ 40) (hm0 : ∀ c, c ≠ 67 → m c = mu1 c) (hm1 : ∀ j, ¬ (40 * r ≤ j ∧ j < 40 * r + k) → m 67 j = mu 67 j) (hm3 : ∀ p, p < k → p < L → m 67 (40 * r + p) = mu 75 p), 40 - k < fu → Mq l G 4 X Q 9 [(0, .ref (G.1 64)), (1, .int (nI L)), (2, .int (nI r)), (3, .int (nI k))] [] m nu := by
    intro fu
    induction fu with
    | zero => intro k m hk hm0 hm1 hm3 hm; exact absurd hm (Nat.not_lt_zero _)
    | succ fu ih9 =>
      intro k m hk hm0 hm1 hm3 hm
      refine m_iload_n C 3 dX11_laysBest_9 rfl ?_
      refine m_bipush C 40 dX11_laysBest_10 (by decide +kernel) ?_
      refine m_icmp_ge C 47 dX11_laysBest_12 (by decide) (fun hh2 => ?_) (fun hh2 => ?_)
      · replace hh2 := (ii_le (nn_i (a := 40) rfl (by omega)) (nn_i (a := k) rfl (by omega))).mp hh2
        refine m_vretv C hQ dX11_laysBest_47 ?_
        have ek : k = 40 := by omega
        subst ek
        exact ⟨rfl, fun c h1 h2 => by rw [hm0 c h2, emu1, mu_up_ne h1], by rw [hm0 66 (by decide), emu1, mu_up_at], fun s hs => by rw [hm0 66 (by decide), emu1, mu_up_an hs], hm1, fun p hp => hm3 p (by omega) hp⟩
      replace hh2 := mt (ii_le (nn_i (a := 40) rfl (by omega)) (nn_i (a := k) rfl (by omega))).mpr hh2
      refine m_aload_n C 0 dX11_laysBest_15 rfl ?_
      refine gfX11_16 C dX11_laysBest_16 ?_
      refine m_bipush C 40 dX11_laysBest_19 (by decide +kernel) ?_
      refine m_iload_n C 2 dX11_laysBest_21 rfl ?_
      refine m_imul C dX11_laysBest_22 ?_
      refine m_topi (nI (40 * r)) (nn_mul rfl rfl) ?_
      refine m_iload_n C 3 dX11_laysBest_23 rfl ?_
      refine m_iadd C dX11_laysBest_24 ?_
      refine m_topi (nI ((40 * r) + k)) (nn_add rfl rfl) ?_
      refine m_iload_n C 3 dX11_laysBest_25 rfl ?_
      refine m_iload_n C 1 dX11_laysBest_26 rfl ?_
      refine m_icmp_ge C 39 dX11_laysBest_27 (by decide) (fun hh3 => ?_) (fun hh3 => ?_)
      · replace hh3 := (ii_le (nn_i (a := L) rfl (by omega)) (nn_i (a := k) rfl (by omega))).mp hh3
        refine m_iconst C 0 dX11_laysBest_39 (by decide +kernel) ?_
        refine m_iast C 67 (by decide) sa_67 ((40 * r) + k) rfl (by omega) (by decide) dX11_laysBest_40 ?_
        refine m_nameM (fun mu4 emu4 => ?_)
        refine m_iinc C 3 (nI (k + 1)) [(3, .int (nI (k + 1))), (0, .ref (G.1 64)), (1, .int (nI L)), (2, .int (nI r))] dX11_laysBest_41 rfl (nn_add rfl (show Int32.ofInt 1 = nI 1 from rfl)) (by decide) rfl ?_
        refine m_goto C 9 dX11_laysBest_44 (by decide) ?_
        exact m_sub [1, 2, 3, 0] rfl (ih9 (k + 1) mu4 (by omega) (fun c hc => by rw [emu4, mu_up_ne hc]; exact hm0 c hc) (fun j hj => by rw [emu4, mu_up_an (by omega)]; exact hm1 j (by omega)) (fun p hp hpL => by
                  by_cases e : p = k
                  · exact absurd hpL (by omega)
                  · rw [emu4, mu_up_an (by omega)]; exact hm3 p (by omega) hpL) (by omega))
      replace hh3 := mt (ii_le (nn_i (a := L) rfl (by omega)) (nn_i (a := k) rfl (by omega))).mpr hh3
      refine m_aload_n C 0 dX11_laysBest_30 rfl ?_
      refine gfX11_44 C dX11_laysBest_31 ?_
      refine m_iload_n C 3 dX11_laysBest_34 rfl ?_
      refine m_iald C 75 (by decide) sa_75 k rfl (by omega) (by decide) dX11_laysBest_35 ?_
      refine m_topi (mu 75 k) (by rw [hm0 75 (by decide), emu1, mu_up_ne (by decide)]) ?_
      refine m_goto C 40 dX11_laysBest_36 (by decide) ?_
      refine m_iast C 67 (by decide) sa_67 ((40 * r) + k) rfl (by omega) (by decide) dX11_laysBest_40 ?_
      refine m_nameM (fun mu5 emu5 => ?_)
      refine m_iinc C 3 (nI (k + 1)) [(3, .int (nI (k + 1))), (0, .ref (G.1 64)), (1, .int (nI L)), (2, .int (nI r))] dX11_laysBest_41 rfl (nn_add rfl (show Int32.ofInt 1 = nI 1 from rfl)) (by decide) rfl ?_
      refine m_goto C 9 dX11_laysBest_44 (by decide) ?_
      exact m_sub [1, 2, 3, 0] rfl (ih9 (k + 1) mu5 (by omega) (fun c hc => by rw [emu5, mu_up_ne hc]; exact hm0 c hc) (fun j hj => by rw [emu5, mu_up_an (by omega)]; exact hm1 j (by omega)) (fun p hp hpL => by
                by_cases e : p = k
                · rw [e, emu5, mu_up_at]
                · rw [emu5, mu_up_an (by omega)]; exact hm3 p (by omega) hpL) (by omega))
  exact m_sub [1, 2, 3, 0] rfl (L9 (_ + 1) 0 mu1 (Nat.zero_le _) (fun c _ => rfl) (fun j _ => by rw [emu1, mu_up_ne (by decide)]) (fun p hp => absurd hp (Nat.not_lt_zero _)) (Nat.lt_succ_self _))

set_option maxHeartbeats 4000000 in
set_option maxRecDepth 100000 in
theorem c_X11_most (l : Launch) (G : Gl) (mu : Mu) (nu : Nu) (z : Zt) (hz : ZM mu nu z) (k n r : Int32) : Ci l G mX11_most 8 [.ref (G.1 64), .int k, .int n, .int r] mu nu (PM mu nu (s_most z k n r)) := by
  have hv : zm mu (z_V z) := zm_v hz
  have hw := hv.1
  have hN7 := hw.1
  have hm7 := hw.2.2.1
  have ho8 := hw.2.2.2.2
  have hcz : ((v_N (z_V z) : Nat) : Int) = ((z_N z : Nat) : Int) := rfl
  have hzN : z_N z ≤ 7 := hN7
  refine Ct.of (lv := [(0, .ref (G.1 64)), (1, .int k), (2, .int n), (3, .int r)]) rfl rfl (Nat.le_of_ble_eq_true rfl) rfl (fun X C => ?_)
  generalize hQ : g_E G X _ = Q
  replace C : Cx G 6 X cX11_most RX11 (some .int) 8 := C
  show Mq l G 6 X Q 0 [(0, .ref (G.1 64)), (1, .int k), (2, .int n), (3, .int r)] [] mu nu
  refine m_iload_n C 2 dX11_most_0 rfl ?_
  refine m_callSf C (c_X11_isLine l G mu nu n) wkX11_151 (by decide) rfl rfl (Nat.le_of_ble_eq_true rfl) dX11_most_1 ?_
  refine m_if_eq C 14 dX11_most_4 (by decide) (fun hh1 => ?_) (fun hh1 => ?_)
  · replace hh1 := bI_eq0.mp hh1
    refine m_iconst C (-1) dX11_most_14 (by decide +kernel) ?_
    refine m_ireti C hQ dX11_most_15 ?_
    exact PM_of (by unfold s_most; rw [if_pos (by omega)]) hz zcm_rfl
  replace hh1 := bI_ne0.mp hh1
  refine m_iload_n C 3 dX11_most_7 rfl ?_
  refine m_callSf C (c_X11_isRow l G mu nu r) wkX11_76 (by decide) rfl rfl (Nat.le_of_ble_eq_true rfl) dX11_most_8 ?_
  refine m_if_ne C 16 dX11_most_11 (by decide) (fun hh2 => ?_) (fun hh2 => ?_)
  · replace hh2 := bI_ne0.mp hh2
    refine m_aload_n C 0 dX11_most_16 rfl ?_
    refine gfX11_7 C dX11_most_17 ?_
    refine m_iconst C 0 dX11_most_20 (by decide +kernel) ?_
    refine m_iald C 65 (by decide) sa_65 0 rfl (by omega) (by decide) dX11_most_21 ?_
    refine m_topi (nI (z_N z)) hv.2.1 ?_
    refine m_if_ne C 28 dX11_most_22 (by decide) (fun hh3 => ?_) (fun hh3 => ?_)
    · replace hh3 := mt (ii_eq (nn_i (a := z_N z) rfl (by omega)) (nn_i (a := 0) rfl (by omega))).mpr hh3
      refine m_iload_n C 1 dX11_most_28 rfl ?_
      refine m_i2l C dX11_most_29 ?_
      refine m_lconst C 1 dX11_most_30 rfl ?_
      refine m_ldc2 C 5 wcX11_66 dX11_most_31 ?_
      refine m_callSf C (c_in (a := k.toInt) (b := ((1 : Nat) : Int)) (c := ((5 : Nat) : Int)) ((tl_i _).trans (rfl : (k).toInt = _)) (ln_i (a := 1) rfl (by omega)) (ln_i (a := 5) rfl (by omega))) wkX11_68 (by decide) rfl rfl (Nat.le_of_ble_eq_true rfl) dX11_most_34 ?_
      refine m_if_eq C 50 dX11_most_37 (by decide) (fun hh4 => ?_) (fun hh4 => ?_)
      · replace hh4 := bI_eq0.mp hh4
        refine m_iconst C (-1) dX11_most_50 (by decide +kernel) ?_
        refine m_ireti C hQ dX11_most_51 ?_
        exact PM_of (by unfold s_most; rw [if_neg (by omega), if_neg (by omega), if_pos (by omega)]) hz zcm_rfl
      replace hh4 := bI_ne0.mp hh4
      refine m_iload_n C 1 dX11_most_40 rfl ?_
      refine m_aload_n C 0 dX11_most_41 rfl ?_
      refine gfX11_7 C dX11_most_42 ?_
      refine m_iconst C 0 dX11_most_45 (by decide +kernel) ?_
      refine m_iald C 65 (by decide) sa_65 0 rfl (by omega) (by decide) dX11_most_46 ?_
      refine m_topi (nI (z_N z)) hv.2.1 ?_
      refine m_icmp_le C 52 dX11_most_47 (by decide) (fun hh5 => ?_) (fun hh5 => ?_)
      · replace hh5 := (ii_le (rfl : (k).toInt = _) (nn_i (a := z_N z) rfl (by omega))).mp hh5
        obtain ⟨ek, kk⟩ := ix_eq (x := k) (by omega)
        obtain ⟨en, kn⟩ := ix_eq (x := n) (by omega)
        obtain ⟨er, kr⟩ := ix_eq (x := r) (by omega)
        have hok := s_nr_ok (V := z_V z) (n := ix n) (goal := 99999999) (k := ix k) (c := 100000000) hw (by omega) (by show _ ≤ z_N z; omega) (by decide) (by decide)
        have hfin0 : s_nr (z_V z) (ix n) 99999999 (ix k) 100000000 = (e_all (z_N z) (ix k) []).foldl (e_st (s_fd 99999999 (fun i => v_sh (z_V z) i (ix n)))) (100000000, []) := ext_all _ _ _
        refine m_iconst C (-1) dX11_most_52 (by decide +kernel) ?_
        refine m_istore C [(4, .int ((-1))), (0, .ref (G.1 64)), (1, .int k), (2, .int n), (3, .int r)] dX11_most_53 (by decide) rfl ?_
        refine m_aload_n C 1 dX11_most_55 rfl ?_
        refine m_iload_n C 2 dX11_most_56 rfl ?_
        refine m_topi (nI (ix k)) ek ?_
        refine m_iload_n C 3 dX11_most_57 rfl ?_
        refine m_topi (nI (ix n)) en ?_
        refine m_iconst C 1 dX11_most_58 (by decide +kernel) ?_
        refine m_callVi C 64 (by decide) rfl rfl (c_X11_goesNext_1 l G mu nu (z_V z) (zm_65 hv rfl) (ix n) (by omega) (by omega) (ix k) (by show _ ≤ z_N z; omega)) wkX11_181 (by decide) rfl rfl (Nat.le_of_ble_eq_true rfl) dX11_most_59 (fun r6 m6 n6 hp6 => ?_)
        obtain ⟨hn6, hgf6, hgr6⟩ := hp6
        rw [hn6]
        refine m_istore C [(5, .int r6), (4, .int ((-1))), (0, .ref (G.1 64)), (1, .int k), (2, .int n), (3, .int r)] dX11_most_62 (by decide) rfl ?_
        have L64 : ∀ (fu : Nat) (mr mo : Int32) (a : Nat × List Nat) (R : List (List Nat)) (m : Mu) (hst : (mr = 1 ∧ ∃ T, R = T :: e_upd (z_N z) (ix k) T (ix k) ∧ GS m (z_N z) (ix k) (fun i => v_sh (z_V z) i (ix n)) T) ∨ (mr = 0 ∧ R = [])) (hfin : s_nr (z_V z) (ix n) 99999999 (ix k) 100000000 = R.foldl (e_st (s_fd 99999999 (fun i => v_sh (z_V z) i (ix n)))) a) (hmo : mo.toInt = 99999999 - ((a.1 : Nat) : Int)) (hal : a.1 ≤ 100000000) (hbs : BS m (ix k) a) (hef : EF mu m), R.length < fu → Mq l G 6 X Q 64 [(0, .ref (G.1 64)), (1, .int k), (2, .int n), (3, .int r), (4, .int mo), (5, .int mr)] [] m nu := by
          intro fu
          induction fu with
          | zero => intro mr mo a R m hst hfin hmo hal hbs hef hm; exact absurd hm (Nat.not_lt_zero _)
          | succ fu ih64 =>
            intro mr mo a R m hst hfin hmo hal hbs hef hm
            refine m_iload C 5 dX11_most_64 rfl ?_
            refine m_if_eq C 105 dX11_most_66 (by decide) (fun hh7 => ?_) (fun hh7 => ?_)
            · replace hh7 := (ii_eq (rfl : (mr).toInt = _) (nn_i (a := 0) rfl (by omega))).mp hh7
              have hRn : R = [] := by
                rcases hst with ⟨h, -⟩ | ⟨-, h⟩
                · rw [h] at hh7; exact absurd hh7 (by decide)
                · exact h
              rw [hRn] at hfin
              have hfa : s_nr (z_V z) (ix n) 99999999 (ix k) 100000000 = a := hfin
              refine m_aload_n C 0 dX11_most_105 rfl ?_
              refine m_iload_n C 1 dX11_most_106 rfl ?_
              refine m_topi (nI (ix k)) ek ?_
              refine m_iload_n C 3 dX11_most_107 rfl ?_
              refine m_topi (nI (ix r)) er ?_
              refine m_callVv C 64 (by decide) rfl rfl (c_X11_laysBest l G m nu (ix k) (ix r) (by omega) (by omega)) wkX11_188 (by decide) rfl rfl (Nat.le_of_ble_eq_true rfl) dX11_most_108 (fun m8 n8 hp8 => ?_)
              refine m_iload C 4 dX11_most_111 rfl ?_
              refine m_ireti C hQ dX11_most_113 ?_
              obtain ⟨hz2, hc2⟩ := zm_ef hz hef
              obtain ⟨hz3, hc3⟩ := zm_lb (a := a) hz2 (by omega) (by omega) hbs (by rw [← hfa]; exact hok.1) hp8
              have emo : mo = nI (99999999 - (s_nr (z_V z) (ix n) 99999999 (ix k) 100000000).1) := nn_ofN (by rw [hmo, hfa]; rw [hfa] at hok; omega)
              rw [emo]
              exact PM_of (by unfold s_most; rw [if_neg (by omega), if_neg (by omega), if_neg (by omega), hfa]) hz3 (hc2.trans hc3)
            replace hh7 := mt (ii_eq (rfl : (mr).toInt = _) (nn_i (a := 0) rfl (by omega))).mpr hh7
            obtain ⟨T, hRT, hgs⟩ : ∃ T, R = T :: e_upd (z_N z) (ix k) T (ix k) ∧ GS m (z_N z) (ix k) (fun i => v_sh (z_V z) i (ix n)) T := by
              rcases hst with ⟨-, h⟩ | ⟨h, -⟩
              · exact h
              · rw [h] at hh7; exact absurd rfl hh7
            have hvlT := s_vl_le (N := (z_N z)) (sh := (fun i => v_sh (z_V z) i (ix n))) (fun i hi => v_sh_le hw hi (by omega)) T hgs.2.1
            have hlT := hgs.1
            have hp10 := p10_7 (p := T.length) (by omega)
            have h74 := gs_vl hgs
            have hRl : R.length = (e_upd (z_N z) (ix k) T (ix k)).length + 1 := by rw [hRT]; rfl
            refine m_aload_n C 0 dX11_most_69 rfl ?_
            refine gfX11_41 C dX11_most_70 ?_
            refine m_iload_n C 1 dX11_most_73 rfl ?_
            refine m_topi (nI (ix k)) ek ?_
            refine m_iald C 74 (by decide) sa_74 (ix k) rfl (by omega) (by decide) dX11_most_74 ?_
            refine m_topi (nI (s_vl (fun i => v_sh (z_V z) i (ix n)) T)) h74 ?_
            refine m_iload C 4 dX11_most_75 rfl ?_
            refine m_icmp_le C 93 dX11_most_77 (by decide) (fun hh9 => ?_) (fun hh9 => ?_)
            · replace hh9 := (ii_le (nn_i (a := s_vl (fun i => v_sh (z_V z) i (ix n)) T) rfl (by omega)) hmo).mp hh9
              have hea : e_st (s_fd 99999999 (fun i => v_sh (z_V z) i (ix n))) a T = a := if_neg (by show ¬ s_ds 99999999 (s_vl (fun i => v_sh (z_V z) i (ix n)) T) < a.1; unfold s_ds; omega)
              refine m_aload_n C 0 dX11_most_93 rfl ?_
              refine m_iload_n C 1 dX11_most_94 rfl ?_
              refine m_topi (nI (ix k)) ek ?_
              refine m_iload_n C 2 dX11_most_95 rfl ?_
              refine m_topi (nI (ix n)) en ?_
              refine m_iconst C 0 dX11_most_96 (by decide +kernel) ?_
              refine m_callVi C 64 (by decide) rfl rfl (c_X11_goesNext_0 l G m nu (z_V z) (zm_65 hv (hef.1 65 (by decide) (by decide) (by decide) (by decide))) (ix n) (by omega) (by omega) (ix k) (by show _ ≤ z_N z; omega) (by omega) T hgs) wkX11_181 (by decide) rfl rfl (Nat.le_of_ble_eq_true rfl) dX11_most_97 (fun r10 m10 n10 hp10 => ?_)
              obtain ⟨hn10, hgf10, hgr10⟩ := hp10
              rw [hn10]
              refine m_istore C [(5, .int r10), (0, .ref (G.1 64)), (1, .int k), (2, .int n), (3, .int r), (4, .int mo)] dX11_most_100 (by decide) rfl ?_
              refine m_goto C 64 dX11_most_102 (by decide) ?_
              exact m_sub [1, 2, 3, 4, 5, 0] rfl (ih64 r10 mo (e_st (s_fd 99999999 (fun i => v_sh (z_V z) i (ix n))) a T) (e_upd (z_N z) (ix k) T (ix k)) m10 hgr10 (by rw [hfin, hRT]; rfl) (by rw [hea]; exact hmo) (by rw [hea]; exact hal) (by rw [hea]; exact bs_keep hbs (hgf10.1 75 (by decide) (by decide) (by decide))) (ef_gf hef hgf10) (by omega))
            replace hh9 := mt (ii_le (nn_i (a := s_vl (fun i => v_sh (z_V z) i (ix n)) T) rfl (by omega)) hmo).mpr hh9
            have hea : e_st (s_fd 99999999 (fun i => v_sh (z_V z) i (ix n))) a T = (s_ds 99999999 (s_vl (fun i => v_sh (z_V z) i (ix n)) T), T) := if_pos (by show s_ds 99999999 (s_vl (fun i => v_sh (z_V z) i (ix n)) T) < a.1; unfold s_ds; omega)
            refine m_aload_n C 0 dX11_most_80 rfl ?_
            refine gfX11_41 C dX11_most_81 ?_
            refine m_iload_n C 1 dX11_most_84 rfl ?_
            refine m_topi (nI (ix k)) ek ?_
            refine m_iald C 74 (by decide) sa_74 (ix k) rfl (by omega) (by decide) dX11_most_85 ?_
            refine m_topi (nI (s_vl (fun i => v_sh (z_V z) i (ix n)) T)) h74 ?_
            refine m_istore C [(4, .int (nI (s_vl (fun i => v_sh (z_V z) i (ix n)) T))), (0, .ref (G.1 64)), (1, .int k), (2, .int n), (3, .int r), (5, .int mr)] dX11_most_86 (by decide) rfl ?_
            refine m_aload_n C 1 dX11_most_88 rfl ?_
            refine m_iload_n C 2 dX11_most_89 rfl ?_
            refine m_topi (nI (ix k)) ek ?_
            refine m_callVv C 64 (by decide) rfl rfl (c_X11_keeps l G m nu (ix k) (by omega)) wkX11_185 (by decide) rfl rfl (Nat.le_of_ble_eq_true rfl) dX11_most_90 (fun m11 n11 hp11 => ?_)
            obtain ⟨hnk, hk75, -⟩ := id hp11
            rw [hnk]
            have hgk := gs_keep hgs (hk75 73 (by decide)) (hk75 74 (by decide))
            refine m_aload_n C 1 dX11_most_93 rfl ?_
            refine m_iload_n C 2 dX11_most_94 rfl ?_
            refine m_topi (nI (ix k)) ek ?_
            refine m_iload_n C 3 dX11_most_95 rfl ?_
            refine m_topi (nI (ix n)) en ?_
            refine m_iconst C 0 dX11_most_96 (by decide +kernel) ?_
            refine m_callVi C 64 (by decide) rfl rfl (c_X11_goesNext_0 l G m11 nu (z_V z) (zm_65 hv ((hk75 65 (by decide)).trans (hef.1 65 (by decide) (by decide) (by decide) (by decide)))) (ix n) (by omega) (by omega) (ix k) (by show _ ≤ z_N z; omega) (by omega) T hgk) wkX11_181 (by decide) rfl rfl (Nat.le_of_ble_eq_true rfl) dX11_most_97 (fun r12 m12 n12 hp12 => ?_)
            obtain ⟨hn12, hgf12, hgr12⟩ := hp12
            rw [hn12]
            refine m_istore C [(5, .int r12), (4, .int (nI (s_vl (fun i => v_sh (z_V z) i (ix n)) T))), (0, .ref (G.1 64)), (1, .int k), (2, .int n), (3, .int r)] dX11_most_100 (by decide) rfl ?_
            refine m_goto C 64 dX11_most_102 (by decide) ?_
            exact m_sub [2, 3, 4, 5, 1, 0] rfl (ih64 r12 (nI (s_vl (fun i => v_sh (z_V z) i (ix n)) T)) (e_st (s_fd 99999999 (fun i => v_sh (z_V z) i (ix n))) a T) (e_upd (z_N z) (ix k) T (ix k)) m12 hgr12 (by rw [hfin, hRT]; rfl) (by rw [hea]; show _ = 99999999 - ((s_ds 99999999 (s_vl (fun i => v_sh (z_V z) i (ix n)) T) : Nat) : Int); rw [nI_toInt (by omega)]; unfold s_ds; omega) (by rw [hea]; show s_ds 99999999 (s_vl (fun i => v_sh (z_V z) i (ix n)) T) ≤ _; unfold s_ds; omega) (by rw [hea]; exact bs_keep (bs_new hgs hp11) (hgf12.1 75 (by decide) (by decide) (by decide))) (ef_gf (ef_75 hef hk75) hgf12) (by omega))
        exact m_sub [2, 3, 4, 5, 1, 0] rfl (L64 (_ + 1) r6 (-1) ((100000000, [])) (e_all (z_N z) (ix k) []) m6 hgr6 hfin0 (by decide) (Nat.le_refl _) (fun h => absurd h (by show ¬ 0 = ix k; omega)) (ef_gf ef_rfl hgf6) (Nat.lt_succ_self _))
      replace hh5 := mt (ii_le (rfl : (k).toInt = _) (nn_i (a := z_N z) rfl (by omega))).mpr hh5
      refine m_iconst C (-1) dX11_most_50 (by decide +kernel) ?_
      refine m_ireti C hQ dX11_most_51 ?_
      exact PM_of (by unfold s_most; rw [if_neg (by omega), if_neg (by omega), if_pos (by omega)]) hz zcm_rfl
    replace hh3 := (ii_eq (nn_i (a := z_N z) rfl (by omega)) (nn_i (a := 0) rfl (by omega))).mp hh3
    refine m_bipush C (-4) dX11_most_25 (by decide +kernel) ?_
    refine m_ireti C hQ dX11_most_27 ?_
    exact PM_of (by unfold s_most; rw [if_neg (by omega), if_pos (by omega)]) hz zcm_rfl
  replace hh2 := bI_eq0.mp hh2
  refine m_iconst C (-1) dX11_most_14 (by decide +kernel) ?_
  refine m_ireti C hQ dX11_most_15 ?_
  exact PM_of (by unfold s_most; rw [if_pos (by omega)]) hz zcm_rfl

set_option maxHeartbeats 4000000 in
set_option maxRecDepth 100000 in
theorem c_X11_near_2 (l : Launch) (G : Gl) (mu : Mu) (nu : Nu) (z : Zt) (hz : ZM mu nu z) (v n : Int32) (hcase : z_N z ≠ 0 → min 3 (z_N z) = 2) : Ci l G mX11_near 8 [.ref (G.1 64), .int v, .int n] mu nu (PM mu nu (s_near z v n)) := by
  have hv : zm mu (z_V z) := zm_v hz
  have hw := hv.1
  have hN7 := hw.1
  have hm7 := hw.2.2.1
  have ho8 := hw.2.2.2.2
  have hcz : ((v_N (z_V z) : Nat) : Int) = ((z_N z : Nat) : Int) := rfl
  have hzN : z_N z ≤ 7 := hN7
  have hz2N : z_N z = 0 ∨ 2 ≤ z_N z := hz.2.2.2.2.2.2.2
  refine Ct.of (lv := [(0, .ref (G.1 64)), (1, .int v), (2, .int n)]) rfl rfl (Nat.le_of_ble_eq_true rfl) rfl (fun X C => ?_)
  generalize hQ : g_E G X _ = Q
  replace C : Cx G 8 X cX11_near RX11 (some .int) 8 := C
  show Mq l G 8 X Q 0 [(0, .ref (G.1 64)), (1, .int v), (2, .int n)] [] mu nu
  refine m_iload_n C 1 dX11_near_0 rfl ?_
  refine m_i2l C dX11_near_1 ?_
  refine m_lconst C 0 dX11_near_2 rfl ?_
  refine m_ldc2 C 9999 wcX11_191 dX11_near_3 ?_
  refine m_callSf C (c_in (a := v.toInt) (b := ((0 : Nat) : Int)) (c := ((9999 : Nat) : Int)) ((tl_i _).trans (rfl : (v).toInt = _)) (ln_i (a := 0) rfl (by omega)) (ln_i (a := 9999) rfl (by omega))) wkX11_68 (by decide) rfl rfl (Nat.le_of_ble_eq_true rfl) dX11_near_6 ?_
  refine m_if_eq C 19 dX11_near_9 (by decide) (fun hh1 => ?_) (fun hh1 => ?_)
  · replace hh1 := bI_eq0.mp hh1
    refine m_iconst C (-1) dX11_near_19 (by decide +kernel) ?_
    refine m_ireti C hQ dX11_near_20 ?_
    exact PM_of (by unfold s_near; rw [if_pos (by omega)]) hz zcm_rfl
  replace hh1 := bI_ne0.mp hh1
  refine m_iload_n C 2 dX11_near_12 rfl ?_
  refine m_callSf C (c_X11_isLine l G mu nu n) wkX11_151 (by decide) rfl rfl (Nat.le_of_ble_eq_true rfl) dX11_near_13 ?_
  refine m_if_ne C 21 dX11_near_16 (by decide) (fun hh2 => ?_) (fun hh2 => ?_)
  · replace hh2 := bI_ne0.mp hh2
    obtain ⟨ev, kv⟩ := ix_eq (x := v) (by omega)
    obtain ⟨en, kn⟩ := ix_eq (x := n) (by omega)
    refine m_aload_n C 0 dX11_near_21 rfl ?_
    refine gfX11_7 C dX11_near_22 ?_
    refine m_iconst C 0 dX11_near_25 (by decide +kernel) ?_
    refine m_iald C 65 (by decide) sa_65 0 rfl (by omega) (by decide) dX11_near_26 ?_
    refine m_topi (nI (z_N z)) hv.2.1 ?_
    refine m_if_ne C 33 dX11_near_27 (by decide) (fun hh3 => ?_) (fun hh3 => ?_)
    · replace hh3 := mt (ii_eq (nn_i (a := z_N z) rfl (by omega)) (nn_i (a := 0) rfl (by omega))).mpr hh3
      have eK := hcase (by omega)
      have hok := s_nr_ok (V := z_V z) (n := ix n) (goal := ix v) (k := 2) (c := 99999999) hw (by omega) (by show _ ≤ z_N z; omega) (by omega) (by decide)
      have hfin0 : s_nr (z_V z) (ix n) (ix v) 2 99999999 = (e_all (z_N z) 2 []).foldl (e_st (s_fd (ix v) (fun i => v_sh (z_V z) i (ix n)))) (1000000000, []) := nr_far hw (by omega) (by show _ ≤ z_N z; omega) (by omega)
      refine m_aload_n C 0 dX11_near_33 rfl ?_
      refine gfX11_7 C dX11_near_34 ?_
      refine m_iconst C 0 dX11_near_37 (by decide +kernel) ?_
      refine m_iald C 65 (by decide) sa_65 0 rfl (by omega) (by decide) dX11_near_38 ?_
      refine m_topi (nI (z_N z)) hv.2.1 ?_
      refine m_iconst C 2 dX11_near_39 (by decide +kernel) ?_
      refine m_icmp_ne C 47 dX11_near_40 (by decide) (fun hh4 => absurd hh4 (fun q => q ((ii_eq (nn_i (a := z_N z) rfl (by omega)) (nn_i (a := 2) rfl (by omega))).mpr (by omega)))) (fun _ => ?_)
      refine m_iconst C 2 dX11_near_43 (by decide +kernel) ?_
      refine m_goto C 48 dX11_near_44 (by decide) ?_
      refine m_istore_n C [(3, .int 2), (0, .ref (G.1 64)), (1, .int v), (2, .int n)] dX11_near_48 (by decide) rfl ?_
      refine m_ldc C 1000000000 wcX11_193 dX11_near_49 ?_
      refine m_istore C [(4, .int 1000000000), (3, .int 2), (0, .ref (G.1 64)), (1, .int v), (2, .int n)] dX11_near_51 (by decide) rfl ?_
      refine m_aload_n C 2 dX11_near_53 rfl ?_
      refine m_iload_n C 1 dX11_near_54 rfl ?_
      refine m_iload_n C 4 dX11_near_55 rfl ?_
      refine m_topi (nI (ix n)) en ?_
      refine m_iconst C 1 dX11_near_56 (by decide +kernel) ?_
      refine m_callVi C 64 (by decide) rfl rfl (c_X11_goesNext_1 l G mu nu (z_V z) (zm_65 hv rfl) (ix n) (by omega) (by omega) 2 (by show _ ≤ z_N z; omega)) wkX11_181 (by decide) rfl rfl (Nat.le_of_ble_eq_true rfl) dX11_near_57 (fun r5 m5 n5 hp5 => ?_)
      obtain ⟨hn5, hgf5, hgr5⟩ := hp5
      rw [hn5]
      refine m_istore C [(5, .int r5), (4, .int 1000000000), (3, .int 2), (0, .ref (G.1 64)), (1, .int v), (2, .int n)] dX11_near_60 (by decide) rfl ?_
      have L62 : ∀ (fu : Nat) (mr : Int32) (a : Nat × List Nat) (R : List (List Nat)) (m : Mu) (hst : (mr = 1 ∧ ∃ T, R = T :: e_upd (z_N z) 2 T 2 ∧ GS m (z_N z) 2 (fun i => v_sh (z_V z) i (ix n)) T) ∨ (mr = 0 ∧ R = [])) (hfin : s_nr (z_V z) (ix n) (ix v) 2 99999999 = R.foldl (e_st (s_fd (ix v) (fun i => v_sh (z_V z) i (ix n)))) a) (hal : a.1 ≤ 1000000000) (hbs : BS m 2 a) (hef : EF mu m), R.length < fu → Mq l G 8 X Q 62 [(0, .ref (G.1 64)), (1, .int v), (2, .int n), (3, .int 2), (4, .int (nI a.1)), (5, .int mr)] [] m nu := by
        intro fu
        induction fu with
        | zero => intro mr a R m hst hfin hal hbs hef hm; exact absurd hm (Nat.not_lt_zero _)
        | succ fu ih62 =>
          intro mr a R m hst hfin hal hbs hef hm
          refine m_iload C 5 dX11_near_62 rfl ?_
          refine m_if_eq C 126 dX11_near_64 (by decide) (fun hh6 => ?_) (fun hh6 => ?_)
          · replace hh6 := (ii_eq (rfl : (mr).toInt = _) (nn_i (a := 0) rfl (by omega))).mp hh6
            have hRn : R = [] := by
              rcases hst with ⟨h, -⟩ | ⟨-, h⟩
              · rw [h] at hh6; exact absurd hh6 (by decide)
              · exact h
            rw [hRn] at hfin
            have hfa : s_nr (z_V z) (ix n) (ix v) 2 99999999 = a := hfin
            refine m_iconst C 0 dX11_near_126 (by decide +kernel) ?_
            refine m_istore C [(6, .int 0), (0, .ref (G.1 64)), (1, .int v), (2, .int n), (3, .int 2), (4, .int (nI a.1)), (5, .int mr)] dX11_near_127 (by decide) rfl ?_
            refine m_iconst C 0 dX11_near_129 (by decide +kernel) ?_
            refine m_istore C [(7, .int 0), (6, .int 0), (0, .ref (G.1 64)), (1, .int v), (2, .int n), (3, .int 2), (4, .int (nI a.1)), (5, .int mr)] dX11_near_130 (by decide) rfl ?_
            have L132 : ∀ (fu : Nat) (q : Nat) (hq : q ≤ 2), 2 - q < fu → Mq l G 8 X Q 132 [(0, .ref (G.1 64)), (1, .int v), (2, .int n), (3, .int 2), (4, .int (nI a.1)), (6, .int (nI (s_fig a.2 q))), (7, .int (nI q))] [] m nu := by
              intro fu
              induction fu with
              | zero => intro q hq hm; exact absurd hm (Nat.not_lt_zero _)
              | succ fu ih132 =>
                intro q hq hm
                refine m_iload C 6 dX11_near_132 rfl ?_
                refine m_iload_n C 3 dX11_near_134 rfl ?_
                refine m_icmp_ge C 159 dX11_near_135 (by decide) (fun hh7 => ?_) (fun hh7 => ?_)
                · replace hh7 := (ii_le (nn_i (a := 2) rfl (by omega)) (nn_i (a := q) rfl (by omega))).mp hh7
                  refine m_aload_n C 0 dX11_near_159 rfl ?_
                  refine m_iload C 5 dX11_near_160 rfl ?_
                  refine pfX11_60 C dX11_near_162 ?_
                  refine m_nameM (fun mu8 emu8 => ?_)
                  refine m_iload C 4 dX11_near_165 rfl ?_
                  refine m_ireti C hQ dX11_near_167 ?_
                  have eq3 : q = 2 := by omega
                  rw [eq3] at emu8
                  obtain ⟨hz2, hc2⟩ := zm_ef hz hef
                  rw [emu8]
                  exact PM_of (by unfold s_near; rw [if_neg (by omega), if_neg (by omega), eK, hfa]) (zm_told hz2) (hc2.trans zcm_told)
                replace hh7 := mt (ii_le (nn_i (a := 2) rfl (by omega)) (nn_i (a := q) rfl (by omega))).mpr hh7
                refine m_bipush C 10 dX11_near_138 (by decide +kernel) ?_
                refine m_iload C 5 dX11_near_140 rfl ?_
                refine m_imul C dX11_near_142 ?_
                refine m_topi (nI (10 * (s_fig a.2 q))) (nn_mul rfl rfl) ?_
                refine m_aload_n C 0 dX11_near_143 rfl ?_
                refine gfX11_44 C dX11_near_144 ?_
                refine m_iload C 6 dX11_near_147 rfl ?_
                refine m_iald C 75 (by decide) sa_75 q rfl (by omega) (by decide) dX11_near_149 ?_
                refine m_topi (nI (a.2.getD q 0)) (hbs (by rw [← hfa]; exact hok.1) q (by omega)) ?_
                refine m_iadd C dX11_near_150 ?_
                refine m_topi (nI ((10 * (s_fig a.2 q)) + (a.2.getD q 0))) (nn_add rfl rfl) ?_
                refine m_topi (nI (s_fig a.2 (q + 1))) rfl ?_
                refine m_istore C [(6, .int (nI (s_fig a.2 (q + 1)))), (0, .ref (G.1 64)), (1, .int v), (2, .int n), (3, .int 2), (4, .int (nI a.1)), (7, .int (nI q))] dX11_near_151 (by decide) rfl ?_
                refine m_iinc C 6 (nI (q + 1)) [(7, .int (nI (q + 1))), (6, .int (nI (s_fig a.2 (q + 1)))), (0, .ref (G.1 64)), (1, .int v), (2, .int n), (3, .int 2), (4, .int (nI a.1))] dX11_near_153 rfl (nn_add rfl (show Int32.ofInt 1 = nI 1 from rfl)) (by decide) rfl ?_
                refine m_goto C 132 dX11_near_156 (by decide) ?_
                exact m_sub [2, 3, 4, 5, 6, 1, 0] rfl (ih132 (q + 1) (by omega) (by omega))
            exact m_sub [2, 3, 4, 5, 6, 1, 0] rfl (L132 (_ + 1) 0 (Nat.zero_le _) (Nat.lt_succ_self _))
          replace hh6 := mt (ii_eq (rfl : (mr).toInt = _) (nn_i (a := 0) rfl (by omega))).mpr hh6
          obtain ⟨T, hRT, hgs⟩ : ∃ T, R = T :: e_upd (z_N z) 2 T 2 ∧ GS m (z_N z) 2 (fun i => v_sh (z_V z) i (ix n)) T := by
            rcases hst with ⟨-, h⟩ | ⟨h, -⟩
            · exact h
            · rw [h] at hh6; exact absurd rfl hh6
          have hvlT := s_vl_le (N := (z_N z)) (sh := (fun i => v_sh (z_V z) i (ix n))) (fun i hi => v_sh_le hw hi (by omega)) T hgs.2.1
          have hlT := hgs.1
          have hp10 := p10_7 (p := T.length) (by omega)
          have h74 := gs_vl hgs
          have hRl : R.length = (e_upd (z_N z) 2 T 2).length + 1 := by rw [hRT]; rfl
          refine m_aload_n C 0 dX11_near_67 rfl ?_
          refine gfX11_41 C dX11_near_68 ?_
          refine m_iload_n C 3 dX11_near_71 rfl ?_
          refine m_iald C 74 (by decide) sa_74 2 rfl (by omega) (by decide) dX11_near_72 ?_
          refine m_topi (nI (s_vl (fun i => v_sh (z_V z) i (ix n)) T)) h74 ?_
          refine m_iload_n C 1 dX11_near_73 rfl ?_
          refine m_topi (nI (ix v)) ev ?_
          refine m_icmp_le C 88 dX11_near_74 (by decide) (fun hh9 => ?_) (fun hh9 => ?_)
          · replace hh9 := (ii_le (nn_i (a := s_vl (fun i => v_sh (z_V z) i (ix n)) T) rfl (by omega)) (nn_i (a := ix v) rfl (by omega))).mp hh9
            refine m_iload_n C 1 dX11_near_88 rfl ?_
            refine m_topi (nI (ix v)) ev ?_
            refine m_aload_n C 0 dX11_near_89 rfl ?_
            refine gfX11_41 C dX11_near_90 ?_
            refine m_iload_n C 3 dX11_near_93 rfl ?_
            refine m_iald C 74 (by decide) sa_74 2 rfl (by omega) (by decide) dX11_near_94 ?_
            refine m_topi (nI (s_vl (fun i => v_sh (z_V z) i (ix n)) T)) h74 ?_
            refine m_isub C dX11_near_95 ?_
            refine m_topi (nI ((ix v) - (s_vl (fun i => v_sh (z_V z) i (ix n)) T))) (nn_sub rfl rfl (by omega)) ?_
            refine m_topi (nI (s_ds (ix v) (s_vl (fun i => v_sh (z_V z) i (ix n)) T))) (congrArg nI (by unfold s_ds; omega)) ?_
            refine m_istore C [(6, .int (nI (s_ds (ix v) (s_vl (fun i => v_sh (z_V z) i (ix n)) T)))), (0, .ref (G.1 64)), (1, .int v), (2, .int n), (3, .int 2), (4, .int (nI a.1)), (5, .int mr)] dX11_near_96 (by decide) rfl ?_
            have hds : s_ds (ix v) (s_vl (fun i => v_sh (z_V z) i (ix n)) T) ≤ 100000000 := by unfold s_ds; omega
            refine m_iload C 0 dX11_near_98 rfl ?_
            refine m_iload C 5 dX11_near_100 rfl ?_
            refine m_icmp_ge C 114 dX11_near_102 (by decide) (fun hh10 => ?_) (fun hh10 => ?_)
            · replace hh10 := (ii_le (nn_i (a := a.1) rfl (by omega)) (nn_i (a := s_ds (ix v) (s_vl (fun i => v_sh (z_V z) i (ix n)) T)) rfl (by omega))).mp hh10
              have hea : e_st (s_fd (ix v) (fun i => v_sh (z_V z) i (ix n))) a T = a := if_neg (by show ¬ s_ds (ix v) (s_vl (fun i => v_sh (z_V z) i (ix n)) T) < a.1; omega)
              refine m_aload_n C 1 dX11_near_114 rfl ?_
              refine m_iload_n C 4 dX11_near_115 rfl ?_
              refine m_iload_n C 3 dX11_near_116 rfl ?_
              refine m_topi (nI (ix n)) en ?_
              refine m_iconst C 0 dX11_near_117 (by decide +kernel) ?_
              refine m_callVi C 64 (by decide) rfl rfl (c_X11_goesNext_0 l G m nu (z_V z) (zm_65 hv (hef.1 65 (by decide) (by decide) (by decide) (by decide))) (ix n) (by omega) (by omega) 2 (by show _ ≤ z_N z; omega) (by omega) T hgs) wkX11_181 (by decide) rfl rfl (Nat.le_of_ble_eq_true rfl) dX11_near_118 (fun r11 m11 n11 hp11 => ?_)
              obtain ⟨hn11, hgf11, hgr11⟩ := hp11
              rw [hn11]
              refine m_istore C [(5, .int r11), (6, .int (nI (s_ds (ix v) (s_vl (fun i => v_sh (z_V z) i (ix n)) T)))), (0, .ref (G.1 64)), (1, .int v), (2, .int n), (3, .int 2), (4, .int (nI a.1))] dX11_near_121 (by decide) rfl ?_
              rw [show nI a.1 = nI (e_st (s_fd (ix v) (fun i => v_sh (z_V z) i (ix n))) a T).1 from by rw [hea]]
              refine m_goto C 62 dX11_near_123 (by decide) ?_
              exact m_sub [2, 3, 4, 5, 6, 0] rfl (ih62 r11 (e_st (s_fd (ix v) (fun i => v_sh (z_V z) i (ix n))) a T) (e_upd (z_N z) 2 T 2) m11 hgr11 (by rw [hfin, hRT]; rfl) (by rw [hea]; exact hal) (by rw [hea]; exact bs_keep hbs (hgf11.1 75 (by decide) (by decide) (by decide))) (ef_gf hef hgf11) (by omega))
            replace hh10 := mt (ii_le (nn_i (a := a.1) rfl (by omega)) (nn_i (a := s_ds (ix v) (s_vl (fun i => v_sh (z_V z) i (ix n)) T)) rfl (by omega))).mpr hh10
            have hea : e_st (s_fd (ix v) (fun i => v_sh (z_V z) i (ix n))) a T = (s_ds (ix v) (s_vl (fun i => v_sh (z_V z) i (ix n)) T), T) := if_pos (by show s_ds (ix v) (s_vl (fun i => v_sh (z_V z) i (ix n)) T) < a.1; omega)
            refine m_iload C 0 dX11_near_105 rfl ?_
            refine m_istore C [(4, .int (nI (s_ds (ix v) (s_vl (fun i => v_sh (z_V z) i (ix n)) T)))), (6, .int (nI (s_ds (ix v) (s_vl (fun i => v_sh (z_V z) i (ix n)) T)))), (0, .ref (G.1 64)), (1, .int v), (2, .int n), (3, .int 2), (5, .int mr)] dX11_near_107 (by decide) rfl ?_
            refine m_aload_n C 2 dX11_near_109 rfl ?_
            refine m_iload_n C 5 dX11_near_110 rfl ?_
            refine m_callVv C 64 (by decide) rfl rfl (c_X11_keeps l G m nu 2 (by omega)) wkX11_185 (by decide) rfl rfl (Nat.le_of_ble_eq_true rfl) dX11_near_111 (fun m12 n12 hp12 => ?_)
            obtain ⟨hnk, hk75, -⟩ := id hp12
            rw [hnk]
            have hgk := gs_keep hgs (hk75 73 (by decide)) (hk75 74 (by decide))
            refine m_aload_n C 2 dX11_near_114 rfl ?_
            refine m_iload_n C 5 dX11_near_115 rfl ?_
            refine m_iload_n C 4 dX11_near_116 rfl ?_
            refine m_topi (nI (ix n)) en ?_
            refine m_iconst C 0 dX11_near_117 (by decide +kernel) ?_
            refine m_callVi C 64 (by decide) rfl rfl (c_X11_goesNext_0 l G m12 nu (z_V z) (zm_65 hv ((hk75 65 (by decide)).trans (hef.1 65 (by decide) (by decide) (by decide) (by decide)))) (ix n) (by omega) (by omega) 2 (by show _ ≤ z_N z; omega) (by omega) T hgk) wkX11_181 (by decide) rfl rfl (Nat.le_of_ble_eq_true rfl) dX11_near_118 (fun r13 m13 n13 hp13 => ?_)
            obtain ⟨hn13, hgf13, hgr13⟩ := hp13
            rw [hn13]
            refine m_istore C [(5, .int r13), (4, .int (nI (s_ds (ix v) (s_vl (fun i => v_sh (z_V z) i (ix n)) T)))), (6, .int (nI (s_ds (ix v) (s_vl (fun i => v_sh (z_V z) i (ix n)) T)))), (0, .ref (G.1 64)), (1, .int v), (2, .int n), (3, .int 2)] dX11_near_121 (by decide) rfl ?_
            rw [show nI (s_ds (ix v) (s_vl (fun i => v_sh (z_V z) i (ix n)) T)) = nI (e_st (s_fd (ix v) (fun i => v_sh (z_V z) i (ix n))) a T).1 from by rw [hea]]
            refine m_goto C 62 dX11_near_123 (by decide) ?_
            exact m_sub [3, 4, 5, 6, 1, 0] rfl (ih62 r13 (e_st (s_fd (ix v) (fun i => v_sh (z_V z) i (ix n))) a T) (e_upd (z_N z) 2 T 2) m13 hgr13 (by rw [hfin, hRT]; rfl) (by rw [hea]; show s_ds (ix v) (s_vl (fun i => v_sh (z_V z) i (ix n)) T) ≤ _; omega) (by rw [hea]; exact bs_keep (bs_new hgs hp12) (hgf13.1 75 (by decide) (by decide) (by decide))) (ef_gf (ef_75 hef hk75) hgf13) (by omega))
          replace hh9 := mt (ii_le (nn_i (a := s_vl (fun i => v_sh (z_V z) i (ix n)) T) rfl (by omega)) (nn_i (a := ix v) rfl (by omega))).mpr hh9
          refine m_aload_n C 0 dX11_near_77 rfl ?_
          refine gfX11_41 C dX11_near_78 ?_
          refine m_iload_n C 3 dX11_near_81 rfl ?_
          refine m_iald C 74 (by decide) sa_74 2 rfl (by omega) (by decide) dX11_near_82 ?_
          refine m_topi (nI (s_vl (fun i => v_sh (z_V z) i (ix n)) T)) h74 ?_
          refine m_iload_n C 1 dX11_near_83 rfl ?_
          refine m_topi (nI (ix v)) ev ?_
          refine m_isub C dX11_near_84 ?_
          refine m_topi (nI ((s_vl (fun i => v_sh (z_V z) i (ix n)) T) - (ix v))) (nn_sub rfl rfl (by omega)) ?_
          refine m_topi (nI (s_ds (ix v) (s_vl (fun i => v_sh (z_V z) i (ix n)) T))) (congrArg nI (by unfold s_ds; omega)) ?_
          refine m_goto C 96 dX11_near_85 (by decide) ?_
          refine m_istore C [(6, .int (nI (s_ds (ix v) (s_vl (fun i => v_sh (z_V z) i (ix n)) T)))), (0, .ref (G.1 64)), (1, .int v), (2, .int n), (3, .int 2), (4, .int (nI a.1)), (5, .int mr)] dX11_near_96 (by decide) rfl ?_
          have hds : s_ds (ix v) (s_vl (fun i => v_sh (z_V z) i (ix n)) T) ≤ 100000000 := by unfold s_ds; omega
          refine m_iload C 0 dX11_near_98 rfl ?_
          refine m_iload C 5 dX11_near_100 rfl ?_
          refine m_icmp_ge C 114 dX11_near_102 (by decide) (fun hh14 => ?_) (fun hh14 => ?_)
          · replace hh14 := (ii_le (nn_i (a := a.1) rfl (by omega)) (nn_i (a := s_ds (ix v) (s_vl (fun i => v_sh (z_V z) i (ix n)) T)) rfl (by omega))).mp hh14
            have hea : e_st (s_fd (ix v) (fun i => v_sh (z_V z) i (ix n))) a T = a := if_neg (by show ¬ s_ds (ix v) (s_vl (fun i => v_sh (z_V z) i (ix n)) T) < a.1; omega)
            refine m_aload_n C 1 dX11_near_114 rfl ?_
            refine m_iload_n C 4 dX11_near_115 rfl ?_
            refine m_iload_n C 3 dX11_near_116 rfl ?_
            refine m_topi (nI (ix n)) en ?_
            refine m_iconst C 0 dX11_near_117 (by decide +kernel) ?_
            refine m_callVi C 64 (by decide) rfl rfl (c_X11_goesNext_0 l G m nu (z_V z) (zm_65 hv (hef.1 65 (by decide) (by decide) (by decide) (by decide))) (ix n) (by omega) (by omega) 2 (by show _ ≤ z_N z; omega) (by omega) T hgs) wkX11_181 (by decide) rfl rfl (Nat.le_of_ble_eq_true rfl) dX11_near_118 (fun r15 m15 n15 hp15 => ?_)
            obtain ⟨hn15, hgf15, hgr15⟩ := hp15
            rw [hn15]
            refine m_istore C [(5, .int r15), (6, .int (nI (s_ds (ix v) (s_vl (fun i => v_sh (z_V z) i (ix n)) T)))), (0, .ref (G.1 64)), (1, .int v), (2, .int n), (3, .int 2), (4, .int (nI a.1))] dX11_near_121 (by decide) rfl ?_
            rw [show nI a.1 = nI (e_st (s_fd (ix v) (fun i => v_sh (z_V z) i (ix n))) a T).1 from by rw [hea]]
            refine m_goto C 62 dX11_near_123 (by decide) ?_
            exact m_sub [2, 3, 4, 5, 6, 0] rfl (ih62 r15 (e_st (s_fd (ix v) (fun i => v_sh (z_V z) i (ix n))) a T) (e_upd (z_N z) 2 T 2) m15 hgr15 (by rw [hfin, hRT]; rfl) (by rw [hea]; exact hal) (by rw [hea]; exact bs_keep hbs (hgf15.1 75 (by decide) (by decide) (by decide))) (ef_gf hef hgf15) (by omega))
          replace hh14 := mt (ii_le (nn_i (a := a.1) rfl (by omega)) (nn_i (a := s_ds (ix v) (s_vl (fun i => v_sh (z_V z) i (ix n)) T)) rfl (by omega))).mpr hh14
          have hea : e_st (s_fd (ix v) (fun i => v_sh (z_V z) i (ix n))) a T = (s_ds (ix v) (s_vl (fun i => v_sh (z_V z) i (ix n)) T), T) := if_pos (by show s_ds (ix v) (s_vl (fun i => v_sh (z_V z) i (ix n)) T) < a.1; omega)
          refine m_iload C 0 dX11_near_105 rfl ?_
          refine m_istore C [(4, .int (nI (s_ds (ix v) (s_vl (fun i => v_sh (z_V z) i (ix n)) T)))), (6, .int (nI (s_ds (ix v) (s_vl (fun i => v_sh (z_V z) i (ix n)) T)))), (0, .ref (G.1 64)), (1, .int v), (2, .int n), (3, .int 2), (5, .int mr)] dX11_near_107 (by decide) rfl ?_
          refine m_aload_n C 2 dX11_near_109 rfl ?_
          refine m_iload_n C 5 dX11_near_110 rfl ?_
          refine m_callVv C 64 (by decide) rfl rfl (c_X11_keeps l G m nu 2 (by omega)) wkX11_185 (by decide) rfl rfl (Nat.le_of_ble_eq_true rfl) dX11_near_111 (fun m16 n16 hp16 => ?_)
          obtain ⟨hnk, hk75, -⟩ := id hp16
          rw [hnk]
          have hgk := gs_keep hgs (hk75 73 (by decide)) (hk75 74 (by decide))
          refine m_aload_n C 2 dX11_near_114 rfl ?_
          refine m_iload_n C 5 dX11_near_115 rfl ?_
          refine m_iload_n C 4 dX11_near_116 rfl ?_
          refine m_topi (nI (ix n)) en ?_
          refine m_iconst C 0 dX11_near_117 (by decide +kernel) ?_
          refine m_callVi C 64 (by decide) rfl rfl (c_X11_goesNext_0 l G m16 nu (z_V z) (zm_65 hv ((hk75 65 (by decide)).trans (hef.1 65 (by decide) (by decide) (by decide) (by decide)))) (ix n) (by omega) (by omega) 2 (by show _ ≤ z_N z; omega) (by omega) T hgk) wkX11_181 (by decide) rfl rfl (Nat.le_of_ble_eq_true rfl) dX11_near_118 (fun r17 m17 n17 hp17 => ?_)
          obtain ⟨hn17, hgf17, hgr17⟩ := hp17
          rw [hn17]
          refine m_istore C [(5, .int r17), (4, .int (nI (s_ds (ix v) (s_vl (fun i => v_sh (z_V z) i (ix n)) T)))), (6, .int (nI (s_ds (ix v) (s_vl (fun i => v_sh (z_V z) i (ix n)) T)))), (0, .ref (G.1 64)), (1, .int v), (2, .int n), (3, .int 2)] dX11_near_121 (by decide) rfl ?_
          rw [show nI (s_ds (ix v) (s_vl (fun i => v_sh (z_V z) i (ix n)) T)) = nI (e_st (s_fd (ix v) (fun i => v_sh (z_V z) i (ix n))) a T).1 from by rw [hea]]
          refine m_goto C 62 dX11_near_123 (by decide) ?_
          exact m_sub [3, 4, 5, 6, 1, 0] rfl (ih62 r17 (e_st (s_fd (ix v) (fun i => v_sh (z_V z) i (ix n))) a T) (e_upd (z_N z) 2 T 2) m17 hgr17 (by rw [hfin, hRT]; rfl) (by rw [hea]; show s_ds (ix v) (s_vl (fun i => v_sh (z_V z) i (ix n)) T) ≤ _; omega) (by rw [hea]; exact bs_keep (bs_new hgs hp16) (hgf17.1 75 (by decide) (by decide) (by decide))) (ef_gf (ef_75 hef hk75) hgf17) (by omega))
      exact m_sub [3, 4, 5, 2, 1, 0] rfl (L62 (_ + 1) r5 ((1000000000, [])) (e_all (z_N z) 2 []) m5 hgr5 hfin0 (Nat.le_refl _) (fun h => absurd h (by decide)) (ef_gf ef_rfl hgf5) (Nat.lt_succ_self _))
    replace hh3 := (ii_eq (nn_i (a := z_N z) rfl (by omega)) (nn_i (a := 0) rfl (by omega))).mp hh3
    refine m_bipush C (-4) dX11_near_30 (by decide +kernel) ?_
    refine m_ireti C hQ dX11_near_32 ?_
    exact PM_of (by unfold s_near; rw [if_neg (by omega), if_pos (by omega)]) hz zcm_rfl
  replace hh2 := bI_eq0.mp hh2
  refine m_iconst C (-1) dX11_near_19 (by decide +kernel) ?_
  refine m_ireti C hQ dX11_near_20 ?_
  exact PM_of (by unfold s_near; rw [if_pos (by omega)]) hz zcm_rfl

set_option maxHeartbeats 4000000 in
set_option maxRecDepth 100000 in
theorem c_X11_near_3 (l : Launch) (G : Gl) (mu : Mu) (nu : Nu) (z : Zt) (hz : ZM mu nu z) (v n : Int32) (hcase : z_N z ≠ 0 → min 3 (z_N z) = 3) : Ci l G mX11_near 8 [.ref (G.1 64), .int v, .int n] mu nu (PM mu nu (s_near z v n)) := by
  have hv : zm mu (z_V z) := zm_v hz
  have hw := hv.1
  have hN7 := hw.1
  have hm7 := hw.2.2.1
  have ho8 := hw.2.2.2.2
  have hcz : ((v_N (z_V z) : Nat) : Int) = ((z_N z : Nat) : Int) := rfl
  have hzN : z_N z ≤ 7 := hN7
  have hz2N : z_N z = 0 ∨ 2 ≤ z_N z := hz.2.2.2.2.2.2.2
  refine Ct.of (lv := [(0, .ref (G.1 64)), (1, .int v), (2, .int n)]) rfl rfl (Nat.le_of_ble_eq_true rfl) rfl (fun X C => ?_)
  generalize hQ : g_E G X _ = Q
  replace C : Cx G 8 X cX11_near RX11 (some .int) 8 := C
  show Mq l G 8 X Q 0 [(0, .ref (G.1 64)), (1, .int v), (2, .int n)] [] mu nu
  refine m_iload_n C 1 dX11_near_0 rfl ?_
  refine m_i2l C dX11_near_1 ?_
  refine m_lconst C 0 dX11_near_2 rfl ?_
  refine m_ldc2 C 9999 wcX11_191 dX11_near_3 ?_
  refine m_callSf C (c_in (a := v.toInt) (b := ((0 : Nat) : Int)) (c := ((9999 : Nat) : Int)) ((tl_i _).trans (rfl : (v).toInt = _)) (ln_i (a := 0) rfl (by omega)) (ln_i (a := 9999) rfl (by omega))) wkX11_68 (by decide) rfl rfl (Nat.le_of_ble_eq_true rfl) dX11_near_6 ?_
  refine m_if_eq C 19 dX11_near_9 (by decide) (fun hh1 => ?_) (fun hh1 => ?_)
  · replace hh1 := bI_eq0.mp hh1
    refine m_iconst C (-1) dX11_near_19 (by decide +kernel) ?_
    refine m_ireti C hQ dX11_near_20 ?_
    exact PM_of (by unfold s_near; rw [if_pos (by omega)]) hz zcm_rfl
  replace hh1 := bI_ne0.mp hh1
  refine m_iload_n C 2 dX11_near_12 rfl ?_
  refine m_callSf C (c_X11_isLine l G mu nu n) wkX11_151 (by decide) rfl rfl (Nat.le_of_ble_eq_true rfl) dX11_near_13 ?_
  refine m_if_ne C 21 dX11_near_16 (by decide) (fun hh2 => ?_) (fun hh2 => ?_)
  · replace hh2 := bI_ne0.mp hh2
    obtain ⟨ev, kv⟩ := ix_eq (x := v) (by omega)
    obtain ⟨en, kn⟩ := ix_eq (x := n) (by omega)
    refine m_aload_n C 0 dX11_near_21 rfl ?_
    refine gfX11_7 C dX11_near_22 ?_
    refine m_iconst C 0 dX11_near_25 (by decide +kernel) ?_
    refine m_iald C 65 (by decide) sa_65 0 rfl (by omega) (by decide) dX11_near_26 ?_
    refine m_topi (nI (z_N z)) hv.2.1 ?_
    refine m_if_ne C 33 dX11_near_27 (by decide) (fun hh3 => ?_) (fun hh3 => ?_)
    · replace hh3 := mt (ii_eq (nn_i (a := z_N z) rfl (by omega)) (nn_i (a := 0) rfl (by omega))).mpr hh3
      have eK := hcase (by omega)
      have hok := s_nr_ok (V := z_V z) (n := ix n) (goal := ix v) (k := 3) (c := 99999999) hw (by omega) (by show _ ≤ z_N z; omega) (by omega) (by decide)
      have hfin0 : s_nr (z_V z) (ix n) (ix v) 3 99999999 = (e_all (z_N z) 3 []).foldl (e_st (s_fd (ix v) (fun i => v_sh (z_V z) i (ix n)))) (1000000000, []) := nr_far hw (by omega) (by show _ ≤ z_N z; omega) (by omega)
      refine m_aload_n C 0 dX11_near_33 rfl ?_
      refine gfX11_7 C dX11_near_34 ?_
      refine m_iconst C 0 dX11_near_37 (by decide +kernel) ?_
      refine m_iald C 65 (by decide) sa_65 0 rfl (by omega) (by decide) dX11_near_38 ?_
      refine m_topi (nI (z_N z)) hv.2.1 ?_
      refine m_iconst C 2 dX11_near_39 (by decide +kernel) ?_
      refine m_icmp_ne C 47 dX11_near_40 (by decide) (fun _ => ?_) (fun hh4 => absurd hh4 (mt (ii_eq (nn_i (a := z_N z) rfl (by omega)) (nn_i (a := 2) rfl (by omega))).mp (by omega)))
      refine m_iconst C 3 dX11_near_47 (by decide +kernel) ?_
      refine m_istore_n C [(3, .int 3), (0, .ref (G.1 64)), (1, .int v), (2, .int n)] dX11_near_48 (by decide) rfl ?_
      refine m_ldc C 1000000000 wcX11_193 dX11_near_49 ?_
      refine m_istore C [(4, .int 1000000000), (3, .int 3), (0, .ref (G.1 64)), (1, .int v), (2, .int n)] dX11_near_51 (by decide) rfl ?_
      refine m_aload_n C 2 dX11_near_53 rfl ?_
      refine m_iload_n C 1 dX11_near_54 rfl ?_
      refine m_iload_n C 4 dX11_near_55 rfl ?_
      refine m_topi (nI (ix n)) en ?_
      refine m_iconst C 1 dX11_near_56 (by decide +kernel) ?_
      refine m_callVi C 64 (by decide) rfl rfl (c_X11_goesNext_1 l G mu nu (z_V z) (zm_65 hv rfl) (ix n) (by omega) (by omega) 3 (by show _ ≤ z_N z; omega)) wkX11_181 (by decide) rfl rfl (Nat.le_of_ble_eq_true rfl) dX11_near_57 (fun r5 m5 n5 hp5 => ?_)
      obtain ⟨hn5, hgf5, hgr5⟩ := hp5
      rw [hn5]
      refine m_istore C [(5, .int r5), (4, .int 1000000000), (3, .int 3), (0, .ref (G.1 64)), (1, .int v), (2, .int n)] dX11_near_60 (by decide) rfl ?_
      have L62 : ∀ (fu : Nat) (mr : Int32) (a : Nat × List Nat) (R : List (List Nat)) (m : Mu) (hst : (mr = 1 ∧ ∃ T, R = T :: e_upd (z_N z) 3 T 3 ∧ GS m (z_N z) 3 (fun i => v_sh (z_V z) i (ix n)) T) ∨ (mr = 0 ∧ R = [])) (hfin : s_nr (z_V z) (ix n) (ix v) 3 99999999 = R.foldl (e_st (s_fd (ix v) (fun i => v_sh (z_V z) i (ix n)))) a) (hal : a.1 ≤ 1000000000) (hbs : BS m 3 a) (hef : EF mu m), R.length < fu → Mq l G 8 X Q 62 [(0, .ref (G.1 64)), (1, .int v), (2, .int n), (3, .int 3), (4, .int (nI a.1)), (5, .int mr)] [] m nu := by
        intro fu
        induction fu with
        | zero => intro mr a R m hst hfin hal hbs hef hm; exact absurd hm (Nat.not_lt_zero _)
        | succ fu ih62 =>
          intro mr a R m hst hfin hal hbs hef hm
          refine m_iload C 5 dX11_near_62 rfl ?_
          refine m_if_eq C 126 dX11_near_64 (by decide) (fun hh6 => ?_) (fun hh6 => ?_)
          · replace hh6 := (ii_eq (rfl : (mr).toInt = _) (nn_i (a := 0) rfl (by omega))).mp hh6
            have hRn : R = [] := by
              rcases hst with ⟨h, -⟩ | ⟨-, h⟩
              · rw [h] at hh6; exact absurd hh6 (by decide)
              · exact h
            rw [hRn] at hfin
            have hfa : s_nr (z_V z) (ix n) (ix v) 3 99999999 = a := hfin
            refine m_iconst C 0 dX11_near_126 (by decide +kernel) ?_
            refine m_istore C [(6, .int 0), (0, .ref (G.1 64)), (1, .int v), (2, .int n), (3, .int 3), (4, .int (nI a.1)), (5, .int mr)] dX11_near_127 (by decide) rfl ?_
            refine m_iconst C 0 dX11_near_129 (by decide +kernel) ?_
            refine m_istore C [(7, .int 0), (6, .int 0), (0, .ref (G.1 64)), (1, .int v), (2, .int n), (3, .int 3), (4, .int (nI a.1)), (5, .int mr)] dX11_near_130 (by decide) rfl ?_
            have L132 : ∀ (fu : Nat) (q : Nat) (hq : q ≤ 3), 3 - q < fu → Mq l G 8 X Q 132 [(0, .ref (G.1 64)), (1, .int v), (2, .int n), (3, .int 3), (4, .int (nI a.1)), (6, .int (nI (s_fig a.2 q))), (7, .int (nI q))] [] m nu := by
              intro fu
              induction fu with
              | zero => intro q hq hm; exact absurd hm (Nat.not_lt_zero _)
              | succ fu ih132 =>
                intro q hq hm
                refine m_iload C 6 dX11_near_132 rfl ?_
                refine m_iload_n C 3 dX11_near_134 rfl ?_
                refine m_icmp_ge C 159 dX11_near_135 (by decide) (fun hh7 => ?_) (fun hh7 => ?_)
                · replace hh7 := (ii_le (nn_i (a := 3) rfl (by omega)) (nn_i (a := q) rfl (by omega))).mp hh7
                  refine m_aload_n C 0 dX11_near_159 rfl ?_
                  refine m_iload C 5 dX11_near_160 rfl ?_
                  refine pfX11_60 C dX11_near_162 ?_
                  refine m_nameM (fun mu8 emu8 => ?_)
                  refine m_iload C 4 dX11_near_165 rfl ?_
                  refine m_ireti C hQ dX11_near_167 ?_
                  have eq3 : q = 3 := by omega
                  rw [eq3] at emu8
                  obtain ⟨hz2, hc2⟩ := zm_ef hz hef
                  rw [emu8]
                  exact PM_of (by unfold s_near; rw [if_neg (by omega), if_neg (by omega), eK, hfa]) (zm_told hz2) (hc2.trans zcm_told)
                replace hh7 := mt (ii_le (nn_i (a := 3) rfl (by omega)) (nn_i (a := q) rfl (by omega))).mpr hh7
                refine m_bipush C 10 dX11_near_138 (by decide +kernel) ?_
                refine m_iload C 5 dX11_near_140 rfl ?_
                refine m_imul C dX11_near_142 ?_
                refine m_topi (nI (10 * (s_fig a.2 q))) (nn_mul rfl rfl) ?_
                refine m_aload_n C 0 dX11_near_143 rfl ?_
                refine gfX11_44 C dX11_near_144 ?_
                refine m_iload C 6 dX11_near_147 rfl ?_
                refine m_iald C 75 (by decide) sa_75 q rfl (by omega) (by decide) dX11_near_149 ?_
                refine m_topi (nI (a.2.getD q 0)) (hbs (by rw [← hfa]; exact hok.1) q (by omega)) ?_
                refine m_iadd C dX11_near_150 ?_
                refine m_topi (nI ((10 * (s_fig a.2 q)) + (a.2.getD q 0))) (nn_add rfl rfl) ?_
                refine m_topi (nI (s_fig a.2 (q + 1))) rfl ?_
                refine m_istore C [(6, .int (nI (s_fig a.2 (q + 1)))), (0, .ref (G.1 64)), (1, .int v), (2, .int n), (3, .int 3), (4, .int (nI a.1)), (7, .int (nI q))] dX11_near_151 (by decide) rfl ?_
                refine m_iinc C 6 (nI (q + 1)) [(7, .int (nI (q + 1))), (6, .int (nI (s_fig a.2 (q + 1)))), (0, .ref (G.1 64)), (1, .int v), (2, .int n), (3, .int 3), (4, .int (nI a.1))] dX11_near_153 rfl (nn_add rfl (show Int32.ofInt 1 = nI 1 from rfl)) (by decide) rfl ?_
                refine m_goto C 132 dX11_near_156 (by decide) ?_
                exact m_sub [2, 3, 4, 5, 6, 1, 0] rfl (ih132 (q + 1) (by omega) (by omega))
            exact m_sub [2, 3, 4, 5, 6, 1, 0] rfl (L132 (_ + 1) 0 (Nat.zero_le _) (Nat.lt_succ_self _))
          replace hh6 := mt (ii_eq (rfl : (mr).toInt = _) (nn_i (a := 0) rfl (by omega))).mpr hh6
          obtain ⟨T, hRT, hgs⟩ : ∃ T, R = T :: e_upd (z_N z) 3 T 3 ∧ GS m (z_N z) 3 (fun i => v_sh (z_V z) i (ix n)) T := by
            rcases hst with ⟨-, h⟩ | ⟨h, -⟩
            · exact h
            · rw [h] at hh6; exact absurd rfl hh6
          have hvlT := s_vl_le (N := (z_N z)) (sh := (fun i => v_sh (z_V z) i (ix n))) (fun i hi => v_sh_le hw hi (by omega)) T hgs.2.1
          have hlT := hgs.1
          have hp10 := p10_7 (p := T.length) (by omega)
          have h74 := gs_vl hgs
          have hRl : R.length = (e_upd (z_N z) 3 T 3).length + 1 := by rw [hRT]; rfl
          refine m_aload_n C 0 dX11_near_67 rfl ?_
          refine gfX11_41 C dX11_near_68 ?_
          refine m_iload_n C 3 dX11_near_71 rfl ?_
          refine m_iald C 74 (by decide) sa_74 3 rfl (by omega) (by decide) dX11_near_72 ?_
          refine m_topi (nI (s_vl (fun i => v_sh (z_V z) i (ix n)) T)) h74 ?_
          refine m_iload_n C 1 dX11_near_73 rfl ?_
          refine m_topi (nI (ix v)) ev ?_
          refine m_icmp_le C 88 dX11_near_74 (by decide) (fun hh9 => ?_) (fun hh9 => ?_)
          · replace hh9 := (ii_le (nn_i (a := s_vl (fun i => v_sh (z_V z) i (ix n)) T) rfl (by omega)) (nn_i (a := ix v) rfl (by omega))).mp hh9
            refine m_iload_n C 1 dX11_near_88 rfl ?_
            refine m_topi (nI (ix v)) ev ?_
            refine m_aload_n C 0 dX11_near_89 rfl ?_
            refine gfX11_41 C dX11_near_90 ?_
            refine m_iload_n C 3 dX11_near_93 rfl ?_
            refine m_iald C 74 (by decide) sa_74 3 rfl (by omega) (by decide) dX11_near_94 ?_
            refine m_topi (nI (s_vl (fun i => v_sh (z_V z) i (ix n)) T)) h74 ?_
            refine m_isub C dX11_near_95 ?_
            refine m_topi (nI ((ix v) - (s_vl (fun i => v_sh (z_V z) i (ix n)) T))) (nn_sub rfl rfl (by omega)) ?_
            refine m_topi (nI (s_ds (ix v) (s_vl (fun i => v_sh (z_V z) i (ix n)) T))) (congrArg nI (by unfold s_ds; omega)) ?_
            refine m_istore C [(6, .int (nI (s_ds (ix v) (s_vl (fun i => v_sh (z_V z) i (ix n)) T)))), (0, .ref (G.1 64)), (1, .int v), (2, .int n), (3, .int 3), (4, .int (nI a.1)), (5, .int mr)] dX11_near_96 (by decide) rfl ?_
            have hds : s_ds (ix v) (s_vl (fun i => v_sh (z_V z) i (ix n)) T) ≤ 100000000 := by unfold s_ds; omega
            refine m_iload C 0 dX11_near_98 rfl ?_
            refine m_iload C 5 dX11_near_100 rfl ?_
            refine m_icmp_ge C 114 dX11_near_102 (by decide) (fun hh10 => ?_) (fun hh10 => ?_)
            · replace hh10 := (ii_le (nn_i (a := a.1) rfl (by omega)) (nn_i (a := s_ds (ix v) (s_vl (fun i => v_sh (z_V z) i (ix n)) T)) rfl (by omega))).mp hh10
              have hea : e_st (s_fd (ix v) (fun i => v_sh (z_V z) i (ix n))) a T = a := if_neg (by show ¬ s_ds (ix v) (s_vl (fun i => v_sh (z_V z) i (ix n)) T) < a.1; omega)
              refine m_aload_n C 1 dX11_near_114 rfl ?_
              refine m_iload_n C 4 dX11_near_115 rfl ?_
              refine m_iload_n C 3 dX11_near_116 rfl ?_
              refine m_topi (nI (ix n)) en ?_
              refine m_iconst C 0 dX11_near_117 (by decide +kernel) ?_
              refine m_callVi C 64 (by decide) rfl rfl (c_X11_goesNext_0 l G m nu (z_V z) (zm_65 hv (hef.1 65 (by decide) (by decide) (by decide) (by decide))) (ix n) (by omega) (by omega) 3 (by show _ ≤ z_N z; omega) (by omega) T hgs) wkX11_181 (by decide) rfl rfl (Nat.le_of_ble_eq_true rfl) dX11_near_118 (fun r11 m11 n11 hp11 => ?_)
              obtain ⟨hn11, hgf11, hgr11⟩ := hp11
              rw [hn11]
              refine m_istore C [(5, .int r11), (6, .int (nI (s_ds (ix v) (s_vl (fun i => v_sh (z_V z) i (ix n)) T)))), (0, .ref (G.1 64)), (1, .int v), (2, .int n), (3, .int 3), (4, .int (nI a.1))] dX11_near_121 (by decide) rfl ?_
              rw [show nI a.1 = nI (e_st (s_fd (ix v) (fun i => v_sh (z_V z) i (ix n))) a T).1 from by rw [hea]]
              refine m_goto C 62 dX11_near_123 (by decide) ?_
              exact m_sub [2, 3, 4, 5, 6, 0] rfl (ih62 r11 (e_st (s_fd (ix v) (fun i => v_sh (z_V z) i (ix n))) a T) (e_upd (z_N z) 3 T 3) m11 hgr11 (by rw [hfin, hRT]; rfl) (by rw [hea]; exact hal) (by rw [hea]; exact bs_keep hbs (hgf11.1 75 (by decide) (by decide) (by decide))) (ef_gf hef hgf11) (by omega))
            replace hh10 := mt (ii_le (nn_i (a := a.1) rfl (by omega)) (nn_i (a := s_ds (ix v) (s_vl (fun i => v_sh (z_V z) i (ix n)) T)) rfl (by omega))).mpr hh10
            have hea : e_st (s_fd (ix v) (fun i => v_sh (z_V z) i (ix n))) a T = (s_ds (ix v) (s_vl (fun i => v_sh (z_V z) i (ix n)) T), T) := if_pos (by show s_ds (ix v) (s_vl (fun i => v_sh (z_V z) i (ix n)) T) < a.1; omega)
            refine m_iload C 0 dX11_near_105 rfl ?_
            refine m_istore C [(4, .int (nI (s_ds (ix v) (s_vl (fun i => v_sh (z_V z) i (ix n)) T)))), (6, .int (nI (s_ds (ix v) (s_vl (fun i => v_sh (z_V z) i (ix n)) T)))), (0, .ref (G.1 64)), (1, .int v), (2, .int n), (3, .int 3), (5, .int mr)] dX11_near_107 (by decide) rfl ?_
            refine m_aload_n C 2 dX11_near_109 rfl ?_
            refine m_iload_n C 5 dX11_near_110 rfl ?_
            refine m_callVv C 64 (by decide) rfl rfl (c_X11_keeps l G m nu 3 (by omega)) wkX11_185 (by decide) rfl rfl (Nat.le_of_ble_eq_true rfl) dX11_near_111 (fun m12 n12 hp12 => ?_)
            obtain ⟨hnk, hk75, -⟩ := id hp12
            rw [hnk]
            have hgk := gs_keep hgs (hk75 73 (by decide)) (hk75 74 (by decide))
            refine m_aload_n C 2 dX11_near_114 rfl ?_
            refine m_iload_n C 5 dX11_near_115 rfl ?_
            refine m_iload_n C 4 dX11_near_116 rfl ?_
            refine m_topi (nI (ix n)) en ?_
            refine m_iconst C 0 dX11_near_117 (by decide +kernel) ?_
            refine m_callVi C 64 (by decide) rfl rfl (c_X11_goesNext_0 l G m12 nu (z_V z) (zm_65 hv ((hk75 65 (by decide)).trans (hef.1 65 (by decide) (by decide) (by decide) (by decide)))) (ix n) (by omega) (by omega) 3 (by show _ ≤ z_N z; omega) (by omega) T hgk) wkX11_181 (by decide) rfl rfl (Nat.le_of_ble_eq_true rfl) dX11_near_118 (fun r13 m13 n13 hp13 => ?_)
            obtain ⟨hn13, hgf13, hgr13⟩ := hp13
            rw [hn13]
            refine m_istore C [(5, .int r13), (4, .int (nI (s_ds (ix v) (s_vl (fun i => v_sh (z_V z) i (ix n)) T)))), (6, .int (nI (s_ds (ix v) (s_vl (fun i => v_sh (z_V z) i (ix n)) T)))), (0, .ref (G.1 64)), (1, .int v), (2, .int n), (3, .int 3)] dX11_near_121 (by decide) rfl ?_
            rw [show nI (s_ds (ix v) (s_vl (fun i => v_sh (z_V z) i (ix n)) T)) = nI (e_st (s_fd (ix v) (fun i => v_sh (z_V z) i (ix n))) a T).1 from by rw [hea]]
            refine m_goto C 62 dX11_near_123 (by decide) ?_
            exact m_sub [3, 4, 5, 6, 1, 0] rfl (ih62 r13 (e_st (s_fd (ix v) (fun i => v_sh (z_V z) i (ix n))) a T) (e_upd (z_N z) 3 T 3) m13 hgr13 (by rw [hfin, hRT]; rfl) (by rw [hea]; show s_ds (ix v) (s_vl (fun i => v_sh (z_V z) i (ix n)) T) ≤ _; omega) (by rw [hea]; exact bs_keep (bs_new hgs hp12) (hgf13.1 75 (by decide) (by decide) (by decide))) (ef_gf (ef_75 hef hk75) hgf13) (by omega))
          replace hh9 := mt (ii_le (nn_i (a := s_vl (fun i => v_sh (z_V z) i (ix n)) T) rfl (by omega)) (nn_i (a := ix v) rfl (by omega))).mpr hh9
          refine m_aload_n C 0 dX11_near_77 rfl ?_
          refine gfX11_41 C dX11_near_78 ?_
          refine m_iload_n C 3 dX11_near_81 rfl ?_
          refine m_iald C 74 (by decide) sa_74 3 rfl (by omega) (by decide) dX11_near_82 ?_
          refine m_topi (nI (s_vl (fun i => v_sh (z_V z) i (ix n)) T)) h74 ?_
          refine m_iload_n C 1 dX11_near_83 rfl ?_
          refine m_topi (nI (ix v)) ev ?_
          refine m_isub C dX11_near_84 ?_
          refine m_topi (nI ((s_vl (fun i => v_sh (z_V z) i (ix n)) T) - (ix v))) (nn_sub rfl rfl (by omega)) ?_
          refine m_topi (nI (s_ds (ix v) (s_vl (fun i => v_sh (z_V z) i (ix n)) T))) (congrArg nI (by unfold s_ds; omega)) ?_
          refine m_goto C 96 dX11_near_85 (by decide) ?_
          refine m_istore C [(6, .int (nI (s_ds (ix v) (s_vl (fun i => v_sh (z_V z) i (ix n)) T)))), (0, .ref (G.1 64)), (1, .int v), (2, .int n), (3, .int 3), (4, .int (nI a.1)), (5, .int mr)] dX11_near_96 (by decide) rfl ?_
          have hds : s_ds (ix v) (s_vl (fun i => v_sh (z_V z) i (ix n)) T) ≤ 100000000 := by unfold s_ds; omega
          refine m_iload C 0 dX11_near_98 rfl ?_
          refine m_iload C 5 dX11_near_100 rfl ?_
          refine m_icmp_ge C 114 dX11_near_102 (by decide) (fun hh14 => ?_) (fun hh14 => ?_)
          · replace hh14 := (ii_le (nn_i (a := a.1) rfl (by omega)) (nn_i (a := s_ds (ix v) (s_vl (fun i => v_sh (z_V z) i (ix n)) T)) rfl (by omega))).mp hh14
            have hea : e_st (s_fd (ix v) (fun i => v_sh (z_V z) i (ix n))) a T = a := if_neg (by show ¬ s_ds (ix v) (s_vl (fun i => v_sh (z_V z) i (ix n)) T) < a.1; omega)
            refine m_aload_n C 1 dX11_near_114 rfl ?_
            refine m_iload_n C 4 dX11_near_115 rfl ?_
            refine m_iload_n C 3 dX11_near_116 rfl ?_
            refine m_topi (nI (ix n)) en ?_
            refine m_iconst C 0 dX11_near_117 (by decide +kernel) ?_
            refine m_callVi C 64 (by decide) rfl rfl (c_X11_goesNext_0 l G m nu (z_V z) (zm_65 hv (hef.1 65 (by decide) (by decide) (by decide) (by decide))) (ix n) (by omega) (by omega) 3 (by show _ ≤ z_N z; omega) (by omega) T hgs) wkX11_181 (by decide) rfl rfl (Nat.le_of_ble_eq_true rfl) dX11_near_118 (fun r15 m15 n15 hp15 => ?_)
            obtain ⟨hn15, hgf15, hgr15⟩ := hp15
            rw [hn15]
            refine m_istore C [(5, .int r15), (6, .int (nI (s_ds (ix v) (s_vl (fun i => v_sh (z_V z) i (ix n)) T)))), (0, .ref (G.1 64)), (1, .int v), (2, .int n), (3, .int 3), (4, .int (nI a.1))] dX11_near_121 (by decide) rfl ?_
            rw [show nI a.1 = nI (e_st (s_fd (ix v) (fun i => v_sh (z_V z) i (ix n))) a T).1 from by rw [hea]]
            refine m_goto C 62 dX11_near_123 (by decide) ?_
            exact m_sub [2, 3, 4, 5, 6, 0] rfl (ih62 r15 (e_st (s_fd (ix v) (fun i => v_sh (z_V z) i (ix n))) a T) (e_upd (z_N z) 3 T 3) m15 hgr15 (by rw [hfin, hRT]; rfl) (by rw [hea]; exact hal) (by rw [hea]; exact bs_keep hbs (hgf15.1 75 (by decide) (by decide) (by decide))) (ef_gf hef hgf15) (by omega))
          replace hh14 := mt (ii_le (nn_i (a := a.1) rfl (by omega)) (nn_i (a := s_ds (ix v) (s_vl (fun i => v_sh (z_V z) i (ix n)) T)) rfl (by omega))).mpr hh14
          have hea : e_st (s_fd (ix v) (fun i => v_sh (z_V z) i (ix n))) a T = (s_ds (ix v) (s_vl (fun i => v_sh (z_V z) i (ix n)) T), T) := if_pos (by show s_ds (ix v) (s_vl (fun i => v_sh (z_V z) i (ix n)) T) < a.1; omega)
          refine m_iload C 0 dX11_near_105 rfl ?_
          refine m_istore C [(4, .int (nI (s_ds (ix v) (s_vl (fun i => v_sh (z_V z) i (ix n)) T)))), (6, .int (nI (s_ds (ix v) (s_vl (fun i => v_sh (z_V z) i (ix n)) T)))), (0, .ref (G.1 64)), (1, .int v), (2, .int n), (3, .int 3), (5, .int mr)] dX11_near_107 (by decide) rfl ?_
          refine m_aload_n C 2 dX11_near_109 rfl ?_
          refine m_iload_n C 5 dX11_near_110 rfl ?_
          refine m_callVv C 64 (by decide) rfl rfl (c_X11_keeps l G m nu 3 (by omega)) wkX11_185 (by decide) rfl rfl (Nat.le_of_ble_eq_true rfl) dX11_near_111 (fun m16 n16 hp16 => ?_)
          obtain ⟨hnk, hk75, -⟩ := id hp16
          rw [hnk]
          have hgk := gs_keep hgs (hk75 73 (by decide)) (hk75 74 (by decide))
          refine m_aload_n C 2 dX11_near_114 rfl ?_
          refine m_iload_n C 5 dX11_near_115 rfl ?_
          refine m_iload_n C 4 dX11_near_116 rfl ?_
          refine m_topi (nI (ix n)) en ?_
          refine m_iconst C 0 dX11_near_117 (by decide +kernel) ?_
          refine m_callVi C 64 (by decide) rfl rfl (c_X11_goesNext_0 l G m16 nu (z_V z) (zm_65 hv ((hk75 65 (by decide)).trans (hef.1 65 (by decide) (by decide) (by decide) (by decide)))) (ix n) (by omega) (by omega) 3 (by show _ ≤ z_N z; omega) (by omega) T hgk) wkX11_181 (by decide) rfl rfl (Nat.le_of_ble_eq_true rfl) dX11_near_118 (fun r17 m17 n17 hp17 => ?_)
          obtain ⟨hn17, hgf17, hgr17⟩ := hp17
          rw [hn17]
          refine m_istore C [(5, .int r17), (4, .int (nI (s_ds (ix v) (s_vl (fun i => v_sh (z_V z) i (ix n)) T)))), (6, .int (nI (s_ds (ix v) (s_vl (fun i => v_sh (z_V z) i (ix n)) T)))), (0, .ref (G.1 64)), (1, .int v), (2, .int n), (3, .int 3)] dX11_near_121 (by decide) rfl ?_
          rw [show nI (s_ds (ix v) (s_vl (fun i => v_sh (z_V z) i (ix n)) T)) = nI (e_st (s_fd (ix v) (fun i => v_sh (z_V z) i (ix n))) a T).1 from by rw [hea]]
          refine m_goto C 62 dX11_near_123 (by decide) ?_
          exact m_sub [3, 4, 5, 6, 1, 0] rfl (ih62 r17 (e_st (s_fd (ix v) (fun i => v_sh (z_V z) i (ix n))) a T) (e_upd (z_N z) 3 T 3) m17 hgr17 (by rw [hfin, hRT]; rfl) (by rw [hea]; show s_ds (ix v) (s_vl (fun i => v_sh (z_V z) i (ix n)) T) ≤ _; omega) (by rw [hea]; exact bs_keep (bs_new hgs hp16) (hgf17.1 75 (by decide) (by decide) (by decide))) (ef_gf (ef_75 hef hk75) hgf17) (by omega))
      exact m_sub [3, 4, 5, 2, 1, 0] rfl (L62 (_ + 1) r5 ((1000000000, [])) (e_all (z_N z) 3 []) m5 hgr5 hfin0 (Nat.le_refl _) (fun h => absurd h (by decide)) (ef_gf ef_rfl hgf5) (Nat.lt_succ_self _))
    replace hh3 := (ii_eq (nn_i (a := z_N z) rfl (by omega)) (nn_i (a := 0) rfl (by omega))).mp hh3
    refine m_bipush C (-4) dX11_near_30 (by decide +kernel) ?_
    refine m_ireti C hQ dX11_near_32 ?_
    exact PM_of (by unfold s_near; rw [if_neg (by omega), if_pos (by omega)]) hz zcm_rfl
  replace hh2 := bI_eq0.mp hh2
  refine m_iconst C (-1) dX11_near_19 (by decide +kernel) ?_
  refine m_ireti C hQ dX11_near_20 ?_
  exact PM_of (by unfold s_near; rw [if_pos (by omega)]) hz zcm_rfl

theorem c_X11_near (l : Launch) (G : Gl) (mu : Mu) (nu : Nu) (z : Zt) (hz : ZM mu nu z) (v n : Int32) : Ci l G mX11_near 8 [.ref (G.1 64), .int v, .int n] mu nu (PM mu nu (s_near z v n)) := by
  have h := hz.2.2.2.2.2.2.2
  by_cases e : z_N z = 2
  · exact c_X11_near_2 l G mu nu z hz v n (fun _ => by omega)
  · exact c_X11_near_3 l G mu nu z hz v n (fun _ => by omega)

set_option maxHeartbeats 4000000 in
set_option maxRecDepth 100000 in
theorem c_X11_makes (l : Launch) (G : Gl) (mu : Mu) (nu : Nu) (z : Zt) (hz : ZM mu nu z) (v n r : Int32) : Ci l G mX11_makes 8 [.ref (G.1 64), .int v, .int n, .int r] mu nu (PM mu nu (s_makes z v n r)) := by
  have hv : zm mu (z_V z) := zm_v hz
  have hw := hv.1
  have hN7 := hw.1
  have hm7 := hw.2.2.1
  have ho8 := hw.2.2.2.2
  have hcz : ((v_N (z_V z) : Nat) : Int) = ((z_N z : Nat) : Int) := rfl
  have hzN : z_N z ≤ 7 := hN7
  refine Ct.of (lv := [(0, .ref (G.1 64)), (1, .int v), (2, .int n), (3, .int r)]) rfl rfl (Nat.le_of_ble_eq_true rfl) rfl (fun X C => ?_)
  generalize hQ : g_E G X _ = Q
  replace C : Cx G 6 X cX11_makes RX11 (some .int) 8 := C
  show Mq l G 6 X Q 0 [(0, .ref (G.1 64)), (1, .int v), (2, .int n), (3, .int r)] [] mu nu
  refine m_iload_n C 1 dX11_makes_0 rfl ?_
  refine m_i2l C dX11_makes_1 ?_
  refine m_lconst C 0 dX11_makes_2 rfl ?_
  refine m_ldc2 C 99999999 wcX11_179 dX11_makes_3 ?_
  refine m_callSf C (c_in (a := v.toInt) (b := ((0 : Nat) : Int)) (c := ((99999999 : Nat) : Int)) ((tl_i _).trans (rfl : (v).toInt = _)) (ln_i (a := 0) rfl (by omega)) (ln_i (a := 99999999) rfl (by omega))) wkX11_68 (by decide) rfl rfl (Nat.le_of_ble_eq_true rfl) dX11_makes_6 ?_
  refine m_if_eq C 26 dX11_makes_9 (by decide) (fun hh1 => ?_) (fun hh1 => ?_)
  · replace hh1 := bI_eq0.mp hh1
    refine m_iconst C (-1) dX11_makes_26 (by decide +kernel) ?_
    refine m_ireti C hQ dX11_makes_27 ?_
    exact PM_of (by unfold s_makes; rw [if_pos (by omega)]) hz zcm_rfl
  replace hh1 := bI_ne0.mp hh1
  refine m_iload_n C 2 dX11_makes_12 rfl ?_
  refine m_callSf C (c_X11_isLine l G mu nu n) wkX11_151 (by decide) rfl rfl (Nat.le_of_ble_eq_true rfl) dX11_makes_13 ?_
  refine m_if_eq C 26 dX11_makes_16 (by decide) (fun hh2 => ?_) (fun hh2 => ?_)
  · replace hh2 := bI_eq0.mp hh2
    refine m_iconst C (-1) dX11_makes_26 (by decide +kernel) ?_
    refine m_ireti C hQ dX11_makes_27 ?_
    exact PM_of (by unfold s_makes; rw [if_pos (by omega)]) hz zcm_rfl
  replace hh2 := bI_ne0.mp hh2
  refine m_iload_n C 3 dX11_makes_19 rfl ?_
  refine m_callSf C (c_X11_isRow l G mu nu r) wkX11_76 (by decide) rfl rfl (Nat.le_of_ble_eq_true rfl) dX11_makes_20 ?_
  refine m_if_ne C 28 dX11_makes_23 (by decide) (fun hh3 => ?_) (fun hh3 => ?_)
  · replace hh3 := bI_ne0.mp hh3
    obtain ⟨ev, kv⟩ := ix_eq (x := v) (by omega)
    obtain ⟨en, kn⟩ := ix_eq (x := n) (by omega)
    obtain ⟨er, kr⟩ := ix_eq (x := r) (by omega)
    refine m_aload_n C 0 dX11_makes_28 rfl ?_
    refine gfX11_7 C dX11_makes_29 ?_
    refine m_iconst C 0 dX11_makes_32 (by decide +kernel) ?_
    refine m_iald C 65 (by decide) sa_65 0 rfl (by omega) (by decide) dX11_makes_33 ?_
    refine m_topi (nI (z_N z)) hv.2.1 ?_
    refine m_if_ne C 40 dX11_makes_34 (by decide) (fun hh4 => ?_) (fun hh4 => ?_)
    · replace hh4 := mt (ii_eq (nn_i (a := z_N z) rfl (by omega)) (nn_i (a := 0) rfl (by omega))).mpr hh4
      refine m_iconst C 0 dX11_makes_40 (by decide +kernel) ?_
      refine m_istore C [(4, .int 0), (0, .ref (G.1 64)), (1, .int v), (2, .int n), (3, .int r)] dX11_makes_41 (by decide) rfl ?_
      have L43 : ∀ (fu : Nat) (k : Nat) (m : Mu) (hk : k ≤ z_N z + 1) (hef : EF mu m) (hno : ∀ j, j < k → ¬ (s_nr (z_V z) (ix n) (ix v) j 1).1 = 0), z_N z + 1 - k < fu → Mq l G 6 X Q 43 [(0, .ref (G.1 64)), (1, .int v), (2, .int n), (3, .int r), (4, .int (nI k))] [] m nu := by
        intro fu
        induction fu with
        | zero => intro k m hk hef hno hm; exact absurd hm (Nat.not_lt_zero _)
        | succ fu ih43 =>
          intro k m hk hef hno hm
          have hm650 : m 65 0 = nI (z_N z) := by rw [hef.1 65 (by decide) (by decide) (by decide) (by decide)]; exact hv.2.1
          refine m_iload C 4 dX11_makes_43 rfl ?_
          refine m_aload_n C 0 dX11_makes_45 rfl ?_
          refine gfX11_7 C dX11_makes_46 ?_
          refine m_iconst C 0 dX11_makes_49 (by decide +kernel) ?_
          refine m_iald C 65 (by decide) sa_65 0 rfl (by omega) (by decide) dX11_makes_50 ?_
          refine m_topi (nI (z_N z)) hm650 ?_
          refine m_icmp_gt C 128 dX11_makes_51 (by decide) (fun hh5 => ?_) (fun hh5 => ?_)
          · replace hh5 := (ii_lt (nn_i (a := z_N z) rfl (by omega)) (nn_i (a := k) rfl (by omega))).mp hh5
            refine m_bipush C (-9) dX11_makes_128 (by decide +kernel) ?_
            refine m_ireti C hQ dX11_makes_130 ?_
            obtain ⟨hz2, hc2⟩ := zm_ef hz hef
            have hmf : s_mf (z_V z) (ix n) (ix v) = none := by
              unfold s_mf
              rw [List.find?_eq_none]
              intro x hx
              have hx := List.mem_range.mp hx
              have hx : x < z_N z + 1 := hx
              simpa using hno x (by omega)
            exact PM_of (by unfold s_makes; rw [if_neg (by omega), if_neg (by omega)]; simp only [hmf]) hz2 hc2
          replace hh5 := mt (ii_lt (nn_i (a := z_N z) rfl (by omega)) (nn_i (a := k) rfl (by omega))).mpr hh5
          refine m_aload_n C 0 dX11_makes_54 rfl ?_
          refine m_iload C 4 dX11_makes_55 rfl ?_
          refine m_iload_n C 2 dX11_makes_57 rfl ?_
          refine m_topi (nI (ix n)) en ?_
          refine m_iconst C 1 dX11_makes_58 (by decide +kernel) ?_
          refine m_callVi C 64 (by decide) rfl rfl (c_X11_goesNext_1 l G m nu (z_V z) (zm_65 hv (hef.1 65 (by decide) (by decide) (by decide) (by decide))) (ix n) (by omega) (by omega) k (by show _ ≤ z_N z; omega)) wkX11_181 (by decide) rfl rfl (Nat.le_of_ble_eq_true rfl) dX11_makes_59 (fun r6 m6 n6 hp6 => ?_)
          obtain ⟨hn6, hgf6, hgr6⟩ := hp6
          rw [hn6]
          refine m_istore C [(5, .int r6), (0, .ref (G.1 64)), (1, .int v), (2, .int n), (3, .int r), (4, .int (nI k))] dX11_makes_62 (by decide) rfl ?_
          have L64 : ∀ (fu : Nat) (mr : Int32) (R : List (List Nat)) (m2 : Mu) (hst : (mr = 1 ∧ ∃ T, R = T :: e_upd (z_N z) k T k ∧ GS m2 (z_N z) k (fun i => v_sh (z_V z) i (ix n)) T) ∨ (mr = 0 ∧ R = [])) (hfin : s_nr (z_V z) (ix n) (ix v) k 1 = R.foldl (e_st (s_fd (ix v) (fun i => v_sh (z_V z) i (ix n)))) (1, [])) (he2 : EF mu m2), R.length < fu → Mq l G 6 X Q 64 [(0, .ref (G.1 64)), (1, .int v), (2, .int n), (3, .int r), (4, .int (nI k)), (5, .int mr)] [] m2 nu := by
            intro fu
            induction fu with
            | zero => intro mr R m2 hst hfin he2 hm; exact absurd hm (Nat.not_lt_zero _)
            | succ fu ih64 =>
              intro mr R m2 hst hfin he2 hm
              refine m_iload C 5 dX11_makes_64 rfl ?_
              refine m_if_eq C 122 dX11_makes_66 (by decide) (fun hh7 => ?_) (fun hh7 => ?_)
              · replace hh7 := (ii_eq (rfl : (mr).toInt = _) (nn_i (a := 0) rfl (by omega))).mp hh7
                have hRn : R = [] := by
                  rcases hst with ⟨h, -⟩ | ⟨-, h⟩
                  · rw [h] at hh7; exact absurd hh7 (by decide)
                  · exact h
                rw [hRn] at hfin
                have hfa : s_nr (z_V z) (ix n) (ix v) k 1 = (1, []) := hfin
                refine m_iinc C 4 (nI (k + 1)) [(4, .int (nI (k + 1))), (0, .ref (G.1 64)), (1, .int v), (2, .int n), (3, .int r), (5, .int mr)] dX11_makes_122 rfl (nn_add rfl (show Int32.ofInt 1 = nI 1 from rfl)) (by decide) rfl ?_
                refine m_goto C 43 dX11_makes_125 (by decide) ?_
                exact m_sub [1, 2, 3, 4, 0] rfl (ih43 (k + 1) m2 (by omega) he2 (fun j hj => by
                          by_cases e : j = k
                          · rw [e, hfa]; decide
                          · exact hno j (by omega)) (by omega))
              replace hh7 := mt (ii_eq (rfl : (mr).toInt = _) (nn_i (a := 0) rfl (by omega))).mpr hh7
              obtain ⟨T, hRT, hgs⟩ : ∃ T, R = T :: e_upd (z_N z) k T k ∧ GS m2 (z_N z) k (fun i => v_sh (z_V z) i (ix n)) T := by
                rcases hst with ⟨-, h⟩ | ⟨h, -⟩
                · exact h
                · rw [h] at hh7; exact absurd rfl hh7
              have hvlT := s_vl_le (N := (z_N z)) (sh := (fun i => v_sh (z_V z) i (ix n))) (fun i hi => v_sh_le hw hi (by omega)) T hgs.2.1
              have hlT := hgs.1
              have hp10 := p10_7 (p := T.length) (by omega)
              have h74 := gs_vl hgs
              have hRl : R.length = (e_upd (z_N z) k T k).length + 1 := by rw [hRT]; rfl
              refine m_aload_n C 0 dX11_makes_69 rfl ?_
              refine gfX11_41 C dX11_makes_70 ?_
              refine m_iload C 4 dX11_makes_73 rfl ?_
              refine m_iald C 74 (by decide) sa_74 k rfl (by omega) (by decide) dX11_makes_75 ?_
              refine m_topi (nI (s_vl (fun i => v_sh (z_V z) i (ix n)) T)) h74 ?_
              refine m_iload_n C 1 dX11_makes_76 rfl ?_
              refine m_topi (nI (ix v)) ev ?_
              refine m_icmp_ne C 96 dX11_makes_77 (by decide) (fun hh8 => ?_) (fun hh8 => ?_)
              · replace hh8 := mt (ii_eq (nn_i (a := s_vl (fun i => v_sh (z_V z) i (ix n)) T) rfl (by omega)) (nn_i (a := ix v) rfl (by omega))).mpr hh8
                have hea : e_st (s_fd (ix v) (fun i => v_sh (z_V z) i (ix n))) (1, []) T = (1, []) := if_neg (by show ¬ s_ds (ix v) (s_vl (fun i => v_sh (z_V z) i (ix n)) T) < 1; unfold s_ds; omega)
                refine m_iload C 4 dX11_makes_96 rfl ?_
                refine m_if_le C 116 dX11_makes_98 (by decide) (fun hh9 => ?_) (fun hh9 => ?_)
                · replace hh9 := (ii_le (nn_i (a := k) rfl (by omega)) (nn_i (a := 0) rfl (by omega))).mp hh9
                  have hk0 : k = 0 := by omega
                  refine m_iconst C 0 dX11_makes_116 (by decide +kernel) ?_
                  refine m_istore C [(5, .int 0), (0, .ref (G.1 64)), (1, .int v), (2, .int n), (3, .int r), (4, .int (nI k))] dX11_makes_117 (by decide) rfl ?_
                  refine m_goto C 64 dX11_makes_119 (by decide) ?_
                  exact m_sub [1, 2, 3, 4, 5, 0] rfl (ih64 0 (e_upd (z_N z) k T k) m2 (by rw [hk0]; exact Or.inr ⟨rfl, rfl⟩) (by rw [hfin, hRT, List.foldl_cons, hea]) he2 (by omega))
                replace hh9 := mt (ii_le (nn_i (a := k) rfl (by omega)) (nn_i (a := 0) rfl (by omega))).mpr hh9
                refine m_aload_n C 0 dX11_makes_101 rfl ?_
                refine m_iload C 4 dX11_makes_102 rfl ?_
                refine m_iload_n C 2 dX11_makes_104 rfl ?_
                refine m_topi (nI (ix n)) en ?_
                refine m_iconst C 0 dX11_makes_105 (by decide +kernel) ?_
                refine m_callVi C 64 (by decide) rfl rfl (c_X11_goesNext_0 l G m2 nu (z_V z) (zm_65 hv (he2.1 65 (by decide) (by decide) (by decide) (by decide))) (ix n) (by omega) (by omega) k (by show _ ≤ z_N z; omega) (by omega) T hgs) wkX11_181 (by decide) rfl rfl (Nat.le_of_ble_eq_true rfl) dX11_makes_106 (fun r10 m10 n10 hp10 => ?_)
                obtain ⟨hn10, hgf10, hgr10⟩ := hp10
                rw [hn10]
                refine m_if_eq C 116 dX11_makes_109 (by decide) (fun hh11 => ?_) (fun hh11 => ?_)
                · replace hh11 := (ii_eq (rfl : (r10).toInt = _) (nn_i (a := 0) rfl (by omega))).mp hh11
                  refine m_iconst C 0 dX11_makes_116 (by decide +kernel) ?_
                  refine m_istore C [(5, .int 0), (0, .ref (G.1 64)), (1, .int v), (2, .int n), (3, .int r), (4, .int (nI k))] dX11_makes_117 (by decide) rfl ?_
                  refine m_goto C 64 dX11_makes_119 (by decide) ?_
                  exact m_sub [1, 2, 3, 4, 5, 0] rfl (ih64 0 (e_upd (z_N z) k T k) m10 (mr_no hgr10 hh11) (by rw [hfin, hRT, List.foldl_cons, hea]) (ef_gf he2 hgf10) (by omega))
                replace hh11 := mt (ii_eq (rfl : (r10).toInt = _) (nn_i (a := 0) rfl (by omega))).mpr hh11
                refine m_iconst C 1 dX11_makes_112 (by decide +kernel) ?_
                refine m_goto C 117 dX11_makes_113 (by decide) ?_
                refine m_istore C [(5, .int 1), (0, .ref (G.1 64)), (1, .int v), (2, .int n), (3, .int r), (4, .int (nI k))] dX11_makes_117 (by decide) rfl ?_
                refine m_goto C 64 dX11_makes_119 (by decide) ?_
                exact m_sub [1, 2, 3, 4, 5, 0] rfl (ih64 1 (e_upd (z_N z) k T k) m10 (mr_keep hgr10 hh11) (by rw [hfin, hRT, List.foldl_cons, hea]) (ef_gf he2 hgf10) (by omega))
              replace hh8 := (ii_eq (nn_i (a := s_vl (fun i => v_sh (z_V z) i (ix n)) T) rfl (by omega)) (nn_i (a := ix v) rfl (by omega))).mp hh8
              refine m_aload_n C 0 dX11_makes_80 rfl ?_
              refine m_iload C 4 dX11_makes_81 rfl ?_
              refine m_callVv C 64 (by decide) rfl rfl (c_X11_keeps l G m2 nu k (by omega)) wkX11_185 (by decide) rfl rfl (Nat.le_of_ble_eq_true rfl) dX11_makes_83 (fun m12 n12 hp12 => ?_)
              obtain ⟨hnk, hk75, -⟩ := id hp12
              rw [hnk]
              have hgk := gs_keep hgs (hk75 73 (by decide)) (hk75 74 (by decide))
              refine m_aload_n C 0 dX11_makes_86 rfl ?_
              refine m_iload C 4 dX11_makes_87 rfl ?_
              refine m_iload_n C 3 dX11_makes_89 rfl ?_
              refine m_topi (nI (ix r)) er ?_
              refine m_callVv C 64 (by decide) rfl rfl (c_X11_laysBest l G m12 nu k (ix r) (by omega) (by omega)) wkX11_188 (by decide) rfl rfl (Nat.le_of_ble_eq_true rfl) dX11_makes_90 (fun m13 n13 hp13 => ?_)
              refine m_iload C 4 dX11_makes_93 rfl ?_
              refine m_ireti C hQ dX11_makes_95 ?_
              obtain ⟨hz2, hc2⟩ := zm_ef hz (ef_75 he2 hk75)
              obtain ⟨hz3, hc3⟩ := zm_lb (a := (0, T)) hz2 (by omega) (by omega) (bs_new hgs hp12) hlT hp13
              have hres : s_nr (z_V z) (ix n) (ix v) k 1 = (0, T) := by
                rw [hfin, hRT, List.foldl_cons, show e_st (s_fd (ix v) (fun i => v_sh (z_V z) i (ix n))) (1, []) T = (0, T) from by
                  have h0 : (s_fd (ix v) (fun i => v_sh (z_V z) i (ix n))) T = 0 := by show s_ds (ix v) (s_vl (fun i => v_sh (z_V z) i (ix n)) T) = 0; unfold s_ds; omega
                  unfold e_st; rw [if_pos (by rw [h0]; decide), h0]]
                exact es_0 _
              have hmf : s_mf (z_V z) (ix n) (ix v) = some k := mf_at (by show k ≤ z_N z; omega) (by rw [hres]) hno
              have e2 : s_nr (z_V z) (ix n) (ix v) k 1 = (0, T) := hres
              exact PM_of (by unfold s_makes; rw [if_neg (by omega), if_neg (by omega)]; simp only [hmf]; rw [e2]) hz3 (hc2.trans hc3)
          exact m_sub [1, 2, 3, 4, 5, 0] rfl (L64 (_ + 1) r6 (e_all (z_N z) k []) m6 hgr6 (ext_all _ _ _) (ef_gf hef hgf6) (Nat.lt_succ_self _))
      exact m_sub [1, 2, 3, 4, 0] rfl (L43 (_ + 1) 0 mu (Nat.zero_le _) ef_rfl (fun j hj => absurd hj (Nat.not_lt_zero _)) (Nat.lt_succ_self _))
    replace hh4 := (ii_eq (nn_i (a := z_N z) rfl (by omega)) (nn_i (a := 0) rfl (by omega))).mp hh4
    refine m_bipush C (-4) dX11_makes_37 (by decide +kernel) ?_
    refine m_ireti C hQ dX11_makes_39 ?_
    exact PM_of (by unfold s_makes; rw [if_neg (by omega), if_pos (by omega)]) hz zcm_rfl
  replace hh3 := bI_eq0.mp hh3
  refine m_iconst C (-1) dX11_makes_26 (by decide +kernel) ?_
  refine m_ireti C hQ dX11_makes_27 ?_
  exact PM_of (by unfold s_makes; rw [if_pos (by omega)]) hz zcm_rfl
