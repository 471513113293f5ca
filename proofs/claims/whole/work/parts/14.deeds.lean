abbrev Zb : Type := List Nat × Nat × List (List Nat × Nat)
def s_bk (dc : Nat) : Nat := if dc = 1 then 2 else if dc = 2 then 1 else dc
/-- the state before deed d; the present one behind all -/
def s_at (B : Zb) (d : Nat) : List Nat × Nat := (B.2.2 ++ [(B.1, B.2.1)]).getD d ([], 0)
def z_wf (N : Nat) (S : List Nat × Nat) : Prop := (∀ x ∈ S.1, x < N) ∧ S.1.Nodup ∧ S.2 < 128
def z_dd (mu : Mu) (b d : Nat) (S T : List Nat × Nat) : Prop := ∃ dc x y, mu (b + 2) d = nI dc ∧ mu (b + 3) d = nI x ∧ mu (b + 4) d = nI y ∧ dc ≤ 4 ∧ s_ok (s_bk dc) x y T ∧ s_fw (s_bk dc) x y T = S
def z_b (mu : Mu) (b N : Nat) (B : Zb) : Prop := z_bs mu b B.1 B.2.1 ∧ mu b 6 = nI B.2.2.length ∧ B.2.2.length ≤ 40 ∧ (∀ d, d < B.2.2.length → z_dd mu b d (s_at B d) (s_at B (d + 1))) ∧ ∀ d, d ≤ B.2.2.length → z_wf N (s_at B d)
/-- nothing but the bench at b has changed, nor whether it is there -/
def z_fr (mu m : Mu) (b : Nat) : Prop := (∀ c, c < b ∨ b + 4 < c → m c = mu c) ∧ m b 7 = mu b 7
theorem s_at_last (B : Zb) : s_at B B.2.2.length = (B.1, B.2.1) := by simp [s_at, List.getD]
theorem s_at_lt {F : List Nat} {ov : Nat} {h : List (List Nat × Nat)} {d : Nat} (hd : d < h.length) : s_at (F, ov, h) d = h.getD d ([], 0) := by
  simp [s_at, List.getD, List.getElem?_append_left hd]
theorem s_at_app {F F2 : List Nat} {ov ov2 : Nat} {h : List (List Nat × Nat)} {d : Nat} (hd : d ≤ h.length) : s_at (F2, ov2, h ++ [(F, ov)]) d = s_at (F, ov, h) d := by
  unfold s_at
  have : d < (h ++ [(F, ov)]).length := by simp; omega
  simp only [List.getD]
  rw [List.getElem?_append_left this]
theorem z_dd_keep {mu m : Mu} {b d : Nat} {S T : List Nat × Nat} (h : z_dd mu b d S T) (h2 : m (b + 2) d = mu (b + 2) d) (h3 : m (b + 3) d = mu (b + 3) d) (h4 : m (b + 4) d = mu (b + 4) d) : z_dd m b d S T := by
  obtain ⟨dc, x, y, a1, a2, a3, a4⟩ := h
  exact ⟨dc, x, y, by rw [h2, a1], by rw [h3, a2], by rw [h4, a3], a4⟩
theorem act_log {mu m0 m : Mu} {b N dc x y : Nat} {F : List Nat} {ov : Nat} {h : List (List Nat × Nat)} (hz : z_b mu b N (F, ov, h)) (hlt : h.length < 40) (hdc : dc ≤ 4) (hrv : s_ok (s_bk dc) x y (s_fw dc x y (F, ov)) ∧ s_fw (s_bk dc) x y (s_fw dc x y (F, ov)) = (F, ov)) (hwf : z_wf N (s_fw dc x y (F, ov)))
    (e0 : m0 = mu_up (mu_up (mu_up (mu_up mu (b + 2) h.length (nI dc)) (b + 3) h.length (nI x)) (b + 4) h.length (nI y)) b 6 (nI (h.length + 1))) (hp : z_pf m0 m b (s_fw dc x y (F, ov))) : z_b m b N ((s_fw dc x y (F, ov)).1, (s_fw dc x y (F, ov)).2, h ++ [(F, ov)]) ∧ z_fr mu m b := by
  obtain ⟨p1, p2, p3⟩ := hp
  obtain ⟨z1, z2, z3, z4, z5⟩ := hz
  have c2 : m (b + 2) = mu_up mu (b + 2) h.length (nI dc) (b + 2) := by rw [p2 _ (by omega) (by omega), e0, mu_up_ne (by omega), mu_up_ne (by omega), mu_up_ne (by omega)]
  have c3 : m (b + 3) = mu_up mu (b + 3) h.length (nI x) (b + 3) := by rw [p2 _ (by omega) (by omega), e0, mu_up_ne (by omega), mu_up_ne (by omega), mu_up_eq, mu_up_eq, mu_up_ne (by omega)]
  have c4 : m (b + 4) = mu_up mu (b + 4) h.length (nI y) (b + 4) := by rw [p2 _ (by omega) (by omega), e0, mu_up_ne (by omega), mu_up_eq, mu_up_eq, mu_up_ne (by omega), mu_up_ne (by omega)]
  refine ⟨⟨p1, ?_, by simp; omega, fun d hd => ?_, fun d hd => ?_⟩, fun c hc => ?_, ?_⟩
  · rw [p3 6 (by omega) (by omega), e0, mu_up_at]; simp
  · simp only [List.length_append, List.length_cons, List.length_nil] at hd
    by_cases e : d = h.length
    · subst e
      refine ⟨dc, x, y, by rw [c2, mu_up_at], by rw [c3, mu_up_at], by rw [c4, mu_up_at], hdc, ?_, ?_⟩
      · have := s_at_last ((s_fw dc x y (F, ov)).1, (s_fw dc x y (F, ov)).2, h ++ [(F, ov)])
        simp only [List.length_append, List.length_cons, List.length_nil] at this
        rw [this]; exact hrv.1
      · have := s_at_last ((s_fw dc x y (F, ov)).1, (s_fw dc x y (F, ov)).2, h ++ [(F, ov)])
        simp only [List.length_append, List.length_cons, List.length_nil] at this
        rw [this, s_at_app (Nat.le_refl _)]
        exact hrv.2.trans (s_at_last (F, ov, h)).symm
    · rw [s_at_app (by omega), s_at_app (by omega)]
      refine z_dd_keep (z4 d (by show d < h.length; omega)) ?_ ?_ ?_
      · rw [c2, mu_up_an e]
      · rw [c3, mu_up_an e]
      · rw [c4, mu_up_an e]
  · simp only [List.length_append, List.length_cons, List.length_nil] at hd
    by_cases e : d = h.length + 1
    · subst e
      have := s_at_last ((s_fw dc x y (F, ov)).1, (s_fw dc x y (F, ov)).2, h ++ [(F, ov)])
      simp only [List.length_append, List.length_cons, List.length_nil] at this
      rw [this]; exact hwf
    · rw [s_at_app (by omega)]
      exact z5 d (by show d ≤ h.length; omega)
  · rw [p2 c (by omega) (by omega), e0, mu_up_ne (by omega), mu_up_ne (by omega), mu_up_ne (by omega), mu_up_ne (by omega)]
  · rw [p3 7 (by omega) (by omega), e0, mu_up_an (by omega), mu_up_ne (by omega), mu_up_ne (by omega), mu_up_ne (by omega)]
theorem back_log {mu m0 m : Mu} {b N dc x y : Nat} {F : List Nat} {ov : Nat} {h : List (List Nat × Nat)} {S : List Nat × Nat} (hz : z_b mu b N (F, ov, h ++ [S])) (e0 : m0 = mu_up mu b 6 (nI h.length)) (hS : s_fw (s_bk dc) x y (F, ov) = S) (hp : z_pf m0 m b (s_fw (s_bk dc) x y (F, ov))) : z_b m b N (S.1, S.2, h) ∧ z_fr mu m b := by
  rw [hS] at hp
  obtain ⟨p1, p2, p3⟩ := hp
  obtain ⟨z1, z2, z3, z4, z5⟩ := hz
  simp only [List.length_append, List.length_cons, List.length_nil] at z3 z4 z5
  have key : ∀ d, d ≤ h.length → s_at (F, ov, h ++ [S]) d = s_at (S.1, S.2, h) d := fun d hd => s_at_app hd
  have cc : ∀ c, c ≠ b → c ≠ b + 1 → m c = mu c := fun c h1 h2 => by rw [p2 c h1 h2, e0, mu_up_ne h1]
  refine ⟨⟨p1, ?_, by show h.length ≤ 40; omega, fun d hd => ?_, fun d hd => ?_⟩, fun c hc => cc c (by omega) (by omega), ?_⟩
  · rw [p3 6 (by omega) (by omega), e0, mu_up_at]
  · have hd : d < h.length := hd
    rw [← key d (by omega), ← key (d + 1) (by omega)]
    exact z_dd_keep (z4 d (by omega)) (by rw [cc _ (by omega) (by omega)]) (by rw [cc _ (by omega) (by omega)]) (by rw [cc _ (by omega) (by omega)])
  · have hd : d ≤ h.length := hd
    rw [← key d hd]
    exact z5 d (by omega)
  · rw [p3 7 (by omega) (by omega), e0, mu_up_an (by omega)]
theorem zb_last {mu : Mu} {b N : Nat} {F : List Nat} {ov : Nat} {h : List (List Nat × Nat)} {S : List Nat × Nat} (hz : z_b mu b N (F, ov, h ++ [S])) : ∃ dc x y, mu (b + 2) h.length = nI dc ∧ mu (b + 3) h.length = nI x ∧ mu (b + 4) h.length = nI y ∧ dc ≤ 4 ∧ s_ok (s_bk dc) x y (F, ov) ∧ s_fw (s_bk dc) x y (F, ov) = S := by
  obtain ⟨z1, z2, z3, z4, z5⟩ := hz
  have h1 := z4 h.length (by simp)
  have h2 : s_at (F, ov, h ++ [S]) h.length = S := by
    rw [show (F, ov, h ++ [S]) = (F, ov, h ++ [(S.1, S.2)]) from rfl, s_at_app (Nat.le_refl _)]
    exact s_at_last (S.1, S.2, h)
  have h3 : s_at (F, ov, h ++ [S]) (h.length + 1) = (F, ov) := by
    have := s_at_last (F, ov, h ++ [S])
    simpa using this
  rw [h2, h3] at h1
  exact h1
/-- the bench at b is now as the one at b2 was -/
def z_cp (mu m : Mu) (b b2 : Nat) : Prop := m b 1 = mu b2 1 ∧ m b 2 = mu b2 2 ∧ m b 6 = mu b2 6 ∧ (∀ j, j < 7 → m (b + 1) j = mu (b2 + 1) j) ∧ (∀ j, j < 40 → m (b + 2) j = mu (b2 + 2) j) ∧ (∀ j, j < 40 → m (b + 3) j = mu (b2 + 3) j) ∧ (∀ j, j < 40 → m (b + 4) j = mu (b2 + 4) j)
theorem cp_in {f g : Nat → Int32} {n j : Nat} (h : j < n) : va_cpy f g 0 0 n j = f j := by rw [pk_cpy_in (Nat.zero_le _) (by omega)]; simp
theorem zb_cp {mu m : Mu} {b b2 N : Nat} {B : Zb} (hz : z_b mu b2 N B) (hc : z_cp mu m b b2) : z_b m b N B := by
  obtain ⟨⟨y1, y2, y3, y4, y5, y6⟩, z2, z3, z4, z5⟩ := hz
  obtain ⟨c1, c2, c3, c4, c5, c6, c7⟩ := hc
  refine ⟨⟨by rw [c1, y1], y2, fun p hp => by rw [c4 p (by omega), y3 p hp], by rw [c2, y4], y5, y6⟩, by rw [c3, z2], z3, fun d hd => ?_, z5⟩
  obtain ⟨dc, x, y, a1, a2, a3, a4⟩ := z4 d hd
  exact ⟨dc, x, y, by rw [c5 d (by omega), a1], by rw [c6 d (by omega), a2], by rw [c7 d (by omega), a3], a4⟩
theorem cp_all {mu mu1 mu2 mu3 mu4 mu5 mu6 mu7 : Mu} {b b2 : Nat} (hb : bnc b) (hb2 : bnc b2) (hne : b ≠ b2) (e1 : mu1 = mu_row mu (b + 1) (va_cpy (mu (b2 + 1)) (mu (b + 1)) 0 0 7)) (e2 : mu2 = mu_up mu1 b 1 (mu1 b2 1)) (e3 : mu3 = mu_up mu2 b 2 (mu2 b2 2)) (e4 : mu4 = mu_row mu3 (b + 2) (va_cpy (mu3 (b2 + 2)) (mu3 (b + 2)) 0 0 40)) (e5 : mu5 = mu_row mu4 (b + 3) (va_cpy (mu4 (b2 + 3)) (mu4 (b + 3)) 0 0 40)) (e6 : mu6 = mu_row mu5 (b + 4) (va_cpy (mu5 (b2 + 4)) (mu5 (b + 4)) 0 0 40)) (e7 : mu7 = mu_up mu6 b 6 (mu6 b2 6)) : z_cp mu mu7 b b2 ∧ z_fr mu mu7 b := by
  have hs : b2 + 4 < b ∨ b + 4 < b2 := by unfold bnc at hb hb2; omega
  have o1 : ∀ c, c ≠ b + 1 → mu1 c = mu c := fun c h => by rw [e1, mu_row_ne h]
  have o2 : ∀ c, c ≠ b → mu2 c = mu1 c := fun c h => by rw [e2, mu_up_ne h]
  have o3 : ∀ c, c ≠ b → mu3 c = mu2 c := fun c h => by rw [e3, mu_up_ne h]
  have o4 : ∀ c, c ≠ b + 2 → mu4 c = mu3 c := fun c h => by rw [e4, mu_row_ne h]
  have o5 : ∀ c, c ≠ b + 3 → mu5 c = mu4 c := fun c h => by rw [e5, mu_row_ne h]
  have o6 : ∀ c, c ≠ b + 4 → mu6 c = mu5 c := fun c h => by rw [e6, mu_row_ne h]
  have o7 : ∀ c, c ≠ b → mu7 c = mu6 c := fun c h => by rw [e7, mu_up_ne h]
  have q6 : mu6 b = mu3 b := by rw [o6 b (by omega), o5 b (by omega), o4 b (by omega)]
  have s2 : mu6 b2 = mu b2 := by rw [o6 b2 (by omega), o5 b2 (by omega), o4 b2 (by omega), o3 b2 (by omega), o2 b2 (by omega), o1 b2 (by omega)]
  refine ⟨⟨?_, ?_, ?_, fun j hj => ?_, fun j hj => ?_, fun j hj => ?_, fun j hj => ?_⟩, fun c hc => ?_, ?_⟩
  · rw [e7, mu_up_an (by omega), q6, e3, mu_up_an (by omega), e2, mu_up_at, o1 b2 (by omega)]
  · rw [e7, mu_up_an (by omega), q6, e3, mu_up_at, o2 b2 (by omega), o1 b2 (by omega)]
  · rw [e7, mu_up_at, s2]
  · rw [o7 _ (by omega), o6 _ (by omega), o5 _ (by omega), o4 _ (by omega), o3 _ (by omega), o2 _ (by omega), e1, mu_row_eq, cp_in hj]
  · rw [o7 _ (by omega), o6 _ (by omega), o5 _ (by omega), e4, mu_row_eq, cp_in hj, o3 _ (by omega), o2 _ (by omega), o1 _ (by omega)]
  · rw [o7 _ (by omega), o6 _ (by omega), e5, mu_row_eq, cp_in hj, o4 _ (by omega), o3 _ (by omega), o2 _ (by omega), o1 _ (by omega)]
  · rw [o7 _ (by omega), e6, mu_row_eq, cp_in hj, o5 _ (by omega), o4 _ (by omega), o3 _ (by omega), o2 _ (by omega), o1 _ (by omega)]
  · rw [o7 _ (by omega), o6 _ (by omega), o5 _ (by omega), o4 _ (by omega), o3 _ (by omega), o2 _ (by omega), o1 _ (by omega)]
  · rw [e7, mu_up_an (by omega), q6, e3, mu_up_an (by omega), e2, mu_up_an (by omega), o1 _ (by omega)]
set_option maxHeartbeats 4000000 in
set_option maxRecDepth 100000 in
theorem c_X0_act (l : Launch) (G : Gl) (mu : Mu) (nu : Nu) (b : Nat) (hb : bnc b) (dc x y : Nat) (N : Nat) (F : List Nat) (ov : Nat) (h : List (List Nat × Nat)) (hz : z_b mu b N (F, ov, h)) (hlt : h.length < 40) (hok : s_ok dc x y (F, ov)) (hrv : s_ok (s_bk dc) x y (s_fw dc x y (F, ov)) ∧ s_fw (s_bk dc) x y (s_fw dc x y (F, ov)) = (F, ov)) (hwf : z_wf N (s_fw dc x y (F, ov))) : Cv l G mX0_act 3 [.ref (G.1 b), .int (nI dc), .int (nI x), .int (nI y)] mu nu (fun m n2 => (z_b m b N ((s_fw dc x y (F, ov)).1, (s_fw dc x y (F, ov)).2, h ++ [(F, ov)]) ∧ z_fr mu m b) ∧ n2 = nu) := by
  refine Ct.of (lv := [(0, .ref (G.1 b)), (1, .int (nI dc)), (2, .int (nI x)), (3, .int (nI y))]) rfl rfl (Nat.le_of_ble_eq_true rfl) rfl (fun X C => ?_)
  generalize hQ : g_E G X _ = Q
  replace C : Cx G 4 X cX0_act RX0 none 3 := C
  show Mq l G 4 X Q 0 [(0, .ref (G.1 b)), (1, .int (nI dc)), (2, .int (nI x)), (3, .int (nI y))] [] mu nu
  refine m_aload_n C 0 dX0_act_0 rfl ?_
  refine m_callVf C b (bnc_lt hb) (sh_bench hb _ _) rfl (c_X0_isFull l G mu nu b hb h.length hz.2.1 (by omega)) wkX0_40 (by decide) rfl rfl (Nat.le_of_ble_eq_true rfl) dX0_act_1 ?_
  refine m_if_eq C 8 dX0_act_4 (by decide) (fun hh1 => ?_) (fun hh1 => ?_)
  · replace hh1 := bI_eq0.mp hh1
    refine m_aload_n C 0 dX0_act_8 rfl ?_
    refine gfX0_15 C b hb dX0_act_9 ?_
    refine m_aload_n C 0 dX0_act_12 rfl ?_
    refine gfX0_31 C b hb dX0_act_13 ?_
    refine m_topi (nI h.length) hz.2.1 ?_
    refine m_iload_n C 1 dX0_act_16 rfl ?_
    refine m_iast C (b + 2) (bnc_lt2 hb) (sa_deeds hb) h.length rfl (by omega) (by decide) dX0_act_17 ?_
    refine m_nameM (fun mu2 emu2 => ?_)
    refine m_aload_n C 0 dX0_act_18 rfl ?_
    refine gfX0_18 C b hb dX0_act_19 ?_
    refine m_aload_n C 0 dX0_act_22 rfl ?_
    refine gfX0_31 C b hb dX0_act_23 ?_
    refine m_topi (nI h.length) (by rw [emu2, mu_up_ne (by omega)]; exact hz.2.1) ?_
    refine m_iload_n C 2 dX0_act_26 rfl ?_
    refine m_iast C (b + 3) (bnc_lt3 hb) (sa_firsts hb) h.length rfl (by omega) (by decide) dX0_act_27 ?_
    refine m_nameM (fun mu3 emu3 => ?_)
    refine m_aload_n C 0 dX0_act_28 rfl ?_
    refine gfX0_21 C b hb dX0_act_29 ?_
    refine m_aload_n C 0 dX0_act_32 rfl ?_
    refine gfX0_31 C b hb dX0_act_33 ?_
    refine m_topi (nI h.length) (by rw [emu3, mu_up_ne (by omega), emu2, mu_up_ne (by omega)]; exact hz.2.1) ?_
    refine m_iload_n C 3 dX0_act_36 rfl ?_
    refine m_iast C (b + 4) (bnc_lt4 hb) (sa_seconds hb) h.length rfl (by omega) (by decide) dX0_act_37 ?_
    refine m_nameM (fun mu4 emu4 => ?_)
    refine m_aload_n C 0 dX0_act_38 rfl ?_
    refine m_dup C dX0_act_39 rfl ?_
    refine gfX0_31 C b hb dX0_act_40 ?_
    refine m_topi (nI h.length) (by rw [emu4, mu_up_ne (by omega), emu3, mu_up_ne (by omega), emu2, mu_up_ne (by omega)]; exact hz.2.1) ?_
    refine m_iconst C 1 dX0_act_43 (by decide +kernel) ?_
    refine m_iadd C dX0_act_44 ?_
    refine m_topi (nI (h.length + 1)) (nn_add rfl rfl) ?_
    refine pfX0_31 C b hb dX0_act_45 ?_
    refine m_nameM (fun mu5 emu5 => ?_)
    have hzs : z_bs mu5 b F ov := by
      obtain ⟨⟨y1, y2, y3, y4, y5, y6⟩, -⟩ := hz
      refine ⟨?_, y2, fun p hp => ?_, ?_, y5, y6⟩ <;> rw [emu5, emu4, emu3, emu2]
      · rw [mu_up_an (by omega), mu_up_ne (by omega), mu_up_ne (by omega), mu_up_ne (by omega), y1]
      · rw [mu_up_ne (by omega), mu_up_ne (by omega), mu_up_ne (by omega), mu_up_ne (by omega), y3 p hp]
      · rw [mu_up_an (by omega), mu_up_ne (by omega), mu_up_ne (by omega), mu_up_ne (by omega), y4]
    refine m_aload_n C 0 dX0_act_48 rfl ?_
    refine m_iload_n C 1 dX0_act_49 rfl ?_
    refine m_iload_n C 2 dX0_act_50 rfl ?_
    refine m_iload_n C 3 dX0_act_51 rfl ?_
    refine m_callVv C b (bnc_lt hb) (sh_bench hb _ _) rfl (c_X0_perform l G mu5 nu b hb dc x y F ov hzs hok) wkX0_44 (by decide) rfl rfl (Nat.le_of_ble_eq_true rfl) dX0_act_52 (fun m6 n6 hp6 => ?_)
    refine m_vretv C hQ dX0_act_55 ?_
    obtain ⟨hp1, hp2⟩ := hp6
    exact ⟨act_log hz hlt hok.1 hrv hwf (by rw [emu5, emu4, emu3, emu2]) hp1, hp2⟩
  replace hh1 := bI_ne0.mp hh1
  exact absurd hh1 (by omega)

set_option maxHeartbeats 4000000 in
set_option maxRecDepth 100000 in
theorem c_X0_takeBack (l : Launch) (G : Gl) (mu : Mu) (nu : Nu) (b : Nat) (hb : bnc b) (N : Nat) (F : List Nat) (ov : Nat) (h : List (List Nat × Nat)) (S : List Nat × Nat) (hz : z_b mu b N (F, ov, h ++ [S])) : Cv l G mX0_takeBack 3 [.ref (G.1 b)] mu nu (fun m n2 => (z_b m b N (S.1, S.2, h) ∧ z_fr mu m b) ∧ n2 = nu) := by
  have hl1 : mu b 6 = nI (h.length + 1) := by rw [hz.2.1]; simp
  have h40 : h.length + 1 ≤ 40 := by have := hz.2.2.1; simpa using this
  obtain ⟨dc, x, y, a1, a2, a3, a4, a5, a6⟩ := zb_last hz
  refine Ct.of (lv := [(0, .ref (G.1 b))]) rfl rfl (Nat.le_of_ble_eq_true rfl) rfl (fun X C => ?_)
  generalize hQ : g_E G X _ = Q
  replace C : Cx G 1 X cX0_takeBack RX0 none 3 := C
  show Mq l G 1 X Q 0 [(0, .ref (G.1 b))] [] mu nu
  refine m_aload_n C 0 dX0_takeBack_0 rfl ?_
  refine gfX0_31 C b hb dX0_takeBack_1 ?_
  refine m_topi (nI (h.length + 1)) hl1 ?_
  refine m_if_gt C 8 dX0_takeBack_4 (by decide) (fun hh1 => ?_) (fun hh1 => ?_)
  · replace hh1 := (ii_lt (nn_i (a := 0) rfl (by omega)) (nn_i (a := h.length + 1) rfl (by omega))).mp hh1
    refine m_aload_n C 0 dX0_takeBack_8 rfl ?_
    refine m_dup C dX0_takeBack_9 rfl ?_
    refine gfX0_31 C b hb dX0_takeBack_10 ?_
    refine m_topi (nI (h.length + 1)) hl1 ?_
    refine m_iconst C 1 dX0_takeBack_13 (by decide +kernel) ?_
    refine m_isub C dX0_takeBack_14 ?_
    refine m_topi (nI ((h.length + 1) - 1)) (nn_sub rfl rfl (by omega)) ?_
    refine m_topi (nI h.length) (congrArg nI (Nat.add_sub_cancel h.length 1)) ?_
    refine pfX0_31 C b hb dX0_takeBack_15 ?_
    refine m_nameM (fun mu2 emu2 => ?_)
    have hd6 : mu2 b 6 = nI h.length := by rw [emu2, mu_up_at]
    have hzs : z_bs mu2 b F ov := by
      obtain ⟨⟨y1, y2, y3, y4, y5, y6⟩, -⟩ := hz
      refine ⟨?_, y2, fun p hp => ?_, ?_, y5, y6⟩ <;> rw [emu2]
      · rw [mu_up_an (by omega), y1]
      · rw [mu_up_ne (by omega), y3 p hp]
      · rw [mu_up_an (by omega), y4]
    refine m_aload_n C 0 dX0_takeBack_18 rfl ?_
    refine m_aload_n C 0 dX0_takeBack_19 rfl ?_
    refine gfX0_15 C b hb dX0_takeBack_20 ?_
    refine m_aload_n C 0 dX0_takeBack_23 rfl ?_
    refine gfX0_31 C b hb dX0_takeBack_24 ?_
    refine m_topi (nI h.length) hd6 ?_
    refine m_iald C (b + 2) (bnc_lt2 hb) (sa_deeds hb) h.length rfl (by omega) (by decide) dX0_takeBack_27 ?_
    refine m_topi (nI dc) (by rw [emu2, mu_up_ne (by omega), a1]) ?_
    refine m_callSf C (c_X0_backOf l G mu2 nu dc a4) wkX0_48 (by decide) rfl rfl (Nat.le_of_ble_eq_true rfl) dX0_takeBack_28 ?_
    refine m_aload_n C 0 dX0_takeBack_31 rfl ?_
    refine gfX0_18 C b hb dX0_takeBack_32 ?_
    refine m_aload_n C 0 dX0_takeBack_35 rfl ?_
    refine gfX0_31 C b hb dX0_takeBack_36 ?_
    refine m_topi (nI h.length) hd6 ?_
    refine m_iald C (b + 3) (bnc_lt3 hb) (sa_firsts hb) h.length rfl (by omega) (by decide) dX0_takeBack_39 ?_
    refine m_topi (nI x) (by rw [emu2, mu_up_ne (by omega), a2]) ?_
    refine m_aload_n C 0 dX0_takeBack_40 rfl ?_
    refine gfX0_21 C b hb dX0_takeBack_41 ?_
    refine m_aload_n C 0 dX0_takeBack_44 rfl ?_
    refine gfX0_31 C b hb dX0_takeBack_45 ?_
    refine m_topi (nI h.length) hd6 ?_
    refine m_iald C (b + 4) (bnc_lt4 hb) (sa_seconds hb) h.length rfl (by omega) (by decide) dX0_takeBack_48 ?_
    refine m_topi (nI y) (by rw [emu2, mu_up_ne (by omega), a3]) ?_
    refine m_callVv C b (bnc_lt hb) (sh_bench hb _ _) rfl (c_X0_perform l G mu2 nu b hb (s_bk dc) x y F ov hzs a5) wkX0_44 (by decide) rfl rfl (Nat.le_of_ble_eq_true rfl) dX0_takeBack_49 (fun m3 n3 hp3 => ?_)
    refine m_vretv C hQ dX0_takeBack_52 ?_
    obtain ⟨hp1, hp2⟩ := hp3
    exact ⟨back_log hz emu2 a6 hp1, hp2⟩
  replace hh1 := mt (ii_lt (nn_i (a := 0) rfl (by omega)) (nn_i (a := h.length + 1) rfl (by omega))).mpr hh1
  exact absurd hh1 (by omega)

set_option maxHeartbeats 4000000 in
set_option maxRecDepth 100000 in
theorem c_X0_become (l : Launch) (G : Gl) (mu : Mu) (nu : Nu) (b : Nat) (hb : bnc b) (b2 : Nat) (hb2 : bnc b2) (hne : b ≠ b2) : Cv l G mX0_become 2 [.ref (G.1 b), .ref (G.1 b2)] mu nu (fun m n2 => (z_cp mu m b b2 ∧ z_fr mu m b) ∧ n2 = nu) := by
  refine Ct.of (lv := [(0, .ref (G.1 b)), (1, .ref (G.1 b2))]) rfl rfl (Nat.le_of_ble_eq_true rfl) rfl (fun X C => ?_)
  generalize hQ : g_E G X _ = Q
  replace C : Cx G 2 X cX0_become RX0 none 2 := C
  show Mq l G 2 X Q 0 [(0, .ref (G.1 b)), (1, .ref (G.1 b2))] [] mu nu
  refine m_aload_n C 1 dX0_become_0 rfl ?_
  refine gfX0_9 C b2 hb2 dX0_become_1 ?_
  refine m_iconst C 0 dX0_become_4 (by decide +kernel) ?_
  refine m_aload_n C 0 dX0_become_5 rfl ?_
  refine gfX0_9 C b hb dX0_become_6 ?_
  refine m_iconst C 0 dX0_become_9 (by decide +kernel) ?_
  refine m_bipush C 7 dX0_become_10 (by decide +kernel) ?_
  refine m_copy C (b2 + 1) (b + 1) (bnc_lt1 hb2) (bnc_lt1 hb) (sa_frame hb2) (sa_frame hb) 0 0 7 rfl rfl rfl (by omega) (by omega) (by decide) (by decide) wkX0_34 (by decide) (Nat.le_of_ble_eq_true rfl) dX0_become_12 ?_
  refine m_nameM (fun mu1 emu1 => ?_)
  refine m_aload_n C 0 dX0_become_15 rfl ?_
  refine m_aload_n C 1 dX0_become_16 rfl ?_
  refine gfX0_24 C b2 hb2 dX0_become_17 ?_
  refine pfX0_24 C b hb dX0_become_20 ?_
  refine m_nameM (fun mu2 emu2 => ?_)
  refine m_aload_n C 0 dX0_become_23 rfl ?_
  refine m_aload_n C 1 dX0_become_24 rfl ?_
  refine gfX0_28 C b2 hb2 dX0_become_25 ?_
  refine pfX0_28 C b hb dX0_become_28 ?_
  refine m_nameM (fun mu3 emu3 => ?_)
  refine m_aload_n C 1 dX0_become_31 rfl ?_
  refine gfX0_15 C b2 hb2 dX0_become_32 ?_
  refine m_iconst C 0 dX0_become_35 (by decide +kernel) ?_
  refine m_aload_n C 0 dX0_become_36 rfl ?_
  refine gfX0_15 C b hb dX0_become_37 ?_
  refine m_iconst C 0 dX0_become_40 (by decide +kernel) ?_
  refine m_bipush C 40 dX0_become_41 (by decide +kernel) ?_
  refine m_copy C (b2 + 2) (b + 2) (bnc_lt2 hb2) (bnc_lt2 hb) (sa_deeds hb2) (sa_deeds hb) 0 0 40 rfl rfl rfl (by omega) (by omega) (by decide) (by decide) wkX0_34 (by decide) (Nat.le_of_ble_eq_true rfl) dX0_become_43 ?_
  refine m_nameM (fun mu4 emu4 => ?_)
  refine m_aload_n C 1 dX0_become_46 rfl ?_
  refine gfX0_18 C b2 hb2 dX0_become_47 ?_
  refine m_iconst C 0 dX0_become_50 (by decide +kernel) ?_
  refine m_aload_n C 0 dX0_become_51 rfl ?_
  refine gfX0_18 C b hb dX0_become_52 ?_
  refine m_iconst C 0 dX0_become_55 (by decide +kernel) ?_
  refine m_bipush C 40 dX0_become_56 (by decide +kernel) ?_
  refine m_copy C (b2 + 3) (b + 3) (bnc_lt3 hb2) (bnc_lt3 hb) (sa_firsts hb2) (sa_firsts hb) 0 0 40 rfl rfl rfl (by omega) (by omega) (by decide) (by decide) wkX0_34 (by decide) (Nat.le_of_ble_eq_true rfl) dX0_become_58 ?_
  refine m_nameM (fun mu5 emu5 => ?_)
  refine m_aload_n C 1 dX0_become_61 rfl ?_
  refine gfX0_21 C b2 hb2 dX0_become_62 ?_
  refine m_iconst C 0 dX0_become_65 (by decide +kernel) ?_
  refine m_aload_n C 0 dX0_become_66 rfl ?_
  refine gfX0_21 C b hb dX0_become_67 ?_
  refine m_iconst C 0 dX0_become_70 (by decide +kernel) ?_
  refine m_bipush C 40 dX0_become_71 (by decide +kernel) ?_
  refine m_copy C (b2 + 4) (b + 4) (bnc_lt4 hb2) (bnc_lt4 hb) (sa_seconds hb2) (sa_seconds hb) 0 0 40 rfl rfl rfl (by omega) (by omega) (by decide) (by decide) wkX0_34 (by decide) (Nat.le_of_ble_eq_true rfl) dX0_become_73 ?_
  refine m_nameM (fun mu6 emu6 => ?_)
  refine m_aload_n C 0 dX0_become_76 rfl ?_
  refine m_aload_n C 1 dX0_become_77 rfl ?_
  refine gfX0_31 C b2 hb2 dX0_become_78 ?_
  refine pfX0_31 C b hb dX0_become_81 ?_
  refine m_nameM (fun mu7 emu7 => ?_)
  refine m_vretv C hQ dX0_become_84 ?_
  exact ⟨cp_all hb hb2 hne emu1 emu2 emu3 emu4 emu5 emu6 emu7, rfl⟩
