/-! the model's whole state -/
def z_w (f : Nat → Int32) (R : Zr) (B : Zb) : Prop := f 0 = nI R.1 ∧ f 1 = nI B.1.length ∧ f 2 = nI B.2.1 ∧ (∀ p, p < B.1.length → f (3 + p) = nI (B.1.getD p 0)) ∧ (∀ i, i < R.1 → f (10 + i) = nI (R.2.1 i) ∧ f (17 + i) = nI (R.2.2.1 i) ∧ f (24 + i) = nI (R.2.2.2 i)) ∧ f 31 = nI B.2.2.length ∧ ∀ d, d < B.2.2.length → f (32 + 9 * d) = nI (s_at B d).1.length ∧ f (32 + 9 * d + 1) = nI (s_at B d).2 ∧ ∀ p, p < (s_at B d).1.length → f (32 + 9 * d + 2 + p) = nI ((s_at B d).1.getD p 0)
def w_b (N : Nat) (B : Zb) : Prop := B.2.2.length ≤ 40 ∧ ∀ d, d ≤ B.2.2.length → z_wf N (s_at B d)
def z_wk (f : Nat → Int32) (R : Zr) (x : Option Zb) : Prop := match x with
  | none => f 0 = 0
  | some B => z_w f R B ∧ w_b R.1 B ∧ 0 < R.1
def z_ar (mu : Mu) (cs ca cap r : Nat) (x : Option (List Int32)) : Prop := match x with
  | none => mu cs r = -1
  | some xs => mu cs r = nI xs.length ∧ xs.length ≤ cap ∧ ∀ j, j < xs.length → mu ca (cap * r + j) = xs.getD j 0
def ZM (mu : Mu) (nu : Nu) (z : Zt) : Prop := v_wf (z_V z) ∧ z_w (mu 65) z.1 (z_B z) ∧ w_b (z_N z) (z_B z) ∧ (∀ k, k < 3 → z_wk (fun j => mu 65 (392 + 392 * k + j)) z.1 (z_kp z k)) ∧ (∀ r, r < 6 → z_ar mu 66 67 40 r (z_rw z r)) ∧ (∀ t, t < 4 → z_ar mu 68 69 60 t (z_tx z t)) ∧ (mu 64 7 = (z_ms z).1 ∧ nu 64 8 = (z_ms z).2.1 ∧ nu 64 9 = (z_ms z).2.2.1 ∧ mu 64 5 = (z_ms z).2.2.2.1 ∧ ∀ f, f < 6 → mu 70 f = (z_ms z).2.2.2.2 f) ∧ (z_N z = 0 ∨ 2 ≤ z_N z)
def z_cm (mu : Mu) (nu : Nu) (m : Mu) (n2 : Nu) : Prop := (∀ c, c < 64 → m c = mu c) ∧ ∀ c, c < 64 → n2 c = nu c
theorem zcm_rfl {mu : Mu} {nu : Nu} : z_cm mu nu mu nu := ⟨fun _ _ => rfl, fun _ _ => rfl⟩
theorem z_cm.trans {a b c : Mu} {x y w : Nu} (h1 : z_cm a x b y) (h2 : z_cm b y c w) : z_cm a x c w := ⟨fun q h => (h2.1 q h).trans (h1.1 q h), fun q h => (h2.2 q h).trans (h1.2 q h)⟩
def PM (mu : Mu) (nu : Nu) (o : Int32 × Zt) : Int32 → Mu → Nu → Prop := fun r m n2 => r = o.1 ∧ ZM m n2 o.2 ∧ z_cm mu nu m n2
theorem PM_of {mu m : Mu} {nu n2 : Nu} {o : Int32 × Zt} {r : Int32} {z : Zt} (e : o = (r, z)) (h : ZM m n2 z) (hc : z_cm mu nu m n2) : PM mu nu o r m n2 := by
  rw [e]; exact ⟨rfl, h, hc⟩
theorem zm_v {mu : Mu} {nu : Nu} {z : Zt} (h : ZM mu nu z) : zm mu (z_V z) := ⟨h.1, h.2.1.1, h.2.1.2.1, h.2.1.2.2.1, h.2.1.2.2.2.1, h.2.1.2.2.2.2.1⟩
theorem zar_keep {mu m : Mu} {cs ca cap r : Nat} {x : Option (List Int32)} (h : z_ar mu cs ca cap r x) (h1 : m cs r = mu cs r) (h2 : ∀ j, j < cap → m ca (cap * r + j) = mu ca (cap * r + j)) : z_ar m cs ca cap r x := by
  cases x with
  | none => show m cs r = -1; rw [h1]; exact h
  | some xs => exact ⟨by rw [h1]; exact h.1, h.2.1, fun j hj => by rw [h2 j (Nat.lt_of_lt_of_le hj h.2.1)]; exact h.2.2 j hj⟩
theorem za_some {mu : Mu} {cs ca cap r : Nat} {x : Option (List Int32)} (h : z_ar mu cs ca cap r x) (hn : 0 ≤ (mu cs r).toInt) : ∃ xs, x = some xs ∧ mu cs r = nI xs.length ∧ xs.length ≤ cap ∧ ∀ j, j < xs.length → mu ca (cap * r + j) = xs.getD j 0 := by
  cases x with
  | none =>
    have h1 : mu cs r = -1 := h
    rw [h1] at hn; exact absurd hn (by decide)
  | some xs => exact ⟨xs, rfl, h⟩
theorem za_none {mu : Mu} {cs ca cap r : Nat} {x : Option (List Int32)} (h : z_ar mu cs ca cap r x) (hc : cap ≤ 60) (hn : ¬ 0 ≤ (mu cs r).toInt) : x = none := by
  cases x with
  | none => rfl
  | some xs =>
    have h1 : mu cs r = nI xs.length := h.1
    have h2 : xs.length ≤ cap := h.2.1
    rw [h1, nI_toInt (by omega)] at hn
    omega
theorem zm_keep {mu m : Mu} {nu n2 : Nu} {z : Zt} (h : ZM mu nu z) (hc : ∀ c, 65 ≤ c → c ≤ 70 → m c = mu c) (h5 : m 64 5 = mu 64 5) (h7 : m 64 7 = mu 64 7) (hn : n2 64 8 = nu 64 8) (hn9 : n2 64 9 = nu 64 9) : ZM m n2 z := by
  obtain ⟨h1, h2, h3, h4, h5', h6, ⟨a1, a2, a3, a4, a5⟩, h8⟩ := h
  refine ⟨h1, by rw [hc 65 (by decide) (by decide)]; exact h2, h3, by rw [hc 65 (by decide) (by decide)]; exact h4, fun r hr => zar_keep (h5' r hr) (by rw [hc 66 (by decide) (by decide)]) (fun j _ => by rw [hc 67 (by decide) (by decide)]), fun r hr => zar_keep (h6 r hr) (by rw [hc 68 (by decide) (by decide)]) (fun j _ => by rw [hc 69 (by decide) (by decide)]), ⟨by rw [h7]; exact a1, by rw [hn]; exact a2, by rw [hn9]; exact a3, by rw [h5]; exact a4, fun f hf => by rw [hc 70 (by decide) (by decide)]; exact a5 f hf⟩, h8⟩
theorem zm_told {mu : Mu} {nu : Nu} {z : Zt} {x : Int32} (h : ZM mu nu z) : ZM (mu_up mu 64 7 x) nu (u_told z x) := by
  obtain ⟨h1, h2, h3, h4, h5, h6, ⟨a1, a2, a3, a4, a5⟩, h8⟩ := h
  have k : ∀ c, 65 ≤ c → mu_up mu 64 7 x c = mu c := fun c hc => mu_up_ne (by omega)
  exact ⟨h1, by rw [k 65 (by decide)]; exact h2, h3, by rw [k 65 (by decide)]; exact h4, fun r hr => zar_keep (h5 r hr) (by rw [k 66 (by decide)]) (fun j _ => by rw [k 67 (by decide)]), fun r hr => zar_keep (h6 r hr) (by rw [k 68 (by decide)]) (fun j _ => by rw [k 69 (by decide)]), ⟨mu_up_at, a2, a3, by rw [mu_up_an (by decide)]; exact a4, fun f hf => by rw [k 70 (by decide)]; exact a5 f hf⟩, h8⟩
theorem zcm_told {mu : Mu} {nu : Nu} {x : Int32} : z_cm mu nu (mu_up mu 64 7 x) nu := ⟨fun c h => mu_up_ne (by omega), fun _ _ => rfl⟩
theorem PM_told {mu m m0 : Mu} {nu n2 n0 : Nu} {o : Int32 × Zt} {z : Zt} {r v : Int32} (hz : ZM m0 n0 z) (hc : z_cm mu nu m0 n0) (hp : r = 1 ∧ m = mu_up m0 64 7 v ∧ n2 = n0) (e : o = (1, u_told z v)) : PM mu nu o r m n2 := by
  obtain ⟨rfl, rfl, rfl⟩ := hp
  exact PM_of e (zm_told hz) (hc.trans zcm_told)
theorem PM_find {mu m : Mu} {nu n2 : Nu} {o : Int32 × Zt} {z : Zt} {f : Nat} (hz : ZM mu nu z) (hf : f < 6) {r : Int32} (hp : r = -3 ∧ m = mu_up (mu_up mu 64 5 (nI f)) 70 f (mu 70 f + 1) ∧ n2 = nu) (e : o = (-3, u_find z f)) : PM mu nu o r m n2 := by
  obtain ⟨rfl, rfl, rfl⟩ := hp
  refine PM_of e ?_ ⟨fun c h => by rw [mu_up_ne (by omega), mu_up_ne (by omega)], fun _ _ => rfl⟩
  obtain ⟨h1, h2, h3, h4, h5, h6, ⟨a1, a2, a3, a4, a5⟩, h8⟩ := hz
  have k : ∀ c, 65 ≤ c → c ≠ 70 → mu_up (mu_up mu 64 5 (nI f)) 70 f (mu 70 f + 1) c = mu c := fun c hc h2 => by rw [mu_up_ne h2, mu_up_ne (by omega)]
  have k0 : ∀ j, j ≠ 5 → mu_up (mu_up mu 64 5 (nI f)) 70 f (mu 70 f + 1) 64 j = mu 64 j := fun j hj => by rw [mu_up_ne (by decide), mu_up_an hj]
  refine ⟨h1, by rw [k 65 (by decide) (by decide)]; exact h2, h3, by rw [k 65 (by decide) (by decide)]; exact h4, fun r hr => zar_keep (h5 r hr) (by rw [k 66 (by decide) (by decide)]) (fun j _ => by rw [k 67 (by decide) (by decide)]), fun r hr => zar_keep (h6 r hr) (by rw [k 68 (by decide) (by decide)]) (fun j _ => by rw [k 69 (by decide) (by decide)]), ⟨by rw [k0 7 (by decide)]; exact a1, a2, a3, by rw [mu_up_ne (by decide), mu_up_at]; rfl, fun g hg => ?_⟩, h8⟩
  show _ = upd (z_ms z).2.2.2.2 f ((z_ms z).2.2.2.2 f + 1) g
  by_cases e : g = f
  · rw [e, mu_up_at, pk_us, a5 f hf]
  · rw [mu_up_an e, pk_un e, mu_up_ne (by decide)]
    exact a5 g hg
theorem zm_row {mu m : Mu} {nu : Nu} {z : Zt} {r : Nat} {x : Option (List Int32)} (h : ZM mu nu z) (hr : r < 6) (hc : ∀ c, 64 ≤ c → c ≤ 70 → c ≠ 66 → c ≠ 67 → m c = mu c) (h66 : ∀ s, s ≠ r → m 66 s = mu 66 s) (h67 : ∀ j, ¬ (40 * r ≤ j ∧ j < 40 * r + 40) → m 67 j = mu 67 j) (hx : z_ar m 66 67 40 r x) : ZM m nu (u_row z r x) := by
  obtain ⟨h1, h2, h3, h4, h5, h6, ⟨a1, a2, a3, a4, a5⟩, h8⟩ := h
  refine ⟨h1, by rw [hc 65 (by decide) (by decide) (by decide) (by decide)]; exact h2, h3, by rw [hc 65 (by decide) (by decide) (by decide) (by decide)]; exact h4, fun s hs => ?_, fun r hr => zar_keep (h6 r hr) (by rw [hc 68 (by decide) (by decide) (by decide) (by decide)]) (fun j _ => by rw [hc 69 (by decide) (by decide) (by decide) (by decide)]), ⟨by rw [hc 64 (by decide) (by decide) (by decide) (by decide)]; exact a1, a2, a3, by rw [hc 64 (by decide) (by decide) (by decide) (by decide)]; exact a4, fun f hf => by rw [hc 70 (by decide) (by decide) (by decide) (by decide)]; exact a5 f hf⟩, h8⟩
  show z_ar m 66 67 40 s (va_up (z_rw z) r x s)
  by_cases e : s = r
  · subst e
    simp only [va_up, if_true]; exact hx
  · simp only [va_up, if_neg e]
    exact zar_keep (h5 s hs) (h66 s e) (fun j hj => h67 _ (by omega))
theorem zm_text {mu m : Mu} {nu : Nu} {z : Zt} {r : Nat} {x : Option (List Int32)} (h : ZM mu nu z) (hr : r < 4) (hc : ∀ c, 64 ≤ c → c ≤ 70 → c ≠ 68 → c ≠ 69 → m c = mu c) (h66 : ∀ s, s ≠ r → m 68 s = mu 68 s) (h67 : ∀ j, ¬ (60 * r ≤ j ∧ j < 60 * r + 60) → m 69 j = mu 69 j) (hx : z_ar m 68 69 60 r x) : ZM m nu (u_text z r x) := by
  obtain ⟨h1, h2, h3, h4, h5, h6, ⟨a1, a2, a3, a4, a5⟩, h8⟩ := h
  refine ⟨h1, by rw [hc 65 (by decide) (by decide) (by decide) (by decide)]; exact h2, h3, by rw [hc 65 (by decide) (by decide) (by decide) (by decide)]; exact h4, fun r hr => zar_keep (h5 r hr) (by rw [hc 66 (by decide) (by decide) (by decide) (by decide)]) (fun j _ => by rw [hc 67 (by decide) (by decide) (by decide) (by decide)]), fun s hs => ?_, ⟨by rw [hc 64 (by decide) (by decide) (by decide) (by decide)]; exact a1, a2, a3, by rw [hc 64 (by decide) (by decide) (by decide) (by decide)]; exact a4, fun f hf => by rw [hc 70 (by decide) (by decide) (by decide) (by decide)]; exact a5 f hf⟩, h8⟩
  show z_ar m 68 69 60 s (va_up (z_tx z) r x s)
  by_cases e : s = r
  · subst e
    simp only [va_up, if_true]; exact hx
  · simp only [va_up, if_neg e]
    exact zar_keep (h6 s hs) (h66 s e) (fun j hj => h67 _ (by omega))
theorem zar_set {mu : Mu} {cs ca cap r i : Nat} {v : Int32} {xs : List Int32} (h : z_ar mu cs ca cap r (some xs)) (hne : cs ≠ ca) (hi : i < xs.length) : z_ar (mu_up mu ca (cap * r + i) v) cs ca cap r (some (xs.set i v)) := by
  obtain ⟨h1, h2, h3⟩ := h
  refine ⟨by rw [mu_up_ne hne, h1]; simp, by simpa using h2, fun j hj => ?_⟩
  rw [gdI_set hi]
  by_cases e : j = i
  · rw [if_pos e, e, mu_up_at]
  · rw [if_neg e, mu_up_an (by omega)]
    exact h3 j (by simpa using hj)
set_option maxHeartbeats 4000000 in
set_option maxRecDepth 100000 in
theorem c_X11_finds (l : Launch) (G : Gl) (mu : Mu) (nu : Nu) (f : Nat) (hf : f < 6) : Ci l G mX11_finds 1 [.ref (G.1 64), .int (nI f)] mu nu (fun r m n2 => r = -3 ∧ m = mu_up (mu_up mu 64 5 (nI f)) 70 f (mu 70 f + 1) ∧ n2 = nu) := by
  refine Ct.of (lv := [(0, .ref (G.1 64)), (1, .int (nI f))]) rfl rfl (Nat.le_of_ble_eq_true rfl) rfl (fun X C => ?_)
  generalize hQ : g_E G X _ = Q
  replace C : Cx G 2 X cX11_finds RX11 (some .int) 1 := C
  show Mq l G 2 X Q 0 [(0, .ref (G.1 64)), (1, .int (nI f))] [] mu nu
  refine m_aload_n C 0 dX11_finds_0 rfl ?_
  refine m_iload_n C 1 dX11_finds_1 rfl ?_
  refine pfX11_56 C dX11_finds_2 ?_
  refine m_nameM (fun mu1 emu1 => ?_)
  refine m_aload_n C 0 dX11_finds_5 rfl ?_
  refine gfX11_25 C dX11_finds_6 ?_
  refine m_iload_n C 1 dX11_finds_9 rfl ?_
  refine m_dup2 C dX11_finds_10 rfl rfl ?_
  refine m_iald C 70 (by decide) sa_70 f rfl (by omega) (by decide) dX11_finds_11 ?_
  refine m_iconst C 1 dX11_finds_12 (by decide +kernel) ?_
  refine m_iadd C dX11_finds_13 ?_
  refine m_iast C 70 (by decide) sa_70 f rfl (by omega) (by decide) dX11_finds_14 ?_
  refine m_nameM (fun mu2 emu2 => ?_)
  refine m_bipush C (-3) dX11_finds_15 (by decide +kernel) ?_
  refine m_ireti C hQ dX11_finds_17 ?_
  exact ⟨rfl, by rw [emu2, emu1, mu_up_ne (c := 64) (c' := 70) (by decide)], rfl⟩

set_option maxHeartbeats 4000000 in
set_option maxRecDepth 100000 in
theorem c_X11_tells (l : Launch) (G : Gl) (mu : Mu) (nu : Nu) (v : Int32) : Ci l G mX11_tells 1 [.ref (G.1 64), .int v] mu nu (fun r m n2 => r = 1 ∧ m = mu_up mu 64 7 v ∧ n2 = nu) := by
  refine Ct.of (lv := [(0, .ref (G.1 64)), (1, .int v)]) rfl rfl (Nat.le_of_ble_eq_true rfl) rfl (fun X C => ?_)
  generalize hQ : g_E G X _ = Q
  replace C : Cx G 2 X cX11_tells RX11 (some .int) 1 := C
  show Mq l G 2 X Q 0 [(0, .ref (G.1 64)), (1, .int v)] [] mu nu
  refine m_aload_n C 0 dX11_tells_0 rfl ?_
  refine m_iload_n C 1 dX11_tells_1 rfl ?_
  refine pfX11_60 C dX11_tells_2 ?_
  refine m_nameM (fun mu1 emu1 => ?_)
  refine m_iconst C 1 dX11_tells_5 (by decide +kernel) ?_
  refine m_ireti C hQ dX11_tells_6 ?_
  exact ⟨rfl, emu1, rfl⟩

set_option maxHeartbeats 4000000 in
set_option maxRecDepth 100000 in
theorem c_X11_row (l : Launch) (G : Gl) (mu : Mu) (nu : Nu) (z : Zt) (hz : ZM mu nu z) (r n : Int32) : Ci l G mX11_row 3 [.ref (G.1 64), .int r, .int n] mu nu (PM mu nu (s_row z r n)) := by
  refine Ct.of (lv := [(0, .ref (G.1 64)), (1, .int r), (2, .int n)]) rfl rfl (Nat.le_of_ble_eq_true rfl) rfl (fun X C => ?_)
  generalize hQ : g_E G X _ = Q
  replace C : Cx G 4 X cX11_row RX11 (some .int) 3 := C
  show Mq l G 4 X Q 0 [(0, .ref (G.1 64)), (1, .int r), (2, .int n)] [] mu nu
  refine m_iload_n C 1 dX11_row_0 rfl ?_
  refine m_callSf C (c_X11_isRow l G mu nu r) wkX11_76 (by decide) rfl rfl (Nat.le_of_ble_eq_true rfl) dX11_row_1 ?_
  refine m_if_eq C 13 dX11_row_4 (by decide) (fun hh1 => ?_) (fun hh1 => ?_)
  · replace hh1 := bI_eq0.mp hh1
    refine m_iconst C (-1) dX11_row_13 (by decide +kernel) ?_
    refine m_ireti C hQ dX11_row_14 ?_
    exact PM_of (by unfold s_row; rw [if_pos (by omega)]) hz zcm_rfl
  replace hh1 := bI_ne0.mp hh1
  refine m_iload_n C 2 dX11_row_7 rfl ?_
  refine m_bipush C 40 dX11_row_8 (by decide +kernel) ?_
  refine m_icmp_le C 15 dX11_row_10 (by decide) (fun hh2 => ?_) (fun hh2 => ?_)
  · replace hh2 := (ii_le (rfl : (n).toInt = _) (nn_i (a := 40) rfl (by omega))).mp hh2
    obtain ⟨er, kr⟩ := ix_eq (x := r) (by omega)
    refine m_iload_n C 2 dX11_row_15 rfl ?_
    refine m_if_ge C 25 dX11_row_16 (by decide) (fun hh3 => ?_) (fun hh3 => ?_)
    · replace hh3 := (ii_le (nn_i (a := 0) rfl (by omega)) (rfl : (n).toInt = _)).mp hh3
      obtain ⟨en, kn⟩ := ix_eq (x := n) (by omega)
      refine m_aload_n C 0 dX11_row_25 rfl ?_
      refine gfX11_13 C dX11_row_26 ?_
      refine m_iload_n C 1 dX11_row_29 rfl ?_
      refine m_topi (nI (ix r)) er ?_
      refine m_iload_n C 2 dX11_row_30 rfl ?_
      refine m_topi (nI (ix n)) en ?_
      refine m_iast C 66 (by decide) sa_66 (ix r) rfl (by omega) (by decide) dX11_row_31 ?_
      refine m_nameM (fun mu4 emu4 => ?_)
      refine m_iconst C 0 dX11_row_32 (by decide +kernel) ?_
      refine m_istore_n C [(3, .int 0), (0, .ref (G.1 64)), (1, .int r), (2, .int n)] dX11_row_33 (by decide) rfl ?_
      have L34 : ∀ (fu : Nat) (k : Nat) (m : Mu) (hk : k ≤ 40) (hm1 : ∀ c, c ≠ 67 → m c = mu4 c) (hm2 : ∀ j, ¬ (40 * ix r ≤ j ∧ j < 40 * ix r + k) → m 67 j = mu 67 j) (hm3 : ∀ j, j < k → m 67 (40 * ix r + j) = 0), 40 - k < fu → Mq l G 4 X Q 34 [(0, .ref (G.1 64)), (1, .int r), (2, .int n), (3, .int (nI k))] [] m nu := by
        intro fu
        induction fu with
        | zero => intro k m hk hm1 hm2 hm3 hm; exact absurd hm (Nat.not_lt_zero _)
        | succ fu ih34 =>
          intro k m hk hm1 hm2 hm3 hm
          refine m_iload_n C 3 dX11_row_34 rfl ?_
          refine m_bipush C 40 dX11_row_35 (by decide +kernel) ?_
          refine m_icmp_ge C 58 dX11_row_37 (by decide) (fun hh5 => ?_) (fun hh5 => ?_)
          · replace hh5 := (ii_le (nn_i (a := 40) rfl (by omega)) (nn_i (a := k) rfl (by omega))).mp hh5
            refine m_iload_n C 2 dX11_row_58 rfl ?_
            refine m_topi (nI (ix n)) en ?_
            refine m_ireti C hQ dX11_row_59 ?_
            have q1 := zm_row (x := some (List.replicate (ix n) 0)) (m := m) hz (r := ix r) (by omega) (fun c c1 c2 c3 c4 => by rw [hm1 c c4, emu4, mu_up_ne c3]) (fun t ht => by rw [hm1 66 (by decide), emu4, mu_up_an ht]) (fun j hj => hm2 j (by omega)) ⟨by rw [hm1 66 (by decide), emu4, mu_up_at]; simp, by simp; omega, fun j hj => by
                have hj : j < ix n := by simpa using hj
                rw [hm3 j (by omega)]; simp [List.getD, hj]⟩
            exact PM_of (by unfold s_row; rw [if_neg (by omega), if_neg (by omega), ← en]) q1 ⟨fun c hc => by rw [hm1 c (by omega), emu4, mu_up_ne (by omega)], fun _ _ => rfl⟩
          replace hh5 := mt (ii_le (nn_i (a := 40) rfl (by omega)) (nn_i (a := k) rfl (by omega))).mpr hh5
          refine m_aload_n C 0 dX11_row_40 rfl ?_
          refine gfX11_16 C dX11_row_41 ?_
          refine m_bipush C 40 dX11_row_44 (by decide +kernel) ?_
          refine m_iload_n C 1 dX11_row_46 rfl ?_
          refine m_topi (nI (ix r)) er ?_
          refine m_imul C dX11_row_47 ?_
          refine m_topi (nI (40 * (ix r))) (nn_mul rfl rfl) ?_
          refine m_iload_n C 3 dX11_row_48 rfl ?_
          refine m_iadd C dX11_row_49 ?_
          refine m_topi (nI ((40 * (ix r)) + k)) (nn_add rfl rfl) ?_
          refine m_iconst C 0 dX11_row_50 (by decide +kernel) ?_
          refine m_iast C 67 (by decide) sa_67 ((40 * (ix r)) + k) rfl (by omega) (by decide) dX11_row_51 ?_
          refine m_nameM (fun mu6 emu6 => ?_)
          refine m_iinc C 3 (nI (k + 1)) [(3, .int (nI (k + 1))), (0, .ref (G.1 64)), (1, .int r), (2, .int n)] dX11_row_52 rfl (nn_add rfl (show Int32.ofInt 1 = nI 1 from rfl)) (by decide) rfl ?_
          refine m_goto C 34 dX11_row_55 (by decide) ?_
          exact m_sub [1, 2, 3, 0] rfl (ih34 (k + 1) mu6 (by omega) (fun c hc => by rw [emu6, mu_up_ne hc]; exact hm1 c hc) (fun j hj => by rw [emu6, mu_up_an (by omega)]; exact hm2 j (by omega)) (fun j hj => by
                    by_cases e : j = k
                    · rw [e, emu6, mu_up_at]
                    · rw [emu6, mu_up_an (by omega)]; exact hm3 j (by omega)) (by omega))
      exact m_sub [1, 2, 3, 0] rfl (L34 (_ + 1) 0 mu4 (Nat.zero_le _) (fun c _ => rfl) (fun j _ => by rw [emu4, mu_up_ne (by decide)]) (fun j hj => absurd hj (Nat.not_lt_zero _)) (Nat.lt_succ_self _))
    replace hh3 := mt (ii_le (nn_i (a := 0) rfl (by omega)) (rfl : (n).toInt = _)).mpr hh3
    refine m_aload_n C 0 dX11_row_19 rfl ?_
    refine m_iconst C 5 dX11_row_20 (by decide +kernel) ?_
    refine m_callVi C 64 (by decide) rfl rfl (c_X11_finds l G mu nu 5 (by decide)) wkX11_80 (by decide) rfl rfl (Nat.le_of_ble_eq_true rfl) dX11_row_21 (fun r7 m7 n7 hp7 => ?_)
    refine m_ireti C hQ dX11_row_24 ?_
    exact PM_find hz (by decide) hp7 (by unfold s_row; rw [if_neg (by omega), if_pos (by omega)])
  replace hh2 := mt (ii_le (rfl : (n).toInt = _) (nn_i (a := 40) rfl (by omega))).mpr hh2
  refine m_iconst C (-1) dX11_row_13 (by decide +kernel) ?_
  refine m_ireti C hQ dX11_row_14 ?_
  exact PM_of (by unfold s_row; rw [if_pos (by omega)]) hz zcm_rfl

set_option maxHeartbeats 4000000 in
set_option maxRecDepth 100000 in
theorem c_X11_text (l : Launch) (G : Gl) (mu : Mu) (nu : Nu) (z : Zt) (hz : ZM mu nu z) (r n : Int32) : Ci l G mX11_text 3 [.ref (G.1 64), .int r, .int n] mu nu (PM mu nu (s_text z r n)) := by
  refine Ct.of (lv := [(0, .ref (G.1 64)), (1, .int r), (2, .int n)]) rfl rfl (Nat.le_of_ble_eq_true rfl) rfl (fun X C => ?_)
  generalize hQ : g_E G X _ = Q
  replace C : Cx G 4 X cX11_text RX11 (some .int) 3 := C
  show Mq l G 4 X Q 0 [(0, .ref (G.1 64)), (1, .int r), (2, .int n)] [] mu nu
  refine m_iload_n C 1 dX11_text_0 rfl ?_
  refine m_callSf C (c_X11_isText l G mu nu r) wkX11_86 (by decide) rfl rfl (Nat.le_of_ble_eq_true rfl) dX11_text_1 ?_
  refine m_if_eq C 13 dX11_text_4 (by decide) (fun hh1 => ?_) (fun hh1 => ?_)
  · replace hh1 := bI_eq0.mp hh1
    refine m_iconst C (-1) dX11_text_13 (by decide +kernel) ?_
    refine m_ireti C hQ dX11_text_14 ?_
    exact PM_of (by unfold s_text; rw [if_pos (by omega)]) hz zcm_rfl
  replace hh1 := bI_ne0.mp hh1
  refine m_iload_n C 2 dX11_text_7 rfl ?_
  refine m_bipush C 60 dX11_text_8 (by decide +kernel) ?_
  refine m_icmp_le C 15 dX11_text_10 (by decide) (fun hh2 => ?_) (fun hh2 => ?_)
  · replace hh2 := (ii_le (rfl : (n).toInt = _) (nn_i (a := 60) rfl (by omega))).mp hh2
    obtain ⟨er, kr⟩ := ix_eq (x := r) (by omega)
    refine m_iload_n C 2 dX11_text_15 rfl ?_
    refine m_if_ge C 25 dX11_text_16 (by decide) (fun hh3 => ?_) (fun hh3 => ?_)
    · replace hh3 := (ii_le (nn_i (a := 0) rfl (by omega)) (rfl : (n).toInt = _)).mp hh3
      obtain ⟨en, kn⟩ := ix_eq (x := n) (by omega)
      refine m_aload_n C 0 dX11_text_25 rfl ?_
      refine gfX11_19 C dX11_text_26 ?_
      refine m_iload_n C 1 dX11_text_29 rfl ?_
      refine m_topi (nI (ix r)) er ?_
      refine m_iload_n C 2 dX11_text_30 rfl ?_
      refine m_topi (nI (ix n)) en ?_
      refine m_iast C 68 (by decide) sa_68 (ix r) rfl (by omega) (by decide) dX11_text_31 ?_
      refine m_nameM (fun mu4 emu4 => ?_)
      refine m_iconst C 0 dX11_text_32 (by decide +kernel) ?_
      refine m_istore_n C [(3, .int 0), (0, .ref (G.1 64)), (1, .int r), (2, .int n)] dX11_text_33 (by decide) rfl ?_
      have L34 : ∀ (fu : Nat) (k : Nat) (m : Mu) (hk : k ≤ 60) (hm1 : ∀ c, c ≠ 69 → m c = mu4 c) (hm2 : ∀ j, ¬ (60 * ix r ≤ j ∧ j < 60 * ix r + k) → m 69 j = mu 69 j) (hm3 : ∀ j, j < k → m 69 (60 * ix r + j) = 32), 60 - k < fu → Mq l G 4 X Q 34 [(0, .ref (G.1 64)), (1, .int r), (2, .int n), (3, .int (nI k))] [] m nu := by
        intro fu
        induction fu with
        | zero => intro k m hk hm1 hm2 hm3 hm; exact absurd hm (Nat.not_lt_zero _)
        | succ fu ih34 =>
          intro k m hk hm1 hm2 hm3 hm
          refine m_iload_n C 3 dX11_text_34 rfl ?_
          refine m_bipush C 60 dX11_text_35 (by decide +kernel) ?_
          refine m_icmp_ge C 59 dX11_text_37 (by decide) (fun hh5 => ?_) (fun hh5 => ?_)
          · replace hh5 := (ii_le (nn_i (a := 60) rfl (by omega)) (nn_i (a := k) rfl (by omega))).mp hh5
            refine m_iload_n C 2 dX11_text_59 rfl ?_
            refine m_topi (nI (ix n)) en ?_
            refine m_ireti C hQ dX11_text_60 ?_
            have q1 := zm_text (x := some (List.replicate (ix n) 32)) (m := m) hz (r := ix r) (by omega) (fun c c1 c2 c3 c4 => by rw [hm1 c c4, emu4, mu_up_ne c3]) (fun t ht => by rw [hm1 68 (by decide), emu4, mu_up_an ht]) (fun j hj => hm2 j (by omega)) ⟨by rw [hm1 68 (by decide), emu4, mu_up_at]; simp, by simp; omega, fun j hj => by
                have hj : j < ix n := by simpa using hj
                rw [hm3 j (by omega)]; simp [List.getD, hj]⟩
            exact PM_of (by unfold s_text; rw [if_neg (by omega), if_neg (by omega), ← en]) q1 ⟨fun c hc => by rw [hm1 c (by omega), emu4, mu_up_ne (by omega)], fun _ _ => rfl⟩
          replace hh5 := mt (ii_le (nn_i (a := 60) rfl (by omega)) (nn_i (a := k) rfl (by omega))).mpr hh5
          refine m_aload_n C 0 dX11_text_40 rfl ?_
          refine gfX11_22 C dX11_text_41 ?_
          refine m_bipush C 60 dX11_text_44 (by decide +kernel) ?_
          refine m_iload_n C 1 dX11_text_46 rfl ?_
          refine m_topi (nI (ix r)) er ?_
          refine m_imul C dX11_text_47 ?_
          refine m_topi (nI (60 * (ix r))) (nn_mul rfl rfl) ?_
          refine m_iload_n C 3 dX11_text_48 rfl ?_
          refine m_iadd C dX11_text_49 ?_
          refine m_topi (nI ((60 * (ix r)) + k)) (nn_add rfl rfl) ?_
          refine m_bipush C 32 dX11_text_50 (by decide +kernel) ?_
          refine m_iast C 69 (by decide) sa_69 ((60 * (ix r)) + k) rfl (by omega) (by decide) dX11_text_52 ?_
          refine m_nameM (fun mu6 emu6 => ?_)
          refine m_iinc C 3 (nI (k + 1)) [(3, .int (nI (k + 1))), (0, .ref (G.1 64)), (1, .int r), (2, .int n)] dX11_text_53 rfl (nn_add rfl (show Int32.ofInt 1 = nI 1 from rfl)) (by decide) rfl ?_
          refine m_goto C 34 dX11_text_56 (by decide) ?_
          exact m_sub [1, 2, 3, 0] rfl (ih34 (k + 1) mu6 (by omega) (fun c hc => by rw [emu6, mu_up_ne hc]; exact hm1 c hc) (fun j hj => by rw [emu6, mu_up_an (by omega)]; exact hm2 j (by omega)) (fun j hj => by
                    by_cases e : j = k
                    · rw [e, emu6, mu_up_at]
                    · rw [emu6, mu_up_an (by omega)]; exact hm3 j (by omega)) (by omega))
      exact m_sub [1, 2, 3, 0] rfl (L34 (_ + 1) 0 mu4 (Nat.zero_le _) (fun c _ => rfl) (fun j _ => by rw [emu4, mu_up_ne (by decide)]) (fun j hj => absurd hj (Nat.not_lt_zero _)) (Nat.lt_succ_self _))
    replace hh3 := mt (ii_le (nn_i (a := 0) rfl (by omega)) (rfl : (n).toInt = _)).mpr hh3
    refine m_aload_n C 0 dX11_text_19 rfl ?_
    refine m_iconst C 5 dX11_text_20 (by decide +kernel) ?_
    refine m_callVi C 64 (by decide) rfl rfl (c_X11_finds l G mu nu 5 (by decide)) wkX11_80 (by decide) rfl rfl (Nat.le_of_ble_eq_true rfl) dX11_text_21 (fun r7 m7 n7 hp7 => ?_)
    refine m_ireti C hQ dX11_text_24 ?_
    exact PM_find hz (by decide) hp7 (by unfold s_text; rw [if_neg (by omega), if_pos (by omega)])
  replace hh2 := mt (ii_le (rfl : (n).toInt = _) (nn_i (a := 60) rfl (by omega))).mpr hh2
  refine m_iconst C (-1) dX11_text_13 (by decide +kernel) ?_
  refine m_ireti C hQ dX11_text_14 ?_
  exact PM_of (by unfold s_text; rw [if_pos (by omega)]) hz zcm_rfl

set_option maxHeartbeats 4000000 in
set_option maxRecDepth 100000 in
theorem c_X11_at (l : Launch) (G : Gl) (mu : Mu) (nu : Nu) (z : Zt) (hz : ZM mu nu z) (r i : Int32) : Ci l G mX11_at 3 [.ref (G.1 64), .int r, .int i] mu nu (PM mu nu (s_atq z r i)) := by
  refine Ct.of (lv := [(0, .ref (G.1 64)), (1, .int r), (2, .int i)]) rfl rfl (Nat.le_of_ble_eq_true rfl) rfl (fun X C => ?_)
  generalize hQ : g_E G X _ = Q
  replace C : Cx G 3 X cX11_at RX11 (some .int) 3 := C
  show Mq l G 3 X Q 0 [(0, .ref (G.1 64)), (1, .int r), (2, .int i)] [] mu nu
  refine m_iload_n C 1 dX11_at_0 rfl ?_
  refine m_callSf C (c_X11_isRow l G mu nu r) wkX11_76 (by decide) rfl rfl (Nat.le_of_ble_eq_true rfl) dX11_at_1 ?_
  refine m_if_ne C 9 dX11_at_4 (by decide) (fun hh1 => ?_) (fun hh1 => ?_)
  · replace hh1 := bI_ne0.mp hh1
    obtain ⟨er, kr⟩ := ix_eq (x := r) (by omega)
    refine m_aload_n C 0 dX11_at_9 rfl ?_
    refine gfX11_13 C dX11_at_10 ?_
    refine m_iload_n C 1 dX11_at_13 rfl ?_
    refine m_topi (nI (ix r)) er ?_
    refine m_iald C 66 (by decide) sa_66 (ix r) rfl (by omega) (by decide) dX11_at_14 ?_
    refine m_if_ge C 24 dX11_at_15 (by decide) (fun hh2 => ?_) (fun hh2 => ?_)
    · replace hh2 := (ii_le (nn_i (a := 0) rfl (by omega)) (rfl : (mu 66 (ix r)).toInt = _)).mp hh2
      obtain ⟨xs, hxe, hx1, hx2, hx3⟩ := za_some (hz.2.2.2.2.1 (ix r) (by omega)) hh2
      refine m_iload_n C 2 dX11_at_24 rfl ?_
      refine m_i2l C dX11_at_25 ?_
      refine m_lconst C 0 dX11_at_26 rfl ?_
      refine m_aload_n C 0 dX11_at_27 rfl ?_
      refine gfX11_13 C dX11_at_28 ?_
      refine m_iload_n C 1 dX11_at_31 rfl ?_
      refine m_topi (nI (ix r)) er ?_
      refine m_iald C 66 (by decide) sa_66 (ix r) rfl (by omega) (by decide) dX11_at_32 ?_
      refine m_topi (nI xs.length) hx1 ?_
      refine m_iconst C 1 dX11_at_33 (by decide +kernel) ?_
      refine m_isub C dX11_at_34 ?_
      refine m_i2l C dX11_at_35 ?_
      refine m_callSf C (c_in (a := i.toInt) (b := ((0 : Nat) : Int)) (c := ((xs.length : Nat) : Int) - ((1 : Nat) : Int)) ((tl_i _).trans (rfl : (i).toInt = _)) (ln_i (a := 0) rfl (by omega)) ((tl_i _).trans (ii_sub (nn_i (a := xs.length) rfl (by omega)) (nn_i (a := 1) rfl (by omega)) (by omega) (by omega)))) wkX11_68 (by decide) rfl rfl (Nat.le_of_ble_eq_true rfl) dX11_at_36 ?_
      refine m_if_ne C 48 dX11_at_39 (by decide) (fun hh3 => ?_) (fun hh3 => ?_)
      · replace hh3 := bI_ne0.mp hh3
        obtain ⟨ei, ki⟩ := ix_eq (x := i) (by omega)
        refine m_aload_n C 0 dX11_at_48 rfl ?_
        refine m_aload_n C 0 dX11_at_49 rfl ?_
        refine gfX11_16 C dX11_at_50 ?_
        refine m_bipush C 40 dX11_at_53 (by decide +kernel) ?_
        refine m_iload_n C 1 dX11_at_55 rfl ?_
        refine m_topi (nI (ix r)) er ?_
        refine m_imul C dX11_at_56 ?_
        refine m_topi (nI (40 * (ix r))) (nn_mul rfl rfl) ?_
        refine m_iload_n C 2 dX11_at_57 rfl ?_
        refine m_topi (nI (ix i)) ei ?_
        refine m_iadd C dX11_at_58 ?_
        refine m_topi (nI ((40 * (ix r)) + (ix i))) (nn_add rfl rfl) ?_
        refine m_iald C 67 (by decide) sa_67 ((40 * (ix r)) + (ix i)) rfl (by omega) (by decide) dX11_at_59 ?_
        refine m_topi (xs.getD (ix i) 0) (hx3 _ (by omega)) ?_
        refine m_callVi C 64 (by decide) rfl rfl (c_X11_tells l G mu nu (xs.getD (ix i) 0)) wkX11_83 (by decide) rfl rfl (Nat.le_of_ble_eq_true rfl) dX11_at_60 (fun r4 m4 n4 hp4 => ?_)
        refine m_ireti C hQ dX11_at_63 ?_
        exact PM_told hz zcm_rfl hp4 (by unfold s_atq; rw [if_neg (by omega)]; simp only [hxe]; rw [if_pos (by omega)])
      replace hh3 := bI_eq0.mp hh3
      refine m_aload_n C 0 dX11_at_42 rfl ?_
      refine m_iconst C 2 dX11_at_43 (by decide +kernel) ?_
      refine m_callVi C 64 (by decide) rfl rfl (c_X11_finds l G mu nu 2 (by decide)) wkX11_80 (by decide) rfl rfl (Nat.le_of_ble_eq_true rfl) dX11_at_44 (fun r5 m5 n5 hp5 => ?_)
      refine m_ireti C hQ dX11_at_47 ?_
      exact PM_find hz (by decide) hp5 (by unfold s_atq; rw [if_neg (by omega)]; simp only [hxe]; rw [if_neg (by omega)])
    replace hh2 := mt (ii_le (nn_i (a := 0) rfl (by omega)) (rfl : (mu 66 (ix r)).toInt = _)).mpr hh2
    refine m_aload_n C 0 dX11_at_18 rfl ?_
    refine m_iconst C 1 dX11_at_19 (by decide +kernel) ?_
    refine m_callVi C 64 (by decide) rfl rfl (c_X11_finds l G mu nu 1 (by decide)) wkX11_80 (by decide) rfl rfl (Nat.le_of_ble_eq_true rfl) dX11_at_20 (fun r6 m6 n6 hp6 => ?_)
    refine m_ireti C hQ dX11_at_23 ?_
    have hxe := za_none (hz.2.2.2.2.1 (ix r) (by omega)) (by decide) (by omega)
    exact PM_find hz (by decide) hp6 (by unfold s_atq; rw [if_neg (by omega)]; simp only [hxe])
  replace hh1 := bI_eq0.mp hh1
  refine m_iconst C (-1) dX11_at_7 (by decide +kernel) ?_
  refine m_ireti C hQ dX11_at_8 ?_
  exact PM_of (by unfold s_atq; rw [if_pos (by omega)]) hz zcm_rfl

set_option maxHeartbeats 4000000 in
set_option maxRecDepth 100000 in
theorem c_X11_lay (l : Launch) (G : Gl) (mu : Mu) (nu : Nu) (z : Zt) (hz : ZM mu nu z) (r i v : Int32) : Ci l G mX11_lay 3 [.ref (G.1 64), .int r, .int i, .int v] mu nu (PM mu nu (s_lay z r i v)) := by
  refine Ct.of (lv := [(0, .ref (G.1 64)), (1, .int r), (2, .int i), (3, .int v)]) rfl rfl (Nat.le_of_ble_eq_true rfl) rfl (fun X C => ?_)
  generalize hQ : g_E G X _ = Q
  replace C : Cx G 5 X cX11_lay RX11 (some .int) 3 := C
  show Mq l G 5 X Q 0 [(0, .ref (G.1 64)), (1, .int r), (2, .int i), (3, .int v)] [] mu nu
  refine m_iload_n C 1 dX11_lay_0 rfl ?_
  refine m_callSf C (c_X11_isRow l G mu nu r) wkX11_76 (by decide) rfl rfl (Nat.le_of_ble_eq_true rfl) dX11_lay_1 ?_
  refine m_if_ne C 9 dX11_lay_4 (by decide) (fun hh1 => ?_) (fun hh1 => ?_)
  · replace hh1 := bI_ne0.mp hh1
    obtain ⟨er, kr⟩ := ix_eq (x := r) (by omega)
    refine m_aload_n C 0 dX11_lay_9 rfl ?_
    refine gfX11_13 C dX11_lay_10 ?_
    refine m_iload_n C 1 dX11_lay_13 rfl ?_
    refine m_topi (nI (ix r)) er ?_
    refine m_iald C 66 (by decide) sa_66 (ix r) rfl (by omega) (by decide) dX11_lay_14 ?_
    refine m_if_ge C 24 dX11_lay_15 (by decide) (fun hh2 => ?_) (fun hh2 => ?_)
    · replace hh2 := (ii_le (nn_i (a := 0) rfl (by omega)) (rfl : (mu 66 (ix r)).toInt = _)).mp hh2
      obtain ⟨xs, hxe, hx1, hx2, hx3⟩ := za_some (hz.2.2.2.2.1 (ix r) (by omega)) hh2
      refine m_iload_n C 2 dX11_lay_24 rfl ?_
      refine m_i2l C dX11_lay_25 ?_
      refine m_lconst C 0 dX11_lay_26 rfl ?_
      refine m_aload_n C 0 dX11_lay_27 rfl ?_
      refine gfX11_13 C dX11_lay_28 ?_
      refine m_iload_n C 1 dX11_lay_31 rfl ?_
      refine m_topi (nI (ix r)) er ?_
      refine m_iald C 66 (by decide) sa_66 (ix r) rfl (by omega) (by decide) dX11_lay_32 ?_
      refine m_topi (nI xs.length) hx1 ?_
      refine m_iconst C 1 dX11_lay_33 (by decide +kernel) ?_
      refine m_isub C dX11_lay_34 ?_
      refine m_i2l C dX11_lay_35 ?_
      refine m_callSf C (c_in (a := i.toInt) (b := ((0 : Nat) : Int)) (c := ((xs.length : Nat) : Int) - ((1 : Nat) : Int)) ((tl_i _).trans (rfl : (i).toInt = _)) (ln_i (a := 0) rfl (by omega)) ((tl_i _).trans (ii_sub (nn_i (a := xs.length) rfl (by omega)) (nn_i (a := 1) rfl (by omega)) (by omega) (by omega)))) wkX11_68 (by decide) rfl rfl (Nat.le_of_ble_eq_true rfl) dX11_lay_36 ?_
      refine m_if_ne C 48 dX11_lay_39 (by decide) (fun hh3 => ?_) (fun hh3 => ?_)
      · replace hh3 := bI_ne0.mp hh3
        obtain ⟨ei, ki⟩ := ix_eq (x := i) (by omega)
        refine m_aload_n C 0 dX11_lay_48 rfl ?_
        refine gfX11_16 C dX11_lay_49 ?_
        refine m_bipush C 40 dX11_lay_52 (by decide +kernel) ?_
        refine m_iload_n C 1 dX11_lay_54 rfl ?_
        refine m_topi (nI (ix r)) er ?_
        refine m_imul C dX11_lay_55 ?_
        refine m_topi (nI (40 * (ix r))) (nn_mul rfl rfl) ?_
        refine m_iload_n C 2 dX11_lay_56 rfl ?_
        refine m_topi (nI (ix i)) ei ?_
        refine m_iadd C dX11_lay_57 ?_
        refine m_topi (nI ((40 * (ix r)) + (ix i))) (nn_add rfl rfl) ?_
        refine m_iald C 67 (by decide) sa_67 ((40 * (ix r)) + (ix i)) rfl (by omega) (by decide) dX11_lay_58 ?_
        refine m_topi (xs.getD (ix i) 0) (hx3 _ (by omega)) ?_
        refine m_istore C [(4, .int (xs.getD (ix i) 0)), (0, .ref (G.1 64)), (1, .int r), (2, .int i), (3, .int v)] dX11_lay_59 (by decide) rfl ?_
        refine m_aload_n C 1 dX11_lay_61 rfl ?_
        refine gfX11_16 C dX11_lay_62 ?_
        refine m_bipush C 40 dX11_lay_65 (by decide +kernel) ?_
        refine m_iload_n C 2 dX11_lay_67 rfl ?_
        refine m_topi (nI (ix r)) er ?_
        refine m_imul C dX11_lay_68 ?_
        refine m_topi (nI (40 * (ix r))) (nn_mul rfl rfl) ?_
        refine m_iload_n C 3 dX11_lay_69 rfl ?_
        refine m_topi (nI (ix i)) ei ?_
        refine m_iadd C dX11_lay_70 ?_
        refine m_topi (nI ((40 * (ix r)) + (ix i))) (nn_add rfl rfl) ?_
        refine m_iload_n C 4 dX11_lay_71 rfl ?_
        refine m_iast C 67 (by decide) sa_67 ((40 * (ix r)) + (ix i)) rfl (by omega) (by decide) dX11_lay_72 ?_
        refine m_nameM (fun mu4 emu4 => ?_)
        refine m_aload_n C 1 dX11_lay_73 rfl ?_
        refine m_iload C 0 dX11_lay_74 rfl ?_
        refine m_callVi C 64 (by decide) rfl rfl (c_X11_tells l G mu4 nu (xs.getD (ix i) 0)) wkX11_83 (by decide) rfl rfl (Nat.le_of_ble_eq_true rfl) dX11_lay_76 (fun r5 m5 n5 hp5 => ?_)
        refine m_ireti C hQ dX11_lay_79 ?_
        have q1 := zm_row (x := some (xs.set (ix i) v)) (m := mu4) hz (r := ix r) (by omega) (fun c c1 c2 c3 c4 => by rw [emu4, mu_up_ne c4]) (fun t ht => by rw [emu4, mu_up_ne (by decide)]) (fun j hj => by rw [emu4, mu_up_an (by omega)]) (by rw [emu4]; exact zar_set ⟨hx1, hx2, hx3⟩ (by decide) (by omega))
        have q2 : z_cm mu nu mu4 nu := ⟨fun c hc => by rw [emu4, mu_up_ne (by omega)], fun _ _ => rfl⟩
        exact PM_told q1 q2 hp5 (by unfold s_lay; rw [if_neg (by omega)]; simp only [hxe]; rw [if_pos (by omega)]; rfl)
      replace hh3 := bI_eq0.mp hh3
      refine m_aload_n C 0 dX11_lay_42 rfl ?_
      refine m_iconst C 2 dX11_lay_43 (by decide +kernel) ?_
      refine m_callVi C 64 (by decide) rfl rfl (c_X11_finds l G mu nu 2 (by decide)) wkX11_80 (by decide) rfl rfl (Nat.le_of_ble_eq_true rfl) dX11_lay_44 (fun r6 m6 n6 hp6 => ?_)
      refine m_ireti C hQ dX11_lay_47 ?_
      exact PM_find hz (by decide) hp6 (by unfold s_lay; rw [if_neg (by omega)]; simp only [hxe]; rw [if_neg (by omega)])
    replace hh2 := mt (ii_le (nn_i (a := 0) rfl (by omega)) (rfl : (mu 66 (ix r)).toInt = _)).mpr hh2
    refine m_aload_n C 0 dX11_lay_18 rfl ?_
    refine m_iconst C 1 dX11_lay_19 (by decide +kernel) ?_
    refine m_callVi C 64 (by decide) rfl rfl (c_X11_finds l G mu nu 1 (by decide)) wkX11_80 (by decide) rfl rfl (Nat.le_of_ble_eq_true rfl) dX11_lay_20 (fun r7 m7 n7 hp7 => ?_)
    refine m_ireti C hQ dX11_lay_23 ?_
    have hxe := za_none (hz.2.2.2.2.1 (ix r) (by omega)) (by decide) (by omega)
    exact PM_find hz (by decide) hp7 (by unfold s_lay; rw [if_neg (by omega)]; simp only [hxe])
  replace hh1 := bI_eq0.mp hh1
  refine m_iconst C (-1) dX11_lay_7 (by decide +kernel) ?_
  refine m_ireti C hQ dX11_lay_8 ?_
  exact PM_of (by unfold s_lay; rw [if_pos (by omega)]) hz zcm_rfl

set_option maxHeartbeats 4000000 in
set_option maxRecDepth 100000 in
theorem c_X11_put (l : Launch) (G : Gl) (mu : Mu) (nu : Nu) (z : Zt) (hz : ZM mu nu z) (r i v : Int32) : Ci l G mX11_put 3 [.ref (G.1 64), .int r, .int i, .int v] mu nu (PM mu nu (s_put z r i v)) := by
  refine Ct.of (lv := [(0, .ref (G.1 64)), (1, .int r), (2, .int i), (3, .int v)]) rfl rfl (Nat.le_of_ble_eq_true rfl) rfl (fun X C => ?_)
  generalize hQ : g_E G X _ = Q
  replace C : Cx G 5 X cX11_put RX11 (some .int) 3 := C
  show Mq l G 5 X Q 0 [(0, .ref (G.1 64)), (1, .int r), (2, .int i), (3, .int v)] [] mu nu
  refine m_iload_n C 1 dX11_put_0 rfl ?_
  refine m_callSf C (c_X11_isText l G mu nu r) wkX11_86 (by decide) rfl rfl (Nat.le_of_ble_eq_true rfl) dX11_put_1 ?_
  refine m_if_ne C 9 dX11_put_4 (by decide) (fun hh1 => ?_) (fun hh1 => ?_)
  · replace hh1 := bI_ne0.mp hh1
    obtain ⟨er, kr⟩ := ix_eq (x := r) (by omega)
    refine m_aload_n C 0 dX11_put_9 rfl ?_
    refine gfX11_19 C dX11_put_10 ?_
    refine m_iload_n C 1 dX11_put_13 rfl ?_
    refine m_topi (nI (ix r)) er ?_
    refine m_iald C 68 (by decide) sa_68 (ix r) rfl (by omega) (by decide) dX11_put_14 ?_
    refine m_if_ge C 24 dX11_put_15 (by decide) (fun hh2 => ?_) (fun hh2 => ?_)
    · replace hh2 := (ii_le (nn_i (a := 0) rfl (by omega)) (rfl : (mu 68 (ix r)).toInt = _)).mp hh2
      obtain ⟨xs, hxe, hx1, hx2, hx3⟩ := za_some (hz.2.2.2.2.2.1 (ix r) (by omega)) hh2
      refine m_iload_n C 2 dX11_put_24 rfl ?_
      refine m_i2l C dX11_put_25 ?_
      refine m_lconst C 0 dX11_put_26 rfl ?_
      refine m_aload_n C 0 dX11_put_27 rfl ?_
      refine gfX11_19 C dX11_put_28 ?_
      refine m_iload_n C 1 dX11_put_31 rfl ?_
      refine m_topi (nI (ix r)) er ?_
      refine m_iald C 68 (by decide) sa_68 (ix r) rfl (by omega) (by decide) dX11_put_32 ?_
      refine m_topi (nI xs.length) hx1 ?_
      refine m_iconst C 1 dX11_put_33 (by decide +kernel) ?_
      refine m_isub C dX11_put_34 ?_
      refine m_i2l C dX11_put_35 ?_
      refine m_callSf C (c_in (a := i.toInt) (b := ((0 : Nat) : Int)) (c := ((xs.length : Nat) : Int) - ((1 : Nat) : Int)) ((tl_i _).trans (rfl : (i).toInt = _)) (ln_i (a := 0) rfl (by omega)) ((tl_i _).trans (ii_sub (nn_i (a := xs.length) rfl (by omega)) (nn_i (a := 1) rfl (by omega)) (by omega) (by omega)))) wkX11_68 (by decide) rfl rfl (Nat.le_of_ble_eq_true rfl) dX11_put_36 ?_
      refine m_if_ne C 48 dX11_put_39 (by decide) (fun hh3 => ?_) (fun hh3 => ?_)
      · replace hh3 := bI_ne0.mp hh3
        obtain ⟨ei, ki⟩ := ix_eq (x := i) (by omega)
        refine m_aload_n C 0 dX11_put_48 rfl ?_
        refine gfX11_22 C dX11_put_49 ?_
        refine m_bipush C 60 dX11_put_52 (by decide +kernel) ?_
        refine m_iload_n C 1 dX11_put_54 rfl ?_
        refine m_topi (nI (ix r)) er ?_
        refine m_imul C dX11_put_55 ?_
        refine m_topi (nI (60 * (ix r))) (nn_mul rfl rfl) ?_
        refine m_iload_n C 2 dX11_put_56 rfl ?_
        refine m_topi (nI (ix i)) ei ?_
        refine m_iadd C dX11_put_57 ?_
        refine m_topi (nI ((60 * (ix r)) + (ix i))) (nn_add rfl rfl) ?_
        refine m_iald C 69 (by decide) sa_69 ((60 * (ix r)) + (ix i)) rfl (by omega) (by decide) dX11_put_58 ?_
        refine m_topi (xs.getD (ix i) 0) (hx3 _ (by omega)) ?_
        refine m_istore C [(4, .int (xs.getD (ix i) 0)), (0, .ref (G.1 64)), (1, .int r), (2, .int i), (3, .int v)] dX11_put_59 (by decide) rfl ?_
        refine m_aload_n C 1 dX11_put_61 rfl ?_
        refine gfX11_22 C dX11_put_62 ?_
        refine m_bipush C 60 dX11_put_65 (by decide +kernel) ?_
        refine m_iload_n C 2 dX11_put_67 rfl ?_
        refine m_topi (nI (ix r)) er ?_
        refine m_imul C dX11_put_68 ?_
        refine m_topi (nI (60 * (ix r))) (nn_mul rfl rfl) ?_
        refine m_iload_n C 3 dX11_put_69 rfl ?_
        refine m_topi (nI (ix i)) ei ?_
        refine m_iadd C dX11_put_70 ?_
        refine m_topi (nI ((60 * (ix r)) + (ix i))) (nn_add rfl rfl) ?_
        refine m_iload_n C 4 dX11_put_71 rfl ?_
        refine m_i2b C dX11_put_72 ?_
        refine m_iast C 69 (by decide) sa_69 ((60 * (ix r)) + (ix i)) rfl (by omega) (by decide) dX11_put_73 ?_
        refine m_nameM (fun mu4 emu4 => ?_)
        refine m_iload C 0 dX11_put_74 rfl ?_
        refine m_sipush C 1000 dX11_put_76 (by decide +kernel) ?_
        refine m_iadd C dX11_put_79 ?_
        refine m_ireti C hQ dX11_put_80 ?_
        have q1 := zm_text (x := some (xs.set (ix i) v.toInt8.toInt32)) (m := mu4) hz (r := ix r) (by omega) (fun c c1 c2 c3 c4 => by rw [emu4, mu_up_ne c4]) (fun t ht => by rw [emu4, mu_up_ne (by decide)]) (fun j hj => by rw [emu4, mu_up_an (by omega)]) (by rw [emu4]; exact zar_set ⟨hx1, hx2, hx3⟩ (by decide) (by omega))
        have q2 : z_cm mu nu mu4 nu := ⟨fun c hc => by rw [emu4, mu_up_ne (by omega)], fun _ _ => rfl⟩
        exact PM_of (by unfold s_put; rw [if_neg (by omega)]; simp only [hxe]; rw [if_pos (by omega)]) q1 q2
      replace hh3 := bI_eq0.mp hh3
      refine m_aload_n C 0 dX11_put_42 rfl ?_
      refine m_iconst C 2 dX11_put_43 (by decide +kernel) ?_
      refine m_callVi C 64 (by decide) rfl rfl (c_X11_finds l G mu nu 2 (by decide)) wkX11_80 (by decide) rfl rfl (Nat.le_of_ble_eq_true rfl) dX11_put_44 (fun r5 m5 n5 hp5 => ?_)
      refine m_ireti C hQ dX11_put_47 ?_
      exact PM_find hz (by decide) hp5 (by unfold s_put; rw [if_neg (by omega)]; simp only [hxe]; rw [if_neg (by omega)])
    replace hh2 := mt (ii_le (nn_i (a := 0) rfl (by omega)) (rfl : (mu 68 (ix r)).toInt = _)).mpr hh2
    refine m_aload_n C 0 dX11_put_18 rfl ?_
    refine m_iconst C 1 dX11_put_19 (by decide +kernel) ?_
    refine m_callVi C 64 (by decide) rfl rfl (c_X11_finds l G mu nu 1 (by decide)) wkX11_80 (by decide) rfl rfl (Nat.le_of_ble_eq_true rfl) dX11_put_20 (fun r6 m6 n6 hp6 => ?_)
    refine m_ireti C hQ dX11_put_23 ?_
    have hxe := za_none (hz.2.2.2.2.2.1 (ix r) (by omega)) (by decide) (by omega)
    exact PM_find hz (by decide) hp6 (by unfold s_put; rw [if_neg (by omega)]; simp only [hxe])
  replace hh1 := bI_eq0.mp hh1
  refine m_iconst C (-1) dX11_put_7 (by decide +kernel) ?_
  refine m_ireti C hQ dX11_put_8 ?_
  exact PM_of (by unfold s_put; rw [if_pos (by omega)]) hz zcm_rfl

set_option maxHeartbeats 4000000 in
set_option maxRecDepth 100000 in
theorem c_X11_tear (l : Launch) (G : Gl) (mu : Mu) (nu : Nu) (z : Zt) (hz : ZM mu nu z) (r : Int32) : Ci l G mX11_tear 3 [.ref (G.1 64), .int r] mu nu (PM mu nu (s_tear z r)) := by
  refine Ct.of (lv := [(0, .ref (G.1 64)), (1, .int r)]) rfl rfl (Nat.le_of_ble_eq_true rfl) rfl (fun X C => ?_)
  generalize hQ : g_E G X _ = Q
  replace C : Cx G 2 X cX11_tear RX11 (some .int) 3 := C
  show Mq l G 2 X Q 0 [(0, .ref (G.1 64)), (1, .int r)] [] mu nu
  refine m_iload_n C 1 dX11_tear_0 rfl ?_
  refine m_callSf C (c_X11_isRow l G mu nu r) wkX11_76 (by decide) rfl rfl (Nat.le_of_ble_eq_true rfl) dX11_tear_1 ?_
  refine m_if_ne C 9 dX11_tear_4 (by decide) (fun hh1 => ?_) (fun hh1 => ?_)
  · replace hh1 := bI_ne0.mp hh1
    obtain ⟨er, kr⟩ := ix_eq (x := r) (by omega)
    refine m_aload_n C 0 dX11_tear_9 rfl ?_
    refine gfX11_13 C dX11_tear_10 ?_
    refine m_iload_n C 1 dX11_tear_13 rfl ?_
    refine m_topi (nI (ix r)) er ?_
    refine m_iald C 66 (by decide) sa_66 (ix r) rfl (by omega) (by decide) dX11_tear_14 ?_
    refine m_if_ge C 24 dX11_tear_15 (by decide) (fun hh2 => ?_) (fun hh2 => ?_)
    · replace hh2 := (ii_le (nn_i (a := 0) rfl (by omega)) (rfl : (mu 66 (ix r)).toInt = _)).mp hh2
      obtain ⟨xs, hxe, hx1, hx2, hx3⟩ := za_some (hz.2.2.2.2.1 (ix r) (by omega)) hh2
      refine m_aload_n C 0 dX11_tear_24 rfl ?_
      refine gfX11_13 C dX11_tear_25 ?_
      refine m_iload_n C 1 dX11_tear_28 rfl ?_
      refine m_topi (nI (ix r)) er ?_
      refine m_iconst C (-1) dX11_tear_29 (by decide +kernel) ?_
      refine m_iast C 66 (by decide) sa_66 (ix r) rfl (by omega) (by decide) dX11_tear_30 ?_
      refine m_nameM (fun mu3 emu3 => ?_)
      refine m_iconst C 1 dX11_tear_31 (by decide +kernel) ?_
      refine m_ireti C hQ dX11_tear_32 ?_
      have q1 := zm_row (x := none) (m := mu3) hz (r := ix r) (by omega) (fun c c1 c2 c3 c4 => by rw [emu3, mu_up_ne c3]) (fun t ht => by rw [emu3, mu_up_an ht]) (fun j hj => by rw [emu3, mu_up_ne (by decide)]) (by show mu3 66 (ix r) = -1; rw [emu3, mu_up_at])
      exact PM_of (by unfold s_tear; rw [if_neg (by omega)]; simp only [hxe]) q1 ⟨fun c hc => by rw [emu3, mu_up_ne (by omega)], fun _ _ => rfl⟩
    replace hh2 := mt (ii_le (nn_i (a := 0) rfl (by omega)) (rfl : (mu 66 (ix r)).toInt = _)).mpr hh2
    refine m_aload_n C 0 dX11_tear_18 rfl ?_
    refine m_iconst C 1 dX11_tear_19 (by decide +kernel) ?_
    refine m_callVi C 64 (by decide) rfl rfl (c_X11_finds l G mu nu 1 (by decide)) wkX11_80 (by decide) rfl rfl (Nat.le_of_ble_eq_true rfl) dX11_tear_20 (fun r4 m4 n4 hp4 => ?_)
    refine m_ireti C hQ dX11_tear_23 ?_
    have hxe := za_none (hz.2.2.2.2.1 (ix r) (by omega)) (by decide) (by omega)
    exact PM_find hz (by decide) hp4 (by unfold s_tear; rw [if_neg (by omega)]; simp only [hxe])
  replace hh1 := bI_eq0.mp hh1
  refine m_iconst C (-1) dX11_tear_7 (by decide +kernel) ?_
  refine m_ireti C hQ dX11_tear_8 ?_
  exact PM_of (by unfold s_tear; rw [if_pos (by omega)]) hz zcm_rfl

set_option maxHeartbeats 4000000 in
set_option maxRecDepth 100000 in
theorem c_X11_mean (l : Launch) (G : Gl) (mu : Mu) (nu : Nu) (z : Zt) (hz : ZM mu nu z) (r : Int32) : Ci l G mX11_mean 3 [.ref (G.1 64), .int r] mu nu (PM mu nu (s_mean z r)) := by
  refine Ct.of (lv := [(0, .ref (G.1 64)), (1, .int r)]) rfl rfl (Nat.le_of_ble_eq_true rfl) rfl (fun X C => ?_)
  generalize hQ : g_E G X _ = Q
  replace C : Cx G 5 X cX11_mean RX11 (some .int) 3 := C
  show Mq l G 5 X Q 0 [(0, .ref (G.1 64)), (1, .int r)] [] mu nu
  refine m_iload_n C 1 dX11_mean_0 rfl ?_
  refine m_callSf C (c_X11_isRow l G mu nu r) wkX11_76 (by decide) rfl rfl (Nat.le_of_ble_eq_true rfl) dX11_mean_1 ?_
  refine m_if_ne C 9 dX11_mean_4 (by decide) (fun hh1 => ?_) (fun hh1 => ?_)
  · replace hh1 := bI_ne0.mp hh1
    obtain ⟨er, kr⟩ := ix_eq (x := r) (by omega)
    refine m_aload_n C 0 dX11_mean_9 rfl ?_
    refine gfX11_13 C dX11_mean_10 ?_
    refine m_iload_n C 1 dX11_mean_13 rfl ?_
    refine m_topi (nI (ix r)) er ?_
    refine m_iald C 66 (by decide) sa_66 (ix r) rfl (by omega) (by decide) dX11_mean_14 ?_
    refine m_if_ge C 24 dX11_mean_15 (by decide) (fun hh2 => ?_) (fun hh2 => ?_)
    · replace hh2 := (ii_le (nn_i (a := 0) rfl (by omega)) (rfl : (mu 66 (ix r)).toInt = _)).mp hh2
      obtain ⟨xs, hxe, hx1, hx2, hx3⟩ := za_some (hz.2.2.2.2.1 (ix r) (by omega)) hh2
      refine m_aload_n C 0 dX11_mean_24 rfl ?_
      refine gfX11_13 C dX11_mean_25 ?_
      refine m_iload_n C 1 dX11_mean_28 rfl ?_
      refine m_topi (nI (ix r)) er ?_
      refine m_iald C 66 (by decide) sa_66 (ix r) rfl (by omega) (by decide) dX11_mean_29 ?_
      refine m_topi (nI xs.length) hx1 ?_
      refine m_if_ne C 39 dX11_mean_30 (by decide) (fun hh3 => ?_) (fun hh3 => ?_)
      · replace hh3 := mt (ii_eq (nn_i (a := xs.length) rfl (by omega)) (nn_i (a := 0) rfl (by omega))).mpr hh3
        refine m_lconst C 0 dX11_mean_39 rfl ?_
        refine m_lstore_n C [(2, .long 0), (0, .ref (G.1 64)), (1, .int r)] dX11_mean_40 (by decide) rfl ?_
        refine m_iconst C 0 dX11_mean_41 (by decide +kernel) ?_
        refine m_istore C [(4, .int 0), (2, .long 0), (0, .ref (G.1 64)), (1, .int r)] dX11_mean_42 (by decide) rfl ?_
        have L44 : ∀ (fu : Nat) (k : Nat) (hk : k ≤ xs.length), xs.length - k < fu → Mq l G 5 X Q 44 [(0, .ref (G.1 64)), (1, .int r), (2, .long (s_sm xs k)), (4, .int (nI k))] [] mu nu := by
          intro fu
          induction fu with
          | zero => intro k hk hm; exact absurd hm (Nat.not_lt_zero _)
          | succ fu ih44 =>
            intro k hk hm
            refine m_iload C 3 dX11_mean_44 rfl ?_
            refine m_aload_n C 0 dX11_mean_46 rfl ?_
            refine gfX11_13 C dX11_mean_47 ?_
            refine m_iload_n C 1 dX11_mean_50 rfl ?_
            refine m_topi (nI (ix r)) er ?_
            refine m_iald C 66 (by decide) sa_66 (ix r) rfl (by omega) (by decide) dX11_mean_51 ?_
            refine m_topi (nI xs.length) hx1 ?_
            refine m_icmp_ge C 77 dX11_mean_52 (by decide) (fun hh4 => ?_) (fun hh4 => ?_)
            · replace hh4 := (ii_le (nn_i (a := xs.length) rfl (by omega)) (nn_i (a := k) rfl (by omega))).mp hh4
              refine m_aload_n C 0 dX11_mean_77 rfl ?_
              refine m_lload_n C 2 dX11_mean_78 rfl ?_
              refine m_aload_n C 0 dX11_mean_79 rfl ?_
              refine gfX11_13 C dX11_mean_80 ?_
              refine m_iload_n C 1 dX11_mean_83 rfl ?_
              refine m_topi (nI (ix r)) er ?_
              refine m_iald C 66 (by decide) sa_66 (ix r) rfl (by omega) (by decide) dX11_mean_84 ?_
              refine m_topi (nI xs.length) hx1 ?_
              refine m_i2l C dX11_mean_85 ?_
              refine m_topl (lN xs.length) (ln_i2l rfl (by omega)) ?_
              refine m_ldiv C dX11_mean_86 (ln_ne (by omega) (by omega)) ?_
              refine m_l2i C dX11_mean_87 ?_
              refine m_callVi C 64 (by decide) rfl rfl (c_X11_tells l G mu nu (((s_sm xs k) / (lN xs.length)).toInt32)) wkX11_83 (by decide) rfl rfl (Nat.le_of_ble_eq_true rfl) dX11_mean_88 (fun r5 m5 n5 hp5 => ?_)
              refine m_ireti C hQ dX11_mean_91 ?_
              have ek : k = xs.length := by omega
              subst ek
              exact PM_told hz zcm_rfl hp5 (by unfold s_mean; rw [if_neg (by omega)]; simp only [hxe]; rw [if_neg (by omega)])
            replace hh4 := mt (ii_le (nn_i (a := xs.length) rfl (by omega)) (nn_i (a := k) rfl (by omega))).mpr hh4
            refine m_lload_n C 2 dX11_mean_55 rfl ?_
            refine m_aload_n C 0 dX11_mean_56 rfl ?_
            refine gfX11_16 C dX11_mean_57 ?_
            refine m_bipush C 40 dX11_mean_60 (by decide +kernel) ?_
            refine m_iload_n C 1 dX11_mean_62 rfl ?_
            refine m_topi (nI (ix r)) er ?_
            refine m_imul C dX11_mean_63 ?_
            refine m_topi (nI (40 * (ix r))) (nn_mul rfl rfl) ?_
            refine m_iload C 3 dX11_mean_64 rfl ?_
            refine m_iadd C dX11_mean_66 ?_
            refine m_topi (nI ((40 * (ix r)) + k)) (nn_add rfl rfl) ?_
            refine m_iald C 67 (by decide) sa_67 ((40 * (ix r)) + k) rfl (by omega) (by decide) dX11_mean_67 ?_
            refine m_topi (xs.getD k 0) (hx3 _ (by omega)) ?_
            refine m_i2l C dX11_mean_68 ?_
            refine m_ladd C dX11_mean_69 ?_
            refine m_topl (s_sm xs (k + 1)) rfl ?_
            refine m_lstore_n C [(2, .long (s_sm xs (k + 1))), (0, .ref (G.1 64)), (1, .int r), (4, .int (nI k))] dX11_mean_70 (by decide) rfl ?_
            refine m_iinc C 3 (nI (k + 1)) [(4, .int (nI (k + 1))), (2, .long (s_sm xs (k + 1))), (0, .ref (G.1 64)), (1, .int r)] dX11_mean_71 rfl (nn_add rfl (show Int32.ofInt 1 = nI 1 from rfl)) (by decide) rfl ?_
            refine m_goto C 44 dX11_mean_74 (by decide) ?_
            exact m_sub [2, 3, 1, 0] rfl (ih44 (k + 1) (by omega) (by omega))
        exact m_sub [2, 3, 1, 0] rfl (L44 (_ + 1) 0 (Nat.zero_le _) (Nat.lt_succ_self _))
      replace hh3 := (ii_eq (nn_i (a := xs.length) rfl (by omega)) (nn_i (a := 0) rfl (by omega))).mp hh3
      refine m_aload_n C 0 dX11_mean_33 rfl ?_
      refine m_iconst C 4 dX11_mean_34 (by decide +kernel) ?_
      refine m_callVi C 64 (by decide) rfl rfl (c_X11_finds l G mu nu 4 (by decide)) wkX11_80 (by decide) rfl rfl (Nat.le_of_ble_eq_true rfl) dX11_mean_35 (fun r6 m6 n6 hp6 => ?_)
      refine m_ireti C hQ dX11_mean_38 ?_
      exact PM_find hz (by decide) hp6 (by unfold s_mean; rw [if_neg (by omega)]; simp only [hxe]; rw [if_pos (by omega)])
    replace hh2 := mt (ii_le (nn_i (a := 0) rfl (by omega)) (rfl : (mu 66 (ix r)).toInt = _)).mpr hh2
    refine m_aload_n C 0 dX11_mean_18 rfl ?_
    refine m_iconst C 1 dX11_mean_19 (by decide +kernel) ?_
    refine m_callVi C 64 (by decide) rfl rfl (c_X11_finds l G mu nu 1 (by decide)) wkX11_80 (by decide) rfl rfl (Nat.le_of_ble_eq_true rfl) dX11_mean_20 (fun r7 m7 n7 hp7 => ?_)
    refine m_ireti C hQ dX11_mean_23 ?_
    have hxe := za_none (hz.2.2.2.2.1 (ix r) (by omega)) (by decide) (by omega)
    exact PM_find hz (by decide) hp7 (by unfold s_mean; rw [if_neg (by omega)]; simp only [hxe])
  replace hh1 := bI_eq0.mp hh1
  refine m_iconst C (-1) dX11_mean_7 (by decide +kernel) ?_
  refine m_ireti C hQ dX11_mean_8 ?_
  exact PM_of (by unfold s_mean; rw [if_pos (by omega)]) hz zcm_rfl

set_option maxHeartbeats 4000000 in
set_option maxRecDepth 100000 in
theorem c_X11_asked (l : Launch) (G : Gl) (mu : Mu) (nu : Nu) (z : Zt) (hz : ZM mu nu z) : Ci l G mX11_asked 1 [.ref (G.1 64)] mu nu (PM mu nu ((z_ms z).1, z)) := by
  refine Ct.of (lv := [(0, .ref (G.1 64))]) rfl rfl (Nat.le_of_ble_eq_true rfl) rfl (fun X C => ?_)
  generalize hQ : g_E G X _ = Q
  replace C : Cx G 1 X cX11_asked RX11 (some .int) 1 := C
  show Mq l G 1 X Q 0 [(0, .ref (G.1 64))] [] mu nu
  refine m_aload_n C 0 dX11_asked_0 rfl ?_
  refine gfX11_60 C dX11_asked_1 ?_
  refine m_ireti C hQ dX11_asked_4 ?_
  exact PM_of (by rw [hz.2.2.2.2.2.2.1.1]) hz zcm_rfl

set_option maxHeartbeats 4000000 in
set_option maxRecDepth 100000 in
theorem c_X11_finding (l : Launch) (G : Gl) (mu : Mu) (nu : Nu) (z : Zt) (hz : ZM mu nu z) : Ci l G mX11_finding 1 [.ref (G.1 64)] mu nu (PM mu nu ((z_ms z).2.2.2.1, z)) := by
  refine Ct.of (lv := [(0, .ref (G.1 64))]) rfl rfl (Nat.le_of_ble_eq_true rfl) rfl (fun X C => ?_)
  generalize hQ : g_E G X _ = Q
  replace C : Cx G 1 X cX11_finding RX11 (some .int) 1 := C
  show Mq l G 1 X Q 0 [(0, .ref (G.1 64))] [] mu nu
  refine m_aload_n C 0 dX11_finding_0 rfl ?_
  refine gfX11_56 C dX11_finding_1 ?_
  refine m_ireti C hQ dX11_finding_4 ?_
  exact PM_of (by rw [hz.2.2.2.2.2.2.1.2.2.2.1]) hz zcm_rfl

set_option maxHeartbeats 4000000 in
set_option maxRecDepth 100000 in
theorem c_X11_upper (l : Launch) (G : Gl) (mu : Mu) (nu : Nu) (z : Zt) (hz : ZM mu nu z) : Cf l G mX11_upper 1 [.ref (G.1 64)] mu nu (.long (z_ms z).2.1) := by
  refine Ct.of (lv := [(0, .ref (G.1 64))]) rfl rfl (Nat.le_of_ble_eq_true rfl) rfl (fun X C => ?_)
  generalize hQ : g_E G X _ = Q
  replace C : Cx G 1 X cX11_upper RX11 (some .long) 1 := C
  show Mq l G 1 X Q 0 [(0, .ref (G.1 64))] [] mu nu
  refine m_aload_n C 0 dX11_upper_0 rfl ?_
  refine gfX11_63 C dX11_upper_1 ?_
  refine m_lretf C hQ dX11_upper_4 rfl rfl ?_
  exact hz.2.2.2.2.2.2.1.2.1

set_option maxHeartbeats 4000000 in
set_option maxRecDepth 100000 in
theorem c_X11_lower (l : Launch) (G : Gl) (mu : Mu) (nu : Nu) (z : Zt) (hz : ZM mu nu z) : Cf l G mX11_lower 1 [.ref (G.1 64)] mu nu (.long (z_ms z).2.2.1) := by
  refine Ct.of (lv := [(0, .ref (G.1 64))]) rfl rfl (Nat.le_of_ble_eq_true rfl) rfl (fun X C => ?_)
  generalize hQ : g_E G X _ = Q
  replace C : Cx G 1 X cX11_lower RX11 (some .long) 1 := C
  show Mq l G 1 X Q 0 [(0, .ref (G.1 64))] [] mu nu
  refine m_aload_n C 0 dX11_lower_0 rfl ?_
  refine gfX11_28 C dX11_lower_1 ?_
  refine m_lretf C hQ dX11_lower_4 rfl rfl ?_
  exact hz.2.2.2.2.2.2.1.2.2.1

set_option maxHeartbeats 4000000 in
set_option maxRecDepth 100000 in
theorem c_X11_findings (l : Launch) (G : Gl) (mu : Mu) (nu : Nu) (z : Zt) (hz : ZM mu nu z) (f : Int32) : Ci l G mX11_findings 2 [.ref (G.1 64), .int f] mu nu (PM mu nu (s_fds z f)) := by
  refine Ct.of (lv := [(0, .ref (G.1 64)), (1, .int f)]) rfl rfl (Nat.le_of_ble_eq_true rfl) rfl (fun X C => ?_)
  generalize hQ : g_E G X _ = Q
  replace C : Cx G 2 X cX11_findings RX11 (some .int) 2 := C
  show Mq l G 2 X Q 0 [(0, .ref (G.1 64)), (1, .int f)] [] mu nu
  refine m_iload_n C 1 dX11_findings_0 rfl ?_
  refine m_i2l C dX11_findings_1 ?_
  refine m_lconst C 1 dX11_findings_2 rfl ?_
  refine m_ldc2 C 5 wcX11_66 dX11_findings_3 ?_
  refine m_callSf C (c_in (a := f.toInt) (b := ((1 : Nat) : Int)) (c := ((5 : Nat) : Int)) ((tl_i _).trans (rfl : (f).toInt = _)) (ln_i (a := 1) rfl (by omega)) (ln_i (a := 5) rfl (by omega))) wkX11_68 (by decide) rfl rfl (Nat.le_of_ble_eq_true rfl) dX11_findings_6 ?_
  refine m_if_eq C 21 dX11_findings_9 (by decide) (fun hh1 => ?_) (fun hh1 => ?_)
  · replace hh1 := bI_eq0.mp hh1
    refine m_iconst C (-1) dX11_findings_21 (by decide +kernel) ?_
    refine m_ireti C hQ dX11_findings_22 ?_
    exact PM_of (by unfold s_fds; rw [if_pos (by omega)]) hz zcm_rfl
  replace hh1 := bI_ne0.mp hh1
  obtain ⟨ef, kf⟩ := ix_eq (x := f) (by omega)
  refine m_aload_n C 0 dX11_findings_12 rfl ?_
  refine gfX11_25 C dX11_findings_13 ?_
  refine m_iload_n C 1 dX11_findings_16 rfl ?_
  refine m_topi (nI (ix f)) ef ?_
  refine m_iald C 70 (by decide) sa_70 (ix f) rfl (by omega) (by decide) dX11_findings_17 ?_
  refine m_goto C 22 dX11_findings_18 (by decide) ?_
  refine m_ireti C hQ dX11_findings_22 ?_
  exact PM_of (by unfold s_fds; rw [if_neg (by omega), hz.2.2.2.2.2.2.1.2.2.2.2 (ix f) (by omega)]) hz zcm_rfl
