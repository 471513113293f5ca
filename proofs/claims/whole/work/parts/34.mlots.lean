def sumR (f : Nat → Nat) : Nat → Nat
  | 0 => 0
  | s + 1 => sumR f s + f s
theorem sumR_congr {f g : Nat → Nat} : ∀ n, (∀ s, s < n → f s = g s) → sumR f n = sumR g n
  | 0, _ => rfl
  | n + 1, h => by
    unfold sumR
    rw [sumR_congr n (fun s hs => h s (by omega)), h n (by omega)]
theorem sumR_front {f : Nat → Nat} : ∀ n, sumR f (n + 1) = f 0 + sumR (fun s => f (s + 1)) n
  | 0 => by simp [sumR]
  | n + 1 => by
    have h := sumR_front (f := f) n
    show sumR f (n + 1) + f (n + 1) = f 0 + (sumR (fun s => f (s + 1)) n + f (n + 1))
    rw [h]; omega
theorem sumR_rev : ∀ (n : Nat) (f : Nat → Nat), sumR (fun s => f (n - 1 - s)) n = sumR f n
  | 0, _ => rfl
  | n + 1, f => by
    rw [sumR_front (f := f)]
    have h := sumR_rev n (fun s => f (s + 1))
    show sumR (fun s => f (n + 1 - 1 - s)) n + f (n + 1 - 1 - n) = _
    rw [← h, show n + 1 - 1 - n = 0 by omega, Nat.add_comm]
    congr 1
    exact sumR_congr n (fun s hs => by show f _ = f _; congr 1; omega)
theorem sumR_split {f : Nat → Nat} (a : Nat) : ∀ b, sumR f (a + b) = sumR f a + sumR (fun s => f (a + s)) b
  | 0 => rfl
  | b + 1 => by
    show sumR f (a + b) + f (a + b) = sumR f a + (sumR (fun s => f (a + s)) b + f (a + b))
    rw [sumR_split a b]; omega
theorem sumR_add {f g : Nat → Nat} : ∀ n, sumR (fun s => f s + g s) n = sumR f n + sumR g n
  | 0 => rfl
  | n + 1 => by
    show sumR (fun s => f s + g s) n + (f n + g n) = sumR f n + f n + (sumR g n + g n)
    rw [sumR_add n]; omega
theorem sumR_mul {f : Nat → Nat} {c : Nat} : ∀ n, sumR (fun s => f s * c) n = sumR f n * c
  | 0 => by simp [sumR]
  | n + 1 => by
    show sumR (fun s => f s * c) n + f n * c = (sumR f n + f n) * c
    rw [sumR_mul n, Nat.add_mul]
theorem sumR_le {f : Nat → Nat} {c : Nat} : ∀ n, (∀ s, s < n → f s ≤ c) → sumR f n ≤ c * n
  | 0, _ => Nat.le_refl _
  | n + 1, h => by
    have h1 := sumR_le (f := f) (c := c) n (fun s hs => h s (by omega))
    have h2 := h n (by omega)
    show sumR f n + f n ≤ c * (n + 1)
    rw [Nat.mul_succ]; omega
theorem bit_c {m s k : Nat} (hs : s < 2 ^ m) (hk : k < m) : (2 ^ m - 1 - s) / 2 ^ k % 2 = 1 ↔ ¬ s / 2 ^ k % 2 = 1 := by
  have h := Nat.testBit_two_pow_sub_succ hs k
  rw [Nat.testBit_eq_decide_div_mod_eq, Nat.testBit_eq_decide_div_mod_eq, show 2 ^ m - (s + 1) = 2 ^ m - 1 - s by omega] at h
  simp only [hk, decide_true, Bool.true_and] at h
  have h2 := congrArg (fun b => b = true) h
  simp only [decide_eq_true_eq, Bool.not_eq_true'] at h2
  rw [h2]
  simp
theorem bit_hi {m s k : Nat} (hk : k < m) : (2 ^ m + s) / 2 ^ k % 2 = s / 2 ^ k % 2 := by
  have e : (2 : Nat) ^ m = 2 ^ k * (2 * 2 ^ (m - k - 1)) := by
    rw [← Nat.mul_assoc, Nat.mul_comm (2 ^ k) 2, Nat.mul_assoc, ← Nat.pow_add, show k + (m - k - 1) = m - 1 by omega, Nat.mul_comm, ← Nat.pow_succ, show (m - 1).succ = m by omega]
  rw [e, Nat.mul_add_div (Nat.pow_pos (by decide))]
  omega
theorem bit_top {m s : Nat} (hs : s < 2 ^ m) : (2 ^ m + s) / 2 ^ m % 2 = 1 := by
  have : (2 ^ m + s) / 2 ^ m = 1 := by
    rw [show 2 ^ m + s = 2 ^ m * 1 + s by omega, Nat.mul_add_div (Nat.pow_pos (by decide)), Nat.div_eq_of_lt hs]
  rw [this]
theorem bit_low {m s : Nat} (hs : s < 2 ^ m) : s / 2 ^ m % 2 = 0 := by rw [Nat.div_eq_of_lt hs]
theorem fr_sc {a b d : Nat} (hd : 0 < d) : (a * d) / Nat.gcd (a * d) (b * d) = a / Nat.gcd a b := by
  rw [Nat.gcd_mul_right, Nat.mul_div_mul_right _ _ hd]
theorem fr_eq {a b c d : Nat} (hb : 0 < b) (hd : 0 < d) (h : a * d = c * b) : a / Nat.gcd a b = c / Nat.gcd c d ∧ b / Nat.gcd a b = d / Nat.gcd c d := by
  have h1 := fr_sc (a := a) (b := b) hd
  have h2 := fr_sc (a := c) (b := d) hb
  have e : b * d = d * b := Nat.mul_comm b d
  refine ⟨by rw [← h1, ← h2, h, e], ?_⟩
  have k1 : b * d / Nat.gcd (a * d) (b * d) = b / Nat.gcd a b := by rw [Nat.gcd_mul_right, Nat.mul_div_mul_right _ _ hd]
  have k2 : d * b / Nat.gcd (c * b) (d * b) = d / Nat.gcd c d := by rw [Nat.gcd_mul_right, Nat.mul_div_mul_right _ _ hb]
  rw [← k1, ← k2, h, e]
/-- the weight of those that fell out, of 12 each -/
def s_wx (set p : Nat) : Nat → Nat
  | 0 => 1
  | k + 1 => s_wx set p k * (if set / 2 ^ k % 2 = 1 then p else 12 - p)
theorem wx_c {m s p : Nat} (hs : s < 2 ^ m) : ∀ k, k ≤ m → s_wx s p k = s_wt (2 ^ m - 1 - s) p k
  | 0, _ => rfl
  | k + 1, hk => by
    unfold s_wx s_wt
    rw [wx_c hs k (by omega)]
    by_cases h : s / 2 ^ k % 2 = 1
    · rw [if_pos h, if_neg (fun q => (bit_c hs (by omega)).mp q h)]
    · rw [if_neg h, if_pos ((bit_c hs (by omega)).mpr h)]
theorem rx_c {V : Vw} {n m s : Nat} (hs : s < 2 ^ m) : ∀ k, k ≤ m → v_rx V n s k = v_rl V n (2 ^ m - 1 - s) k
  | 0, _ => rfl
  | k + 1, hk => by
    unfold v_rx v_rl
    rw [rx_c hs k (by omega)]
    by_cases h : s / 2 ^ k % 2 = 1
    · rw [if_pos h, if_neg (fun q => (bit_c hs (by omega)).mp q h)]
    · rw [if_neg h, if_pos ((bit_c hs (by omega)).mpr h)]
theorem wx_hi {m s p : Nat} : ∀ k, k ≤ m → s_wx (2 ^ m + s) p k = s_wx s p k
  | 0, _ => rfl
  | k + 1, hk => by
    unfold s_wx
    rw [wx_hi k (by omega), bit_hi (by omega)]
theorem rx_hi {V : Vw} {n m s : Nat} : ∀ k, k ≤ m → v_rx V n (2 ^ m + s) k = v_rx V n s k
  | 0, _ => rfl
  | k + 1, hk => by
    unfold v_rx
    rw [rx_hi k (by omega), bit_hi (by omega)]
theorem wx_sum {p : Nat} (hp : p ≤ 12) : ∀ m, sumR (fun s => s_wx s p m) (2 ^ m) = 12 ^ m
  | 0 => rfl
  | m + 1 => by
    have ih := wx_sum hp m
    rw [show 2 ^ (m + 1) = 2 ^ m + 2 ^ m by rw [Nat.pow_succ]; omega, sumR_split]
    rw [sumR_congr (g := fun s => s_wx s p m * (12 - p)) (2 ^ m) (fun s hs => by show s_wx s p m * _ = _; rw [if_neg (by rw [bit_low hs]; decide)])]
    rw [sumR_congr (f := fun s => s_wx (2 ^ m + s) p (m + 1)) (g := fun s => s_wx s p m * p) (2 ^ m) (fun s hs => by show s_wx (2 ^ m + s) p m * _ = _; rw [wx_hi m (Nat.le_refl _), if_pos (bit_top hs)])]
    rw [sumR_mul, sumR_mul, ih, ← Nat.mul_add, show 12 - p + p = 12 by omega, Nat.pow_succ]
theorem mid_sum {V : Vw} {n p : Nat} (hp : p ≤ 12) : ∀ m, sumR (fun s => s_wx s p m * v_rx V n s m) (2 ^ m) * 12 = v_rd V n m * (12 - p) * 12 ^ m
  | 0 => by simp [sumR, v_rx, v_rd]
  | m + 1 => by
    have ih := mid_sum (V := V) (n := n) hp m
    have hw := wx_sum hp m
    rw [show 2 ^ (m + 1) = 2 ^ m + 2 ^ m by rw [Nat.pow_succ]; omega, sumR_split]
    rw [sumR_congr (g := fun s => s_wx s p m * v_rx V n s m * (10 * (12 - p)) + s_wx s p m * (v_sh V (v_fr V m) n * (12 - p))) (2 ^ m) (fun s hs => by
      show s_wx s p m * _ * (10 * v_rx V n s m + _) = _
      rw [if_neg (by rw [bit_low hs]; decide), if_neg (by rw [bit_low hs]; decide)]
      generalize s_wx s p m = a
      generalize v_rx V n s m = b
      generalize v_sh V (v_fr V m) n = c
      generalize 12 - p = q
      rw [Nat.mul_add, Nat.mul_assoc a b (10 * q), Nat.mul_assoc a q (10 * b), Nat.mul_assoc a q c, Nat.mul_comm q c, Nat.mul_comm b (10 * q), Nat.mul_assoc 10 q b, Nat.mul_left_comm q 10 b])]
    rw [sumR_congr (f := fun s => s_wx (2 ^ m + s) p (m + 1) * v_rx V n (2 ^ m + s) (m + 1)) (g := fun s => s_wx s p m * v_rx V n s m * (10 * p)) (2 ^ m) (fun s hs => by
      show s_wx (2 ^ m + s) p m * _ * (10 * v_rx V n (2 ^ m + s) m + _) = _
      rw [wx_hi m (Nat.le_refl _), rx_hi m (Nat.le_refl _), if_pos (bit_top hs), if_pos (bit_top hs), Nat.add_zero]
      generalize s_wx s p m = a
      generalize v_rx V n s m = b
      rw [Nat.mul_assoc a b (10 * p), Nat.mul_assoc a p (10 * b), Nat.mul_comm b (10 * p), Nat.mul_assoc 10 p b, Nat.mul_left_comm p 10 b])]
    rw [sumR_add, sumR_mul, sumR_mul, sumR_mul, hw]
    show _ = (10 * v_rd V n m + v_sh V (v_fr V m) n) * (12 - p) * 12 ^ (m + 1)
    generalize sumR (fun s => s_wx s p m * v_rx V n s m) (2 ^ m) = S at ih
    generalize v_rd V n m = r at ih
    generalize v_sh V (v_fr V m) n = c
    rw [Nat.pow_succ]
    generalize (12 : Nat) ^ m = t at ih
    obtain ⟨q, hq⟩ : ∃ q, q = 12 - p := ⟨_, rfl⟩
    have hpq : p = 12 - q := by omega
    have hq12 : q ≤ 12 := by omega
    rw [← hq] at ih ⊢
    have e1 : S * (10 * q) + S * (10 * p) = S * 120 := by rw [← Nat.mul_add]; congr 1; omega
    have e2 : (S * (10 * q) + t * (c * q) + S * (10 * p)) * 12 = 10 * 12 * (S * 12) + 12 * (t * (c * q)) := by
      have : S * (10 * q) + t * (c * q) + S * (10 * p) = S * 120 + t * (c * q) := by omega
      rw [this]; omega
    rw [e2, ih, Nat.add_mul, Nat.add_mul]
    have e3 : 10 * r * q * (t * 12) = 10 * 12 * (r * q * t) := by
      rw [Nat.mul_assoc 10 r q, Nat.mul_assoc 10 (r * q) (t * 12), ← Nat.mul_assoc (r * q) t 12, Nat.mul_comm (r * q * t) 12, ← Nat.mul_assoc]
    have e4 : c * q * (t * 12) = 12 * (t * (c * q)) := by
      rw [← Nat.mul_assoc (c * q) t 12, Nat.mul_comm (c * q * t) 12, Nat.mul_comm (c * q) t]
    rw [e3, e4]
theorem s_wx_le {set p : Nat} (hp : p ≤ 12) : ∀ k, s_wx set p k ≤ 12 ^ k
  | 0 => Nat.le_refl _
  | k + 1 => by
    have h := s_wx_le (set := set) hp k
    unfold s_wx
    rw [Nat.pow_succ]
    exact Nat.mul_le_mul h (by split <;> omega)
theorem v_rxb {V : Vw} (h : v_wf V) {n : Nat} (hn : n ≤ 9) {s : Nat} (hs : s < 2 ^ v_m V) : v_rx V n s (v_m V) ≤ 90000000 := by
  rw [rx_c hs _ (Nat.le_refl _)]
  exact v_rlb h hn _
def v_et (V : Vw) (n p s : Nat) : Nat := if v_rt V (v_m V) * n ≤ 2 * v_rx V n s (v_m V) then s_wx s p (v_m V) else 0
def v_ex (V : Vw) (n p : Nat) : Nat → Nat
  | 0 => 0
  | s + 1 => v_ex V n p s + (if v_rt V (v_m V) * n ≤ 2 * v_rx V n s (v_m V) then s_wx s p (v_m V) else 0)
def v_mx (V : Vw) (n p : Nat) : Nat → Nat
  | 0 => 0
  | s + 1 => v_mx V n p s + s_wx s p (v_m V) * v_rx V n s (v_m V)
theorem v_ex_sum {V : Vw} {n p : Nat} : ∀ s, v_ex V n p s = sumR (fun s => if v_rt V (v_m V) * n ≤ 2 * v_rx V n s (v_m V) then s_wx s p (v_m V) else 0) s
  | 0 => rfl
  | s + 1 => by
    unfold v_ex sumR
    rw [v_ex_sum s]
theorem v_mx_sum {V : Vw} {n p : Nat} : ∀ s, v_mx V n p s = sumR (fun s => s_wx s p (v_m V) * v_rx V n s (v_m V)) s
  | 0 => rfl
  | s + 1 => by
    unfold v_mx sumR
    rw [v_mx_sum s]
theorem v_en_sum {V : Vw} {n p : Nat} : ∀ s, v_en V n p s = sumR (fun s => if v_rt V (v_m V) * n ≤ 2 * v_rl V n s (v_m V) then s_wt s p (v_m V) else 0) s
  | 0 => rfl
  | s + 1 => by
    unfold v_en sumR
    rw [v_en_sum s]
theorem v_ex_en {V : Vw} {n p : Nat} : v_ex V n p (2 ^ v_m V) = v_en V n p (2 ^ v_m V) := by
  rw [v_ex_sum, v_en_sum, ← sumR_rev]
  exact (sumR_congr _ (fun s hs => by
    have hs2 : 2 ^ v_m V - 1 - s < 2 ^ v_m V := by omega
    show (if v_rt V (v_m V) * n ≤ 2 * v_rx V n (2 ^ v_m V - 1 - s) (v_m V) then s_wx (2 ^ v_m V - 1 - s) p (v_m V) else 0) = _
    rw [rx_c hs2 _ (Nat.le_refl _), wx_c hs2 _ (Nat.le_refl _), show 2 ^ v_m V - 1 - (2 ^ v_m V - 1 - s) = s by omega]))
theorem v_ex_le {V : Vw} {n p : Nat} (hm : v_m V ≤ 7) (hp : p ≤ 12) (s : Nat) : v_ex V n p s ≤ 35831808 * s := by
  rw [v_ex_sum]
  refine sumR_le s (fun t _ => ?_)
  have h2 := s_wx_le (set := t) hp (v_m V)
  have h3 := p12_7 hm
  split <;> omega
theorem v_mx_le {V : Vw} (h : v_wf V) {n p : Nat} (hn : n ≤ 9) (hp : p ≤ 12) {s : Nat} (hs : s ≤ 2 ^ v_m V) : v_mx V n p s ≤ 35831808 * 90000000 * s := by
  rw [v_mx_sum]
  refine sumR_le s (fun t ht => ?_)
  have h2 := s_wx_le (set := t) hp (v_m V)
  have h3 := p12_7 h.2.2.1
  exact Nat.mul_le_mul (by omega) (v_rxb h hn (by omega))
theorem mid_fr {V : Vw} {n p : Nat} (hp : p ≤ 12) (z : Zt) : s_fr z (v_mx V n p (2 ^ v_m V)) (12 ^ v_m V) = s_fr z (v_rd V n (v_m V) * (12 - p)) 12 := by
  have h := mid_sum (V := V) (n := n) hp (v_m V)
  rw [← v_mx_sum] at h
  obtain ⟨e1, e2⟩ := fr_eq (a := v_mx V n p (2 ^ v_m V)) (b := 12 ^ v_m V) (c := v_rd V n (v_m V) * (12 - p)) (d := 12) (Nat.pow_pos (by decide)) (by decide) h
  unfold s_fr
  rw [e1, e2]
theorem PM_frac {mu m : Mu} {nu n2 : Nu} {z : Zt} {r : Int32} {o : Int32 × Zt} {x y : Int64} (h : ZM mu nu z) (hp : r = 1 ∧ m = mu ∧ n2 = nu_up (nu_up nu 64 8 x) 64 9 y) (e : o = (1, u_frac z x y)) : PM mu nu o r m n2 := by
  obtain ⟨rfl, rfl, rfl⟩ := hp
  obtain ⟨h1, h2, h3, h4, h5, h6, ⟨a1, a2, a3, a4, a5⟩, h8⟩ := h
  exact PM_of e ⟨h1, h2, h3, h4, h5, h6, ⟨a1, by rw [nu_up_a (by decide), nu_up_at]; rfl, nu_up_at, a4, a5⟩, h8⟩ ⟨fun _ _ => rfl, fun c hc => by rw [nu_up_ne (by omega), nu_up_ne (by omega)]⟩
set_option maxHeartbeats 4000000 in
set_option maxRecDepth 100000 in
theorem c_X11_tellsPart (l : Launch) (G : Gl) (mu : Mu) (nu : Nu) (a b : Nat) (ha : a < 2 ^ 62) (hb : b < 2 ^ 62) (hb0 : 0 < b) : Ci l G mX11_tellsPart 1 [.ref (G.1 64), .long (lN a), .long (lN b)] mu nu (fun r m n2 => r = 1 ∧ m = mu ∧ n2 = nu_up (nu_up nu 64 8 (lN (a / Nat.gcd a b))) 64 9 (lN (b / Nat.gcd a b))) := by
  have hg0 : 0 < Nat.gcd a b := Nat.gcd_pos_of_pos_right _ hb0
  have hg1 : Nat.gcd a b ≤ b := Nat.gcd_le_right _ hb0
  refine Ct.of (lv := [(0, .ref (G.1 64)), (1, .long (lN a)), (3, .long (lN b))]) rfl rfl (Nat.le_of_ble_eq_true rfl) rfl (fun X C => ?_)
  generalize hQ : g_E G X _ = Q
  replace C : Cx G 11 X cX11_tellsPart RX11 (some .int) 1 := C
  show Mq l G 11 X Q 0 [(0, .ref (G.1 64)), (1, .long (lN a)), (3, .long (lN b))] [] mu nu
  refine m_lload_n C 1 dX11_tellsPart_0 rfl ?_
  refine m_lstore C [(5, .long (lN a)), (0, .ref (G.1 64)), (1, .long (lN a)), (3, .long (lN b))] dX11_tellsPart_1 (by decide) rfl ?_
  refine m_lload_n C 3 dX11_tellsPart_3 rfl ?_
  refine m_lstore C [(7, .long (lN b)), (5, .long (lN a)), (0, .ref (G.1 64)), (1, .long (lN a)), (3, .long (lN b))] dX11_tellsPart_4 (by decide) rfl ?_
  have L6 : ∀ (fu : Nat) (x y : Nat) (hx : x < 2 ^ 62) (hy : y < 2 ^ 62) (hg : Nat.gcd x y = Nat.gcd a b), y < fu → Mq l G 11 X Q 6 [(0, .ref (G.1 64)), (1, .long (lN a)), (3, .long (lN b)), (5, .long (lN x)), (7, .long (lN y))] [] mu nu := by
    intro fu
    induction fu with
    | zero => intro x y hx hy hg hm; exact absurd hm (Nat.not_lt_zero _)
    | succ fu ih6 =>
      intro x y hx hy hg hm
      refine m_lload C 4 dX11_tellsPart_6 rfl ?_
      refine m_lconst C 0 dX11_tellsPart_8 rfl ?_
      refine m_lcmp C dX11_tellsPart_9 ?_
      refine m_if_eq C 31 dX11_tellsPart_10 (by decide) (fun hh1 => ?_) (fun hh1 => ?_)
      · replace hh1 := ((lg_cmp_eq _ _).trans (ll_eq (ln_i (a := y) rfl (by omega)) (ln_i (a := 0) rfl (by omega)))).mp hh1
        have ey : y = 0 := by omega
        rw [ey, Nat.gcd_zero_right] at hg
        rw [hg]
        refine m_aload_n C 0 dX11_tellsPart_31 rfl ?_
        refine m_lload_n C 1 dX11_tellsPart_32 rfl ?_
        refine m_lload C 3 dX11_tellsPart_33 rfl ?_
        refine m_ldiv C dX11_tellsPart_35 (ln_ne hg0 (by omega)) ?_
        refine m_topl (lN (a / (Nat.gcd a b))) (ln_div rfl rfl (by omega) (by omega) (by omega)) ?_
        refine pfX11_63 C dX11_tellsPart_36 ?_
        refine m_aload_n C 0 dX11_tellsPart_39 rfl ?_
        refine m_lload_n C 2 dX11_tellsPart_40 rfl ?_
        refine m_lload C 3 dX11_tellsPart_41 rfl ?_
        refine m_ldiv C dX11_tellsPart_43 (ln_ne hg0 (by omega)) ?_
        refine m_topl (lN (b / (Nat.gcd a b))) (ln_div rfl rfl (by omega) (by omega) (by omega)) ?_
        refine pfX11_28 C dX11_tellsPart_44 ?_
        refine m_iconst C 1 dX11_tellsPart_47 (by decide +kernel) ?_
        refine m_ireti C hQ dX11_tellsPart_48 ?_
        exact ⟨rfl, rfl, rfl⟩
      replace hh1 := mt ((lg_cmp_eq _ _).trans (ll_eq (ln_i (a := y) rfl (by omega)) (ln_i (a := 0) rfl (by omega)))).mpr hh1
      have hy0 : 0 < y := by omega
      have hxy := Nat.mod_lt x hy0
      refine m_lload C 3 dX11_tellsPart_13 rfl ?_
      refine m_lload C 4 dX11_tellsPart_15 rfl ?_
      refine m_lrem C dX11_tellsPart_17 (ln_ne hy0 (by omega)) ?_
      refine m_topl (lN (x % y)) (ln_rem rfl rfl (by omega) (by omega) (by omega)) ?_
      refine m_lstore C [(9, .long (lN (x % y))), (0, .ref (G.1 64)), (1, .long (lN a)), (3, .long (lN b)), (5, .long (lN x)), (7, .long (lN y))] dX11_tellsPart_18 (by decide) rfl ?_
      refine m_lload C 5 dX11_tellsPart_20 rfl ?_
      refine m_lstore C [(5, .long (lN y)), (9, .long (lN (x % y))), (0, .ref (G.1 64)), (1, .long (lN a)), (3, .long (lN b)), (7, .long (lN y))] dX11_tellsPart_22 (by decide) rfl ?_
      refine m_lload C 1 dX11_tellsPart_24 rfl ?_
      refine m_lstore C [(7, .long (lN (x % y))), (5, .long (lN y)), (9, .long (lN (x % y))), (0, .ref (G.1 64)), (1, .long (lN a)), (3, .long (lN b))] dX11_tellsPart_26 (by decide) rfl ?_
      refine m_goto C 6 dX11_tellsPart_28 (by decide) ?_
      exact m_sub [3, 4, 5, 1, 0] rfl (ih6 y (x % y) hy (Nat.lt_of_le_of_lt (Nat.mod_le _ _) hx) (by rw [← hg, Nat.gcd_comm x y, Nat.gcd_rec y x, Nat.gcd_comm]) (by omega))
  exact m_sub [2, 3, 4, 1, 0] rfl (L6 (_ + 1) a b ha hb rfl (Nat.lt_succ_self _))

set_option maxHeartbeats 4000000 in
set_option maxRecDepth 100000 in
theorem c_X11_chance_1 (l : Launch) (G : Gl) (mu : Mu) (nu : Nu) (z : Zt) (hz : ZM mu nu z) (n p : Int32) : Ci l G mX11_chance 8 [.ref (G.1 64), .int n, .int p, .int 1] mu nu (PM mu nu (s_odds z n p)) := by
  have hv : zm mu (z_V z) := zm_v hz
  have hw := hv.1
  have hN7 := hw.1
  have hm7 := hw.2.2.1
  have ho8 := hw.2.2.2.2
  have hcz : ((v_N (z_V z) : Nat) : Int) = ((z_N z : Nat) : Int) := rfl
  have hp2 := p2_7 hm7
  have hp12 := p12_7 hm7
  refine Ct.of (lv := [(0, .ref (G.1 64)), (1, .int n), (2, .int p), (3, .int 1)]) rfl rfl (Nat.le_of_ble_eq_true rfl) rfl (fun X C => ?_)
  generalize hQ : g_E G X _ = Q
  replace C : Cx G 13 X cX11_chance RX11 (some .int) 8 := C
  show Mq l G 13 X Q 0 [(0, .ref (G.1 64)), (1, .int n), (2, .int p), (3, .int 1)] [] mu nu
  refine m_iload_n C 1 dX11_chance_0 rfl ?_
  refine m_callSf C (c_X11_isLine l G mu nu n) wkX11_151 (by decide) rfl rfl (Nat.le_of_ble_eq_true rfl) dX11_chance_1 ?_
  refine m_if_eq C 19 dX11_chance_4 (by decide) (fun hh1 => ?_) (fun hh1 => ?_)
  · replace hh1 := bI_eq0.mp hh1
    refine m_iconst C (-1) dX11_chance_19 (by decide +kernel) ?_
    refine m_ireti C hQ dX11_chance_20 ?_
    exact PM_of (by unfold s_odds; rw [if_pos (by omega)]) hz zcm_rfl
  replace hh1 := bI_ne0.mp hh1
  refine m_iload_n C 2 dX11_chance_7 rfl ?_
  refine m_i2l C dX11_chance_8 ?_
  refine m_lconst C 0 dX11_chance_9 rfl ?_
  refine m_ldc2 C 12 wcX11_212 dX11_chance_10 ?_
  refine m_callSf C (c_in (a := p.toInt) (b := ((0 : Nat) : Int)) (c := ((12 : Nat) : Int)) ((tl_i _).trans (rfl : (p).toInt = _)) (ln_i (a := 0) rfl (by omega)) (ln_i (a := 12) rfl (by omega))) wkX11_68 (by decide) rfl rfl (Nat.le_of_ble_eq_true rfl) dX11_chance_13 ?_
  refine m_if_ne C 21 dX11_chance_16 (by decide) (fun hh2 => ?_) (fun hh2 => ?_)
  · replace hh2 := bI_ne0.mp hh2
    obtain ⟨en, kn⟩ := ix_eq (x := n) (by omega)
    obtain ⟨ep, kp⟩ := ix_eq (x := p) (by omega)
    have hrt := v_rtb hw (n := ix n) (by omega)
    have hex := v_ex_le (V := z_V z) (n := ix n) (p := ix p) hm7 (by omega) (2 ^ v_m (z_V z))
    refine m_aload_n C 0 dX11_chance_21 rfl ?_
    refine gfX11_7 C dX11_chance_22 ?_
    refine m_iconst C 0 dX11_chance_25 (by decide +kernel) ?_
    refine m_iald C 65 (by decide) sa_65 0 rfl (by omega) (by decide) dX11_chance_26 ?_
    refine m_topi (nI (z_N z)) hv.2.1 ?_
    refine m_if_ne C 33 dX11_chance_27 (by decide) (fun hh3 => ?_) (fun hh3 => ?_)
    · replace hh3 := mt (ii_eq (nn_i (a := z_N z) rfl (by omega)) (nn_i (a := 0) rfl (by omega))).mpr hh3
      refine m_lconst C 0 dX11_chance_33 rfl ?_
      refine m_lstore C [(4, .long 0), (0, .ref (G.1 64)), (1, .int n), (2, .int p), (3, .int 1)] dX11_chance_34 (by decide) rfl ?_
      refine m_lconst C 1 dX11_chance_36 rfl ?_
      refine m_lstore C [(6, .long 1), (4, .long 0), (0, .ref (G.1 64)), (1, .int n), (2, .int p), (3, .int 1)] dX11_chance_37 (by decide) rfl ?_
      refine m_iconst C 0 dX11_chance_39 (by decide +kernel) ?_
      refine m_istore C [(8, .int 0), (6, .long 1), (4, .long 0), (0, .ref (G.1 64)), (1, .int n), (2, .int p), (3, .int 1)] dX11_chance_40 (by decide) rfl ?_
      have L42 : ∀ (fu : Nat) (k : Nat) (hk : k ≤ v_m (z_V z)), v_m (z_V z) - k < fu → Mq l G 13 X Q 42 [(0, .ref (G.1 64)), (1, .int n), (2, .int p), (3, .int 1), (4, .long 0), (6, .long (lN (12 ^ k))), (8, .int (nI k))] [] mu nu := by
        intro fu
        induction fu with
        | zero => intro k hk hm; exact absurd hm (Nat.not_lt_zero _)
        | succ fu ih42 =>
          intro k hk hm
          refine m_iload C 6 dX11_chance_42 rfl ?_
          refine m_aload_n C 0 dX11_chance_44 rfl ?_
          refine gfX11_7 C dX11_chance_45 ?_
          refine m_iconst C 1 dX11_chance_48 (by decide +kernel) ?_
          refine m_iald C 65 (by decide) sa_65 1 rfl (by omega) (by decide) dX11_chance_49 ?_
          refine m_topi (nI (v_m (z_V z))) hv.2.2.1 ?_
          refine m_icmp_ge C 67 dX11_chance_50 (by decide) (fun hh4 => ?_) (fun hh4 => ?_)
          · replace hh4 := (ii_le (nn_i (a := v_m (z_V z)) rfl (by omega)) (nn_i (a := k) rfl (by omega))).mp hh4
            have ek : k = v_m (z_V z) := by omega
            rw [ek]
            refine m_iconst C 0 dX11_chance_67 (by decide +kernel) ?_
            refine m_istore C [(8, .int 0), (0, .ref (G.1 64)), (1, .int n), (2, .int p), (3, .int 1), (4, .long 0), (6, .long (lN (12 ^ v_m (z_V z))))] dX11_chance_68 (by decide) rfl ?_
            have L70 : ∀ (fu : Nat) (s : Nat) (hs : s ≤ 2 ^ v_m (z_V z)), 2 ^ v_m (z_V z) - s < fu → Mq l G 13 X Q 70 [(0, .ref (G.1 64)), (1, .int n), (2, .int p), (3, .int 1), (4, .long (lN (v_ex (z_V z) (ix n) (ix p) s))), (6, .long (lN (12 ^ v_m (z_V z)))), (8, .int (nI s))] [] mu nu := by
              intro fu
              induction fu with
              | zero => intro s hs hm; exact absurd hm (Nat.not_lt_zero _)
              | succ fu ih70 =>
                intro s hs hm
                refine m_iload C 6 dX11_chance_70 rfl ?_
                refine m_iconst C 1 dX11_chance_72 (by decide +kernel) ?_
                refine m_aload_n C 0 dX11_chance_73 rfl ?_
                refine gfX11_7 C dX11_chance_74 ?_
                refine m_iconst C 1 dX11_chance_77 (by decide +kernel) ?_
                refine m_iald C 65 (by decide) sa_65 1 rfl (by omega) (by decide) dX11_chance_78 ?_
                refine m_topi (nI (v_m (z_V z))) hv.2.2.1 ?_
                refine m_ishl C dX11_chance_79 ?_
                refine m_topi (nI (2 ^ (v_m (z_V z)))) (nn_shl1 rfl (by omega)) ?_
                refine m_icmp_ge C 186 dX11_chance_80 (by decide) (fun hh5 => ?_) (fun hh5 => ?_)
                · replace hh5 := (ii_le (nn_i (a := 2 ^ (v_m (z_V z))) rfl (by omega)) (nn_i (a := s) rfl (by omega))).mp hh5
                  have es : s = 2 ^ v_m (z_V z) := by omega
                  rw [es]
                  refine m_aload_n C 0 dX11_chance_186 rfl ?_
                  refine m_lload C 4 dX11_chance_187 rfl ?_
                  refine m_lload C 5 dX11_chance_189 rfl ?_
                  refine m_callVi C 64 (by decide) rfl rfl (c_X11_tellsPart l G mu nu (v_ex (z_V z) (ix n) (ix p) (2 ^ v_m (z_V z))) (12 ^ v_m (z_V z)) (by omega) (by omega) (Nat.pow_pos (by decide))) wkX11_217 (by decide) rfl rfl (Nat.le_of_ble_eq_true rfl) dX11_chance_191 (fun r6 m6 n6 hp6 => ?_)
                  refine m_ireti C hQ dX11_chance_194 ?_
                  exact PM_frac hz hp6 (by unfold s_odds; rw [if_neg (by omega), if_neg (by omega)]; rw [← v_ex_en]; rfl)
                replace hh5 := mt (ii_le (nn_i (a := 2 ^ (v_m (z_V z))) rfl (by omega)) (nn_i (a := s) rfl (by omega))).mpr hh5
                have hrx := v_rxb hw (n := ix n) (by omega) (s := s) (by omega)
                refine m_lconst C 1 dX11_chance_83 rfl ?_
                refine m_lstore C [(9, .long 1), (0, .ref (G.1 64)), (1, .int n), (2, .int p), (3, .int 1), (4, .long (lN (v_ex (z_V z) (ix n) (ix p) s))), (6, .long (lN (12 ^ v_m (z_V z)))), (8, .int (nI s))] dX11_chance_84 (by decide) rfl ?_
                refine m_iconst C 0 dX11_chance_86 (by decide +kernel) ?_
                refine m_istore C [(11, .int 0), (9, .long 1), (0, .ref (G.1 64)), (1, .int n), (2, .int p), (3, .int 1), (4, .long (lN (v_ex (z_V z) (ix n) (ix p) s))), (6, .long (lN (12 ^ v_m (z_V z)))), (8, .int (nI s))] dX11_chance_87 (by decide) rfl ?_
                have L89 : ∀ (fu : Nat) (q : Nat) (hq : q ≤ v_m (z_V z)), v_m (z_V z) - q < fu → Mq l G 13 X Q 89 [(0, .ref (G.1 64)), (1, .int n), (2, .int p), (3, .int 1), (4, .long (lN (v_ex (z_V z) (ix n) (ix p) s))), (6, .long (lN (12 ^ v_m (z_V z)))), (8, .int (nI s)), (9, .long (lN (s_wx s (ix p) q))), (11, .int (nI q))] [] mu nu := by
                  intro fu
                  induction fu with
                  | zero => intro q hq hm; exact absurd hm (Nat.not_lt_zero _)
                  | succ fu ih89 =>
                    intro q hq hm
                    refine m_iload C 8 dX11_chance_89 rfl ?_
                    refine m_aload_n C 0 dX11_chance_91 rfl ?_
                    refine gfX11_7 C dX11_chance_92 ?_
                    refine m_iconst C 1 dX11_chance_95 (by decide +kernel) ?_
                    refine m_iald C 65 (by decide) sa_65 1 rfl (by omega) (by decide) dX11_chance_96 ?_
                    refine m_topi (nI (v_m (z_V z))) hv.2.2.1 ?_
                    refine m_icmp_ge C 131 dX11_chance_97 (by decide) (fun hh7 => ?_) (fun hh7 => ?_)
                    · replace hh7 := (ii_le (nn_i (a := v_m (z_V z)) rfl (by omega)) (nn_i (a := q) rfl (by omega))).mp hh7
                      have eq2 : q = v_m (z_V z) := by omega
                      rw [eq2]
                      refine m_aload_n C 0 dX11_chance_131 rfl ?_
                      refine m_iload_n C 1 dX11_chance_132 rfl ?_
                      refine m_topi (nI (ix n)) en ?_
                      refine m_iload C 6 dX11_chance_133 rfl ?_
                      refine m_callVf C 64 (by decide) rfl rfl (c_X11_readWithout l G mu nu (z_V z) hv (ix n) (by omega) (by omega) s (by omega)) wkX11_214 (by decide) rfl rfl (Nat.le_of_ble_eq_true rfl) dX11_chance_135 ?_
                      refine m_i2l C dX11_chance_138 ?_
                      refine m_topl (lN (v_rx (z_V z) (ix n) s (v_m (z_V z)))) (ln_i2l rfl (by omega)) ?_
                      refine m_lstore C [(11, .long (lN (v_rx (z_V z) (ix n) s (v_m (z_V z))))), (0, .ref (G.1 64)), (1, .int n), (2, .int p), (3, .int 1), (4, .long (lN (v_ex (z_V z) (ix n) (ix p) s))), (6, .long (lN (12 ^ v_m (z_V z)))), (8, .int (nI s)), (9, .long (lN (s_wx s (ix p) (v_m (z_V z)))))] dX11_chance_139 (by decide) rfl ?_
                      refine m_lload C 5 dX11_chance_141 rfl ?_
                      refine m_iload_n C 4 dX11_chance_143 rfl ?_
                      refine m_if_eq C 172 dX11_chance_144 (by decide) (fun h => absurd h (by decide)) (fun _ => ?_)
                      refine m_ldc2 C 2 wcX11_164 dX11_chance_147 ?_
                      refine m_lload C 0 dX11_chance_150 rfl ?_
                      refine m_lmul C dX11_chance_152 ?_
                      refine m_topl (lN (2 * (v_rx (z_V z) (ix n) s (v_m (z_V z))))) (ln_mul rfl rfl) ?_
                      refine m_aload_n C 1 dX11_chance_153 rfl ?_
                      refine m_iload_n C 2 dX11_chance_154 rfl ?_
                      refine m_topi (nI (ix n)) en ?_
                      refine m_callVf C 64 (by decide) rfl rfl (c_X11_rightBy l G mu nu (z_V z) hv (ix n)) wkX11_170 (by decide) rfl rfl (Nat.le_of_ble_eq_true rfl) dX11_chance_155 ?_
                      refine m_i2l C dX11_chance_158 ?_
                      refine m_topl (lN (v_rt (z_V z) (v_m (z_V z)) * (ix n))) (ln_i2l rfl (by omega)) ?_
                      refine m_lcmp C dX11_chance_159 ?_
                      refine m_if_lt C 168 dX11_chance_160 (by decide) (fun hh8 => ?_) (fun hh8 => ?_)
                      · replace hh8 := ((lg_cmp_lt _ _).trans (ll_lt (ln_i (a := 2 * (v_rx (z_V z) (ix n) s (v_m (z_V z)))) rfl (by omega)) (ln_i (a := v_rt (z_V z) (v_m (z_V z)) * (ix n)) rfl (by omega)))).mp hh8
                        refine m_lconst C 0 dX11_chance_168 rfl ?_
                        refine m_goto C 177 dX11_chance_169 (by decide) ?_
                        refine m_ladd C dX11_chance_177 ?_
                        refine m_topl (lN ((v_ex (z_V z) (ix n) (ix p) s) + 0)) (ln_add rfl rfl) ?_
                        refine m_topl (lN (v_ex (z_V z) (ix n) (ix p) (s + 1))) (congrArg lN (congrArg (fun q => v_ex (z_V z) (ix n) (ix p) s + q) (if_neg (by omega) : (if v_rt (z_V z) (v_m (z_V z)) * ix n ≤ 2 * v_rx (z_V z) (ix n) s (v_m (z_V z)) then s_wx s (ix p) (v_m (z_V z)) else 0) = 0)).symm) ?_
                        refine m_lstore C [(4, .long (lN (v_ex (z_V z) (ix n) (ix p) (s + 1)))), (11, .long (lN (v_rx (z_V z) (ix n) s (v_m (z_V z))))), (0, .ref (G.1 64)), (1, .int n), (2, .int p), (3, .int 1), (6, .long (lN (12 ^ v_m (z_V z)))), (8, .int (nI s)), (9, .long (lN (s_wx s (ix p) (v_m (z_V z)))))] dX11_chance_178 (by decide) rfl ?_
                        refine m_iinc C 7 (nI (s + 1)) [(8, .int (nI (s + 1))), (4, .long (lN (v_ex (z_V z) (ix n) (ix p) (s + 1)))), (11, .long (lN (v_rx (z_V z) (ix n) s (v_m (z_V z))))), (0, .ref (G.1 64)), (1, .int n), (2, .int p), (3, .int 1), (6, .long (lN (12 ^ v_m (z_V z)))), (9, .long (lN (s_wx s (ix p) (v_m (z_V z)))))] dX11_chance_180 rfl (nn_add rfl (show Int32.ofInt 1 = nI 1 from rfl)) (by decide) rfl ?_
                        refine m_goto C 70 dX11_chance_183 (by decide) ?_
                        exact m_sub [3, 4, 5, 6, 1, 7, 0] rfl (ih70 (s + 1) (by omega) (by omega))
                      replace hh8 := mt ((lg_cmp_lt _ _).trans (ll_lt (ln_i (a := 2 * (v_rx (z_V z) (ix n) s (v_m (z_V z)))) rfl (by omega)) (ln_i (a := v_rt (z_V z) (v_m (z_V z)) * (ix n)) rfl (by omega)))).mpr hh8
                      refine m_lload C 8 dX11_chance_163 rfl ?_
                      refine m_goto C 177 dX11_chance_165 (by decide) ?_
                      refine m_ladd C dX11_chance_177 ?_
                      refine m_topl (lN ((v_ex (z_V z) (ix n) (ix p) s) + (s_wx s (ix p) (v_m (z_V z))))) (ln_add rfl rfl) ?_
                      refine m_topl (lN (v_ex (z_V z) (ix n) (ix p) (s + 1))) (congrArg lN (congrArg (fun q => v_ex (z_V z) (ix n) (ix p) s + q) (if_pos (by omega) : (if v_rt (z_V z) (v_m (z_V z)) * ix n ≤ 2 * v_rx (z_V z) (ix n) s (v_m (z_V z)) then s_wx s (ix p) (v_m (z_V z)) else 0) = s_wx s (ix p) (v_m (z_V z)))).symm) ?_
                      refine m_lstore C [(4, .long (lN (v_ex (z_V z) (ix n) (ix p) (s + 1)))), (11, .long (lN (v_rx (z_V z) (ix n) s (v_m (z_V z))))), (0, .ref (G.1 64)), (1, .int n), (2, .int p), (3, .int 1), (6, .long (lN (12 ^ v_m (z_V z)))), (8, .int (nI s)), (9, .long (lN (s_wx s (ix p) (v_m (z_V z)))))] dX11_chance_178 (by decide) rfl ?_
                      refine m_iinc C 7 (nI (s + 1)) [(8, .int (nI (s + 1))), (4, .long (lN (v_ex (z_V z) (ix n) (ix p) (s + 1)))), (11, .long (lN (v_rx (z_V z) (ix n) s (v_m (z_V z))))), (0, .ref (G.1 64)), (1, .int n), (2, .int p), (3, .int 1), (6, .long (lN (12 ^ v_m (z_V z)))), (9, .long (lN (s_wx s (ix p) (v_m (z_V z)))))] dX11_chance_180 rfl (nn_add rfl (show Int32.ofInt 1 = nI 1 from rfl)) (by decide) rfl ?_
                      refine m_goto C 70 dX11_chance_183 (by decide) ?_
                      exact m_sub [3, 4, 5, 6, 1, 7, 0] rfl (ih70 (s + 1) (by omega) (by omega))
                    replace hh7 := mt (ii_le (nn_i (a := v_m (z_V z)) rfl (by omega)) (nn_i (a := q) rfl (by omega))).mpr hh7
                    refine m_lload C 7 dX11_chance_100 rfl ?_
                    refine m_iload C 6 dX11_chance_102 rfl ?_
                    refine m_iload C 8 dX11_chance_104 rfl ?_
                    refine m_callSf C (c_X11_has l G mu nu s q (by omega) (by omega)) wkX11_119 (by decide) rfl rfl (Nat.le_of_ble_eq_true rfl) dX11_chance_106 ?_
                    refine m_if_eq C 117 dX11_chance_109 (by decide) (fun hh9 => ?_) (fun hh9 => ?_)
                    · replace hh9 := bI_eq0.mp hh9
                      refine m_bipush C 12 dX11_chance_117 (by decide +kernel) ?_
                      refine m_iload_n C 2 dX11_chance_119 rfl ?_
                      refine m_topi (nI (ix p)) ep ?_
                      refine m_isub C dX11_chance_120 ?_
                      refine m_topi (nI (12 - (ix p))) (nn_sub rfl rfl (by omega)) ?_
                      refine m_i2l C dX11_chance_121 ?_
                      refine m_topl (lN (12 - (ix p))) (ln_i2l rfl (by omega)) ?_
                      refine m_lmul C dX11_chance_122 ?_
                      refine m_topl (lN ((s_wx s (ix p) q) * (12 - (ix p)))) (ln_mul rfl rfl) ?_
                      refine m_topl (lN (s_wx s (ix p) (q + 1))) (congrArg lN (congrArg (fun u => s_wx s (ix p) q * u) (if_neg (by omega)).symm)) ?_
                      refine m_lstore C [(9, .long (lN (s_wx s (ix p) (q + 1)))), (0, .ref (G.1 64)), (1, .int n), (2, .int p), (3, .int 1), (4, .long (lN (v_ex (z_V z) (ix n) (ix p) s))), (6, .long (lN (12 ^ v_m (z_V z)))), (8, .int (nI s)), (11, .int (nI q))] dX11_chance_123 (by decide) rfl ?_
                      refine m_iinc C 8 (nI (q + 1)) [(11, .int (nI (q + 1))), (9, .long (lN (s_wx s (ix p) (q + 1)))), (0, .ref (G.1 64)), (1, .int n), (2, .int p), (3, .int 1), (4, .long (lN (v_ex (z_V z) (ix n) (ix p) s))), (6, .long (lN (12 ^ v_m (z_V z)))), (8, .int (nI s))] dX11_chance_125 rfl (nn_add rfl (show Int32.ofInt 1 = nI 1 from rfl)) (by decide) rfl ?_
                      refine m_goto C 89 dX11_chance_128 (by decide) ?_
                      exact m_sub [2, 3, 4, 5, 6, 7, 8, 1, 0] rfl (ih89 (q + 1) (by omega) (by omega))
                    replace hh9 := bI_ne0.mp hh9
                    refine m_iload_n C 2 dX11_chance_112 rfl ?_
                    refine m_topi (nI (ix p)) ep ?_
                    refine m_i2l C dX11_chance_113 ?_
                    refine m_topl (lN (ix p)) (ln_i2l rfl (by omega)) ?_
                    refine m_goto C 122 dX11_chance_114 (by decide) ?_
                    refine m_lmul C dX11_chance_122 ?_
                    refine m_topl (lN ((s_wx s (ix p) q) * (ix p))) (ln_mul rfl rfl) ?_
                    refine m_topl (lN (s_wx s (ix p) (q + 1))) (congrArg lN (congrArg (fun u => s_wx s (ix p) q * u) (if_pos (by omega)).symm)) ?_
                    refine m_lstore C [(9, .long (lN (s_wx s (ix p) (q + 1)))), (0, .ref (G.1 64)), (1, .int n), (2, .int p), (3, .int 1), (4, .long (lN (v_ex (z_V z) (ix n) (ix p) s))), (6, .long (lN (12 ^ v_m (z_V z)))), (8, .int (nI s)), (11, .int (nI q))] dX11_chance_123 (by decide) rfl ?_
                    refine m_iinc C 8 (nI (q + 1)) [(11, .int (nI (q + 1))), (9, .long (lN (s_wx s (ix p) (q + 1)))), (0, .ref (G.1 64)), (1, .int n), (2, .int p), (3, .int 1), (4, .long (lN (v_ex (z_V z) (ix n) (ix p) s))), (6, .long (lN (12 ^ v_m (z_V z)))), (8, .int (nI s))] dX11_chance_125 rfl (nn_add rfl (show Int32.ofInt 1 = nI 1 from rfl)) (by decide) rfl ?_
                    refine m_goto C 89 dX11_chance_128 (by decide) ?_
                    exact m_sub [2, 3, 4, 5, 6, 7, 8, 1, 0] rfl (ih89 (q + 1) (by omega) (by omega))
                exact m_sub [2, 3, 4, 5, 6, 7, 8, 1, 0] rfl (L89 (_ + 1) 0 (Nat.zero_le _) (Nat.lt_succ_self _))
            exact m_sub [1, 2, 3, 4, 5, 6, 0] rfl (L70 (_ + 1) 0 (Nat.zero_le _) (Nat.lt_succ_self _))
          replace hh4 := mt (ii_le (nn_i (a := v_m (z_V z)) rfl (by omega)) (nn_i (a := k) rfl (by omega))).mpr hh4
          refine m_lload C 5 dX11_chance_53 rfl ?_
          refine m_ldc2 C 12 wcX11_212 dX11_chance_55 ?_
          refine m_lmul C dX11_chance_58 ?_
          refine m_topl (lN ((12 ^ k) * 12)) (ln_mul rfl rfl) ?_
          refine m_topl (lN (12 ^ (k + 1))) (congrArg lN (Nat.pow_succ 12 k).symm) ?_
          refine m_lstore C [(6, .long (lN (12 ^ (k + 1)))), (0, .ref (G.1 64)), (1, .int n), (2, .int p), (3, .int 1), (4, .long 0), (8, .int (nI k))] dX11_chance_59 (by decide) rfl ?_
          refine m_iinc C 6 (nI (k + 1)) [(8, .int (nI (k + 1))), (6, .long (lN (12 ^ (k + 1)))), (0, .ref (G.1 64)), (1, .int n), (2, .int p), (3, .int 1), (4, .long 0)] dX11_chance_61 rfl (nn_add rfl (show Int32.ofInt 1 = nI 1 from rfl)) (by decide) rfl ?_
          refine m_goto C 42 dX11_chance_64 (by decide) ?_
          exact m_sub [2, 3, 4, 5, 6, 1, 0] rfl (ih42 (k + 1) (by omega) (by omega))
      exact m_sub [3, 4, 5, 6, 2, 1, 0] rfl (L42 (_ + 1) 0 (Nat.zero_le _) (Nat.lt_succ_self _))
    replace hh3 := (ii_eq (nn_i (a := z_N z) rfl (by omega)) (nn_i (a := 0) rfl (by omega))).mp hh3
    refine m_bipush C (-4) dX11_chance_30 (by decide +kernel) ?_
    refine m_ireti C hQ dX11_chance_32 ?_
    exact PM_of (by unfold s_odds; rw [if_neg (by omega), if_pos (by omega)]) hz zcm_rfl
  replace hh2 := bI_eq0.mp hh2
  refine m_iconst C (-1) dX11_chance_19 (by decide +kernel) ?_
  refine m_ireti C hQ dX11_chance_20 ?_
  exact PM_of (by unfold s_odds; rw [if_pos (by omega)]) hz zcm_rfl

set_option maxHeartbeats 4000000 in
set_option maxRecDepth 100000 in
theorem c_X11_chance_0 (l : Launch) (G : Gl) (mu : Mu) (nu : Nu) (z : Zt) (hz : ZM mu nu z) (n p : Int32) : Ci l G mX11_chance 8 [.ref (G.1 64), .int n, .int p, .int 0] mu nu (PM mu nu (s_mid z n p)) := by
  have hv : zm mu (z_V z) := zm_v hz
  have hw := hv.1
  have hN7 := hw.1
  have hm7 := hw.2.2.1
  have ho8 := hw.2.2.2.2
  have hcz : ((v_N (z_V z) : Nat) : Int) = ((z_N z : Nat) : Int) := rfl
  have hp2 := p2_7 hm7
  have hp12 := p12_7 hm7
  refine Ct.of (lv := [(0, .ref (G.1 64)), (1, .int n), (2, .int p), (3, .int 0)]) rfl rfl (Nat.le_of_ble_eq_true rfl) rfl (fun X C => ?_)
  generalize hQ : g_E G X _ = Q
  replace C : Cx G 13 X cX11_chance RX11 (some .int) 8 := C
  show Mq l G 13 X Q 0 [(0, .ref (G.1 64)), (1, .int n), (2, .int p), (3, .int 0)] [] mu nu
  refine m_iload_n C 1 dX11_chance_0 rfl ?_
  refine m_callSf C (c_X11_isLine l G mu nu n) wkX11_151 (by decide) rfl rfl (Nat.le_of_ble_eq_true rfl) dX11_chance_1 ?_
  refine m_if_eq C 19 dX11_chance_4 (by decide) (fun hh1 => ?_) (fun hh1 => ?_)
  · replace hh1 := bI_eq0.mp hh1
    refine m_iconst C (-1) dX11_chance_19 (by decide +kernel) ?_
    refine m_ireti C hQ dX11_chance_20 ?_
    exact PM_of (by unfold s_mid; rw [if_pos (by omega)]) hz zcm_rfl
  replace hh1 := bI_ne0.mp hh1
  refine m_iload_n C 2 dX11_chance_7 rfl ?_
  refine m_i2l C dX11_chance_8 ?_
  refine m_lconst C 0 dX11_chance_9 rfl ?_
  refine m_ldc2 C 12 wcX11_212 dX11_chance_10 ?_
  refine m_callSf C (c_in (a := p.toInt) (b := ((0 : Nat) : Int)) (c := ((12 : Nat) : Int)) ((tl_i _).trans (rfl : (p).toInt = _)) (ln_i (a := 0) rfl (by omega)) (ln_i (a := 12) rfl (by omega))) wkX11_68 (by decide) rfl rfl (Nat.le_of_ble_eq_true rfl) dX11_chance_13 ?_
  refine m_if_ne C 21 dX11_chance_16 (by decide) (fun hh2 => ?_) (fun hh2 => ?_)
  · replace hh2 := bI_ne0.mp hh2
    obtain ⟨en, kn⟩ := ix_eq (x := n) (by omega)
    obtain ⟨ep, kp⟩ := ix_eq (x := p) (by omega)
    have hrt := v_rtb hw (n := ix n) (by omega)
    have hex := v_mx_le hw (n := ix n) (p := ix p) (by omega) (by omega) (Nat.le_refl (2 ^ v_m (z_V z)))
    refine m_aload_n C 0 dX11_chance_21 rfl ?_
    refine gfX11_7 C dX11_chance_22 ?_
    refine m_iconst C 0 dX11_chance_25 (by decide +kernel) ?_
    refine m_iald C 65 (by decide) sa_65 0 rfl (by omega) (by decide) dX11_chance_26 ?_
    refine m_topi (nI (z_N z)) hv.2.1 ?_
    refine m_if_ne C 33 dX11_chance_27 (by decide) (fun hh3 => ?_) (fun hh3 => ?_)
    · replace hh3 := mt (ii_eq (nn_i (a := z_N z) rfl (by omega)) (nn_i (a := 0) rfl (by omega))).mpr hh3
      refine m_lconst C 0 dX11_chance_33 rfl ?_
      refine m_lstore C [(4, .long 0), (0, .ref (G.1 64)), (1, .int n), (2, .int p), (3, .int 0)] dX11_chance_34 (by decide) rfl ?_
      refine m_lconst C 1 dX11_chance_36 rfl ?_
      refine m_lstore C [(6, .long 1), (4, .long 0), (0, .ref (G.1 64)), (1, .int n), (2, .int p), (3, .int 0)] dX11_chance_37 (by decide) rfl ?_
      refine m_iconst C 0 dX11_chance_39 (by decide +kernel) ?_
      refine m_istore C [(8, .int 0), (6, .long 1), (4, .long 0), (0, .ref (G.1 64)), (1, .int n), (2, .int p), (3, .int 0)] dX11_chance_40 (by decide) rfl ?_
      have L42 : ∀ (fu : Nat) (k : Nat) (hk : k ≤ v_m (z_V z)), v_m (z_V z) - k < fu → Mq l G 13 X Q 42 [(0, .ref (G.1 64)), (1, .int n), (2, .int p), (3, .int 0), (4, .long 0), (6, .long (lN (12 ^ k))), (8, .int (nI k))] [] mu nu := by
        intro fu
        induction fu with
        | zero => intro k hk hm; exact absurd hm (Nat.not_lt_zero _)
        | succ fu ih42 =>
          intro k hk hm
          refine m_iload C 6 dX11_chance_42 rfl ?_
          refine m_aload_n C 0 dX11_chance_44 rfl ?_
          refine gfX11_7 C dX11_chance_45 ?_
          refine m_iconst C 1 dX11_chance_48 (by decide +kernel) ?_
          refine m_iald C 65 (by decide) sa_65 1 rfl (by omega) (by decide) dX11_chance_49 ?_
          refine m_topi (nI (v_m (z_V z))) hv.2.2.1 ?_
          refine m_icmp_ge C 67 dX11_chance_50 (by decide) (fun hh4 => ?_) (fun hh4 => ?_)
          · replace hh4 := (ii_le (nn_i (a := v_m (z_V z)) rfl (by omega)) (nn_i (a := k) rfl (by omega))).mp hh4
            have ek : k = v_m (z_V z) := by omega
            rw [ek]
            refine m_iconst C 0 dX11_chance_67 (by decide +kernel) ?_
            refine m_istore C [(8, .int 0), (0, .ref (G.1 64)), (1, .int n), (2, .int p), (3, .int 0), (4, .long 0), (6, .long (lN (12 ^ v_m (z_V z))))] dX11_chance_68 (by decide) rfl ?_
            have L70 : ∀ (fu : Nat) (s : Nat) (hs : s ≤ 2 ^ v_m (z_V z)), 2 ^ v_m (z_V z) - s < fu → Mq l G 13 X Q 70 [(0, .ref (G.1 64)), (1, .int n), (2, .int p), (3, .int 0), (4, .long (lN (v_mx (z_V z) (ix n) (ix p) s))), (6, .long (lN (12 ^ v_m (z_V z)))), (8, .int (nI s))] [] mu nu := by
              intro fu
              induction fu with
              | zero => intro s hs hm; exact absurd hm (Nat.not_lt_zero _)
              | succ fu ih70 =>
                intro s hs hm
                refine m_iload C 6 dX11_chance_70 rfl ?_
                refine m_iconst C 1 dX11_chance_72 (by decide +kernel) ?_
                refine m_aload_n C 0 dX11_chance_73 rfl ?_
                refine gfX11_7 C dX11_chance_74 ?_
                refine m_iconst C 1 dX11_chance_77 (by decide +kernel) ?_
                refine m_iald C 65 (by decide) sa_65 1 rfl (by omega) (by decide) dX11_chance_78 ?_
                refine m_topi (nI (v_m (z_V z))) hv.2.2.1 ?_
                refine m_ishl C dX11_chance_79 ?_
                refine m_topi (nI (2 ^ (v_m (z_V z)))) (nn_shl1 rfl (by omega)) ?_
                refine m_icmp_ge C 186 dX11_chance_80 (by decide) (fun hh5 => ?_) (fun hh5 => ?_)
                · replace hh5 := (ii_le (nn_i (a := 2 ^ (v_m (z_V z))) rfl (by omega)) (nn_i (a := s) rfl (by omega))).mp hh5
                  have es : s = 2 ^ v_m (z_V z) := by omega
                  rw [es]
                  refine m_aload_n C 0 dX11_chance_186 rfl ?_
                  refine m_lload C 4 dX11_chance_187 rfl ?_
                  refine m_lload C 5 dX11_chance_189 rfl ?_
                  refine m_callVi C 64 (by decide) rfl rfl (c_X11_tellsPart l G mu nu (v_mx (z_V z) (ix n) (ix p) (2 ^ v_m (z_V z))) (12 ^ v_m (z_V z)) (by omega) (by omega) (Nat.pow_pos (by decide))) wkX11_217 (by decide) rfl rfl (Nat.le_of_ble_eq_true rfl) dX11_chance_191 (fun r6 m6 n6 hp6 => ?_)
                  refine m_ireti C hQ dX11_chance_194 ?_
                  exact PM_frac hz hp6 (by unfold s_mid; rw [if_neg (by omega), if_neg (by omega)]; rw [← mid_fr (show ix p ≤ 12 by omega)]; rfl)
                replace hh5 := mt (ii_le (nn_i (a := 2 ^ (v_m (z_V z))) rfl (by omega)) (nn_i (a := s) rfl (by omega))).mpr hh5
                have hrx := v_rxb hw (n := ix n) (by omega) (s := s) (by omega)
                refine m_lconst C 1 dX11_chance_83 rfl ?_
                refine m_lstore C [(9, .long 1), (0, .ref (G.1 64)), (1, .int n), (2, .int p), (3, .int 0), (4, .long (lN (v_mx (z_V z) (ix n) (ix p) s))), (6, .long (lN (12 ^ v_m (z_V z)))), (8, .int (nI s))] dX11_chance_84 (by decide) rfl ?_
                refine m_iconst C 0 dX11_chance_86 (by decide +kernel) ?_
                refine m_istore C [(11, .int 0), (9, .long 1), (0, .ref (G.1 64)), (1, .int n), (2, .int p), (3, .int 0), (4, .long (lN (v_mx (z_V z) (ix n) (ix p) s))), (6, .long (lN (12 ^ v_m (z_V z)))), (8, .int (nI s))] dX11_chance_87 (by decide) rfl ?_
                have L89 : ∀ (fu : Nat) (q : Nat) (hq : q ≤ v_m (z_V z)), v_m (z_V z) - q < fu → Mq l G 13 X Q 89 [(0, .ref (G.1 64)), (1, .int n), (2, .int p), (3, .int 0), (4, .long (lN (v_mx (z_V z) (ix n) (ix p) s))), (6, .long (lN (12 ^ v_m (z_V z)))), (8, .int (nI s)), (9, .long (lN (s_wx s (ix p) q))), (11, .int (nI q))] [] mu nu := by
                  intro fu
                  induction fu with
                  | zero => intro q hq hm; exact absurd hm (Nat.not_lt_zero _)
                  | succ fu ih89 =>
                    intro q hq hm
                    refine m_iload C 8 dX11_chance_89 rfl ?_
                    refine m_aload_n C 0 dX11_chance_91 rfl ?_
                    refine gfX11_7 C dX11_chance_92 ?_
                    refine m_iconst C 1 dX11_chance_95 (by decide +kernel) ?_
                    refine m_iald C 65 (by decide) sa_65 1 rfl (by omega) (by decide) dX11_chance_96 ?_
                    refine m_topi (nI (v_m (z_V z))) hv.2.2.1 ?_
                    refine m_icmp_ge C 131 dX11_chance_97 (by decide) (fun hh7 => ?_) (fun hh7 => ?_)
                    · replace hh7 := (ii_le (nn_i (a := v_m (z_V z)) rfl (by omega)) (nn_i (a := q) rfl (by omega))).mp hh7
                      have eq2 : q = v_m (z_V z) := by omega
                      rw [eq2]
                      refine m_aload_n C 0 dX11_chance_131 rfl ?_
                      refine m_iload_n C 1 dX11_chance_132 rfl ?_
                      refine m_topi (nI (ix n)) en ?_
                      refine m_iload C 6 dX11_chance_133 rfl ?_
                      refine m_callVf C 64 (by decide) rfl rfl (c_X11_readWithout l G mu nu (z_V z) hv (ix n) (by omega) (by omega) s (by omega)) wkX11_214 (by decide) rfl rfl (Nat.le_of_ble_eq_true rfl) dX11_chance_135 ?_
                      refine m_i2l C dX11_chance_138 ?_
                      refine m_topl (lN (v_rx (z_V z) (ix n) s (v_m (z_V z)))) (ln_i2l rfl (by omega)) ?_
                      refine m_lstore C [(11, .long (lN (v_rx (z_V z) (ix n) s (v_m (z_V z))))), (0, .ref (G.1 64)), (1, .int n), (2, .int p), (3, .int 0), (4, .long (lN (v_mx (z_V z) (ix n) (ix p) s))), (6, .long (lN (12 ^ v_m (z_V z)))), (8, .int (nI s)), (9, .long (lN (s_wx s (ix p) (v_m (z_V z)))))] dX11_chance_139 (by decide) rfl ?_
                      refine m_lload C 5 dX11_chance_141 rfl ?_
                      refine m_iload_n C 4 dX11_chance_143 rfl ?_
                      refine m_if_eq C 172 dX11_chance_144 (by decide) (fun _ => ?_) (fun h => absurd (by decide) h)
                      refine m_lload C 8 dX11_chance_172 rfl ?_
                      refine m_lload C 0 dX11_chance_174 rfl ?_
                      refine m_lmul C dX11_chance_176 ?_
                      refine m_topl (lN ((s_wx s (ix p) (v_m (z_V z))) * (v_rx (z_V z) (ix n) s (v_m (z_V z))))) (ln_mul rfl rfl) ?_
                      refine m_ladd C dX11_chance_177 ?_
                      refine m_topl (lN ((v_mx (z_V z) (ix n) (ix p) s) + ((s_wx s (ix p) (v_m (z_V z))) * (v_rx (z_V z) (ix n) s (v_m (z_V z)))))) (ln_add rfl rfl) ?_
                      refine m_topl (lN (v_mx (z_V z) (ix n) (ix p) (s + 1))) rfl ?_
                      refine m_lstore C [(4, .long (lN (v_mx (z_V z) (ix n) (ix p) (s + 1)))), (11, .long (lN (v_rx (z_V z) (ix n) s (v_m (z_V z))))), (0, .ref (G.1 64)), (1, .int n), (2, .int p), (3, .int 0), (6, .long (lN (12 ^ v_m (z_V z)))), (8, .int (nI s)), (9, .long (lN (s_wx s (ix p) (v_m (z_V z)))))] dX11_chance_178 (by decide) rfl ?_
                      refine m_iinc C 7 (nI (s + 1)) [(8, .int (nI (s + 1))), (4, .long (lN (v_mx (z_V z) (ix n) (ix p) (s + 1)))), (11, .long (lN (v_rx (z_V z) (ix n) s (v_m (z_V z))))), (0, .ref (G.1 64)), (1, .int n), (2, .int p), (3, .int 0), (6, .long (lN (12 ^ v_m (z_V z)))), (9, .long (lN (s_wx s (ix p) (v_m (z_V z)))))] dX11_chance_180 rfl (nn_add rfl (show Int32.ofInt 1 = nI 1 from rfl)) (by decide) rfl ?_
                      refine m_goto C 70 dX11_chance_183 (by decide) ?_
                      exact m_sub [3, 4, 5, 6, 1, 7, 0] rfl (ih70 (s + 1) (by omega) (by omega))
                    replace hh7 := mt (ii_le (nn_i (a := v_m (z_V z)) rfl (by omega)) (nn_i (a := q) rfl (by omega))).mpr hh7
                    refine m_lload C 7 dX11_chance_100 rfl ?_
                    refine m_iload C 6 dX11_chance_102 rfl ?_
                    refine m_iload C 8 dX11_chance_104 rfl ?_
                    refine m_callSf C (c_X11_has l G mu nu s q (by omega) (by omega)) wkX11_119 (by decide) rfl rfl (Nat.le_of_ble_eq_true rfl) dX11_chance_106 ?_
                    refine m_if_eq C 117 dX11_chance_109 (by decide) (fun hh8 => ?_) (fun hh8 => ?_)
                    · replace hh8 := bI_eq0.mp hh8
                      refine m_bipush C 12 dX11_chance_117 (by decide +kernel) ?_
                      refine m_iload_n C 2 dX11_chance_119 rfl ?_
                      refine m_topi (nI (ix p)) ep ?_
                      refine m_isub C dX11_chance_120 ?_
                      refine m_topi (nI (12 - (ix p))) (nn_sub rfl rfl (by omega)) ?_
                      refine m_i2l C dX11_chance_121 ?_
                      refine m_topl (lN (12 - (ix p))) (ln_i2l rfl (by omega)) ?_
                      refine m_lmul C dX11_chance_122 ?_
                      refine m_topl (lN ((s_wx s (ix p) q) * (12 - (ix p)))) (ln_mul rfl rfl) ?_
                      refine m_topl (lN (s_wx s (ix p) (q + 1))) (congrArg lN (congrArg (fun u => s_wx s (ix p) q * u) (if_neg (by omega)).symm)) ?_
                      refine m_lstore C [(9, .long (lN (s_wx s (ix p) (q + 1)))), (0, .ref (G.1 64)), (1, .int n), (2, .int p), (3, .int 0), (4, .long (lN (v_mx (z_V z) (ix n) (ix p) s))), (6, .long (lN (12 ^ v_m (z_V z)))), (8, .int (nI s)), (11, .int (nI q))] dX11_chance_123 (by decide) rfl ?_
                      refine m_iinc C 8 (nI (q + 1)) [(11, .int (nI (q + 1))), (9, .long (lN (s_wx s (ix p) (q + 1)))), (0, .ref (G.1 64)), (1, .int n), (2, .int p), (3, .int 0), (4, .long (lN (v_mx (z_V z) (ix n) (ix p) s))), (6, .long (lN (12 ^ v_m (z_V z)))), (8, .int (nI s))] dX11_chance_125 rfl (nn_add rfl (show Int32.ofInt 1 = nI 1 from rfl)) (by decide) rfl ?_
                      refine m_goto C 89 dX11_chance_128 (by decide) ?_
                      exact m_sub [2, 3, 4, 5, 6, 7, 8, 1, 0] rfl (ih89 (q + 1) (by omega) (by omega))
                    replace hh8 := bI_ne0.mp hh8
                    refine m_iload_n C 2 dX11_chance_112 rfl ?_
                    refine m_topi (nI (ix p)) ep ?_
                    refine m_i2l C dX11_chance_113 ?_
                    refine m_topl (lN (ix p)) (ln_i2l rfl (by omega)) ?_
                    refine m_goto C 122 dX11_chance_114 (by decide) ?_
                    refine m_lmul C dX11_chance_122 ?_
                    refine m_topl (lN ((s_wx s (ix p) q) * (ix p))) (ln_mul rfl rfl) ?_
                    refine m_topl (lN (s_wx s (ix p) (q + 1))) (congrArg lN (congrArg (fun u => s_wx s (ix p) q * u) (if_pos (by omega)).symm)) ?_
                    refine m_lstore C [(9, .long (lN (s_wx s (ix p) (q + 1)))), (0, .ref (G.1 64)), (1, .int n), (2, .int p), (3, .int 0), (4, .long (lN (v_mx (z_V z) (ix n) (ix p) s))), (6, .long (lN (12 ^ v_m (z_V z)))), (8, .int (nI s)), (11, .int (nI q))] dX11_chance_123 (by decide) rfl ?_
                    refine m_iinc C 8 (nI (q + 1)) [(11, .int (nI (q + 1))), (9, .long (lN (s_wx s (ix p) (q + 1)))), (0, .ref (G.1 64)), (1, .int n), (2, .int p), (3, .int 0), (4, .long (lN (v_mx (z_V z) (ix n) (ix p) s))), (6, .long (lN (12 ^ v_m (z_V z)))), (8, .int (nI s))] dX11_chance_125 rfl (nn_add rfl (show Int32.ofInt 1 = nI 1 from rfl)) (by decide) rfl ?_
                    refine m_goto C 89 dX11_chance_128 (by decide) ?_
                    exact m_sub [2, 3, 4, 5, 6, 7, 8, 1, 0] rfl (ih89 (q + 1) (by omega) (by omega))
                exact m_sub [2, 3, 4, 5, 6, 7, 8, 1, 0] rfl (L89 (_ + 1) 0 (Nat.zero_le _) (Nat.lt_succ_self _))
            exact m_sub [1, 2, 3, 4, 5, 6, 0] rfl (L70 (_ + 1) 0 (Nat.zero_le _) (Nat.lt_succ_self _))
          replace hh4 := mt (ii_le (nn_i (a := v_m (z_V z)) rfl (by omega)) (nn_i (a := k) rfl (by omega))).mpr hh4
          refine m_lload C 5 dX11_chance_53 rfl ?_
          refine m_ldc2 C 12 wcX11_212 dX11_chance_55 ?_
          refine m_lmul C dX11_chance_58 ?_
          refine m_topl (lN ((12 ^ k) * 12)) (ln_mul rfl rfl) ?_
          refine m_topl (lN (12 ^ (k + 1))) (congrArg lN (Nat.pow_succ 12 k).symm) ?_
          refine m_lstore C [(6, .long (lN (12 ^ (k + 1)))), (0, .ref (G.1 64)), (1, .int n), (2, .int p), (3, .int 0), (4, .long 0), (8, .int (nI k))] dX11_chance_59 (by decide) rfl ?_
          refine m_iinc C 6 (nI (k + 1)) [(8, .int (nI (k + 1))), (6, .long (lN (12 ^ (k + 1)))), (0, .ref (G.1 64)), (1, .int n), (2, .int p), (3, .int 0), (4, .long 0)] dX11_chance_61 rfl (nn_add rfl (show Int32.ofInt 1 = nI 1 from rfl)) (by decide) rfl ?_
          refine m_goto C 42 dX11_chance_64 (by decide) ?_
          exact m_sub [2, 3, 4, 5, 6, 1, 0] rfl (ih42 (k + 1) (by omega) (by omega))
      exact m_sub [3, 4, 5, 6, 2, 1, 0] rfl (L42 (_ + 1) 0 (Nat.zero_le _) (Nat.lt_succ_self _))
    replace hh3 := (ii_eq (nn_i (a := z_N z) rfl (by omega)) (nn_i (a := 0) rfl (by omega))).mp hh3
    refine m_bipush C (-4) dX11_chance_30 (by decide +kernel) ?_
    refine m_ireti C hQ dX11_chance_32 ?_
    exact PM_of (by unfold s_mid; rw [if_neg (by omega), if_pos (by omega)]) hz zcm_rfl
  replace hh2 := bI_eq0.mp hh2
  refine m_iconst C (-1) dX11_chance_19 (by decide +kernel) ?_
  refine m_ireti C hQ dX11_chance_20 ?_
  exact PM_of (by unfold s_mid; rw [if_pos (by omega)]) hz zcm_rfl

set_option maxHeartbeats 4000000 in
set_option maxRecDepth 100000 in
theorem c_X11_odds (l : Launch) (G : Gl) (mu : Mu) (nu : Nu) (z : Zt) (hz : ZM mu nu z) (n p : Int32) : Ci l G mX11_odds 9 [.ref (G.1 64), .int n, .int p] mu nu (PM mu nu (s_odds z n p)) := by
  refine Ct.of (lv := [(0, .ref (G.1 64)), (1, .int n), (2, .int p)]) rfl rfl (Nat.le_of_ble_eq_true rfl) rfl (fun X C => ?_)
  generalize hQ : g_E G X _ = Q
  replace C : Cx G 3 X cX11_odds RX11 (some .int) 9 := C
  show Mq l G 3 X Q 0 [(0, .ref (G.1 64)), (1, .int n), (2, .int p)] [] mu nu
  refine m_aload_n C 0 dX11_odds_0 rfl ?_
  refine m_iload_n C 1 dX11_odds_1 rfl ?_
  refine m_iload_n C 2 dX11_odds_2 rfl ?_
  refine m_iconst C 1 dX11_odds_3 (by decide +kernel) ?_
  refine m_callVi C 64 (by decide) rfl rfl (c_X11_chance_1 l G mu nu z hz n p) wkX11_221 (by decide) rfl rfl (Nat.le_of_ble_eq_true rfl) dX11_odds_4 (fun r1 m1 n1 hp1 => ?_)
  refine m_ireti C hQ dX11_odds_7 ?_
  exact hp1

set_option maxHeartbeats 4000000 in
set_option maxRecDepth 100000 in
theorem c_X11_mid (l : Launch) (G : Gl) (mu : Mu) (nu : Nu) (z : Zt) (hz : ZM mu nu z) (n p : Int32) : Ci l G mX11_mid 9 [.ref (G.1 64), .int n, .int p] mu nu (PM mu nu (s_mid z n p)) := by
  refine Ct.of (lv := [(0, .ref (G.1 64)), (1, .int n), (2, .int p)]) rfl rfl (Nat.le_of_ble_eq_true rfl) rfl (fun X C => ?_)
  generalize hQ : g_E G X _ = Q
  replace C : Cx G 3 X cX11_mid RX11 (some .int) 9 := C
  show Mq l G 3 X Q 0 [(0, .ref (G.1 64)), (1, .int n), (2, .int p)] [] mu nu
  refine m_aload_n C 0 dX11_mid_0 rfl ?_
  refine m_iload_n C 1 dX11_mid_1 rfl ?_
  refine m_iload_n C 2 dX11_mid_2 rfl ?_
  refine m_iconst C 0 dX11_mid_3 (by decide +kernel) ?_
  refine m_callVi C 64 (by decide) rfl rfl (c_X11_chance_0 l G mu nu z hz n p) wkX11_221 (by decide) rfl rfl (Nat.le_of_ble_eq_true rfl) dX11_mid_4 (fun r1 m1 n1 hp1 => ?_)
  refine m_ireti C hQ dX11_mid_7 ?_
  exact hp1

set_option maxHeartbeats 4000000 in
set_option maxRecDepth 100000 in
theorem c_X11_lots (l : Launch) (G : Gl) (mu : Mu) (nu : Nu) (z : Zt) (hz : ZM mu nu z) (n seed : Int32) : Ci l G mX11_lots 8 [.ref (G.1 64), .int n, .int seed] mu nu (PM mu nu (s_lots z n seed)) := by
  have hv : zm mu (z_V z) := zm_v hz
  have hw := hv.1
  have hN7 := hw.1
  have hm7 := hw.2.2.1
  have ho8 := hw.2.2.2.2
  have hcz : ((v_N (z_V z) : Nat) : Int) = ((z_N z : Nat) : Int) := rfl
  have hd40 : (z_B z).2.2.length ≤ 40 := hz.2.2.1.1
  have hwb := hz.2.2.1
  have hwf : z_wf (z_N z) ((z_B z).1, (z_B z).2.1) := wb_last hz.2.2.1
  have hml : v_m (z_V z) = (z_B z).1.length := rfl
  have hzN : z_N z ≤ 7 := hN7
  have hsl := seed.toInt_lt
  refine Ct.of (lv := [(0, .ref (G.1 64)), (1, .int n), (2, .int seed)]) rfl rfl (Nat.le_of_ble_eq_true rfl) rfl (fun X C => ?_)
  generalize hQ : g_E G X _ = Q
  replace C : Cx G 8 X cX11_lots RX11 (some .int) 8 := C
  show Mq l G 8 X Q 0 [(0, .ref (G.1 64)), (1, .int n), (2, .int seed)] [] mu nu
  refine m_iload_n C 1 dX11_lots_0 rfl ?_
  refine m_i2l C dX11_lots_1 ?_
  refine m_lconst C 1 dX11_lots_2 rfl ?_
  refine m_ldc2 C 20 wcX11_225 dX11_lots_3 ?_
  refine m_callSf C (c_in (a := n.toInt) (b := ((1 : Nat) : Int)) (c := ((20 : Nat) : Int)) ((tl_i _).trans (rfl : (n).toInt = _)) (ln_i (a := 1) rfl (by omega)) (ln_i (a := 20) rfl (by omega))) wkX11_68 (by decide) rfl rfl (Nat.le_of_ble_eq_true rfl) dX11_lots_6 ?_
  refine m_if_eq C 24 dX11_lots_9 (by decide) (fun hh1 => ?_) (fun hh1 => ?_)
  · replace hh1 := bI_eq0.mp hh1
    refine m_iconst C (-1) dX11_lots_24 (by decide +kernel) ?_
    refine m_ireti C hQ dX11_lots_25 ?_
    exact PM_of (by unfold s_lots; rw [if_pos (by omega)]) hz zcm_rfl
  replace hh1 := bI_ne0.mp hh1
  refine m_iload_n C 2 dX11_lots_12 rfl ?_
  refine m_i2l C dX11_lots_13 ?_
  refine m_lconst C 1 dX11_lots_14 rfl ?_
  refine m_ldc2 C 2147483646 wcX11_227 dX11_lots_15 ?_
  refine m_callSf C (c_in (a := seed.toInt) (b := ((1 : Nat) : Int)) (c := ((2147483646 : Nat) : Int)) ((tl_i _).trans (rfl : (seed).toInt = _)) (ln_i (a := 1) rfl (by omega)) (ln_i (a := 2147483646) rfl (by omega))) wkX11_68 (by decide) rfl rfl (Nat.le_of_ble_eq_true rfl) dX11_lots_18 ?_
  refine m_if_ne C 26 dX11_lots_21 (by decide) (fun hh2 => ?_) (fun hh2 => ?_)
  · replace hh2 := bI_ne0.mp hh2
    obtain ⟨en, kn⟩ := ix_eq (x := n) (by omega)
    obtain ⟨es, ks⟩ := ix_eq (x := seed) (by omega)
    refine m_aload_n C 0 dX11_lots_26 rfl ?_
    refine gfX11_7 C dX11_lots_27 ?_
    refine m_iconst C 0 dX11_lots_30 (by decide +kernel) ?_
    refine m_iald C 65 (by decide) sa_65 0 rfl (by omega) (by decide) dX11_lots_31 ?_
    refine m_topi (nI (z_N z)) hv.2.1 ?_
    refine m_if_ne C 38 dX11_lots_32 (by decide) (fun hh3 => ?_) (fun hh3 => ?_)
    · replace hh3 := mt (ii_eq (nn_i (a := z_N z) rfl (by omega)) (nn_i (a := 0) rfl (by omega))).mpr hh3
      refine m_aload_n C 0 dX11_lots_38 rfl ?_
      refine gfX11_7 C dX11_lots_39 ?_
      refine m_bipush C 31 dX11_lots_42 (by decide +kernel) ?_
      refine m_iald C 65 (by decide) sa_65 31 rfl (by omega) (by decide) dX11_lots_44 ?_
      refine m_topi (nI ((z_B z).2.2.length)) hz.2.1.2.2.2.2.2.1 ?_
      refine m_iload_n C 1 dX11_lots_45 rfl ?_
      refine m_topi (nI (ix n)) en ?_
      refine m_iadd C dX11_lots_46 ?_
      refine m_topi (nI (((z_B z).2.2.length) + (ix n))) (nn_add rfl rfl) ?_
      refine m_bipush C 40 dX11_lots_47 (by decide +kernel) ?_
      refine m_icmp_le C 55 dX11_lots_49 (by decide) (fun hh4 => ?_) (fun hh4 => ?_)
      · replace hh4 := (ii_le (nn_i (a := ((z_B z).2.2.length) + (ix n)) rfl (by omega)) (nn_i (a := 40) rfl (by omega))).mp hh4
        refine m_iload_n C 2 dX11_lots_55 rfl ?_
        refine m_topi (nI (ix seed)) es ?_
        refine m_i2l C dX11_lots_56 ?_
        refine m_topl (lN (ix seed)) (ln_i2l rfl (by omega)) ?_
        refine m_lstore_n C [(3, .long (lN (ix seed))), (0, .ref (G.1 64)), (1, .int n), (2, .int seed)] dX11_lots_57 (by decide) rfl ?_
        refine m_iconst C 0 dX11_lots_58 (by decide +kernel) ?_
        refine m_istore C [(5, .int 0), (3, .long (lN (ix seed))), (0, .ref (G.1 64)), (1, .int n), (2, .int seed)] dX11_lots_59 (by decide) rfl ?_
        have L61 : ∀ (fu : Nat) (k : Nat) (m : Mu) (n1 : Nu) (hk : k ≤ ix n) (hzm : ZM m n1 (u_bn z (b_lots (z_N z) (z_B z) (ix seed) k))) (hcm : z_cm mu nu m n1), ix n - k < fu → Mq l G 8 X Q 61 [(0, .ref (G.1 64)), (1, .int n), (2, .int seed), (3, .long (lN (s_lx (ix seed) k))), (5, .int (nI k))] [] m n1 := by
          intro fu
          induction fu with
          | zero => intro k m n1 hk hzm hcm hm; exact absurd hm (Nat.not_lt_zero _)
          | succ fu ih61 =>
            intro k m n1 hk hzm hcm hm
            refine m_iload C 4 dX11_lots_61 rfl ?_
            refine m_iload_n C 1 dX11_lots_63 rfl ?_
            refine m_topi (nI (ix n)) en ?_
            refine m_icmp_ge C 171 dX11_lots_64 (by decide) (fun hh5 => ?_) (fun hh5 => ?_)
            · replace hh5 := (ii_le (nn_i (a := ix n) rfl (by omega)) (nn_i (a := k) rfl (by omega))).mp hh5
              have ek : k = ix n := by omega
              rw [ek] at hzm
              refine m_aload_n C 0 dX11_lots_171 rfl ?_
              refine m_iconst C 1 dX11_lots_172 (by decide +kernel) ?_
              refine m_callVf C 64 (by decide) rfl rfl (c_X11_readBy l G m n1 (z_V (u_bn z (b_lots (z_N z) (z_B z) (ix seed) (ix n)))) (zm_v hzm) 1 (by decide) (by decide)) wkX11_173 (by decide) rfl rfl (Nat.le_of_ble_eq_true rfl) dX11_lots_173 ?_
              refine m_ireti C hQ dX11_lots_176 ?_
              exact PM_of (by unfold s_lots; rw [if_neg (by omega), if_neg (by omega), if_neg (by omega)]) hzm hcm
            replace hh5 := mt (ii_le (nn_i (a := ix n) rfl (by omega)) (nn_i (a := k) rfl (by omega))).mpr hh5
            have hlx := s_lx_lt (seed := ix seed) (by omega) k
            have hlx1 := s_lx_lt (seed := ix seed) (by omega) (k + 1)
            have hN0 : 0 < z_N z := by omega
            have hmod := Nat.mod_lt (s_lx (ix seed) (k + 1) / 8) hN0
            obtain ⟨zk, hzk⟩ : ∃ zk, zk = (u_bn z (b_lots (z_N z) (z_B z) (ix seed) k)) := ⟨_, rfl⟩
            rw [← hzk] at hzm
            have hzkN : z_N zk = z_N z := by rw [hzk]; rfl
            have hzkB : z_B zk = b_lots (z_N z) (z_B z) (ix seed) k := by rw [hzk]; rfl
            have hzku : ∀ B, u_bn zk B = u_bn z B := fun B => by rw [hzk]; rfl
            have hbl := b_lots_len (N := z_N z) (B := z_B z) (seed := ix seed) k
            rw [← hzkB] at hbl
            have hlF := wf_len (wb_last hzm.2.2.1)
            have hlF : (z_B zk).1.length ≤ z_N zk := hlF
            refine m_lload_n C 3 dX11_lots_67 rfl ?_
            refine m_ldc2 C 48271 wcX11_229 dX11_lots_68 ?_
            refine m_lmul C dX11_lots_71 ?_
            refine m_topl (lN ((s_lx (ix seed) k) * 48271)) (ln_mul rfl rfl) ?_
            refine m_ldc2 C 2147483647 wcX11_231 dX11_lots_72 ?_
            refine m_lrem C dX11_lots_75 (by decide) ?_
            refine m_topl (lN (((s_lx (ix seed) k) * 48271) % 2147483647)) (ln_rem rfl rfl (by omega) (by omega) (by omega)) ?_
            refine m_topl (lN (s_lx (ix seed) (k + 1))) rfl ?_
            refine m_lstore_n C [(3, .long (lN (s_lx (ix seed) (k + 1)))), (0, .ref (G.1 64)), (1, .int n), (2, .int seed), (5, .int (nI k))] dX11_lots_76 (by decide) rfl ?_
            refine m_lload_n C 0 dX11_lots_77 rfl ?_
            refine m_ldc2 C 8 wcX11_233 dX11_lots_78 ?_
            refine m_ldiv C dX11_lots_81 (by decide) ?_
            refine m_topl (lN ((s_lx (ix seed) (k + 1)) / 8)) (ln_div rfl rfl (by omega) (by omega) (by omega)) ?_
            refine m_aload_n C 1 dX11_lots_82 rfl ?_
            refine gfX11_7 C dX11_lots_83 ?_
            refine m_iconst C 0 dX11_lots_86 (by decide +kernel) ?_
            refine m_iald C 65 (by decide) sa_65 0 rfl (by omega) (by decide) dX11_lots_87 ?_
            refine m_topi (nI (z_N z)) ((by rw [← hzkN]; exact hzm.2.1.1)) ?_
            refine m_i2l C dX11_lots_88 ?_
            refine m_topl (lN (z_N z)) (ln_i2l rfl (by omega)) ?_
            refine m_lrem C dX11_lots_89 (ln_ne hN0 (by omega)) ?_
            refine m_topl (lN (((s_lx (ix seed) (k + 1)) / 8) % (z_N z))) (ln_rem rfl rfl (by omega) (by omega) (by omega)) ?_
            refine m_l2i C dX11_lots_90 ?_
            refine m_topi (nI (((s_lx (ix seed) (k + 1)) / 8) % (z_N z))) (ln_l2i rfl) ?_
            refine m_istore C [(6, .int (nI (((s_lx (ix seed) (k + 1)) / 8) % (z_N z)))), (3, .long (lN (s_lx (ix seed) (k + 1)))), (0, .ref (G.1 64)), (1, .int n), (2, .int seed), (5, .int (nI k))] dX11_lots_91 (by decide) rfl ?_
            refine m_lload_n C 1 dX11_lots_93 rfl ?_
            refine m_ldc2 C 4 wcX11_136 dX11_lots_94 ?_
            refine m_lrem C dX11_lots_97 (by decide) ?_
            refine m_topl (lN ((s_lx (ix seed) (k + 1)) % 4)) (ln_rem rfl rfl (by omega) (by omega) (by omega)) ?_
            refine m_l2i C dX11_lots_98 ?_
            refine m_topi (nI ((s_lx (ix seed) (k + 1)) % 4)) (ln_l2i rfl) ?_
            refine m_istore C [(7, .int (nI ((s_lx (ix seed) (k + 1)) % 4))), (6, .int (nI (((s_lx (ix seed) (k + 1)) / 8) % (z_N z)))), (3, .long (lN (s_lx (ix seed) (k + 1)))), (0, .ref (G.1 64)), (1, .int n), (2, .int seed), (5, .int (nI k))] dX11_lots_99 (by decide) rfl ?_
            refine m_aload_n C 3 dX11_lots_101 rfl ?_
            refine m_callVv C 64 (by decide) rfl rfl (c_X11_minds l G m n1 (z_B zk).2.2.length hzm.2.1.2.2.2.2.2.1 (by omega)) wkX11_154 (by decide) rfl rfl (Nat.le_of_ble_eq_true rfl) dX11_lots_102 (fun m6 n6 hp6 => ?_)
            obtain ⟨hz1, hc1⟩ := zm_minds (z := zk) hzm (by omega) hp6
            refine m_iload C 0 dX11_lots_105 rfl ?_
            refine m_iconst C 2 dX11_lots_107 (by decide +kernel) ?_
            refine m_icmp_ge C 129 dX11_lots_108 (by decide) (fun hh7 => ?_) (fun hh7 => ?_)
            · replace hh7 := (ii_le (nn_i (a := 2) rfl (by omega)) (nn_i (a := (s_lx (ix seed) (k + 1)) % 4) rfl (by omega))).mp hh7
              refine m_iload C 0 dX11_lots_129 rfl ?_
              refine m_iconst C 3 dX11_lots_131 (by decide +kernel) ?_
              refine m_icmp_ne C 151 dX11_lots_132 (by decide) (fun hh8 => ?_) (fun hh8 => ?_)
              · replace hh8 := mt (ii_eq (nn_i (a := (s_lx (ix seed) (k + 1)) % 4) rfl (by omega)) (nn_i (a := 3) rfl (by omega))).mpr hh8
                refine m_aload_n C 3 dX11_lots_151 rfl ?_
                refine gfX11_7 C dX11_lots_152 ?_
                refine m_iconst C 1 dX11_lots_155 (by decide +kernel) ?_
                refine m_iald C 65 (by decide) sa_65 1 rfl (by omega) (by decide) dX11_lots_156 ?_
                refine m_topi (nI ((z_B zk).1.length)) hz1.2.1.2.1 ?_
                refine m_if_le C 165 dX11_lots_157 (by decide) (fun hh9 => ?_) (fun hh9 => ?_)
                · replace hh9 := (ii_le (nn_i (a := (z_B zk).1.length) rfl (by omega)) (nn_i (a := 0) rfl (by omega))).mp hh9
                  have hz2 : ZM m6 n6 (u_bn z (b_do (z_B zk) 0 0 0)) := by rw [← hzku]; exact hz1
                  have hc2 : z_cm m6 n6 m6 n6 := zcm_rfl
                  have hlk : b_lots (z_N z) (z_B z) (ix seed) (k + 1) = b_do (z_B zk) 0 0 0 := by
                    rw [hzkB] at *
                    exact ((if_neg (by omega)).trans (if_neg (by omega))).trans (if_neg (by omega))
                  refine m_iinc C 6 (nI (k + 1)) [(5, .int (nI (k + 1))), (7, .int (nI ((s_lx (ix seed) (k + 1)) % 4))), (6, .int (nI (((s_lx (ix seed) (k + 1)) / 8) % (z_N z)))), (3, .long (lN (s_lx (ix seed) (k + 1)))), (0, .ref (G.1 64)), (1, .int n), (2, .int seed)] dX11_lots_165 rfl (nn_add rfl (show Int32.ofInt 1 = nI 1 from rfl)) (by decide) rfl ?_
                  refine m_goto C 61 dX11_lots_168 (by decide) ?_
                  exact m_sub [4, 5, 6, 3, 0] rfl (ih61 (k + 1) m6 n6 (by omega) (by rw [hlk]; exact hz2) (hcm.trans (hc1.trans hc2)) (by omega))
                replace hh9 := mt (ii_le (nn_i (a := (z_B zk).1.length) rfl (by omega)) (nn_i (a := 0) rfl (by omega))).mpr hh9
                refine m_aload_n C 3 dX11_lots_160 rfl ?_
                refine m_callVi C 64 (by decide) rfl rfl (c_X11_lifts l G m6 n6 (z_B zk).1.length hz1.2.1.2.1 (by omega) (by omega)) wkX11_161 (by decide) rfl rfl (Nat.le_of_ble_eq_true rfl) dX11_lots_161 (fun r10 m10 n10 hp10 => ?_)
                obtain ⟨hr2, hm2, hn2⟩ := hp10
                obtain ⟨hz2, hc2⟩ := zm_lift1 (z := zk) hzm.2.2.1 hz1 (by omega) hm2 hn2
                rw [hzku] at hz2
                have hlk : b_lots (z_N z) (z_B z) (ix seed) (k + 1) = b_do (z_B zk) 2 ((z_B zk).1.getD ((z_B zk).1.length - 1) 0) 0 := by
                  have hq : 0 < (z_B zk).1.length := by omega
                  rw [hzkB] at *
                  exact (if_neg (by omega)).trans (if_pos ⟨by omega, hq⟩)
                refine m_pop C dX11_lots_164 rfl ?_
                refine m_iinc C 6 (nI (k + 1)) [(5, .int (nI (k + 1))), (7, .int (nI ((s_lx (ix seed) (k + 1)) % 4))), (6, .int (nI (((s_lx (ix seed) (k + 1)) / 8) % (z_N z)))), (3, .long (lN (s_lx (ix seed) (k + 1)))), (0, .ref (G.1 64)), (1, .int n), (2, .int seed)] dX11_lots_165 rfl (nn_add rfl (show Int32.ofInt 1 = nI 1 from rfl)) (by decide) rfl ?_
                refine m_goto C 61 dX11_lots_168 (by decide) ?_
                exact m_sub [4, 5, 6, 3, 0] rfl (ih61 (k + 1) m10 n10 (by omega) (by rw [hlk]; exact hz2) (hcm.trans (hc1.trans hc2)) (by omega))
              replace hh8 := (ii_eq (nn_i (a := (s_lx (ix seed) (k + 1)) % 4) rfl (by omega)) (nn_i (a := 3) rfl (by omega))).mp hh8
              refine m_aload_n C 3 dX11_lots_135 rfl ?_
              refine gfX11_7 C dX11_lots_136 ?_
              refine m_iconst C 2 dX11_lots_139 (by decide +kernel) ?_
              refine m_dup2 C dX11_lots_140 rfl rfl ?_
              refine m_iald C 65 (by decide) sa_65 2 rfl (by omega) (by decide) dX11_lots_141 ?_
              refine m_topi (nI ((z_B zk).2.1)) hz1.2.1.2.2.1 ?_
              refine m_iconst C 1 dX11_lots_142 (by decide +kernel) ?_
              refine m_iload C 1 dX11_lots_143 rfl ?_
              refine m_ishl C dX11_lots_145 ?_
              refine m_topi (nI (2 ^ (((s_lx (ix seed) (k + 1)) / 8) % (z_N z)))) (nn_shl1 rfl (by omega)) ?_
              refine m_ixor C dX11_lots_146 ?_
              refine m_topi (nI (((z_B zk).2.1) ^^^ (2 ^ (((s_lx (ix seed) (k + 1)) / 8) % (z_N z))))) (nn_xor rfl rfl) ?_
              refine m_iast C 65 (by decide) sa_65 2 rfl (by omega) (by decide) dX11_lots_147 ?_
              refine m_nameM (fun mu11 emu11 => ?_)
              obtain ⟨hz2, hc2⟩ := zm_turn1 (z := zk) (i := (s_lx (ix seed) (k + 1) / 8 % z_N z)) (m2 := mu11) hzm.2.2.1 hz1 (by omega) emu11 rfl
              rw [hzku] at hz2
              have hlk : b_lots (z_N z) (z_B z) (ix seed) (k + 1) = b_do (z_B zk) 4 (s_lx (ix seed) (k + 1) / 8 % z_N z) 0 := by
                rw [hzkB]
                exact if_pos (by omega)
              refine m_goto C 165 dX11_lots_148 (by decide) ?_
              refine m_iinc C 6 (nI (k + 1)) [(5, .int (nI (k + 1))), (7, .int (nI ((s_lx (ix seed) (k + 1)) % 4))), (6, .int (nI (((s_lx (ix seed) (k + 1)) / 8) % (z_N z)))), (3, .long (lN (s_lx (ix seed) (k + 1)))), (0, .ref (G.1 64)), (1, .int n), (2, .int seed)] dX11_lots_165 rfl (nn_add rfl (show Int32.ofInt 1 = nI 1 from rfl)) (by decide) rfl ?_
              refine m_goto C 61 dX11_lots_168 (by decide) ?_
              exact m_sub [4, 5, 6, 3, 0] rfl (ih61 (k + 1) mu11 n6 (by omega) (by rw [hlk]; exact hz2) (hcm.trans (hc1.trans hc2)) (by omega))
            replace hh7 := mt (ii_le (nn_i (a := 2) rfl (by omega)) (nn_i (a := (s_lx (ix seed) (k + 1)) % 4) rfl (by omega))).mpr hh7
            refine m_aload_n C 3 dX11_lots_111 rfl ?_
            refine m_iload C 1 dX11_lots_112 rfl ?_
            refine m_callVf C 64 (by decide) rfl rfl (c_X11_placeOf l G m6 n6 (z_V (u_bn zk (b_do (z_B zk) 0 0 0))) (zm_v hz1) (s_lx (ix seed) (k + 1) / 8 % z_N z) (by omega)) wkX11_130 (by decide) rfl rfl (Nat.le_of_ble_eq_true rfl) dX11_lots_114 ?_
            refine m_if_ge C 165 dX11_lots_117 (by decide) (fun hh12 => ?_) (fun hh12 => ?_)
            · replace hh12 := (ii_le (nn_i (a := 0) rfl (by omega)) (rfl : (s_pl (z_B zk).1 (s_lx (ix seed) (k + 1) / 8 % z_N z)).toInt = _)).mp hh12
              have hip : (s_lx (ix seed) (k + 1) / 8 % z_N z) ∈ (z_B zk).1 := Decidable.not_not.mp (mt (pl_lt (F := (z_B zk).1) (i := (s_lx (ix seed) (k + 1) / 8 % z_N z)) (by omega)).mpr (by omega))
              have hz2 : ZM m6 n6 (u_bn z (b_do (z_B zk) 0 0 0)) := by rw [← hzku]; exact hz1
              have hc2 : z_cm m6 n6 m6 n6 := zcm_rfl
              have hlk : b_lots (z_N z) (z_B z) (ix seed) (k + 1) = b_do (z_B zk) 0 0 0 := by
                rw [hzkB]
                exact ((if_neg (by omega)).trans (if_neg (by omega))).trans (if_neg (fun q => absurd q.2 (Decidable.not_not.mpr (by rw [← hzkB]; exact hip))))
              refine m_iinc C 6 (nI (k + 1)) [(5, .int (nI (k + 1))), (7, .int (nI ((s_lx (ix seed) (k + 1)) % 4))), (6, .int (nI (((s_lx (ix seed) (k + 1)) / 8) % (z_N z)))), (3, .long (lN (s_lx (ix seed) (k + 1)))), (0, .ref (G.1 64)), (1, .int n), (2, .int seed)] dX11_lots_165 rfl (nn_add rfl (show Int32.ofInt 1 = nI 1 from rfl)) (by decide) rfl ?_
              refine m_goto C 61 dX11_lots_168 (by decide) ?_
              exact m_sub [4, 5, 6, 3, 0] rfl (ih61 (k + 1) m6 n6 (by omega) (by rw [hlk]; exact hz2) (hcm.trans (hc1.trans hc2)) (by omega))
            replace hh12 := mt (ii_le (nn_i (a := 0) rfl (by omega)) (rfl : (s_pl (z_B zk).1 (s_lx (ix seed) (k + 1) / 8 % z_N z)).toInt = _)).mpr hh12
            have hnp : ¬ (s_lx (ix seed) (k + 1) / 8 % z_N z) ∈ (z_B zk).1 := (pl_lt (F := (z_B zk).1) (i := (s_lx (ix seed) (k + 1) / 8 % z_N z)) (by omega)).mp (by omega)
            refine m_aload_n C 3 dX11_lots_120 rfl ?_
            refine m_iload C 1 dX11_lots_121 rfl ?_
            refine m_callVv C 64 (by decide) rfl rfl (c_X11_lays l G m6 n6 (z_B zk).1.length hz1.2.1.2.1 (lay_lt7 (N := z_N zk) (ov := (z_B zk).2.1) (by omega) (wb_last hzm.2.2.1) (i := (s_lx (ix seed) (k + 1) / 8 % z_N z)) (by omega) hnp) (s_lx (ix seed) (k + 1) / 8 % z_N z)) wkX11_157 (by decide) rfl rfl (Nat.le_of_ble_eq_true rfl) dX11_lots_123 (fun m13 n13 hp13 => ?_)
            obtain ⟨hm2, hn2⟩ := hp13
            obtain ⟨hz2, hc2⟩ := zm_lay1 (z := zk) (i := (s_lx (ix seed) (k + 1) / 8 % z_N z)) hzm.2.2.1 hz1 (by omega) hnp hm2 hn2
            rw [hzku] at hz2
            have hlk : b_lots (z_N z) (z_B z) (ix seed) (k + 1) = b_do (z_B zk) 1 (s_lx (ix seed) (k + 1) / 8 % z_N z) 0 := by
              rw [hzkB]
              exact ((if_neg (by omega)).trans (if_neg (by omega))).trans (if_pos ⟨by omega, by rw [← hzkB]; exact hnp⟩)
            refine m_goto C 165 dX11_lots_126 (by decide) ?_
            refine m_iinc C 6 (nI (k + 1)) [(5, .int (nI (k + 1))), (7, .int (nI ((s_lx (ix seed) (k + 1)) % 4))), (6, .int (nI (((s_lx (ix seed) (k + 1)) / 8) % (z_N z)))), (3, .long (lN (s_lx (ix seed) (k + 1)))), (0, .ref (G.1 64)), (1, .int n), (2, .int seed)] dX11_lots_165 rfl (nn_add rfl (show Int32.ofInt 1 = nI 1 from rfl)) (by decide) rfl ?_
            refine m_goto C 61 dX11_lots_168 (by decide) ?_
            exact m_sub [4, 5, 6, 3, 0] rfl (ih61 (k + 1) m13 n13 (by omega) (by rw [hlk]; exact hz2) (hcm.trans (hc1.trans hc2)) (by omega))
        exact m_sub [2, 3, 4, 1, 0] rfl (L61 (_ + 1) 0 mu nu (Nat.zero_le _) hz zcm_rfl (Nat.lt_succ_self _))
      replace hh4 := mt (ii_le (nn_i (a := ((z_B z).2.2.length) + (ix n)) rfl (by omega)) (nn_i (a := 40) rfl (by omega))).mpr hh4
      refine m_bipush C (-2) dX11_lots_52 (by decide +kernel) ?_
      refine m_ireti C hQ dX11_lots_54 ?_
      exact PM_of (by unfold s_lots; rw [if_neg (by omega), if_neg (by omega), if_pos (by omega)]) hz zcm_rfl
    replace hh3 := (ii_eq (nn_i (a := z_N z) rfl (by omega)) (nn_i (a := 0) rfl (by omega))).mp hh3
    refine m_bipush C (-4) dX11_lots_35 (by decide +kernel) ?_
    refine m_ireti C hQ dX11_lots_37 ?_
    exact PM_of (by unfold s_lots; rw [if_neg (by omega), if_pos (by omega)]) hz zcm_rfl
  replace hh2 := bI_eq0.mp hh2
  refine m_iconst C (-1) dX11_lots_24 (by decide +kernel) ?_
  refine m_ireti C hQ dX11_lots_25 ?_
  exact PM_of (by unfold s_lots; rw [if_pos (by omega)]) hz zcm_rfl
