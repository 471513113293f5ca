/-! the whole state: rods; the bench; kept ones; rows; texts; what was told, findings -/
abbrev Zs : Type := Nat → Option (List Int32)
abbrev Zm : Type := Int32 × Int64 × Int64 × Int32 × (Nat → Int32)
abbrev Zr : Type := Nat × (Nat → Nat) × (Nat → Nat) × (Nat → Nat)
abbrev Zt : Type := Zr × Zb × (Nat → Option Zb) × Zs × Zs × Zm
def z_N (z : Zt) : Nat := z.1.1
def z_B (z : Zt) : Zb := z.2.1
def z_kp (z : Zt) : Nat → Option Zb := z.2.2.1
def z_rw (z : Zt) : Zs := z.2.2.2.1
def z_tx (z : Zt) : Zs := z.2.2.2.2.1
def z_ms (z : Zt) : Zm := z.2.2.2.2.2
def z_V (z : Zt) : Vw := (z.1.1, z.1.2.1, z.1.2.2.1, z.1.2.2.2, z.2.1.1, z.2.1.2.1)
def u_told (z : Zt) (x : Int32) : Zt := (z.1, z.2.1, z.2.2.1, z.2.2.2.1, z.2.2.2.2.1, (x, (z_ms z).2))
def u_frac (z : Zt) (a b : Int64) : Zt := (z.1, z.2.1, z.2.2.1, z.2.2.2.1, z.2.2.2.2.1, ((z_ms z).1, a, b, (z_ms z).2.2.2))
def u_find (z : Zt) (f : Nat) : Zt := (z.1, z.2.1, z.2.2.1, z.2.2.2.1, z.2.2.2.2.1, ((z_ms z).1, (z_ms z).2.1, (z_ms z).2.2.1, nI f, upd (z_ms z).2.2.2.2 f ((z_ms z).2.2.2.2 f + 1)))
def u_row (z : Zt) (r : Nat) (x : Option (List Int32)) : Zt := (z.1, z.2.1, z.2.2.1, va_up (z_rw z) r x, z.2.2.2.2.1, z_ms z)
def u_text (z : Zt) (t : Nat) (x : Option (List Int32)) : Zt := (z.1, z.2.1, z.2.2.1, z_rw z, va_up (z_tx z) t x, z_ms z)
def u_bn (z : Zt) (B : Zb) : Zt := (z.1, B, z.2.2)
def u_kp (z : Zt) (k : Nat) (B : Zb) : Zt := (z.1, z.2.1, va_up (z_kp z) k (some B), z.2.2.2)
/-- the class's cells hold this state -/
def ZC (mu : Mu) (nu : Nu) (z : Zt) : Prop := zv mu (z_V z) ∧ z_b mu 38 (z_N z) (z_B z) ∧ (∀ k, k < 3 → mu (44 + 5 * k) 7 = (if (z_kp z k).isSome = true then 1 else 0) ∧ ∀ B, z_kp z k = some B → z_b mu (44 + 5 * k) (z_N z) B) ∧ (∀ r, r < 6 → z_st mu (2 + 2 * r) 40 (z_rw z r)) ∧ (∀ t, t < 4 → z_st mu (15 + 2 * t) 60 (z_tx z t)) ∧ (mu 0 8 = (z_ms z).1 ∧ nu 0 9 = (z_ms z).2.1 ∧ nu 0 10 = (z_ms z).2.2.1 ∧ mu 0 11 = (z_ms z).2.2.2.1 ∧ ∀ f, f < 6 → mu 63 f = (z_ms z).2.2.2.2 f) ∧ (z_N z = 0 ∨ 2 ≤ z_N z)
/-- only the class's own cells have changed -/
def z_cl (mu : Mu) (nu : Nu) (m : Mu) (n2 : Nu) : Prop := (∀ c, 64 ≤ c → m c = mu c) ∧ ∀ c, 64 ≤ c → n2 c = nu c
theorem zcl_rfl {mu : Mu} {nu : Nu} : z_cl mu nu mu nu := ⟨fun _ _ => rfl, fun _ _ => rfl⟩
theorem z_cl.trans {a b c : Mu} {x y w : Nu} (h1 : z_cl a x b y) (h2 : z_cl b y c w) : z_cl a x c w := ⟨fun q h => (h2.1 q h).trans (h1.1 q h), fun q h => (h2.2 q h).trans (h1.2 q h)⟩
def PC (mu : Mu) (nu : Nu) (o : Int32 × Zt) : Int32 → Mu → Nu → Prop := fun r m n2 => r = o.1 ∧ ZC m n2 o.2 ∧ z_cl mu nu m n2
theorem PC_of {mu m : Mu} {nu n2 : Nu} {o : Int32 × Zt} {r : Int32} {z : Zt} (e : o = (r, z)) (h : ZC m n2 z) (hc : z_cl mu nu m n2) : PC mu nu o r m n2 := by
  rw [e]; exact ⟨rfl, h, hc⟩
theorem zb_keep {mu m : Mu} {b N : Nat} {B : Zb} (h : z_b mu b N B) (hc : ∀ c, b ≤ c → c ≤ b + 4 → m c = mu c) : z_b m b N B := by
  obtain ⟨⟨y1, y2, y3, y4, y5, y6⟩, z2, z3, z4, z5⟩ := h
  refine ⟨⟨by rw [hc b (by omega) (by omega), y1], y2, fun p hp => by rw [hc (b + 1) (by omega) (by omega), y3 p hp], by rw [hc b (by omega) (by omega), y4], y5, y6⟩, by rw [hc b (by omega) (by omega), z2], z3, fun d hd => ?_, z5⟩
  exact z_dd_keep (z4 d hd) (by rw [hc (b + 2) (by omega) (by omega)]) (by rw [hc (b + 3) (by omega) (by omega)]) (by rw [hc (b + 4) (by omega) (by omega)])
theorem zst_keep {mu m : Mu} {c cap : Nat} {x : Option (List Int32)} (h : z_st mu c cap x) (h1 : m c = mu c) (h2 : m (c + 1) = mu (c + 1)) : z_st m c cap x := by
  cases x with
  | none => show m c 1 = -1; rw [h1]; exact h
  | some xs => exact ⟨by rw [h1]; exact h.1, h.2.1, fun j hj => by rw [h2]; exact h.2.2 j hj⟩
theorem zk_keep {mu m : Mu} {N : Nat} {kp : Nat → Option Zb} (h : ∀ k, k < 3 → mu (44 + 5 * k) 7 = (if (kp k).isSome = true then 1 else 0) ∧ ∀ B, kp k = some B → z_b mu (44 + 5 * k) N B) (hc : ∀ c, 44 ≤ c → c < 59 → m c = mu c) : ∀ k, k < 3 → m (44 + 5 * k) 7 = (if (kp k).isSome = true then 1 else 0) ∧ ∀ B, kp k = some B → z_b m (44 + 5 * k) N B := by
  intro k hk
  refine ⟨by rw [hc _ (by omega) (by omega)]; exact (h k hk).1, fun B hB => zb_keep ((h k hk).2 B hB) (fun c h1 h2 => hc c (by omega) (by omega))⟩
theorem zr_keep {mu m : Mu} {x : Zs} (h : ∀ r, r < 6 → z_st mu (2 + 2 * r) 40 (x r)) (hc : ∀ c, 2 ≤ c → c < 14 → m c = mu c) : ∀ r, r < 6 → z_st m (2 + 2 * r) 40 (x r) := fun r hr => zst_keep (h r hr) (hc _ (by omega) (by omega)) (hc _ (by omega) (by omega))
theorem zt_keep {mu m : Mu} {x : Zs} (h : ∀ t, t < 4 → z_st mu (15 + 2 * t) 60 (x t)) (hc : ∀ c, 15 ≤ c → c < 23 → m c = mu c) : ∀ t, t < 4 → z_st m (15 + 2 * t) 60 (x t) := fun r hr => zst_keep (h r hr) (hc _ (by omega) (by omega)) (hc _ (by omega) (by omega))
theorem zc_keep {mu m : Mu} {nu n2 : Nu} {z : Zt} (h : ZC mu nu z) (hc : ∀ c, c < 59 → m c = mu c) (h63 : m 63 = mu 63) (hn : n2 0 = nu 0) : ZC m n2 z := by
  obtain ⟨h1, h2, h3, h4, h5, ⟨a1, a2, a3, a4, a5⟩, h7⟩ := h
  exact ⟨zv_keep h1 (by rw [hc 0 (by decide)]) (fun c _ _ => hc c (by omega)), zb_keep h2 (fun c _ _ => hc c (by omega)), zk_keep h3 (fun c _ _ => hc c (by omega)), zr_keep h4 (fun c _ _ => hc c (by omega)), zt_keep h5 (fun c _ _ => hc c (by omega)), ⟨by rw [hc 0 (by decide)]; exact a1, by rw [hn]; exact a2, by rw [hn]; exact a3, by rw [hc 0 (by decide)]; exact a4, fun f hf => by rw [h63]; exact a5 f hf⟩, h7⟩
theorem zc_told {mu : Mu} {nu : Nu} {z : Zt} {x : Int32} (h : ZC mu nu z) : ZC (mu_up mu 0 8 x) nu (u_told z x) := by
  obtain ⟨h1, h2, h3, h4, h5, ⟨a1, a2, a3, a4, a5⟩, h7⟩ := h
  have k : ∀ c, 1 ≤ c → mu_up mu 0 8 x c = mu c := fun c hc => mu_up_ne (by omega)
  exact ⟨zv_keep h1 (mu_up_an (by decide)) (fun c q _ => k c (by omega)), zb_keep h2 (fun c q _ => k c (by omega)), zk_keep h3 (fun c q _ => k c (by omega)), zr_keep h4 (fun c q _ => k c (by omega)), zt_keep h5 (fun c q _ => k c (by omega)), ⟨mu_up_at, a2, a3, by rw [mu_up_an (by decide)]; exact a4, fun f hf => by rw [k 63 (by decide)]; exact a5 f hf⟩, h7⟩
theorem zcl_told {mu : Mu} {nu : Nu} {x : Int32} : z_cl mu nu (mu_up mu 0 8 x) nu := ⟨fun c h => mu_up_ne (by omega), fun _ _ => rfl⟩
theorem zc_find {mu : Mu} {nu : Nu} {z : Zt} {f : Nat} (h : ZC mu nu z) : ZC (mu_up (mu_up mu 0 11 (nI f)) 63 f (mu 63 f + 1)) nu (u_find z f) ∨ ¬ f < 6 := by
  by_cases hf6 : f < 6
  · left
    obtain ⟨h1, h2, h3, h4, h5, ⟨a1, a2, a3, a4, a5⟩, h7⟩ := h
    have k : ∀ c, 1 ≤ c → c ≠ 63 → mu_up (mu_up mu 0 11 (nI f)) 63 f (mu 63 f + 1) c = mu c := fun c hc h2 => by rw [mu_up_ne h2, mu_up_ne (by omega)]
    have k0 : ∀ j, j ≠ 11 → mu_up (mu_up mu 0 11 (nI f)) 63 f (mu 63 f + 1) 0 j = mu 0 j := fun j hj => by rw [mu_up_ne (by decide), mu_up_an hj]
    refine ⟨zv_keep h1 (k0 4 (by decide)) (fun c q _ => k c (by omega) (by omega)), zb_keep h2 (fun c q _ => k c (by omega) (by omega)), zk_keep h3 (fun c q _ => k c (by omega) (by omega)), zr_keep h4 (fun c q _ => k c (by omega) (by omega)), zt_keep h5 (fun c q _ => k c (by omega) (by omega)), ⟨by rw [k0 8 (by decide)]; exact a1, a2, a3, by rw [mu_up_ne (by decide), mu_up_at]; rfl, fun g hg => ?_⟩, h7⟩
    show _ = upd (z_ms z).2.2.2.2 f ((z_ms z).2.2.2.2 f + 1) g
    by_cases e : g = f
    · rw [e, mu_up_at, pk_us, a5 f hf6]
    · rw [mu_up_an e, pk_un e, mu_up_ne (by decide)]
      exact a5 g hg
  · exact Or.inr hf6
theorem PC_find {mu m : Mu} {nu n2 : Nu} {o : Int32 × Zt} {z : Zt} {f : Nat} (hz : ZC mu nu z) (hf : f < 6) {r : Int32} (hp : r = -3 ∧ m = mu_up (mu_up mu 0 11 (nI f)) 63 f (mu 63 f + 1) ∧ n2 = nu) (e : o = (-3, u_find z f)) : PC mu nu o r m n2 := by
  obtain ⟨rfl, rfl, rfl⟩ := hp
  refine PC_of e ((zc_find hz).resolve_right (fun h => h hf)) ⟨fun c h => ?_, fun _ _ => rfl⟩
  rw [mu_up_ne (by omega), mu_up_ne (by omega)]
theorem zc_row {mu m : Mu} {nu : Nu} {z : Zt} {r : Nat} {x : Option (List Int32)} (h : ZC mu nu z) (hr : r < 6) (hc : ∀ c, c ≠ 2 + 2 * r → c ≠ 3 + 2 * r → m c = mu c) (hx : z_st m (2 + 2 * r) 40 x) : ZC m nu (u_row z r x) ∧ z_cl mu nu m nu := by
  obtain ⟨h1, h2, h3, h4, h5, ⟨a1, a2, a3, a4, a5⟩, h7⟩ := h
  refine ⟨⟨zv_keep h1 (by rw [hc 0 (by omega) (by omega)]) (fun c _ _ => hc c (by omega) (by omega)), zb_keep h2 (fun c _ _ => hc c (by omega) (by omega)), zk_keep h3 (fun c _ _ => hc c (by omega) (by omega)), fun s hs => ?_, zt_keep h5 (fun c _ _ => hc c (by omega) (by omega)), ⟨by rw [hc 0 (by omega) (by omega)]; exact a1, a2, a3, by rw [hc 0 (by omega) (by omega)]; exact a4, fun f hf => by rw [hc 63 (by omega) (by omega)]; exact a5 f hf⟩, h7⟩, fun c _ => hc c (by omega) (by omega), fun _ _ => rfl⟩
  show z_st m (2 + 2 * s) 40 (va_up (z_rw z) r x s)
  by_cases e : s = r
  · subst e
    simp only [va_up, if_true]; exact hx
  · simp only [va_up, if_neg e]
    exact zst_keep (h4 s hs) (hc _ (by omega) (by omega)) (hc _ (by omega) (by omega))
theorem zc_text {mu m : Mu} {nu : Nu} {z : Zt} {r : Nat} {x : Option (List Int32)} (h : ZC mu nu z) (hr : r < 4) (hc : ∀ c, c ≠ 15 + 2 * r → c ≠ 16 + 2 * r → m c = mu c) (hx : z_st m (15 + 2 * r) 60 x) : ZC m nu (u_text z r x) ∧ z_cl mu nu m nu := by
  obtain ⟨h1, h2, h3, h4, h5, ⟨a1, a2, a3, a4, a5⟩, h7⟩ := h
  refine ⟨⟨zv_keep h1 (by rw [hc 0 (by omega) (by omega)]) (fun c _ _ => hc c (by omega) (by omega)), zb_keep h2 (fun c _ _ => hc c (by omega) (by omega)), zk_keep h3 (fun c _ _ => hc c (by omega) (by omega)), zr_keep h4 (fun c _ _ => hc c (by omega) (by omega)), fun s hs => ?_, ⟨by rw [hc 0 (by omega) (by omega)]; exact a1, a2, a3, by rw [hc 0 (by omega) (by omega)]; exact a4, fun f hf => by rw [hc 63 (by omega) (by omega)]; exact a5 f hf⟩, h7⟩, fun c _ => hc c (by omega) (by omega), fun _ _ => rfl⟩
  show z_st m (15 + 2 * s) 60 (va_up (z_tx z) r x s)
  by_cases e : s = r
  · subst e
    simp only [va_up, if_true]; exact hx
  · simp only [va_up, if_neg e]
    exact zst_keep (h5 s hs) (hc _ (by omega) (by omega)) (hc _ (by omega) (by omega))
def ix (x : Int32) : Nat := x.toInt.toNat
theorem ix_eq {x : Int32} (h : 0 ≤ x.toInt) : x = nI (ix x) ∧ (ix x : Int) = x.toInt := by
  unfold ix
  exact ⟨nn_ofN (by omega), by omega⟩
theorem st_fill {mu : Mu} {c cap n : Nat} {w : Int32} (hn : n ≤ cap) : z_st (mu_row (mu_up mu c 1 (nI n)) (c + 1) (fun j => if j < n then w else mu (c + 1) j)) c cap (some (List.replicate n w)) := by
  refine ⟨?_, by simpa using hn, fun j hj => ?_⟩
  · rw [mu_row_ne (by omega), mu_up_at]; simp
  · simp only [List.length_replicate] at hj
    rw [mu_row_eq, if_pos hj]
    simp [List.getD, hj]
theorem gdI_set {xs : List Int32} {i j : Nat} {v : Int32} (h : i < xs.length) : (xs.set i v).getD j 0 = if j = i then v else xs.getD j 0 := by
  by_cases e : j = i
  · subst e
    simp [List.getD, h]
  · rw [if_neg e]
    simp [List.getD, List.getElem?_set_ne (fun z => e z.symm)]
theorem st_set {mu : Mu} {c cap i : Nat} {v : Int32} {xs : List Int32} (h : z_st mu c cap (some xs)) (hi : i < xs.length) : z_st (mu_up mu (c + 1) i v) c cap (some (xs.set i v)) := by
  obtain ⟨h1, h2, h3⟩ := h
  refine ⟨by rw [mu_up_ne (by omega), h1]; simp, by simpa using h2, fun j hj => ?_⟩
  rw [gdI_set hi]
  by_cases e : j = i
  · rw [if_pos e, e, mu_up_at]
  · rw [if_neg e, mu_up_an e]
    exact h3 j (by simpa using hj)
/-! what the calls answer -/
def s_row (z : Zt) (r n : Int32) : Int32 × Zt := if ¬ (0 ≤ r.toInt ∧ r.toInt < 6) ∨ 40 < n.toInt then (-1, z) else if n.toInt < 0 then (-3, u_find z 5) else (n, u_row z (ix r) (some (List.replicate (ix n) 0)))
def s_text (z : Zt) (r n : Int32) : Int32 × Zt := if ¬ (0 ≤ r.toInt ∧ r.toInt < 4) ∨ 60 < n.toInt then (-1, z) else if n.toInt < 0 then (-3, u_find z 5) else (n, u_text z (ix r) (some (List.replicate (ix n) 32)))
def s_lay (z : Zt) (r i v : Int32) : Int32 × Zt := if ¬ (0 ≤ r.toInt ∧ r.toInt < 6) then (-1, z) else match z_rw z (ix r) with
  | none => (-3, u_find z 1)
  | some xs => if 0 ≤ i.toInt ∧ i.toInt < xs.length then (1, u_row (u_told z (xs.getD (ix i) 0)) (ix r) (some (xs.set (ix i) v))) else (-3, u_find z 2)
def s_atq (z : Zt) (r i : Int32) : Int32 × Zt := if ¬ (0 ≤ r.toInt ∧ r.toInt < 6) then (-1, z) else match z_rw z (ix r) with
  | none => (-3, u_find z 1)
  | some xs => if 0 ≤ i.toInt ∧ i.toInt < xs.length then (1, u_told z (xs.getD (ix i) 0)) else (-3, u_find z 2)
def s_tear (z : Zt) (r : Int32) : Int32 × Zt := if ¬ (0 ≤ r.toInt ∧ r.toInt < 6) then (-1, z) else match z_rw z (ix r) with
  | none => (-3, u_find z 1)
  | some _ => (1, u_row z (ix r) none)
def s_put (z : Zt) (r i v : Int32) : Int32 × Zt := if ¬ (0 ≤ r.toInt ∧ r.toInt < 4) then (-1, z) else match z_tx z (ix r) with
  | none => (-3, u_find z 1)
  | some xs => if 0 ≤ i.toInt ∧ i.toInt < xs.length then (xs.getD (ix i) 0 + 1000, u_text z (ix r) (some (xs.set (ix i) v.toInt8.toInt32))) else (-3, u_find z 2)
theorem s_up_le {x : Option (List Int32)} {i : Int32} : s_up x i ≤ 2 := by
  unfold s_up
  cases x with
  | none => exact (show 1 ≤ 2 by decide)
  | some xs => dsimp only; split <;> decide
theorem s_up0 {x : Option (List Int32)} {i : Int32} (h : s_up x i = 0) : ∃ xs, x = some xs ∧ (0 ≤ i.toInt ∧ i.toInt < xs.length) := by
  cases x with
  | none => exact absurd (show 1 = 0 from h) (by decide)
  | some xs =>
    refine ⟨xs, rfl, ?_⟩
    unfold s_up at h
    dsimp only at h
    by_cases q : 0 ≤ i.toInt ∧ i.toInt < xs.length
    · exact q
    · rw [if_neg q] at h; exact absurd h (by decide)
set_option maxHeartbeats 4000000 in
set_option maxRecDepth 100000 in
theorem c_X10_row (l : Launch) (G : Gl) (mu : Mu) (nu : Nu) (z : Zt) (hz : ZC mu nu z) (r n : Int32) : Ci l G mX10_row 3 [.ref (G.1 0), .int r, .int n] mu nu (PC mu nu (s_row z r n)) := by
  refine Ct.of (lv := [(0, .ref (G.1 0)), (1, .int r), (2, .int n)]) rfl rfl (Nat.le_of_ble_eq_true rfl) rfl (fun X C => ?_)
  generalize hQ : g_E G X _ = Q
  replace C : Cx G 3 X cX10_row RX10 (some .int) 3 := C
  show Mq l G 3 X Q 0 [(0, .ref (G.1 0)), (1, .int r), (2, .int n)] [] mu nu
  refine m_iload_n C 1 dX10_row_0 rfl ?_
  refine m_callSf C (c_X10_isRow l G mu nu r) wkX10_76 (by decide) rfl rfl (Nat.le_of_ble_eq_true rfl) dX10_row_1 ?_
  refine m_if_eq C 13 dX10_row_4 (by decide) (fun hh1 => ?_) (fun hh1 => ?_)
  · replace hh1 := bI_eq0.mp hh1
    refine m_iconst C (-1) dX10_row_13 (by decide +kernel) ?_
    refine m_ireti C hQ dX10_row_14 ?_
    exact PC_of (by unfold s_row; rw [if_pos (by omega)]) hz zcl_rfl
  replace hh1 := bI_ne0.mp hh1
  refine m_iload_n C 2 dX10_row_7 rfl ?_
  refine m_bipush C 40 dX10_row_8 (by decide +kernel) ?_
  refine m_icmp_le C 15 dX10_row_10 (by decide) (fun hh2 => ?_) (fun hh2 => ?_)
  · replace hh2 := (ii_le (rfl : (n).toInt = _) (nn_i (a := 40) rfl (by omega))).mp hh2
    refine m_iload_n C 2 dX10_row_15 rfl ?_
    refine m_if_ge C 25 dX10_row_16 (by decide) (fun hh3 => ?_) (fun hh3 => ?_)
    · replace hh3 := (ii_le (nn_i (a := 0) rfl (by omega)) (rfl : (n).toInt = _)).mp hh3
      obtain ⟨er, kr⟩ := ix_eq (x := r) (by omega)
      obtain ⟨en, kn⟩ := ix_eq (x := n) (by omega)
      refine m_aload_n C 0 dX10_row_25 rfl ?_
      refine gfX10_11 C dX10_row_26 ?_
      refine m_iload_n C 1 dX10_row_29 rfl ?_
      refine m_topi (nI (ix r)) er ?_
      refine m_aald C 1 (by decide) 1 rfl ra_1 (ix r) (G.1 (2 + 2 * (ix r))) rfl (by omega) (by decide) rfl dX10_row_30 ?_
      refine m_iload_n C 2 dX10_row_31 rfl ?_
      refine m_topi (nI (ix n)) en ?_
      refine m_iconst C 0 dX10_row_32 (by decide +kernel) ?_
      refine m_callVv C (2 + 2 * (ix r)) (stc_lt (stc_row (by omega))) (sh_strip (stc_row (by omega)) _ _) rfl (c_X7_make l G mu nu (2 + 2 * ix r) (stc_row (by omega)) (ix n) 0 (by omega)) wkX10_84 (by decide) rfl rfl (Nat.le_of_ble_eq_true rfl) dX10_row_33 (fun m4 n4 hp4 => ?_)
      refine m_iload_n C 2 dX10_row_36 rfl ?_
      refine m_topi (nI (ix n)) en ?_
      refine m_ireti C hQ dX10_row_37 ?_
      obtain ⟨e1, e2⟩ := hp4
      obtain ⟨q1, q2⟩ := zc_row (x := some (List.replicate (ix n) 0)) hz (r := ix r) (by omega) (m := m4) (fun c c1 c2 => by rw [e1, mu_row_ne (by omega), mu_up_ne (by omega)]) (by rw [e1]; exact st_fill (by omega))
      rw [e2]; exact PC_of (by unfold s_row; rw [if_neg (by omega), if_neg (by omega), ← en]) q1 q2
    replace hh3 := mt (ii_le (nn_i (a := 0) rfl (by omega)) (rfl : (n).toInt = _)).mpr hh3
    refine m_aload_n C 0 dX10_row_19 rfl ?_
    refine m_iconst C 5 dX10_row_20 (by decide +kernel) ?_
    refine m_callVi C 0 (by decide) rfl rfl (c_X10_found l G mu nu 5 (by decide)) wkX10_80 (by decide) rfl rfl (Nat.le_of_ble_eq_true rfl) dX10_row_21 (fun r5 m5 n5 hp5 => ?_)
    refine m_ireti C hQ dX10_row_24 ?_
    exact PC_find hz (by decide) hp5 (by unfold s_row; rw [if_neg (by omega), if_pos (by omega)])
  replace hh2 := mt (ii_le (rfl : (n).toInt = _) (nn_i (a := 40) rfl (by omega))).mpr hh2
  refine m_iconst C (-1) dX10_row_13 (by decide +kernel) ?_
  refine m_ireti C hQ dX10_row_14 ?_
  exact PC_of (by unfold s_row; rw [if_pos (by omega)]) hz zcl_rfl

set_option maxHeartbeats 4000000 in
set_option maxRecDepth 100000 in
theorem c_X10_text (l : Launch) (G : Gl) (mu : Mu) (nu : Nu) (z : Zt) (hz : ZC mu nu z) (r n : Int32) : Ci l G mX10_text 3 [.ref (G.1 0), .int r, .int n] mu nu (PC mu nu (s_text z r n)) := by
  refine Ct.of (lv := [(0, .ref (G.1 0)), (1, .int r), (2, .int n)]) rfl rfl (Nat.le_of_ble_eq_true rfl) rfl (fun X C => ?_)
  generalize hQ : g_E G X _ = Q
  replace C : Cx G 3 X cX10_text RX10 (some .int) 3 := C
  show Mq l G 3 X Q 0 [(0, .ref (G.1 0)), (1, .int r), (2, .int n)] [] mu nu
  refine m_iload_n C 1 dX10_text_0 rfl ?_
  refine m_callSf C (c_X10_isText l G mu nu r) wkX10_116 (by decide) rfl rfl (Nat.le_of_ble_eq_true rfl) dX10_text_1 ?_
  refine m_if_eq C 13 dX10_text_4 (by decide) (fun hh1 => ?_) (fun hh1 => ?_)
  · replace hh1 := bI_eq0.mp hh1
    refine m_iconst C (-1) dX10_text_13 (by decide +kernel) ?_
    refine m_ireti C hQ dX10_text_14 ?_
    exact PC_of (by unfold s_text; rw [if_pos (by omega)]) hz zcl_rfl
  replace hh1 := bI_ne0.mp hh1
  refine m_iload_n C 2 dX10_text_7 rfl ?_
  refine m_bipush C 60 dX10_text_8 (by decide +kernel) ?_
  refine m_icmp_le C 15 dX10_text_10 (by decide) (fun hh2 => ?_) (fun hh2 => ?_)
  · replace hh2 := (ii_le (rfl : (n).toInt = _) (nn_i (a := 60) rfl (by omega))).mp hh2
    refine m_iload_n C 2 dX10_text_15 rfl ?_
    refine m_if_ge C 25 dX10_text_16 (by decide) (fun hh3 => ?_) (fun hh3 => ?_)
    · replace hh3 := (ii_le (nn_i (a := 0) rfl (by omega)) (rfl : (n).toInt = _)).mp hh3
      obtain ⟨er, kr⟩ := ix_eq (x := r) (by omega)
      obtain ⟨en, kn⟩ := ix_eq (x := n) (by omega)
      refine m_aload_n C 0 dX10_text_25 rfl ?_
      refine gfX10_16 C dX10_text_26 ?_
      refine m_iload_n C 1 dX10_text_29 rfl ?_
      refine m_topi (nI (ix r)) er ?_
      refine m_aald C 14 (by decide) 1 rfl ra_14 (ix r) (G.1 (15 + 2 * (ix r))) rfl (by omega) (by decide) rfl dX10_text_30 ?_
      refine m_iload_n C 2 dX10_text_31 rfl ?_
      refine m_topi (nI (ix n)) en ?_
      refine m_bipush C 32 dX10_text_32 (by decide +kernel) ?_
      refine m_callVv C (15 + 2 * (ix r)) (stc_lt (stc_text (by omega))) (sh_strip (stc_text (by omega)) _ _) rfl (c_X7_make l G mu nu (15 + 2 * ix r) (stc_text (by omega)) (ix n) 32 (by omega)) wkX10_84 (by decide) rfl rfl (Nat.le_of_ble_eq_true rfl) dX10_text_34 (fun m4 n4 hp4 => ?_)
      refine m_iload_n C 2 dX10_text_37 rfl ?_
      refine m_topi (nI (ix n)) en ?_
      refine m_ireti C hQ dX10_text_38 ?_
      obtain ⟨e1, e2⟩ := hp4
      obtain ⟨q1, q2⟩ := zc_text (x := some (List.replicate (ix n) 32)) hz (r := ix r) (by omega) (m := m4) (fun c c1 c2 => by rw [e1, mu_row_ne (by omega), mu_up_ne (by omega)]) (by rw [e1]; exact st_fill (by omega))
      rw [e2]; exact PC_of (by unfold s_text; rw [if_neg (by omega), if_neg (by omega), ← en]) q1 q2
    replace hh3 := mt (ii_le (nn_i (a := 0) rfl (by omega)) (rfl : (n).toInt = _)).mpr hh3
    refine m_aload_n C 0 dX10_text_19 rfl ?_
    refine m_iconst C 5 dX10_text_20 (by decide +kernel) ?_
    refine m_callVi C 0 (by decide) rfl rfl (c_X10_found l G mu nu 5 (by decide)) wkX10_80 (by decide) rfl rfl (Nat.le_of_ble_eq_true rfl) dX10_text_21 (fun r5 m5 n5 hp5 => ?_)
    refine m_ireti C hQ dX10_text_24 ?_
    exact PC_find hz (by decide) hp5 (by unfold s_text; rw [if_neg (by omega), if_pos (by omega)])
  replace hh2 := mt (ii_le (rfl : (n).toInt = _) (nn_i (a := 60) rfl (by omega))).mpr hh2
  refine m_iconst C (-1) dX10_text_13 (by decide +kernel) ?_
  refine m_ireti C hQ dX10_text_14 ?_
  exact PC_of (by unfold s_text; rw [if_pos (by omega)]) hz zcl_rfl

set_option maxHeartbeats 4000000 in
set_option maxRecDepth 100000 in
theorem c_X10_at (l : Launch) (G : Gl) (mu : Mu) (nu : Nu) (z : Zt) (hz : ZC mu nu z) (r i : Int32) : Ci l G mX10_at 4 [.ref (G.1 0), .int r, .int i] mu nu (PC mu nu (s_atq z r i)) := by
  have hs2 := s_up_le (x := z_rw z (ix r)) (i := i)
  refine Ct.of (lv := [(0, .ref (G.1 0)), (1, .int r), (2, .int i)]) rfl rfl (Nat.le_of_ble_eq_true rfl) rfl (fun X C => ?_)
  generalize hQ : g_E G X _ = Q
  replace C : Cx G 4 X cX10_at RX10 (some .int) 4 := C
  show Mq l G 4 X Q 0 [(0, .ref (G.1 0)), (1, .int r), (2, .int i)] [] mu nu
  refine m_iload_n C 1 dX10_at_0 rfl ?_
  refine m_callSf C (c_X10_isRow l G mu nu r) wkX10_76 (by decide) rfl rfl (Nat.le_of_ble_eq_true rfl) dX10_at_1 ?_
  refine m_if_ne C 9 dX10_at_4 (by decide) (fun hh1 => ?_) (fun hh1 => ?_)
  · replace hh1 := bI_ne0.mp hh1
    obtain ⟨er, kr⟩ := ix_eq (x := r) (by omega)
    refine m_aload_n C 0 dX10_at_9 rfl ?_
    refine gfX10_11 C dX10_at_10 ?_
    refine m_iload_n C 1 dX10_at_13 rfl ?_
    refine m_topi (nI (ix r)) er ?_
    refine m_aald C 1 (by decide) 1 rfl ra_1 (ix r) (G.1 (2 + 2 * (ix r))) rfl (by omega) (by decide) rfl dX10_at_14 ?_
    refine m_iload_n C 2 dX10_at_15 rfl ?_
    refine m_callSf C (c_X10_unfitPlace l G mu nu (2 + 2 * ix r) (stc_row (by omega)) 40 (by decide) (z_rw z (ix r)) (hz.2.2.2.1 (ix r) (by omega)) i) wkX10_88 (by decide) rfl rfl (Nat.le_of_ble_eq_true rfl) dX10_at_16 ?_
    refine m_istore_n C [(3, .int (nI (s_up (z_rw z (ix r)) i))), (0, .ref (G.1 0)), (1, .int r), (2, .int i)] dX10_at_19 (by decide) rfl ?_
    refine m_iload_n C 0 dX10_at_20 rfl ?_
    refine m_if_eq C 30 dX10_at_21 (by decide) (fun hh2 => ?_) (fun hh2 => ?_)
    · replace hh2 := (ii_eq (nn_i (a := s_up (z_rw z (ix r)) i) rfl (by omega)) (nn_i (a := 0) rfl (by omega))).mp hh2
      obtain ⟨xs, hxe, hin⟩ : ∃ xs, z_rw z (ix r) = some xs ∧ (0 ≤ i.toInt ∧ i.toInt < xs.length) := s_up0 (by omega)
      obtain ⟨ei, ki⟩ := ix_eq (x := i) hin.1
      have hxs := hz.2.2.2.1 (ix r) (by omega)
      rw [hxe] at hxs
      obtain ⟨hx1, hx2, hx3⟩ := hxs
      refine m_aload_n C 1 dX10_at_30 rfl ?_
      refine m_aload_n C 1 dX10_at_31 rfl ?_
      refine gfX10_11 C dX10_at_32 ?_
      refine m_iload_n C 2 dX10_at_35 rfl ?_
      refine m_topi (nI (ix r)) er ?_
      refine m_aald C 1 (by decide) 1 rfl ra_1 (ix r) (G.1 (2 + 2 * (ix r))) rfl (by omega) (by decide) rfl dX10_at_36 ?_
      refine gfX10_92 C (2 + 2 * (ix r)) (stc_row (by omega)) dX10_at_37 ?_
      refine m_iload_n C 3 dX10_at_40 rfl ?_
      refine m_topi (nI (ix i)) ei ?_
      refine m_iald C (2 + 2 * (ix r) + 1) (stc_lt1 (stc_row (by omega))) (sa_strip (stc_row (by omega))) (ix i) rfl (by omega) (by decide) dX10_at_41 ?_
      refine m_topi (xs.getD (ix i) 0) (hx3 _ (by omega)) ?_
      refine pfX10_95 C dX10_at_42 ?_
      refine m_nameM (fun mu3 emu3 => ?_)
      refine m_iconst C 1 dX10_at_45 (by decide +kernel) ?_
      refine m_ireti C hQ dX10_at_46 ?_
      rw [emu3]; exact PC_of (by unfold s_atq; rw [if_neg (by omega)]; simp only [hxe]; rw [if_pos hin]) (zc_told hz) zcl_told
    replace hh2 := mt (ii_eq (nn_i (a := s_up (z_rw z (ix r)) i) rfl (by omega)) (nn_i (a := 0) rfl (by omega))).mpr hh2
    refine m_aload_n C 1 dX10_at_24 rfl ?_
    refine m_iload_n C 0 dX10_at_25 rfl ?_
    refine m_callVi C 0 (by decide) rfl rfl (c_X10_found l G mu nu (s_up (z_rw z (ix r)) i) (by omega)) wkX10_80 (by decide) rfl rfl (Nat.le_of_ble_eq_true rfl) dX10_at_26 (fun r4 m4 n4 hp4 => ?_)
    refine m_ireti C hQ dX10_at_29 ?_
    cases hxe : z_rw z (ix r) with
    | none => rw [hxe, show s_up none i = 1 from rfl] at hp4; exact PC_find hz (by decide) hp4 (by unfold s_atq; rw [if_neg (by omega)]; simp only [hxe])
    | some xs =>
      rw [hxe] at hp4 hh2
      have hin : ¬ (0 ≤ i.toInt ∧ i.toInt < xs.length) := fun q => hh2 (by show ((s_up (some xs) i : Nat) : Int) = 0; unfold s_up; dsimp only; rw [if_pos q]; rfl)
      have e2 : s_up (some xs) i = 2 := by unfold s_up; dsimp only; exact if_neg hin
      rw [e2] at hp4
      exact PC_find hz (by decide) hp4 (by unfold s_atq; rw [if_neg (by omega)]; simp only [hxe]; rw [if_neg hin])
  replace hh1 := bI_eq0.mp hh1
  refine m_iconst C (-1) dX10_at_7 (by decide +kernel) ?_
  refine m_ireti C hQ dX10_at_8 ?_
  exact PC_of (by unfold s_atq; rw [if_pos (by omega)]) hz zcl_rfl

set_option maxHeartbeats 4000000 in
set_option maxRecDepth 100000 in
theorem c_X10_lay (l : Launch) (G : Gl) (mu : Mu) (nu : Nu) (z : Zt) (hz : ZC mu nu z) (r i v : Int32) : Ci l G mX10_lay 4 [.ref (G.1 0), .int r, .int i, .int v] mu nu (PC mu nu (s_lay z r i v)) := by
  have hs2 := s_up_le (x := z_rw z (ix r)) (i := i)
  refine Ct.of (lv := [(0, .ref (G.1 0)), (1, .int r), (2, .int i), (3, .int v)]) rfl rfl (Nat.le_of_ble_eq_true rfl) rfl (fun X C => ?_)
  generalize hQ : g_E G X _ = Q
  replace C : Cx G 5 X cX10_lay RX10 (some .int) 4 := C
  show Mq l G 5 X Q 0 [(0, .ref (G.1 0)), (1, .int r), (2, .int i), (3, .int v)] [] mu nu
  refine m_iload_n C 1 dX10_lay_0 rfl ?_
  refine m_callSf C (c_X10_isRow l G mu nu r) wkX10_76 (by decide) rfl rfl (Nat.le_of_ble_eq_true rfl) dX10_lay_1 ?_
  refine m_if_ne C 9 dX10_lay_4 (by decide) (fun hh1 => ?_) (fun hh1 => ?_)
  · replace hh1 := bI_ne0.mp hh1
    obtain ⟨er, kr⟩ := ix_eq (x := r) (by omega)
    refine m_aload_n C 0 dX10_lay_9 rfl ?_
    refine gfX10_11 C dX10_lay_10 ?_
    refine m_iload_n C 1 dX10_lay_13 rfl ?_
    refine m_topi (nI (ix r)) er ?_
    refine m_aald C 1 (by decide) 1 rfl ra_1 (ix r) (G.1 (2 + 2 * (ix r))) rfl (by omega) (by decide) rfl dX10_lay_14 ?_
    refine m_iload_n C 2 dX10_lay_15 rfl ?_
    refine m_callSf C (c_X10_unfitPlace l G mu nu (2 + 2 * ix r) (stc_row (by omega)) 40 (by decide) (z_rw z (ix r)) (hz.2.2.2.1 (ix r) (by omega)) i) wkX10_88 (by decide) rfl rfl (Nat.le_of_ble_eq_true rfl) dX10_lay_16 ?_
    refine m_istore C [(4, .int (nI (s_up (z_rw z (ix r)) i))), (0, .ref (G.1 0)), (1, .int r), (2, .int i), (3, .int v)] dX10_lay_19 (by decide) rfl ?_
    refine m_iload C 0 dX10_lay_21 rfl ?_
    refine m_if_eq C 33 dX10_lay_23 (by decide) (fun hh2 => ?_) (fun hh2 => ?_)
    · replace hh2 := (ii_eq (nn_i (a := s_up (z_rw z (ix r)) i) rfl (by omega)) (nn_i (a := 0) rfl (by omega))).mp hh2
      obtain ⟨xs, hxe, hin⟩ : ∃ xs, z_rw z (ix r) = some xs ∧ (0 ≤ i.toInt ∧ i.toInt < xs.length) := s_up0 (by omega)
      obtain ⟨ei, ki⟩ := ix_eq (x := i) hin.1
      have hxs := hz.2.2.2.1 (ix r) (by omega)
      rw [hxe] at hxs
      obtain ⟨hx1, hx2, hx3⟩ := hxs
      refine m_aload_n C 1 dX10_lay_33 rfl ?_
      refine m_aload_n C 1 dX10_lay_34 rfl ?_
      refine gfX10_11 C dX10_lay_35 ?_
      refine m_iload_n C 2 dX10_lay_38 rfl ?_
      refine m_topi (nI (ix r)) er ?_
      refine m_aald C 1 (by decide) 1 rfl ra_1 (ix r) (G.1 (2 + 2 * (ix r))) rfl (by omega) (by decide) rfl dX10_lay_39 ?_
      refine gfX10_92 C (2 + 2 * (ix r)) (stc_row (by omega)) dX10_lay_40 ?_
      refine m_iload_n C 3 dX10_lay_43 rfl ?_
      refine m_topi (nI (ix i)) ei ?_
      refine m_iald C (2 + 2 * (ix r) + 1) (stc_lt1 (stc_row (by omega))) (sa_strip (stc_row (by omega))) (ix i) rfl (by omega) (by decide) dX10_lay_44 ?_
      refine m_topi (xs.getD (ix i) 0) (hx3 _ (by omega)) ?_
      refine pfX10_95 C dX10_lay_45 ?_
      refine m_nameM (fun mu3 emu3 => ?_)
      refine m_aload_n C 1 dX10_lay_48 rfl ?_
      refine gfX10_11 C dX10_lay_49 ?_
      refine m_iload_n C 2 dX10_lay_52 rfl ?_
      refine m_topi (nI (ix r)) er ?_
      refine m_aald C 1 (by decide) 1 rfl ra_1 (ix r) (G.1 (2 + 2 * (ix r))) rfl (by omega) (by decide) rfl dX10_lay_53 ?_
      refine gfX10_92 C (2 + 2 * (ix r)) (stc_row (by omega)) dX10_lay_54 ?_
      refine m_iload_n C 3 dX10_lay_57 rfl ?_
      refine m_topi (nI (ix i)) ei ?_
      refine m_iload_n C 4 dX10_lay_58 rfl ?_
      refine m_iast C (2 + 2 * (ix r) + 1) (stc_lt1 (stc_row (by omega))) (sa_strip (stc_row (by omega))) (ix i) rfl (by omega) (by decide) dX10_lay_59 ?_
      refine m_nameM (fun mu4 emu4 => ?_)
      refine m_iconst C 1 dX10_lay_60 (by decide +kernel) ?_
      refine m_ireti C hQ dX10_lay_61 ?_
      obtain ⟨q1, q2⟩ := zc_row (x := some (xs.set (ix i) v)) (m := mu4) (zc_told (x := xs.getD (ix i) 0) hz) (r := ix r) (by omega) (fun c c1 c2 => by rw [emu4, mu_up_ne (by omega), emu3]) (by rw [emu4]; exact st_set (show z_st _ _ _ (some xs) from by rw [emu3]; exact ⟨by rw [mu_up_ne (by omega)]; exact hx1, hx2, fun j hj => by rw [mu_up_ne (by omega)]; exact hx3 j hj⟩) (by omega))
      exact PC_of (by unfold s_lay; rw [if_neg (by omega)]; simp only [hxe]; rw [if_pos hin]) q1 (zcl_told.trans q2)
    replace hh2 := mt (ii_eq (nn_i (a := s_up (z_rw z (ix r)) i) rfl (by omega)) (nn_i (a := 0) rfl (by omega))).mpr hh2
    refine m_aload_n C 1 dX10_lay_26 rfl ?_
    refine m_iload C 0 dX10_lay_27 rfl ?_
    refine m_callVi C 0 (by decide) rfl rfl (c_X10_found l G mu nu (s_up (z_rw z (ix r)) i) (by omega)) wkX10_80 (by decide) rfl rfl (Nat.le_of_ble_eq_true rfl) dX10_lay_29 (fun r5 m5 n5 hp5 => ?_)
    refine m_ireti C hQ dX10_lay_32 ?_
    cases hxe : z_rw z (ix r) with
    | none => rw [hxe, show s_up none i = 1 from rfl] at hp5; exact PC_find hz (by decide) hp5 (by unfold s_lay; rw [if_neg (by omega)]; simp only [hxe])
    | some xs =>
      rw [hxe] at hp5 hh2
      have hin : ¬ (0 ≤ i.toInt ∧ i.toInt < xs.length) := fun q => hh2 (by show ((s_up (some xs) i : Nat) : Int) = 0; unfold s_up; dsimp only; rw [if_pos q]; rfl)
      have e2 : s_up (some xs) i = 2 := by unfold s_up; dsimp only; exact if_neg hin
      rw [e2] at hp5
      exact PC_find hz (by decide) hp5 (by unfold s_lay; rw [if_neg (by omega)]; simp only [hxe]; rw [if_neg hin])
  replace hh1 := bI_eq0.mp hh1
  refine m_iconst C (-1) dX10_lay_7 (by decide +kernel) ?_
  refine m_ireti C hQ dX10_lay_8 ?_
  exact PC_of (by unfold s_lay; rw [if_pos (by omega)]) hz zcl_rfl

set_option maxHeartbeats 4000000 in
set_option maxRecDepth 100000 in
theorem c_X10_put (l : Launch) (G : Gl) (mu : Mu) (nu : Nu) (z : Zt) (hz : ZC mu nu z) (r i v : Int32) : Ci l G mX10_put 4 [.ref (G.1 0), .int r, .int i, .int v] mu nu (PC mu nu (s_put z r i v)) := by
  have hs2 := s_up_le (x := z_tx z (ix r)) (i := i)
  refine Ct.of (lv := [(0, .ref (G.1 0)), (1, .int r), (2, .int i), (3, .int v)]) rfl rfl (Nat.le_of_ble_eq_true rfl) rfl (fun X C => ?_)
  generalize hQ : g_E G X _ = Q
  replace C : Cx G 6 X cX10_put RX10 (some .int) 4 := C
  show Mq l G 6 X Q 0 [(0, .ref (G.1 0)), (1, .int r), (2, .int i), (3, .int v)] [] mu nu
  refine m_iload_n C 1 dX10_put_0 rfl ?_
  refine m_callSf C (c_X10_isText l G mu nu r) wkX10_116 (by decide) rfl rfl (Nat.le_of_ble_eq_true rfl) dX10_put_1 ?_
  refine m_if_ne C 9 dX10_put_4 (by decide) (fun hh1 => ?_) (fun hh1 => ?_)
  · replace hh1 := bI_ne0.mp hh1
    obtain ⟨er, kr⟩ := ix_eq (x := r) (by omega)
    refine m_aload_n C 0 dX10_put_9 rfl ?_
    refine gfX10_16 C dX10_put_10 ?_
    refine m_iload_n C 1 dX10_put_13 rfl ?_
    refine m_topi (nI (ix r)) er ?_
    refine m_aald C 14 (by decide) 1 rfl ra_14 (ix r) (G.1 (15 + 2 * (ix r))) rfl (by omega) (by decide) rfl dX10_put_14 ?_
    refine m_iload_n C 2 dX10_put_15 rfl ?_
    refine m_callSf C (c_X10_unfitPlace l G mu nu (15 + 2 * ix r) (stc_text (by omega)) 60 (by decide) (z_tx z (ix r)) (hz.2.2.2.2.1 (ix r) (by omega)) i) wkX10_88 (by decide) rfl rfl (Nat.le_of_ble_eq_true rfl) dX10_put_16 ?_
    refine m_istore C [(4, .int (nI (s_up (z_tx z (ix r)) i))), (0, .ref (G.1 0)), (1, .int r), (2, .int i), (3, .int v)] dX10_put_19 (by decide) rfl ?_
    refine m_iload C 0 dX10_put_21 rfl ?_
    refine m_if_eq C 33 dX10_put_23 (by decide) (fun hh2 => ?_) (fun hh2 => ?_)
    · replace hh2 := (ii_eq (nn_i (a := s_up (z_tx z (ix r)) i) rfl (by omega)) (nn_i (a := 0) rfl (by omega))).mp hh2
      obtain ⟨xs, hxe, hin⟩ : ∃ xs, z_tx z (ix r) = some xs ∧ (0 ≤ i.toInt ∧ i.toInt < xs.length) := s_up0 (by omega)
      obtain ⟨ei, ki⟩ := ix_eq (x := i) hin.1
      have hxs := hz.2.2.2.2.1 (ix r) (by omega)
      rw [hxe] at hxs
      obtain ⟨hx1, hx2, hx3⟩ := hxs
      refine m_aload_n C 1 dX10_put_33 rfl ?_
      refine gfX10_16 C dX10_put_34 ?_
      refine m_iload_n C 2 dX10_put_37 rfl ?_
      refine m_topi (nI (ix r)) er ?_
      refine m_aald C 14 (by decide) 1 rfl ra_14 (ix r) (G.1 (15 + 2 * (ix r))) rfl (by omega) (by decide) rfl dX10_put_38 ?_
      refine gfX10_92 C (15 + 2 * (ix r)) (stc_text (by omega)) dX10_put_39 ?_
      refine m_iload_n C 3 dX10_put_42 rfl ?_
      refine m_topi (nI (ix i)) ei ?_
      refine m_iald C (15 + 2 * (ix r) + 1) (stc_lt1 (stc_text (by omega))) (sa_strip (stc_text (by omega))) (ix i) rfl (by omega) (by decide) dX10_put_43 ?_
      refine m_topi (xs.getD (ix i) 0) (hx3 _ (by omega)) ?_
      refine m_istore C [(5, .int (xs.getD (ix i) 0)), (4, .int (nI (s_up (z_tx z (ix r)) i))), (0, .ref (G.1 0)), (1, .int r), (2, .int i), (3, .int v)] dX10_put_44 (by decide) rfl ?_
      refine m_aload_n C 2 dX10_put_46 rfl ?_
      refine gfX10_16 C dX10_put_47 ?_
      refine m_iload_n C 3 dX10_put_50 rfl ?_
      refine m_topi (nI (ix r)) er ?_
      refine m_aald C 14 (by decide) 1 rfl ra_14 (ix r) (G.1 (15 + 2 * (ix r))) rfl (by omega) (by decide) rfl dX10_put_51 ?_
      refine gfX10_92 C (15 + 2 * (ix r)) (stc_text (by omega)) dX10_put_52 ?_
      refine m_iload_n C 4 dX10_put_55 rfl ?_
      refine m_topi (nI (ix i)) ei ?_
      refine m_iload_n C 5 dX10_put_56 rfl ?_
      refine m_i2b C dX10_put_57 ?_
      refine m_iast C (15 + 2 * (ix r) + 1) (stc_lt1 (stc_text (by omega))) (sa_strip (stc_text (by omega))) (ix i) rfl (by omega) (by decide) dX10_put_58 ?_
      refine m_nameM (fun mu3 emu3 => ?_)
      refine m_iload C 0 dX10_put_59 rfl ?_
      refine m_sipush C 1000 dX10_put_61 (by decide +kernel) ?_
      refine m_iadd C dX10_put_64 ?_
      refine m_ireti C hQ dX10_put_65 ?_
      obtain ⟨q1, q2⟩ := zc_text (x := some (xs.set (ix i) v.toInt8.toInt32)) (m := mu3) hz (r := ix r) (by omega) (fun c c1 c2 => by rw [emu3, mu_up_ne (by omega)]) (by rw [emu3]; exact st_set ⟨hx1, hx2, hx3⟩ (by omega))
      exact PC_of (by unfold s_put; rw [if_neg (by omega)]; simp only [hxe]; rw [if_pos hin]) q1 q2
    replace hh2 := mt (ii_eq (nn_i (a := s_up (z_tx z (ix r)) i) rfl (by omega)) (nn_i (a := 0) rfl (by omega))).mpr hh2
    refine m_aload_n C 1 dX10_put_26 rfl ?_
    refine m_iload C 0 dX10_put_27 rfl ?_
    refine m_callVi C 0 (by decide) rfl rfl (c_X10_found l G mu nu (s_up (z_tx z (ix r)) i) (by omega)) wkX10_80 (by decide) rfl rfl (Nat.le_of_ble_eq_true rfl) dX10_put_29 (fun r4 m4 n4 hp4 => ?_)
    refine m_ireti C hQ dX10_put_32 ?_
    cases hxe : z_tx z (ix r) with
    | none => rw [hxe, show s_up none i = 1 from rfl] at hp4; exact PC_find hz (by decide) hp4 (by unfold s_put; rw [if_neg (by omega)]; simp only [hxe])
    | some xs =>
      rw [hxe] at hp4 hh2
      have hin : ¬ (0 ≤ i.toInt ∧ i.toInt < xs.length) := fun q => hh2 (by show ((s_up (some xs) i : Nat) : Int) = 0; unfold s_up; dsimp only; rw [if_pos q]; rfl)
      have e2 : s_up (some xs) i = 2 := by unfold s_up; dsimp only; exact if_neg hin
      rw [e2] at hp4
      exact PC_find hz (by decide) hp4 (by unfold s_put; rw [if_neg (by omega)]; simp only [hxe]; rw [if_neg hin])
  replace hh1 := bI_eq0.mp hh1
  refine m_iconst C (-1) dX10_put_7 (by decide +kernel) ?_
  refine m_ireti C hQ dX10_put_8 ?_
  exact PC_of (by unfold s_put; rw [if_pos (by omega)]) hz zcl_rfl

set_option maxHeartbeats 4000000 in
set_option maxRecDepth 100000 in
theorem c_X10_tear (l : Launch) (G : Gl) (mu : Mu) (nu : Nu) (z : Zt) (hz : ZC mu nu z) (r : Int32) : Ci l G mX10_tear 3 [.ref (G.1 0), .int r] mu nu (PC mu nu (s_tear z r)) := by
  refine Ct.of (lv := [(0, .ref (G.1 0)), (1, .int r)]) rfl rfl (Nat.le_of_ble_eq_true rfl) rfl (fun X C => ?_)
  generalize hQ : g_E G X _ = Q
  replace C : Cx G 2 X cX10_tear RX10 (some .int) 3 := C
  show Mq l G 2 X Q 0 [(0, .ref (G.1 0)), (1, .int r)] [] mu nu
  refine m_iload_n C 1 dX10_tear_0 rfl ?_
  refine m_callSf C (c_X10_isRow l G mu nu r) wkX10_76 (by decide) rfl rfl (Nat.le_of_ble_eq_true rfl) dX10_tear_1 ?_
  refine m_if_ne C 9 dX10_tear_4 (by decide) (fun hh1 => ?_) (fun hh1 => ?_)
  · replace hh1 := bI_ne0.mp hh1
    obtain ⟨er, kr⟩ := ix_eq (x := r) (by omega)
    refine m_aload_n C 0 dX10_tear_9 rfl ?_
    refine gfX10_11 C dX10_tear_10 ?_
    refine m_iload_n C 1 dX10_tear_13 rfl ?_
    refine m_topi (nI (ix r)) er ?_
    refine m_aald C 1 (by decide) 1 rfl ra_1 (ix r) (G.1 (2 + 2 * (ix r))) rfl (by omega) (by decide) rfl dX10_tear_14 ?_
    refine m_callVf C (2 + 2 * (ix r)) (stc_lt (stc_row (by omega))) (sh_strip (stc_row (by omega)) _ _) rfl (c_X7_isThere l G mu nu (2 + 2 * (ix r)) (stc_row (by omega))) wkX10_99 (by decide) rfl rfl (Nat.le_of_ble_eq_true rfl) dX10_tear_15 ?_
    refine m_if_ne C 27 dX10_tear_18 (by decide) (fun hh2 => ?_) (fun hh2 => ?_)
    · replace hh2 := bI_ne0.mp hh2
      refine m_aload_n C 0 dX10_tear_27 rfl ?_
      refine gfX10_11 C dX10_tear_28 ?_
      refine m_iload_n C 1 dX10_tear_31 rfl ?_
      refine m_topi (nI (ix r)) er ?_
      refine m_aald C 1 (by decide) 1 rfl ra_1 (ix r) (G.1 (2 + 2 * (ix r))) rfl (by omega) (by decide) rfl dX10_tear_32 ?_
      refine m_iconst C (-1) dX10_tear_33 (by decide +kernel) ?_
      refine pfX10_103 C (2 + 2 * (ix r)) (stc_row (by omega)) dX10_tear_34 ?_
      refine m_nameM (fun mu3 emu3 => ?_)
      refine m_iconst C 1 dX10_tear_37 (by decide +kernel) ?_
      refine m_ireti C hQ dX10_tear_38 ?_
      obtain ⟨xs, hxe, -⟩ := zs_some (hz.2.2.2.1 (ix r) (by omega)) (by decide) hh2
      obtain ⟨q1, q2⟩ := zc_row (x := none) (m := mu3) hz (r := ix r) (by omega) (fun c c1 c2 => by rw [emu3, mu_up_ne c1]) (by show mu3 _ 1 = -1; rw [emu3, mu_up_at])
      exact PC_of (by unfold s_tear; rw [if_neg (by omega)]; simp only [hxe]) q1 q2
    replace hh2 := bI_eq0.mp hh2
    refine m_aload_n C 0 dX10_tear_21 rfl ?_
    refine m_iconst C 1 dX10_tear_22 (by decide +kernel) ?_
    refine m_callVi C 0 (by decide) rfl rfl (c_X10_found l G mu nu 1 (by decide)) wkX10_80 (by decide) rfl rfl (Nat.le_of_ble_eq_true rfl) dX10_tear_23 (fun r4 m4 n4 hp4 => ?_)
    refine m_ireti C hQ dX10_tear_26 ?_
    have hxe := zs_none (hz.2.2.2.1 (ix r) (by omega)) (by decide) (by omega)
    exact PC_find hz (by decide) hp4 (by unfold s_tear; rw [if_neg (by omega)]; simp only [hxe])
  replace hh1 := bI_eq0.mp hh1
  refine m_iconst C (-1) dX10_tear_7 (by decide +kernel) ?_
  refine m_ireti C hQ dX10_tear_8 ?_
  exact PC_of (by unfold s_tear; rw [if_pos (by omega)]) hz zcl_rfl
