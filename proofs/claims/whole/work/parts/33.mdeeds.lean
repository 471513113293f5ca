def MD (mu : Mu) (nu : Nu) (d : Nat) (m : Mu) (n2 : Nu) : Prop := (∀ c, c ≠ 65 → m c = mu c) ∧ (∀ j, j ≠ 31 → ¬ (32 + 9 * d ≤ j ∧ j < 32 + 9 * d + 9) → m 65 j = mu 65 j) ∧ m 65 31 = nI (d + 1) ∧ m 65 (32 + 9 * d) = mu 65 1 ∧ m 65 (32 + 9 * d + 1) = mu 65 2 ∧ (∀ q, q < 7 → m 65 (32 + 9 * d + 2 + q) = mu 65 (3 + q)) ∧ n2 = nu
theorem wf_len {N : Nat} {S : List Nat × Nat} (h : z_wf N S) : S.1.length ≤ N := nodup_le N S.1 h.2.1 h.1
theorem wb_last {N : Nat} {B : Zb} (h : w_b N B) : z_wf N (B.1, B.2.1) := by
  have := h.2 B.2.2.length (Nat.le_refl _)
  rwa [s_at_last] at this
theorem zw_ext {f g : Nat → Int32} {R : Zr} {B : Zb} (hR : R.1 ≤ 7) (hb : w_b R.1 B) (e : ∀ j, j < 392 → g j = f j) (h : z_w f R B) : z_w g R B := by
  obtain ⟨h1, h2, h3, h4, h5, h6, h7⟩ := h
  have hl := wf_len (wb_last hb)
  have hl : B.1.length ≤ R.1 := hl
  have h40 := hb.1
  refine ⟨by rw [e 0 (by decide), h1], by rw [e 1 (by decide), h2], by rw [e 2 (by decide), h3], fun p hp => by rw [e _ (by omega), h4 p hp], fun i hi => ?_, by rw [e 31 (by decide), h6], fun d hd => ?_⟩
  · rw [e (10 + i) (by omega), e (17 + i) (by omega), e (24 + i) (by omega)]
    exact h5 i hi
  · have hld := wf_len (hb.2 d (by omega))
    obtain ⟨q1, q2, q3⟩ := h7 d hd
    exact ⟨by rw [e _ (by omega), q1], by rw [e _ (by omega), q2], fun p hp => by rw [e _ (by omega), q3 p hp]⟩
theorem zwk_ext {f g : Nat → Int32} {R : Zr} {x : Option Zb} (hR : R.1 ≤ 7) (e : ∀ j, j < 392 → g j = f j) (h : z_wk f R x) : z_wk g R x := by
  cases x with
  | none => show g 0 = 0; rw [e 0 (by decide)]; exact h
  | some B => exact ⟨zw_ext hR h.2.1 e h.1, h.2⟩
/-- a new bench in the model -/
theorem zm_B {mu m : Mu} {nu : Nu} {z : Zt} {B : Zb} (h : ZM mu nu z) (hc : ∀ c, c ≠ 65 → m c = mu c) (h65 : ∀ j, 392 ≤ j → m 65 j = mu 65 j) (hw : z_w (m 65) z.1 B) (hb : w_b (z_N z) B) : ZM m nu (u_bn z B) := by
  obtain ⟨h1, h2, h3, h4, h5, h6, ⟨a1, a2, a3, a4, a5⟩, h8⟩ := h
  have hl := wf_len (wb_last hb)
  have hN : z_N z ≤ 7 := h1.1
  have hl : B.1.length ≤ z_N z := hl
  have hwl := wb_last hb
  refine ⟨⟨h1.1, h1.2.1, (show B.1.length ≤ 7 by omega), fun p hp => hwl.1 _ (gd_mem hp), hwl.2.2⟩, hw, hb, fun k hk => zwk_ext hN (fun j hj => h65 _ (by omega)) (h4 k hk), fun r hr => zar_keep (h5 r hr) (by rw [hc 66 (by decide)]) (fun j _ => by rw [hc 67 (by decide)]), fun r hr => zar_keep (h6 r hr) (by rw [hc 68 (by decide)]) (fun j _ => by rw [hc 69 (by decide)]), ⟨by rw [hc 64 (by decide)]; exact a1, a2, a3, by rw [hc 64 (by decide)]; exact a4, fun f hf => by rw [hc 70 (by decide)]; exact a5 f hf⟩, h8⟩
theorem at_hist {F F2 : List Nat} {ov ov2 : Nat} {h : List (List Nat × Nat)} {d : Nat} (hd : d < h.length) : s_at (F2, ov2, h) d = s_at (F, ov, h) d := by rw [s_at_lt hd, s_at_lt hd]
/-- another frame, the same log -/
theorem zm_F {mu m : Mu} {nu n2 : Nu} {z : Zt} {F : List Nat} {ov : Nat} {h : List (List Nat × Nat)} {F2 : List Nat} {ov2 : Nat} (hz : ZM mu nu (u_bn z (F, ov, h))) (hc : ∀ c, c ≠ 65 → m c = mu c) (h65 : ∀ j, ¬ (1 ≤ j ∧ j < 10) → m 65 j = mu 65 j) (h1 : m 65 1 = nI F2.length) (h2 : m 65 2 = nI ov2) (h3 : ∀ p, p < F2.length → m 65 (3 + p) = nI (F2.getD p 0)) (hwf : z_wf (z_N z) (F2, ov2)) (en : n2 = nu) : ZM m n2 (u_bn z (F2, ov2, h)) ∧ z_cm mu nu m n2 := by
  subst en
  refine ⟨zm_B (z := u_bn z (F, ov, h)) hz hc (fun j hj => h65 j (by omega)) ?_ ?_, ⟨fun c hq => hc c (by omega), fun _ _ => rfl⟩⟩
  · obtain ⟨q0, q1, q2, q3, q4, q5, q6⟩ := hz.2.1
    refine ⟨by rw [h65 0 (by omega)]; exact q0, h1, h2, h3, fun i hi => ?_, by rw [h65 31 (by omega)]; exact q5, fun d hd => ?_⟩
    · rw [h65 (10 + i) (by omega), h65 (17 + i) (by omega), h65 (24 + i) (by omega)]; exact q4 i hi
    · have hd : d < h.length := hd
      rw [at_hist (F := F) (ov := ov) hd, h65 _ (by omega), h65 _ (by omega)]
      obtain ⟨r1, r2, r3⟩ := q6 d hd
      exact ⟨r1, r2, fun p hp => by rw [h65 _ (by omega)]; exact r3 p hp⟩
  · obtain ⟨w1, w2⟩ := hz.2.2.1
    refine ⟨w1, fun d hd => ?_⟩
    have hd : d ≤ h.length := hd
    by_cases e : d = h.length
    · have := s_at_last (F2, ov2, h)
      rw [e]; rw [this]; exact hwf
    · rw [at_hist (F := F) (ov := ov) (by omega)]; exact w2 d hd
theorem zm_minds {mu m : Mu} {nu n2 : Nu} {z : Zt} (hz : ZM mu nu z) (hl : (z_B z).2.2.length < 40) (hm : MD mu nu (z_B z).2.2.length m n2) : ZM m n2 (u_bn z (b_do (z_B z) 0 0 0)) ∧ z_cm mu nu m n2 := by
  obtain ⟨hc, h65, h31, hs0, hs1, hs2, en⟩ := hm
  subst en
  have hbb : b_do (z_B z) 0 0 0 = ((z_B z).1, (z_B z).2.1, (z_B z).2.2 ++ [((z_B z).1, (z_B z).2.1)]) := rfl
  have hN : z_N z ≤ 7 := hz.1.1
  have hlen := wf_len (wb_last hz.2.2.1)
  have hlen : (z_B z).1.length ≤ z_N z := hlen
  have hll : ((z_B z).2.2 ++ [((z_B z).1, (z_B z).2.1)]).length = (z_B z).2.2.length + 1 := by simp
  have key : ∀ d, d ≤ (z_B z).2.2.length → s_at ((z_B z).1, (z_B z).2.1, (z_B z).2.2 ++ [((z_B z).1, (z_B z).2.1)]) d = s_at (z_B z) d := fun d hd => s_at_app hd
  refine ⟨zm_B hz hc (fun j hj => h65 j (by omega) (by omega)) ?_ ?_, ⟨fun c hq => hc c (by omega), fun _ _ => rfl⟩⟩
  · obtain ⟨q0, q1, q2, q3, q4, q5, q6⟩ := hz.2.1
    rw [hbb]
    refine ⟨by rw [h65 0 (by decide) (by omega)]; exact q0, by rw [h65 1 (by decide) (by omega)]; exact q1, by rw [h65 2 (by decide) (by omega)]; exact q2, fun p hp => ?_, fun i hi => ?_, ?_, fun d hd => ?_⟩
    · have hp : p < (z_B z).1.length := hp
      rw [h65 (3 + p) (by omega) (by omega)]; exact q3 p hp
    · have hi : i < z_N z := hi
      rw [h65 (10 + i) (by omega) (by omega), h65 (17 + i) (by omega) (by omega), h65 (24 + i) (by omega) (by omega)]; exact q4 i hi
    · show m 65 31 = nI ((z_B z).2.2 ++ [((z_B z).1, (z_B z).2.1)]).length
      rw [h31, hll]
    · have hd : d < (z_B z).2.2.length + 1 := by rw [← hll]; exact hd
      rw [key d (by omega)]
      by_cases e : d = (z_B z).2.2.length
      · rw [e, s_at_last, hs0, hs1]
        exact ⟨q1, q2, fun p hp => by
          have hp : p < (z_B z).1.length := hp
          rw [hs2 p (by omega)]; exact q3 p hp⟩
      · obtain ⟨r1, r2, r3⟩ := q6 d (by omega)
        have hld := wf_len (hz.2.2.1.2 d (by omega))
        rw [h65 _ (by omega) (by omega), h65 _ (by omega) (by omega)]
        exact ⟨r1, r2, fun p hp => by rw [h65 _ (by omega) (by omega)]; exact r3 p hp⟩
  · obtain ⟨w1, w2⟩ := hz.2.2.1
    rw [hbb]
    refine ⟨by show ((z_B z).2.2 ++ [((z_B z).1, (z_B z).2.1)]).length ≤ 40; rw [hll]; omega, fun d hd => ?_⟩
    have hd : d ≤ (z_B z).2.2.length + 1 := by rw [← hll]; exact hd
    by_cases e : d = (z_B z).2.2.length + 1
    · have h1 := s_at_last ((z_B z).1, (z_B z).2.1, (z_B z).2.2 ++ [((z_B z).1, (z_B z).2.1)])
      have h2 : ((z_B z).1, (z_B z).2.1, (z_B z).2.2 ++ [((z_B z).1, (z_B z).2.1)]).2.2.length = (z_B z).2.2.length + 1 := hll
      rw [h2] at h1
      have h3 := wb_last hz.2.2.1
      rw [e, h1]; exact h3
    · rw [key d (by omega)]; exact w2 d (by omega)
theorem zm_lay1 {m m2 : Mu} {n1 n2 : Nu} {z : Zt} {i : Nat} (hz0 : w_b (z_N z) (z_B z)) (hz : ZM m n1 (u_bn z (b_do (z_B z) 0 0 0))) (hi : i < z_N z) (hp : ¬ i ∈ (z_B z).1) (e : m2 = mu_up (mu_up m 65 (3 + (z_B z).1.length) (nI i)) 65 1 (nI ((z_B z).1.length + 1))) (en : n2 = n1) : ZM m2 n2 (u_bn z (b_do (z_B z) 1 i 0)) ∧ z_cm m n1 m2 n2 := by
  have hN : z_N z ≤ 7 := hz.1.1
  have hw := (a_lay hN (wb_last hz0) hi hp).2.2
  have hlen := wf_len hw
  have hlen : ((z_B z).1 ++ [i]).length ≤ z_N z := hlen
  have hl2 : ((z_B z).1 ++ [i]).length = (z_B z).1.length + 1 := by simp
  exact zm_F (z := z) (F := (z_B z).1) (ov := (z_B z).2.1) hz (fun c hc => by rw [e, mu_up_ne hc, mu_up_ne hc]) (fun j hj => by rw [e, mu_up_an (by omega), mu_up_an (by omega)]) (by rw [e, mu_up_at]; exact congrArg nI hl2.symm) (by rw [e, mu_up_an (by omega), mu_up_an (by omega)]; exact hz.2.1.2.2.1) (fun p hp2 => by
    have hp2 : p < ((z_B z).1 ++ [i]).length := hp2
    show _ = nI (((z_B z).1 ++ [i]).getD p 0)
    rw [e, mu_up_an (by omega)]
    by_cases ep : p = (z_B z).1.length
    · rw [ep, mu_up_at, gd_eq]
    · rw [mu_up_an (by omega), gd_lt (by omega)]; exact hz.2.1.2.2.2.1 p (show p < (z_B z).1.length by omega)) hw en
theorem zm_lift1 {m m2 : Mu} {n1 n2 : Nu} {z : Zt} (hz0 : w_b (z_N z) (z_B z)) (hz : ZM m n1 (u_bn z (b_do (z_B z) 0 0 0))) (hp : 0 < (z_B z).1.length) (e : m2 = mu_up (mu_up m 65 1 (nI ((z_B z).1.length - 1))) 65 (3 + ((z_B z).1.length - 1)) 0) (en : n2 = n1) : ZM m2 n2 (u_bn z (b_do (z_B z) 2 ((z_B z).1.getD ((z_B z).1.length - 1) 0) 0)) ∧ z_cm m n1 m2 n2 := by
  have hN : z_N z ≤ 7 := hz.1.1
  have hw := (a_lift hN (wb_last hz0) hp).2.2
  have hl0 := wf_len (wb_last hz0)
  have hl0 : (z_B z).1.length ≤ z_N z := hl0
  have hl2 : (z_B z).1.dropLast.length = (z_B z).1.length - 1 := by simp
  exact zm_F (z := z) (F := (z_B z).1) (ov := (z_B z).2.1) hz (fun c hc => by rw [e, mu_up_ne hc, mu_up_ne hc]) (fun j hj => by rw [e, mu_up_an (by omega), mu_up_an (by omega)]) (by rw [e, mu_up_an (by omega), mu_up_at]; exact congrArg nI hl2.symm) (by rw [e, mu_up_an (by omega), mu_up_an (by omega)]; exact hz.2.1.2.2.1) (fun p hp2 => by
    have hp2 : p < (z_B z).1.dropLast.length := hp2
    show _ = nI ((z_B z).1.dropLast.getD p 0)
    rw [e, mu_up_an (by omega), mu_up_an (by omega), gd_drop (by omega)]; exact hz.2.1.2.2.2.1 p (show p < (z_B z).1.length by omega)) hw en
theorem zm_turn1 {m m2 : Mu} {n1 n2 : Nu} {z : Zt} {i : Nat} (hz0 : w_b (z_N z) (z_B z)) (hz : ZM m n1 (u_bn z (b_do (z_B z) 0 0 0))) (hi : i < z_N z) (e : m2 = mu_up m 65 2 (nI ((z_B z).2.1 ^^^ 2 ^ i))) (en : n2 = n1) : ZM m2 n2 (u_bn z (b_do (z_B z) 4 i 0)) ∧ z_cm m n1 m2 n2 := by
  have hN : z_N z ≤ 7 := hz.1.1
  have hw := (a_turn hN (wb_last hz0) hi).2.2
  exact zm_F (z := z) (F := (z_B z).1) (ov := (z_B z).2.1) hz (fun c hc => by rw [e, mu_up_ne hc]) (fun j hj => by rw [e, mu_up_an (by omega)]) (by rw [e, mu_up_an (by omega)]; exact hz.2.1.2.1) (by rw [e, mu_up_at]; rfl) (fun p hp2 => by rw [e, mu_up_an (by omega)]; exact hz.2.1.2.2.2.1 p hp2) hw en
theorem zm_swap1 {m m2 : Mu} {n1 n2 : Nu} {z : Zt} {a b : Nat} (hz0 : w_b (z_N z) (z_B z)) (hz : ZM m n1 (u_bn z (b_do (z_B z) 0 0 0))) (ha : a < (z_B z).1.length) (hb : b < (z_B z).1.length) (e : m2 = mu_up (mu_up m 65 (3 + a) (nI ((z_B z).1.getD b 0))) 65 (3 + b) (nI ((z_B z).1.getD a 0))) (en : n2 = n1) : ZM m2 n2 (u_bn z (b_do (z_B z) 3 a b)) ∧ z_cm m n1 m2 n2 := by
  have hN : z_N z ≤ 7 := hz.1.1
  have hw := (a_swap hN (wb_last hz0) ha hb).2.2
  have hl0 := wf_len (wb_last hz0)
  have hl0 : (z_B z).1.length ≤ z_N z := hl0
  exact zm_F (z := z) (F := (z_B z).1) (ov := (z_B z).2.1) hz (fun c hc => by rw [e, mu_up_ne hc, mu_up_ne hc]) (fun j hj => by rw [e, mu_up_an (by omega), mu_up_an (by omega)]) (by rw [e, mu_up_an (by omega), mu_up_an (by omega)]; exact hz.2.1.2.1.trans (congrArg nI s_swap_len.symm)) (by rw [e, mu_up_an (by omega), mu_up_an (by omega)]; exact hz.2.1.2.2.1) (fun p hp2 => by
    have hp2 : p < (z_B z).1.length := by rw [← s_swap_len (x := a) (y := b)]; exact hp2
    show _ = nI ((s_swap (z_B z).1 a b).getD p 0)
    rw [s_swap_gd ha hb, e]
    by_cases e1 : p = b
    · rw [if_pos e1, e1, mu_up_at]
    · rw [if_neg e1, mu_up_an (by omega)]
      by_cases e2 : p = a
      · rw [if_pos e2, e2, mu_up_at]
      · rw [if_neg e2, mu_up_an (by omega)]; exact hz.2.1.2.2.2.1 p hp2) hw en
def BR (mu : Mu) (nu : Nu) (fr to : Nat) (m : Mu) (n2 : Nu) : Prop := (∀ c, c ≠ 65 → m c = mu c) ∧ (∀ j, ¬ (to ≤ j ∧ j < to + 392) → m 65 j = mu 65 j) ∧ (∀ j, j < 392 → m 65 (to + j) = mu 65 (fr + j)) ∧ n2 = nu
theorem zm_keepk {mu m : Mu} {nu n2 : Nu} {z : Zt} {k : Nat} (hz : ZM mu nu z) (hk : k < 3) (h0 : 0 < z_N z) (hb : BR mu nu 0 (392 + 392 * k) m n2) : ZM m n2 (u_kp z k (z_B z)) ∧ z_cm mu nu m n2 := by
  obtain ⟨hc, h65, hcp, en⟩ := hb
  subst en
  obtain ⟨h1, h2, h3, h4, h5, h6, ⟨a1, a2, a3, a4, a5⟩, h8⟩ := hz
  have hN : z_N z ≤ 7 := h1.1
  refine ⟨⟨h1, zw_ext hN h3 (fun j hj => h65 j (by omega)) h2, h3, fun s hs => ?_, fun r hr => zar_keep (h5 r hr) (by rw [hc 66 (by decide)]) (fun j _ => by rw [hc 67 (by decide)]), fun r hr => zar_keep (h6 r hr) (by rw [hc 68 (by decide)]) (fun j _ => by rw [hc 69 (by decide)]), ⟨by rw [hc 64 (by decide)]; exact a1, a2, a3, by rw [hc 64 (by decide)]; exact a4, fun f hf => by rw [hc 70 (by decide)]; exact a5 f hf⟩, h8⟩, ⟨fun c hq => hc c (by omega), fun _ _ => rfl⟩⟩
  show z_wk (fun j => m 65 (392 + 392 * s + j)) z.1 (va_up (z_kp z) k (some (z_B z)) s)
  by_cases e : s = k
  · subst e
    simp only [va_up, if_true]
    exact ⟨zw_ext hN h3 (fun j hj => (hcp j hj).trans (by rw [Nat.zero_add])) h2, h3, h0⟩
  · simp only [va_up, if_neg e]
    exact zwk_ext hN (fun j hj => h65 _ (by omega)) (h4 s hs)
theorem zm_onk {mu m : Mu} {nu n2 : Nu} {z : Zt} {k : Nat} {B : Zb} (hz : ZM mu nu z) (hk : k < 3) (hB : z_kp z k = some B) (hb : BR mu nu (392 + 392 * k) 0 m n2) : ZM m n2 (u_bn z B) ∧ z_cm mu nu m n2 := by
  obtain ⟨hc, h65, hcp, en⟩ := hb
  subst en
  have h4 := hz.2.2.2.1 k hk
  rw [hB] at h4
  obtain ⟨w1, w2, w3⟩ := h4
  exact ⟨zm_B hz hc (fun j hj => h65 j (by omega)) (zw_ext hz.1.1 w2 (fun j hj => by have := hcp j hj; rw [Nat.zero_add] at this; exact this) w1) w2, ⟨fun c hq => hc c (by omega), fun _ _ => rfl⟩⟩
def UD (mu : Mu) (nu : Nu) (n : Nat) (m : Mu) (n2 : Nu) : Prop := (∀ c, c ≠ 65 → m c = mu c) ∧ (∀ j, ¬ (1 ≤ j ∧ j < 10) → j ≠ 31 → m 65 j = mu 65 j) ∧ m 65 1 = mu 65 (32 + 9 * n) ∧ m 65 2 = mu 65 (32 + 9 * n + 1) ∧ (∀ q, q < 7 → m 65 (3 + q) = mu 65 (32 + 9 * n + 2 + q)) ∧ m 65 31 = nI n ∧ n2 = nu
theorem zm_undo {mu m : Mu} {nu n2 : Nu} {z : Zt} {n : Nat} (hz : ZM mu nu z) (hn : n < (z_B z).2.2.length) (hu : UD mu nu n m n2) : ZM m n2 (u_bn z (b_un (z_B z) n)) ∧ z_cm mu nu m n2 := by
  obtain ⟨hc, h65, h1, h2, h3, h31, en⟩ := hu
  subst en
  have hN : z_N z ≤ 7 := hz.1.1
  have h40 := hz.2.2.1.1
  have hln := wf_len (hz.2.2.1.2 n (by omega))
  have htl : ((z_B z).2.2.take n).length = n := by rw [List.length_take]; omega
  have key : ∀ d, d < n → s_at (b_un (z_B z) n) d = s_at (z_B z) d := fun d hd => by
    have e1 : s_at (b_un (z_B z) n) d = ((z_B z).2.2.take n).getD d ([], 0) := s_at_lt (by rw [htl]; exact hd)
    have e2 : s_at (z_B z) d = (z_B z).2.2.getD d ([], 0) := s_at_lt (show d < (z_B z).2.2.length by omega)
    rw [e1, e2]
    simp [List.getD, List.getElem?_take_of_lt hd]
  refine ⟨zm_B hz hc (fun j hj => h65 j (by omega) (by omega)) ?_ ?_, ⟨fun c hq => hc c (by omega), fun _ _ => rfl⟩⟩
  · obtain ⟨q0, q1, q2, q3, q4, q5, q6⟩ := hz.2.1
    obtain ⟨r1, r2, r3⟩ := q6 n hn
    refine ⟨by rw [h65 0 (by omega) (by decide)]; exact q0, by rw [h1]; exact r1, by rw [h2]; exact r2, fun p hp => ?_, fun i hi => ?_, ?_, fun d hd => ?_⟩
    · have hp : p < (s_at (z_B z) n).1.length := hp
      rw [h3 p (by omega)]; exact r3 p hp
    · have hi : i < z_N z := hi
      rw [h65 (10 + i) (by omega) (by omega), h65 (17 + i) (by omega) (by omega), h65 (24 + i) (by omega) (by omega)]; exact q4 i hi
    · show m 65 31 = nI ((z_B z).2.2.take n).length
      rw [h31, htl]
    · have hd : d < n := by rw [← htl]; exact hd
      obtain ⟨r1, r2, r3⟩ := q6 d (by omega)
      rw [key d hd, h65 _ (by omega) (by omega), h65 _ (by omega) (by omega)]
      exact ⟨r1, r2, fun p hp => by rw [h65 _ (by omega) (by omega)]; exact r3 p hp⟩
  · obtain ⟨w1, w2⟩ := hz.2.2.1
    refine ⟨by show ((z_B z).2.2.take n).length ≤ 40; rw [htl]; omega, fun d hd => ?_⟩
    have hd : d ≤ n := by rw [← htl]; exact hd
    by_cases e : d = n
    · have h1 := s_at_last (b_un (z_B z) n)
      have h2 : (b_un (z_B z) n).2.2.length = n := htl
      rw [h2] at h1
      rw [e, h1]; exact w2 n (by omega)
    · rw [key d (by omega)]; exact w2 d (by omega)
theorem pl_lt {F : List Nat} {i : Nat} (hF : F.length ≤ 7) : (s_pl F i).toInt < 0 ↔ ¬ i ∈ F := by
  rw [← s_pl_t hF]
  unfold s_pl
  by_cases h : i ∈ F
  · have := List.idxOf_lt_length_of_mem h
    rw [if_pos h, nI_toInt (by omega)]
    omega
  · rw [if_neg h]; decide
theorem lay_lt7 {N : Nat} {F : List Nat} {ov i : Nat} (hN : N ≤ 7) (hw : z_wf N (F, ov)) (hi : i < N) (hp : ¬ i ∈ F) : F.length < 7 := by
  have h := (a_lay hN hw hi hp).2.2
  have h2 := wf_len h
  have h2 : (F ++ [i]).length ≤ N := h2
  simp only [List.length_append, List.length_cons, List.length_nil] at h2
  omega
set_option maxHeartbeats 4000000 in
set_option maxRecDepth 100000 in
theorem c_X11_minds (l : Launch) (G : Gl) (mu : Mu) (nu : Nu) (d : Nat) (hd : mu 65 31 = nI d) (hd40 : d < 40) : Cv l G mX11_minds 1 [.ref (G.1 64)] mu nu (MD mu nu d) := by
  refine Ct.of (lv := [(0, .ref (G.1 64))]) rfl rfl (Nat.le_of_ble_eq_true rfl) rfl (fun X C => ?_)
  generalize hQ : g_E G X _ = Q
  replace C : Cx G 3 X cX11_minds RX11 none 1 := C
  show Mq l G 3 X Q 0 [(0, .ref (G.1 64))] [] mu nu
  refine m_bipush C 32 dX11_minds_0 (by decide +kernel) ?_
  refine m_bipush C 9 dX11_minds_2 (by decide +kernel) ?_
  refine m_aload_n C 0 dX11_minds_4 rfl ?_
  refine gfX11_7 C dX11_minds_5 ?_
  refine m_bipush C 31 dX11_minds_8 (by decide +kernel) ?_
  refine m_iald C 65 (by decide) sa_65 31 rfl (by omega) (by decide) dX11_minds_10 ?_
  refine m_topi (nI d) hd ?_
  refine m_imul C dX11_minds_11 ?_
  refine m_topi (nI (9 * d)) (nn_mul rfl rfl) ?_
  refine m_iadd C dX11_minds_12 ?_
  refine m_topi (nI (32 + (9 * d))) (nn_add rfl rfl) ?_
  refine m_istore_n C [(1, .int (nI (32 + (9 * d)))), (0, .ref (G.1 64))] dX11_minds_13 (by decide) rfl ?_
  refine m_aload_n C 1 dX11_minds_14 rfl ?_
  refine gfX11_7 C dX11_minds_15 ?_
  refine m_iload_n C 0 dX11_minds_18 rfl ?_
  refine m_aload_n C 1 dX11_minds_19 rfl ?_
  refine gfX11_7 C dX11_minds_20 ?_
  refine m_iconst C 1 dX11_minds_23 (by decide +kernel) ?_
  refine m_iald C 65 (by decide) sa_65 1 rfl (by omega) (by decide) dX11_minds_24 ?_
  refine m_iast C 65 (by decide) sa_65 (32 + (9 * d)) rfl (by omega) (by decide) dX11_minds_25 ?_
  refine m_nameM (fun mu1 emu1 => ?_)
  refine m_aload_n C 1 dX11_minds_26 rfl ?_
  refine gfX11_7 C dX11_minds_27 ?_
  refine m_iload_n C 0 dX11_minds_30 rfl ?_
  refine m_iconst C 1 dX11_minds_31 (by decide +kernel) ?_
  refine m_iadd C dX11_minds_32 ?_
  refine m_topi (nI ((32 + (9 * d)) + 1)) (nn_add rfl rfl) ?_
  refine m_aload_n C 1 dX11_minds_33 rfl ?_
  refine gfX11_7 C dX11_minds_34 ?_
  refine m_iconst C 2 dX11_minds_37 (by decide +kernel) ?_
  refine m_iald C 65 (by decide) sa_65 2 rfl (by omega) (by decide) dX11_minds_38 ?_
  refine m_topi (mu 65 2) (by rw [emu1, mu_up_an (by omega)]) ?_
  refine m_iast C 65 (by decide) sa_65 ((32 + (9 * d)) + 1) rfl (by omega) (by decide) dX11_minds_39 ?_
  refine m_nameM (fun mu2 emu2 => ?_)
  refine m_iconst C 0 dX11_minds_40 (by decide +kernel) ?_
  refine m_istore_n C [(2, .int 0), (1, .int (nI (32 + (9 * d)))), (0, .ref (G.1 64))] dX11_minds_41 (by decide) rfl ?_
  have L42 : ∀ (fu : Nat) (k : Nat) (m : Mu) (hk : k ≤ 7) (hm0 : ∀ c, c ≠ 65 → m c = mu c) (hm1 : ∀ j, ¬ (32 + 9 * d ≤ j ∧ j < 32 + 9 * d + 2 + k) → m 65 j = mu 65 j) (hm2 : m 65 (32 + 9 * d) = mu 65 1 ∧ m 65 (32 + 9 * d + 1) = mu 65 2) (hm3 : ∀ q, q < k → m 65 (32 + 9 * d + 2 + q) = mu 65 (3 + q)), 7 - k < fu → Mq l G 3 X Q 42 [(0, .ref (G.1 64)), (1, .int (nI (32 + (9 * d)))), (2, .int (nI k))] [] m nu := by
    intro fu
    induction fu with
    | zero => intro k m hk hm0 hm1 hm2 hm3 hm; exact absurd hm (Nat.not_lt_zero _)
    | succ fu ih42 =>
      intro k m hk hm0 hm1 hm2 hm3 hm
      refine m_iload_n C 2 dX11_minds_42 rfl ?_
      refine m_bipush C 7 dX11_minds_43 (by decide +kernel) ?_
      refine m_icmp_ge C 72 dX11_minds_45 (by decide) (fun hh3 => ?_) (fun hh3 => ?_)
      · replace hh3 := (ii_le (nn_i (a := 7) rfl (by omega)) (nn_i (a := k) rfl (by omega))).mp hh3
        refine m_aload_n C 0 dX11_minds_72 rfl ?_
        refine gfX11_7 C dX11_minds_73 ?_
        refine m_bipush C 31 dX11_minds_76 (by decide +kernel) ?_
        refine m_dup2 C dX11_minds_78 rfl rfl ?_
        refine m_iald C 65 (by decide) sa_65 31 rfl (by omega) (by decide) dX11_minds_79 ?_
        refine m_topi (nI d) ((hm1 31 (by omega)).trans hd) ?_
        refine m_iconst C 1 dX11_minds_80 (by decide +kernel) ?_
        refine m_iadd C dX11_minds_81 ?_
        refine m_topi (nI (d + 1)) (nn_add rfl rfl) ?_
        refine m_iast C 65 (by decide) sa_65 31 rfl (by omega) (by decide) dX11_minds_82 ?_
        refine m_nameM (fun mu4 emu4 => ?_)
        refine m_vretv C hQ dX11_minds_83 ?_
        have ek : k = 7 := by omega
        subst ek
        exact ⟨fun c hc => by rw [emu4, mu_up_ne hc]; exact hm0 c hc, fun j h1 h2 => by rw [emu4, mu_up_an h1]; exact hm1 j (by omega), by rw [emu4, mu_up_at], by rw [emu4, mu_up_an (by omega)]; exact hm2.1, by rw [emu4, mu_up_an (by omega)]; exact hm2.2, fun q hq => by rw [emu4, mu_up_an (by omega)]; exact hm3 q hq, rfl⟩
      replace hh3 := mt (ii_le (nn_i (a := 7) rfl (by omega)) (nn_i (a := k) rfl (by omega))).mpr hh3
      refine m_aload_n C 0 dX11_minds_48 rfl ?_
      refine gfX11_7 C dX11_minds_49 ?_
      refine m_iload_n C 1 dX11_minds_52 rfl ?_
      refine m_iconst C 2 dX11_minds_53 (by decide +kernel) ?_
      refine m_iadd C dX11_minds_54 ?_
      refine m_topi (nI ((32 + (9 * d)) + 2)) (nn_add rfl rfl) ?_
      refine m_iload_n C 2 dX11_minds_55 rfl ?_
      refine m_iadd C dX11_minds_56 ?_
      refine m_topi (nI (((32 + (9 * d)) + 2) + k)) (nn_add rfl rfl) ?_
      refine m_aload_n C 0 dX11_minds_57 rfl ?_
      refine gfX11_7 C dX11_minds_58 ?_
      refine m_iconst C 3 dX11_minds_61 (by decide +kernel) ?_
      refine m_iload_n C 2 dX11_minds_62 rfl ?_
      refine m_iadd C dX11_minds_63 ?_
      refine m_topi (nI (3 + k)) (nn_add rfl rfl) ?_
      refine m_iald C 65 (by decide) sa_65 (3 + k) rfl (by omega) (by decide) dX11_minds_64 ?_
      refine m_topi (mu 65 (3 + k)) (hm1 _ (by omega)) ?_
      refine m_iast C 65 (by decide) sa_65 (((32 + (9 * d)) + 2) + k) rfl (by omega) (by decide) dX11_minds_65 ?_
      refine m_nameM (fun mu5 emu5 => ?_)
      refine m_iinc C 2 (nI (k + 1)) [(2, .int (nI (k + 1))), (0, .ref (G.1 64)), (1, .int (nI (32 + (9 * d))))] dX11_minds_66 rfl (nn_add rfl (show Int32.ofInt 1 = nI 1 from rfl)) (by decide) rfl ?_
      refine m_goto C 42 dX11_minds_69 (by decide) ?_
      exact m_sub [1, 2, 0] rfl (ih42 (k + 1) mu5 (by omega) (fun c hc => by rw [emu5, mu_up_ne hc]; exact hm0 c hc) (fun j hj => by rw [emu5, mu_up_an (by omega)]; exact hm1 j (by omega)) (⟨by rw [emu5, mu_up_an (by omega)]; exact hm2.1, by rw [emu5, mu_up_an (by omega)]; exact hm2.2⟩) (fun q hq => by
                by_cases e : q = k
                · rw [e, emu5, mu_up_at]
                · rw [emu5, mu_up_an (by omega)]; exact hm3 q (by omega)) (by omega))
  exact m_sub [2, 1, 0] rfl (L42 (_ + 1) 0 mu2 (Nat.zero_le _) (fun c hc => by rw [emu2, mu_up_ne hc, emu1, mu_up_ne hc]) (fun j hj => by rw [emu2, mu_up_an (by omega), emu1, mu_up_an (by omega)]) (⟨by rw [emu2, mu_up_an (by omega), emu1, mu_up_at], by rw [emu2, mu_up_at]⟩) (fun q hq => absurd hq (Nat.not_lt_zero _)) (Nat.lt_succ_self _))

set_option maxHeartbeats 4000000 in
set_option maxRecDepth 100000 in
theorem c_X11_lays (l : Launch) (G : Gl) (mu : Mu) (nu : Nu) (n : Nat) (hn : mu 65 1 = nI n) (hn7 : n < 7) (i : Nat) : Cv l G mX11_lays 1 [.ref (G.1 64), .int (nI i)] mu nu (fun m n2 => m = mu_up (mu_up mu 65 (3 + n) (nI i)) 65 1 (nI (n + 1)) ∧ n2 = nu) := by
  refine Ct.of (lv := [(0, .ref (G.1 64)), (1, .int (nI i))]) rfl rfl (Nat.le_of_ble_eq_true rfl) rfl (fun X C => ?_)
  generalize hQ : g_E G X _ = Q
  replace C : Cx G 2 X cX11_lays RX11 none 1 := C
  show Mq l G 2 X Q 0 [(0, .ref (G.1 64)), (1, .int (nI i))] [] mu nu
  refine m_aload_n C 0 dX11_lays_0 rfl ?_
  refine gfX11_7 C dX11_lays_1 ?_
  refine m_iconst C 3 dX11_lays_4 (by decide +kernel) ?_
  refine m_aload_n C 0 dX11_lays_5 rfl ?_
  refine gfX11_7 C dX11_lays_6 ?_
  refine m_iconst C 1 dX11_lays_9 (by decide +kernel) ?_
  refine m_iald C 65 (by decide) sa_65 1 rfl (by omega) (by decide) dX11_lays_10 ?_
  refine m_topi (nI n) hn ?_
  refine m_iadd C dX11_lays_11 ?_
  refine m_topi (nI (3 + n)) (nn_add rfl rfl) ?_
  refine m_iload_n C 1 dX11_lays_12 rfl ?_
  refine m_iast C 65 (by decide) sa_65 (3 + n) rfl (by omega) (by decide) dX11_lays_13 ?_
  refine m_nameM (fun mu1 emu1 => ?_)
  refine m_aload_n C 0 dX11_lays_14 rfl ?_
  refine gfX11_7 C dX11_lays_15 ?_
  refine m_iconst C 1 dX11_lays_18 (by decide +kernel) ?_
  refine m_dup2 C dX11_lays_19 rfl rfl ?_
  refine m_iald C 65 (by decide) sa_65 1 rfl (by omega) (by decide) dX11_lays_20 ?_
  refine m_topi (nI n) (by rw [emu1, mu_up_an (by omega)]; exact hn) ?_
  refine m_iconst C 1 dX11_lays_21 (by decide +kernel) ?_
  refine m_iadd C dX11_lays_22 ?_
  refine m_topi (nI (n + 1)) (nn_add rfl rfl) ?_
  refine m_iast C 65 (by decide) sa_65 1 rfl (by omega) (by decide) dX11_lays_23 ?_
  refine m_nameM (fun mu2 emu2 => ?_)
  refine m_vretv C hQ dX11_lays_24 ?_
  exact ⟨by rw [emu2, emu1], rfl⟩

set_option maxHeartbeats 4000000 in
set_option maxRecDepth 100000 in
theorem c_X11_lifts (l : Launch) (G : Gl) (mu : Mu) (nu : Nu) (n : Nat) (hn : mu 65 1 = nI n) (hn7 : n ≤ 7) (h0 : 0 < n) : Ci l G mX11_lifts 1 [.ref (G.1 64)] mu nu (fun r m n2 => r = mu 65 (3 + (n - 1)) ∧ m = mu_up (mu_up mu 65 1 (nI (n - 1))) 65 (3 + (n - 1)) 0 ∧ n2 = nu) := by
  refine Ct.of (lv := [(0, .ref (G.1 64))]) rfl rfl (Nat.le_of_ble_eq_true rfl) rfl (fun X C => ?_)
  generalize hQ : g_E G X _ = Q
  replace C : Cx G 2 X cX11_lifts RX11 (some .int) 1 := C
  show Mq l G 2 X Q 0 [(0, .ref (G.1 64))] [] mu nu
  refine m_aload_n C 0 dX11_lifts_0 rfl ?_
  refine gfX11_7 C dX11_lifts_1 ?_
  refine m_iconst C 1 dX11_lifts_4 (by decide +kernel) ?_
  refine m_dup2 C dX11_lifts_5 rfl rfl ?_
  refine m_iald C 65 (by decide) sa_65 1 rfl (by omega) (by decide) dX11_lifts_6 ?_
  refine m_topi (nI n) hn ?_
  refine m_iconst C 1 dX11_lifts_7 (by decide +kernel) ?_
  refine m_isub C dX11_lifts_8 ?_
  refine m_topi (nI (n - 1)) (nn_sub rfl rfl (by omega)) ?_
  refine m_iast C 65 (by decide) sa_65 1 rfl (by omega) (by decide) dX11_lifts_9 ?_
  refine m_nameM (fun mu1 emu1 => ?_)
  refine m_aload_n C 0 dX11_lifts_10 rfl ?_
  refine gfX11_7 C dX11_lifts_11 ?_
  refine m_iconst C 3 dX11_lifts_14 (by decide +kernel) ?_
  refine m_aload_n C 0 dX11_lifts_15 rfl ?_
  refine gfX11_7 C dX11_lifts_16 ?_
  refine m_iconst C 1 dX11_lifts_19 (by decide +kernel) ?_
  refine m_iald C 65 (by decide) sa_65 1 rfl (by omega) (by decide) dX11_lifts_20 ?_
  refine m_topi (nI (n - 1)) (by rw [emu1, mu_up_at]) ?_
  refine m_iadd C dX11_lifts_21 ?_
  refine m_topi (nI (3 + (n - 1))) (nn_add rfl rfl) ?_
  refine m_iald C 65 (by decide) sa_65 (3 + (n - 1)) rfl (by omega) (by decide) dX11_lifts_22 ?_
  refine m_topi (mu 65 (3 + (n - 1))) (by rw [emu1, mu_up_an (by omega)]) ?_
  refine m_istore_n C [(1, .int (mu 65 (3 + (n - 1)))), (0, .ref (G.1 64))] dX11_lifts_23 (by decide) rfl ?_
  refine m_aload_n C 1 dX11_lifts_24 rfl ?_
  refine gfX11_7 C dX11_lifts_25 ?_
  refine m_iconst C 3 dX11_lifts_28 (by decide +kernel) ?_
  refine m_aload_n C 1 dX11_lifts_29 rfl ?_
  refine gfX11_7 C dX11_lifts_30 ?_
  refine m_iconst C 1 dX11_lifts_33 (by decide +kernel) ?_
  refine m_iald C 65 (by decide) sa_65 1 rfl (by omega) (by decide) dX11_lifts_34 ?_
  refine m_topi (nI (n - 1)) (by rw [emu1, mu_up_at]) ?_
  refine m_iadd C dX11_lifts_35 ?_
  refine m_topi (nI (3 + (n - 1))) (nn_add rfl rfl) ?_
  refine m_iconst C 0 dX11_lifts_36 (by decide +kernel) ?_
  refine m_iast C 65 (by decide) sa_65 (3 + (n - 1)) rfl (by omega) (by decide) dX11_lifts_37 ?_
  refine m_nameM (fun mu2 emu2 => ?_)
  refine m_iload_n C 0 dX11_lifts_38 rfl ?_
  refine m_ireti C hQ dX11_lifts_39 ?_
  exact ⟨rfl, by rw [emu2, emu1], rfl⟩

set_option maxHeartbeats 4000000 in
set_option maxRecDepth 100000 in
theorem c_X11_laid (l : Launch) (G : Gl) (mu : Mu) (nu : Nu) (z : Zt) (hz : ZM mu nu z) (i : Int32) : Ci l G mX11_laid 4 [.ref (G.1 64), .int i] mu nu (PM mu nu (s_laid z i)) := by
  have hv : zm mu (z_V z) := zm_v hz
  have hw := hv.1
  have hN7 := hw.1
  have hm7 := hw.2.2.1
  have ho8 := hw.2.2.2.2
  have hcz : ((v_N (z_V z) : Nat) : Int) = ((z_N z : Nat) : Int) := rfl
  have hd40 : (z_B z).2.2.length ≤ 40 := hz.2.2.1.1
  have hwb := hz.2.2.1
  have hwf : z_wf (z_N z) ((z_B z).1, (z_B z).2.1) := wb_last hz.2.2.1
  have hml : v_m (z_V z) = (z_B z).1.length := rfl
  have hzN : z_N z ≤ 7 := hN7
  have hl7 : ∀ {i : Nat}, i < z_N z → ¬ i ∈ (z_B z).1 → (z_B z).1.length < 7 := fun h1 h2 => lay_lt7 hzN hwf h1 h2
  refine Ct.of (lv := [(0, .ref (G.1 64)), (1, .int i)]) rfl rfl (Nat.le_of_ble_eq_true rfl) rfl (fun X C => ?_)
  generalize hQ : g_E G X _ = Q
  replace C : Cx G 2 X cX11_laid RX11 (some .int) 4 := C
  show Mq l G 2 X Q 0 [(0, .ref (G.1 64)), (1, .int i)] [] mu nu
  refine m_aload_n C 0 dX11_laid_0 rfl ?_
  refine m_iload_n C 1 dX11_laid_1 rfl ?_
  refine m_callVf C 64 (by decide) rfl rfl (c_X11_isRod l G mu nu (z_V z) hv i) wkX11_133 (by decide) rfl rfl (Nat.le_of_ble_eq_true rfl) dX11_laid_2 ?_
  refine m_if_ne C 10 dX11_laid_5 (by decide) (fun hh1 => ?_) (fun hh1 => ?_)
  · replace hh1 := bI_ne0.mp hh1
    obtain ⟨ei, ki⟩ := ix_eq (x := i) (by omega)
    have hi : ix i < v_N (z_V z) := by omega
    have hri := hw.2.1 (ix i) hi
    have hdi := v_dg_le hw hi
    refine m_aload_n C 0 dX11_laid_10 rfl ?_
    refine m_iload_n C 1 dX11_laid_11 rfl ?_
    refine m_topi (nI (ix i)) ei ?_
    refine m_callVf C 64 (by decide) rfl rfl (c_X11_placeOf l G mu nu (z_V z) hv (ix i) (by omega)) wkX11_130 (by decide) rfl rfl (Nat.le_of_ble_eq_true rfl) dX11_laid_12 ?_
    refine m_if_lt C 21 dX11_laid_15 (by decide) (fun hh2 => ?_) (fun hh2 => ?_)
    · replace hh2 := (ii_lt (rfl : (s_pl (v_F (z_V z)) (ix i)).toInt = _) (nn_i (a := 0) rfl (by omega))).mp hh2
      have hnp : ¬ ix i ∈ (z_B z).1 := (pl_lt (F := (z_B z).1) (i := ix i) (by omega)).mp hh2
      refine m_aload_n C 0 dX11_laid_21 rfl ?_
      refine gfX11_7 C dX11_laid_22 ?_
      refine m_bipush C 31 dX11_laid_25 (by decide +kernel) ?_
      refine m_iald C 65 (by decide) sa_65 31 rfl (by omega) (by decide) dX11_laid_27 ?_
      refine m_topi (nI ((z_B z).2.2.length)) hz.2.1.2.2.2.2.2.1 ?_
      refine m_bipush C 40 dX11_laid_28 (by decide +kernel) ?_
      refine m_icmp_ne C 36 dX11_laid_30 (by decide) (fun hh3 => ?_) (fun hh3 => ?_)
      · replace hh3 := mt (ii_eq (nn_i (a := (z_B z).2.2.length) rfl (by omega)) (nn_i (a := 40) rfl (by omega))).mpr hh3
        refine m_aload_n C 0 dX11_laid_36 rfl ?_
        refine m_callVv C 64 (by decide) rfl rfl (c_X11_minds l G mu nu (z_B z).2.2.length hz.2.1.2.2.2.2.2.1 (by omega)) wkX11_154 (by decide) rfl rfl (Nat.le_of_ble_eq_true rfl) dX11_laid_37 (fun m4 n4 hp4 => ?_)
        obtain ⟨hz1, hc1⟩ := zm_minds hz (by omega) hp4
        refine m_aload_n C 0 dX11_laid_40 rfl ?_
        refine m_iload_n C 1 dX11_laid_41 rfl ?_
        refine m_topi (nI (ix i)) ei ?_
        refine m_callVv C 64 (by decide) rfl rfl (c_X11_lays l G m4 n4 (z_B z).1.length hz1.2.1.2.1 (hl7 (by omega) hnp) (ix i)) wkX11_157 (by decide) rfl rfl (Nat.le_of_ble_eq_true rfl) dX11_laid_42 (fun m5 n5 hp5 => ?_)
        obtain ⟨hm2, hn2⟩ := hp5
        obtain ⟨hz2, hc2⟩ := zm_lay1 (i := ix i) hwb hz1 (by omega) hnp hm2 hn2
        refine m_aload_n C 0 dX11_laid_45 rfl ?_
        refine gfX11_7 C dX11_laid_46 ?_
        refine m_iconst C 1 dX11_laid_49 (by decide +kernel) ?_
        refine m_iald C 65 (by decide) sa_65 1 rfl (by omega) (by decide) dX11_laid_50 ?_
        refine m_topi (nI ((z_B z).1.length + 1)) (by rw [hm2, mu_up_at]) ?_
        refine m_ireti C hQ dX11_laid_51 ?_
        exact PM_of (by unfold s_laid; rw [if_neg (by omega), if_neg hnp, if_neg (by omega)]) hz2 (hc1.trans hc2)
      replace hh3 := (ii_eq (nn_i (a := (z_B z).2.2.length) rfl (by omega)) (nn_i (a := 40) rfl (by omega))).mp hh3
      refine m_bipush C (-2) dX11_laid_33 (by decide +kernel) ?_
      refine m_ireti C hQ dX11_laid_35 ?_
      exact PM_of (by unfold s_laid; rw [if_neg (by omega), if_neg hnp, if_pos (by omega)]) hz zcm_rfl
    replace hh2 := mt (ii_lt (rfl : (s_pl (v_F (z_V z)) (ix i)).toInt = _) (nn_i (a := 0) rfl (by omega))).mpr hh2
    have hip : ix i ∈ (z_B z).1 := Decidable.not_not.mp (mt (pl_lt (F := (z_B z).1) (i := ix i) (by omega)).mpr hh2)
    refine m_bipush C (-4) dX11_laid_18 (by decide +kernel) ?_
    refine m_ireti C hQ dX11_laid_20 ?_
    exact PM_of (by unfold s_laid; rw [if_neg (by omega), if_pos hip]) hz zcm_rfl
  replace hh1 := bI_eq0.mp hh1
  refine m_iconst C (-1) dX11_laid_8 (by decide +kernel) ?_
  refine m_ireti C hQ dX11_laid_9 ?_
  exact PM_of (by unfold s_laid; rw [if_pos (by omega)]) hz zcm_rfl

set_option maxHeartbeats 4000000 in
set_option maxRecDepth 100000 in
theorem c_X11_lift (l : Launch) (G : Gl) (mu : Mu) (nu : Nu) (z : Zt) (hz : ZM mu nu z) : Ci l G mX11_lift 4 [.ref (G.1 64)] mu nu (PM mu nu (s_lift z)) := by
  have hv : zm mu (z_V z) := zm_v hz
  have hw := hv.1
  have hN7 := hw.1
  have hm7 := hw.2.2.1
  have ho8 := hw.2.2.2.2
  have hcz : ((v_N (z_V z) : Nat) : Int) = ((z_N z : Nat) : Int) := rfl
  have hd40 : (z_B z).2.2.length ≤ 40 := hz.2.2.1.1
  have hwb := hz.2.2.1
  have hwf : z_wf (z_N z) ((z_B z).1, (z_B z).2.1) := wb_last hz.2.2.1
  have hml : v_m (z_V z) = (z_B z).1.length := rfl
  have hzN : z_N z ≤ 7 := hN7
  refine Ct.of (lv := [(0, .ref (G.1 64))]) rfl rfl (Nat.le_of_ble_eq_true rfl) rfl (fun X C => ?_)
  generalize hQ : g_E G X _ = Q
  replace C : Cx G 1 X cX11_lift RX11 (some .int) 4 := C
  show Mq l G 1 X Q 0 [(0, .ref (G.1 64))] [] mu nu
  refine m_aload_n C 0 dX11_lift_0 rfl ?_
  refine gfX11_7 C dX11_lift_1 ?_
  refine m_iconst C 1 dX11_lift_4 (by decide +kernel) ?_
  refine m_iald C 65 (by decide) sa_65 1 rfl (by omega) (by decide) dX11_lift_5 ?_
  refine m_topi (nI (v_m (z_V z))) hv.2.2.1 ?_
  refine m_if_ne C 12 dX11_lift_6 (by decide) (fun hh1 => ?_) (fun hh1 => ?_)
  · replace hh1 := mt (ii_eq (nn_i (a := v_m (z_V z)) rfl (by omega)) (nn_i (a := 0) rfl (by omega))).mpr hh1
    refine m_aload_n C 0 dX11_lift_12 rfl ?_
    refine gfX11_7 C dX11_lift_13 ?_
    refine m_bipush C 31 dX11_lift_16 (by decide +kernel) ?_
    refine m_iald C 65 (by decide) sa_65 31 rfl (by omega) (by decide) dX11_lift_18 ?_
    refine m_topi (nI ((z_B z).2.2.length)) hz.2.1.2.2.2.2.2.1 ?_
    refine m_bipush C 40 dX11_lift_19 (by decide +kernel) ?_
    refine m_icmp_ne C 27 dX11_lift_21 (by decide) (fun hh2 => ?_) (fun hh2 => ?_)
    · replace hh2 := mt (ii_eq (nn_i (a := (z_B z).2.2.length) rfl (by omega)) (nn_i (a := 40) rfl (by omega))).mpr hh2
      refine m_aload_n C 0 dX11_lift_27 rfl ?_
      refine m_callVv C 64 (by decide) rfl rfl (c_X11_minds l G mu nu (z_B z).2.2.length hz.2.1.2.2.2.2.2.1 (by omega)) wkX11_154 (by decide) rfl rfl (Nat.le_of_ble_eq_true rfl) dX11_lift_28 (fun m3 n3 hp3 => ?_)
      obtain ⟨hz1, hc1⟩ := zm_minds hz (by omega) hp3
      refine m_aload_n C 0 dX11_lift_31 rfl ?_
      refine m_callVi C 64 (by decide) rfl rfl (c_X11_lifts l G m3 n3 (z_B z).1.length hz1.2.1.2.1 (by omega) (by omega)) wkX11_161 (by decide) rfl rfl (Nat.le_of_ble_eq_true rfl) dX11_lift_32 (fun r4 m4 n4 hp4 => ?_)
      refine m_ireti C hQ dX11_lift_35 ?_
      obtain ⟨hr2, hm2, hn2⟩ := hp4
      obtain ⟨hz2, hc2⟩ := zm_lift1 hwb hz1 (by omega) hm2 hn2
      rw [hr2, show m3 65 (3 + ((z_B z).1.length - 1)) = nI ((z_B z).1.getD ((z_B z).1.length - 1) 0) from hz1.2.1.2.2.2.1 _ (show (z_B z).1.length - 1 < (z_B z).1.length by omega)]
      exact PM_of (by unfold s_lift; rw [if_neg (by omega), if_neg (by omega)]) hz2 (hc1.trans hc2)
    replace hh2 := (ii_eq (nn_i (a := (z_B z).2.2.length) rfl (by omega)) (nn_i (a := 40) rfl (by omega))).mp hh2
    refine m_bipush C (-2) dX11_lift_24 (by decide +kernel) ?_
    refine m_ireti C hQ dX11_lift_26 ?_
    exact PM_of (by unfold s_lift; rw [if_neg (by omega), if_pos (by omega)]) hz zcm_rfl
  replace hh1 := (ii_eq (nn_i (a := v_m (z_V z)) rfl (by omega)) (nn_i (a := 0) rfl (by omega))).mp hh1
  refine m_bipush C (-4) dX11_lift_9 (by decide +kernel) ?_
  refine m_ireti C hQ dX11_lift_11 ?_
  exact PM_of (by unfold s_lift; rw [if_pos (by omega)]) hz zcm_rfl

set_option maxHeartbeats 4000000 in
set_option maxRecDepth 100000 in
theorem c_X11_change (l : Launch) (G : Gl) (mu : Mu) (nu : Nu) (z : Zt) (hz : ZM mu nu z) (a b : Int32) : Ci l G mX11_change 4 [.ref (G.1 64), .int a, .int b] mu nu (PM mu nu (s_chg z a b)) := by
  have hv : zm mu (z_V z) := zm_v hz
  have hw := hv.1
  have hN7 := hw.1
  have hm7 := hw.2.2.1
  have ho8 := hw.2.2.2.2
  have hcz : ((v_N (z_V z) : Nat) : Int) = ((z_N z : Nat) : Int) := rfl
  have hd40 : (z_B z).2.2.length ≤ 40 := hz.2.2.1.1
  have hwb := hz.2.2.1
  have hwf : z_wf (z_N z) ((z_B z).1, (z_B z).2.1) := wb_last hz.2.2.1
  have hml : v_m (z_V z) = (z_B z).1.length := rfl
  have hzN : z_N z ≤ 7 := hN7
  refine Ct.of (lv := [(0, .ref (G.1 64)), (1, .int a), (2, .int b)]) rfl rfl (Nat.le_of_ble_eq_true rfl) rfl (fun X C => ?_)
  generalize hQ : g_E G X _ = Q
  replace C : Cx G 4 X cX11_change RX11 (some .int) 4 := C
  show Mq l G 4 X Q 0 [(0, .ref (G.1 64)), (1, .int a), (2, .int b)] [] mu nu
  refine m_iload_n C 1 dX11_change_0 rfl ?_
  refine m_i2l C dX11_change_1 ?_
  refine m_lconst C 0 dX11_change_2 rfl ?_
  refine m_aload_n C 0 dX11_change_3 rfl ?_
  refine gfX11_7 C dX11_change_4 ?_
  refine m_iconst C 1 dX11_change_7 (by decide +kernel) ?_
  refine m_iald C 65 (by decide) sa_65 1 rfl (by omega) (by decide) dX11_change_8 ?_
  refine m_topi (nI (v_m (z_V z))) hv.2.2.1 ?_
  refine m_iconst C 1 dX11_change_9 (by decide +kernel) ?_
  refine m_isub C dX11_change_10 ?_
  refine m_i2l C dX11_change_11 ?_
  refine m_callSf C (c_in (a := a.toInt) (b := ((0 : Nat) : Int)) (c := ((v_m (z_V z) : Nat) : Int) - ((1 : Nat) : Int)) ((tl_i _).trans (rfl : (a).toInt = _)) (ln_i (a := 0) rfl (by omega)) ((tl_i _).trans (ii_sub (nn_i (a := v_m (z_V z)) rfl (by omega)) (nn_i (a := 1) rfl (by omega)) (by omega) (by omega)))) wkX11_68 (by decide) rfl rfl (Nat.le_of_ble_eq_true rfl) dX11_change_12 ?_
  refine m_if_eq C 41 dX11_change_15 (by decide) (fun hh1 => ?_) (fun hh1 => ?_)
  · replace hh1 := bI_eq0.mp hh1
    refine m_iconst C (-1) dX11_change_41 (by decide +kernel) ?_
    refine m_ireti C hQ dX11_change_42 ?_
    exact PM_of (by unfold s_chg; rw [if_pos (by omega)]) hz zcm_rfl
  replace hh1 := bI_ne0.mp hh1
  refine m_iload_n C 2 dX11_change_18 rfl ?_
  refine m_i2l C dX11_change_19 ?_
  refine m_lconst C 0 dX11_change_20 rfl ?_
  refine m_aload_n C 0 dX11_change_21 rfl ?_
  refine gfX11_7 C dX11_change_22 ?_
  refine m_iconst C 1 dX11_change_25 (by decide +kernel) ?_
  refine m_iald C 65 (by decide) sa_65 1 rfl (by omega) (by decide) dX11_change_26 ?_
  refine m_topi (nI (v_m (z_V z))) hv.2.2.1 ?_
  refine m_iconst C 1 dX11_change_27 (by decide +kernel) ?_
  refine m_isub C dX11_change_28 ?_
  refine m_i2l C dX11_change_29 ?_
  refine m_callSf C (c_in (a := b.toInt) (b := ((0 : Nat) : Int)) (c := ((v_m (z_V z) : Nat) : Int) - ((1 : Nat) : Int)) ((tl_i _).trans (rfl : (b).toInt = _)) (ln_i (a := 0) rfl (by omega)) ((tl_i _).trans (ii_sub (nn_i (a := v_m (z_V z)) rfl (by omega)) (nn_i (a := 1) rfl (by omega)) (by omega) (by omega)))) wkX11_68 (by decide) rfl rfl (Nat.le_of_ble_eq_true rfl) dX11_change_30 ?_
  refine m_if_eq C 41 dX11_change_33 (by decide) (fun hh2 => ?_) (fun hh2 => ?_)
  · replace hh2 := bI_eq0.mp hh2
    refine m_iconst C (-1) dX11_change_41 (by decide +kernel) ?_
    refine m_ireti C hQ dX11_change_42 ?_
    exact PM_of (by unfold s_chg; rw [if_pos (by omega)]) hz zcm_rfl
  replace hh2 := bI_ne0.mp hh2
  refine m_iload_n C 1 dX11_change_36 rfl ?_
  refine m_iload_n C 2 dX11_change_37 rfl ?_
  refine m_icmp_ne C 43 dX11_change_38 (by decide) (fun hh3 => ?_) (fun hh3 => ?_)
  · replace hh3 := mt (ii_eq (rfl : (a).toInt = _) (rfl : (b).toInt = _)).mpr hh3
    obtain ⟨ea, ka⟩ := ix_eq (x := a) (by omega)
    obtain ⟨eb, kb⟩ := ix_eq (x := b) (by omega)
    refine m_aload_n C 0 dX11_change_43 rfl ?_
    refine gfX11_7 C dX11_change_44 ?_
    refine m_bipush C 31 dX11_change_47 (by decide +kernel) ?_
    refine m_iald C 65 (by decide) sa_65 31 rfl (by omega) (by decide) dX11_change_49 ?_
    refine m_topi (nI ((z_B z).2.2.length)) hz.2.1.2.2.2.2.2.1 ?_
    refine m_bipush C 40 dX11_change_50 (by decide +kernel) ?_
    refine m_icmp_ne C 58 dX11_change_52 (by decide) (fun hh4 => ?_) (fun hh4 => ?_)
    · replace hh4 := mt (ii_eq (nn_i (a := (z_B z).2.2.length) rfl (by omega)) (nn_i (a := 40) rfl (by omega))).mpr hh4
      refine m_aload_n C 0 dX11_change_58 rfl ?_
      refine m_callVv C 64 (by decide) rfl rfl (c_X11_minds l G mu nu (z_B z).2.2.length hz.2.1.2.2.2.2.2.1 (by omega)) wkX11_154 (by decide) rfl rfl (Nat.le_of_ble_eq_true rfl) dX11_change_59 (fun m5 n5 hp5 => ?_)
      obtain ⟨hz1, hc1⟩ := zm_minds hz (by omega) hp5
      refine m_aload_n C 0 dX11_change_62 rfl ?_
      refine gfX11_7 C dX11_change_63 ?_
      refine m_iconst C 3 dX11_change_66 (by decide +kernel) ?_
      refine m_iload_n C 1 dX11_change_67 rfl ?_
      refine m_topi (nI (ix a)) ea ?_
      refine m_iadd C dX11_change_68 ?_
      refine m_topi (nI (3 + (ix a))) (nn_add rfl rfl) ?_
      refine m_iald C 65 (by decide) sa_65 (3 + (ix a)) rfl (by omega) (by decide) dX11_change_69 ?_
      refine m_topi (nI ((z_B z).1.getD (ix a) 0)) (hz1.2.1.2.2.2.1 (ix a) (show ix a < (z_B z).1.length by omega)) ?_
      refine m_istore_n C [(3, .int (nI ((z_B z).1.getD (ix a) 0))), (0, .ref (G.1 64)), (1, .int a), (2, .int b)] dX11_change_70 (by decide) rfl ?_
      refine m_aload_n C 1 dX11_change_71 rfl ?_
      refine gfX11_7 C dX11_change_72 ?_
      refine m_iconst C 3 dX11_change_75 (by decide +kernel) ?_
      refine m_iload_n C 2 dX11_change_76 rfl ?_
      refine m_topi (nI (ix a)) ea ?_
      refine m_iadd C dX11_change_77 ?_
      refine m_topi (nI (3 + (ix a))) (nn_add rfl rfl) ?_
      refine m_aload_n C 1 dX11_change_78 rfl ?_
      refine gfX11_7 C dX11_change_79 ?_
      refine m_iconst C 3 dX11_change_82 (by decide +kernel) ?_
      refine m_iload_n C 3 dX11_change_83 rfl ?_
      refine m_topi (nI (ix b)) eb ?_
      refine m_iadd C dX11_change_84 ?_
      refine m_topi (nI (3 + (ix b))) (nn_add rfl rfl) ?_
      refine m_iald C 65 (by decide) sa_65 (3 + (ix b)) rfl (by omega) (by decide) dX11_change_85 ?_
      refine m_topi (nI ((z_B z).1.getD (ix b) 0)) (hz1.2.1.2.2.2.1 (ix b) (show ix b < (z_B z).1.length by omega)) ?_
      refine m_iast C 65 (by decide) sa_65 (3 + (ix a)) rfl (by omega) (by decide) dX11_change_86 ?_
      refine m_nameM (fun mu6 emu6 => ?_)
      refine m_aload_n C 1 dX11_change_87 rfl ?_
      refine gfX11_7 C dX11_change_88 ?_
      refine m_iconst C 3 dX11_change_91 (by decide +kernel) ?_
      refine m_iload_n C 3 dX11_change_92 rfl ?_
      refine m_topi (nI (ix b)) eb ?_
      refine m_iadd C dX11_change_93 ?_
      refine m_topi (nI (3 + (ix b))) (nn_add rfl rfl) ?_
      refine m_iload_n C 0 dX11_change_94 rfl ?_
      refine m_iast C 65 (by decide) sa_65 (3 + (ix b)) rfl (by omega) (by decide) dX11_change_95 ?_
      refine m_nameM (fun mu7 emu7 => ?_)
      refine m_aload_n C 1 dX11_change_96 rfl ?_
      refine gfX11_7 C dX11_change_97 ?_
      refine m_iconst C 3 dX11_change_100 (by decide +kernel) ?_
      refine m_iload_n C 2 dX11_change_101 rfl ?_
      refine m_topi (nI (ix a)) ea ?_
      refine m_iadd C dX11_change_102 ?_
      refine m_topi (nI (3 + (ix a))) (nn_add rfl rfl) ?_
      refine m_iald C 65 (by decide) sa_65 (3 + (ix a)) rfl (by omega) (by decide) dX11_change_103 ?_
      refine m_topi (nI ((z_B z).1.getD (ix b) 0)) (by rw [emu7, mu_up_an (by omega), emu6, mu_up_at]) ?_
      refine m_ireti C hQ dX11_change_104 ?_
      obtain ⟨hz2, hc2⟩ := zm_swap1 (a := ix a) (b := ix b) (m2 := mu7) hwb hz1 (by omega) (by omega) (by rw [emu7, emu6]) rfl
      exact PM_of (by unfold s_chg; rw [if_neg (by omega), if_neg (by omega), s_swap_gd (by omega) (by omega), if_neg (by omega), if_pos rfl]) hz2 (hc1.trans hc2)
    replace hh4 := (ii_eq (nn_i (a := (z_B z).2.2.length) rfl (by omega)) (nn_i (a := 40) rfl (by omega))).mp hh4
    refine m_bipush C (-2) dX11_change_55 (by decide +kernel) ?_
    refine m_ireti C hQ dX11_change_57 ?_
    exact PM_of (by unfold s_chg; rw [if_neg (by omega), if_pos (by omega)]) hz zcm_rfl
  replace hh3 := (ii_eq (rfl : (a).toInt = _) (rfl : (b).toInt = _)).mp hh3
  refine m_iconst C (-1) dX11_change_41 (by decide +kernel) ?_
  refine m_ireti C hQ dX11_change_42 ?_
  exact PM_of (by unfold s_chg; rw [if_pos (by omega)]) hz zcm_rfl

set_option maxHeartbeats 4000000 in
set_option maxRecDepth 100000 in
theorem c_X11_over (l : Launch) (G : Gl) (mu : Mu) (nu : Nu) (z : Zt) (hz : ZM mu nu z) (i : Int32) : Ci l G mX11_over 4 [.ref (G.1 64), .int i] mu nu (PM mu nu (s_over z i)) := by
  have hv : zm mu (z_V z) := zm_v hz
  have hw := hv.1
  have hN7 := hw.1
  have hm7 := hw.2.2.1
  have ho8 := hw.2.2.2.2
  have hcz : ((v_N (z_V z) : Nat) : Int) = ((z_N z : Nat) : Int) := rfl
  have hd40 : (z_B z).2.2.length ≤ 40 := hz.2.2.1.1
  have hwb := hz.2.2.1
  have hwf : z_wf (z_N z) ((z_B z).1, (z_B z).2.1) := wb_last hz.2.2.1
  have hml : v_m (z_V z) = (z_B z).1.length := rfl
  have hzN : z_N z ≤ 7 := hN7
  refine Ct.of (lv := [(0, .ref (G.1 64)), (1, .int i)]) rfl rfl (Nat.le_of_ble_eq_true rfl) rfl (fun X C => ?_)
  generalize hQ : g_E G X _ = Q
  replace C : Cx G 2 X cX11_over RX11 (some .int) 4 := C
  show Mq l G 2 X Q 0 [(0, .ref (G.1 64)), (1, .int i)] [] mu nu
  refine m_aload_n C 0 dX11_over_0 rfl ?_
  refine m_iload_n C 1 dX11_over_1 rfl ?_
  refine m_callVf C 64 (by decide) rfl rfl (c_X11_isRod l G mu nu (z_V z) hv i) wkX11_133 (by decide) rfl rfl (Nat.le_of_ble_eq_true rfl) dX11_over_2 ?_
  refine m_if_ne C 10 dX11_over_5 (by decide) (fun hh1 => ?_) (fun hh1 => ?_)
  · replace hh1 := bI_ne0.mp hh1
    obtain ⟨ei, ki⟩ := ix_eq (x := i) (by omega)
    have hi : ix i < v_N (z_V z) := by omega
    have hri := hw.2.1 (ix i) hi
    have hdi := v_dg_le hw hi
    refine m_aload_n C 0 dX11_over_10 rfl ?_
    refine gfX11_7 C dX11_over_11 ?_
    refine m_bipush C 31 dX11_over_14 (by decide +kernel) ?_
    refine m_iald C 65 (by decide) sa_65 31 rfl (by omega) (by decide) dX11_over_16 ?_
    refine m_topi (nI ((z_B z).2.2.length)) hz.2.1.2.2.2.2.2.1 ?_
    refine m_bipush C 40 dX11_over_17 (by decide +kernel) ?_
    refine m_icmp_ne C 25 dX11_over_19 (by decide) (fun hh2 => ?_) (fun hh2 => ?_)
    · replace hh2 := mt (ii_eq (nn_i (a := (z_B z).2.2.length) rfl (by omega)) (nn_i (a := 40) rfl (by omega))).mpr hh2
      refine m_aload_n C 0 dX11_over_25 rfl ?_
      refine m_callVv C 64 (by decide) rfl rfl (c_X11_minds l G mu nu (z_B z).2.2.length hz.2.1.2.2.2.2.2.1 (by omega)) wkX11_154 (by decide) rfl rfl (Nat.le_of_ble_eq_true rfl) dX11_over_26 (fun m3 n3 hp3 => ?_)
      obtain ⟨hz1, hc1⟩ := zm_minds hz (by omega) hp3
      refine m_aload_n C 0 dX11_over_29 rfl ?_
      refine gfX11_7 C dX11_over_30 ?_
      refine m_iconst C 2 dX11_over_33 (by decide +kernel) ?_
      refine m_dup2 C dX11_over_34 rfl rfl ?_
      refine m_iald C 65 (by decide) sa_65 2 rfl (by omega) (by decide) dX11_over_35 ?_
      refine m_topi (nI ((z_B z).2.1)) hz1.2.1.2.2.1 ?_
      refine m_iconst C 1 dX11_over_36 (by decide +kernel) ?_
      refine m_iload_n C 1 dX11_over_37 rfl ?_
      refine m_topi (nI (ix i)) ei ?_
      refine m_ishl C dX11_over_38 ?_
      refine m_topi (nI (2 ^ (ix i))) (nn_shl1 rfl (by omega)) ?_
      refine m_ixor C dX11_over_39 ?_
      refine m_topi (nI (((z_B z).2.1) ^^^ (2 ^ (ix i)))) (nn_xor rfl rfl) ?_
      refine m_iast C 65 (by decide) sa_65 2 rfl (by omega) (by decide) dX11_over_40 ?_
      refine m_nameM (fun mu4 emu4 => ?_)
      obtain ⟨hz2, hc2⟩ := zm_turn1 (i := ix i) (m2 := mu4) hwb hz1 (by omega) emu4 rfl
      refine m_aload_n C 0 dX11_over_41 rfl ?_
      refine m_iload_n C 1 dX11_over_42 rfl ?_
      refine m_topi (nI (ix i)) ei ?_
      refine m_callVf C 64 (by decide) rfl rfl (c_X11_digitOf l G mu4 n3 (z_V (u_bn z (b_do (z_B z) 4 (ix i) 0))) (zm_v hz2) (ix i) hi) wkX11_123 (by decide) rfl rfl (Nat.le_of_ble_eq_true rfl) dX11_over_43 ?_
      refine m_ireti C hQ dX11_over_46 ?_
      exact PM_of (by unfold s_over; rw [if_neg (by omega), if_neg (by omega)]) hz2 (hc1.trans hc2)
    replace hh2 := (ii_eq (nn_i (a := (z_B z).2.2.length) rfl (by omega)) (nn_i (a := 40) rfl (by omega))).mp hh2
    refine m_bipush C (-2) dX11_over_22 (by decide +kernel) ?_
    refine m_ireti C hQ dX11_over_24 ?_
    exact PM_of (by unfold s_over; rw [if_neg (by omega), if_pos (by omega)]) hz zcm_rfl
  replace hh1 := bI_eq0.mp hh1
  refine m_iconst C (-1) dX11_over_8 (by decide +kernel) ?_
  refine m_ireti C hQ dX11_over_9 ?_
  exact PM_of (by unfold s_over; rw [if_pos (by omega)]) hz zcm_rfl

set_option maxHeartbeats 4000000 in
set_option maxRecDepth 100000 in
theorem c_X11_undo (l : Launch) (G : Gl) (mu : Mu) (nu : Nu) (z : Zt) (hz : ZM mu nu z) (n : Int32) : Ci l G mX11_undo 4 [.ref (G.1 64), .int n] mu nu (PM mu nu (s_undo z n)) := by
  have hv : zm mu (z_V z) := zm_v hz
  have hw := hv.1
  have hN7 := hw.1
  have hm7 := hw.2.2.1
  have ho8 := hw.2.2.2.2
  have hcz : ((v_N (z_V z) : Nat) : Int) = ((z_N z : Nat) : Int) := rfl
  have hd40 : (z_B z).2.2.length ≤ 40 := hz.2.2.1.1
  have hwb := hz.2.2.1
  have hwf : z_wf (z_N z) ((z_B z).1, (z_B z).2.1) := wb_last hz.2.2.1
  have hml : v_m (z_V z) = (z_B z).1.length := rfl
  have hzN : z_N z ≤ 7 := hN7
  refine Ct.of (lv := [(0, .ref (G.1 64)), (1, .int n)]) rfl rfl (Nat.le_of_ble_eq_true rfl) rfl (fun X C => ?_)
  generalize hQ : g_E G X _ = Q
  replace C : Cx G 5 X cX11_undo RX11 (some .int) 4 := C
  show Mq l G 5 X Q 0 [(0, .ref (G.1 64)), (1, .int n)] [] mu nu
  refine m_iload_n C 1 dX11_undo_0 rfl ?_
  refine m_i2l C dX11_undo_1 ?_
  refine m_lconst C 0 dX11_undo_2 rfl ?_
  refine m_aload_n C 0 dX11_undo_3 rfl ?_
  refine gfX11_7 C dX11_undo_4 ?_
  refine m_bipush C 31 dX11_undo_7 (by decide +kernel) ?_
  refine m_iald C 65 (by decide) sa_65 31 rfl (by omega) (by decide) dX11_undo_9 ?_
  refine m_topi (nI ((z_B z).2.2.length)) hz.2.1.2.2.2.2.2.1 ?_
  refine m_i2l C dX11_undo_10 ?_
  refine m_topl (lN ((z_B z).2.2.length)) (ln_i2l rfl (by omega)) ?_
  refine m_callSf C (c_in (a := n.toInt) (b := ((0 : Nat) : Int)) (c := (((z_B z).2.2.length : Nat) : Int)) ((tl_i _).trans (rfl : (n).toInt = _)) (ln_i (a := 0) rfl (by omega)) (ln_i (a := (z_B z).2.2.length) rfl (by omega))) wkX11_68 (by decide) rfl rfl (Nat.le_of_ble_eq_true rfl) dX11_undo_11 ?_
  refine m_if_ne C 19 dX11_undo_14 (by decide) (fun hh1 => ?_) (fun hh1 => ?_)
  · replace hh1 := bI_ne0.mp hh1
    obtain ⟨en, kn⟩ := ix_eq (x := n) (by omega)
    refine m_aload_n C 0 dX11_undo_19 rfl ?_
    refine gfX11_7 C dX11_undo_20 ?_
    refine m_bipush C 31 dX11_undo_23 (by decide +kernel) ?_
    refine m_iald C 65 (by decide) sa_65 31 rfl (by omega) (by decide) dX11_undo_25 ?_
    refine m_topi (nI ((z_B z).2.2.length)) hz.2.1.2.2.2.2.2.1 ?_
    refine m_iload_n C 1 dX11_undo_26 rfl ?_
    refine m_topi (nI (ix n)) en ?_
    refine m_isub C dX11_undo_27 ?_
    refine m_topi (nI (((z_B z).2.2.length) - (ix n))) (nn_sub rfl rfl (by omega)) ?_
    refine m_istore_n C [(2, .int (nI (((z_B z).2.2.length) - (ix n)))), (0, .ref (G.1 64)), (1, .int n)] dX11_undo_28 (by decide) rfl ?_
    refine m_iload_n C 0 dX11_undo_29 rfl ?_
    refine m_if_le C 111 dX11_undo_30 (by decide) (fun hh2 => ?_) (fun hh2 => ?_)
    · replace hh2 := (ii_le (nn_i (a := ((z_B z).2.2.length) - (ix n)) rfl (by omega)) (nn_i (a := 0) rfl (by omega))).mp hh2
      refine m_iload_n C 0 dX11_undo_111 rfl ?_
      refine m_ireti C hQ dX11_undo_112 ?_
      have en2 : ix n = (z_B z).2.2.length := by omega
      have hz2 : ZM mu nu (u_bn z (b_un (z_B z) (ix n))) := by rw [en2, b_un_all]; exact hz
      exact PM_of (by unfold s_undo; rw [if_neg (by omega)]) hz2 zcm_rfl
    replace hh2 := mt (ii_le (nn_i (a := ((z_B z).2.2.length) - (ix n)) rfl (by omega)) (nn_i (a := 0) rfl (by omega))).mpr hh2
    refine m_bipush C 32 dX11_undo_33 (by decide +kernel) ?_
    refine m_bipush C 9 dX11_undo_35 (by decide +kernel) ?_
    refine m_iload_n C 2 dX11_undo_37 rfl ?_
    refine m_topi (nI (ix n)) en ?_
    refine m_imul C dX11_undo_38 ?_
    refine m_topi (nI (9 * (ix n))) (nn_mul rfl rfl) ?_
    refine m_iadd C dX11_undo_39 ?_
    refine m_topi (nI (32 + (9 * (ix n)))) (nn_add rfl rfl) ?_
    refine m_istore_n C [(3, .int (nI (32 + (9 * (ix n))))), (2, .int (nI (((z_B z).2.2.length) - (ix n)))), (0, .ref (G.1 64)), (1, .int n)] dX11_undo_40 (by decide) rfl ?_
    refine m_aload_n C 2 dX11_undo_41 rfl ?_
    refine gfX11_7 C dX11_undo_42 ?_
    refine m_iconst C 1 dX11_undo_45 (by decide +kernel) ?_
    refine m_aload_n C 2 dX11_undo_46 rfl ?_
    refine gfX11_7 C dX11_undo_47 ?_
    refine m_iload_n C 0 dX11_undo_50 rfl ?_
    refine m_iald C 65 (by decide) sa_65 (32 + (9 * (ix n))) rfl (by omega) (by decide) dX11_undo_51 ?_
    refine m_iast C 65 (by decide) sa_65 1 rfl (by omega) (by decide) dX11_undo_52 ?_
    refine m_nameM (fun mu3 emu3 => ?_)
    refine m_aload_n C 2 dX11_undo_53 rfl ?_
    refine gfX11_7 C dX11_undo_54 ?_
    refine m_iconst C 2 dX11_undo_57 (by decide +kernel) ?_
    refine m_aload_n C 2 dX11_undo_58 rfl ?_
    refine gfX11_7 C dX11_undo_59 ?_
    refine m_iload_n C 0 dX11_undo_62 rfl ?_
    refine m_iconst C 1 dX11_undo_63 (by decide +kernel) ?_
    refine m_iadd C dX11_undo_64 ?_
    refine m_topi (nI ((32 + (9 * (ix n))) + 1)) (nn_add rfl rfl) ?_
    refine m_iald C 65 (by decide) sa_65 ((32 + (9 * (ix n))) + 1) rfl (by omega) (by decide) dX11_undo_65 ?_
    refine m_topi (mu 65 (32 + 9 * ix n + 1)) (by rw [emu3, mu_up_an (by omega)]) ?_
    refine m_iast C 65 (by decide) sa_65 2 rfl (by omega) (by decide) dX11_undo_66 ?_
    refine m_nameM (fun mu4 emu4 => ?_)
    refine m_iconst C 0 dX11_undo_67 (by decide +kernel) ?_
    refine m_istore C [(4, .int 0), (3, .int (nI (32 + (9 * (ix n))))), (2, .int (nI (((z_B z).2.2.length) - (ix n)))), (0, .ref (G.1 64)), (1, .int n)] dX11_undo_68 (by decide) rfl ?_
    have L70 : ∀ (fu : Nat) (k : Nat) (m : Mu) (hk : k ≤ 7) (hm0 : ∀ c, c ≠ 65 → m c = mu c) (hm1 : ∀ j, ¬ (1 ≤ j ∧ j < 3 + k) → m 65 j = mu 65 j) (hm2 : m 65 1 = mu 65 (32 + 9 * ix n) ∧ m 65 2 = mu 65 (32 + 9 * ix n + 1)) (hm3 : ∀ q, q < k → m 65 (3 + q) = mu 65 (32 + 9 * ix n + 2 + q)), 7 - k < fu → Mq l G 5 X Q 70 [(0, .ref (G.1 64)), (1, .int n), (2, .int (nI (((z_B z).2.2.length) - (ix n)))), (3, .int (nI (32 + (9 * (ix n))))), (4, .int (nI k))] [] m nu := by
      intro fu
      induction fu with
      | zero => intro k m hk hm0 hm1 hm2 hm3 hm; exact absurd hm (Nat.not_lt_zero _)
      | succ fu ih70 =>
        intro k m hk hm0 hm1 hm2 hm3 hm
        refine m_iload C 4 dX11_undo_70 rfl ?_
        refine m_bipush C 7 dX11_undo_72 (by decide +kernel) ?_
        refine m_icmp_ge C 103 dX11_undo_74 (by decide) (fun hh5 => ?_) (fun hh5 => ?_)
        · replace hh5 := (ii_le (nn_i (a := 7) rfl (by omega)) (nn_i (a := k) rfl (by omega))).mp hh5
          refine m_aload_n C 0 dX11_undo_103 rfl ?_
          refine gfX11_7 C dX11_undo_104 ?_
          refine m_bipush C 31 dX11_undo_107 (by decide +kernel) ?_
          refine m_iload_n C 1 dX11_undo_109 rfl ?_
          refine m_topi (nI (ix n)) en ?_
          refine m_iast C 65 (by decide) sa_65 31 rfl (by omega) (by decide) dX11_undo_110 ?_
          refine m_nameM (fun mu6 emu6 => ?_)
          refine m_iload_n C 2 dX11_undo_111 rfl ?_
          refine m_ireti C hQ dX11_undo_112 ?_
          have hk7 : k = 7 := by omega
          subst hk7
          obtain ⟨hz2, hc2⟩ := zm_undo (n := ix n) (m := mu6) (n2 := nu) hz (by omega) ⟨fun c hc => by rw [emu6, mu_up_ne hc]; exact hm0 c hc, fun j h1 h2 => by rw [emu6, mu_up_an h2]; exact hm1 j (by omega), by rw [emu6, mu_up_an (by omega)]; exact hm2.1, by rw [emu6, mu_up_an (by omega)]; exact hm2.2, fun q hq => by rw [emu6, mu_up_an (by omega)]; exact hm3 q hq, by rw [emu6, mu_up_at], rfl⟩
          exact PM_of (by unfold s_undo; rw [if_neg (by omega)]) hz2 hc2
        replace hh5 := mt (ii_le (nn_i (a := 7) rfl (by omega)) (nn_i (a := k) rfl (by omega))).mpr hh5
        refine m_aload_n C 0 dX11_undo_77 rfl ?_
        refine gfX11_7 C dX11_undo_78 ?_
        refine m_iconst C 3 dX11_undo_81 (by decide +kernel) ?_
        refine m_iload C 4 dX11_undo_82 rfl ?_
        refine m_iadd C dX11_undo_84 ?_
        refine m_topi (nI (3 + k)) (nn_add rfl rfl) ?_
        refine m_aload_n C 0 dX11_undo_85 rfl ?_
        refine gfX11_7 C dX11_undo_86 ?_
        refine m_iload_n C 3 dX11_undo_89 rfl ?_
        refine m_iconst C 2 dX11_undo_90 (by decide +kernel) ?_
        refine m_iadd C dX11_undo_91 ?_
        refine m_topi (nI ((32 + (9 * (ix n))) + 2)) (nn_add rfl rfl) ?_
        refine m_iload C 4 dX11_undo_92 rfl ?_
        refine m_iadd C dX11_undo_94 ?_
        refine m_topi (nI (((32 + (9 * (ix n))) + 2) + k)) (nn_add rfl rfl) ?_
        refine m_iald C 65 (by decide) sa_65 (((32 + (9 * (ix n))) + 2) + k) rfl (by omega) (by decide) dX11_undo_95 ?_
        refine m_topi (mu 65 (32 + 9 * ix n + 2 + k)) (hm1 _ (by omega)) ?_
        refine m_iast C 65 (by decide) sa_65 (3 + k) rfl (by omega) (by decide) dX11_undo_96 ?_
        refine m_nameM (fun mu7 emu7 => ?_)
        refine m_iinc C 4 (nI (k + 1)) [(4, .int (nI (k + 1))), (0, .ref (G.1 64)), (1, .int n), (2, .int (nI (((z_B z).2.2.length) - (ix n)))), (3, .int (nI (32 + (9 * (ix n)))))] dX11_undo_97 rfl (nn_add rfl (show Int32.ofInt 1 = nI 1 from rfl)) (by decide) rfl ?_
        refine m_goto C 70 dX11_undo_100 (by decide) ?_
        exact m_sub [1, 2, 3, 4, 0] rfl (ih70 (k + 1) mu7 (by omega) (fun c hc => by rw [emu7, mu_up_ne hc]; exact hm0 c hc) (fun j hj => by rw [emu7, mu_up_an (by omega)]; exact hm1 j (by omega)) (⟨by rw [emu7, mu_up_an (by omega)]; exact hm2.1, by rw [emu7, mu_up_an (by omega)]; exact hm2.2⟩) (fun q hq => by
                  by_cases e : q = k
                  · rw [e, emu7, mu_up_at]
                  · rw [emu7, mu_up_an (by omega)]; exact hm3 q (by omega)) (by omega))
    exact m_sub [3, 4, 2, 1, 0] rfl (L70 (_ + 1) 0 mu4 (Nat.zero_le _) (fun c hc => by rw [emu4, mu_up_ne hc, emu3, mu_up_ne hc]) (fun j hj => by rw [emu4, mu_up_an (by omega), emu3, mu_up_an (by omega)]) (⟨by rw [emu4, mu_up_an (by omega), emu3, mu_up_at], by rw [emu4, mu_up_at]⟩) (fun q hq => absurd hq (Nat.not_lt_zero _)) (Nat.lt_succ_self _))
  replace hh1 := bI_eq0.mp hh1
  refine m_iconst C (-1) dX11_undo_17 (by decide +kernel) ?_
  refine m_ireti C hQ dX11_undo_18 ?_
  exact PM_of (by unfold s_undo; rw [if_pos (by omega)]) hz zcm_rfl

set_option maxHeartbeats 4000000 in
set_option maxRecDepth 100000 in
theorem c_X11_bring (l : Launch) (G : Gl) (mu : Mu) (nu : Nu) (fr to : Nat) (hf : fr ≤ 1176) (ht : to ≤ 1176) (hd : fr + 392 ≤ to ∨ to + 392 ≤ fr) : Cv l G mX11_bring 1 [.ref (G.1 64), .int (nI fr), .int (nI to)] mu nu (BR mu nu fr to) := by
  refine Ct.of (lv := [(0, .ref (G.1 64)), (1, .int (nI fr)), (2, .int (nI to))]) rfl rfl (Nat.le_of_ble_eq_true rfl) rfl (fun X C => ?_)
  generalize hQ : g_E G X _ = Q
  replace C : Cx G 4 X cX11_bring RX11 none 1 := C
  show Mq l G 4 X Q 0 [(0, .ref (G.1 64)), (1, .int (nI fr)), (2, .int (nI to))] [] mu nu
  refine m_iconst C 0 dX11_bring_0 (by decide +kernel) ?_
  refine m_istore_n C [(3, .int 0), (0, .ref (G.1 64)), (1, .int (nI fr)), (2, .int (nI to))] dX11_bring_1 (by decide) rfl ?_
  have L2 : ∀ (fu : Nat) (k : Nat) (m : Mu) (hk : k ≤ 392) (hm0 : ∀ c, c ≠ 65 → m c = mu c) (hm1 : ∀ j, ¬ (to ≤ j ∧ j < to + k) → m 65 j = mu 65 j) (hm3 : ∀ q, q < k → m 65 (to + q) = mu 65 (fr + q)), 392 - k < fu → Mq l G 4 X Q 2 [(0, .ref (G.1 64)), (1, .int (nI fr)), (2, .int (nI to)), (3, .int (nI k))] [] m nu := by
    intro fu
    induction fu with
    | zero => intro k m hk hm0 hm1 hm3 hm; exact absurd hm (Nat.not_lt_zero _)
    | succ fu ih2 =>
      intro k m hk hm0 hm1 hm3 hm
      refine m_iload_n C 3 dX11_bring_2 rfl ?_
      refine m_sipush C 392 dX11_bring_3 (by decide +kernel) ?_
      refine m_icmp_ge C 31 dX11_bring_6 (by decide) (fun hh1 => ?_) (fun hh1 => ?_)
      · replace hh1 := (ii_le (nn_i (a := 392) rfl (by omega)) (nn_i (a := k) rfl (by omega))).mp hh1
        refine m_vretv C hQ dX11_bring_31 ?_
        have ek : k = 392 := by omega
        subst ek
        exact ⟨hm0, hm1, hm3, rfl⟩
      replace hh1 := mt (ii_le (nn_i (a := 392) rfl (by omega)) (nn_i (a := k) rfl (by omega))).mpr hh1
      refine m_aload_n C 0 dX11_bring_9 rfl ?_
      refine gfX11_7 C dX11_bring_10 ?_
      refine m_iload_n C 2 dX11_bring_13 rfl ?_
      refine m_iload_n C 3 dX11_bring_14 rfl ?_
      refine m_iadd C dX11_bring_15 ?_
      refine m_topi (nI (to + k)) (nn_add rfl rfl) ?_
      refine m_aload_n C 0 dX11_bring_16 rfl ?_
      refine gfX11_7 C dX11_bring_17 ?_
      refine m_iload_n C 1 dX11_bring_20 rfl ?_
      refine m_iload_n C 3 dX11_bring_21 rfl ?_
      refine m_iadd C dX11_bring_22 ?_
      refine m_topi (nI (fr + k)) (nn_add rfl rfl) ?_
      refine m_iald C 65 (by decide) sa_65 (fr + k) rfl (by omega) (by decide) dX11_bring_23 ?_
      refine m_topi (mu 65 (fr + k)) (hm1 _ (by omega)) ?_
      refine m_iast C 65 (by decide) sa_65 (to + k) rfl (by omega) (by decide) dX11_bring_24 ?_
      refine m_nameM (fun mu2 emu2 => ?_)
      refine m_iinc C 3 (nI (k + 1)) [(3, .int (nI (k + 1))), (0, .ref (G.1 64)), (1, .int (nI fr)), (2, .int (nI to))] dX11_bring_25 rfl (nn_add rfl (show Int32.ofInt 1 = nI 1 from rfl)) (by decide) rfl ?_
      refine m_goto C 2 dX11_bring_28 (by decide) ?_
      exact m_sub [1, 2, 3, 0] rfl (ih2 (k + 1) mu2 (by omega) (fun c hc => by rw [emu2, mu_up_ne hc]; exact hm0 c hc) (fun j hj => by rw [emu2, mu_up_an (by omega)]; exact hm1 j (by omega)) (fun q hq => by
                by_cases e : q = k
                · rw [e, emu2, mu_up_at]
                · rw [emu2, mu_up_an (by omega)]; exact hm3 q (by omega)) (by omega))
  exact m_sub [1, 2, 3, 0] rfl (L2 (_ + 1) 0 mu (Nat.zero_le _) (fun c hc => rfl) (fun j hj => rfl) (fun q hq => absurd hq (Nat.not_lt_zero _)) (Nat.lt_succ_self _))

set_option maxHeartbeats 4000000 in
set_option maxRecDepth 100000 in
theorem c_X11_keep (l : Launch) (G : Gl) (mu : Mu) (nu : Nu) (z : Zt) (hz : ZM mu nu z) (k : Int32) : Ci l G mX11_keep 4 [.ref (G.1 64), .int k] mu nu (PM mu nu (s_keep z k)) := by
  have hv : zm mu (z_V z) := zm_v hz
  have hw := hv.1
  have hN7 := hw.1
  have hm7 := hw.2.2.1
  have ho8 := hw.2.2.2.2
  have hcz : ((v_N (z_V z) : Nat) : Int) = ((z_N z : Nat) : Int) := rfl
  have hd40 : (z_B z).2.2.length ≤ 40 := hz.2.2.1.1
  have hwb := hz.2.2.1
  have hwf : z_wf (z_N z) ((z_B z).1, (z_B z).2.1) := wb_last hz.2.2.1
  have hml : v_m (z_V z) = (z_B z).1.length := rfl
  have hzN : z_N z ≤ 7 := hN7
  refine Ct.of (lv := [(0, .ref (G.1 64)), (1, .int k)]) rfl rfl (Nat.le_of_ble_eq_true rfl) rfl (fun X C => ?_)
  generalize hQ : g_E G X _ = Q
  replace C : Cx G 2 X cX11_keep RX11 (some .int) 4 := C
  show Mq l G 2 X Q 0 [(0, .ref (G.1 64)), (1, .int k)] [] mu nu
  refine m_iload_n C 1 dX11_keep_0 rfl ?_
  refine m_i2l C dX11_keep_1 ?_
  refine m_lconst C 0 dX11_keep_2 rfl ?_
  refine m_ldc2 C 2 wcX11_164 dX11_keep_3 ?_
  refine m_callSf C (c_in (a := k.toInt) (b := ((0 : Nat) : Int)) (c := ((2 : Nat) : Int)) ((tl_i _).trans (rfl : (k).toInt = _)) (ln_i (a := 0) rfl (by omega)) (ln_i (a := 2) rfl (by omega))) wkX11_68 (by decide) rfl rfl (Nat.le_of_ble_eq_true rfl) dX11_keep_6 ?_
  refine m_if_ne C 14 dX11_keep_9 (by decide) (fun hh1 => ?_) (fun hh1 => ?_)
  · replace hh1 := bI_ne0.mp hh1
    obtain ⟨ek, kk⟩ := ix_eq (x := k) (by omega)
    refine m_aload_n C 0 dX11_keep_14 rfl ?_
    refine gfX11_7 C dX11_keep_15 ?_
    refine m_iconst C 0 dX11_keep_18 (by decide +kernel) ?_
    refine m_iald C 65 (by decide) sa_65 0 rfl (by omega) (by decide) dX11_keep_19 ?_
    refine m_topi (nI (z_N z)) hv.2.1 ?_
    refine m_if_ne C 26 dX11_keep_20 (by decide) (fun hh2 => ?_) (fun hh2 => ?_)
    · replace hh2 := mt (ii_eq (nn_i (a := z_N z) rfl (by omega)) (nn_i (a := 0) rfl (by omega))).mpr hh2
      refine m_aload_n C 0 dX11_keep_26 rfl ?_
      refine m_iconst C 0 dX11_keep_27 (by decide +kernel) ?_
      refine m_sipush C 392 dX11_keep_28 (by decide +kernel) ?_
      refine m_sipush C 392 dX11_keep_31 (by decide +kernel) ?_
      refine m_iload_n C 1 dX11_keep_34 rfl ?_
      refine m_topi (nI (ix k)) ek ?_
      refine m_imul C dX11_keep_35 ?_
      refine m_topi (nI (392 * (ix k))) (nn_mul rfl rfl) ?_
      refine m_iadd C dX11_keep_36 ?_
      refine m_topi (nI (392 + (392 * (ix k)))) (nn_add rfl rfl) ?_
      refine m_callVv C 64 (by decide) rfl rfl (c_X11_bring l G mu nu 0 (392 + 392 * ix k) (by omega) (by omega) (by omega)) wkX11_166 (by decide) rfl rfl (Nat.le_of_ble_eq_true rfl) dX11_keep_37 (fun m3 n3 hp3 => ?_)
      obtain ⟨hz2, hc2⟩ := zm_keepk (k := ix k) hz (by omega) (by omega) hp3
      refine m_aload_n C 0 dX11_keep_40 rfl ?_
      refine gfX11_7 C dX11_keep_41 ?_
      refine m_bipush C 31 dX11_keep_44 (by decide +kernel) ?_
      refine m_iald C 65 (by decide) sa_65 31 rfl (by omega) (by decide) dX11_keep_46 ?_
      refine m_topi (nI ((z_B z).2.2.length)) hz2.2.1.2.2.2.2.2.1 ?_
      refine m_ireti C hQ dX11_keep_47 ?_
      exact PM_of (by unfold s_keep; rw [if_neg (by omega), if_neg (by omega)]) hz2 hc2
    replace hh2 := (ii_eq (nn_i (a := z_N z) rfl (by omega)) (nn_i (a := 0) rfl (by omega))).mp hh2
    refine m_bipush C (-4) dX11_keep_23 (by decide +kernel) ?_
    refine m_ireti C hQ dX11_keep_25 ?_
    exact PM_of (by unfold s_keep; rw [if_neg (by omega), if_pos (by omega)]) hz zcm_rfl
  replace hh1 := bI_eq0.mp hh1
  refine m_iconst C (-1) dX11_keep_12 (by decide +kernel) ?_
  refine m_ireti C hQ dX11_keep_13 ?_
  exact PM_of (by unfold s_keep; rw [if_pos (by omega)]) hz zcm_rfl

set_option maxHeartbeats 4000000 in
set_option maxRecDepth 100000 in
theorem c_X11_on (l : Launch) (G : Gl) (mu : Mu) (nu : Nu) (z : Zt) (hz : ZM mu nu z) (k : Int32) : Ci l G mX11_on 4 [.ref (G.1 64), .int k] mu nu (PM mu nu (s_on z k)) := by
  have hv : zm mu (z_V z) := zm_v hz
  have hw := hv.1
  have hN7 := hw.1
  have hm7 := hw.2.2.1
  have ho8 := hw.2.2.2.2
  have hcz : ((v_N (z_V z) : Nat) : Int) = ((z_N z : Nat) : Int) := rfl
  have hd40 : (z_B z).2.2.length ≤ 40 := hz.2.2.1.1
  have hwb := hz.2.2.1
  have hwf : z_wf (z_N z) ((z_B z).1, (z_B z).2.1) := wb_last hz.2.2.1
  have hml : v_m (z_V z) = (z_B z).1.length := rfl
  have hzN : z_N z ≤ 7 := hN7
  refine Ct.of (lv := [(0, .ref (G.1 64)), (1, .int k)]) rfl rfl (Nat.le_of_ble_eq_true rfl) rfl (fun X C => ?_)
  generalize hQ : g_E G X _ = Q
  replace C : Cx G 2 X cX11_on RX11 (some .int) 4 := C
  show Mq l G 2 X Q 0 [(0, .ref (G.1 64)), (1, .int k)] [] mu nu
  refine m_iload_n C 1 dX11_on_0 rfl ?_
  refine m_i2l C dX11_on_1 ?_
  refine m_lconst C 0 dX11_on_2 rfl ?_
  refine m_ldc2 C 2 wcX11_164 dX11_on_3 ?_
  refine m_callSf C (c_in (a := k.toInt) (b := ((0 : Nat) : Int)) (c := ((2 : Nat) : Int)) ((tl_i _).trans (rfl : (k).toInt = _)) (ln_i (a := 0) rfl (by omega)) (ln_i (a := 2) rfl (by omega))) wkX11_68 (by decide) rfl rfl (Nat.le_of_ble_eq_true rfl) dX11_on_6 ?_
  refine m_if_ne C 14 dX11_on_9 (by decide) (fun hh1 => ?_) (fun hh1 => ?_)
  · replace hh1 := bI_ne0.mp hh1
    obtain ⟨ek, kk⟩ := ix_eq (x := k) (by omega)
    have hkk := hz.2.2.2.1 (ix k) (by omega)
    refine m_aload_n C 0 dX11_on_14 rfl ?_
    refine gfX11_7 C dX11_on_15 ?_
    refine m_sipush C 392 dX11_on_18 (by decide +kernel) ?_
    refine m_sipush C 392 dX11_on_21 (by decide +kernel) ?_
    refine m_iload_n C 1 dX11_on_24 rfl ?_
    refine m_topi (nI (ix k)) ek ?_
    refine m_imul C dX11_on_25 ?_
    refine m_topi (nI (392 * (ix k))) (nn_mul rfl rfl) ?_
    refine m_iadd C dX11_on_26 ?_
    refine m_topi (nI (392 + (392 * (ix k)))) (nn_add rfl rfl) ?_
    refine m_iconst C 0 dX11_on_27 (by decide +kernel) ?_
    refine m_iadd C dX11_on_28 ?_
    refine m_topi (nI ((392 + (392 * (ix k))) + 0)) (nn_add rfl rfl) ?_
    refine m_iald C 65 (by decide) sa_65 ((392 + (392 * (ix k))) + 0) rfl (by omega) (by decide) dX11_on_29 ?_
    refine m_if_ne C 39 dX11_on_30 (by decide) (fun hh2 => ?_) (fun hh2 => ?_)
    · replace hh2 := mt (ii_eq (rfl : (mu 65 ((392 + (392 * (ix k))) + 0)).toInt = _) (nn_i (a := 0) rfl (by omega))).mpr hh2
      obtain ⟨B, hB⟩ := Option.isSome_iff_exists.mp ((zwk_is hkk hN7).mpr (fun e => hh2 e))
      refine m_aload_n C 0 dX11_on_39 rfl ?_
      refine m_sipush C 392 dX11_on_40 (by decide +kernel) ?_
      refine m_sipush C 392 dX11_on_43 (by decide +kernel) ?_
      refine m_iload_n C 1 dX11_on_46 rfl ?_
      refine m_topi (nI (ix k)) ek ?_
      refine m_imul C dX11_on_47 ?_
      refine m_topi (nI (392 * (ix k))) (nn_mul rfl rfl) ?_
      refine m_iadd C dX11_on_48 ?_
      refine m_topi (nI (392 + (392 * (ix k)))) (nn_add rfl rfl) ?_
      refine m_iconst C 0 dX11_on_49 (by decide +kernel) ?_
      refine m_callVv C 64 (by decide) rfl rfl (c_X11_bring l G mu nu (392 + 392 * ix k) 0 (by omega) (by omega) (by omega)) wkX11_166 (by decide) rfl rfl (Nat.le_of_ble_eq_true rfl) dX11_on_50 (fun m3 n3 hp3 => ?_)
      obtain ⟨hz2, hc2⟩ := zm_onk (k := ix k) hz (by omega) hB hp3
      refine m_aload_n C 0 dX11_on_53 rfl ?_
      refine gfX11_7 C dX11_on_54 ?_
      refine m_bipush C 31 dX11_on_57 (by decide +kernel) ?_
      refine m_iald C 65 (by decide) sa_65 31 rfl (by omega) (by decide) dX11_on_59 ?_
      refine m_topi (nI B.2.2.length) hz2.2.1.2.2.2.2.2.1 ?_
      refine m_ireti C hQ dX11_on_60 ?_
      exact PM_of (by unfold s_on; rw [if_neg (by omega)]; simp only [hB]) hz2 hc2
    replace hh2 := (ii_eq (rfl : (mu 65 ((392 + (392 * (ix k))) + 0)).toInt = _) (nn_i (a := 0) rfl (by omega))).mp hh2
    have hB : z_kp z (ix k) = none := Option.not_isSome_iff_eq_none.mp (fun e => (zwk_is hkk hN7).mp e hh2)
    refine m_aload_n C 0 dX11_on_33 rfl ?_
    refine m_iconst C 1 dX11_on_34 (by decide +kernel) ?_
    refine m_callVi C 64 (by decide) rfl rfl (c_X11_finds l G mu nu 1 (by decide)) wkX11_80 (by decide) rfl rfl (Nat.le_of_ble_eq_true rfl) dX11_on_35 (fun r4 m4 n4 hp4 => ?_)
    refine m_ireti C hQ dX11_on_38 ?_
    exact PM_find hz (by decide) hp4 (by unfold s_on; rw [if_neg (by omega)]; simp only [hB])
  replace hh1 := bI_eq0.mp hh1
  refine m_iconst C (-1) dX11_on_12 (by decide +kernel) ?_
  refine m_ireti C hQ dX11_on_13 ?_
  exact PM_of (by unfold s_on; rw [if_pos (by omega)]) hz zcm_rfl
