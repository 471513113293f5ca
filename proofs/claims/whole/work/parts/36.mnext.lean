/-- all frames that go on from P by k rods, in their order -/
def e_all (N : Nat) : Nat → List Nat → List (List Nat)
  | 0, P => [P]
  | k + 1, P => (List.range N).flatMap (fun i => if i ∈ P then [] else e_all N k (P ++ [i]))
/-- those whose next rod is j or a later one -/
def e_from (N k : Nat) (P : List Nat) (j : Nat) : List (List Nat) := ((List.range N).drop j).flatMap (fun i => if i ∈ P then [] else e_all N k (P ++ [i]))
def e_upd (N L : Nat) (P : List Nat) : Nat → List (List Nat)
  | 0 => []
  | d + 1 => e_from N (L - d - 1) (P.take d) (P.getD d 0 + 1) ++ e_upd N L P d
theorem ef_0 {N k : Nat} {P : List Nat} : e_from N k P 0 = e_all N (k + 1) P := by
  unfold e_from; rw [List.drop_zero, e_all]
theorem ef_N {N k : Nat} {P : List Nat} : e_from N k P N = [] := by
  unfold e_from
  rw [List.drop_eq_nil_of_le (by simp)]; rfl
theorem ef_step {N k j : Nat} {P : List Nat} (h : j < N) : e_from N k P j = (if j ∈ P then [] else e_all N k (P ++ [j])) ++ e_from N k P (j + 1) := by
  unfold e_from
  rw [List.drop_eq_getElem_cons (by simpa using h), List.flatMap_cons]
  simp
theorem ef_in {N k j : Nat} {P : List Nat} (h : j < N) (hj : j ∈ P) : e_from N k P j = e_from N k P (j + 1) := by
  rw [ef_step h, if_pos hj, List.nil_append]
theorem ef_out {N k j : Nat} {P : List Nat} (h : j < N) (hj : ¬ j ∈ P) : e_from N k P j = e_all N k (P ++ [j]) ++ e_from N k P (j + 1) := by
  rw [ef_step h, if_neg hj]
theorem eu_congr {N L : Nat} {P Q : List Nat} : ∀ d, P.take d = Q.take d → d ≤ P.length → d ≤ Q.length → e_upd N L P d = e_upd N L Q d
  | 0, _, _, _ => rfl
  | d + 1, h, hp, hq => by
    have h1 : P.take d = Q.take d := by
      have := congrArg (List.take d) h
      rwa [List.take_take, List.take_take, Nat.min_eq_left (by omega)] at this
    have h2 : P.getD d 0 = Q.getD d 0 := by
      have := congrArg (fun l => l.getD d 0) h
      simpa [List.getD, List.getElem?_take_of_lt (Nat.lt_succ_self d)] using this
    unfold e_upd
    rw [h1, h2, eu_congr d h1 (by omega) (by omega)]
theorem eu_app {N L i : Nat} {P : List Nat} : e_upd N L (P ++ [i]) (P.length + 1) = e_from N (L - P.length - 1) P (i + 1) ++ e_upd N L P P.length := by
  have h1 : (P ++ [i]).take P.length = P := by simp
  have h2 : (P ++ [i]).getD P.length 0 = i := by simp [List.getD]
  have h3 : e_upd N L (P ++ [i]) P.length = e_upd N L P P.length := eu_congr _ (by simp) (by simp) (Nat.le_refl _)
  show e_from N (L - P.length - 1) ((P ++ [i]).take P.length) ((P ++ [i]).getD P.length 0 + 1) ++ e_upd N L (P ++ [i]) P.length = _
  rw [h1, h2, h3]
theorem eu_pop {N L d : Nat} {P : List Nat} (h : P.length = d + 1) : e_upd N L P (d + 1) = e_from N (L - d - 1) P.dropLast (P.getD d 0 + 1) ++ e_upd N L P.dropLast d := by
  have h1 : P.take d = P.dropLast := by rw [List.dropLast_eq_take, h]; rfl
  have h2 : e_upd N L P d = e_upd N L P.dropLast d := by
    refine eu_congr _ ?_ (by omega) (by simp [h])
    rw [← h1, List.take_take, Nat.min_self]
  show e_from N (L - d - 1) (P.take d) (P.getD d 0 + 1) ++ e_upd N L P d = _
  rw [h1, h2]
def e_T (N : Nat) : Nat → Nat
  | 0 => 0
  | k + 1 => N * (1 + e_T N k) + 1
def e_C (N L : Nat) (P : List Nat) : Nat → Nat
  | 0 => 0
  | d + 1 => (N - (P.getD d 0 + 1)) * (1 + e_T N (L - d - 1)) + 1 + e_C N L P d
def e_M (N L : Nat) (P : List Nat) (j : Nat) : Nat → Nat
  | 0 => 0
  | d + 1 => (N - j) * (1 + e_T N (L - d - 1)) + 1 + e_C N L P d
theorem ec_congr {N L : Nat} {P Q : List Nat} : ∀ d, (∀ p, p < d → P.getD p 0 = Q.getD p 0) → e_C N L P d = e_C N L Q d
  | 0, _ => rfl
  | d + 1, h => by
    unfold e_C
    rw [h d (by omega), ec_congr d (fun p hp => h p (by omega))]
theorem em_up {N L d j : Nat} {P : List Nat} (h : P.length = d + 1) : e_M N L P.dropLast (P.getD d 0 + 1) (d + 1) < e_M N L P j (d + 2) := by
  have h2 : e_C N L P.dropLast d = e_C N L P d := ec_congr d (fun p hp => by
    rw [List.dropLast_eq_take]
    simp [List.getD, List.getElem?_take_of_lt (show p < P.length - 1 by omega)])
  show (N - (P.getD d 0 + 1)) * (1 + e_T N (L - d - 1)) + 1 + e_C N L P.dropLast d < (N - j) * _ + 1 + ((N - (P.getD d 0 + 1)) * (1 + e_T N (L - d - 1)) + 1 + e_C N L P d)
  rw [h2]; omega
theorem em_0 {N L j : Nat} {P : List Nat} : e_M N L [] 0 0 < e_M N L P j 1 := by
  show 0 < _ + 1 + 0
  omega
theorem em_down {N L i j : Nat} {P : List Nat} (hji : j ≤ i) (hi : i < N) (hL : P.length + 1 < L) : e_M N L (P ++ [i]) 0 (P.length + 2) < e_M N L P j (P.length + 1) := by
  have h2 : e_C N L (P ++ [i]) P.length = e_C N L P P.length := ec_congr _ (fun p hp => by simp [List.getD, List.getElem?_append_left hp])
  have h3 : (P ++ [i]).getD P.length 0 = i := by simp [List.getD]
  show (N - 0) * (1 + e_T N (L - (P.length + 1) - 1)) + 1 + ((N - ((P ++ [i]).getD P.length 0 + 1)) * (1 + e_T N (L - P.length - 1)) + 1 + e_C N L (P ++ [i]) P.length) < (N - j) * (1 + e_T N (L - P.length - 1)) + 1 + e_C N L P P.length
  rw [h2, h3]
  obtain ⟨k, hk⟩ : ∃ k, L - P.length - 1 = k + 1 := ⟨L - P.length - 2, by omega⟩
  rw [hk, show L - (P.length + 1) - 1 = k by omega]
  have e : e_T N (k + 1) = N * (1 + e_T N k) + 1 := rfl
  have h4 : (N - i) * (1 + e_T N (k + 1)) ≤ (N - j) * (1 + e_T N (k + 1)) := Nat.mul_le_mul_right _ (by omega)
  have h5 : (N - i) * (1 + e_T N (k + 1)) = (N - (i + 1)) * (1 + e_T N (k + 1)) + (1 + e_T N (k + 1)) := by
    rw [show N - i = N - (i + 1) + 1 by omega, Nat.add_mul, Nat.one_mul]
  rw [Nat.sub_zero]
  generalize (N - j) * (1 + e_T N (k + 1)) = a at *
  generalize (N - i) * (1 + e_T N (k + 1)) = b at *
  generalize (N - (i + 1)) * (1 + e_T N (k + 1)) = c at *
  generalize N * (1 + e_T N k) = q at *
  omega
def e_st (f : List Nat → Nat) : Nat × List Nat → List Nat → Nat × List Nat := fun a Q => if f Q < a.1 then (f Q, Q) else a
theorem ext_all {N : Nat} {f : List Nat → Nat} : ∀ (k : Nat) (P : List Nat) (a : Nat × List Nat), s_ext N f k P a = (e_all N k P).foldl (e_st f) a
  | 0, P, a => rfl
  | k + 1, P, a => by
    unfold s_ext e_all
    rw [List.foldl_flatMap]
    congr 1
    funext b i
    by_cases h : i ∈ P
    · rw [if_pos h, if_pos h]; rfl
    · rw [if_neg h, if_neg h]; exact ext_all k _ _
theorem es_head {f : List Nat → Nat} {Q : List Nat} {R : List (List Nat)} {c c2 : Nat} {x y : List Nat} (h : f Q < c) (h2 : f Q < c2) : (Q :: R).foldl (e_st f) (c, x) = (Q :: R).foldl (e_st f) (c2, y) := by
  rw [List.foldl_cons, List.foldl_cons]
  unfold e_st
  rw [if_pos h, if_pos h2]
theorem es_0 {f : List Nat → Nat} {Q : List Nat} : ∀ (R : List (List Nat)), R.foldl (e_st f) (0, Q) = (0, Q)
  | [] => rfl
  | X :: R => by
    rw [List.foldl_cons, show e_st f (0, Q) X = (0, Q) from if_neg (Nat.not_lt_zero _)]
    exact es_0 R
theorem ea_len {N : Nat} : ∀ (k : Nat) (P Q : List Nat), Q ∈ e_all N k P → Q.length = P.length + k ∧ ∀ x ∈ Q, x ∈ P ∨ x < N
  | 0, P, Q, h => by
    have h : Q ∈ [P] := h
    rw [List.mem_singleton.mp h]
    exact ⟨rfl, fun x hx => Or.inl hx⟩
  | k + 1, P, Q, h => by
    unfold e_all at h
    obtain ⟨i, hi, h⟩ := List.mem_flatMap.mp h
    by_cases c : i ∈ P
    · rw [if_pos c] at h; exact absurd h List.not_mem_nil
    · rw [if_neg c] at h
      obtain ⟨h1, h2⟩ := ea_len k _ _ h
      rw [List.length_append] at h1
      refine ⟨by simp at h1; omega, fun x hx => ?_⟩
      rcases h2 x hx with h3 | h3
      · rcases List.mem_append.mp h3 with h4 | h4
        · exact Or.inl h4
        · rw [List.mem_singleton.mp h4]; exact Or.inr (List.mem_range.mp hi)
      · exact Or.inr h3
def GF (mu m : Mu) : Prop := (∀ c, c ≠ 64 → c ≠ 73 → c ≠ 74 → m c = mu c) ∧ ∀ j, j ≠ 19 → m 64 j = mu 64 j
theorem gf_rfl {mu : Mu} : GF mu mu := ⟨fun _ _ _ _ => rfl, fun _ _ => rfl⟩
theorem gf_73 {mu m0 m : Mu} {s : Nat} {v : Int32} (h : GF mu m0) (e : m = mu_up m0 73 s v) : GF mu m := by
  rw [e]; exact ⟨fun c h1 h2 h3 => by rw [mu_up_ne h2]; exact h.1 c h1 h2 h3, fun j hj => by rw [mu_up_ne (by decide)]; exact h.2 j hj⟩
theorem gf_74 {mu m0 m : Mu} {s : Nat} {v : Int32} (h : GF mu m0) (e : m = mu_up m0 74 s v) : GF mu m := by
  rw [e]; exact ⟨fun c h1 h2 h3 => by rw [mu_up_ne h3]; exact h.1 c h1 h2 h3, fun j hj => by rw [mu_up_ne (by decide)]; exact h.2 j hj⟩
theorem gf_19 {mu m0 m : Mu} {v : Int32} (h : GF mu m0) (e : m = mu_up m0 64 19 v) : GF mu m := by
  rw [e]; exact ⟨fun c h1 h2 h3 => by rw [mu_up_ne h1]; exact h.1 c h1 h2 h3, fun j hj => by rw [mu_up_an hj]; exact h.2 j hj⟩
theorem zm_65 {mu m : Mu} {V : Vw} (h : zm mu V) (e : m 65 = mu 65) : zm m V := by
  unfold zm
  rw [e]; exact h
/-- the frame laid aside last -/
def GS (m : Mu) (N L : Nat) (sh : Nat → Nat) (Q : List Nat) : Prop := Q.length = L ∧ (∀ x ∈ Q, x < N) ∧ (∀ p, p < L → m 73 p = nI (Q.getD p 0)) ∧ ∀ p, p ≤ L → m 74 p = nI (s_vl sh (Q.take p))
def GI (mu m : Mu) (N L : Nat) (sh : Nat → Nat) (R : List (List Nat)) (P : List Nat) (j : Nat) : Nat → Prop
  | 0 => m 64 19 = -1 ∧ R = [] ∧ GF mu m
  | d + 1 => m 64 19 = nI d ∧ P.length = d ∧ d < L ∧ (∀ x ∈ P, x < N) ∧ (∀ p, p < d → m 73 p = nI (P.getD p 0)) ∧ m 73 d + 1 = nI j ∧ j ≤ N ∧ (∀ p, p ≤ d → m 74 p = nI (s_vl sh (P.take p))) ∧ R = e_from N (L - d - 1) P j ++ e_upd N L P d ∧ GF mu m
def GP (mu : Mu) (nu : Nu) (N L : Nat) (sh : Nat → Nat) (R : List (List Nat)) : Int32 → Mu → Nu → Prop := fun r m n2 => n2 = nu ∧ GF mu m ∧ ((r = 1 ∧ ∃ Q, R = Q :: e_upd N L Q L ∧ GS m N L sh Q) ∨ (r = 0 ∧ R = []))
theorem gi_up {mu m ma mb : Mu} {N L d j : Nat} {sh : Nat → Nat} {R : List (List Nat)} {P : List Nat} {x : Int32} (h : GI mu m N L sh R P j (d + 1)) (hN : N ≤ 7) (he : e_from N (L - d - 1) P j = []) (ea : ma = mu_up m 73 d x) (eb : mb = mu_up ma 64 19 (nI d - 1)) : GI mu mb N L sh R P.dropLast (P.getD (d - 1) 0 + 1) d ∧ e_M N L P.dropLast (P.getD (d - 1) 0 + 1) d < e_M N L P j (d + 1) := by
  obtain ⟨h1, h2, h3, h4, h5, h6, h7, h8, h9, h10⟩ := h
  have hf : GF mu mb := gf_19 (gf_73 h10 ea) eb
  have hR : R = e_upd N L P d := by rw [h9, he, List.nil_append]
  cases d with
  | zero =>
    refine ⟨⟨by rw [eb, mu_up_at]; decide, by rw [hR]; rfl, hf⟩, ?_⟩
    show 0 < _ + 1 + 0
    omega
  | succ d =>
    rw [show d + 1 - 1 = d by omega]
    have hx := h4 _ (gd_mem (F := P) (p := d) (by omega))
    refine ⟨⟨by rw [eb, mu_up_at, nI_pred], by simp [h2], by omega, fun y hy => h4 y (List.dropLast_subset P hy), fun p hp => ?_, ?_, by omega, fun p hp => ?_, by rw [hR, eu_pop h2], hf⟩, em_up h2⟩
    · rw [eb, mu_up_ne (by decide), ea, mu_up_an (by omega), h5 p (by omega), gd_drop (by omega)]
    · rw [eb, mu_up_ne (by decide), ea, mu_up_an (by omega), h5 d (by omega)]
      exact nI_add (P.getD d 0) 1
    · rw [eb, mu_up_ne (by decide), ea, mu_up_ne (by decide), h8 p (by omega), List.dropLast_eq_take, List.take_take, Nat.min_eq_left (by omega)]
theorem gi_go {mu m m3 : Mu} {N L d j i : Nat} {sh : Nat → Nat} {R : List (List Nat)} {P : List Nat} (h : GI mu m N L sh R P j (d + 1)) (hsk : e_from N (L - d - 1) P j = e_from N (L - d - 1) P i) (hi : i < N) (hn : ¬ i ∈ P) (e : m3 = mu_up (mu_up (mu_up m 73 d (nI i)) 74 (d + 1) (nI (10 * s_vl sh P + sh i))) 64 19 (nI (d + 1))) : (P ++ [i]).length = d + 1 ∧ (∀ x ∈ P ++ [i], x < N) ∧ (∀ p, p < d + 1 → m3 73 p = nI ((P ++ [i]).getD p 0)) ∧ (∀ p, p ≤ d + 1 → m3 74 p = nI (s_vl sh ((P ++ [i]).take p))) ∧ R = e_all N (L - d - 1) (P ++ [i]) ++ e_upd N L (P ++ [i]) (d + 1) ∧ GF mu m3 ∧ m3 64 19 = nI (d + 1) := by
  obtain ⟨h1, h2, h3, h4, h5, h6, h7, h8, h9, h10⟩ := h
  refine ⟨by simp [h2], fun x hx => ?_, fun p hp => ?_, fun p hp => ?_, ?_, ?_, by rw [e, mu_up_at]⟩
  · rcases List.mem_append.mp hx with q | q
    · exact h4 x q
    · rw [List.mem_singleton.mp q]; exact hi
  · rw [e, mu_up_ne (by decide), mu_up_ne (by decide)]
    by_cases c : p = d
    · rw [c, mu_up_at, ← h2, gd_eq]
    · rw [mu_up_an c, h5 p (by omega), gd_lt (by omega)]
  · rw [e, mu_up_ne (by decide)]
    by_cases c : p = d + 1
    · rw [c, mu_up_at, show d + 1 = (P ++ [i]).length by simp [h2], List.take_length, s_vl_app]
    · rw [mu_up_an c, mu_up_ne (by decide), h8 p (by omega), List.take_append_of_le_length (by omega)]
  · rw [h9, hsk, ef_out hi hn]
    have := eu_app (N := N) (L := L) (i := i) (P := P)
    rw [h2] at this
    rw [this, List.append_assoc]
  · exact gf_19 (gf_74 (gf_73 h10 rfl) rfl) e
theorem gi_down {mu m m3 m4 : Mu} {N L d j i : Nat} {sh : Nat → Nat} {R : List (List Nat)} {P : List Nat} (h : GI mu m N L sh R P j (d + 1)) (hsk : e_from N (L - d - 1) P j = e_from N (L - d - 1) P i) (hji : j ≤ i) (hi : i < N) (hn : ¬ i ∈ P) (hdL : d + 1 < L) (e : m3 = mu_up (mu_up (mu_up m 73 d (nI i)) 74 (d + 1) (nI (10 * s_vl sh P + sh i))) 64 19 (nI (d + 1))) (e4 : m4 = mu_up m3 73 (d + 1) (-1)) : GI mu m4 N L sh R (P ++ [i]) 0 (d + 2) ∧ e_M N L (P ++ [i]) 0 (d + 2) < e_M N L P j (d + 1) := by
  obtain ⟨g1, g2, g3, g4, g5, g6, g7⟩ := gi_go h hsk hi hn e
  have hP : P.length = d := h.2.1
  refine ⟨⟨by rw [e4, mu_up_ne (by decide)]; exact g7, g1, hdL, g2, fun p hp => by rw [e4, mu_up_an (by omega)]; exact g3 p hp, by rw [e4, mu_up_at]; decide, Nat.zero_le _, fun p hp => by rw [e4, mu_up_ne (by decide)]; exact g4 p hp, ?_, gf_73 g6 e4⟩, ?_⟩
  · rw [ef_0, show L - (d + 1) - 1 + 1 = L - d - 1 by omega]; exact g5
  · rw [← hP]; exact em_down hji hi (by omega)
theorem gi_done {mu m m3 : Mu} {nu : Nu} {N L d j i : Nat} {sh : Nat → Nat} {R : List (List Nat)} {P : List Nat} (h : GI mu m N L sh R P j (d + 1)) (hsk : e_from N (L - d - 1) P j = e_from N (L - d - 1) P i) (hi : i < N) (hn : ¬ i ∈ P) (hdL : d + 1 = L) (e : m3 = mu_up (mu_up (mu_up m 73 d (nI i)) 74 (d + 1) (nI (10 * s_vl sh P + sh i))) 64 19 (nI (d + 1))) : GP mu nu N L sh R 1 m3 nu := by
  obtain ⟨g1, g2, g3, g4, g5, g6, g7⟩ := gi_go h hsk hi hn e
  subst hdL
  refine ⟨rfl, g6, Or.inl ⟨rfl, P ++ [i], ?_, g1, g2, g3, g4⟩⟩
  rw [g5, show d + 1 - d - 1 = 0 by omega]; rfl
theorem gi_next {mu m : Mu} {N L : Nat} {sh : Nat → Nat} {Q : List Nat} (hN : N ≤ 7) (hL : 1 ≤ L) (h : GS mu N L sh Q) (e : m = mu_up mu 64 19 (nI (L - 1))) : GI mu m N L sh (e_upd N L Q L) Q.dropLast (Q.getD (L - 1) 0 + 1) L := by
  obtain ⟨h1, h2, h3, h4⟩ := h
  obtain ⟨d, rfl⟩ : ∃ d, L = d + 1 := ⟨L - 1, by omega⟩
  have e1 : d + 1 - 1 = d := by omega
  rw [e1] at e ⊢
  have hx := h2 _ (gd_mem (F := Q) (p := d) (by omega))
  refine ⟨by rw [e, mu_up_at], by simp [h1], by omega, fun y hy => h2 y (List.dropLast_subset Q hy), fun p hp => ?_, ?_, by omega, fun p hp => ?_, eu_pop h1, gf_19 gf_rfl e⟩
  · rw [e, mu_up_ne (by decide), h3 p (by omega), gd_drop (by omega)]
  · rw [e, mu_up_ne (by decide), h3 d (by omega)]
    exact nI_add (Q.getD d 0) 1
  · rw [e, mu_up_ne (by decide), h4 p (by omega), List.dropLast_eq_take, List.take_take, Nat.min_eq_left (by omega)]
set_option maxHeartbeats 4000000 in
set_option maxRecDepth 100000 in
theorem c_X11_goesNext_1 (l : Launch) (G : Gl) (mu : Mu) (nu : Nu) (V : Vw) (hv : zm mu V) (n : Nat) (h1 : 1 ≤ n) (h9 : n ≤ 9) (L : Nat) (hL : L ≤ v_N V) : Ci l G mX11_goesNext 4 [.ref (G.1 64), .int (nI L), .int (nI n), .int 1] mu nu (GP mu nu (v_N V) L (fun i => v_sh V i n) (e_all (v_N V) L [])) := by
  have hw := hv.1
  have hN7 := hw.1
  have hm7 := hw.2.2.1
  have ho8 := hw.2.2.2.2
  refine Ct.of (lv := [(0, .ref (G.1 64)), (1, .int (nI L)), (2, .int (nI n)), (3, .int 1)]) rfl rfl (Nat.le_of_ble_eq_true rfl) rfl (fun X C => ?_)
  generalize hQ : g_E G X _ = Q
  replace C : Cx G 6 X cX11_goesNext RX11 (some .boolean) 4 := C
  show Mq l G 6 X Q 0 [(0, .ref (G.1 64)), (1, .int (nI L)), (2, .int (nI n)), (3, .int 1)] [] mu nu
  refine m_iload_n C 3 dX11_goesNext_0 rfl ?_
  refine m_if_eq C 29 dX11_goesNext_1 (by decide) (fun h => absurd h (by decide)) (fun _ => ?_)
  refine m_aload_n C 0 dX11_goesNext_4 rfl ?_
  refine m_iconst C 0 dX11_goesNext_5 (by decide +kernel) ?_
  refine pfX11_176 C dX11_goesNext_6 ?_
  refine m_nameM (fun mu1 emu1 => ?_)
  refine m_aload_n C 0 dX11_goesNext_9 rfl ?_
  refine gfX11_38 C dX11_goesNext_10 ?_
  refine m_iconst C 0 dX11_goesNext_13 (by decide +kernel) ?_
  refine m_iconst C (-1) dX11_goesNext_14 (by decide +kernel) ?_
  refine m_iast C 73 (by decide) sa_73 0 rfl (by omega) (by decide) dX11_goesNext_15 ?_
  refine m_nameM (fun mu2 emu2 => ?_)
  refine m_aload_n C 0 dX11_goesNext_16 rfl ?_
  refine gfX11_41 C dX11_goesNext_17 ?_
  refine m_iconst C 0 dX11_goesNext_20 (by decide +kernel) ?_
  refine m_iconst C 0 dX11_goesNext_21 (by decide +kernel) ?_
  refine m_iast C 74 (by decide) sa_74 0 rfl (by omega) (by decide) dX11_goesNext_22 ?_
  refine m_nameM (fun mu3 emu3 => ?_)
  refine m_iload_n C 1 dX11_goesNext_23 rfl ?_
  refine m_if_ne C 36 dX11_goesNext_24 (by decide) (fun hh4 => ?_) (fun hh4 => ?_)
  · replace hh4 := mt (ii_eq (nn_i (a := L) rfl (by omega)) (nn_i (a := 0) rfl (by omega))).mpr hh4
    have L36 : ∀ (fu : Nat) (dd : Nat) (P : List Nat) (j : Nat) (m : Mu) (hg : GI mu m (v_N V) L (fun i => v_sh V i n) (e_all (v_N V) L []) P j dd), e_M (v_N V) L P j dd < fu → Mq l G 6 X Q 36 [(0, .ref (G.1 64)), (1, .int (nI L)), (2, .int (nI n)), (3, .int 1)] [] m nu := by
      intro fu
      induction fu with
      | zero => intro dd P j m hg hm; exact absurd hm (Nat.not_lt_zero _)
      | succ fu ih36 =>
        intro dd P j m hg hm
        rcases dd with _ | d
        · skip
          obtain ⟨h19, hR0, hF⟩ := hg
          refine m_aload_n C 0 dX11_goesNext_36 rfl ?_
          refine gfX11_176 C dX11_goesNext_37 ?_
          refine m_if_lt C 217 dX11_goesNext_40 (by decide) (fun _ => ?_) (fun hh5 => absurd ((ii_lt (show (m 64 19).toInt = -1 by rw [h19]; decide) (nn_i (a := 0) rfl (by omega))).mpr (by omega)) hh5)
          refine m_iconst C 0 dX11_goesNext_217 (by decide +kernel) ?_
          refine m_zreti C hQ dX11_goesNext_218 rfl ?_
          exact ⟨rfl, hF, Or.inr ⟨rfl, hR0⟩⟩
        · skip
          have hgi := hg
          obtain ⟨h19, hPl, hdL, hPx, h73, hj1, hjN, h74, hRR, hF⟩ := hg
          have h65 : m 65 = mu 65 := hF.1 65 (by decide) (by decide) (by decide)
          have h650 : m 65 0 = nI (v_N V) := by rw [h65]; exact hv.2.1
          have hvl := s_vl_le (N := v_N V) (sh := (fun i => v_sh V i n)) (fun i hi => v_sh_le hw hi h9) P hPx
          have hp10 := p10_7 (p := P.length) (by omega)
          have hb128 := s_bits_lt (F := P) (fun x hx => by have := hPx x hx; omega)
          refine m_aload_n C 0 dX11_goesNext_36 rfl ?_
          refine gfX11_176 C dX11_goesNext_37 ?_
          refine m_topi (nI d) h19 ?_
          refine m_if_lt C 217 dX11_goesNext_40 (by decide) (fun hh6 => absurd hh6 (mt (ii_lt (nn_i (a := d) rfl (by omega)) (nn_i (a := 0) rfl (by omega))).mp (by omega))) (fun _ => ?_)
          refine m_iconst C 0 dX11_goesNext_43 (by decide +kernel) ?_
          refine m_istore C [(4, .int 0), (0, .ref (G.1 64)), (1, .int (nI L)), (2, .int (nI n)), (3, .int 1)] dX11_goesNext_44 (by decide) rfl ?_
          refine m_iconst C 0 dX11_goesNext_46 (by decide +kernel) ?_
          refine m_istore C [(5, .int 0), (4, .int 0), (0, .ref (G.1 64)), (1, .int (nI L)), (2, .int (nI n)), (3, .int 1)] dX11_goesNext_47 (by decide) rfl ?_
          have L49 : ∀ (fu : Nat) (q : Nat) (hq : q ≤ d), d - q < fu → Mq l G 6 X Q 49 [(0, .ref (G.1 64)), (1, .int (nI L)), (2, .int (nI n)), (3, .int 1), (4, .int (nI ((P.take q).foldl (fun b i => b ||| 2 ^ i) 0))), (5, .int (nI q))] [] m nu := by
            intro fu
            induction fu with
            | zero => intro q hq hm; exact absurd hm (Nat.not_lt_zero _)
            | succ fu ih49 =>
              intro q hq hm
              refine m_iload C 5 dX11_goesNext_49 rfl ?_
              refine m_aload_n C 0 dX11_goesNext_51 rfl ?_
              refine gfX11_176 C dX11_goesNext_52 ?_
              refine m_topi (nI d) h19 ?_
              refine m_icmp_ge C 78 dX11_goesNext_55 (by decide) (fun hh7 => ?_) (fun hh7 => ?_)
              · replace hh7 := (ii_le (nn_i (a := d) rfl (by omega)) (nn_i (a := q) rfl (by omega))).mp hh7
                have eq2 : q = d := by omega
                rw [show (P.take q).foldl (fun b i => b ||| 2 ^ i) 0 = s_bits P from by rw [eq2, ← hPl, List.take_length]; rfl]
                refine m_aload_n C 0 dX11_goesNext_78 rfl ?_
                refine gfX11_38 C dX11_goesNext_79 ?_
                refine m_aload_n C 0 dX11_goesNext_82 rfl ?_
                refine gfX11_176 C dX11_goesNext_83 ?_
                refine m_topi (nI d) h19 ?_
                refine m_iald C 73 (by decide) sa_73 d rfl (by omega) (by decide) dX11_goesNext_86 ?_
                refine m_iconst C 1 dX11_goesNext_87 (by decide +kernel) ?_
                refine m_iadd C dX11_goesNext_88 ?_
                refine m_topi (nI j) hj1 ?_
                refine m_istore C [(5, .int (nI j)), (0, .ref (G.1 64)), (1, .int (nI L)), (2, .int (nI n)), (3, .int 1), (4, .int (nI (s_bits P)))] dX11_goesNext_89 (by decide) rfl ?_
                have L91 : ∀ (fu : Nat) (i : Nat) (hji : j ≤ i) (hiN : i ≤ v_N V) (hsk : e_from (v_N V) (L - d - 1) P j = e_from (v_N V) (L - d - 1) P i), v_N V - i < fu → Mq l G 6 X Q 91 [(0, .ref (G.1 64)), (1, .int (nI L)), (2, .int (nI n)), (3, .int 1), (4, .int (nI (s_bits P))), (5, .int (nI i))] [] m nu := by
                  intro fu
                  induction fu with
                  | zero => intro i hji hiN hsk hm; exact absurd hm (Nat.not_lt_zero _)
                  | succ fu ih91 =>
                    intro i hji hiN hsk hm
                    refine m_iload C 5 dX11_goesNext_91 rfl ?_
                    refine m_aload_n C 0 dX11_goesNext_93 rfl ?_
                    refine gfX11_7 C dX11_goesNext_94 ?_
                    refine m_iconst C 0 dX11_goesNext_97 (by decide +kernel) ?_
                    refine m_iald C 65 (by decide) sa_65 0 rfl (by omega) (by decide) dX11_goesNext_98 ?_
                    refine m_topi (nI (v_N V)) h650 ?_
                    refine m_icmp_ge C 118 dX11_goesNext_99 (by decide) (fun hh8 => ?_) (fun hh8 => ?_)
                    · replace hh8 := (ii_le (nn_i (a := v_N V) rfl (by omega)) (nn_i (a := i) rfl (by omega))).mp hh8
                      have eiN : i = v_N V := by omega
                      refine m_aload_n C 0 dX11_goesNext_118 rfl ?_
                      refine gfX11_38 C dX11_goesNext_119 ?_
                      refine m_aload_n C 0 dX11_goesNext_122 rfl ?_
                      refine gfX11_176 C dX11_goesNext_123 ?_
                      refine m_topi (nI d) h19 ?_
                      refine m_iload C 5 dX11_goesNext_126 rfl ?_
                      refine m_iast C 73 (by decide) sa_73 d rfl (by omega) (by decide) dX11_goesNext_128 ?_
                      refine m_nameM (fun mu9 emu9 => ?_)
                      have hva : zm mu9 V := zm_65 hv (by rw [emu9, mu_up_ne (by decide)]; exact h65)
                      refine m_iload C 5 dX11_goesNext_129 rfl ?_
                      refine m_aload_n C 0 dX11_goesNext_131 rfl ?_
                      refine gfX11_7 C dX11_goesNext_132 ?_
                      refine m_iconst C 0 dX11_goesNext_135 (by decide +kernel) ?_
                      refine m_iald C 65 (by decide) sa_65 0 rfl (by omega) (by decide) dX11_goesNext_136 ?_
                      refine m_topi (nI (v_N V)) ((by rw [emu9, mu_up_ne (by decide)]; exact h650)) ?_
                      refine m_icmp_ne C 153 dX11_goesNext_137 (by decide) (fun hh10 => absurd hh10 (fun q => q ((ii_eq (nn_i (a := i) rfl (by omega)) (nn_i (a := v_N V) rfl (by omega))).mpr (by omega)))) (fun _ => ?_)
                      refine m_aload_n C 0 dX11_goesNext_140 rfl ?_
                      refine m_dup C dX11_goesNext_141 rfl ?_
                      refine gfX11_176 C dX11_goesNext_142 ?_
                      refine m_topi (nI d) ((by rw [emu9, mu_up_ne (by decide)]; exact h19)) ?_
                      refine m_iconst C 1 dX11_goesNext_145 (by decide +kernel) ?_
                      refine m_isub C dX11_goesNext_146 ?_
                      refine pfX11_176 C dX11_goesNext_147 ?_
                      refine m_nameM (fun mu11 emu11 => ?_)
                      have hgu := gi_up hgi hN7 (by rw [hsk, eiN]; exact ef_N) emu9 emu11
                      refine m_goto C 214 dX11_goesNext_150 (by decide) ?_
                      refine m_goto C 36 dX11_goesNext_214 (by decide) ?_
                      exact m_sub [0, 1, 2, 3] rfl (ih36 d P.dropLast (P.getD (d - 1) 0 + 1) mu11 hgu.1 (by omega))
                    replace hh8 := mt (ii_le (nn_i (a := v_N V) rfl (by omega)) (nn_i (a := i) rfl (by omega))).mpr hh8
                    refine m_iload C 4 dX11_goesNext_102 rfl ?_
                    refine m_iload C 5 dX11_goesNext_104 rfl ?_
                    refine m_callSf C (c_X11_has l G m nu (s_bits P) i (by omega) (by omega)) wkX11_119 (by decide) rfl rfl (Nat.le_of_ble_eq_true rfl) dX11_goesNext_106 ?_
                    refine m_if_eq C 118 dX11_goesNext_109 (by decide) (fun hh12 => ?_) (fun hh12 => ?_)
                    · replace hh12 := bI_eq0.mp hh12
                      have hnP : ¬ i ∈ P := fun q => hh12 (s_bits_mem.mpr q)
                      refine m_aload_n C 0 dX11_goesNext_118 rfl ?_
                      refine gfX11_38 C dX11_goesNext_119 ?_
                      refine m_aload_n C 0 dX11_goesNext_122 rfl ?_
                      refine gfX11_176 C dX11_goesNext_123 ?_
                      refine m_topi (nI d) h19 ?_
                      refine m_iload C 5 dX11_goesNext_126 rfl ?_
                      refine m_iast C 73 (by decide) sa_73 d rfl (by omega) (by decide) dX11_goesNext_128 ?_
                      refine m_nameM (fun mu13 emu13 => ?_)
                      have hva : zm mu13 V := zm_65 hv (by rw [emu13, mu_up_ne (by decide)]; exact h65)
                      refine m_iload C 5 dX11_goesNext_129 rfl ?_
                      refine m_aload_n C 0 dX11_goesNext_131 rfl ?_
                      refine gfX11_7 C dX11_goesNext_132 ?_
                      refine m_iconst C 0 dX11_goesNext_135 (by decide +kernel) ?_
                      refine m_iald C 65 (by decide) sa_65 0 rfl (by omega) (by decide) dX11_goesNext_136 ?_
                      refine m_topi (nI (v_N V)) ((by rw [emu13, mu_up_ne (by decide)]; exact h650)) ?_
                      refine m_icmp_ne C 153 dX11_goesNext_137 (by decide) (fun _ => ?_) (fun hh14 => absurd hh14 (mt (ii_eq (nn_i (a := i) rfl (by omega)) (nn_i (a := v_N V) rfl (by omega))).mp (by omega)))
                      refine m_aload_n C 0 dX11_goesNext_153 rfl ?_
                      refine gfX11_41 C dX11_goesNext_154 ?_
                      refine m_aload_n C 0 dX11_goesNext_157 rfl ?_
                      refine gfX11_176 C dX11_goesNext_158 ?_
                      refine m_topi (nI d) ((by rw [emu13, mu_up_ne (by decide)]; exact h19)) ?_
                      refine m_iconst C 1 dX11_goesNext_161 (by decide +kernel) ?_
                      refine m_iadd C dX11_goesNext_162 ?_
                      refine m_topi (nI (d + 1)) (nn_add rfl rfl) ?_
                      refine m_bipush C 10 dX11_goesNext_163 (by decide +kernel) ?_
                      refine m_aload_n C 0 dX11_goesNext_165 rfl ?_
                      refine gfX11_41 C dX11_goesNext_166 ?_
                      refine m_aload_n C 0 dX11_goesNext_169 rfl ?_
                      refine gfX11_176 C dX11_goesNext_170 ?_
                      refine m_topi (nI d) ((by rw [emu13, mu_up_ne (by decide)]; exact h19)) ?_
                      refine m_iald C 74 (by decide) sa_74 d rfl (by omega) (by decide) dX11_goesNext_173 ?_
                      refine m_topi (nI (s_vl (fun i => v_sh V i n) P)) (by rw [emu13, mu_up_ne (by decide), h74 d (Nat.le_refl _), ← hPl, List.take_length]) ?_
                      refine m_imul C dX11_goesNext_174 ?_
                      refine m_topi (nI (10 * (s_vl (fun i => v_sh V i n) P))) (nn_mul rfl rfl) ?_
                      refine m_aload_n C 0 dX11_goesNext_175 rfl ?_
                      refine m_iload C 5 dX11_goesNext_176 rfl ?_
                      refine m_iload_n C 2 dX11_goesNext_178 rfl ?_
                      refine m_callVf C 64 (by decide) rfl rfl (c_X11_showsOf l G mu13 nu V hva i (by omega) n (by omega) (by omega)) wkX11_142 (by decide) rfl rfl (Nat.le_of_ble_eq_true rfl) dX11_goesNext_179 ?_
                      refine m_iadd C dX11_goesNext_182 ?_
                      refine m_topi (nI ((10 * (s_vl (fun i => v_sh V i n) P)) + (v_sh V i n))) (nn_add rfl rfl) ?_
                      refine m_iast C 74 (by decide) sa_74 (d + 1) rfl (by omega) (by decide) dX11_goesNext_183 ?_
                      refine m_nameM (fun mu15 emu15 => ?_)
                      refine m_aload_n C 0 dX11_goesNext_184 rfl ?_
                      refine m_dup C dX11_goesNext_185 rfl ?_
                      refine gfX11_176 C dX11_goesNext_186 ?_
                      refine m_topi (nI d) ((by rw [emu15, mu_up_ne (by decide), emu13, mu_up_ne (by decide)]; exact h19)) ?_
                      refine m_iconst C 1 dX11_goesNext_189 (by decide +kernel) ?_
                      refine m_iadd C dX11_goesNext_190 ?_
                      refine m_topi (nI (d + 1)) (nn_add rfl rfl) ?_
                      refine pfX11_176 C dX11_goesNext_191 ?_
                      refine m_nameM (fun mu16 emu16 => ?_)
                      have e3 : mu16 = mu_up (mu_up (mu_up m 73 d (nI i)) 74 (d + 1) (nI (10 * s_vl (fun i => v_sh V i n) P + v_sh V i n))) 64 19 (nI (d + 1)) := by rw [emu16, emu15, emu13]
                      refine m_aload_n C 0 dX11_goesNext_194 rfl ?_
                      refine gfX11_176 C dX11_goesNext_195 ?_
                      refine m_topi (nI (d + 1)) ((by rw [emu16, mu_up_at])) ?_
                      refine m_iload_n C 1 dX11_goesNext_198 rfl ?_
                      refine m_icmp_ne C 204 dX11_goesNext_199 (by decide) (fun hh17 => ?_) (fun hh17 => ?_)
                      · replace hh17 := mt (ii_eq (nn_i (a := d + 1) rfl (by omega)) (nn_i (a := L) rfl (by omega))).mpr hh17
                        refine m_aload_n C 0 dX11_goesNext_204 rfl ?_
                        refine gfX11_38 C dX11_goesNext_205 ?_
                        refine m_aload_n C 0 dX11_goesNext_208 rfl ?_
                        refine gfX11_176 C dX11_goesNext_209 ?_
                        refine m_topi (nI (d + 1)) ((by rw [emu16, mu_up_at])) ?_
                        refine m_iconst C (-1) dX11_goesNext_212 (by decide +kernel) ?_
                        refine m_iast C 73 (by decide) sa_73 (d + 1) rfl (by omega) (by decide) dX11_goesNext_213 ?_
                        refine m_nameM (fun mu18 emu18 => ?_)
                        have hgd := gi_down hgi hsk (by omega) (by omega) hnP (by omega) e3 emu18
                        refine m_goto C 36 dX11_goesNext_214 (by decide) ?_
                        exact m_sub [0, 1, 2, 3] rfl (ih36 (d + 2) (P ++ [i]) 0 mu18 hgd.1 (by omega))
                      replace hh17 := (ii_eq (nn_i (a := d + 1) rfl (by omega)) (nn_i (a := L) rfl (by omega))).mp hh17
                      refine m_iconst C 1 dX11_goesNext_202 (by decide +kernel) ?_
                      refine m_zreti C hQ dX11_goesNext_203 rfl ?_
                      exact gi_done hgi hsk (by omega) hnP (by omega) e3
                    replace hh12 := bI_ne0.mp hh12
                    have hiP : i ∈ P := s_bits_mem.mp hh12
                    refine m_iinc C 5 (nI (i + 1)) [(5, .int (nI (i + 1))), (0, .ref (G.1 64)), (1, .int (nI L)), (2, .int (nI n)), (3, .int 1), (4, .int (nI (s_bits P)))] dX11_goesNext_112 rfl (nn_add rfl (show Int32.ofInt 1 = nI 1 from rfl)) (by decide) rfl ?_
                    refine m_goto C 91 dX11_goesNext_115 (by decide) ?_
                    exact m_sub [1, 2, 3, 4, 5, 0] rfl (ih91 (i + 1) (by omega) (by omega) (hsk.trans (ef_in (by omega) hiP)) (by omega))
                exact m_sub [1, 2, 3, 4, 5, 0] rfl (L91 (_ + 1) j (Nat.le_refl _) hjN rfl (Nat.lt_succ_self _))
              replace hh7 := mt (ii_le (nn_i (a := d) rfl (by omega)) (nn_i (a := q) rfl (by omega))).mpr hh7
              have hPq := hPx _ (gd_mem (F := P) (p := q) (by omega))
              refine m_iload C 4 dX11_goesNext_58 rfl ?_
              refine m_iconst C 1 dX11_goesNext_60 (by decide +kernel) ?_
              refine m_aload_n C 0 dX11_goesNext_61 rfl ?_
              refine gfX11_38 C dX11_goesNext_62 ?_
              refine m_iload C 5 dX11_goesNext_65 rfl ?_
              refine m_iald C 73 (by decide) sa_73 q rfl (by omega) (by decide) dX11_goesNext_67 ?_
              refine m_topi (nI (P.getD q 0)) (h73 q (by omega)) ?_
              refine m_ishl C dX11_goesNext_68 ?_
              refine m_topi (nI (2 ^ (P.getD q 0))) (nn_shl1 rfl (by omega)) ?_
              refine m_ior C dX11_goesNext_69 ?_
              refine m_topi (nI (((P.take q).foldl (fun b i => b ||| 2 ^ i) 0) ||| (2 ^ (P.getD q 0)))) (nn_or rfl rfl) ?_
              refine m_topi (nI ((P.take (q + 1)).foldl (fun b i => b ||| 2 ^ i) 0)) (congrArg nI (ft_succ (g := fun b i => b ||| 2 ^ i) (by omega)).symm) ?_
              refine m_istore C [(4, .int (nI ((P.take (q + 1)).foldl (fun b i => b ||| 2 ^ i) 0))), (0, .ref (G.1 64)), (1, .int (nI L)), (2, .int (nI n)), (3, .int 1), (5, .int (nI q))] dX11_goesNext_70 (by decide) rfl ?_
              refine m_iinc C 5 (nI (q + 1)) [(5, .int (nI (q + 1))), (4, .int (nI ((P.take (q + 1)).foldl (fun b i => b ||| 2 ^ i) 0))), (0, .ref (G.1 64)), (1, .int (nI L)), (2, .int (nI n)), (3, .int 1)] dX11_goesNext_72 rfl (nn_add rfl (show Int32.ofInt 1 = nI 1 from rfl)) (by decide) rfl ?_
              refine m_goto C 49 dX11_goesNext_75 (by decide) ?_
              exact m_sub [2, 3, 4, 5, 1, 0] rfl (ih49 (q + 1) (by omega) (by omega))
          exact m_sub [2, 3, 4, 5, 1, 0] rfl (L49 (_ + 1) 0 (Nat.zero_le _) (Nat.lt_succ_self _))
    exact m_sub [0, 1, 2, 3] rfl (L36 (_ + 1) 1 ([]) 0 mu3 (⟨by rw [emu3, mu_up_ne (by decide), emu2, mu_up_ne (by decide), emu1, mu_up_at]; rfl, rfl, (show 0 < L by omega), fun x hx => absurd hx List.not_mem_nil, fun p hp => absurd hp (Nat.not_lt_zero _), by rw [emu3, mu_up_ne (by decide), emu2, mu_up_at]; decide, Nat.zero_le _, fun p hp => by rw [Nat.le_zero.mp hp, emu3, mu_up_at]; rfl, by rw [ef_0, show L - 0 - 1 + 1 = L by omega]; exact (List.append_nil _).symm, gf_74 (gf_73 (gf_19 gf_rfl emu1) emu2) emu3⟩) (Nat.lt_succ_self _))
  replace hh4 := (ii_eq (nn_i (a := L) rfl (by omega)) (nn_i (a := 0) rfl (by omega))).mp hh4
  refine m_iconst C 1 dX11_goesNext_27 (by decide +kernel) ?_
  refine m_zreti C hQ dX11_goesNext_28 rfl ?_
  have eL : L = 0 := by omega
  subst eL
  exact ⟨rfl, gf_74 (gf_73 (gf_19 gf_rfl emu1) emu2) emu3, Or.inl ⟨rfl, [], rfl, rfl, fun x hx => absurd hx List.not_mem_nil, fun p hp => absurd hp (Nat.not_lt_zero _), fun p hp => by rw [Nat.le_zero.mp hp, emu3, mu_up_at]; rfl⟩⟩

set_option maxHeartbeats 4000000 in
set_option maxRecDepth 100000 in
theorem c_X11_goesNext_0 (l : Launch) (G : Gl) (mu : Mu) (nu : Nu) (V : Vw) (hv : zm mu V) (n : Nat) (h1 : 1 ≤ n) (h9 : n ≤ 9) (L : Nat) (hL : L ≤ v_N V) (hL1 : 1 ≤ L) (T : List Nat) (hgs : GS mu (v_N V) L (fun i => v_sh V i n) T) : Ci l G mX11_goesNext 4 [.ref (G.1 64), .int (nI L), .int (nI n), .int 0] mu nu (GP mu nu (v_N V) L (fun i => v_sh V i n) (e_upd (v_N V) L T L)) := by
  have hw := hv.1
  have hN7 := hw.1
  have hm7 := hw.2.2.1
  have ho8 := hw.2.2.2.2
  have hgn : ∀ {m : Mu}, m = mu_up mu 64 19 (nI (L - 1)) → GI mu m (v_N V) L (fun i => v_sh V i n) (e_upd (v_N V) L T L) T.dropLast (T.getD (L - 1) 0 + 1) L := fun e => gi_next hN7 hL1 hgs e
  refine Ct.of (lv := [(0, .ref (G.1 64)), (1, .int (nI L)), (2, .int (nI n)), (3, .int 0)]) rfl rfl (Nat.le_of_ble_eq_true rfl) rfl (fun X C => ?_)
  generalize hQ : g_E G X _ = Q
  replace C : Cx G 6 X cX11_goesNext RX11 (some .boolean) 4 := C
  show Mq l G 6 X Q 0 [(0, .ref (G.1 64)), (1, .int (nI L)), (2, .int (nI n)), (3, .int 0)] [] mu nu
  refine m_iload_n C 3 dX11_goesNext_0 rfl ?_
  refine m_if_eq C 29 dX11_goesNext_1 (by decide) (fun _ => ?_) (fun h => absurd (by decide) h)
  refine m_aload_n C 0 dX11_goesNext_29 rfl ?_
  refine m_iload_n C 1 dX11_goesNext_30 rfl ?_
  refine m_iconst C 1 dX11_goesNext_31 (by decide +kernel) ?_
  refine m_isub C dX11_goesNext_32 ?_
  refine m_topi (nI (L - 1)) (nn_sub rfl rfl (by omega)) ?_
  refine pfX11_176 C dX11_goesNext_33 ?_
  refine m_nameM (fun mu1 emu1 => ?_)
  have L36 : ∀ (fu : Nat) (dd : Nat) (P : List Nat) (j : Nat) (m : Mu) (hg : GI mu m (v_N V) L (fun i => v_sh V i n) (e_upd (v_N V) L T L) P j dd), e_M (v_N V) L P j dd < fu → Mq l G 6 X Q 36 [(0, .ref (G.1 64)), (1, .int (nI L)), (2, .int (nI n)), (3, .int 0)] [] m nu := by
    intro fu
    induction fu with
    | zero => intro dd P j m hg hm; exact absurd hm (Nat.not_lt_zero _)
    | succ fu ih36 =>
      intro dd P j m hg hm
      rcases dd with _ | d
      · skip
        obtain ⟨h19, hR0, hF⟩ := hg
        refine m_aload_n C 0 dX11_goesNext_36 rfl ?_
        refine gfX11_176 C dX11_goesNext_37 ?_
        refine m_if_lt C 217 dX11_goesNext_40 (by decide) (fun _ => ?_) (fun hh2 => absurd ((ii_lt (show (m 64 19).toInt = -1 by rw [h19]; decide) (nn_i (a := 0) rfl (by omega))).mpr (by omega)) hh2)
        refine m_iconst C 0 dX11_goesNext_217 (by decide +kernel) ?_
        refine m_zreti C hQ dX11_goesNext_218 rfl ?_
        exact ⟨rfl, hF, Or.inr ⟨rfl, hR0⟩⟩
      · skip
        have hgi := hg
        obtain ⟨h19, hPl, hdL, hPx, h73, hj1, hjN, h74, hRR, hF⟩ := hg
        have h65 : m 65 = mu 65 := hF.1 65 (by decide) (by decide) (by decide)
        have h650 : m 65 0 = nI (v_N V) := by rw [h65]; exact hv.2.1
        have hvl := s_vl_le (N := v_N V) (sh := (fun i => v_sh V i n)) (fun i hi => v_sh_le hw hi h9) P hPx
        have hp10 := p10_7 (p := P.length) (by omega)
        have hb128 := s_bits_lt (F := P) (fun x hx => by have := hPx x hx; omega)
        refine m_aload_n C 0 dX11_goesNext_36 rfl ?_
        refine gfX11_176 C dX11_goesNext_37 ?_
        refine m_topi (nI d) h19 ?_
        refine m_if_lt C 217 dX11_goesNext_40 (by decide) (fun hh3 => absurd hh3 (mt (ii_lt (nn_i (a := d) rfl (by omega)) (nn_i (a := 0) rfl (by omega))).mp (by omega))) (fun _ => ?_)
        refine m_iconst C 0 dX11_goesNext_43 (by decide +kernel) ?_
        refine m_istore C [(4, .int 0), (0, .ref (G.1 64)), (1, .int (nI L)), (2, .int (nI n)), (3, .int 0)] dX11_goesNext_44 (by decide) rfl ?_
        refine m_iconst C 0 dX11_goesNext_46 (by decide +kernel) ?_
        refine m_istore C [(5, .int 0), (4, .int 0), (0, .ref (G.1 64)), (1, .int (nI L)), (2, .int (nI n)), (3, .int 0)] dX11_goesNext_47 (by decide) rfl ?_
        have L49 : ∀ (fu : Nat) (q : Nat) (hq : q ≤ d), d - q < fu → Mq l G 6 X Q 49 [(0, .ref (G.1 64)), (1, .int (nI L)), (2, .int (nI n)), (3, .int 0), (4, .int (nI ((P.take q).foldl (fun b i => b ||| 2 ^ i) 0))), (5, .int (nI q))] [] m nu := by
          intro fu
          induction fu with
          | zero => intro q hq hm; exact absurd hm (Nat.not_lt_zero _)
          | succ fu ih49 =>
            intro q hq hm
            refine m_iload C 5 dX11_goesNext_49 rfl ?_
            refine m_aload_n C 0 dX11_goesNext_51 rfl ?_
            refine gfX11_176 C dX11_goesNext_52 ?_
            refine m_topi (nI d) h19 ?_
            refine m_icmp_ge C 78 dX11_goesNext_55 (by decide) (fun hh4 => ?_) (fun hh4 => ?_)
            · replace hh4 := (ii_le (nn_i (a := d) rfl (by omega)) (nn_i (a := q) rfl (by omega))).mp hh4
              have eq2 : q = d := by omega
              rw [show (P.take q).foldl (fun b i => b ||| 2 ^ i) 0 = s_bits P from by rw [eq2, ← hPl, List.take_length]; rfl]
              refine m_aload_n C 0 dX11_goesNext_78 rfl ?_
              refine gfX11_38 C dX11_goesNext_79 ?_
              refine m_aload_n C 0 dX11_goesNext_82 rfl ?_
              refine gfX11_176 C dX11_goesNext_83 ?_
              refine m_topi (nI d) h19 ?_
              refine m_iald C 73 (by decide) sa_73 d rfl (by omega) (by decide) dX11_goesNext_86 ?_
              refine m_iconst C 1 dX11_goesNext_87 (by decide +kernel) ?_
              refine m_iadd C dX11_goesNext_88 ?_
              refine m_topi (nI j) hj1 ?_
              refine m_istore C [(5, .int (nI j)), (0, .ref (G.1 64)), (1, .int (nI L)), (2, .int (nI n)), (3, .int 0), (4, .int (nI (s_bits P)))] dX11_goesNext_89 (by decide) rfl ?_
              have L91 : ∀ (fu : Nat) (i : Nat) (hji : j ≤ i) (hiN : i ≤ v_N V) (hsk : e_from (v_N V) (L - d - 1) P j = e_from (v_N V) (L - d - 1) P i), v_N V - i < fu → Mq l G 6 X Q 91 [(0, .ref (G.1 64)), (1, .int (nI L)), (2, .int (nI n)), (3, .int 0), (4, .int (nI (s_bits P))), (5, .int (nI i))] [] m nu := by
                intro fu
                induction fu with
                | zero => intro i hji hiN hsk hm; exact absurd hm (Nat.not_lt_zero _)
                | succ fu ih91 =>
                  intro i hji hiN hsk hm
                  refine m_iload C 5 dX11_goesNext_91 rfl ?_
                  refine m_aload_n C 0 dX11_goesNext_93 rfl ?_
                  refine gfX11_7 C dX11_goesNext_94 ?_
                  refine m_iconst C 0 dX11_goesNext_97 (by decide +kernel) ?_
                  refine m_iald C 65 (by decide) sa_65 0 rfl (by omega) (by decide) dX11_goesNext_98 ?_
                  refine m_topi (nI (v_N V)) h650 ?_
                  refine m_icmp_ge C 118 dX11_goesNext_99 (by decide) (fun hh5 => ?_) (fun hh5 => ?_)
                  · replace hh5 := (ii_le (nn_i (a := v_N V) rfl (by omega)) (nn_i (a := i) rfl (by omega))).mp hh5
                    have eiN : i = v_N V := by omega
                    refine m_aload_n C 0 dX11_goesNext_118 rfl ?_
                    refine gfX11_38 C dX11_goesNext_119 ?_
                    refine m_aload_n C 0 dX11_goesNext_122 rfl ?_
                    refine gfX11_176 C dX11_goesNext_123 ?_
                    refine m_topi (nI d) h19 ?_
                    refine m_iload C 5 dX11_goesNext_126 rfl ?_
                    refine m_iast C 73 (by decide) sa_73 d rfl (by omega) (by decide) dX11_goesNext_128 ?_
                    refine m_nameM (fun mu6 emu6 => ?_)
                    have hva : zm mu6 V := zm_65 hv (by rw [emu6, mu_up_ne (by decide)]; exact h65)
                    refine m_iload C 5 dX11_goesNext_129 rfl ?_
                    refine m_aload_n C 0 dX11_goesNext_131 rfl ?_
                    refine gfX11_7 C dX11_goesNext_132 ?_
                    refine m_iconst C 0 dX11_goesNext_135 (by decide +kernel) ?_
                    refine m_iald C 65 (by decide) sa_65 0 rfl (by omega) (by decide) dX11_goesNext_136 ?_
                    refine m_topi (nI (v_N V)) ((by rw [emu6, mu_up_ne (by decide)]; exact h650)) ?_
                    refine m_icmp_ne C 153 dX11_goesNext_137 (by decide) (fun hh7 => absurd hh7 (fun q => q ((ii_eq (nn_i (a := i) rfl (by omega)) (nn_i (a := v_N V) rfl (by omega))).mpr (by omega)))) (fun _ => ?_)
                    refine m_aload_n C 0 dX11_goesNext_140 rfl ?_
                    refine m_dup C dX11_goesNext_141 rfl ?_
                    refine gfX11_176 C dX11_goesNext_142 ?_
                    refine m_topi (nI d) ((by rw [emu6, mu_up_ne (by decide)]; exact h19)) ?_
                    refine m_iconst C 1 dX11_goesNext_145 (by decide +kernel) ?_
                    refine m_isub C dX11_goesNext_146 ?_
                    refine pfX11_176 C dX11_goesNext_147 ?_
                    refine m_nameM (fun mu8 emu8 => ?_)
                    have hgu := gi_up hgi hN7 (by rw [hsk, eiN]; exact ef_N) emu6 emu8
                    refine m_goto C 214 dX11_goesNext_150 (by decide) ?_
                    refine m_goto C 36 dX11_goesNext_214 (by decide) ?_
                    exact m_sub [0, 1, 2, 3] rfl (ih36 d P.dropLast (P.getD (d - 1) 0 + 1) mu8 hgu.1 (by omega))
                  replace hh5 := mt (ii_le (nn_i (a := v_N V) rfl (by omega)) (nn_i (a := i) rfl (by omega))).mpr hh5
                  refine m_iload C 4 dX11_goesNext_102 rfl ?_
                  refine m_iload C 5 dX11_goesNext_104 rfl ?_
                  refine m_callSf C (c_X11_has l G m nu (s_bits P) i (by omega) (by omega)) wkX11_119 (by decide) rfl rfl (Nat.le_of_ble_eq_true rfl) dX11_goesNext_106 ?_
                  refine m_if_eq C 118 dX11_goesNext_109 (by decide) (fun hh9 => ?_) (fun hh9 => ?_)
                  · replace hh9 := bI_eq0.mp hh9
                    have hnP : ¬ i ∈ P := fun q => hh9 (s_bits_mem.mpr q)
                    refine m_aload_n C 0 dX11_goesNext_118 rfl ?_
                    refine gfX11_38 C dX11_goesNext_119 ?_
                    refine m_aload_n C 0 dX11_goesNext_122 rfl ?_
                    refine gfX11_176 C dX11_goesNext_123 ?_
                    refine m_topi (nI d) h19 ?_
                    refine m_iload C 5 dX11_goesNext_126 rfl ?_
                    refine m_iast C 73 (by decide) sa_73 d rfl (by omega) (by decide) dX11_goesNext_128 ?_
                    refine m_nameM (fun mu10 emu10 => ?_)
                    have hva : zm mu10 V := zm_65 hv (by rw [emu10, mu_up_ne (by decide)]; exact h65)
                    refine m_iload C 5 dX11_goesNext_129 rfl ?_
                    refine m_aload_n C 0 dX11_goesNext_131 rfl ?_
                    refine gfX11_7 C dX11_goesNext_132 ?_
                    refine m_iconst C 0 dX11_goesNext_135 (by decide +kernel) ?_
                    refine m_iald C 65 (by decide) sa_65 0 rfl (by omega) (by decide) dX11_goesNext_136 ?_
                    refine m_topi (nI (v_N V)) ((by rw [emu10, mu_up_ne (by decide)]; exact h650)) ?_
                    refine m_icmp_ne C 153 dX11_goesNext_137 (by decide) (fun _ => ?_) (fun hh11 => absurd hh11 (mt (ii_eq (nn_i (a := i) rfl (by omega)) (nn_i (a := v_N V) rfl (by omega))).mp (by omega)))
                    refine m_aload_n C 0 dX11_goesNext_153 rfl ?_
                    refine gfX11_41 C dX11_goesNext_154 ?_
                    refine m_aload_n C 0 dX11_goesNext_157 rfl ?_
                    refine gfX11_176 C dX11_goesNext_158 ?_
                    refine m_topi (nI d) ((by rw [emu10, mu_up_ne (by decide)]; exact h19)) ?_
                    refine m_iconst C 1 dX11_goesNext_161 (by decide +kernel) ?_
                    refine m_iadd C dX11_goesNext_162 ?_
                    refine m_topi (nI (d + 1)) (nn_add rfl rfl) ?_
                    refine m_bipush C 10 dX11_goesNext_163 (by decide +kernel) ?_
                    refine m_aload_n C 0 dX11_goesNext_165 rfl ?_
                    refine gfX11_41 C dX11_goesNext_166 ?_
                    refine m_aload_n C 0 dX11_goesNext_169 rfl ?_
                    refine gfX11_176 C dX11_goesNext_170 ?_
                    refine m_topi (nI d) ((by rw [emu10, mu_up_ne (by decide)]; exact h19)) ?_
                    refine m_iald C 74 (by decide) sa_74 d rfl (by omega) (by decide) dX11_goesNext_173 ?_
                    refine m_topi (nI (s_vl (fun i => v_sh V i n) P)) (by rw [emu10, mu_up_ne (by decide), h74 d (Nat.le_refl _), ← hPl, List.take_length]) ?_
                    refine m_imul C dX11_goesNext_174 ?_
                    refine m_topi (nI (10 * (s_vl (fun i => v_sh V i n) P))) (nn_mul rfl rfl) ?_
                    refine m_aload_n C 0 dX11_goesNext_175 rfl ?_
                    refine m_iload C 5 dX11_goesNext_176 rfl ?_
                    refine m_iload_n C 2 dX11_goesNext_178 rfl ?_
                    refine m_callVf C 64 (by decide) rfl rfl (c_X11_showsOf l G mu10 nu V hva i (by omega) n (by omega) (by omega)) wkX11_142 (by decide) rfl rfl (Nat.le_of_ble_eq_true rfl) dX11_goesNext_179 ?_
                    refine m_iadd C dX11_goesNext_182 ?_
                    refine m_topi (nI ((10 * (s_vl (fun i => v_sh V i n) P)) + (v_sh V i n))) (nn_add rfl rfl) ?_
                    refine m_iast C 74 (by decide) sa_74 (d + 1) rfl (by omega) (by decide) dX11_goesNext_183 ?_
                    refine m_nameM (fun mu12 emu12 => ?_)
                    refine m_aload_n C 0 dX11_goesNext_184 rfl ?_
                    refine m_dup C dX11_goesNext_185 rfl ?_
                    refine gfX11_176 C dX11_goesNext_186 ?_
                    refine m_topi (nI d) ((by rw [emu12, mu_up_ne (by decide), emu10, mu_up_ne (by decide)]; exact h19)) ?_
                    refine m_iconst C 1 dX11_goesNext_189 (by decide +kernel) ?_
                    refine m_iadd C dX11_goesNext_190 ?_
                    refine m_topi (nI (d + 1)) (nn_add rfl rfl) ?_
                    refine pfX11_176 C dX11_goesNext_191 ?_
                    refine m_nameM (fun mu13 emu13 => ?_)
                    have e3 : mu13 = mu_up (mu_up (mu_up m 73 d (nI i)) 74 (d + 1) (nI (10 * s_vl (fun i => v_sh V i n) P + v_sh V i n))) 64 19 (nI (d + 1)) := by rw [emu13, emu12, emu10]
                    refine m_aload_n C 0 dX11_goesNext_194 rfl ?_
                    refine gfX11_176 C dX11_goesNext_195 ?_
                    refine m_topi (nI (d + 1)) ((by rw [emu13, mu_up_at])) ?_
                    refine m_iload_n C 1 dX11_goesNext_198 rfl ?_
                    refine m_icmp_ne C 204 dX11_goesNext_199 (by decide) (fun hh14 => ?_) (fun hh14 => ?_)
                    · replace hh14 := mt (ii_eq (nn_i (a := d + 1) rfl (by omega)) (nn_i (a := L) rfl (by omega))).mpr hh14
                      refine m_aload_n C 0 dX11_goesNext_204 rfl ?_
                      refine gfX11_38 C dX11_goesNext_205 ?_
                      refine m_aload_n C 0 dX11_goesNext_208 rfl ?_
                      refine gfX11_176 C dX11_goesNext_209 ?_
                      refine m_topi (nI (d + 1)) ((by rw [emu13, mu_up_at])) ?_
                      refine m_iconst C (-1) dX11_goesNext_212 (by decide +kernel) ?_
                      refine m_iast C 73 (by decide) sa_73 (d + 1) rfl (by omega) (by decide) dX11_goesNext_213 ?_
                      refine m_nameM (fun mu15 emu15 => ?_)
                      have hgd := gi_down hgi hsk (by omega) (by omega) hnP (by omega) e3 emu15
                      refine m_goto C 36 dX11_goesNext_214 (by decide) ?_
                      exact m_sub [0, 1, 2, 3] rfl (ih36 (d + 2) (P ++ [i]) 0 mu15 hgd.1 (by omega))
                    replace hh14 := (ii_eq (nn_i (a := d + 1) rfl (by omega)) (nn_i (a := L) rfl (by omega))).mp hh14
                    refine m_iconst C 1 dX11_goesNext_202 (by decide +kernel) ?_
                    refine m_zreti C hQ dX11_goesNext_203 rfl ?_
                    exact gi_done hgi hsk (by omega) hnP (by omega) e3
                  replace hh9 := bI_ne0.mp hh9
                  have hiP : i ∈ P := s_bits_mem.mp hh9
                  refine m_iinc C 5 (nI (i + 1)) [(5, .int (nI (i + 1))), (0, .ref (G.1 64)), (1, .int (nI L)), (2, .int (nI n)), (3, .int 0), (4, .int (nI (s_bits P)))] dX11_goesNext_112 rfl (nn_add rfl (show Int32.ofInt 1 = nI 1 from rfl)) (by decide) rfl ?_
                  refine m_goto C 91 dX11_goesNext_115 (by decide) ?_
                  exact m_sub [1, 2, 3, 4, 5, 0] rfl (ih91 (i + 1) (by omega) (by omega) (hsk.trans (ef_in (by omega) hiP)) (by omega))
              exact m_sub [1, 2, 3, 4, 5, 0] rfl (L91 (_ + 1) j (Nat.le_refl _) hjN rfl (Nat.lt_succ_self _))
            replace hh4 := mt (ii_le (nn_i (a := d) rfl (by omega)) (nn_i (a := q) rfl (by omega))).mpr hh4
            have hPq := hPx _ (gd_mem (F := P) (p := q) (by omega))
            refine m_iload C 4 dX11_goesNext_58 rfl ?_
            refine m_iconst C 1 dX11_goesNext_60 (by decide +kernel) ?_
            refine m_aload_n C 0 dX11_goesNext_61 rfl ?_
            refine gfX11_38 C dX11_goesNext_62 ?_
            refine m_iload C 5 dX11_goesNext_65 rfl ?_
            refine m_iald C 73 (by decide) sa_73 q rfl (by omega) (by decide) dX11_goesNext_67 ?_
            refine m_topi (nI (P.getD q 0)) (h73 q (by omega)) ?_
            refine m_ishl C dX11_goesNext_68 ?_
            refine m_topi (nI (2 ^ (P.getD q 0))) (nn_shl1 rfl (by omega)) ?_
            refine m_ior C dX11_goesNext_69 ?_
            refine m_topi (nI (((P.take q).foldl (fun b i => b ||| 2 ^ i) 0) ||| (2 ^ (P.getD q 0)))) (nn_or rfl rfl) ?_
            refine m_topi (nI ((P.take (q + 1)).foldl (fun b i => b ||| 2 ^ i) 0)) (congrArg nI (ft_succ (g := fun b i => b ||| 2 ^ i) (by omega)).symm) ?_
            refine m_istore C [(4, .int (nI ((P.take (q + 1)).foldl (fun b i => b ||| 2 ^ i) 0))), (0, .ref (G.1 64)), (1, .int (nI L)), (2, .int (nI n)), (3, .int 0), (5, .int (nI q))] dX11_goesNext_70 (by decide) rfl ?_
            refine m_iinc C 5 (nI (q + 1)) [(5, .int (nI (q + 1))), (4, .int (nI ((P.take (q + 1)).foldl (fun b i => b ||| 2 ^ i) 0))), (0, .ref (G.1 64)), (1, .int (nI L)), (2, .int (nI n)), (3, .int 0)] dX11_goesNext_72 rfl (nn_add rfl (show Int32.ofInt 1 = nI 1 from rfl)) (by decide) rfl ?_
            refine m_goto C 49 dX11_goesNext_75 (by decide) ?_
            exact m_sub [2, 3, 4, 5, 1, 0] rfl (ih49 (q + 1) (by omega) (by omega))
        exact m_sub [2, 3, 4, 5, 1, 0] rfl (L49 (_ + 1) 0 (Nat.zero_le _) (Nat.lt_succ_self _))
  exact m_sub [0, 1, 2, 3] rfl (L36 (_ + 1) L T.dropLast (T.getD (L - 1) 0 + 1) mu1 (hgn emu1) (Nat.lt_succ_self _))
