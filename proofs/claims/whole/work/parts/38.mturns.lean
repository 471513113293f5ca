theorem full_all {N : Nat} {P : List Nat} (hnd : P.Nodup) (hx : ∀ x ∈ P, x < N) (h : N ≤ P.length) {i : Nat} (hi : i < N) : i ∈ P := by
  by_cases c : i ∈ P
  · exact c
  · have h1 := nodup_le N (P ++ [i]) (nodup_app hnd c) (fun x hx2 => by
      rcases List.mem_append.mp hx2 with q | q
      · exact hx x q
      · rw [List.mem_singleton.mp q]; exact hi)
    simp at h1
    omega
theorem foldl_cg {β : Type} {g h : β → Nat → β} : ∀ (l : List Nat) (a : β), (∀ b i, i ∈ l → g b i = h b i) → l.foldl g a = l.foldl h a
  | [], _, _ => rfl
  | i :: l, a, e => by
    rw [List.foldl_cons, List.foldl_cons, e a i List.mem_cons_self]
    exact foldl_cg l _ (fun b j hj => e b j (List.mem_cons_of_mem _ hj))
/-- no more turns than rods in the box -/
theorem play_min {N : Nat} {sh : Nat → Nat} : ∀ (t : Nat) (P : List Nat) (r : Nat) (b : Bool), P.Nodup → (∀ x ∈ P, x < N) → s_play N sh t P r b = s_play N sh (min t (N - P.length)) P r b
  | 0, P, r, b, _, _ => by rw [Nat.zero_min]
  | t + 1, P, r, b, hnd, hx => by
    by_cases h : N ≤ P.length
    · rw [show min (t + 1) (N - P.length) = 0 by omega]
      show ((List.range N).foldl _ none).getD r = r
      rw [foldl_const _ (fun i hi => if_pos (full_all hnd hx h (List.mem_range.mp hi)))]
      rfl
    · rw [show min (t + 1) (N - P.length) = min t (N - P.length - 1) + 1 by omega]
      show ((List.range N).foldl _ none).getD r = ((List.range N).foldl _ none).getD r
      congr 1
      apply foldl_cg
      intro a i hi
      by_cases c : i ∈ P
      · rw [if_pos c, if_pos c]
      · rw [if_neg c, if_neg c, play_min t (P ++ [i]) _ _ (nodup_app hnd c) (fun x hx2 => by
          rcases List.mem_append.mp hx2 with q | q
          · exact hx x q
          · rw [List.mem_singleton.mp q]; exact List.mem_range.mp hi)]
        congr 2
        simp
        omega
/-- the reading after the rods C were laid on -/
def d_r (sh : Nat → Nat) (r0 : Nat) (C : List Nat) : Nat := C.foldl (fun r i => 10 * r + sh i) r0
def d_b (e : Nat) : Bool := e % 2 == 0
/-- the value at a turn: best so far a, rods from j on are still to be tried -/
def d_lv (N : Nat) (sh : Nat → Nat) (t : Nat) (P : List Nat) (r : Nat) (b : Bool) (a : Option Nat) (j : Nat) : Option Nat := ((List.range N).drop j).foldl (fun a i => if i ∈ P then a else s_mx b a (s_play N sh t (P ++ [i]) (10 * r + sh i) (!b))) a
theorem lv_0 {N : Nat} {sh : Nat → Nat} {t : Nat} {P : List Nat} {r : Nat} {b : Bool} : (d_lv N sh t P r b none 0).getD r = s_play N sh (t + 1) P r b := rfl
theorem lv_N {N : Nat} {sh : Nat → Nat} {t : Nat} {P : List Nat} {r : Nat} {b : Bool} {a : Option Nat} : d_lv N sh t P r b a N = a := by
  unfold d_lv
  rw [List.drop_eq_nil_of_le (by simp)]; rfl
theorem lv_step {N : Nat} {sh : Nat → Nat} {t : Nat} {P : List Nat} {r : Nat} {b : Bool} {a : Option Nat} {j : Nat} (h : j < N) : d_lv N sh t P r b a j = d_lv N sh t P r b (if j ∈ P then a else s_mx b a (s_play N sh t (P ++ [j]) (10 * r + sh j) (!b))) (j + 1) := by
  unfold d_lv
  rw [List.drop_eq_getElem_cons (by simpa using h), List.foldl_cons]
  simp
/-- what comes of it in the end if the turn behind d turns has the value v -/
def d_up (N : Nat) (sh : Nat → Nat) (L : Nat) (F : List Nat) (r0 : Nat) (C : List Nat) (A : Nat → Option Nat) : Nat → Nat → Nat
  | 0, v => v
  | d + 1, v => d_up N sh L F r0 C A d ((d_lv N sh (L - d - 1) (F ++ C.take d) (d_r sh r0 (C.take d)) (d_b d) (s_mx (d_b d) (A d) v) (C.getD d 0 + 1)).getD (d_r sh r0 (C.take d)))
theorem up_congr {N : Nat} {sh : Nat → Nat} {L : Nat} {F : List Nat} {r0 : Nat} {C C2 : List Nat} {A A2 : Nat → Option Nat} : ∀ (d v : Nat), C.take d = C2.take d → d ≤ C.length → d ≤ C2.length → (∀ e, e < d → A e = A2 e) → d_up N sh L F r0 C A d v = d_up N sh L F r0 C2 A2 d v
  | 0, _, _, _, _, _ => rfl
  | d + 1, v, h, hp, hq, hA => by
    have h1 : C.take d = C2.take d := by
      have := congrArg (List.take d) h
      rwa [List.take_take, List.take_take, Nat.min_eq_left (by omega)] at this
    have h2 : C.getD d 0 = C2.getD d 0 := by
      have := congrArg (fun l => l.getD d 0) h
      simpa [List.getD, List.getElem?_take_of_lt (Nat.lt_succ_self d)] using this
    unfold d_up
    rw [h1, h2, hA d (by omega)]
    exact up_congr d _ h1 (by omega) (by omega) (fun e he => hA e (by omega))
theorem up_pop {N : Nat} {sh : Nat → Nat} {L : Nat} {F : List Nat} {r0 : Nat} {C : List Nat} {A : Nat → Option Nat} {d v : Nat} (h : C.length = d + 1) : d_up N sh L F r0 C A (d + 1) v = d_up N sh L F r0 C.dropLast A d ((d_lv N sh (L - d - 1) (F ++ C.dropLast) (d_r sh r0 C.dropLast) (d_b d) (s_mx (d_b d) (A d) v) (C.getD d 0 + 1)).getD (d_r sh r0 C.dropLast)) := by
  have h1 : C.take d = C.dropLast := by rw [List.dropLast_eq_take, h]; rfl
  show d_up N sh L F r0 C A d _ = _
  rw [h1]
  exact up_congr d _ (by rw [← h1, List.take_take, Nat.min_self]) (by omega) (by simp [h]) (fun _ _ => rfl)
theorem up_push {N : Nat} {sh : Nat → Nat} {L : Nat} {F : List Nat} {r0 : Nat} {C : List Nat} {A : Nat → Option Nat} {i v : Nat} {a : Option Nat} : d_up N sh L F r0 (C ++ [i]) (fun e => if e = C.length then a else A e) (C.length + 1) v = d_up N sh L F r0 C A C.length ((d_lv N sh (L - C.length - 1) (F ++ C) (d_r sh r0 C) (d_b C.length) (s_mx (d_b C.length) a v) (i + 1)).getD (d_r sh r0 C)) := by
  have h := up_pop (N := N) (sh := sh) (L := L) (F := F) (r0 := r0) (C := C ++ [i]) (A := fun e => if e = C.length then a else A e) (d := C.length) (v := v) (by simp)
  have h2 : (C ++ [i]).getD C.length 0 = i := by simp [List.getD]
  rw [h, List.dropLast_concat, h2]
  simp only [if_true]
  exact up_congr _ _ rfl (Nat.le_refl _) (Nat.le_refl _) (fun e he => if_neg (by omega))
def d_T (N : Nat) : Nat → Nat
  | 0 => 1
  | k + 1 => N * (1 + d_T N k) + 1
def d_C (N L : Nat) (P : List Nat) : Nat → Nat
  | 0 => 0
  | d + 1 => (N - (P.getD d 0 + 1)) * (1 + d_T N (L - d - 1)) + 1 + d_C N L P d
def d_M (N L : Nat) (P : List Nat) (j : Nat) : Nat → Nat
  | 0 => 0
  | d + 1 => if d = L then 1 + d_C N L P d else (N - j) * (1 + d_T N (L - d - 1)) + 1 + d_C N L P d
theorem dc_congr {N L : Nat} {P Q : List Nat} : ∀ d, (∀ p, p < d → P.getD p 0 = Q.getD p 0) → d_C N L P d = d_C N L Q d
  | 0, _ => rfl
  | d + 1, h => by
    unfold d_C
    rw [h d (by omega), dc_congr d (fun p hp => h p (by omega))]
theorem dm_up {N L d j : Nat} {P : List Nat} (h : P.length = d + 1) (hd : d < L) : d_M N L P.dropLast (P.getD d 0 + 1) (d + 1) < d_M N L P j (d + 2) := by
  have h2 : d_C N L P.dropLast d = d_C N L P d := dc_congr d (fun p hp => by
    rw [List.dropLast_eq_take]
    simp [List.getD, List.getElem?_take_of_lt (show p < P.length - 1 by omega)])
  have e : d_C N L P (d + 1) = (N - (P.getD d 0 + 1)) * (1 + d_T N (L - d - 1)) + 1 + d_C N L P d := rfl
  have h3 : d_M N L P.dropLast (P.getD d 0 + 1) (d + 1) = d_C N L P (d + 1) := by
    show (if d = L then _ else _) = _
    rw [if_neg (by omega), h2, e]
  rw [h3]
  show _ < (if d + 1 = L then _ else _)
  split <;> omega
theorem dm_1 {N L j : Nat} {P : List Nat} : 0 < d_M N L P j 1 := by
  show 0 < (if 0 = L then _ else _)
  split <;> omega
theorem dm_down {N L i j : Nat} {P : List Nat} (hji : j ≤ i) (hi : i < N) (hL : P.length < L) : d_M N L (P ++ [i]) 0 (P.length + 2) < d_M N L P j (P.length + 1) := by
  have h2 : d_C N L (P ++ [i]) P.length = d_C N L P P.length := dc_congr _ (fun p hp => by simp [List.getD, List.getElem?_append_left hp])
  have h3 : (P ++ [i]).getD P.length 0 = i := by simp [List.getD]
  have e : d_C N L (P ++ [i]) (P.length + 1) = (N - (i + 1)) * (1 + d_T N (L - P.length - 1)) + 1 + d_C N L P P.length := by
    show (N - ((P ++ [i]).getD P.length 0 + 1)) * _ + 1 + d_C N L (P ++ [i]) P.length = _
    rw [h2, h3]
  have h4 : (N - i) * (1 + d_T N (L - P.length - 1)) ≤ (N - j) * (1 + d_T N (L - P.length - 1)) := Nat.mul_le_mul_right _ (by omega)
  have h5 : (N - i) * (1 + d_T N (L - P.length - 1)) = (N - (i + 1)) * (1 + d_T N (L - P.length - 1)) + (1 + d_T N (L - P.length - 1)) := by
    rw [show N - i = N - (i + 1) + 1 by omega, Nat.add_mul, Nat.one_mul]
  show (if P.length + 1 = L then 1 + d_C N L (P ++ [i]) (P.length + 1) else (N - 0) * (1 + d_T N (L - (P.length + 1) - 1)) + 1 + d_C N L (P ++ [i]) (P.length + 1)) < (if P.length = L then _ else (N - j) * (1 + d_T N (L - P.length - 1)) + 1 + d_C N L P P.length)
  rw [if_neg (show ¬ P.length = L by omega), e]
  by_cases c : P.length + 1 = L
  · rw [if_pos c]
    have h6 : d_T N (L - P.length - 1) = 1 := by rw [show L - P.length - 1 = 0 by omega]; rfl
    rw [h6] at *
    omega
  · rw [if_neg c]
    obtain ⟨k, hk⟩ : ∃ k, L - P.length - 1 = k + 1 := ⟨L - P.length - 2, by omega⟩
    have e2 : d_T N (L - P.length - 1) = N * (1 + d_T N (L - (P.length + 1) - 1)) + 1 := by
      rw [hk, show L - (P.length + 1) - 1 = k by omega]; rfl
    rw [Nat.sub_zero]
    generalize (N - j) * (1 + d_T N (L - P.length - 1)) = x at *
    generalize (N - i) * (1 + d_T N (L - P.length - 1)) = y at *
    generalize (N - (i + 1)) * (1 + d_T N (L - P.length - 1)) = z at *
    generalize N * (1 + d_T N (L - (P.length + 1) - 1)) = q at *
    omega
def d_en (a : Option Nat) : Int32 := match a with
  | none => -1
  | some v => nI v
def d_ok (a : Option Nat) : Prop := ∀ v, a = some v → v ≤ 90000000
theorem mx_e1 {b : Bool} {e v : Nat} (hb : b = true) (h : e < v) : s_mx b (some e) v = some v := by subst hb; simp [s_mx, h]
theorem mx_e0 {b : Bool} {e v : Nat} (hb : b = true) (h : ¬ e < v) : s_mx b (some e) v = some e := by subst hb; simp [s_mx, h]
theorem mx_o1 {b : Bool} {e v : Nat} (hb : b = false) (h : v < e) : s_mx b (some e) v = some v := by subst hb; simp [s_mx, h]
theorem mx_o0 {b : Bool} {e v : Nat} (hb : b = false) (h : ¬ v < e) : s_mx b (some e) v = some e := by subst hb; simp [s_mx, h]
theorem db_t {e : Nat} (h : e % 2 = 0) : d_b e = true := by unfold d_b; simp [h]
theorem db_f {e : Nat} (h : ¬ e % 2 = 0) : d_b e = false := by unfold d_b; simp [h]
theorem db_s {e : Nat} : (!d_b e) = d_b (e + 1) := by
  by_cases h : e % 2 = 0
  · rw [db_t h, db_f (by omega)]; rfl
  · rw [db_f h, db_t (by omega)]; rfl
theorem dr_app {sh : Nat → Nat} {r0 i : Nat} {C : List Nat} : d_r sh r0 (C ++ [i]) = 10 * d_r sh r0 C + sh i := by
  unfold d_r; rw [List.foldl_append]; rfl
theorem dr_le {N : Nat} {sh : Nat → Nat} {r0 m : Nat} (hsh : ∀ i, i < N → sh i ≤ 81) (h0 : r0 + 9 ≤ 9 * 10 ^ m) : ∀ (n : Nat) (C : List Nat), C.length = n → (∀ x ∈ C, x < N) → d_r sh r0 C + 9 ≤ 9 * 10 ^ (m + n)
  | 0, C, hl, _ => by
    rw [List.eq_nil_of_length_eq_zero hl]; exact h0
  | n + 1, C, hl, hx => by
    have hg := dl_gd (F := C) (by omega)
    have h1 := dr_le hsh h0 n C.dropLast (by simp [hl]) (fun x hx2 => hx x (List.dropLast_subset C hx2))
    have h2 := hsh _ (hx _ (gd_mem (F := C) (p := C.length - 1) (by omega)))
    rw [← hg, dr_app]
    exact pb_step (N := N) h1 h2
def DF (mu m : Mu) : Prop := ∀ c, c ≠ 76 → c ≠ 77 → c ≠ 78 → m c = mu c
/-- the turns under way: the rods C were laid by turns, A and a are the best so far, j is the next rod to try -/
def DI (mu m : Mu) (N L : Nat) (sh : Nat → Nat) (F : List Nat) (r0 Vs : Nat) (C : List Nat) (A : Nat → Option Nat) (a : Option Nat) (j : Nat) : Nat → Prop
  | 0 => DF mu m
  | d + 1 => C.length = d ∧ d ≤ L ∧ (∀ x ∈ C, x < N) ∧ (F ++ C).Nodup ∧ (∀ e, e < d → m 76 e = nI (C.getD e 0)) ∧ (∀ e, e ≤ d → m 77 e = nI (d_r sh r0 (C.take e))) ∧ (∀ e, e < d → m 78 e = d_en (A e) ∧ d_ok (A e)) ∧ (d < L → m 76 d + 1 = nI j ∧ j ≤ N ∧ m 78 d = d_en a ∧ d_ok a ∧ (a = none → ∀ i, i < j → i ∈ F ++ C) ∧ Vs = d_up N sh L F r0 C A d ((d_lv N sh (L - d - 1) (F ++ C) (d_r sh r0 C) (d_b d) a j).getD (d_r sh r0 C))) ∧ (d = L → Vs = d_up N sh L F r0 C A d (d_r sh r0 C)) ∧ DF mu m
theorem di_up {mu m ma mb : Mu} {N L d j v : Nat} {sh : Nat → Nat} {F : List Nat} {r0 Vs : Nat} {C : List Nat} {A : Nat → Option Nat} {a : Option Nat} (h : DI mu m N L sh F r0 Vs C A a j (d + 1)) (hN : N ≤ 7) (hd1 : 1 ≤ d) (hV : Vs = d_up N sh L F r0 C A d v) (hv : v ≤ 90000000) (e76 : ∀ e, e < d → ma 76 e = m 76 e) (e77 : ma 77 = m 77) (e78 : ma 78 = m 78) (hf : DF mu ma) (eb : mb = mu_up ma 78 (d - 1) (d_en (s_mx (d_b (d - 1)) (A (d - 1)) v))) : DI mu mb N L sh F r0 Vs C.dropLast A (s_mx (d_b (d - 1)) (A (d - 1)) v) (C.getD (d - 1) 0 + 1) d ∧ d_M N L C.dropLast (C.getD (d - 1) 0 + 1) d < d_M N L C j (d + 1) := by
  obtain ⟨h1, h2, h3, h4, h5, h6, h7, h8, h9, h10⟩ := h
  obtain ⟨e, rfl⟩ : ∃ e, d = e + 1 := ⟨d - 1, by omega⟩
  rw [show e + 1 - 1 = e by omega] at *
  have hx := h3 _ (gd_mem (F := C) (p := e) (by omega))
  have htk : ∀ p, p ≤ e → C.dropLast.take p = C.take p := fun p hp => by rw [List.dropLast_eq_take, List.take_take, Nat.min_eq_left (by omega)]
  refine ⟨⟨by simp [h1], by omega, fun y hy => h3 y (List.dropLast_subset C hy), h4.sublist ((List.Sublist.refl F).append (List.dropLast_sublist C)), fun p hp => ?_, fun p hp => ?_, fun p hp => ?_, fun _ => ⟨?_, by omega, by rw [eb, mu_up_at], s_mx_le (h7 e (by omega)).2 hv, fun hn => ?_, ?_⟩, fun hq => absurd hq (by omega), fun c q1 q2 q3 => by rw [eb, mu_up_ne q3]; exact hf c q1 q2 q3⟩, dm_up h1 (by omega)⟩
  · rw [eb, mu_up_ne (by decide), e76 p (by omega), h5 p (by omega), gd_drop (by omega)]
  · rw [eb, mu_up_ne (by decide), e77, h6 p (by omega), htk p hp]
  · rw [eb, mu_up_an (by omega), e78]; exact h7 p (by omega)
  · rw [eb, mu_up_ne (by decide), e76 e (by omega), h5 e (by omega)]
    exact nI_add (C.getD e 0) 1
  · exfalso
    revert hn
    unfold s_mx
    cases A e with
    | none => intro q; cases q
    | some u => intro q; dsimp only at q; split at q <;> (split at q <;> cases q)
  · rw [hV, up_pop h1]
theorem di_down {mu m m3 : Mu} {N L d j i : Nat} {sh : Nat → Nat} {F : List Nat} {r0 Vs : Nat} {C : List Nat} {A : Nat → Option Nat} {a : Option Nat} (h : DI mu m N L sh F r0 Vs C A a j (d + 1)) (hdL : d < L) (hsk : d_lv N sh (L - d - 1) (F ++ C) (d_r sh r0 C) (d_b d) a j = d_lv N sh (L - d - 1) (F ++ C) (d_r sh r0 C) (d_b d) a i) (hji : j ≤ i) (hi : i < N) (hn : ¬ i ∈ F ++ C) (e76 : ∀ e, e < d → m3 76 e = m 76 e) (ei : m3 76 d = nI i) (e77 : ∀ e, e ≤ d → m3 77 e = m 77 e) (er : m3 77 (d + 1) = nI (10 * d_r sh r0 C + sh i)) (e78 : ∀ e, e ≤ d → m3 78 e = m 78 e) (en : d + 1 < L → m3 76 (d + 1) = -1 ∧ m3 78 (d + 1) = -1) (hf : DF mu m3) : DI mu m3 N L sh F r0 Vs (C ++ [i]) (fun e => if e = C.length then a else A e) none 0 (d + 2) ∧ d_M N L (C ++ [i]) 0 (d + 2) < d_M N L C j (d + 1) := by
  obtain ⟨h1, h2, h3, h4, h5, h6, h7, h8, h9, h10⟩ := h
  obtain ⟨k1, k2, k3, k4, k5, k6⟩ := h8 hdL
  subst h1
  have hstep : Vs = d_up N sh L F r0 (C ++ [i]) (fun e => if e = C.length then a else A e) (C.length + 1) (s_play N sh (L - C.length - 1) (F ++ C ++ [i]) (10 * d_r sh r0 C + sh i) (d_b (C.length + 1))) := by
    rw [up_push, k6, hsk, lv_step hi, if_neg hn, db_s]
  refine ⟨⟨by simp, hdL, fun x hx => ?_, ?_, fun p hp => ?_, fun p hp => ?_, fun p hp => ?_, fun hl => ⟨by rw [(en hl).1]; decide, Nat.zero_le _, (en hl).2, fun v hv => (by cases hv), fun _ q hq => absurd hq (Nat.not_lt_zero _), ?_⟩, fun hl => ?_, hf⟩, dm_down hji hi hdL⟩
  · rcases List.mem_append.mp hx with q | q
    · exact h3 x q
    · rw [List.mem_singleton.mp q]; exact hi
  · rw [← List.append_assoc]; exact nodup_app h4 hn
  · by_cases c : p = C.length
    · rw [c, ei, gd_eq]
    · rw [e76 p (by omega), h5 p (by omega), gd_lt (by omega)]
  · by_cases c : p = C.length + 1
    · rw [c, er, show C.length + 1 = (C ++ [i]).length by simp, List.take_length, dr_app]
    · rw [e77 p (by omega), h6 p (by omega), List.take_append_of_le_length (by omega)]
  · by_cases c : p = C.length
    · rw [c]
      simp only [if_true]
      exact ⟨by rw [e78 _ (Nat.le_refl _)]; exact k3, k4⟩
    · simp only [if_neg c]
      rw [e78 p (by omega)]; exact h7 p (by omega)
  · rw [hstep, ← List.append_assoc, dr_app, lv_0, show L - (C.length + 1) - 1 + 1 = L - C.length - 1 by omega]
  · rw [hstep, dr_app, show L - C.length - 1 = 0 by omega]; rfl
theorem di_end {mu m : Mu} {N L d j : Nat} {sh : Nat → Nat} {F : List Nat} {r0 Vs : Nat} {C : List Nat} {A : Nat → Option Nat} {a : Option Nat} (h : DI mu m N L sh F r0 Vs C A a j (d + 1)) (hdL : d < L) (hFL : F.length + L ≤ N) (hFx : ∀ x ∈ F, x < N) (hsk : d_lv N sh (L - d - 1) (F ++ C) (d_r sh r0 C) (d_b d) a j = d_lv N sh (L - d - 1) (F ++ C) (d_r sh r0 C) (d_b d) a N) (hall : a = none → ∀ q, q < N → q ∈ F ++ C) : ∃ v, a = some v ∧ v ≤ 90000000 ∧ Vs = d_up N sh L F r0 C A d v := by
  obtain ⟨h1, h2, h3, h4, h5, h6, h7, h8, h9, h10⟩ := h
  obtain ⟨k1, k2, k3, k4, k5, k6⟩ := h8 hdL
  cases a with
  | none =>
    have hl := nodup_sub (List.range N) (F ++ C) List.nodup_range (fun x hx => hall rfl x (List.mem_range.mp hx))
    simp at hl
    omega
  | some v => exact ⟨v, rfl, k4 v rfl, by rw [k6, hsk, lv_N]; rfl⟩
theorem dec_nat {d : Nat} (h : 1 ≤ d) : nI d + Int32.ofInt (-1) = nI (d - 1) := by
  obtain ⟨e, rfl⟩ : ∃ e, d = e + 1 := ⟨d - 1, by omega⟩
  rw [show Int32.ofInt (-1) = -1 from by decide +kernel, ← Int32.sub_eq_add_neg, nI_pred]; rfl
theorem tk_mem {F C : List Nat} {e i : Nat} (h : e < C.length) : i ∈ F ++ C.take (e + 1) ↔ (i ∈ F ++ C.take e ∨ C.getD e 0 = i) := by
  have e1 : C.take (e + 1) = C.take e ++ [C.getD e 0] := by
    rw [List.take_add_one]
    simp [List.getD, List.getElem?_eq_getElem h]
  rw [e1, ← List.append_assoc, List.mem_append, List.mem_singleton]
  exact ⟨fun q => q.elim Or.inl (fun q => Or.inr q.symm), fun q => q.elim Or.inl (fun q => Or.inr q.symm)⟩
theorem di_dec {d : Nat} (h : 1 ≤ d) : nI (d - 1) = nI d - 1 := by
  obtain ⟨e, rfl⟩ : ∃ e, d = e + 1 := ⟨d - 1, by omega⟩
  rw [nI_pred]; rfl
theorem zm_df {mu m : Mu} {nu : Nu} {z : Zt} (h : ZM mu nu z) (he : DF mu m) : ZM m nu z ∧ z_cm mu nu m nu := ⟨zm_keep h (fun c h1 h2 => he c (by omega) (by omega) (by omega)) (by rw [he 64 (by decide) (by decide) (by decide)]) (by rw [he 64 (by decide) (by decide) (by decide)]) rfl rfl, fun c hc => he c (by omega) (by omega) (by omega), fun _ _ => rfl⟩
theorem lv_L {N : Nat} {sh : Nat → Nat} {L : Nat} {P : List Nat} {r : Nat} {b : Bool} (h : 0 < L) : (d_lv N sh (L - 0 - 1) P r b none 0).getD r = s_play N sh L P r b := by
  obtain ⟨t, rfl⟩ : ∃ t, L = t + 1 := ⟨L - 1, by omega⟩
  exact lv_0
set_option maxHeartbeats 4000000 in
set_option maxRecDepth 100000 in
theorem c_X11_isLaidOr (l : Launch) (G : Gl) (mu : Mu) (nu : Nu) (V : Vw) (hv : zm mu V) (Y : List Nat) (d : Nat) (hC : Y.length = d) (hd5 : d ≤ 5) (h76 : ∀ e, e < d → mu 76 e = nI (Y.getD e 0)) (hCx : ∀ x ∈ Y, x < 7) (i : Nat) (hi : i < 7) : Cf l G mX11_isLaidOr 2 [.ref (G.1 64), .int (nI i), .int (nI d)] mu nu (.int (bI (i ∈ v_F V ++ Y))) := by
  have hw := hv.1
  have hN7 := hw.1
  have hm7 := hw.2.2.1
  have ho8 := hw.2.2.2.2
  refine Ct.of (lv := [(0, .ref (G.1 64)), (1, .int (nI i)), (2, .int (nI d))]) rfl rfl (Nat.le_of_ble_eq_true rfl) rfl (fun X C => ?_)
  generalize hQ : g_E G X _ = Q
  replace C : Cx G 5 X cX11_isLaidOr RX11 (some .boolean) 2 := C
  show Mq l G 5 X Q 0 [(0, .ref (G.1 64)), (1, .int (nI i)), (2, .int (nI d))] [] mu nu
  refine m_aload_n C 0 dX11_isLaidOr_0 rfl ?_
  refine m_iload_n C 1 dX11_isLaidOr_1 rfl ?_
  refine m_callVf C 64 (by decide) rfl rfl (c_X11_placeOf l G mu nu V hv i (by omega)) wkX11_130 (by decide) rfl rfl (Nat.le_of_ble_eq_true rfl) dX11_isLaidOr_2 ?_
  refine m_if_lt C 12 dX11_isLaidOr_5 (by decide) (fun hh1 => ?_) (fun hh1 => ?_)
  · replace hh1 := (ii_lt (rfl : (s_pl (v_F V) i).toInt = _) (nn_i (a := 0) rfl (by omega))).mp hh1
    have hnF : ¬ i ∈ v_F V := (pl_lt (F := v_F V) (i := i) hm7).mp hh1
    refine m_iconst C 0 dX11_isLaidOr_12 (by decide +kernel) ?_
    refine m_istore_n C [(3, .int 0), (0, .ref (G.1 64)), (1, .int (nI i)), (2, .int (nI d))] dX11_isLaidOr_13 (by decide) rfl ?_
    refine m_iconst C 0 dX11_isLaidOr_14 (by decide +kernel) ?_
    refine m_istore C [(4, .int 0), (3, .int 0), (0, .ref (G.1 64)), (1, .int (nI i)), (2, .int (nI d))] dX11_isLaidOr_15 (by decide) rfl ?_
    have L17 : ∀ (fu : Nat) (e : Nat) (b : Int32) (he : e ≤ d) (hb : (b = 1 ∧ i ∈ v_F V ++ Y.take e) ∨ (b = 0 ∧ ¬ i ∈ v_F V ++ Y.take e)), d - e < fu → Mq l G 5 X Q 17 [(0, .ref (G.1 64)), (1, .int (nI i)), (2, .int (nI d)), (3, .int b), (4, .int (nI e))] [] mu nu := by
      intro fu
      induction fu with
      | zero => intro e b he hb hm; exact absurd hm (Nat.not_lt_zero _)
      | succ fu ih17 =>
        intro e b he hb hm
        refine m_iload C 4 dX11_isLaidOr_17 rfl ?_
        refine m_iload_n C 2 dX11_isLaidOr_19 rfl ?_
        refine m_icmp_ge C 50 dX11_isLaidOr_20 (by decide) (fun hh2 => ?_) (fun hh2 => ?_)
        · replace hh2 := (ii_le (nn_i (a := d) rfl (by omega)) (nn_i (a := e) rfl (by omega))).mp hh2
          refine m_iload_n C 3 dX11_isLaidOr_50 rfl ?_
          refine m_zretf C hQ dX11_isLaidOr_51 (fl_nar hb) rfl rfl ?_
          have e2 : e = d := by omega
          rw [fl_bI hb, e2, ← hC, List.take_length]
        replace hh2 := mt (ii_le (nn_i (a := d) rfl (by omega)) (nn_i (a := e) rfl (by omega))).mpr hh2
        have hCe := hCx _ (gd_mem (F := Y) (p := e) (by omega))
        refine m_iload_n C 3 dX11_isLaidOr_23 rfl ?_
        refine m_if_ne C 38 dX11_isLaidOr_24 (by decide) (fun hh3 => ?_) (fun hh3 => ?_)
        · replace hh3 := mt (ii_eq (rfl : (b).toInt = _) (nn_i (a := 0) rfl (by omega))).mpr hh3
          have hwas := fl_t hb hh3
          refine m_iconst C 1 dX11_isLaidOr_38 (by decide +kernel) ?_
          refine m_goto C 43 dX11_isLaidOr_39 (by decide) ?_
          refine m_istore_n C [(3, .int 1), (0, .ref (G.1 64)), (1, .int (nI i)), (2, .int (nI d)), (4, .int (nI e))] dX11_isLaidOr_43 (by decide) rfl ?_
          refine m_iinc C 4 (nI (e + 1)) [(4, .int (nI (e + 1))), (3, .int 1), (0, .ref (G.1 64)), (1, .int (nI i)), (2, .int (nI d))] dX11_isLaidOr_44 rfl (nn_add rfl (show Int32.ofInt 1 = nI 1 from rfl)) (by decide) rfl ?_
          refine m_goto C 17 dX11_isLaidOr_47 (by decide) ?_
          exact m_sub [2, 3, 4, 1, 0] rfl (ih17 (e + 1) 1 (by omega) (Or.inl ⟨rfl, (tk_mem (by omega)).mpr (Or.inl hwas)⟩) (by omega))
        replace hh3 := (ii_eq (rfl : (b).toInt = _) (nn_i (a := 0) rfl (by omega))).mp hh3
        have hnot := fl_f hb (by omega)
        refine m_aload_n C 0 dX11_isLaidOr_27 rfl ?_
        refine gfX11_47 C dX11_isLaidOr_28 ?_
        refine m_iload C 4 dX11_isLaidOr_31 rfl ?_
        refine m_iald C 76 (by decide) sa_76 e rfl (by omega) (by decide) dX11_isLaidOr_33 ?_
        refine m_topi (nI (Y.getD e 0)) (h76 e (by omega)) ?_
        refine m_iload_n C 1 dX11_isLaidOr_34 rfl ?_
        refine m_icmp_ne C 42 dX11_isLaidOr_35 (by decide) (fun hh4 => ?_) (fun hh4 => ?_)
        · replace hh4 := mt (ii_eq (nn_i (a := Y.getD e 0) rfl (by omega)) (nn_i (a := i) rfl (by omega))).mpr hh4
          refine m_iconst C 0 dX11_isLaidOr_42 (by decide +kernel) ?_
          refine m_istore_n C [(3, .int 0), (0, .ref (G.1 64)), (1, .int (nI i)), (2, .int (nI d)), (4, .int (nI e))] dX11_isLaidOr_43 (by decide) rfl ?_
          refine m_iinc C 4 (nI (e + 1)) [(4, .int (nI (e + 1))), (3, .int 0), (0, .ref (G.1 64)), (1, .int (nI i)), (2, .int (nI d))] dX11_isLaidOr_44 rfl (nn_add rfl (show Int32.ofInt 1 = nI 1 from rfl)) (by decide) rfl ?_
          refine m_goto C 17 dX11_isLaidOr_47 (by decide) ?_
          exact m_sub [2, 3, 4, 1, 0] rfl (ih17 (e + 1) 0 (by omega) (Or.inr ⟨rfl, fun q => ((tk_mem (by omega)).mp q).elim hnot (by omega)⟩) (by omega))
        replace hh4 := (ii_eq (nn_i (a := Y.getD e 0) rfl (by omega)) (nn_i (a := i) rfl (by omega))).mp hh4
        refine m_iconst C 1 dX11_isLaidOr_38 (by decide +kernel) ?_
        refine m_goto C 43 dX11_isLaidOr_39 (by decide) ?_
        refine m_istore_n C [(3, .int 1), (0, .ref (G.1 64)), (1, .int (nI i)), (2, .int (nI d)), (4, .int (nI e))] dX11_isLaidOr_43 (by decide) rfl ?_
        refine m_iinc C 4 (nI (e + 1)) [(4, .int (nI (e + 1))), (3, .int 1), (0, .ref (G.1 64)), (1, .int (nI i)), (2, .int (nI d))] dX11_isLaidOr_44 rfl (nn_add rfl (show Int32.ofInt 1 = nI 1 from rfl)) (by decide) rfl ?_
        refine m_goto C 17 dX11_isLaidOr_47 (by decide) ?_
        exact m_sub [2, 3, 4, 1, 0] rfl (ih17 (e + 1) 1 (by omega) (Or.inl ⟨rfl, (tk_mem (by omega)).mpr (Or.inr (by omega))⟩) (by omega))
    exact m_sub [2, 3, 4, 1, 0] rfl (L17 (_ + 1) 0 0 (Nat.zero_le _) (Or.inr ⟨rfl, by rw [List.take_zero, List.append_nil]; exact hnF⟩) (Nat.lt_succ_self _))
  replace hh1 := mt (ii_lt (rfl : (s_pl (v_F V) i).toInt = _) (nn_i (a := 0) rfl (by omega))).mpr hh1
  have hiF : i ∈ v_F V := Decidable.not_not.mp (mt (pl_lt (F := v_F V) (i := i) hm7).mpr hh1)
  refine m_iconst C 1 dX11_isLaidOr_8 (by decide +kernel) ?_
  refine m_goto C 13 dX11_isLaidOr_9 (by decide) ?_
  refine m_istore_n C [(3, .int 1), (0, .ref (G.1 64)), (1, .int (nI i)), (2, .int (nI d))] dX11_isLaidOr_13 (by decide) rfl ?_
  refine m_iconst C 0 dX11_isLaidOr_14 (by decide +kernel) ?_
  refine m_istore C [(4, .int 0), (3, .int 1), (0, .ref (G.1 64)), (1, .int (nI i)), (2, .int (nI d))] dX11_isLaidOr_15 (by decide) rfl ?_
  have L17 : ∀ (fu : Nat) (e : Nat) (b : Int32) (he : e ≤ d) (hb : (b = 1 ∧ i ∈ v_F V ++ Y.take e) ∨ (b = 0 ∧ ¬ i ∈ v_F V ++ Y.take e)), d - e < fu → Mq l G 5 X Q 17 [(0, .ref (G.1 64)), (1, .int (nI i)), (2, .int (nI d)), (3, .int b), (4, .int (nI e))] [] mu nu := by
    intro fu
    induction fu with
    | zero => intro e b he hb hm; exact absurd hm (Nat.not_lt_zero _)
    | succ fu ih17 =>
      intro e b he hb hm
      refine m_iload C 4 dX11_isLaidOr_17 rfl ?_
      refine m_iload_n C 2 dX11_isLaidOr_19 rfl ?_
      refine m_icmp_ge C 50 dX11_isLaidOr_20 (by decide) (fun hh5 => ?_) (fun hh5 => ?_)
      · replace hh5 := (ii_le (nn_i (a := d) rfl (by omega)) (nn_i (a := e) rfl (by omega))).mp hh5
        refine m_iload_n C 3 dX11_isLaidOr_50 rfl ?_
        refine m_zretf C hQ dX11_isLaidOr_51 (fl_nar hb) rfl rfl ?_
        have e2 : e = d := by omega
        rw [fl_bI hb, e2, ← hC, List.take_length]
      replace hh5 := mt (ii_le (nn_i (a := d) rfl (by omega)) (nn_i (a := e) rfl (by omega))).mpr hh5
      have hCe := hCx _ (gd_mem (F := Y) (p := e) (by omega))
      refine m_iload_n C 3 dX11_isLaidOr_23 rfl ?_
      refine m_if_ne C 38 dX11_isLaidOr_24 (by decide) (fun hh6 => ?_) (fun hh6 => ?_)
      · replace hh6 := mt (ii_eq (rfl : (b).toInt = _) (nn_i (a := 0) rfl (by omega))).mpr hh6
        have hwas := fl_t hb hh6
        refine m_iconst C 1 dX11_isLaidOr_38 (by decide +kernel) ?_
        refine m_goto C 43 dX11_isLaidOr_39 (by decide) ?_
        refine m_istore_n C [(3, .int 1), (0, .ref (G.1 64)), (1, .int (nI i)), (2, .int (nI d)), (4, .int (nI e))] dX11_isLaidOr_43 (by decide) rfl ?_
        refine m_iinc C 4 (nI (e + 1)) [(4, .int (nI (e + 1))), (3, .int 1), (0, .ref (G.1 64)), (1, .int (nI i)), (2, .int (nI d))] dX11_isLaidOr_44 rfl (nn_add rfl (show Int32.ofInt 1 = nI 1 from rfl)) (by decide) rfl ?_
        refine m_goto C 17 dX11_isLaidOr_47 (by decide) ?_
        exact m_sub [2, 3, 4, 1, 0] rfl (ih17 (e + 1) 1 (by omega) (Or.inl ⟨rfl, (tk_mem (by omega)).mpr (Or.inl hwas)⟩) (by omega))
      replace hh6 := (ii_eq (rfl : (b).toInt = _) (nn_i (a := 0) rfl (by omega))).mp hh6
      have hnot := fl_f hb (by omega)
      refine m_aload_n C 0 dX11_isLaidOr_27 rfl ?_
      refine gfX11_47 C dX11_isLaidOr_28 ?_
      refine m_iload C 4 dX11_isLaidOr_31 rfl ?_
      refine m_iald C 76 (by decide) sa_76 e rfl (by omega) (by decide) dX11_isLaidOr_33 ?_
      refine m_topi (nI (Y.getD e 0)) (h76 e (by omega)) ?_
      refine m_iload_n C 1 dX11_isLaidOr_34 rfl ?_
      refine m_icmp_ne C 42 dX11_isLaidOr_35 (by decide) (fun hh7 => ?_) (fun hh7 => ?_)
      · replace hh7 := mt (ii_eq (nn_i (a := Y.getD e 0) rfl (by omega)) (nn_i (a := i) rfl (by omega))).mpr hh7
        refine m_iconst C 0 dX11_isLaidOr_42 (by decide +kernel) ?_
        refine m_istore_n C [(3, .int 0), (0, .ref (G.1 64)), (1, .int (nI i)), (2, .int (nI d)), (4, .int (nI e))] dX11_isLaidOr_43 (by decide) rfl ?_
        refine m_iinc C 4 (nI (e + 1)) [(4, .int (nI (e + 1))), (3, .int 0), (0, .ref (G.1 64)), (1, .int (nI i)), (2, .int (nI d))] dX11_isLaidOr_44 rfl (nn_add rfl (show Int32.ofInt 1 = nI 1 from rfl)) (by decide) rfl ?_
        refine m_goto C 17 dX11_isLaidOr_47 (by decide) ?_
        exact m_sub [2, 3, 4, 1, 0] rfl (ih17 (e + 1) 0 (by omega) (Or.inr ⟨rfl, fun q => ((tk_mem (by omega)).mp q).elim hnot (by omega)⟩) (by omega))
      replace hh7 := (ii_eq (nn_i (a := Y.getD e 0) rfl (by omega)) (nn_i (a := i) rfl (by omega))).mp hh7
      refine m_iconst C 1 dX11_isLaidOr_38 (by decide +kernel) ?_
      refine m_goto C 43 dX11_isLaidOr_39 (by decide) ?_
      refine m_istore_n C [(3, .int 1), (0, .ref (G.1 64)), (1, .int (nI i)), (2, .int (nI d)), (4, .int (nI e))] dX11_isLaidOr_43 (by decide) rfl ?_
      refine m_iinc C 4 (nI (e + 1)) [(4, .int (nI (e + 1))), (3, .int 1), (0, .ref (G.1 64)), (1, .int (nI i)), (2, .int (nI d))] dX11_isLaidOr_44 rfl (nn_add rfl (show Int32.ofInt 1 = nI 1 from rfl)) (by decide) rfl ?_
      refine m_goto C 17 dX11_isLaidOr_47 (by decide) ?_
      exact m_sub [2, 3, 4, 1, 0] rfl (ih17 (e + 1) 1 (by omega) (Or.inl ⟨rfl, (tk_mem (by omega)).mpr (Or.inr (by omega))⟩) (by omega))
  exact m_sub [2, 3, 4, 1, 0] rfl (L17 (_ + 1) 0 1 (Nat.zero_le _) (Or.inl ⟨rfl, List.mem_append_left _ hiF⟩) (Nat.lt_succ_self _))

set_option maxHeartbeats 4000000 in
set_option maxRecDepth 100000 in
theorem c_X11_duel (l : Launch) (G : Gl) (mu : Mu) (nu : Nu) (z : Zt) (hz : ZM mu nu z) (n k : Int32) : Ci l G mX11_duel 8 [.ref (G.1 64), .int n, .int k] mu nu (PM mu nu (s_duel z n k)) := by
  have hv : zm mu (z_V z) := zm_v hz
  have hw := hv.1
  have hN7 := hw.1
  have hm7 := hw.2.2.1
  have ho8 := hw.2.2.2.2
  have hcz : ((v_N (z_V z) : Nat) : Int) = ((z_N z : Nat) : Int) := rfl
  have hzN : z_N z ≤ 7 := hN7
  have hwf : z_wf (z_N z) ((z_B z).1, (z_B z).2.1) := wb_last hz.2.2.1
  have hmN : v_m (z_V z) ≤ z_N z := wf_len hwf
  have hmB : v_m (z_V z) = (z_B z).1.length := rfl
  refine Ct.of (lv := [(0, .ref (G.1 64)), (1, .int n), (2, .int k)]) rfl rfl (Nat.le_of_ble_eq_true rfl) rfl (fun X C => ?_)
  generalize hQ : g_E G X _ = Q
  replace C : Cx G 9 X cX11_duel RX11 (some .int) 8 := C
  show Mq l G 9 X Q 0 [(0, .ref (G.1 64)), (1, .int n), (2, .int k)] [] mu nu
  refine m_iload_n C 1 dX11_duel_0 rfl ?_
  refine m_i2l C dX11_duel_1 ?_
  refine m_lconst C 0 dX11_duel_2 rfl ?_
  refine m_ldc2 C 5 wcX11_66 dX11_duel_3 ?_
  refine m_callSf C (c_in (a := n.toInt) (b := ((0 : Nat) : Int)) (c := ((5 : Nat) : Int)) ((tl_i _).trans (rfl : (n).toInt = _)) (ln_i (a := 0) rfl (by omega)) (ln_i (a := 5) rfl (by omega))) wkX11_68 (by decide) rfl rfl (Nat.le_of_ble_eq_true rfl) dX11_duel_6 ?_
  refine m_if_eq C 19 dX11_duel_9 (by decide) (fun hh1 => ?_) (fun hh1 => ?_)
  · replace hh1 := bI_eq0.mp hh1
    refine m_iconst C (-1) dX11_duel_19 (by decide +kernel) ?_
    refine m_ireti C hQ dX11_duel_20 ?_
    exact PM_of (by unfold s_duel; rw [if_pos (by omega)]) hz zcm_rfl
  replace hh1 := bI_ne0.mp hh1
  refine m_iload_n C 2 dX11_duel_12 rfl ?_
  refine m_callSf C (c_X11_isLine l G mu nu k) wkX11_151 (by decide) rfl rfl (Nat.le_of_ble_eq_true rfl) dX11_duel_13 ?_
  refine m_if_ne C 21 dX11_duel_16 (by decide) (fun hh2 => ?_) (fun hh2 => ?_)
  · replace hh2 := bI_ne0.mp hh2
    obtain ⟨en, kn⟩ := ix_eq (x := n) (by omega)
    obtain ⟨ek, kk⟩ := ix_eq (x := k) (by omega)
    refine m_aload_n C 0 dX11_duel_21 rfl ?_
    refine gfX11_7 C dX11_duel_22 ?_
    refine m_iconst C 0 dX11_duel_25 (by decide +kernel) ?_
    refine m_iald C 65 (by decide) sa_65 0 rfl (by omega) (by decide) dX11_duel_26 ?_
    refine m_topi (nI (z_N z)) hv.2.1 ?_
    refine m_if_ne C 33 dX11_duel_27 (by decide) (fun hh3 => ?_) (fun hh3 => ?_)
    · replace hh3 := mt (ii_eq (nn_i (a := z_N z) rfl (by omega)) (nn_i (a := 0) rfl (by omega))).mpr hh3
      obtain ⟨L, hLm⟩ : ∃ L, L = min (ix n) (z_N z - (z_B z).1.length) := ⟨_, rfl⟩
      obtain ⟨r0, hr0e⟩ : ∃ r0, r0 = v_rd (z_V z) (ix k) (v_m (z_V z)) := ⟨_, rfl⟩
      have hr0 : r0 + 9 ≤ 9 * 10 ^ v_m (z_V z) := by rw [hr0e]; exact v_rd_le hw (by omega) (v_m (z_V z)) (Nat.le_refl _)
      obtain ⟨Vs, hVs⟩ : ∃ Vs, Vs = s_play (z_N z) (fun i => v_sh (z_V z) i (ix k)) L (z_B z).1 r0 true := ⟨_, rfl⟩
      refine m_aload_n C 0 dX11_duel_33 rfl ?_
      refine gfX11_7 C dX11_duel_34 ?_
      refine m_iconst C 0 dX11_duel_37 (by decide +kernel) ?_
      refine m_iald C 65 (by decide) sa_65 0 rfl (by omega) (by decide) dX11_duel_38 ?_
      refine m_topi (nI (z_N z)) hv.2.1 ?_
      refine m_aload_n C 0 dX11_duel_39 rfl ?_
      refine gfX11_7 C dX11_duel_40 ?_
      refine m_iconst C 1 dX11_duel_43 (by decide +kernel) ?_
      refine m_iald C 65 (by decide) sa_65 1 rfl (by omega) (by decide) dX11_duel_44 ?_
      refine m_topi (nI (v_m (z_V z))) hv.2.2.1 ?_
      refine m_isub C dX11_duel_45 ?_
      refine m_topi (nI ((z_N z) - (v_m (z_V z)))) (nn_sub rfl rfl (by omega)) ?_
      refine m_istore_n C [(3, .int (nI ((z_N z) - (v_m (z_V z))))), (0, .ref (G.1 64)), (1, .int n), (2, .int k)] dX11_duel_46 (by decide) rfl ?_
      refine m_iload_n C 2 dX11_duel_47 rfl ?_
      refine m_topi (nI (ix n)) en ?_
      refine m_iload_n C 0 dX11_duel_48 rfl ?_
      refine m_icmp_ge C 56 dX11_duel_49 (by decide) (fun hh4 => ?_) (fun hh4 => ?_)
      · replace hh4 := (ii_le (nn_i (a := (z_N z) - (v_m (z_V z))) rfl (by omega)) (nn_i (a := ix n) rfl (by omega))).mp hh4
        refine m_iload_n C 0 dX11_duel_56 rfl ?_
        refine m_topi (nI L) (congrArg nI (by omega)) ?_
        refine m_istore C [(4, .int (nI L)), (3, .int (nI ((z_N z) - (v_m (z_V z))))), (0, .ref (G.1 64)), (1, .int n), (2, .int k)] dX11_duel_57 (by decide) rfl ?_
        refine m_iconst C 0 dX11_duel_59 (by decide +kernel) ?_
        refine m_istore C [(5, .int 0), (4, .int (nI L)), (3, .int (nI ((z_N z) - (v_m (z_V z))))), (0, .ref (G.1 64)), (1, .int n), (2, .int k)] dX11_duel_60 (by decide) rfl ?_
        refine m_aload_n C 3 dX11_duel_62 rfl ?_
        refine gfX11_50 C dX11_duel_63 ?_
        refine m_iconst C 0 dX11_duel_66 (by decide +kernel) ?_
        refine m_aload_n C 3 dX11_duel_67 rfl ?_
        refine m_iload_n C 5 dX11_duel_68 rfl ?_
        refine m_topi (nI (ix k)) ek ?_
        refine m_callVf C 64 (by decide) rfl rfl (c_X11_readBy l G mu nu (z_V z) hv (ix k) (by omega) (by omega)) wkX11_173 (by decide) rfl rfl (Nat.le_of_ble_eq_true rfl) dX11_duel_69 ?_
        refine m_topi (nI r0) (congrArg nI hr0e.symm) ?_
        refine m_iast C 77 (by decide) sa_77 0 rfl (by omega) (by decide) dX11_duel_72 ?_
        refine m_nameM (fun mu5 emu5 => ?_)
        refine m_aload_n C 3 dX11_duel_73 rfl ?_
        refine gfX11_50 C dX11_duel_74 ?_
        refine m_iconst C 0 dX11_duel_77 (by decide +kernel) ?_
        refine m_iald C 77 (by decide) sa_77 0 rfl (by omega) (by decide) dX11_duel_78 ?_
        refine m_topi (nI r0) (by rw [emu5, mu_up_at]) ?_
        refine m_istore C [(6, .int (nI r0)), (5, .int 0), (4, .int (nI L)), (3, .int (nI ((z_N z) - (v_m (z_V z))))), (0, .ref (G.1 64)), (1, .int n), (2, .int k)] dX11_duel_79 (by decide) rfl ?_
        refine m_iload C 2 dX11_duel_81 rfl ?_
        refine m_if_ne C 89 dX11_duel_83 (by decide) (fun hh6 => ?_) (fun hh6 => ?_)
        · replace hh6 := mt (ii_eq (nn_i (a := L) rfl (by omega)) (nn_i (a := 0) rfl (by omega))).mpr hh6
          refine m_aload_n C 4 dX11_duel_89 rfl ?_
          refine gfX11_47 C dX11_duel_90 ?_
          refine m_iconst C 0 dX11_duel_93 (by decide +kernel) ?_
          refine m_iconst C (-1) dX11_duel_94 (by decide +kernel) ?_
          refine m_iast C 76 (by decide) sa_76 0 rfl (by omega) (by decide) dX11_duel_95 ?_
          refine m_nameM (fun mu7 emu7 => ?_)
          refine m_aload_n C 4 dX11_duel_96 rfl ?_
          refine gfX11_53 C dX11_duel_97 ?_
          refine m_iconst C 0 dX11_duel_100 (by decide +kernel) ?_
          refine m_iconst C (-1) dX11_duel_101 (by decide +kernel) ?_
          refine m_iast C 78 (by decide) sa_78 0 rfl (by omega) (by decide) dX11_duel_102 ?_
          refine m_nameM (fun mu8 emu8 => ?_)
          have hdis : DI mu mu8 (z_N z) L (fun i => v_sh (z_V z) i (ix k)) (z_B z).1 r0 Vs [] (fun _ => none) none 0 1 := ⟨rfl, Nat.zero_le _, fun x hx => absurd hx List.not_mem_nil, by rw [List.append_nil]; exact hwf.2.1, fun e he => absurd he (Nat.not_lt_zero _), fun e he => by rw [Nat.le_zero.mp he, emu8, mu_up_ne (by decide), emu7, mu_up_ne (by decide), emu5, mu_up_at]; rfl, fun e he => absurd he (Nat.not_lt_zero _), fun _ => ⟨by rw [emu8, mu_up_ne (by decide), emu7, mu_up_at]; decide, Nat.zero_le _, by rw [emu8, mu_up_at]; rfl, fun v hv => (by cases hv), fun _ i hi => absurd hi (Nat.not_lt_zero _), by rw [hVs, List.append_nil]; show _ = (d_lv _ _ _ _ _ _ _ _).getD _; rw [show d_b 0 = true from rfl]; exact (lv_L (L := L) (by omega)).symm⟩, fun h => absurd h (show ¬ 0 = L by omega), fun c q1 q2 q3 => by rw [emu8, mu_up_ne q3, emu7, mu_up_ne q1, emu5, mu_up_ne q2]⟩
          have L103 : ∀ (fu : Nat) (dd : Nat) (Y : List Nat) (A : Nat → Option Nat) (a : Option Nat) (j : Nat) (at_ va : Int32) (m : Mu) (hat : at_ = nI dd - 1) (hva : dd = 0 → va = nI Vs) (hdi : DI mu m (z_N z) L (fun i => v_sh (z_V z) i (ix k)) (z_B z).1 r0 Vs Y A a j dd), d_M (z_N z) L Y j dd < fu → Mq l G 9 X Q 103 [(0, .ref (G.1 64)), (1, .int n), (2, .int k), (3, .int (nI ((z_N z) - (v_m (z_V z))))), (4, .int (nI L)), (5, .int at_), (6, .int va)] [] m nu := by
            intro fu
            induction fu with
            | zero => intro dd Y A a j at_ va m hat hva hdi hm; exact absurd hm (Nat.not_lt_zero _)
            | succ fu ih103 =>
              intro dd Y A a j at_ va m hat hva hdi hm
              rcases dd with _ | d
              · skip
                refine m_iload C 5 dX11_duel_103 rfl ?_
                refine m_if_lt C 363 dX11_duel_105 (by decide) (fun _ => ?_) (fun hh9 => absurd ((ii_lt (show at_.toInt = -1 by rw [hat]; decide) (nn_i (a := 0) rfl (by omega))).mpr (by omega)) hh9)
                refine m_iload C 6 dX11_duel_363 rfl ?_
                refine m_ireti C hQ dX11_duel_365 ?_
                have hsp : s_play (z_N z) (fun i => v_sh (z_V z) i (ix k)) (ix n) (z_B z).1 r0 true = Vs := by rw [hVs, hLm]; exact play_min _ _ _ _ hwf.2.1 hwf.1
                obtain ⟨hz2, hc2⟩ := zm_df hz hdi
                rw [hva rfl]
                exact PM_of (by unfold s_duel; rw [if_neg (by omega), if_neg (by omega)]; rw [← hr0e, hsp]) hz2 hc2
              · skip
                have hatd : at_ = nI d := by rw [hat, nI_pred]
                have hdi0 := hdi
                obtain ⟨hCl, hdL, hCx, hnd, h76, h77, h78, hlow, htop, hF⟩ := hdi
                have h650 : m 65 0 = nI (z_N z) := by rw [hF 65 (by decide) (by decide) (by decide)]; exact hv.2.1
                have hvm : zm m (z_V z) := zm_65 hv (hF 65 (by decide) (by decide) (by decide))
                have hdr := dr_le (N := z_N z) (sh := (fun i => v_sh (z_V z) i (ix k))) (m := v_m (z_V z)) (fun i hi => v_sh_le hw hi (by omega)) hr0 d Y hCl hCx
                have hdr9 : d_r (fun i => v_sh (z_V z) i (ix k)) r0 Y ≤ 90000000 := pb_top hdr (by omega)
                have hrC : m 77 d = nI (d_r (fun i => v_sh (z_V z) i (ix k)) r0 Y) := by rw [h77 d (Nat.le_refl _), ← hCl, List.take_length]
                refine m_iload C 5 dX11_duel_103 rfl ?_
                refine m_topi (nI d) hatd ?_
                refine m_if_lt C 363 dX11_duel_105 (by decide) (fun hh10 => absurd hh10 (mt (ii_lt (nn_i (a := d) rfl (by omega)) (nn_i (a := 0) rfl (by omega))).mp (by omega))) (fun _ => ?_)
                refine m_iload C 5 dX11_duel_108 rfl ?_
                refine m_topi (nI d) hatd ?_
                refine m_iload C 4 dX11_duel_110 rfl ?_
                refine m_icmp_ne C 119 dX11_duel_112 (by decide) (fun hh11 => ?_) (fun hh11 => ?_)
                · replace hh11 := mt (ii_eq (nn_i (a := d) rfl (by omega)) (nn_i (a := L) rfl (by omega))).mpr hh11
                  have hdlt : d < L := by omega
                  obtain ⟨k1, k2, k3, k4, k5, k6⟩ := hlow hdlt
                  refine m_iconst C 0 dX11_duel_119 (by decide +kernel) ?_
                  refine m_istore C [(7, .int 0), (0, .ref (G.1 64)), (1, .int n), (2, .int k), (3, .int (nI ((z_N z) - (v_m (z_V z))))), (4, .int (nI L)), (5, .int at_), (6, .int va)] dX11_duel_120 (by decide) rfl ?_
                  refine m_iload C 0 dX11_duel_122 rfl ?_
                  refine m_if_eq C 139 dX11_duel_124 (by decide) (fun _ => ?_) (fun h => absurd (by decide) h)
                  refine m_aload_n C 1 dX11_duel_139 rfl ?_
                  refine gfX11_47 C dX11_duel_140 ?_
                  refine m_iload C 6 dX11_duel_143 rfl ?_
                  refine m_topi (nI d) hatd ?_
                  refine m_iald C 76 (by decide) sa_76 d rfl (by omega) (by decide) dX11_duel_145 ?_
                  refine m_iconst C 1 dX11_duel_146 (by decide +kernel) ?_
                  refine m_iadd C dX11_duel_147 ?_
                  refine m_topi (nI j) k1 ?_
                  refine m_istore C [(8, .int (nI j)), (7, .int 0), (0, .ref (G.1 64)), (1, .int n), (2, .int k), (3, .int (nI ((z_N z) - (v_m (z_V z))))), (4, .int (nI L)), (5, .int at_), (6, .int va)] dX11_duel_148 (by decide) rfl ?_
                  have L150 : ∀ (fu : Nat) (i : Nat) (hji : j ≤ i) (hiN : i ≤ z_N z) (hsk : d_lv (z_N z) (fun i => v_sh (z_V z) i (ix k)) (L - d - 1) ((z_B z).1 ++ Y) (d_r (fun i => v_sh (z_V z) i (ix k)) r0 Y) (d_b d) a j = d_lv (z_N z) (fun i => v_sh (z_V z) i (ix k)) (L - d - 1) ((z_B z).1 ++ Y) (d_r (fun i => v_sh (z_V z) i (ix k)) r0 Y) (d_b d) a i) (hall : a = none → ∀ q, q < i → q ∈ (z_B z).1 ++ Y), z_N z - i < fu → Mq l G 9 X Q 150 [(0, .ref (G.1 64)), (1, .int n), (2, .int k), (3, .int (nI ((z_N z) - (v_m (z_V z))))), (4, .int (nI L)), (5, .int at_), (6, .int va), (7, .int 0), (8, .int (nI i))] [] m nu := by
                    intro fu
                    induction fu with
                    | zero => intro i hji hiN hsk hall hm; exact absurd hm (Nat.not_lt_zero _)
                    | succ fu ih150 =>
                      intro i hji hiN hsk hall hm
                      refine m_iload C 8 dX11_duel_150 rfl ?_
                      refine m_aload_n C 0 dX11_duel_152 rfl ?_
                      refine gfX11_7 C dX11_duel_153 ?_
                      refine m_iconst C 0 dX11_duel_156 (by decide +kernel) ?_
                      refine m_iald C 65 (by decide) sa_65 0 rfl (by omega) (by decide) dX11_duel_157 ?_
                      refine m_topi (nI (z_N z)) h650 ?_
                      refine m_icmp_ge C 178 dX11_duel_158 (by decide) (fun hh12 => ?_) (fun hh12 => ?_)
                      · replace hh12 := (ii_le (nn_i (a := z_N z) rfl (by omega)) (nn_i (a := i) rfl (by omega))).mp hh12
                        have eiN : i = z_N z := by omega
                        rw [eiN] at hsk hall
                        obtain ⟨v, hav, hv9, hVd⟩ := di_end hdi0 hdlt (by omega) hwf.1 hsk hall
                        refine m_aload_n C 0 dX11_duel_178 rfl ?_
                        refine gfX11_47 C dX11_duel_179 ?_
                        refine m_iload C 5 dX11_duel_182 rfl ?_
                        refine m_topi (nI d) hatd ?_
                        refine m_iload C 8 dX11_duel_184 rfl ?_
                        refine m_iast C 76 (by decide) sa_76 d rfl (by omega) (by decide) dX11_duel_186 ?_
                        refine m_nameM (fun mu13 emu13 => ?_)
                        have hva2 : zm mu13 (z_V z) := zm_65 hvm (by rw [emu13, mu_up_ne (by decide)])
                        refine m_iload C 8 dX11_duel_187 rfl ?_
                        refine m_aload_n C 0 dX11_duel_189 rfl ?_
                        refine gfX11_7 C dX11_duel_190 ?_
                        refine m_iconst C 0 dX11_duel_193 (by decide +kernel) ?_
                        refine m_iald C 65 (by decide) sa_65 0 rfl (by omega) (by decide) dX11_duel_194 ?_
                        refine m_topi (nI (z_N z)) ((by rw [emu13, mu_up_ne (by decide)]; exact h650)) ?_
                        refine m_icmp_lt C 202 dX11_duel_195 (by decide) (fun hh14 => absurd hh14 (mt (ii_lt (nn_i (a := i) rfl (by omega)) (nn_i (a := z_N z) rfl (by omega))).mp (by omega))) (fun _ => ?_)
                        refine m_iconst C 1 dX11_duel_198 (by decide +kernel) ?_
                        refine m_goto C 203 dX11_duel_199 (by decide) ?_
                        refine m_istore C [(7, .int 1), (0, .ref (G.1 64)), (1, .int n), (2, .int k), (3, .int (nI ((z_N z) - (v_m (z_V z))))), (4, .int (nI L)), (5, .int at_), (6, .int va), (8, .int (nI i))] dX11_duel_203 (by decide) rfl ?_
                        refine m_aload_n C 1 dX11_duel_205 rfl ?_
                        refine gfX11_53 C dX11_duel_206 ?_
                        refine m_iload C 6 dX11_duel_209 rfl ?_
                        refine m_topi (nI d) hatd ?_
                        refine m_iald C 78 (by decide) sa_78 d rfl (by omega) (by decide) dX11_duel_211 ?_
                        refine m_topi (nI v) (by rw [emu13, mu_up_ne (by decide), k3, hav]; rfl) ?_
                        refine m_istore C [(6, .int (nI v)), (7, .int 1), (0, .ref (G.1 64)), (1, .int n), (2, .int k), (3, .int (nI ((z_N z) - (v_m (z_V z))))), (4, .int (nI L)), (5, .int at_), (8, .int (nI i))] dX11_duel_212 (by decide) rfl ?_
                        refine m_iload C 1 dX11_duel_214 rfl ?_
                        refine m_if_ne C 272 dX11_duel_216 (by decide) (fun _ => ?_) (fun h => absurd h (by decide))
                        refine m_iload C 1 dX11_duel_272 rfl ?_
                        rcases Nat.eq_zero_or_pos d with hd0 | hd0
                        · skip
                          have hm0 : d_M (z_N z) L [] 0 0 < d_M (z_N z) L Y j (d + 1) := by rw [hd0]; exact dm_1
                          refine m_if_eq C 360 dX11_duel_274 (by decide) (fun h => absurd h (by decide)) (fun _ => ?_)
                          refine m_iinc C 7 ((-1)) [(5, .int ((-1))), (6, .int (nI v)), (7, .int 1), (0, .ref (G.1 64)), (1, .int n), (2, .int k), (3, .int (nI ((z_N z) - (v_m (z_V z))))), (4, .int (nI L)), (8, .int (nI i))] dX11_duel_277 rfl (by rw [hatd, hd0]; decide +kernel) (by decide) rfl ?_
                          refine m_iload C 0 dX11_duel_280 rfl ?_
                          refine m_if_lt C 360 dX11_duel_282 (by decide) (fun _ => ?_) (fun h => absurd (by decide) h)
                          refine m_goto C 103 dX11_duel_360 (by decide) ?_
                          exact m_sub [3, 4, 5, 6, 7, 0, 1] rfl (ih103 0 ([]) A none 0 ((-1)) (nI v) mu13 (by decide) (fun _ => by rw [hVd, hd0]; rfl) (fun c q1 q2 q3 => by rw [emu13, mu_up_ne q1]; exact hF c q1 q2 q3) (by omega))
                        · skip
                          refine m_if_eq C 360 dX11_duel_274 (by decide) (fun h => absurd h (by decide)) (fun _ => ?_)
                          refine m_iinc C 7 (nI (d - 1)) [(5, .int (nI (d - 1))), (6, .int (nI v)), (7, .int 1), (0, .ref (G.1 64)), (1, .int n), (2, .int k), (3, .int (nI ((z_N z) - (v_m (z_V z))))), (4, .int (nI L)), (8, .int (nI i))] dX11_duel_277 rfl (by rw [hatd]; exact dec_nat (by omega)) (by decide) rfl ?_
                          refine m_iload C 0 dX11_duel_280 rfl ?_
                          refine m_if_lt C 360 dX11_duel_282 (by decide) (fun hh15 => absurd hh15 (mt (ii_lt (nn_i (a := d - 1) rfl (by omega)) (nn_i (a := 0) rfl (by omega))).mp (by omega))) (fun _ => ?_)
                          refine m_aload_n C 3 dX11_duel_285 rfl ?_
                          refine gfX11_53 C dX11_duel_286 ?_
                          refine m_iload C 0 dX11_duel_289 rfl ?_
                          refine m_iald C 78 (by decide) sa_78 (d - 1) rfl (by omega) (by decide) dX11_duel_291 ?_
                          obtain ⟨hA1, hA2⟩ := h78 (d - 1) (by omega)
                          have hA1m : mu13 78 (d - 1) = d_en (A (d - 1)) := (by rw [emu13, mu_up_ne (by decide)]; exact hA1)
                          rcases hA : A (d - 1) with _ | u
                          · skip
                            have hA1n : mu13 78 (d - 1) = -1 := by rw [hA1m, hA]; rfl
                            refine m_topi (-1) hA1n ?_
                            refine m_if_lt C 329 dX11_duel_292 (by decide) (fun _ => ?_) (fun h => absurd (by decide) h)
                            refine m_iconst C 1 dX11_duel_329 (by decide +kernel) ?_
                            refine m_goto C 334 dX11_duel_330 (by decide) ?_
                            refine m_istore C [(8, .int 1), (5, .int (nI (d - 1))), (6, .int (nI v)), (7, .int 1), (0, .ref (G.1 64)), (1, .int n), (2, .int k), (3, .int (nI ((z_N z) - (v_m (z_V z))))), (4, .int (nI L))] dX11_duel_334 (by decide) rfl ?_
                            refine m_aload_n C 4 dX11_duel_336 rfl ?_
                            refine gfX11_53 C dX11_duel_337 ?_
                            refine m_iload C 1 dX11_duel_340 rfl ?_
                            refine m_iload C 0 dX11_duel_342 rfl ?_
                            refine m_if_eq C 352 dX11_duel_344 (by decide) (fun h => absurd h (by decide)) (fun _ => ?_)
                            refine m_iload C 2 dX11_duel_347 rfl ?_
                            refine m_goto C 359 dX11_duel_349 (by decide) ?_
                            refine m_iast C 78 (by decide) sa_78 (d - 1) rfl (by omega) (by decide) dX11_duel_359 ?_
                            refine m_nameM (fun mu16 emu16 => ?_)
                            have hst : nI v = d_en (s_mx (d_b (d - 1)) (A (d - 1)) (v)) := by rw [hA]; rfl
                            have hup := di_up (ma := mu13) (mb := mu16) (v := v) hdi0 hzN (by omega) hVd hv9 (fun e he => by rw [emu13, mu_up_an (by omega)]) (by rw [emu13, mu_up_ne (by decide)]) (by rw [emu13, mu_up_ne (by decide)]) (fun c q1 q2 q3 => by rw [emu13, mu_up_ne q1]; exact hF c q1 q2 q3) (by rw [emu16, ← hst])
                            refine m_goto C 103 dX11_duel_360 (by decide) ?_
                            exact m_sub [4, 5, 6, 7, 8, 1, 2] rfl (ih103 d Y.dropLast A (s_mx (d_b (d - 1)) (A (d - 1)) (v)) (Y.getD (d - 1) 0 + 1) (nI (d - 1)) (nI v) mu16 (di_dec (by omega)) (fun h => absurd h (by omega)) hup.1 (by omega))
                          · skip
                            have hA1s : mu13 78 (d - 1) = nI u := by rw [hA1m, hA]; rfl
                            have hu9 : u ≤ 90000000 := hA2 u hA
                            refine m_topi (nI u) hA1s ?_
                            refine m_if_lt C 329 dX11_duel_292 (by decide) (fun hh17 => absurd hh17 (mt (ii_lt (nn_i (a := u) rfl (by omega)) (nn_i (a := 0) rfl (by omega))).mp (by omega))) (fun _ => ?_)
                            refine m_iload C 0 dX11_duel_295 rfl ?_
                            refine m_iconst C 2 dX11_duel_297 (by decide +kernel) ?_
                            refine m_irem C dX11_duel_298 (by decide) ?_
                            refine m_topi (nI ((d - 1) % 2)) (nn_rem rfl rfl (by omega) (by omega) (by omega)) ?_
                            refine m_if_ne C 317 dX11_duel_299 (by decide) (fun hh18 => ?_) (fun hh18 => ?_)
                            · replace hh18 := mt (ii_eq (nn_i (a := (d - 1) % 2) rfl (by omega)) (nn_i (a := 0) rfl (by omega))).mpr hh18
                              refine m_iload C 1 dX11_duel_317 rfl ?_
                              refine m_aload_n C 3 dX11_duel_319 rfl ?_
                              refine gfX11_53 C dX11_duel_320 ?_
                              refine m_iload C 0 dX11_duel_323 rfl ?_
                              refine m_iald C 78 (by decide) sa_78 (d - 1) rfl (by omega) (by decide) dX11_duel_325 ?_
                              refine m_topi (nI u) hA1s ?_
                              refine m_icmp_ge C 333 dX11_duel_326 (by decide) (fun hh19 => ?_) (fun hh19 => ?_)
                              · replace hh19 := (ii_le (nn_i (a := u) rfl (by omega)) (nn_i (a := v) rfl (by omega))).mp hh19
                                refine m_iconst C 0 dX11_duel_333 (by decide +kernel) ?_
                                refine m_istore C [(8, .int 0), (5, .int (nI (d - 1))), (6, .int (nI v)), (7, .int 1), (0, .ref (G.1 64)), (1, .int n), (2, .int k), (3, .int (nI ((z_N z) - (v_m (z_V z))))), (4, .int (nI L))] dX11_duel_334 (by decide) rfl ?_
                                refine m_aload_n C 4 dX11_duel_336 rfl ?_
                                refine gfX11_53 C dX11_duel_337 ?_
                                refine m_iload C 1 dX11_duel_340 rfl ?_
                                refine m_iload C 0 dX11_duel_342 rfl ?_
                                refine m_if_eq C 352 dX11_duel_344 (by decide) (fun _ => ?_) (fun h => absurd (by decide) h)
                                refine m_aload_n C 4 dX11_duel_352 rfl ?_
                                refine gfX11_53 C dX11_duel_353 ?_
                                refine m_iload C 1 dX11_duel_356 rfl ?_
                                refine m_iald C 78 (by decide) sa_78 (d - 1) rfl (by omega) (by decide) dX11_duel_358 ?_
                                refine m_topi (nI u) hA1s ?_
                                refine m_iast C 78 (by decide) sa_78 (d - 1) rfl (by omega) (by decide) dX11_duel_359 ?_
                                refine m_nameM (fun mu20 emu20 => ?_)
                                have hst : nI u = d_en (s_mx (d_b (d - 1)) (A (d - 1)) (v)) := by rw [hA, mx_o0 (db_f (by omega)) (by omega)]; rfl
                                have hup := di_up (ma := mu13) (mb := mu20) (v := v) hdi0 hzN (by omega) hVd hv9 (fun e he => by rw [emu13, mu_up_an (by omega)]) (by rw [emu13, mu_up_ne (by decide)]) (by rw [emu13, mu_up_ne (by decide)]) (fun c q1 q2 q3 => by rw [emu13, mu_up_ne q1]; exact hF c q1 q2 q3) (by rw [emu20, ← hst])
                                refine m_goto C 103 dX11_duel_360 (by decide) ?_
                                exact m_sub [4, 5, 6, 7, 8, 1, 2] rfl (ih103 d Y.dropLast A (s_mx (d_b (d - 1)) (A (d - 1)) (v)) (Y.getD (d - 1) 0 + 1) (nI (d - 1)) (nI v) mu20 (di_dec (by omega)) (fun h => absurd h (by omega)) hup.1 (by omega))
                              replace hh19 := mt (ii_le (nn_i (a := u) rfl (by omega)) (nn_i (a := v) rfl (by omega))).mpr hh19
                              refine m_iconst C 1 dX11_duel_329 (by decide +kernel) ?_
                              refine m_goto C 334 dX11_duel_330 (by decide) ?_
                              refine m_istore C [(8, .int 1), (5, .int (nI (d - 1))), (6, .int (nI v)), (7, .int 1), (0, .ref (G.1 64)), (1, .int n), (2, .int k), (3, .int (nI ((z_N z) - (v_m (z_V z))))), (4, .int (nI L))] dX11_duel_334 (by decide) rfl ?_
                              refine m_aload_n C 4 dX11_duel_336 rfl ?_
                              refine gfX11_53 C dX11_duel_337 ?_
                              refine m_iload C 1 dX11_duel_340 rfl ?_
                              refine m_iload C 0 dX11_duel_342 rfl ?_
                              refine m_if_eq C 352 dX11_duel_344 (by decide) (fun h => absurd h (by decide)) (fun _ => ?_)
                              refine m_iload C 2 dX11_duel_347 rfl ?_
                              refine m_goto C 359 dX11_duel_349 (by decide) ?_
                              refine m_iast C 78 (by decide) sa_78 (d - 1) rfl (by omega) (by decide) dX11_duel_359 ?_
                              refine m_nameM (fun mu21 emu21 => ?_)
                              have hst : nI v = d_en (s_mx (d_b (d - 1)) (A (d - 1)) (v)) := by rw [hA, mx_o1 (db_f (by omega)) (by omega)]; rfl
                              have hup := di_up (ma := mu13) (mb := mu21) (v := v) hdi0 hzN (by omega) hVd hv9 (fun e he => by rw [emu13, mu_up_an (by omega)]) (by rw [emu13, mu_up_ne (by decide)]) (by rw [emu13, mu_up_ne (by decide)]) (fun c q1 q2 q3 => by rw [emu13, mu_up_ne q1]; exact hF c q1 q2 q3) (by rw [emu21, ← hst])
                              refine m_goto C 103 dX11_duel_360 (by decide) ?_
                              exact m_sub [4, 5, 6, 7, 8, 1, 2] rfl (ih103 d Y.dropLast A (s_mx (d_b (d - 1)) (A (d - 1)) (v)) (Y.getD (d - 1) 0 + 1) (nI (d - 1)) (nI v) mu21 (di_dec (by omega)) (fun h => absurd h (by omega)) hup.1 (by omega))
                            replace hh18 := (ii_eq (nn_i (a := (d - 1) % 2) rfl (by omega)) (nn_i (a := 0) rfl (by omega))).mp hh18
                            refine m_iload C 1 dX11_duel_302 rfl ?_
                            refine m_aload_n C 3 dX11_duel_304 rfl ?_
                            refine gfX11_53 C dX11_duel_305 ?_
                            refine m_iload C 0 dX11_duel_308 rfl ?_
                            refine m_iald C 78 (by decide) sa_78 (d - 1) rfl (by omega) (by decide) dX11_duel_310 ?_
                            refine m_topi (nI u) hA1s ?_
                            refine m_icmp_le C 333 dX11_duel_311 (by decide) (fun hh22 => ?_) (fun hh22 => ?_)
                            · replace hh22 := (ii_le (nn_i (a := v) rfl (by omega)) (nn_i (a := u) rfl (by omega))).mp hh22
                              refine m_iconst C 0 dX11_duel_333 (by decide +kernel) ?_
                              refine m_istore C [(8, .int 0), (5, .int (nI (d - 1))), (6, .int (nI v)), (7, .int 1), (0, .ref (G.1 64)), (1, .int n), (2, .int k), (3, .int (nI ((z_N z) - (v_m (z_V z))))), (4, .int (nI L))] dX11_duel_334 (by decide) rfl ?_
                              refine m_aload_n C 4 dX11_duel_336 rfl ?_
                              refine gfX11_53 C dX11_duel_337 ?_
                              refine m_iload C 1 dX11_duel_340 rfl ?_
                              refine m_iload C 0 dX11_duel_342 rfl ?_
                              refine m_if_eq C 352 dX11_duel_344 (by decide) (fun _ => ?_) (fun h => absurd (by decide) h)
                              refine m_aload_n C 4 dX11_duel_352 rfl ?_
                              refine gfX11_53 C dX11_duel_353 ?_
                              refine m_iload C 1 dX11_duel_356 rfl ?_
                              refine m_iald C 78 (by decide) sa_78 (d - 1) rfl (by omega) (by decide) dX11_duel_358 ?_
                              refine m_topi (nI u) hA1s ?_
                              refine m_iast C 78 (by decide) sa_78 (d - 1) rfl (by omega) (by decide) dX11_duel_359 ?_
                              refine m_nameM (fun mu23 emu23 => ?_)
                              have hst : nI u = d_en (s_mx (d_b (d - 1)) (A (d - 1)) (v)) := by rw [hA, mx_e0 (db_t (by omega)) (by omega)]; rfl
                              have hup := di_up (ma := mu13) (mb := mu23) (v := v) hdi0 hzN (by omega) hVd hv9 (fun e he => by rw [emu13, mu_up_an (by omega)]) (by rw [emu13, mu_up_ne (by decide)]) (by rw [emu13, mu_up_ne (by decide)]) (fun c q1 q2 q3 => by rw [emu13, mu_up_ne q1]; exact hF c q1 q2 q3) (by rw [emu23, ← hst])
                              refine m_goto C 103 dX11_duel_360 (by decide) ?_
                              exact m_sub [4, 5, 6, 7, 8, 1, 2] rfl (ih103 d Y.dropLast A (s_mx (d_b (d - 1)) (A (d - 1)) (v)) (Y.getD (d - 1) 0 + 1) (nI (d - 1)) (nI v) mu23 (di_dec (by omega)) (fun h => absurd h (by omega)) hup.1 (by omega))
                            replace hh22 := mt (ii_le (nn_i (a := v) rfl (by omega)) (nn_i (a := u) rfl (by omega))).mpr hh22
                            refine m_goto C 329 dX11_duel_314 (by decide) ?_
                            refine m_iconst C 1 dX11_duel_329 (by decide +kernel) ?_
                            refine m_goto C 334 dX11_duel_330 (by decide) ?_
                            refine m_istore C [(8, .int 1), (5, .int (nI (d - 1))), (6, .int (nI v)), (7, .int 1), (0, .ref (G.1 64)), (1, .int n), (2, .int k), (3, .int (nI ((z_N z) - (v_m (z_V z))))), (4, .int (nI L))] dX11_duel_334 (by decide) rfl ?_
                            refine m_aload_n C 4 dX11_duel_336 rfl ?_
                            refine gfX11_53 C dX11_duel_337 ?_
                            refine m_iload C 1 dX11_duel_340 rfl ?_
                            refine m_iload C 0 dX11_duel_342 rfl ?_
                            refine m_if_eq C 352 dX11_duel_344 (by decide) (fun h => absurd h (by decide)) (fun _ => ?_)
                            refine m_iload C 2 dX11_duel_347 rfl ?_
                            refine m_goto C 359 dX11_duel_349 (by decide) ?_
                            refine m_iast C 78 (by decide) sa_78 (d - 1) rfl (by omega) (by decide) dX11_duel_359 ?_
                            refine m_nameM (fun mu24 emu24 => ?_)
                            have hst : nI v = d_en (s_mx (d_b (d - 1)) (A (d - 1)) (v)) := by rw [hA, mx_e1 (db_t (by omega)) (by omega)]; rfl
                            have hup := di_up (ma := mu13) (mb := mu24) (v := v) hdi0 hzN (by omega) hVd hv9 (fun e he => by rw [emu13, mu_up_an (by omega)]) (by rw [emu13, mu_up_ne (by decide)]) (by rw [emu13, mu_up_ne (by decide)]) (fun c q1 q2 q3 => by rw [emu13, mu_up_ne q1]; exact hF c q1 q2 q3) (by rw [emu24, ← hst])
                            refine m_goto C 103 dX11_duel_360 (by decide) ?_
                            exact m_sub [4, 5, 6, 7, 8, 1, 2] rfl (ih103 d Y.dropLast A (s_mx (d_b (d - 1)) (A (d - 1)) (v)) (Y.getD (d - 1) 0 + 1) (nI (d - 1)) (nI v) mu24 (di_dec (by omega)) (fun h => absurd h (by omega)) hup.1 (by omega))
                      replace hh12 := mt (ii_le (nn_i (a := z_N z) rfl (by omega)) (nn_i (a := i) rfl (by omega))).mpr hh12
                      refine m_aload_n C 0 dX11_duel_161 rfl ?_
                      refine m_iload C 8 dX11_duel_162 rfl ?_
                      refine m_iload C 5 dX11_duel_164 rfl ?_
                      refine m_topi (nI d) hatd ?_
                      refine m_callVf C 64 (by decide) rfl rfl (c_X11_isLaidOr l G m nu (z_V z) hvm Y d hCl (by omega) h76 (fun x hx => by have := hCx x hx; omega) i (by omega)) wkX11_209 (by decide) rfl rfl (Nat.le_of_ble_eq_true rfl) dX11_duel_166 ?_
                      refine m_if_eq C 178 dX11_duel_169 (by decide) (fun hh25 => ?_) (fun hh25 => ?_)
                      · replace hh25 := bI_eq0.mp hh25
                        have hnl : ¬ i ∈ (z_B z).1 ++ Y := hh25
                        refine m_aload_n C 0 dX11_duel_178 rfl ?_
                        refine gfX11_47 C dX11_duel_179 ?_
                        refine m_iload C 5 dX11_duel_182 rfl ?_
                        refine m_topi (nI d) hatd ?_
                        refine m_iload C 8 dX11_duel_184 rfl ?_
                        refine m_iast C 76 (by decide) sa_76 d rfl (by omega) (by decide) dX11_duel_186 ?_
                        refine m_nameM (fun mu26 emu26 => ?_)
                        have hva2 : zm mu26 (z_V z) := zm_65 hvm (by rw [emu26, mu_up_ne (by decide)])
                        refine m_iload C 8 dX11_duel_187 rfl ?_
                        refine m_aload_n C 0 dX11_duel_189 rfl ?_
                        refine gfX11_7 C dX11_duel_190 ?_
                        refine m_iconst C 0 dX11_duel_193 (by decide +kernel) ?_
                        refine m_iald C 65 (by decide) sa_65 0 rfl (by omega) (by decide) dX11_duel_194 ?_
                        refine m_topi (nI (z_N z)) ((by rw [emu26, mu_up_ne (by decide)]; exact h650)) ?_
                        refine m_icmp_lt C 202 dX11_duel_195 (by decide) (fun _ => ?_) (fun hh27 => absurd ((ii_lt (nn_i (a := i) rfl (by omega)) (nn_i (a := z_N z) rfl (by omega))).mpr (by omega)) hh27)
                        refine m_iconst C 0 dX11_duel_202 (by decide +kernel) ?_
                        refine m_istore C [(7, .int 0), (0, .ref (G.1 64)), (1, .int n), (2, .int k), (3, .int (nI ((z_N z) - (v_m (z_V z))))), (4, .int (nI L)), (5, .int at_), (6, .int va), (8, .int (nI i))] dX11_duel_203 (by decide) rfl ?_
                        refine m_aload_n C 1 dX11_duel_205 rfl ?_
                        refine gfX11_53 C dX11_duel_206 ?_
                        refine m_iload C 6 dX11_duel_209 rfl ?_
                        refine m_topi (nI d) hatd ?_
                        refine m_iald C 78 (by decide) sa_78 d rfl (by omega) (by decide) dX11_duel_211 ?_
                        refine m_istore C [(6, .int (mu26 78 d)), (7, .int 0), (0, .ref (G.1 64)), (1, .int n), (2, .int k), (3, .int (nI ((z_N z) - (v_m (z_V z))))), (4, .int (nI L)), (5, .int at_), (8, .int (nI i))] dX11_duel_212 (by decide) rfl ?_
                        refine m_iload C 1 dX11_duel_214 rfl ?_
                        refine m_if_ne C 272 dX11_duel_216 (by decide) (fun h => absurd h (by decide)) (fun _ => ?_)
                        refine m_aload_n C 2 dX11_duel_219 rfl ?_
                        refine gfX11_50 C dX11_duel_220 ?_
                        refine m_iload C 7 dX11_duel_223 rfl ?_
                        refine m_topi (nI d) hatd ?_
                        refine m_iconst C 1 dX11_duel_225 (by decide +kernel) ?_
                        refine m_iadd C dX11_duel_226 ?_
                        refine m_topi (nI (d + 1)) (nn_add rfl rfl) ?_
                        refine m_bipush C 10 dX11_duel_227 (by decide +kernel) ?_
                        refine m_aload_n C 2 dX11_duel_229 rfl ?_
                        refine gfX11_50 C dX11_duel_230 ?_
                        refine m_iload C 7 dX11_duel_233 rfl ?_
                        refine m_topi (nI d) hatd ?_
                        refine m_iald C 77 (by decide) sa_77 d rfl (by omega) (by decide) dX11_duel_235 ?_
                        refine m_topi (nI (d_r (fun i => v_sh (z_V z) i (ix k)) r0 Y)) (by rw [emu26, mu_up_ne (by decide)]; exact hrC) ?_
                        refine m_imul C dX11_duel_236 ?_
                        refine m_topi (nI (10 * (d_r (fun i => v_sh (z_V z) i (ix k)) r0 Y))) (nn_mul rfl rfl) ?_
                        refine m_aload_n C 2 dX11_duel_237 rfl ?_
                        refine m_iload C 8 dX11_duel_238 rfl ?_
                        refine m_iload_n C 4 dX11_duel_240 rfl ?_
                        refine m_topi (nI (ix k)) ek ?_
                        refine m_callVf C 64 (by decide) rfl rfl (c_X11_showsOf l G mu26 nu (z_V z) hva2 i (by omega) (ix k) (by omega) (by omega)) wkX11_142 (by decide) rfl rfl (Nat.le_of_ble_eq_true rfl) dX11_duel_241 ?_
                        refine m_iadd C dX11_duel_244 ?_
                        refine m_topi (nI ((10 * (d_r (fun i => v_sh (z_V z) i (ix k)) r0 Y)) + (v_sh (z_V z) i (ix k)))) (nn_add rfl rfl) ?_
                        refine m_iast C 77 (by decide) sa_77 (d + 1) rfl (by omega) (by decide) dX11_duel_245 ?_
                        refine m_nameM (fun mu28 emu28 => ?_)
                        refine m_iinc C 7 (nI (d + 1)) [(5, .int (nI (d + 1))), (6, .int (mu26 78 d)), (7, .int 0), (0, .ref (G.1 64)), (1, .int n), (2, .int k), (3, .int (nI ((z_N z) - (v_m (z_V z))))), (4, .int (nI L)), (8, .int (nI i))] dX11_duel_246 rfl (nn_add hatd (show Int32.ofInt 1 = nI 1 from rfl)) (by decide) rfl ?_
                        refine m_iload C 0 dX11_duel_249 rfl ?_
                        refine m_iload C 7 dX11_duel_251 rfl ?_
                        refine m_icmp_ge C 272 dX11_duel_253 (by decide) (fun hh29 => ?_) (fun hh29 => ?_)
                        · replace hh29 := (ii_le (nn_i (a := L) rfl (by omega)) (nn_i (a := d + 1) rfl (by omega))).mp hh29
                          have hdn := di_down (m3 := mu28) (i := i) hdi0 hdlt hsk hji (by omega) hnl (fun e he => by rw [emu28, mu_up_ne (by decide), emu26, mu_up_an (by omega)]) (by rw [emu28, mu_up_ne (by decide), emu26, mu_up_at]) (fun e he => by rw [emu28, mu_up_an (by omega), emu26, mu_up_ne (by decide)]) (by rw [emu28, mu_up_at]) (fun e he => by rw [emu28, mu_up_ne (by decide), emu26, mu_up_ne (by decide)]) (fun h => absurd h (by omega)) (fun c q1 q2 q3 => by rw [emu28, mu_up_ne q2, emu26, mu_up_ne q1]; exact hF c q1 q2 q3)
                          refine m_iload C 2 dX11_duel_272 rfl ?_
                          refine m_if_eq C 360 dX11_duel_274 (by decide) (fun _ => ?_) (fun h => absurd (by decide) h)
                          refine m_goto C 103 dX11_duel_360 (by decide) ?_
                          exact m_sub [3, 4, 5, 6, 7, 0, 1] rfl (ih103 (d + 2) (Y ++ [i]) ((fun e => if e = Y.length then a else A e)) none 0 (nI (d + 1)) (mu26 78 d) mu28 (by rw [show d + 2 = (d + 1) + 1 from rfl, nI_pred]) (fun h => absurd h (by omega)) hdn.1 (by omega))
                        replace hh29 := mt (ii_le (nn_i (a := L) rfl (by omega)) (nn_i (a := d + 1) rfl (by omega))).mpr hh29
                        refine m_aload_n C 3 dX11_duel_256 rfl ?_
                        refine gfX11_47 C dX11_duel_257 ?_
                        refine m_iload C 0 dX11_duel_260 rfl ?_
                        refine m_iconst C (-1) dX11_duel_262 (by decide +kernel) ?_
                        refine m_iast C 76 (by decide) sa_76 (d + 1) rfl (by omega) (by decide) dX11_duel_263 ?_
                        refine m_nameM (fun mu30 emu30 => ?_)
                        refine m_aload_n C 3 dX11_duel_264 rfl ?_
                        refine gfX11_53 C dX11_duel_265 ?_
                        refine m_iload C 0 dX11_duel_268 rfl ?_
                        refine m_iconst C (-1) dX11_duel_270 (by decide +kernel) ?_
                        refine m_iast C 78 (by decide) sa_78 (d + 1) rfl (by omega) (by decide) dX11_duel_271 ?_
                        refine m_nameM (fun mu31 emu31 => ?_)
                        have hdn := di_down (m3 := mu31) (i := i) hdi0 hdlt hsk hji (by omega) hnl (fun e he => by rw [emu31, mu_up_ne (by decide), emu30, mu_up_an (by omega), emu28, mu_up_ne (by decide), emu26, mu_up_an (by omega)]) (by rw [emu31, mu_up_ne (by decide), emu30, mu_up_an (by omega), emu28, mu_up_ne (by decide), emu26, mu_up_at]) (fun e he => by rw [emu31, mu_up_ne (by decide), emu30, mu_up_ne (by decide), emu28, mu_up_an (by omega), emu26, mu_up_ne (by decide)]) (by rw [emu31, mu_up_ne (by decide), emu30, mu_up_ne (by decide), emu28, mu_up_at]) (fun e he => by rw [emu31, mu_up_an (by omega), emu30, mu_up_ne (by decide), emu28, mu_up_ne (by decide), emu26, mu_up_ne (by decide)]) (fun _ => ⟨by rw [emu31, mu_up_ne (by decide), emu30, mu_up_at], by rw [emu31, mu_up_at]⟩) (fun c q1 q2 q3 => by rw [emu31, mu_up_ne q3, emu30, mu_up_ne q1, emu28, mu_up_ne q2, emu26, mu_up_ne q1]; exact hF c q1 q2 q3)
                        refine m_iload C 2 dX11_duel_272 rfl ?_
                        refine m_if_eq C 360 dX11_duel_274 (by decide) (fun _ => ?_) (fun h => absurd (by decide) h)
                        refine m_goto C 103 dX11_duel_360 (by decide) ?_
                        exact m_sub [3, 4, 5, 6, 7, 0, 1] rfl (ih103 (d + 2) (Y ++ [i]) ((fun e => if e = Y.length then a else A e)) none 0 (nI (d + 1)) (mu26 78 d) mu31 (by rw [show d + 2 = (d + 1) + 1 from rfl, nI_pred]) (fun h => absurd h (by omega)) hdn.1 (by omega))
                      replace hh25 := bI_ne0.mp hh25
                      have hil : i ∈ (z_B z).1 ++ Y := hh25
                      refine m_iinc C 8 (nI (i + 1)) [(8, .int (nI (i + 1))), (0, .ref (G.1 64)), (1, .int n), (2, .int k), (3, .int (nI ((z_N z) - (v_m (z_V z))))), (4, .int (nI L)), (5, .int at_), (6, .int va), (7, .int 0)] dX11_duel_172 rfl (nn_add rfl (show Int32.ofInt 1 = nI 1 from rfl)) (by decide) rfl ?_
                      refine m_goto C 150 dX11_duel_175 (by decide) ?_
                      exact m_sub [1, 2, 3, 4, 5, 6, 7, 8, 0] rfl (ih150 (i + 1) (by omega) (by omega) (hsk.trans ((lv_step (by omega)).trans (by rw [if_pos hil]))) (fun hn q hq => by
                                by_cases e : q = i
                                · rw [e]; exact hil
                                · exact hall hn q (by omega)) (by omega))
                  exact m_sub [2, 3, 4, 5, 6, 7, 8, 1, 0] rfl (L150 (_ + 1) j (Nat.le_refl _) k2 rfl k5 (Nat.lt_succ_self _))
                replace hh11 := (ii_eq (nn_i (a := d) rfl (by omega)) (nn_i (a := L) rfl (by omega))).mp hh11
                have hdL2 : d = L := by omega
                have hd1 : 1 ≤ d := by omega
                have hVd : Vs = d_up (z_N z) (fun i => v_sh (z_V z) i (ix k)) L (z_B z).1 r0 Y A d (d_r (fun i => v_sh (z_V z) i (ix k)) r0 Y) := htop hdL2
                have hv9 := hdr9
                refine m_iconst C 1 dX11_duel_115 (by decide +kernel) ?_
                refine m_goto C 120 dX11_duel_116 (by decide) ?_
                refine m_istore C [(7, .int 1), (0, .ref (G.1 64)), (1, .int n), (2, .int k), (3, .int (nI ((z_N z) - (v_m (z_V z))))), (4, .int (nI L)), (5, .int at_), (6, .int va)] dX11_duel_120 (by decide) rfl ?_
                refine m_iload C 0 dX11_duel_122 rfl ?_
                refine m_if_eq C 139 dX11_duel_124 (by decide) (fun h => absurd h (by decide)) (fun _ => ?_)
                refine m_aload_n C 1 dX11_duel_127 rfl ?_
                refine gfX11_50 C dX11_duel_128 ?_
                refine m_iload C 6 dX11_duel_131 rfl ?_
                refine m_topi (nI d) hatd ?_
                refine m_iald C 77 (by decide) sa_77 d rfl (by omega) (by decide) dX11_duel_133 ?_
                refine m_topi (nI (d_r (fun i => v_sh (z_V z) i (ix k)) r0 Y)) hrC ?_
                refine m_istore C [(6, .int (nI (d_r (fun i => v_sh (z_V z) i (ix k)) r0 Y))), (7, .int 1), (0, .ref (G.1 64)), (1, .int n), (2, .int k), (3, .int (nI ((z_N z) - (v_m (z_V z))))), (4, .int (nI L)), (5, .int at_)] dX11_duel_134 (by decide) rfl ?_
                refine m_goto C 272 dX11_duel_136 (by decide) ?_
                refine m_iload C 1 dX11_duel_272 rfl ?_
                refine m_if_eq C 360 dX11_duel_274 (by decide) (fun h => absurd h (by decide)) (fun _ => ?_)
                refine m_iinc C 7 (nI (d - 1)) [(5, .int (nI (d - 1))), (6, .int (nI (d_r (fun i => v_sh (z_V z) i (ix k)) r0 Y))), (7, .int 1), (0, .ref (G.1 64)), (1, .int n), (2, .int k), (3, .int (nI ((z_N z) - (v_m (z_V z))))), (4, .int (nI L))] dX11_duel_277 rfl (by rw [hatd]; exact dec_nat (by omega)) (by decide) rfl ?_
                refine m_iload C 0 dX11_duel_280 rfl ?_
                refine m_if_lt C 360 dX11_duel_282 (by decide) (fun hh32 => absurd hh32 (mt (ii_lt (nn_i (a := d - 1) rfl (by omega)) (nn_i (a := 0) rfl (by omega))).mp (by omega))) (fun _ => ?_)
                refine m_aload_n C 3 dX11_duel_285 rfl ?_
                refine gfX11_53 C dX11_duel_286 ?_
                refine m_iload C 0 dX11_duel_289 rfl ?_
                refine m_iald C 78 (by decide) sa_78 (d - 1) rfl (by omega) (by decide) dX11_duel_291 ?_
                obtain ⟨hA1, hA2⟩ := h78 (d - 1) (by omega)
                have hA1m : m 78 (d - 1) = d_en (A (d - 1)) := hA1
                rcases hA : A (d - 1) with _ | u
                · skip
                  have hA1n : m 78 (d - 1) = -1 := by rw [hA1m, hA]; rfl
                  refine m_topi (-1) hA1n ?_
                  refine m_if_lt C 329 dX11_duel_292 (by decide) (fun _ => ?_) (fun h => absurd (by decide) h)
                  refine m_iconst C 1 dX11_duel_329 (by decide +kernel) ?_
                  refine m_goto C 334 dX11_duel_330 (by decide) ?_
                  refine m_istore C [(8, .int 1), (5, .int (nI (d - 1))), (6, .int (nI (d_r (fun i => v_sh (z_V z) i (ix k)) r0 Y))), (7, .int 1), (0, .ref (G.1 64)), (1, .int n), (2, .int k), (3, .int (nI ((z_N z) - (v_m (z_V z))))), (4, .int (nI L))] dX11_duel_334 (by decide) rfl ?_
                  refine m_aload_n C 4 dX11_duel_336 rfl ?_
                  refine gfX11_53 C dX11_duel_337 ?_
                  refine m_iload C 1 dX11_duel_340 rfl ?_
                  refine m_iload C 0 dX11_duel_342 rfl ?_
                  refine m_if_eq C 352 dX11_duel_344 (by decide) (fun h => absurd h (by decide)) (fun _ => ?_)
                  refine m_iload C 2 dX11_duel_347 rfl ?_
                  refine m_goto C 359 dX11_duel_349 (by decide) ?_
                  refine m_iast C 78 (by decide) sa_78 (d - 1) rfl (by omega) (by decide) dX11_duel_359 ?_
                  refine m_nameM (fun mu33 emu33 => ?_)
                  have hst : nI (d_r (fun i => v_sh (z_V z) i (ix k)) r0 Y) = d_en (s_mx (d_b (d - 1)) (A (d - 1)) (d_r (fun i => v_sh (z_V z) i (ix k)) r0 Y)) := by rw [hA]; rfl
                  have hup := di_up (ma := m) (mb := mu33) (v := d_r (fun i => v_sh (z_V z) i (ix k)) r0 Y) hdi0 hzN (by omega) hVd hv9 (fun e he => rfl) rfl rfl hF (by rw [emu33, ← hst])
                  refine m_goto C 103 dX11_duel_360 (by decide) ?_
                  exact m_sub [4, 5, 6, 7, 8, 1, 2] rfl (ih103 d Y.dropLast A (s_mx (d_b (d - 1)) (A (d - 1)) (d_r (fun i => v_sh (z_V z) i (ix k)) r0 Y)) (Y.getD (d - 1) 0 + 1) (nI (d - 1)) (nI (d_r (fun i => v_sh (z_V z) i (ix k)) r0 Y)) mu33 (di_dec (by omega)) (fun h => absurd h (by omega)) hup.1 (by omega))
                · skip
                  have hA1s : m 78 (d - 1) = nI u := by rw [hA1m, hA]; rfl
                  have hu9 : u ≤ 90000000 := hA2 u hA
                  refine m_topi (nI u) hA1s ?_
                  refine m_if_lt C 329 dX11_duel_292 (by decide) (fun hh34 => absurd hh34 (mt (ii_lt (nn_i (a := u) rfl (by omega)) (nn_i (a := 0) rfl (by omega))).mp (by omega))) (fun _ => ?_)
                  refine m_iload C 0 dX11_duel_295 rfl ?_
                  refine m_iconst C 2 dX11_duel_297 (by decide +kernel) ?_
                  refine m_irem C dX11_duel_298 (by decide) ?_
                  refine m_topi (nI ((d - 1) % 2)) (nn_rem rfl rfl (by omega) (by omega) (by omega)) ?_
                  refine m_if_ne C 317 dX11_duel_299 (by decide) (fun hh35 => ?_) (fun hh35 => ?_)
                  · replace hh35 := mt (ii_eq (nn_i (a := (d - 1) % 2) rfl (by omega)) (nn_i (a := 0) rfl (by omega))).mpr hh35
                    refine m_iload C 1 dX11_duel_317 rfl ?_
                    refine m_aload_n C 3 dX11_duel_319 rfl ?_
                    refine gfX11_53 C dX11_duel_320 ?_
                    refine m_iload C 0 dX11_duel_323 rfl ?_
                    refine m_iald C 78 (by decide) sa_78 (d - 1) rfl (by omega) (by decide) dX11_duel_325 ?_
                    refine m_topi (nI u) hA1s ?_
                    refine m_icmp_ge C 333 dX11_duel_326 (by decide) (fun hh36 => ?_) (fun hh36 => ?_)
                    · replace hh36 := (ii_le (nn_i (a := u) rfl (by omega)) (nn_i (a := d_r (fun i => v_sh (z_V z) i (ix k)) r0 Y) rfl (by omega))).mp hh36
                      refine m_iconst C 0 dX11_duel_333 (by decide +kernel) ?_
                      refine m_istore C [(8, .int 0), (5, .int (nI (d - 1))), (6, .int (nI (d_r (fun i => v_sh (z_V z) i (ix k)) r0 Y))), (7, .int 1), (0, .ref (G.1 64)), (1, .int n), (2, .int k), (3, .int (nI ((z_N z) - (v_m (z_V z))))), (4, .int (nI L))] dX11_duel_334 (by decide) rfl ?_
                      refine m_aload_n C 4 dX11_duel_336 rfl ?_
                      refine gfX11_53 C dX11_duel_337 ?_
                      refine m_iload C 1 dX11_duel_340 rfl ?_
                      refine m_iload C 0 dX11_duel_342 rfl ?_
                      refine m_if_eq C 352 dX11_duel_344 (by decide) (fun _ => ?_) (fun h => absurd (by decide) h)
                      refine m_aload_n C 4 dX11_duel_352 rfl ?_
                      refine gfX11_53 C dX11_duel_353 ?_
                      refine m_iload C 1 dX11_duel_356 rfl ?_
                      refine m_iald C 78 (by decide) sa_78 (d - 1) rfl (by omega) (by decide) dX11_duel_358 ?_
                      refine m_topi (nI u) hA1s ?_
                      refine m_iast C 78 (by decide) sa_78 (d - 1) rfl (by omega) (by decide) dX11_duel_359 ?_
                      refine m_nameM (fun mu37 emu37 => ?_)
                      have hst : nI u = d_en (s_mx (d_b (d - 1)) (A (d - 1)) (d_r (fun i => v_sh (z_V z) i (ix k)) r0 Y)) := by rw [hA, mx_o0 (db_f (by omega)) (by omega)]; rfl
                      have hup := di_up (ma := m) (mb := mu37) (v := d_r (fun i => v_sh (z_V z) i (ix k)) r0 Y) hdi0 hzN (by omega) hVd hv9 (fun e he => rfl) rfl rfl hF (by rw [emu37, ← hst])
                      refine m_goto C 103 dX11_duel_360 (by decide) ?_
                      exact m_sub [4, 5, 6, 7, 8, 1, 2] rfl (ih103 d Y.dropLast A (s_mx (d_b (d - 1)) (A (d - 1)) (d_r (fun i => v_sh (z_V z) i (ix k)) r0 Y)) (Y.getD (d - 1) 0 + 1) (nI (d - 1)) (nI (d_r (fun i => v_sh (z_V z) i (ix k)) r0 Y)) mu37 (di_dec (by omega)) (fun h => absurd h (by omega)) hup.1 (by omega))
                    replace hh36 := mt (ii_le (nn_i (a := u) rfl (by omega)) (nn_i (a := d_r (fun i => v_sh (z_V z) i (ix k)) r0 Y) rfl (by omega))).mpr hh36
                    refine m_iconst C 1 dX11_duel_329 (by decide +kernel) ?_
                    refine m_goto C 334 dX11_duel_330 (by decide) ?_
                    refine m_istore C [(8, .int 1), (5, .int (nI (d - 1))), (6, .int (nI (d_r (fun i => v_sh (z_V z) i (ix k)) r0 Y))), (7, .int 1), (0, .ref (G.1 64)), (1, .int n), (2, .int k), (3, .int (nI ((z_N z) - (v_m (z_V z))))), (4, .int (nI L))] dX11_duel_334 (by decide) rfl ?_
                    refine m_aload_n C 4 dX11_duel_336 rfl ?_
                    refine gfX11_53 C dX11_duel_337 ?_
                    refine m_iload C 1 dX11_duel_340 rfl ?_
                    refine m_iload C 0 dX11_duel_342 rfl ?_
                    refine m_if_eq C 352 dX11_duel_344 (by decide) (fun h => absurd h (by decide)) (fun _ => ?_)
                    refine m_iload C 2 dX11_duel_347 rfl ?_
                    refine m_goto C 359 dX11_duel_349 (by decide) ?_
                    refine m_iast C 78 (by decide) sa_78 (d - 1) rfl (by omega) (by decide) dX11_duel_359 ?_
                    refine m_nameM (fun mu38 emu38 => ?_)
                    have hst : nI (d_r (fun i => v_sh (z_V z) i (ix k)) r0 Y) = d_en (s_mx (d_b (d - 1)) (A (d - 1)) (d_r (fun i => v_sh (z_V z) i (ix k)) r0 Y)) := by rw [hA, mx_o1 (db_f (by omega)) (by omega)]; rfl
                    have hup := di_up (ma := m) (mb := mu38) (v := d_r (fun i => v_sh (z_V z) i (ix k)) r0 Y) hdi0 hzN (by omega) hVd hv9 (fun e he => rfl) rfl rfl hF (by rw [emu38, ← hst])
                    refine m_goto C 103 dX11_duel_360 (by decide) ?_
                    exact m_sub [4, 5, 6, 7, 8, 1, 2] rfl (ih103 d Y.dropLast A (s_mx (d_b (d - 1)) (A (d - 1)) (d_r (fun i => v_sh (z_V z) i (ix k)) r0 Y)) (Y.getD (d - 1) 0 + 1) (nI (d - 1)) (nI (d_r (fun i => v_sh (z_V z) i (ix k)) r0 Y)) mu38 (di_dec (by omega)) (fun h => absurd h (by omega)) hup.1 (by omega))
                  replace hh35 := (ii_eq (nn_i (a := (d - 1) % 2) rfl (by omega)) (nn_i (a := 0) rfl (by omega))).mp hh35
                  refine m_iload C 1 dX11_duel_302 rfl ?_
                  refine m_aload_n C 3 dX11_duel_304 rfl ?_
                  refine gfX11_53 C dX11_duel_305 ?_
                  refine m_iload C 0 dX11_duel_308 rfl ?_
                  refine m_iald C 78 (by decide) sa_78 (d - 1) rfl (by omega) (by decide) dX11_duel_310 ?_
                  refine m_topi (nI u) hA1s ?_
                  refine m_icmp_le C 333 dX11_duel_311 (by decide) (fun hh39 => ?_) (fun hh39 => ?_)
                  · replace hh39 := (ii_le (nn_i (a := d_r (fun i => v_sh (z_V z) i (ix k)) r0 Y) rfl (by omega)) (nn_i (a := u) rfl (by omega))).mp hh39
                    refine m_iconst C 0 dX11_duel_333 (by decide +kernel) ?_
                    refine m_istore C [(8, .int 0), (5, .int (nI (d - 1))), (6, .int (nI (d_r (fun i => v_sh (z_V z) i (ix k)) r0 Y))), (7, .int 1), (0, .ref (G.1 64)), (1, .int n), (2, .int k), (3, .int (nI ((z_N z) - (v_m (z_V z))))), (4, .int (nI L))] dX11_duel_334 (by decide) rfl ?_
                    refine m_aload_n C 4 dX11_duel_336 rfl ?_
                    refine gfX11_53 C dX11_duel_337 ?_
                    refine m_iload C 1 dX11_duel_340 rfl ?_
                    refine m_iload C 0 dX11_duel_342 rfl ?_
                    refine m_if_eq C 352 dX11_duel_344 (by decide) (fun _ => ?_) (fun h => absurd (by decide) h)
                    refine m_aload_n C 4 dX11_duel_352 rfl ?_
                    refine gfX11_53 C dX11_duel_353 ?_
                    refine m_iload C 1 dX11_duel_356 rfl ?_
                    refine m_iald C 78 (by decide) sa_78 (d - 1) rfl (by omega) (by decide) dX11_duel_358 ?_
                    refine m_topi (nI u) hA1s ?_
                    refine m_iast C 78 (by decide) sa_78 (d - 1) rfl (by omega) (by decide) dX11_duel_359 ?_
                    refine m_nameM (fun mu40 emu40 => ?_)
                    have hst : nI u = d_en (s_mx (d_b (d - 1)) (A (d - 1)) (d_r (fun i => v_sh (z_V z) i (ix k)) r0 Y)) := by rw [hA, mx_e0 (db_t (by omega)) (by omega)]; rfl
                    have hup := di_up (ma := m) (mb := mu40) (v := d_r (fun i => v_sh (z_V z) i (ix k)) r0 Y) hdi0 hzN (by omega) hVd hv9 (fun e he => rfl) rfl rfl hF (by rw [emu40, ← hst])
                    refine m_goto C 103 dX11_duel_360 (by decide) ?_
                    exact m_sub [4, 5, 6, 7, 8, 1, 2] rfl (ih103 d Y.dropLast A (s_mx (d_b (d - 1)) (A (d - 1)) (d_r (fun i => v_sh (z_V z) i (ix k)) r0 Y)) (Y.getD (d - 1) 0 + 1) (nI (d - 1)) (nI (d_r (fun i => v_sh (z_V z) i (ix k)) r0 Y)) mu40 (di_dec (by omega)) (fun h => absurd h (by omega)) hup.1 (by omega))
                  replace hh39 := mt (ii_le (nn_i (a := d_r (fun i => v_sh (z_V z) i (ix k)) r0 Y) rfl (by omega)) (nn_i (a := u) rfl (by omega))).mpr hh39
                  refine m_goto C 329 dX11_duel_314 (by decide) ?_
                  refine m_iconst C 1 dX11_duel_329 (by decide +kernel) ?_
                  refine m_goto C 334 dX11_duel_330 (by decide) ?_
                  refine m_istore C [(8, .int 1), (5, .int (nI (d - 1))), (6, .int (nI (d_r (fun i => v_sh (z_V z) i (ix k)) r0 Y))), (7, .int 1), (0, .ref (G.1 64)), (1, .int n), (2, .int k), (3, .int (nI ((z_N z) - (v_m (z_V z))))), (4, .int (nI L))] dX11_duel_334 (by decide) rfl ?_
                  refine m_aload_n C 4 dX11_duel_336 rfl ?_
                  refine gfX11_53 C dX11_duel_337 ?_
                  refine m_iload C 1 dX11_duel_340 rfl ?_
                  refine m_iload C 0 dX11_duel_342 rfl ?_
                  refine m_if_eq C 352 dX11_duel_344 (by decide) (fun h => absurd h (by decide)) (fun _ => ?_)
                  refine m_iload C 2 dX11_duel_347 rfl ?_
                  refine m_goto C 359 dX11_duel_349 (by decide) ?_
                  refine m_iast C 78 (by decide) sa_78 (d - 1) rfl (by omega) (by decide) dX11_duel_359 ?_
                  refine m_nameM (fun mu41 emu41 => ?_)
                  have hst : nI (d_r (fun i => v_sh (z_V z) i (ix k)) r0 Y) = d_en (s_mx (d_b (d - 1)) (A (d - 1)) (d_r (fun i => v_sh (z_V z) i (ix k)) r0 Y)) := by rw [hA, mx_e1 (db_t (by omega)) (by omega)]; rfl
                  have hup := di_up (ma := m) (mb := mu41) (v := d_r (fun i => v_sh (z_V z) i (ix k)) r0 Y) hdi0 hzN (by omega) hVd hv9 (fun e he => rfl) rfl rfl hF (by rw [emu41, ← hst])
                  refine m_goto C 103 dX11_duel_360 (by decide) ?_
                  exact m_sub [4, 5, 6, 7, 8, 1, 2] rfl (ih103 d Y.dropLast A (s_mx (d_b (d - 1)) (A (d - 1)) (d_r (fun i => v_sh (z_V z) i (ix k)) r0 Y)) (Y.getD (d - 1) 0 + 1) (nI (d - 1)) (nI (d_r (fun i => v_sh (z_V z) i (ix k)) r0 Y)) mu41 (di_dec (by omega)) (fun h => absurd h (by omega)) hup.1 (by omega))
          exact m_sub [4, 5, 6, 3, 2, 1, 0] rfl (L103 (_ + 1) 1 ([]) ((fun _ => none)) none 0 0 (nI r0) mu8 (by decide) (fun h => absurd h (by decide)) hdis (Nat.lt_succ_self _))
        replace hh6 := (ii_eq (nn_i (a := L) rfl (by omega)) (nn_i (a := 0) rfl (by omega))).mp hh6
        refine m_iload C 0 dX11_duel_86 rfl ?_
        refine m_ireti C hQ dX11_duel_88 ?_
        have hsp : s_play (z_N z) (fun i => v_sh (z_V z) i (ix k)) (ix n) (z_B z).1 r0 true = Vs := by rw [hVs, hLm]; exact play_min _ _ _ _ hwf.2.1 hwf.1
        have hL0 : L = 0 := by omega
        have hV0 : Vs = r0 := by rw [hVs, hL0]; rfl
        obtain ⟨hz2, hc2⟩ := zm_df hz (show DF mu mu5 from fun c q1 q2 q3 => by rw [emu5, mu_up_ne q2])
        exact PM_of (by unfold s_duel; rw [if_neg (by omega), if_neg (by omega)]; rw [← hr0e, hsp, hV0]) hz2 hc2
      replace hh4 := mt (ii_le (nn_i (a := (z_N z) - (v_m (z_V z))) rfl (by omega)) (nn_i (a := ix n) rfl (by omega))).mpr hh4
      refine m_iload_n C 2 dX11_duel_52 rfl ?_
      refine m_topi (nI (ix n)) en ?_
      refine m_topi (nI L) (congrArg nI (by omega)) ?_
      refine m_goto C 57 dX11_duel_53 (by decide) ?_
      refine m_istore C [(4, .int (nI L)), (3, .int (nI ((z_N z) - (v_m (z_V z))))), (0, .ref (G.1 64)), (1, .int n), (2, .int k)] dX11_duel_57 (by decide) rfl ?_
      refine m_iconst C 0 dX11_duel_59 (by decide +kernel) ?_
      refine m_istore C [(5, .int 0), (4, .int (nI L)), (3, .int (nI ((z_N z) - (v_m (z_V z))))), (0, .ref (G.1 64)), (1, .int n), (2, .int k)] dX11_duel_60 (by decide) rfl ?_
      refine m_aload_n C 3 dX11_duel_62 rfl ?_
      refine gfX11_50 C dX11_duel_63 ?_
      refine m_iconst C 0 dX11_duel_66 (by decide +kernel) ?_
      refine m_aload_n C 3 dX11_duel_67 rfl ?_
      refine m_iload_n C 5 dX11_duel_68 rfl ?_
      refine m_topi (nI (ix k)) ek ?_
      refine m_callVf C 64 (by decide) rfl rfl (c_X11_readBy l G mu nu (z_V z) hv (ix k) (by omega) (by omega)) wkX11_173 (by decide) rfl rfl (Nat.le_of_ble_eq_true rfl) dX11_duel_69 ?_
      refine m_topi (nI r0) (congrArg nI hr0e.symm) ?_
      refine m_iast C 77 (by decide) sa_77 0 rfl (by omega) (by decide) dX11_duel_72 ?_
      refine m_nameM (fun mu42 emu42 => ?_)
      refine m_aload_n C 3 dX11_duel_73 rfl ?_
      refine gfX11_50 C dX11_duel_74 ?_
      refine m_iconst C 0 dX11_duel_77 (by decide +kernel) ?_
      refine m_iald C 77 (by decide) sa_77 0 rfl (by omega) (by decide) dX11_duel_78 ?_
      refine m_topi (nI r0) (by rw [emu42, mu_up_at]) ?_
      refine m_istore C [(6, .int (nI r0)), (5, .int 0), (4, .int (nI L)), (3, .int (nI ((z_N z) - (v_m (z_V z))))), (0, .ref (G.1 64)), (1, .int n), (2, .int k)] dX11_duel_79 (by decide) rfl ?_
      refine m_iload C 2 dX11_duel_81 rfl ?_
      refine m_if_ne C 89 dX11_duel_83 (by decide) (fun hh43 => ?_) (fun hh43 => ?_)
      · replace hh43 := mt (ii_eq (nn_i (a := L) rfl (by omega)) (nn_i (a := 0) rfl (by omega))).mpr hh43
        refine m_aload_n C 4 dX11_duel_89 rfl ?_
        refine gfX11_47 C dX11_duel_90 ?_
        refine m_iconst C 0 dX11_duel_93 (by decide +kernel) ?_
        refine m_iconst C (-1) dX11_duel_94 (by decide +kernel) ?_
        refine m_iast C 76 (by decide) sa_76 0 rfl (by omega) (by decide) dX11_duel_95 ?_
        refine m_nameM (fun mu44 emu44 => ?_)
        refine m_aload_n C 4 dX11_duel_96 rfl ?_
        refine gfX11_53 C dX11_duel_97 ?_
        refine m_iconst C 0 dX11_duel_100 (by decide +kernel) ?_
        refine m_iconst C (-1) dX11_duel_101 (by decide +kernel) ?_
        refine m_iast C 78 (by decide) sa_78 0 rfl (by omega) (by decide) dX11_duel_102 ?_
        refine m_nameM (fun mu45 emu45 => ?_)
        have hdis : DI mu mu45 (z_N z) L (fun i => v_sh (z_V z) i (ix k)) (z_B z).1 r0 Vs [] (fun _ => none) none 0 1 := ⟨rfl, Nat.zero_le _, fun x hx => absurd hx List.not_mem_nil, by rw [List.append_nil]; exact hwf.2.1, fun e he => absurd he (Nat.not_lt_zero _), fun e he => by rw [Nat.le_zero.mp he, emu45, mu_up_ne (by decide), emu44, mu_up_ne (by decide), emu42, mu_up_at]; rfl, fun e he => absurd he (Nat.not_lt_zero _), fun _ => ⟨by rw [emu45, mu_up_ne (by decide), emu44, mu_up_at]; decide, Nat.zero_le _, by rw [emu45, mu_up_at]; rfl, fun v hv => (by cases hv), fun _ i hi => absurd hi (Nat.not_lt_zero _), by rw [hVs, List.append_nil]; show _ = (d_lv _ _ _ _ _ _ _ _).getD _; rw [show d_b 0 = true from rfl]; exact (lv_L (L := L) (by omega)).symm⟩, fun h => absurd h (show ¬ 0 = L by omega), fun c q1 q2 q3 => by rw [emu45, mu_up_ne q3, emu44, mu_up_ne q1, emu42, mu_up_ne q2]⟩
        have L103 : ∀ (fu : Nat) (dd : Nat) (Y : List Nat) (A : Nat → Option Nat) (a : Option Nat) (j : Nat) (at_ va : Int32) (m : Mu) (hat : at_ = nI dd - 1) (hva : dd = 0 → va = nI Vs) (hdi : DI mu m (z_N z) L (fun i => v_sh (z_V z) i (ix k)) (z_B z).1 r0 Vs Y A a j dd), d_M (z_N z) L Y j dd < fu → Mq l G 9 X Q 103 [(0, .ref (G.1 64)), (1, .int n), (2, .int k), (3, .int (nI ((z_N z) - (v_m (z_V z))))), (4, .int (nI L)), (5, .int at_), (6, .int va)] [] m nu := by
          intro fu
          induction fu with
          | zero => intro dd Y A a j at_ va m hat hva hdi hm; exact absurd hm (Nat.not_lt_zero _)
          | succ fu ih103 =>
            intro dd Y A a j at_ va m hat hva hdi hm
            rcases dd with _ | d
            · skip
              refine m_iload C 5 dX11_duel_103 rfl ?_
              refine m_if_lt C 363 dX11_duel_105 (by decide) (fun _ => ?_) (fun hh46 => absurd ((ii_lt (show at_.toInt = -1 by rw [hat]; decide) (nn_i (a := 0) rfl (by omega))).mpr (by omega)) hh46)
              refine m_iload C 6 dX11_duel_363 rfl ?_
              refine m_ireti C hQ dX11_duel_365 ?_
              have hsp : s_play (z_N z) (fun i => v_sh (z_V z) i (ix k)) (ix n) (z_B z).1 r0 true = Vs := by rw [hVs, hLm]; exact play_min _ _ _ _ hwf.2.1 hwf.1
              obtain ⟨hz2, hc2⟩ := zm_df hz hdi
              rw [hva rfl]
              exact PM_of (by unfold s_duel; rw [if_neg (by omega), if_neg (by omega)]; rw [← hr0e, hsp]) hz2 hc2
            · skip
              have hatd : at_ = nI d := by rw [hat, nI_pred]
              have hdi0 := hdi
              obtain ⟨hCl, hdL, hCx, hnd, h76, h77, h78, hlow, htop, hF⟩ := hdi
              have h650 : m 65 0 = nI (z_N z) := by rw [hF 65 (by decide) (by decide) (by decide)]; exact hv.2.1
              have hvm : zm m (z_V z) := zm_65 hv (hF 65 (by decide) (by decide) (by decide))
              have hdr := dr_le (N := z_N z) (sh := (fun i => v_sh (z_V z) i (ix k))) (m := v_m (z_V z)) (fun i hi => v_sh_le hw hi (by omega)) hr0 d Y hCl hCx
              have hdr9 : d_r (fun i => v_sh (z_V z) i (ix k)) r0 Y ≤ 90000000 := pb_top hdr (by omega)
              have hrC : m 77 d = nI (d_r (fun i => v_sh (z_V z) i (ix k)) r0 Y) := by rw [h77 d (Nat.le_refl _), ← hCl, List.take_length]
              refine m_iload C 5 dX11_duel_103 rfl ?_
              refine m_topi (nI d) hatd ?_
              refine m_if_lt C 363 dX11_duel_105 (by decide) (fun hh47 => absurd hh47 (mt (ii_lt (nn_i (a := d) rfl (by omega)) (nn_i (a := 0) rfl (by omega))).mp (by omega))) (fun _ => ?_)
              refine m_iload C 5 dX11_duel_108 rfl ?_
              refine m_topi (nI d) hatd ?_
              refine m_iload C 4 dX11_duel_110 rfl ?_
              refine m_icmp_ne C 119 dX11_duel_112 (by decide) (fun hh48 => ?_) (fun hh48 => ?_)
              · replace hh48 := mt (ii_eq (nn_i (a := d) rfl (by omega)) (nn_i (a := L) rfl (by omega))).mpr hh48
                have hdlt : d < L := by omega
                obtain ⟨k1, k2, k3, k4, k5, k6⟩ := hlow hdlt
                refine m_iconst C 0 dX11_duel_119 (by decide +kernel) ?_
                refine m_istore C [(7, .int 0), (0, .ref (G.1 64)), (1, .int n), (2, .int k), (3, .int (nI ((z_N z) - (v_m (z_V z))))), (4, .int (nI L)), (5, .int at_), (6, .int va)] dX11_duel_120 (by decide) rfl ?_
                refine m_iload C 0 dX11_duel_122 rfl ?_
                refine m_if_eq C 139 dX11_duel_124 (by decide) (fun _ => ?_) (fun h => absurd (by decide) h)
                refine m_aload_n C 1 dX11_duel_139 rfl ?_
                refine gfX11_47 C dX11_duel_140 ?_
                refine m_iload C 6 dX11_duel_143 rfl ?_
                refine m_topi (nI d) hatd ?_
                refine m_iald C 76 (by decide) sa_76 d rfl (by omega) (by decide) dX11_duel_145 ?_
                refine m_iconst C 1 dX11_duel_146 (by decide +kernel) ?_
                refine m_iadd C dX11_duel_147 ?_
                refine m_topi (nI j) k1 ?_
                refine m_istore C [(8, .int (nI j)), (7, .int 0), (0, .ref (G.1 64)), (1, .int n), (2, .int k), (3, .int (nI ((z_N z) - (v_m (z_V z))))), (4, .int (nI L)), (5, .int at_), (6, .int va)] dX11_duel_148 (by decide) rfl ?_
                have L150 : ∀ (fu : Nat) (i : Nat) (hji : j ≤ i) (hiN : i ≤ z_N z) (hsk : d_lv (z_N z) (fun i => v_sh (z_V z) i (ix k)) (L - d - 1) ((z_B z).1 ++ Y) (d_r (fun i => v_sh (z_V z) i (ix k)) r0 Y) (d_b d) a j = d_lv (z_N z) (fun i => v_sh (z_V z) i (ix k)) (L - d - 1) ((z_B z).1 ++ Y) (d_r (fun i => v_sh (z_V z) i (ix k)) r0 Y) (d_b d) a i) (hall : a = none → ∀ q, q < i → q ∈ (z_B z).1 ++ Y), z_N z - i < fu → Mq l G 9 X Q 150 [(0, .ref (G.1 64)), (1, .int n), (2, .int k), (3, .int (nI ((z_N z) - (v_m (z_V z))))), (4, .int (nI L)), (5, .int at_), (6, .int va), (7, .int 0), (8, .int (nI i))] [] m nu := by
                  intro fu
                  induction fu with
                  | zero => intro i hji hiN hsk hall hm; exact absurd hm (Nat.not_lt_zero _)
                  | succ fu ih150 =>
                    intro i hji hiN hsk hall hm
                    refine m_iload C 8 dX11_duel_150 rfl ?_
                    refine m_aload_n C 0 dX11_duel_152 rfl ?_
                    refine gfX11_7 C dX11_duel_153 ?_
                    refine m_iconst C 0 dX11_duel_156 (by decide +kernel) ?_
                    refine m_iald C 65 (by decide) sa_65 0 rfl (by omega) (by decide) dX11_duel_157 ?_
                    refine m_topi (nI (z_N z)) h650 ?_
                    refine m_icmp_ge C 178 dX11_duel_158 (by decide) (fun hh49 => ?_) (fun hh49 => ?_)
                    · replace hh49 := (ii_le (nn_i (a := z_N z) rfl (by omega)) (nn_i (a := i) rfl (by omega))).mp hh49
                      have eiN : i = z_N z := by omega
                      rw [eiN] at hsk hall
                      obtain ⟨v, hav, hv9, hVd⟩ := di_end hdi0 hdlt (by omega) hwf.1 hsk hall
                      refine m_aload_n C 0 dX11_duel_178 rfl ?_
                      refine gfX11_47 C dX11_duel_179 ?_
                      refine m_iload C 5 dX11_duel_182 rfl ?_
                      refine m_topi (nI d) hatd ?_
                      refine m_iload C 8 dX11_duel_184 rfl ?_
                      refine m_iast C 76 (by decide) sa_76 d rfl (by omega) (by decide) dX11_duel_186 ?_
                      refine m_nameM (fun mu50 emu50 => ?_)
                      have hva2 : zm mu50 (z_V z) := zm_65 hvm (by rw [emu50, mu_up_ne (by decide)])
                      refine m_iload C 8 dX11_duel_187 rfl ?_
                      refine m_aload_n C 0 dX11_duel_189 rfl ?_
                      refine gfX11_7 C dX11_duel_190 ?_
                      refine m_iconst C 0 dX11_duel_193 (by decide +kernel) ?_
                      refine m_iald C 65 (by decide) sa_65 0 rfl (by omega) (by decide) dX11_duel_194 ?_
                      refine m_topi (nI (z_N z)) ((by rw [emu50, mu_up_ne (by decide)]; exact h650)) ?_
                      refine m_icmp_lt C 202 dX11_duel_195 (by decide) (fun hh51 => absurd hh51 (mt (ii_lt (nn_i (a := i) rfl (by omega)) (nn_i (a := z_N z) rfl (by omega))).mp (by omega))) (fun _ => ?_)
                      refine m_iconst C 1 dX11_duel_198 (by decide +kernel) ?_
                      refine m_goto C 203 dX11_duel_199 (by decide) ?_
                      refine m_istore C [(7, .int 1), (0, .ref (G.1 64)), (1, .int n), (2, .int k), (3, .int (nI ((z_N z) - (v_m (z_V z))))), (4, .int (nI L)), (5, .int at_), (6, .int va), (8, .int (nI i))] dX11_duel_203 (by decide) rfl ?_
                      refine m_aload_n C 1 dX11_duel_205 rfl ?_
                      refine gfX11_53 C dX11_duel_206 ?_
                      refine m_iload C 6 dX11_duel_209 rfl ?_
                      refine m_topi (nI d) hatd ?_
                      refine m_iald C 78 (by decide) sa_78 d rfl (by omega) (by decide) dX11_duel_211 ?_
                      refine m_topi (nI v) (by rw [emu50, mu_up_ne (by decide), k3, hav]; rfl) ?_
                      refine m_istore C [(6, .int (nI v)), (7, .int 1), (0, .ref (G.1 64)), (1, .int n), (2, .int k), (3, .int (nI ((z_N z) - (v_m (z_V z))))), (4, .int (nI L)), (5, .int at_), (8, .int (nI i))] dX11_duel_212 (by decide) rfl ?_
                      refine m_iload C 1 dX11_duel_214 rfl ?_
                      refine m_if_ne C 272 dX11_duel_216 (by decide) (fun _ => ?_) (fun h => absurd h (by decide))
                      refine m_iload C 1 dX11_duel_272 rfl ?_
                      rcases Nat.eq_zero_or_pos d with hd0 | hd0
                      · skip
                        have hm0 : d_M (z_N z) L [] 0 0 < d_M (z_N z) L Y j (d + 1) := by rw [hd0]; exact dm_1
                        refine m_if_eq C 360 dX11_duel_274 (by decide) (fun h => absurd h (by decide)) (fun _ => ?_)
                        refine m_iinc C 7 ((-1)) [(5, .int ((-1))), (6, .int (nI v)), (7, .int 1), (0, .ref (G.1 64)), (1, .int n), (2, .int k), (3, .int (nI ((z_N z) - (v_m (z_V z))))), (4, .int (nI L)), (8, .int (nI i))] dX11_duel_277 rfl (by rw [hatd, hd0]; decide +kernel) (by decide) rfl ?_
                        refine m_iload C 0 dX11_duel_280 rfl ?_
                        refine m_if_lt C 360 dX11_duel_282 (by decide) (fun _ => ?_) (fun h => absurd (by decide) h)
                        refine m_goto C 103 dX11_duel_360 (by decide) ?_
                        exact m_sub [3, 4, 5, 6, 7, 0, 1] rfl (ih103 0 ([]) A none 0 ((-1)) (nI v) mu50 (by decide) (fun _ => by rw [hVd, hd0]; rfl) (fun c q1 q2 q3 => by rw [emu50, mu_up_ne q1]; exact hF c q1 q2 q3) (by omega))
                      · skip
                        refine m_if_eq C 360 dX11_duel_274 (by decide) (fun h => absurd h (by decide)) (fun _ => ?_)
                        refine m_iinc C 7 (nI (d - 1)) [(5, .int (nI (d - 1))), (6, .int (nI v)), (7, .int 1), (0, .ref (G.1 64)), (1, .int n), (2, .int k), (3, .int (nI ((z_N z) - (v_m (z_V z))))), (4, .int (nI L)), (8, .int (nI i))] dX11_duel_277 rfl (by rw [hatd]; exact dec_nat (by omega)) (by decide) rfl ?_
                        refine m_iload C 0 dX11_duel_280 rfl ?_
                        refine m_if_lt C 360 dX11_duel_282 (by decide) (fun hh52 => absurd hh52 (mt (ii_lt (nn_i (a := d - 1) rfl (by omega)) (nn_i (a := 0) rfl (by omega))).mp (by omega))) (fun _ => ?_)
                        refine m_aload_n C 3 dX11_duel_285 rfl ?_
                        refine gfX11_53 C dX11_duel_286 ?_
                        refine m_iload C 0 dX11_duel_289 rfl ?_
                        refine m_iald C 78 (by decide) sa_78 (d - 1) rfl (by omega) (by decide) dX11_duel_291 ?_
                        obtain ⟨hA1, hA2⟩ := h78 (d - 1) (by omega)
                        have hA1m : mu50 78 (d - 1) = d_en (A (d - 1)) := (by rw [emu50, mu_up_ne (by decide)]; exact hA1)
                        rcases hA : A (d - 1) with _ | u
                        · skip
                          have hA1n : mu50 78 (d - 1) = -1 := by rw [hA1m, hA]; rfl
                          refine m_topi (-1) hA1n ?_
                          refine m_if_lt C 329 dX11_duel_292 (by decide) (fun _ => ?_) (fun h => absurd (by decide) h)
                          refine m_iconst C 1 dX11_duel_329 (by decide +kernel) ?_
                          refine m_goto C 334 dX11_duel_330 (by decide) ?_
                          refine m_istore C [(8, .int 1), (5, .int (nI (d - 1))), (6, .int (nI v)), (7, .int 1), (0, .ref (G.1 64)), (1, .int n), (2, .int k), (3, .int (nI ((z_N z) - (v_m (z_V z))))), (4, .int (nI L))] dX11_duel_334 (by decide) rfl ?_
                          refine m_aload_n C 4 dX11_duel_336 rfl ?_
                          refine gfX11_53 C dX11_duel_337 ?_
                          refine m_iload C 1 dX11_duel_340 rfl ?_
                          refine m_iload C 0 dX11_duel_342 rfl ?_
                          refine m_if_eq C 352 dX11_duel_344 (by decide) (fun h => absurd h (by decide)) (fun _ => ?_)
                          refine m_iload C 2 dX11_duel_347 rfl ?_
                          refine m_goto C 359 dX11_duel_349 (by decide) ?_
                          refine m_iast C 78 (by decide) sa_78 (d - 1) rfl (by omega) (by decide) dX11_duel_359 ?_
                          refine m_nameM (fun mu53 emu53 => ?_)
                          have hst : nI v = d_en (s_mx (d_b (d - 1)) (A (d - 1)) (v)) := by rw [hA]; rfl
                          have hup := di_up (ma := mu50) (mb := mu53) (v := v) hdi0 hzN (by omega) hVd hv9 (fun e he => by rw [emu50, mu_up_an (by omega)]) (by rw [emu50, mu_up_ne (by decide)]) (by rw [emu50, mu_up_ne (by decide)]) (fun c q1 q2 q3 => by rw [emu50, mu_up_ne q1]; exact hF c q1 q2 q3) (by rw [emu53, ← hst])
                          refine m_goto C 103 dX11_duel_360 (by decide) ?_
                          exact m_sub [4, 5, 6, 7, 8, 1, 2] rfl (ih103 d Y.dropLast A (s_mx (d_b (d - 1)) (A (d - 1)) (v)) (Y.getD (d - 1) 0 + 1) (nI (d - 1)) (nI v) mu53 (di_dec (by omega)) (fun h => absurd h (by omega)) hup.1 (by omega))
                        · skip
                          have hA1s : mu50 78 (d - 1) = nI u := by rw [hA1m, hA]; rfl
                          have hu9 : u ≤ 90000000 := hA2 u hA
                          refine m_topi (nI u) hA1s ?_
                          refine m_if_lt C 329 dX11_duel_292 (by decide) (fun hh54 => absurd hh54 (mt (ii_lt (nn_i (a := u) rfl (by omega)) (nn_i (a := 0) rfl (by omega))).mp (by omega))) (fun _ => ?_)
                          refine m_iload C 0 dX11_duel_295 rfl ?_
                          refine m_iconst C 2 dX11_duel_297 (by decide +kernel) ?_
                          refine m_irem C dX11_duel_298 (by decide) ?_
                          refine m_topi (nI ((d - 1) % 2)) (nn_rem rfl rfl (by omega) (by omega) (by omega)) ?_
                          refine m_if_ne C 317 dX11_duel_299 (by decide) (fun hh55 => ?_) (fun hh55 => ?_)
                          · replace hh55 := mt (ii_eq (nn_i (a := (d - 1) % 2) rfl (by omega)) (nn_i (a := 0) rfl (by omega))).mpr hh55
                            refine m_iload C 1 dX11_duel_317 rfl ?_
                            refine m_aload_n C 3 dX11_duel_319 rfl ?_
                            refine gfX11_53 C dX11_duel_320 ?_
                            refine m_iload C 0 dX11_duel_323 rfl ?_
                            refine m_iald C 78 (by decide) sa_78 (d - 1) rfl (by omega) (by decide) dX11_duel_325 ?_
                            refine m_topi (nI u) hA1s ?_
                            refine m_icmp_ge C 333 dX11_duel_326 (by decide) (fun hh56 => ?_) (fun hh56 => ?_)
                            · replace hh56 := (ii_le (nn_i (a := u) rfl (by omega)) (nn_i (a := v) rfl (by omega))).mp hh56
                              refine m_iconst C 0 dX11_duel_333 (by decide +kernel) ?_
                              refine m_istore C [(8, .int 0), (5, .int (nI (d - 1))), (6, .int (nI v)), (7, .int 1), (0, .ref (G.1 64)), (1, .int n), (2, .int k), (3, .int (nI ((z_N z) - (v_m (z_V z))))), (4, .int (nI L))] dX11_duel_334 (by decide) rfl ?_
                              refine m_aload_n C 4 dX11_duel_336 rfl ?_
                              refine gfX11_53 C dX11_duel_337 ?_
                              refine m_iload C 1 dX11_duel_340 rfl ?_
                              refine m_iload C 0 dX11_duel_342 rfl ?_
                              refine m_if_eq C 352 dX11_duel_344 (by decide) (fun _ => ?_) (fun h => absurd (by decide) h)
                              refine m_aload_n C 4 dX11_duel_352 rfl ?_
                              refine gfX11_53 C dX11_duel_353 ?_
                              refine m_iload C 1 dX11_duel_356 rfl ?_
                              refine m_iald C 78 (by decide) sa_78 (d - 1) rfl (by omega) (by decide) dX11_duel_358 ?_
                              refine m_topi (nI u) hA1s ?_
                              refine m_iast C 78 (by decide) sa_78 (d - 1) rfl (by omega) (by decide) dX11_duel_359 ?_
                              refine m_nameM (fun mu57 emu57 => ?_)
                              have hst : nI u = d_en (s_mx (d_b (d - 1)) (A (d - 1)) (v)) := by rw [hA, mx_o0 (db_f (by omega)) (by omega)]; rfl
                              have hup := di_up (ma := mu50) (mb := mu57) (v := v) hdi0 hzN (by omega) hVd hv9 (fun e he => by rw [emu50, mu_up_an (by omega)]) (by rw [emu50, mu_up_ne (by decide)]) (by rw [emu50, mu_up_ne (by decide)]) (fun c q1 q2 q3 => by rw [emu50, mu_up_ne q1]; exact hF c q1 q2 q3) (by rw [emu57, ← hst])
                              refine m_goto C 103 dX11_duel_360 (by decide) ?_
                              exact m_sub [4, 5, 6, 7, 8, 1, 2] rfl (ih103 d Y.dropLast A (s_mx (d_b (d - 1)) (A (d - 1)) (v)) (Y.getD (d - 1) 0 + 1) (nI (d - 1)) (nI v) mu57 (di_dec (by omega)) (fun h => absurd h (by omega)) hup.1 (by omega))
                            replace hh56 := mt (ii_le (nn_i (a := u) rfl (by omega)) (nn_i (a := v) rfl (by omega))).mpr hh56
                            refine m_iconst C 1 dX11_duel_329 (by decide +kernel) ?_
                            refine m_goto C 334 dX11_duel_330 (by decide) ?_
                            refine m_istore C [(8, .int 1), (5, .int (nI (d - 1))), (6, .int (nI v)), (7, .int 1), (0, .ref (G.1 64)), (1, .int n), (2, .int k), (3, .int (nI ((z_N z) - (v_m (z_V z))))), (4, .int (nI L))] dX11_duel_334 (by decide) rfl ?_
                            refine m_aload_n C 4 dX11_duel_336 rfl ?_
                            refine gfX11_53 C dX11_duel_337 ?_
                            refine m_iload C 1 dX11_duel_340 rfl ?_
                            refine m_iload C 0 dX11_duel_342 rfl ?_
                            refine m_if_eq C 352 dX11_duel_344 (by decide) (fun h => absurd h (by decide)) (fun _ => ?_)
                            refine m_iload C 2 dX11_duel_347 rfl ?_
                            refine m_goto C 359 dX11_duel_349 (by decide) ?_
                            refine m_iast C 78 (by decide) sa_78 (d - 1) rfl (by omega) (by decide) dX11_duel_359 ?_
                            refine m_nameM (fun mu58 emu58 => ?_)
                            have hst : nI v = d_en (s_mx (d_b (d - 1)) (A (d - 1)) (v)) := by rw [hA, mx_o1 (db_f (by omega)) (by omega)]; rfl
                            have hup := di_up (ma := mu50) (mb := mu58) (v := v) hdi0 hzN (by omega) hVd hv9 (fun e he => by rw [emu50, mu_up_an (by omega)]) (by rw [emu50, mu_up_ne (by decide)]) (by rw [emu50, mu_up_ne (by decide)]) (fun c q1 q2 q3 => by rw [emu50, mu_up_ne q1]; exact hF c q1 q2 q3) (by rw [emu58, ← hst])
                            refine m_goto C 103 dX11_duel_360 (by decide) ?_
                            exact m_sub [4, 5, 6, 7, 8, 1, 2] rfl (ih103 d Y.dropLast A (s_mx (d_b (d - 1)) (A (d - 1)) (v)) (Y.getD (d - 1) 0 + 1) (nI (d - 1)) (nI v) mu58 (di_dec (by omega)) (fun h => absurd h (by omega)) hup.1 (by omega))
                          replace hh55 := (ii_eq (nn_i (a := (d - 1) % 2) rfl (by omega)) (nn_i (a := 0) rfl (by omega))).mp hh55
                          refine m_iload C 1 dX11_duel_302 rfl ?_
                          refine m_aload_n C 3 dX11_duel_304 rfl ?_
                          refine gfX11_53 C dX11_duel_305 ?_
                          refine m_iload C 0 dX11_duel_308 rfl ?_
                          refine m_iald C 78 (by decide) sa_78 (d - 1) rfl (by omega) (by decide) dX11_duel_310 ?_
                          refine m_topi (nI u) hA1s ?_
                          refine m_icmp_le C 333 dX11_duel_311 (by decide) (fun hh59 => ?_) (fun hh59 => ?_)
                          · replace hh59 := (ii_le (nn_i (a := v) rfl (by omega)) (nn_i (a := u) rfl (by omega))).mp hh59
                            refine m_iconst C 0 dX11_duel_333 (by decide +kernel) ?_
                            refine m_istore C [(8, .int 0), (5, .int (nI (d - 1))), (6, .int (nI v)), (7, .int 1), (0, .ref (G.1 64)), (1, .int n), (2, .int k), (3, .int (nI ((z_N z) - (v_m (z_V z))))), (4, .int (nI L))] dX11_duel_334 (by decide) rfl ?_
                            refine m_aload_n C 4 dX11_duel_336 rfl ?_
                            refine gfX11_53 C dX11_duel_337 ?_
                            refine m_iload C 1 dX11_duel_340 rfl ?_
                            refine m_iload C 0 dX11_duel_342 rfl ?_
                            refine m_if_eq C 352 dX11_duel_344 (by decide) (fun _ => ?_) (fun h => absurd (by decide) h)
                            refine m_aload_n C 4 dX11_duel_352 rfl ?_
                            refine gfX11_53 C dX11_duel_353 ?_
                            refine m_iload C 1 dX11_duel_356 rfl ?_
                            refine m_iald C 78 (by decide) sa_78 (d - 1) rfl (by omega) (by decide) dX11_duel_358 ?_
                            refine m_topi (nI u) hA1s ?_
                            refine m_iast C 78 (by decide) sa_78 (d - 1) rfl (by omega) (by decide) dX11_duel_359 ?_
                            refine m_nameM (fun mu60 emu60 => ?_)
                            have hst : nI u = d_en (s_mx (d_b (d - 1)) (A (d - 1)) (v)) := by rw [hA, mx_e0 (db_t (by omega)) (by omega)]; rfl
                            have hup := di_up (ma := mu50) (mb := mu60) (v := v) hdi0 hzN (by omega) hVd hv9 (fun e he => by rw [emu50, mu_up_an (by omega)]) (by rw [emu50, mu_up_ne (by decide)]) (by rw [emu50, mu_up_ne (by decide)]) (fun c q1 q2 q3 => by rw [emu50, mu_up_ne q1]; exact hF c q1 q2 q3) (by rw [emu60, ← hst])
                            refine m_goto C 103 dX11_duel_360 (by decide) ?_
                            exact m_sub [4, 5, 6, 7, 8, 1, 2] rfl (ih103 d Y.dropLast A (s_mx (d_b (d - 1)) (A (d - 1)) (v)) (Y.getD (d - 1) 0 + 1) (nI (d - 1)) (nI v) mu60 (di_dec (by omega)) (fun h => absurd h (by omega)) hup.1 (by omega))
                          replace hh59 := mt (ii_le (nn_i (a := v) rfl (by omega)) (nn_i (a := u) rfl (by omega))).mpr hh59
                          refine m_goto C 329 dX11_duel_314 (by decide) ?_
                          refine m_iconst C 1 dX11_duel_329 (by decide +kernel) ?_
                          refine m_goto C 334 dX11_duel_330 (by decide) ?_
                          refine m_istore C [(8, .int 1), (5, .int (nI (d - 1))), (6, .int (nI v)), (7, .int 1), (0, .ref (G.1 64)), (1, .int n), (2, .int k), (3, .int (nI ((z_N z) - (v_m (z_V z))))), (4, .int (nI L))] dX11_duel_334 (by decide) rfl ?_
                          refine m_aload_n C 4 dX11_duel_336 rfl ?_
                          refine gfX11_53 C dX11_duel_337 ?_
                          refine m_iload C 1 dX11_duel_340 rfl ?_
                          refine m_iload C 0 dX11_duel_342 rfl ?_
                          refine m_if_eq C 352 dX11_duel_344 (by decide) (fun h => absurd h (by decide)) (fun _ => ?_)
                          refine m_iload C 2 dX11_duel_347 rfl ?_
                          refine m_goto C 359 dX11_duel_349 (by decide) ?_
                          refine m_iast C 78 (by decide) sa_78 (d - 1) rfl (by omega) (by decide) dX11_duel_359 ?_
                          refine m_nameM (fun mu61 emu61 => ?_)
                          have hst : nI v = d_en (s_mx (d_b (d - 1)) (A (d - 1)) (v)) := by rw [hA, mx_e1 (db_t (by omega)) (by omega)]; rfl
                          have hup := di_up (ma := mu50) (mb := mu61) (v := v) hdi0 hzN (by omega) hVd hv9 (fun e he => by rw [emu50, mu_up_an (by omega)]) (by rw [emu50, mu_up_ne (by decide)]) (by rw [emu50, mu_up_ne (by decide)]) (fun c q1 q2 q3 => by rw [emu50, mu_up_ne q1]; exact hF c q1 q2 q3) (by rw [emu61, ← hst])
                          refine m_goto C 103 dX11_duel_360 (by decide) ?_
                          exact m_sub [4, 5, 6, 7, 8, 1, 2] rfl (ih103 d Y.dropLast A (s_mx (d_b (d - 1)) (A (d - 1)) (v)) (Y.getD (d - 1) 0 + 1) (nI (d - 1)) (nI v) mu61 (di_dec (by omega)) (fun h => absurd h (by omega)) hup.1 (by omega))
                    replace hh49 := mt (ii_le (nn_i (a := z_N z) rfl (by omega)) (nn_i (a := i) rfl (by omega))).mpr hh49
                    refine m_aload_n C 0 dX11_duel_161 rfl ?_
                    refine m_iload C 8 dX11_duel_162 rfl ?_
                    refine m_iload C 5 dX11_duel_164 rfl ?_
                    refine m_topi (nI d) hatd ?_
                    refine m_callVf C 64 (by decide) rfl rfl (c_X11_isLaidOr l G m nu (z_V z) hvm Y d hCl (by omega) h76 (fun x hx => by have := hCx x hx; omega) i (by omega)) wkX11_209 (by decide) rfl rfl (Nat.le_of_ble_eq_true rfl) dX11_duel_166 ?_
                    refine m_if_eq C 178 dX11_duel_169 (by decide) (fun hh62 => ?_) (fun hh62 => ?_)
                    · replace hh62 := bI_eq0.mp hh62
                      have hnl : ¬ i ∈ (z_B z).1 ++ Y := hh62
                      refine m_aload_n C 0 dX11_duel_178 rfl ?_
                      refine gfX11_47 C dX11_duel_179 ?_
                      refine m_iload C 5 dX11_duel_182 rfl ?_
                      refine m_topi (nI d) hatd ?_
                      refine m_iload C 8 dX11_duel_184 rfl ?_
                      refine m_iast C 76 (by decide) sa_76 d rfl (by omega) (by decide) dX11_duel_186 ?_
                      refine m_nameM (fun mu63 emu63 => ?_)
                      have hva2 : zm mu63 (z_V z) := zm_65 hvm (by rw [emu63, mu_up_ne (by decide)])
                      refine m_iload C 8 dX11_duel_187 rfl ?_
                      refine m_aload_n C 0 dX11_duel_189 rfl ?_
                      refine gfX11_7 C dX11_duel_190 ?_
                      refine m_iconst C 0 dX11_duel_193 (by decide +kernel) ?_
                      refine m_iald C 65 (by decide) sa_65 0 rfl (by omega) (by decide) dX11_duel_194 ?_
                      refine m_topi (nI (z_N z)) ((by rw [emu63, mu_up_ne (by decide)]; exact h650)) ?_
                      refine m_icmp_lt C 202 dX11_duel_195 (by decide) (fun _ => ?_) (fun hh64 => absurd ((ii_lt (nn_i (a := i) rfl (by omega)) (nn_i (a := z_N z) rfl (by omega))).mpr (by omega)) hh64)
                      refine m_iconst C 0 dX11_duel_202 (by decide +kernel) ?_
                      refine m_istore C [(7, .int 0), (0, .ref (G.1 64)), (1, .int n), (2, .int k), (3, .int (nI ((z_N z) - (v_m (z_V z))))), (4, .int (nI L)), (5, .int at_), (6, .int va), (8, .int (nI i))] dX11_duel_203 (by decide) rfl ?_
                      refine m_aload_n C 1 dX11_duel_205 rfl ?_
                      refine gfX11_53 C dX11_duel_206 ?_
                      refine m_iload C 6 dX11_duel_209 rfl ?_
                      refine m_topi (nI d) hatd ?_
                      refine m_iald C 78 (by decide) sa_78 d rfl (by omega) (by decide) dX11_duel_211 ?_
                      refine m_istore C [(6, .int (mu63 78 d)), (7, .int 0), (0, .ref (G.1 64)), (1, .int n), (2, .int k), (3, .int (nI ((z_N z) - (v_m (z_V z))))), (4, .int (nI L)), (5, .int at_), (8, .int (nI i))] dX11_duel_212 (by decide) rfl ?_
                      refine m_iload C 1 dX11_duel_214 rfl ?_
                      refine m_if_ne C 272 dX11_duel_216 (by decide) (fun h => absurd h (by decide)) (fun _ => ?_)
                      refine m_aload_n C 2 dX11_duel_219 rfl ?_
                      refine gfX11_50 C dX11_duel_220 ?_
                      refine m_iload C 7 dX11_duel_223 rfl ?_
                      refine m_topi (nI d) hatd ?_
                      refine m_iconst C 1 dX11_duel_225 (by decide +kernel) ?_
                      refine m_iadd C dX11_duel_226 ?_
                      refine m_topi (nI (d + 1)) (nn_add rfl rfl) ?_
                      refine m_bipush C 10 dX11_duel_227 (by decide +kernel) ?_
                      refine m_aload_n C 2 dX11_duel_229 rfl ?_
                      refine gfX11_50 C dX11_duel_230 ?_
                      refine m_iload C 7 dX11_duel_233 rfl ?_
                      refine m_topi (nI d) hatd ?_
                      refine m_iald C 77 (by decide) sa_77 d rfl (by omega) (by decide) dX11_duel_235 ?_
                      refine m_topi (nI (d_r (fun i => v_sh (z_V z) i (ix k)) r0 Y)) (by rw [emu63, mu_up_ne (by decide)]; exact hrC) ?_
                      refine m_imul C dX11_duel_236 ?_
                      refine m_topi (nI (10 * (d_r (fun i => v_sh (z_V z) i (ix k)) r0 Y))) (nn_mul rfl rfl) ?_
                      refine m_aload_n C 2 dX11_duel_237 rfl ?_
                      refine m_iload C 8 dX11_duel_238 rfl ?_
                      refine m_iload_n C 4 dX11_duel_240 rfl ?_
                      refine m_topi (nI (ix k)) ek ?_
                      refine m_callVf C 64 (by decide) rfl rfl (c_X11_showsOf l G mu63 nu (z_V z) hva2 i (by omega) (ix k) (by omega) (by omega)) wkX11_142 (by decide) rfl rfl (Nat.le_of_ble_eq_true rfl) dX11_duel_241 ?_
                      refine m_iadd C dX11_duel_244 ?_
                      refine m_topi (nI ((10 * (d_r (fun i => v_sh (z_V z) i (ix k)) r0 Y)) + (v_sh (z_V z) i (ix k)))) (nn_add rfl rfl) ?_
                      refine m_iast C 77 (by decide) sa_77 (d + 1) rfl (by omega) (by decide) dX11_duel_245 ?_
                      refine m_nameM (fun mu65 emu65 => ?_)
                      refine m_iinc C 7 (nI (d + 1)) [(5, .int (nI (d + 1))), (6, .int (mu63 78 d)), (7, .int 0), (0, .ref (G.1 64)), (1, .int n), (2, .int k), (3, .int (nI ((z_N z) - (v_m (z_V z))))), (4, .int (nI L)), (8, .int (nI i))] dX11_duel_246 rfl (nn_add hatd (show Int32.ofInt 1 = nI 1 from rfl)) (by decide) rfl ?_
                      refine m_iload C 0 dX11_duel_249 rfl ?_
                      refine m_iload C 7 dX11_duel_251 rfl ?_
                      refine m_icmp_ge C 272 dX11_duel_253 (by decide) (fun hh66 => ?_) (fun hh66 => ?_)
                      · replace hh66 := (ii_le (nn_i (a := L) rfl (by omega)) (nn_i (a := d + 1) rfl (by omega))).mp hh66
                        have hdn := di_down (m3 := mu65) (i := i) hdi0 hdlt hsk hji (by omega) hnl (fun e he => by rw [emu65, mu_up_ne (by decide), emu63, mu_up_an (by omega)]) (by rw [emu65, mu_up_ne (by decide), emu63, mu_up_at]) (fun e he => by rw [emu65, mu_up_an (by omega), emu63, mu_up_ne (by decide)]) (by rw [emu65, mu_up_at]) (fun e he => by rw [emu65, mu_up_ne (by decide), emu63, mu_up_ne (by decide)]) (fun h => absurd h (by omega)) (fun c q1 q2 q3 => by rw [emu65, mu_up_ne q2, emu63, mu_up_ne q1]; exact hF c q1 q2 q3)
                        refine m_iload C 2 dX11_duel_272 rfl ?_
                        refine m_if_eq C 360 dX11_duel_274 (by decide) (fun _ => ?_) (fun h => absurd (by decide) h)
                        refine m_goto C 103 dX11_duel_360 (by decide) ?_
                        exact m_sub [3, 4, 5, 6, 7, 0, 1] rfl (ih103 (d + 2) (Y ++ [i]) ((fun e => if e = Y.length then a else A e)) none 0 (nI (d + 1)) (mu63 78 d) mu65 (by rw [show d + 2 = (d + 1) + 1 from rfl, nI_pred]) (fun h => absurd h (by omega)) hdn.1 (by omega))
                      replace hh66 := mt (ii_le (nn_i (a := L) rfl (by omega)) (nn_i (a := d + 1) rfl (by omega))).mpr hh66
                      refine m_aload_n C 3 dX11_duel_256 rfl ?_
                      refine gfX11_47 C dX11_duel_257 ?_
                      refine m_iload C 0 dX11_duel_260 rfl ?_
                      refine m_iconst C (-1) dX11_duel_262 (by decide +kernel) ?_
                      refine m_iast C 76 (by decide) sa_76 (d + 1) rfl (by omega) (by decide) dX11_duel_263 ?_
                      refine m_nameM (fun mu67 emu67 => ?_)
                      refine m_aload_n C 3 dX11_duel_264 rfl ?_
                      refine gfX11_53 C dX11_duel_265 ?_
                      refine m_iload C 0 dX11_duel_268 rfl ?_
                      refine m_iconst C (-1) dX11_duel_270 (by decide +kernel) ?_
                      refine m_iast C 78 (by decide) sa_78 (d + 1) rfl (by omega) (by decide) dX11_duel_271 ?_
                      refine m_nameM (fun mu68 emu68 => ?_)
                      have hdn := di_down (m3 := mu68) (i := i) hdi0 hdlt hsk hji (by omega) hnl (fun e he => by rw [emu68, mu_up_ne (by decide), emu67, mu_up_an (by omega), emu65, mu_up_ne (by decide), emu63, mu_up_an (by omega)]) (by rw [emu68, mu_up_ne (by decide), emu67, mu_up_an (by omega), emu65, mu_up_ne (by decide), emu63, mu_up_at]) (fun e he => by rw [emu68, mu_up_ne (by decide), emu67, mu_up_ne (by decide), emu65, mu_up_an (by omega), emu63, mu_up_ne (by decide)]) (by rw [emu68, mu_up_ne (by decide), emu67, mu_up_ne (by decide), emu65, mu_up_at]) (fun e he => by rw [emu68, mu_up_an (by omega), emu67, mu_up_ne (by decide), emu65, mu_up_ne (by decide), emu63, mu_up_ne (by decide)]) (fun _ => ⟨by rw [emu68, mu_up_ne (by decide), emu67, mu_up_at], by rw [emu68, mu_up_at]⟩) (fun c q1 q2 q3 => by rw [emu68, mu_up_ne q3, emu67, mu_up_ne q1, emu65, mu_up_ne q2, emu63, mu_up_ne q1]; exact hF c q1 q2 q3)
                      refine m_iload C 2 dX11_duel_272 rfl ?_
                      refine m_if_eq C 360 dX11_duel_274 (by decide) (fun _ => ?_) (fun h => absurd (by decide) h)
                      refine m_goto C 103 dX11_duel_360 (by decide) ?_
                      exact m_sub [3, 4, 5, 6, 7, 0, 1] rfl (ih103 (d + 2) (Y ++ [i]) ((fun e => if e = Y.length then a else A e)) none 0 (nI (d + 1)) (mu63 78 d) mu68 (by rw [show d + 2 = (d + 1) + 1 from rfl, nI_pred]) (fun h => absurd h (by omega)) hdn.1 (by omega))
                    replace hh62 := bI_ne0.mp hh62
                    have hil : i ∈ (z_B z).1 ++ Y := hh62
                    refine m_iinc C 8 (nI (i + 1)) [(8, .int (nI (i + 1))), (0, .ref (G.1 64)), (1, .int n), (2, .int k), (3, .int (nI ((z_N z) - (v_m (z_V z))))), (4, .int (nI L)), (5, .int at_), (6, .int va), (7, .int 0)] dX11_duel_172 rfl (nn_add rfl (show Int32.ofInt 1 = nI 1 from rfl)) (by decide) rfl ?_
                    refine m_goto C 150 dX11_duel_175 (by decide) ?_
                    exact m_sub [1, 2, 3, 4, 5, 6, 7, 8, 0] rfl (ih150 (i + 1) (by omega) (by omega) (hsk.trans ((lv_step (by omega)).trans (by rw [if_pos hil]))) (fun hn q hq => by
                              by_cases e : q = i
                              · rw [e]; exact hil
                              · exact hall hn q (by omega)) (by omega))
                exact m_sub [2, 3, 4, 5, 6, 7, 8, 1, 0] rfl (L150 (_ + 1) j (Nat.le_refl _) k2 rfl k5 (Nat.lt_succ_self _))
              replace hh48 := (ii_eq (nn_i (a := d) rfl (by omega)) (nn_i (a := L) rfl (by omega))).mp hh48
              have hdL2 : d = L := by omega
              have hd1 : 1 ≤ d := by omega
              have hVd : Vs = d_up (z_N z) (fun i => v_sh (z_V z) i (ix k)) L (z_B z).1 r0 Y A d (d_r (fun i => v_sh (z_V z) i (ix k)) r0 Y) := htop hdL2
              have hv9 := hdr9
              refine m_iconst C 1 dX11_duel_115 (by decide +kernel) ?_
              refine m_goto C 120 dX11_duel_116 (by decide) ?_
              refine m_istore C [(7, .int 1), (0, .ref (G.1 64)), (1, .int n), (2, .int k), (3, .int (nI ((z_N z) - (v_m (z_V z))))), (4, .int (nI L)), (5, .int at_), (6, .int va)] dX11_duel_120 (by decide) rfl ?_
              refine m_iload C 0 dX11_duel_122 rfl ?_
              refine m_if_eq C 139 dX11_duel_124 (by decide) (fun h => absurd h (by decide)) (fun _ => ?_)
              refine m_aload_n C 1 dX11_duel_127 rfl ?_
              refine gfX11_50 C dX11_duel_128 ?_
              refine m_iload C 6 dX11_duel_131 rfl ?_
              refine m_topi (nI d) hatd ?_
              refine m_iald C 77 (by decide) sa_77 d rfl (by omega) (by decide) dX11_duel_133 ?_
              refine m_topi (nI (d_r (fun i => v_sh (z_V z) i (ix k)) r0 Y)) hrC ?_
              refine m_istore C [(6, .int (nI (d_r (fun i => v_sh (z_V z) i (ix k)) r0 Y))), (7, .int 1), (0, .ref (G.1 64)), (1, .int n), (2, .int k), (3, .int (nI ((z_N z) - (v_m (z_V z))))), (4, .int (nI L)), (5, .int at_)] dX11_duel_134 (by decide) rfl ?_
              refine m_goto C 272 dX11_duel_136 (by decide) ?_
              refine m_iload C 1 dX11_duel_272 rfl ?_
              refine m_if_eq C 360 dX11_duel_274 (by decide) (fun h => absurd h (by decide)) (fun _ => ?_)
              refine m_iinc C 7 (nI (d - 1)) [(5, .int (nI (d - 1))), (6, .int (nI (d_r (fun i => v_sh (z_V z) i (ix k)) r0 Y))), (7, .int 1), (0, .ref (G.1 64)), (1, .int n), (2, .int k), (3, .int (nI ((z_N z) - (v_m (z_V z))))), (4, .int (nI L))] dX11_duel_277 rfl (by rw [hatd]; exact dec_nat (by omega)) (by decide) rfl ?_
              refine m_iload C 0 dX11_duel_280 rfl ?_
              refine m_if_lt C 360 dX11_duel_282 (by decide) (fun hh69 => absurd hh69 (mt (ii_lt (nn_i (a := d - 1) rfl (by omega)) (nn_i (a := 0) rfl (by omega))).mp (by omega))) (fun _ => ?_)
              refine m_aload_n C 3 dX11_duel_285 rfl ?_
              refine gfX11_53 C dX11_duel_286 ?_
              refine m_iload C 0 dX11_duel_289 rfl ?_
              refine m_iald C 78 (by decide) sa_78 (d - 1) rfl (by omega) (by decide) dX11_duel_291 ?_
              obtain ⟨hA1, hA2⟩ := h78 (d - 1) (by omega)
              have hA1m : m 78 (d - 1) = d_en (A (d - 1)) := hA1
              rcases hA : A (d - 1) with _ | u
              · skip
                have hA1n : m 78 (d - 1) = -1 := by rw [hA1m, hA]; rfl
                refine m_topi (-1) hA1n ?_
                refine m_if_lt C 329 dX11_duel_292 (by decide) (fun _ => ?_) (fun h => absurd (by decide) h)
                refine m_iconst C 1 dX11_duel_329 (by decide +kernel) ?_
                refine m_goto C 334 dX11_duel_330 (by decide) ?_
                refine m_istore C [(8, .int 1), (5, .int (nI (d - 1))), (6, .int (nI (d_r (fun i => v_sh (z_V z) i (ix k)) r0 Y))), (7, .int 1), (0, .ref (G.1 64)), (1, .int n), (2, .int k), (3, .int (nI ((z_N z) - (v_m (z_V z))))), (4, .int (nI L))] dX11_duel_334 (by decide) rfl ?_
                refine m_aload_n C 4 dX11_duel_336 rfl ?_
                refine gfX11_53 C dX11_duel_337 ?_
                refine m_iload C 1 dX11_duel_340 rfl ?_
                refine m_iload C 0 dX11_duel_342 rfl ?_
                refine m_if_eq C 352 dX11_duel_344 (by decide) (fun h => absurd h (by decide)) (fun _ => ?_)
                refine m_iload C 2 dX11_duel_347 rfl ?_
                refine m_goto C 359 dX11_duel_349 (by decide) ?_
                refine m_iast C 78 (by decide) sa_78 (d - 1) rfl (by omega) (by decide) dX11_duel_359 ?_
                refine m_nameM (fun mu70 emu70 => ?_)
                have hst : nI (d_r (fun i => v_sh (z_V z) i (ix k)) r0 Y) = d_en (s_mx (d_b (d - 1)) (A (d - 1)) (d_r (fun i => v_sh (z_V z) i (ix k)) r0 Y)) := by rw [hA]; rfl
                have hup := di_up (ma := m) (mb := mu70) (v := d_r (fun i => v_sh (z_V z) i (ix k)) r0 Y) hdi0 hzN (by omega) hVd hv9 (fun e he => rfl) rfl rfl hF (by rw [emu70, ← hst])
                refine m_goto C 103 dX11_duel_360 (by decide) ?_
                exact m_sub [4, 5, 6, 7, 8, 1, 2] rfl (ih103 d Y.dropLast A (s_mx (d_b (d - 1)) (A (d - 1)) (d_r (fun i => v_sh (z_V z) i (ix k)) r0 Y)) (Y.getD (d - 1) 0 + 1) (nI (d - 1)) (nI (d_r (fun i => v_sh (z_V z) i (ix k)) r0 Y)) mu70 (di_dec (by omega)) (fun h => absurd h (by omega)) hup.1 (by omega))
              · skip
                have hA1s : m 78 (d - 1) = nI u := by rw [hA1m, hA]; rfl
                have hu9 : u ≤ 90000000 := hA2 u hA
                refine m_topi (nI u) hA1s ?_
                refine m_if_lt C 329 dX11_duel_292 (by decide) (fun hh71 => absurd hh71 (mt (ii_lt (nn_i (a := u) rfl (by omega)) (nn_i (a := 0) rfl (by omega))).mp (by omega))) (fun _ => ?_)
                refine m_iload C 0 dX11_duel_295 rfl ?_
                refine m_iconst C 2 dX11_duel_297 (by decide +kernel) ?_
                refine m_irem C dX11_duel_298 (by decide) ?_
                refine m_topi (nI ((d - 1) % 2)) (nn_rem rfl rfl (by omega) (by omega) (by omega)) ?_
                refine m_if_ne C 317 dX11_duel_299 (by decide) (fun hh72 => ?_) (fun hh72 => ?_)
                · replace hh72 := mt (ii_eq (nn_i (a := (d - 1) % 2) rfl (by omega)) (nn_i (a := 0) rfl (by omega))).mpr hh72
                  refine m_iload C 1 dX11_duel_317 rfl ?_
                  refine m_aload_n C 3 dX11_duel_319 rfl ?_
                  refine gfX11_53 C dX11_duel_320 ?_
                  refine m_iload C 0 dX11_duel_323 rfl ?_
                  refine m_iald C 78 (by decide) sa_78 (d - 1) rfl (by omega) (by decide) dX11_duel_325 ?_
                  refine m_topi (nI u) hA1s ?_
                  refine m_icmp_ge C 333 dX11_duel_326 (by decide) (fun hh73 => ?_) (fun hh73 => ?_)
                  · replace hh73 := (ii_le (nn_i (a := u) rfl (by omega)) (nn_i (a := d_r (fun i => v_sh (z_V z) i (ix k)) r0 Y) rfl (by omega))).mp hh73
                    refine m_iconst C 0 dX11_duel_333 (by decide +kernel) ?_
                    refine m_istore C [(8, .int 0), (5, .int (nI (d - 1))), (6, .int (nI (d_r (fun i => v_sh (z_V z) i (ix k)) r0 Y))), (7, .int 1), (0, .ref (G.1 64)), (1, .int n), (2, .int k), (3, .int (nI ((z_N z) - (v_m (z_V z))))), (4, .int (nI L))] dX11_duel_334 (by decide) rfl ?_
                    refine m_aload_n C 4 dX11_duel_336 rfl ?_
                    refine gfX11_53 C dX11_duel_337 ?_
                    refine m_iload C 1 dX11_duel_340 rfl ?_
                    refine m_iload C 0 dX11_duel_342 rfl ?_
                    refine m_if_eq C 352 dX11_duel_344 (by decide) (fun _ => ?_) (fun h => absurd (by decide) h)
                    refine m_aload_n C 4 dX11_duel_352 rfl ?_
                    refine gfX11_53 C dX11_duel_353 ?_
                    refine m_iload C 1 dX11_duel_356 rfl ?_
                    refine m_iald C 78 (by decide) sa_78 (d - 1) rfl (by omega) (by decide) dX11_duel_358 ?_
                    refine m_topi (nI u) hA1s ?_
                    refine m_iast C 78 (by decide) sa_78 (d - 1) rfl (by omega) (by decide) dX11_duel_359 ?_
                    refine m_nameM (fun mu74 emu74 => ?_)
                    have hst : nI u = d_en (s_mx (d_b (d - 1)) (A (d - 1)) (d_r (fun i => v_sh (z_V z) i (ix k)) r0 Y)) := by rw [hA, mx_o0 (db_f (by omega)) (by omega)]; rfl
                    have hup := di_up (ma := m) (mb := mu74) (v := d_r (fun i => v_sh (z_V z) i (ix k)) r0 Y) hdi0 hzN (by omega) hVd hv9 (fun e he => rfl) rfl rfl hF (by rw [emu74, ← hst])
                    refine m_goto C 103 dX11_duel_360 (by decide) ?_
                    exact m_sub [4, 5, 6, 7, 8, 1, 2] rfl (ih103 d Y.dropLast A (s_mx (d_b (d - 1)) (A (d - 1)) (d_r (fun i => v_sh (z_V z) i (ix k)) r0 Y)) (Y.getD (d - 1) 0 + 1) (nI (d - 1)) (nI (d_r (fun i => v_sh (z_V z) i (ix k)) r0 Y)) mu74 (di_dec (by omega)) (fun h => absurd h (by omega)) hup.1 (by omega))
                  replace hh73 := mt (ii_le (nn_i (a := u) rfl (by omega)) (nn_i (a := d_r (fun i => v_sh (z_V z) i (ix k)) r0 Y) rfl (by omega))).mpr hh73
                  refine m_iconst C 1 dX11_duel_329 (by decide +kernel) ?_
                  refine m_goto C 334 dX11_duel_330 (by decide) ?_
                  refine m_istore C [(8, .int 1), (5, .int (nI (d - 1))), (6, .int (nI (d_r (fun i => v_sh (z_V z) i (ix k)) r0 Y))), (7, .int 1), (0, .ref (G.1 64)), (1, .int n), (2, .int k), (3, .int (nI ((z_N z) - (v_m (z_V z))))), (4, .int (nI L))] dX11_duel_334 (by decide) rfl ?_
                  refine m_aload_n C 4 dX11_duel_336 rfl ?_
                  refine gfX11_53 C dX11_duel_337 ?_
                  refine m_iload C 1 dX11_duel_340 rfl ?_
                  refine m_iload C 0 dX11_duel_342 rfl ?_
                  refine m_if_eq C 352 dX11_duel_344 (by decide) (fun h => absurd h (by decide)) (fun _ => ?_)
                  refine m_iload C 2 dX11_duel_347 rfl ?_
                  refine m_goto C 359 dX11_duel_349 (by decide) ?_
                  refine m_iast C 78 (by decide) sa_78 (d - 1) rfl (by omega) (by decide) dX11_duel_359 ?_
                  refine m_nameM (fun mu75 emu75 => ?_)
                  have hst : nI (d_r (fun i => v_sh (z_V z) i (ix k)) r0 Y) = d_en (s_mx (d_b (d - 1)) (A (d - 1)) (d_r (fun i => v_sh (z_V z) i (ix k)) r0 Y)) := by rw [hA, mx_o1 (db_f (by omega)) (by omega)]; rfl
                  have hup := di_up (ma := m) (mb := mu75) (v := d_r (fun i => v_sh (z_V z) i (ix k)) r0 Y) hdi0 hzN (by omega) hVd hv9 (fun e he => rfl) rfl rfl hF (by rw [emu75, ← hst])
                  refine m_goto C 103 dX11_duel_360 (by decide) ?_
                  exact m_sub [4, 5, 6, 7, 8, 1, 2] rfl (ih103 d Y.dropLast A (s_mx (d_b (d - 1)) (A (d - 1)) (d_r (fun i => v_sh (z_V z) i (ix k)) r0 Y)) (Y.getD (d - 1) 0 + 1) (nI (d - 1)) (nI (d_r (fun i => v_sh (z_V z) i (ix k)) r0 Y)) mu75 (di_dec (by omega)) (fun h => absurd h (by omega)) hup.1 (by omega))
                replace hh72 := (ii_eq (nn_i (a := (d - 1) % 2) rfl (by omega)) (nn_i (a := 0) rfl (by omega))).mp hh72
                refine m_iload C 1 dX11_duel_302 rfl ?_
                refine m_aload_n C 3 dX11_duel_304 rfl ?_
                refine gfX11_53 C dX11_duel_305 ?_
                refine m_iload C 0 dX11_duel_308 rfl ?_
                refine m_iald C 78 (by decide) sa_78 (d - 1) rfl (by omega) (by decide) dX11_duel_310 ?_
                refine m_topi (nI u) hA1s ?_
                refine m_icmp_le C 333 dX11_duel_311 (by decide) (fun hh76 => ?_) (fun hh76 => ?_)
                · replace hh76 := (ii_le (nn_i (a := d_r (fun i => v_sh (z_V z) i (ix k)) r0 Y) rfl (by omega)) (nn_i (a := u) rfl (by omega))).mp hh76
                  refine m_iconst C 0 dX11_duel_333 (by decide +kernel) ?_
                  refine m_istore C [(8, .int 0), (5, .int (nI (d - 1))), (6, .int (nI (d_r (fun i => v_sh (z_V z) i (ix k)) r0 Y))), (7, .int 1), (0, .ref (G.1 64)), (1, .int n), (2, .int k), (3, .int (nI ((z_N z) - (v_m (z_V z))))), (4, .int (nI L))] dX11_duel_334 (by decide) rfl ?_
                  refine m_aload_n C 4 dX11_duel_336 rfl ?_
                  refine gfX11_53 C dX11_duel_337 ?_
                  refine m_iload C 1 dX11_duel_340 rfl ?_
                  refine m_iload C 0 dX11_duel_342 rfl ?_
                  refine m_if_eq C 352 dX11_duel_344 (by decide) (fun _ => ?_) (fun h => absurd (by decide) h)
                  refine m_aload_n C 4 dX11_duel_352 rfl ?_
                  refine gfX11_53 C dX11_duel_353 ?_
                  refine m_iload C 1 dX11_duel_356 rfl ?_
                  refine m_iald C 78 (by decide) sa_78 (d - 1) rfl (by omega) (by decide) dX11_duel_358 ?_
                  refine m_topi (nI u) hA1s ?_
                  refine m_iast C 78 (by decide) sa_78 (d - 1) rfl (by omega) (by decide) dX11_duel_359 ?_
                  refine m_nameM (fun mu77 emu77 => ?_)
                  have hst : nI u = d_en (s_mx (d_b (d - 1)) (A (d - 1)) (d_r (fun i => v_sh (z_V z) i (ix k)) r0 Y)) := by rw [hA, mx_e0 (db_t (by omega)) (by omega)]; rfl
                  have hup := di_up (ma := m) (mb := mu77) (v := d_r (fun i => v_sh (z_V z) i (ix k)) r0 Y) hdi0 hzN (by omega) hVd hv9 (fun e he => rfl) rfl rfl hF (by rw [emu77, ← hst])
                  refine m_goto C 103 dX11_duel_360 (by decide) ?_
                  exact m_sub [4, 5, 6, 7, 8, 1, 2] rfl (ih103 d Y.dropLast A (s_mx (d_b (d - 1)) (A (d - 1)) (d_r (fun i => v_sh (z_V z) i (ix k)) r0 Y)) (Y.getD (d - 1) 0 + 1) (nI (d - 1)) (nI (d_r (fun i => v_sh (z_V z) i (ix k)) r0 Y)) mu77 (di_dec (by omega)) (fun h => absurd h (by omega)) hup.1 (by omega))
                replace hh76 := mt (ii_le (nn_i (a := d_r (fun i => v_sh (z_V z) i (ix k)) r0 Y) rfl (by omega)) (nn_i (a := u) rfl (by omega))).mpr hh76
                refine m_goto C 329 dX11_duel_314 (by decide) ?_
                refine m_iconst C 1 dX11_duel_329 (by decide +kernel) ?_
                refine m_goto C 334 dX11_duel_330 (by decide) ?_
                refine m_istore C [(8, .int 1), (5, .int (nI (d - 1))), (6, .int (nI (d_r (fun i => v_sh (z_V z) i (ix k)) r0 Y))), (7, .int 1), (0, .ref (G.1 64)), (1, .int n), (2, .int k), (3, .int (nI ((z_N z) - (v_m (z_V z))))), (4, .int (nI L))] dX11_duel_334 (by decide) rfl ?_
                refine m_aload_n C 4 dX11_duel_336 rfl ?_
                refine gfX11_53 C dX11_duel_337 ?_
                refine m_iload C 1 dX11_duel_340 rfl ?_
                refine m_iload C 0 dX11_duel_342 rfl ?_
                refine m_if_eq C 352 dX11_duel_344 (by decide) (fun h => absurd h (by decide)) (fun _ => ?_)
                refine m_iload C 2 dX11_duel_347 rfl ?_
                refine m_goto C 359 dX11_duel_349 (by decide) ?_
                refine m_iast C 78 (by decide) sa_78 (d - 1) rfl (by omega) (by decide) dX11_duel_359 ?_
                refine m_nameM (fun mu78 emu78 => ?_)
                have hst : nI (d_r (fun i => v_sh (z_V z) i (ix k)) r0 Y) = d_en (s_mx (d_b (d - 1)) (A (d - 1)) (d_r (fun i => v_sh (z_V z) i (ix k)) r0 Y)) := by rw [hA, mx_e1 (db_t (by omega)) (by omega)]; rfl
                have hup := di_up (ma := m) (mb := mu78) (v := d_r (fun i => v_sh (z_V z) i (ix k)) r0 Y) hdi0 hzN (by omega) hVd hv9 (fun e he => rfl) rfl rfl hF (by rw [emu78, ← hst])
                refine m_goto C 103 dX11_duel_360 (by decide) ?_
                exact m_sub [4, 5, 6, 7, 8, 1, 2] rfl (ih103 d Y.dropLast A (s_mx (d_b (d - 1)) (A (d - 1)) (d_r (fun i => v_sh (z_V z) i (ix k)) r0 Y)) (Y.getD (d - 1) 0 + 1) (nI (d - 1)) (nI (d_r (fun i => v_sh (z_V z) i (ix k)) r0 Y)) mu78 (di_dec (by omega)) (fun h => absurd h (by omega)) hup.1 (by omega))
        exact m_sub [4, 5, 6, 3, 2, 1, 0] rfl (L103 (_ + 1) 1 ([]) ((fun _ => none)) none 0 0 (nI r0) mu45 (by decide) (fun h => absurd h (by decide)) hdis (Nat.lt_succ_self _))
      replace hh43 := (ii_eq (nn_i (a := L) rfl (by omega)) (nn_i (a := 0) rfl (by omega))).mp hh43
      refine m_iload C 0 dX11_duel_86 rfl ?_
      refine m_ireti C hQ dX11_duel_88 ?_
      have hsp : s_play (z_N z) (fun i => v_sh (z_V z) i (ix k)) (ix n) (z_B z).1 r0 true = Vs := by rw [hVs, hLm]; exact play_min _ _ _ _ hwf.2.1 hwf.1
      have hL0 : L = 0 := by omega
      have hV0 : Vs = r0 := by rw [hVs, hL0]; rfl
      obtain ⟨hz2, hc2⟩ := zm_df hz (show DF mu mu42 from fun c q1 q2 q3 => by rw [emu42, mu_up_ne q2])
      exact PM_of (by unfold s_duel; rw [if_neg (by omega), if_neg (by omega)]; rw [← hr0e, hsp, hV0]) hz2 hc2
    replace hh3 := (ii_eq (nn_i (a := z_N z) rfl (by omega)) (nn_i (a := 0) rfl (by omega))).mp hh3
    refine m_bipush C (-4) dX11_duel_30 (by decide +kernel) ?_
    refine m_ireti C hQ dX11_duel_32 ?_
    exact PM_of (by unfold s_duel; rw [if_neg (by omega), if_pos (by omega)]) hz zcm_rfl
  replace hh2 := bI_eq0.mp hh2
  refine m_iconst C (-1) dX11_duel_19 (by decide +kernel) ?_
  refine m_ireti C hQ dX11_duel_20 ?_
  exact PM_of (by unfold s_duel; rw [if_pos (by omega)]) hz zcm_rfl
