set_option maxRecDepth 20000 in
theorem kiX0 : Cond.instantiable RX0 8 ∈ twl := twl_of 165 rfl rfl
set_option maxRecDepth 20000 in
theorem kiX1 : Cond.instantiable RX1 0 ∈ twl := twl_of 130 rfl rfl
set_option maxRecDepth 20000 in
theorem kiX2 : Cond.instantiable RX2 0 ∈ twl := twl_of 137 rfl rfl
set_option maxRecDepth 20000 in
theorem kiX3 : Cond.instantiable RX3 0 ∈ twl := twl_of 102 rfl rfl
set_option maxRecDepth 20000 in
theorem kiX4 : Cond.instantiable RX4 4 ∈ twl := twl_of 145 rfl rfl
set_option maxRecDepth 20000 in
theorem kiX5 : Cond.instantiable RX5 7 ∈ twl := twl_of 201 rfl rfl
set_option maxRecDepth 20000 in
theorem kiX6 : Cond.instantiable RX6 0 ∈ twl := twl_of 123 rfl rfl
set_option maxRecDepth 20000 in
theorem kiX7 : Cond.instantiable RX7 2 ∈ twl := twl_of 85 rfl rfl
set_option maxRecDepth 20000 in
theorem kiX8 : Cond.instantiable RX8 0 ∈ twl := twl_of 116 rfl rfl
set_option maxRecDepth 20000 in
theorem kiX9 : Cond.instantiable RX9 0 ∈ twl := twl_of 109 rfl rfl
set_option maxRecDepth 20000 in
theorem kiX10 : Cond.instantiable RX10 13 ∈ twl := twl_of 76 rfl rfl
set_option maxRecDepth 20000 in
theorem kiX11 : Cond.instantiable RX11 24 ∈ twl := twl_of 711 rfl rfl
set_option maxRecDepth 20000 in
theorem k_int : Cond.arrayClass .int ∈ twl := twl_of 99 rfl rfl
set_option maxRecDepth 20000 in
theorem kkL_9 : WI RL 9 mX10_init 0 := ⟨twl_of 77 rfl rfl, imX10_init, izX10, kcX10_init, ⟨by decide +kernel, by decide +kernel, by decide +kernel⟩, rfl, rfl, by decide⟩
set_option maxRecDepth 20000 in
theorem koX10_1 : Cond.methodLink RX10 1 Lib.objectInit ∈ twl := twl_of 80 rfl rfl
set_option maxRecDepth 20000 in
theorem kkX10_15 : WIN RX10 "BoneRods" 15 mX7_init 0 := ⟨nwl_of 86 rfl rfl, imX7_init, izX7, kcX7_init, ⟨by decide +kernel, by decide +kernel, by decide +kernel⟩, rfl, rfl, by decide⟩
set_option maxRecDepth 20000 in
theorem koX7_3 : Cond.methodLink RX7 3 Lib.objectInit ∈ twl := twl_of 89 rfl rfl
set_option maxRecDepth 20000 in
theorem kkX10_25 : WIN RX10 "BoneRods" 25 mX3_init 0 := ⟨nwl_of 103 rfl rfl, imX3_init, izX3, kcX3_init, ⟨by decide +kernel, by decide +kernel, by decide +kernel⟩, rfl, rfl, by decide⟩
set_option maxRecDepth 20000 in
theorem koX3_1 : Cond.methodLink RX3 1 Lib.objectInit ∈ twl := twl_of 106 rfl rfl
set_option maxRecDepth 20000 in
theorem kkX10_28 : WIN RX10 "BoneRods" 28 mX9_init 0 := ⟨nwl_of 110 rfl rfl, imX9_init, izX9, kcX9_init, ⟨by decide +kernel, by decide +kernel, by decide +kernel⟩, rfl, rfl, by decide⟩
set_option maxRecDepth 20000 in
theorem kkX9_1 : WIN RX9 "BoneRods" 1 mX3_init 0 := ⟨nwl_of 113 rfl rfl, imX3_init, izX3, kcX3_init, ⟨by decide +kernel, by decide +kernel, by decide +kernel⟩, rfl, rfl, by decide⟩
set_option maxRecDepth 20000 in
theorem kkX10_31 : WIN RX10 "BoneRods" 31 mX8_init 0 := ⟨nwl_of 117 rfl rfl, imX8_init, izX8, kcX8_init, ⟨by decide +kernel, by decide +kernel, by decide +kernel⟩, rfl, rfl, by decide⟩
set_option maxRecDepth 20000 in
theorem kkX8_1 : WIN RX8 "BoneRods" 1 mX3_init 0 := ⟨nwl_of 120 rfl rfl, imX3_init, izX3, kcX3_init, ⟨by decide +kernel, by decide +kernel, by decide +kernel⟩, rfl, rfl, by decide⟩
set_option maxRecDepth 20000 in
theorem kkX10_34 : WIN RX10 "BoneRods" 34 mX6_init 0 := ⟨nwl_of 124 rfl rfl, imX6_init, izX6, kcX6_init, ⟨by decide +kernel, by decide +kernel, by decide +kernel⟩, rfl, rfl, by decide⟩
set_option maxRecDepth 20000 in
theorem kkX6_3 : WIN RX6 "BoneRods" 3 mX3_init 0 := ⟨nwl_of 127 rfl rfl, imX3_init, izX3, kcX3_init, ⟨by decide +kernel, by decide +kernel, by decide +kernel⟩, rfl, rfl, by decide⟩
set_option maxRecDepth 20000 in
theorem kkX10_37 : WIN RX10 "BoneRods" 37 mX1_init 0 := ⟨nwl_of 131 rfl rfl, imX1_init, izX1, kcX1_init, ⟨by decide +kernel, by decide +kernel, by decide +kernel⟩, rfl, rfl, by decide⟩
set_option maxRecDepth 20000 in
theorem kkX1_1 : WIN RX1 "BoneRods" 1 mX9_init 0 := ⟨nwl_of 134 rfl rfl, imX9_init, izX9, kcX9_init, ⟨by decide +kernel, by decide +kernel, by decide +kernel⟩, rfl, rfl, by decide⟩
set_option maxRecDepth 20000 in
theorem kkX10_40 : WIN RX10 "BoneRods" 40 mX2_init 0 := ⟨nwl_of 138 rfl rfl, imX2_init, izX2, kcX2_init, ⟨by decide +kernel, by decide +kernel, by decide +kernel⟩, rfl, rfl, by decide⟩
set_option maxRecDepth 20000 in
theorem kkX2_1 : WIN RX2 "BoneRods" 1 mX8_init 0 := ⟨nwl_of 141 rfl rfl, imX8_init, izX8, kcX8_init, ⟨by decide +kernel, by decide +kernel, by decide +kernel⟩, rfl, rfl, by decide⟩
set_option maxRecDepth 20000 in
theorem kkX10_47 : WI RX10 47 mX4_init 1 := ⟨twl_of 146 rfl rfl, imX4_init, izX4, kcX4_init, ⟨by decide +kernel, by decide +kernel, by decide +kernel⟩, rfl, rfl, by decide⟩
set_option maxRecDepth 20000 in
theorem koX4_1 : Cond.methodLink RX4 1 Lib.objectInit ∈ twl := twl_of 149 rfl rfl
set_option maxRecDepth 20000 in
theorem kkX10_52 : WIN RX10 "BoneRods" 52 mX0_init 0 := ⟨nwl_of 166 rfl rfl, imX0_init, izX0, kcX0_init, ⟨by decide +kernel, by decide +kernel, by decide +kernel⟩, rfl, rfl, by decide⟩
set_option maxRecDepth 20000 in
theorem koX0_3 : Cond.methodLink RX0 3 Lib.objectInit ∈ twl := twl_of 169 rfl rfl
set_option maxRecDepth 20000 in
theorem kkX10_63 : WIN RX10 "BoneRods" 63 mX5_init 0 := ⟨nwl_of 202 rfl rfl, imX5_init, izX5, kcX5_init, ⟨by decide +kernel, by decide +kernel, by decide +kernel⟩, rfl, rfl, by decide⟩
set_option maxRecDepth 20000 in
theorem koX5_3 : Cond.methodLink RX5 3 Lib.objectInit ∈ twl := twl_of 205 rfl rfl
set_option maxRecDepth 20000 in
theorem kkL_12 : WI RL 12 mX11_init 0 := ⟨twl_of 712 rfl rfl, imX11_init, izX11, kcX11_init, ⟨by decide +kernel, by decide +kernel, by decide +kernel⟩, rfl, rfl, by decide⟩
set_option maxRecDepth 20000 in
theorem koX11_1 : Cond.methodLink RX11 1 Lib.objectInit ∈ twl := twl_of 715 rfl rfl
/-! the first memory -/
def mu0 : Mu := fun c => if c = 66 then (fun j => if j < 6 then -1 else 0) else if c = 68 then (fun j => if j < 4 then -1 else 0) else if 31 ≤ c ∧ c < 38 then (fun j => if j = 0 then 24 else 0) else if (2 ≤ c ∧ c < 14 ∧ c % 2 = 0) ∨ (15 ≤ c ∧ c < 23 ∧ c % 2 = 1) then (fun j => if j = 1 then -1 else 0) else fun _ => 0
def nu0 : Nu := fun c j => if (c = 0 ∧ j = 10) ∨ (c = 64 ∧ j = 9) then 1 else 0
def Fz (G : Gl) : Nat → va_E := fun c => g_sh G c (mu0 c) (nu0 c)
theorem up_e_up {e : Nat → va_E} {c : Nat} {a b : va_E} : up_e (up_e e c a) c b = up_e e c b := by
  funext i
  by_cases h : i = c
  · subst h; rw [up_e_eq, up_e_eq]
  · rw [up_e_ne h, up_e_ne h, up_e_ne h]
theorem up_e_3 {e : Nat → va_E} {c m : Nat} {a b d : va_E} (hne : c ≠ m) : up_e (up_e (up_e e c a) m b) c d = up_e (up_e e m b) c d := by
  funext i
  by_cases h : i = c
  · subst h; rw [up_e_eq, up_e_eq]
  · rw [up_e_ne h, up_e_ne h]
    by_cases h2 : i = m
    · subst h2; rw [up_e_eq, up_e_eq]
    · rw [up_e_ne h2, up_e_ne h2, up_e_ne h]
theorem up_e_sw {e : Nat → va_E} {c m : Nat} {a b d : va_E} (hne : c ≠ m) : up_e (up_e (up_e e c a) m b) c d = up_e (up_e e c d) m b := by
  funext i
  by_cases h : i = c
  · subst h; rw [up_e_eq, up_e_ne hne, up_e_eq]
  · rw [up_e_ne h]
    by_cases h2 : i = m
    · subst h2; rw [up_e_eq, up_e_eq]
    · rw [up_e_ne h2, up_e_ne h2, up_e_ne h, up_e_ne h]
theorem up_e_self {e : Nat → va_E} {c : Nat} {a : va_E} (h : e c = a) : up_e e c a = e := by
  funext i
  by_cases h2 : i = c
  · subst h2; rw [up_e_eq, h]
  · rw [up_e_ne h2]
theorem k_to {l : Launch} {G : Gl} {nL : Nat} {X : Bx} {Q : State → Prop} {pc : Nat} {lv : List (Nat × Value)} {st : List Value} {k z n : Nat} {e e2 : Nat → va_E} (h : e = e2) (kk : Mk l G nL X Q pc lv st k z n e2) : Mk l G nL X Q pc lv st k z n e := by rw [h]; exact kk
theorem f_rod {G : Gl} {i : Nat} (h : i < 7) : Fz G (31 + i) = .inr (4, [.ref (G.1 24), .int 0, .int 0, .int 0]) := by
  have h2 : i = 0 ∨ i = 1 ∨ i = 2 ∨ i = 3 ∨ i = 4 ∨ i = 5 ∨ i = 6 := by omega
  have h3 : (24 : Int32).toNatClampNeg = 24 := by decide +kernel
  have h4 : g_rod G (fun j => if j = 0 then 24 else 0) = .inr (4, [.ref (G.1 24), .int 0, .int 0, .int 0]) := by
    show (Sum.inr (4, [g_rf G (24 : Int32).toNatClampNeg, .int 0, .int 0, .int 0]) : va_E) = _
    rw [h3]
  rcases h2 with rfl | rfl | rfl | rfl | rfl | rfl | rfl <;> exact h4

set_option maxHeartbeats 4000000 in
set_option maxRecDepth 100000 in
theorem c_X7_init (l : Launch) (G : Gl) (n c : Nat) (e : Nat → va_E) (hc : c < n) (h0 : e c = .inr (7, [.null, .int 0])) : Ck l G mX7_init 2 1 60 [.ref (G.1 c)] n e (n + 1) (up_e (up_e e n (g_ia G 60 (fun _ => 0))) c (.inr (7, [.ref (G.1 n), .int (-1)]))) := by
  refine Ck.of (lv := [(0, .ref (G.1 c))]) rfl rfl (Nat.le_of_ble_eq_true rfl) rfl (fun X C => ?_)
  generalize hQ : k_E G X _ _ _ _ = Q
  replace C : Cy G 1 X cX7_init RX7 none 2 "<init>" 1 60 := C
  show Mk l G 1 X Q 0 [(0, .ref (G.1 c))] [] 0 0 n e
  refine k_aload_n C 0 dX7_init_0 rfl ?_
  refine k_objInit C koX7_3 (by decide) (Nat.le_of_ble_eq_true rfl) dX7_init_1 ?_
  refine k_aload_n C 0 dX7_init_4 rfl ?_
  refine k_bipush C 60 dX7_init_5 (by decide +kernel) ?_
  refine k_newa C 60 (by decide +kernel) (by decide) k_int (n + 1) 1 60 rfl rfl rfl (Nat.le_of_ble_eq_true rfl) (Nat.le_of_ble_eq_true rfl) dX7_init_7 ?_
  refine k_putF C c (by omega) ((up_e_ne (by omega)).trans h0) rfl nuX7 0 (by decide) rfl wfX7_9 tyX7 tyX7_ok nmX7 rfl rfl (ty := (.array .int)) (by decide +kernel) rfl rfl (Nat.le_of_ble_eq_true rfl) [.ref (G.1 n), .int 0] rfl dX7_init_9 ?_
  refine k_aload_n C 0 dX7_init_12 rfl ?_
  refine k_iconst C (-1) dX7_init_13 (by decide +kernel) ?_
  refine k_put C c (by omega) up_e_eq rfl nuX7 1 (by decide) rfl wfX7_15 tyX7 tyX7_ok nmX7 rfl (ty := .int) (by decide +kernel) rfl rfl (Nat.le_of_ble_eq_true rfl) [.ref (G.1 n), .int (-1)] rfl dX7_init_14 ?_
  refine k_to (e2 := up_e (up_e e n (g_ia G 60 (fun _ => 0))) c (.inr (7, [.ref (G.1 n), .int (-1)]))) up_e_up ?_
  subst hQ
  exact k_vret C dX7_init_17

set_option maxHeartbeats 4000000 in
set_option maxRecDepth 100000 in
theorem c_X0_init (l : Launch) (G : Gl) (n c : Nat) (e : Nat → va_E) (hc : c < n) (h0 : e c = .inr (0, [.null, .int 0, .int 0, .null, .null, .null, .int 0, .int 0])) : Ck l G mX0_init 2 4 127 [.ref (G.1 c)] n e (n + 4) (up_e (up_e (up_e (up_e (up_e e n (g_ia G 7 (fun _ => 0))) (n + 1) (g_ia G 40 (fun _ => 0))) (n + 2) (g_ia G 40 (fun _ => 0))) (n + 3) (g_ia G 40 (fun _ => 0))) c (.inr (0, [.ref (G.1 n), .int 0, .int 0, .ref (G.1 (n + 1)), .ref (G.1 (n + 2)), .ref (G.1 (n + 3)), .int 0, .int 0]))) := by
  refine Ck.of (lv := [(0, .ref (G.1 c))]) rfl rfl (Nat.le_of_ble_eq_true rfl) rfl (fun X C => ?_)
  generalize hQ : k_E G X _ _ _ _ = Q
  replace C : Cy G 1 X cX0_init RX0 none 2 "<init>" 4 127 := C
  show Mk l G 1 X Q 0 [(0, .ref (G.1 c))] [] 0 0 n e
  refine k_aload_n C 0 dX0_init_0 rfl ?_
  refine k_objInit C koX0_3 (by decide) (Nat.le_of_ble_eq_true rfl) dX0_init_1 ?_
  refine k_aload_n C 0 dX0_init_4 rfl ?_
  refine k_bipush C 7 dX0_init_5 (by decide +kernel) ?_
  refine k_newa C 7 (by decide +kernel) (by decide) k_int (n + 1) 1 7 rfl rfl rfl (Nat.le_of_ble_eq_true rfl) (Nat.le_of_ble_eq_true rfl) dX0_init_7 ?_
  refine k_putF C c (by omega) ((up_e_ne (by omega)).trans h0) rfl nuX0 0 (by decide) rfl wfX0_9 tyX0 tyX0_ok nmX0 rfl rfl (ty := (.array .int)) (by decide +kernel) rfl rfl (Nat.le_of_ble_eq_true rfl) [.ref (G.1 n), .int 0, .int 0, .null, .null, .null, .int 0, .int 0] rfl dX0_init_9 ?_
  refine k_aload_n C 0 dX0_init_12 rfl ?_
  refine k_bipush C 40 dX0_init_13 (by decide +kernel) ?_
  refine k_newa C 40 (by decide +kernel) (by decide) k_int (n + 2) 2 47 rfl rfl rfl (Nat.le_of_ble_eq_true rfl) (Nat.le_of_ble_eq_true rfl) dX0_init_15 ?_
  refine k_putF C c (by omega) ((up_e_ne (by omega)).trans up_e_eq) rfl nuX0 3 (by decide) rfl wfX0_15 tyX0 tyX0_ok nmX0 rfl rfl (ty := (.array .int)) (by decide +kernel) rfl rfl (Nat.le_of_ble_eq_true rfl) [.ref (G.1 n), .int 0, .int 0, .ref (G.1 (n + 1)), .null, .null, .int 0, .int 0] rfl dX0_init_17 ?_
  refine k_to (e2 := up_e (up_e (up_e e n (g_ia G 7 (fun _ => 0))) (n + 1) (g_ia G 40 (fun _ => 0))) c (.inr (0, [.ref (G.1 n), .int 0, .int 0, .ref (G.1 (n + 1)), .null, .null, .int 0, .int 0]))) (up_e_3 (by omega)) ?_
  refine k_aload_n C 0 dX0_init_20 rfl ?_
  refine k_bipush C 40 dX0_init_21 (by decide +kernel) ?_
  refine k_newa C 40 (by decide +kernel) (by decide) k_int (n + 3) 3 87 rfl rfl rfl (Nat.le_of_ble_eq_true rfl) (Nat.le_of_ble_eq_true rfl) dX0_init_23 ?_
  refine k_putF C c (by omega) ((up_e_ne (by omega)).trans up_e_eq) rfl nuX0 4 (by decide) rfl wfX0_18 tyX0 tyX0_ok nmX0 rfl rfl (ty := (.array .int)) (by decide +kernel) rfl rfl (Nat.le_of_ble_eq_true rfl) [.ref (G.1 n), .int 0, .int 0, .ref (G.1 (n + 1)), .ref (G.1 (n + 2)), .null, .int 0, .int 0] rfl dX0_init_25 ?_
  refine k_to (e2 := up_e (up_e (up_e (up_e e n (g_ia G 7 (fun _ => 0))) (n + 1) (g_ia G 40 (fun _ => 0))) (n + 2) (g_ia G 40 (fun _ => 0))) c (.inr (0, [.ref (G.1 n), .int 0, .int 0, .ref (G.1 (n + 1)), .ref (G.1 (n + 2)), .null, .int 0, .int 0]))) (up_e_3 (by omega)) ?_
  refine k_aload_n C 0 dX0_init_28 rfl ?_
  refine k_bipush C 40 dX0_init_29 (by decide +kernel) ?_
  refine k_newa C 40 (by decide +kernel) (by decide) k_int (n + 4) 4 127 rfl rfl rfl (Nat.le_of_ble_eq_true rfl) (Nat.le_of_ble_eq_true rfl) dX0_init_31 ?_
  refine k_putF C c (by omega) ((up_e_ne (by omega)).trans up_e_eq) rfl nuX0 5 (by decide) rfl wfX0_21 tyX0 tyX0_ok nmX0 rfl rfl (ty := (.array .int)) (by decide +kernel) rfl rfl (Nat.le_of_ble_eq_true rfl) [.ref (G.1 n), .int 0, .int 0, .ref (G.1 (n + 1)), .ref (G.1 (n + 2)), .ref (G.1 (n + 3)), .int 0, .int 0] rfl dX0_init_33 ?_
  refine k_to (e2 := up_e (up_e (up_e (up_e (up_e e n (g_ia G 7 (fun _ => 0))) (n + 1) (g_ia G 40 (fun _ => 0))) (n + 2) (g_ia G 40 (fun _ => 0))) (n + 3) (g_ia G 40 (fun _ => 0))) c (.inr (0, [.ref (G.1 n), .int 0, .int 0, .ref (G.1 (n + 1)), .ref (G.1 (n + 2)), .ref (G.1 (n + 3)), .int 0, .int 0]))) (up_e_3 (by omega)) ?_
  subst hQ
  exact k_vret C dX0_init_36

set_option maxHeartbeats 4000000 in
set_option maxRecDepth 100000 in
theorem c_X5_init (l : Launch) (G : Gl) (n c : Nat) (e : Nat → va_E) (hc : c < n) (h0 : e c = .inr (5, [.null, .int 0, .null, .null, .int 0, .int 0, .int 0])) : Ck l G mX5_init 2 3 21 [.ref (G.1 c)] n e (n + 3) (up_e (up_e (up_e (up_e e n (g_ia G 7 (fun _ => 0))) (n + 1) (g_ia G 7 (fun _ => 0))) (n + 2) (g_ia G 7 (fun _ => 0))) c (.inr (5, [.ref (G.1 n), .int 0, .ref (G.1 (n + 1)), .ref (G.1 (n + 2)), .int 0, .int 0, .int 0]))) := by
  refine Ck.of (lv := [(0, .ref (G.1 c))]) rfl rfl (Nat.le_of_ble_eq_true rfl) rfl (fun X C => ?_)
  generalize hQ : k_E G X _ _ _ _ = Q
  replace C : Cy G 1 X cX5_init RX5 none 2 "<init>" 3 21 := C
  show Mk l G 1 X Q 0 [(0, .ref (G.1 c))] [] 0 0 n e
  refine k_aload_n C 0 dX5_init_0 rfl ?_
  refine k_objInit C koX5_3 (by decide) (Nat.le_of_ble_eq_true rfl) dX5_init_1 ?_
  refine k_aload_n C 0 dX5_init_4 rfl ?_
  refine k_bipush C 7 dX5_init_5 (by decide +kernel) ?_
  refine k_newa C 7 (by decide +kernel) (by decide) k_int (n + 1) 1 7 rfl rfl rfl (Nat.le_of_ble_eq_true rfl) (Nat.le_of_ble_eq_true rfl) dX5_init_7 ?_
  refine k_putF C c (by omega) ((up_e_ne (by omega)).trans h0) rfl nuX5 0 (by decide) rfl wfX5_9 tyX5 tyX5_ok nmX5 rfl rfl (ty := (.array .int)) (by decide +kernel) rfl rfl (Nat.le_of_ble_eq_true rfl) [.ref (G.1 n), .int 0, .null, .null, .int 0, .int 0, .int 0] rfl dX5_init_9 ?_
  refine k_aload_n C 0 dX5_init_12 rfl ?_
  refine k_bipush C 7 dX5_init_13 (by decide +kernel) ?_
  refine k_newa C 7 (by decide +kernel) (by decide) k_int (n + 2) 2 14 rfl rfl rfl (Nat.le_of_ble_eq_true rfl) (Nat.le_of_ble_eq_true rfl) dX5_init_15 ?_
  refine k_putF C c (by omega) ((up_e_ne (by omega)).trans up_e_eq) rfl nuX5 2 (by decide) rfl wfX5_15 tyX5 tyX5_ok nmX5 rfl rfl (ty := (.array .int)) (by decide +kernel) rfl rfl (Nat.le_of_ble_eq_true rfl) [.ref (G.1 n), .int 0, .ref (G.1 (n + 1)), .null, .int 0, .int 0, .int 0] rfl dX5_init_17 ?_
  refine k_to (e2 := up_e (up_e (up_e e n (g_ia G 7 (fun _ => 0))) (n + 1) (g_ia G 7 (fun _ => 0))) c (.inr (5, [.ref (G.1 n), .int 0, .ref (G.1 (n + 1)), .null, .int 0, .int 0, .int 0]))) (up_e_3 (by omega)) ?_
  refine k_aload_n C 0 dX5_init_20 rfl ?_
  refine k_bipush C 7 dX5_init_21 (by decide +kernel) ?_
  refine k_newa C 7 (by decide +kernel) (by decide) k_int (n + 3) 3 21 rfl rfl rfl (Nat.le_of_ble_eq_true rfl) (Nat.le_of_ble_eq_true rfl) dX5_init_23 ?_
  refine k_putF C c (by omega) ((up_e_ne (by omega)).trans up_e_eq) rfl nuX5 3 (by decide) rfl wfX5_18 tyX5 tyX5_ok nmX5 rfl rfl (ty := (.array .int)) (by decide +kernel) rfl rfl (Nat.le_of_ble_eq_true rfl) [.ref (G.1 n), .int 0, .ref (G.1 (n + 1)), .ref (G.1 (n + 2)), .int 0, .int 0, .int 0] rfl dX5_init_25 ?_
  refine k_to (e2 := up_e (up_e (up_e (up_e e n (g_ia G 7 (fun _ => 0))) (n + 1) (g_ia G 7 (fun _ => 0))) (n + 2) (g_ia G 7 (fun _ => 0))) c (.inr (5, [.ref (G.1 n), .int 0, .ref (G.1 (n + 1)), .ref (G.1 (n + 2)), .int 0, .int 0, .int 0]))) (up_e_3 (by omega)) ?_
  subst hQ
  exact k_vret C dX5_init_28

set_option maxHeartbeats 4000000 in
set_option maxRecDepth 100000 in
theorem c_X4_init (l : Launch) (G : Gl) (n c kc : Nat) (e : Nat → va_E) (hc : c < n) (h0 : e c = .inr (4, [.null, .int 0, .int 0, .int 0])) : Ck l G mX4_init 2 0 0 [.ref (G.1 c), .ref (G.1 kc)] n e n (up_e e c (.inr (4, [.ref (G.1 kc), .int 0, .int 0, .int 0]))) := by
  refine Ck.of (lv := [(0, .ref (G.1 c)), (1, .ref (G.1 kc))]) rfl rfl (Nat.le_of_ble_eq_true rfl) rfl (fun X C => ?_)
  generalize hQ : k_E G X _ _ _ _ = Q
  replace C : Cy G 2 X cX4_init RX4 none 2 "<init>" 0 0 := C
  show Mk l G 2 X Q 0 [(0, .ref (G.1 c)), (1, .ref (G.1 kc))] [] 0 0 n e
  refine k_aload_n C 0 dX4_init_0 rfl ?_
  refine k_objInit C koX4_1 (by decide) (Nat.le_of_ble_eq_true rfl) dX4_init_1 ?_
  refine k_aload_n C 0 dX4_init_4 rfl ?_
  refine k_aload_n C 1 dX4_init_5 rfl ?_
  refine k_put C c (by omega) h0 rfl nuX4 0 (by decide) rfl wfX4_7 tyX4 tyX4_ok nmX4 rfl (ty := (.object RX3)) (by decide +kernel) rfl rfl (Nat.le_of_ble_eq_true rfl) [.ref (G.1 kc), .int 0, .int 0, .int 0] rfl dX4_init_6 ?_
  subst hQ
  exact k_vret C dX4_init_9

set_option maxHeartbeats 4000000 in
set_option maxRecDepth 100000 in
theorem c_X3_init (l : Launch) (G : Gl) (n c : Nat) (e : Nat → va_E) : Ck l G mX3_init 2 0 0 [.ref (G.1 c)] n e n e := by
  refine Ck.of (lv := [(0, .ref (G.1 c))]) rfl rfl (Nat.le_of_ble_eq_true rfl) rfl (fun X C => ?_)
  generalize hQ : k_E G X _ _ _ _ = Q
  replace C : Cy G 1 X cX3_init RX3 none 2 "<init>" 0 0 := C
  show Mk l G 1 X Q 0 [(0, .ref (G.1 c))] [] 0 0 n e
  refine k_aload_n C 0 dX3_init_0 rfl ?_
  refine k_objInit C koX3_1 (by decide) (Nat.le_of_ble_eq_true rfl) dX3_init_1 ?_
  subst hQ
  exact k_vret C dX3_init_4

set_option maxHeartbeats 4000000 in
set_option maxRecDepth 100000 in
theorem c_X9_init (l : Launch) (G : Gl) (n c : Nat) (e : Nat → va_E) : Ck l G mX9_init 3 0 0 [.ref (G.1 c)] n e n e := by
  refine Ck.of (lv := [(0, .ref (G.1 c))]) rfl rfl (Nat.le_of_ble_eq_true rfl) rfl (fun X C => ?_)
  generalize hQ : k_E G X _ _ _ _ = Q
  replace C : Cy G 1 X cX9_init RX9 none 3 "<init>" 0 0 := C
  show Mk l G 1 X Q 0 [(0, .ref (G.1 c))] [] 0 0 n e
  refine k_aload_n C 0 dX9_init_0 rfl ?_
  refine k_callIN C c (n) 0 0 (c_X3_init l G n c e) kkX9_1 (by decide) rfl rfl (Nat.le_of_ble_eq_true rfl) rfl rfl (Nat.le_of_ble_eq_true rfl) (Nat.le_of_ble_eq_true rfl) dX9_init_1 ?_
  subst hQ
  exact k_vret C dX9_init_4

set_option maxHeartbeats 4000000 in
set_option maxRecDepth 100000 in
theorem c_X8_init (l : Launch) (G : Gl) (n c : Nat) (e : Nat → va_E) : Ck l G mX8_init 3 0 0 [.ref (G.1 c)] n e n e := by
  refine Ck.of (lv := [(0, .ref (G.1 c))]) rfl rfl (Nat.le_of_ble_eq_true rfl) rfl (fun X C => ?_)
  generalize hQ : k_E G X _ _ _ _ = Q
  replace C : Cy G 1 X cX8_init RX8 none 3 "<init>" 0 0 := C
  show Mk l G 1 X Q 0 [(0, .ref (G.1 c))] [] 0 0 n e
  refine k_aload_n C 0 dX8_init_0 rfl ?_
  refine k_callIN C c (n) 0 0 (c_X3_init l G n c e) kkX8_1 (by decide) rfl rfl (Nat.le_of_ble_eq_true rfl) rfl rfl (Nat.le_of_ble_eq_true rfl) (Nat.le_of_ble_eq_true rfl) dX8_init_1 ?_
  subst hQ
  exact k_vret C dX8_init_4

set_option maxHeartbeats 4000000 in
set_option maxRecDepth 100000 in
theorem c_X6_init (l : Launch) (G : Gl) (n c : Nat) (e : Nat → va_E) : Ck l G mX6_init 3 0 0 [.ref (G.1 c)] n e n e := by
  refine Ck.of (lv := [(0, .ref (G.1 c))]) rfl rfl (Nat.le_of_ble_eq_true rfl) rfl (fun X C => ?_)
  generalize hQ : k_E G X _ _ _ _ = Q
  replace C : Cy G 1 X cX6_init RX6 none 3 "<init>" 0 0 := C
  show Mk l G 1 X Q 0 [(0, .ref (G.1 c))] [] 0 0 n e
  refine k_aload_n C 0 dX6_init_0 rfl ?_
  refine k_callIN C c (n) 0 0 (c_X3_init l G n c e) kkX6_3 (by decide) rfl rfl (Nat.le_of_ble_eq_true rfl) rfl rfl (Nat.le_of_ble_eq_true rfl) (Nat.le_of_ble_eq_true rfl) dX6_init_1 ?_
  subst hQ
  exact k_vret C dX6_init_4

set_option maxHeartbeats 4000000 in
set_option maxRecDepth 100000 in
theorem c_X1_init (l : Launch) (G : Gl) (n c : Nat) (e : Nat → va_E) : Ck l G mX1_init 4 0 0 [.ref (G.1 c)] n e n e := by
  refine Ck.of (lv := [(0, .ref (G.1 c))]) rfl rfl (Nat.le_of_ble_eq_true rfl) rfl (fun X C => ?_)
  generalize hQ : k_E G X _ _ _ _ = Q
  replace C : Cy G 1 X cX1_init RX1 none 4 "<init>" 0 0 := C
  show Mk l G 1 X Q 0 [(0, .ref (G.1 c))] [] 0 0 n e
  refine k_aload_n C 0 dX1_init_0 rfl ?_
  refine k_callIN C c (n) 0 0 (c_X9_init l G n c e) kkX1_1 (by decide) rfl rfl (Nat.le_of_ble_eq_true rfl) rfl rfl (Nat.le_of_ble_eq_true rfl) (Nat.le_of_ble_eq_true rfl) dX1_init_1 ?_
  subst hQ
  exact k_vret C dX1_init_4

set_option maxHeartbeats 4000000 in
set_option maxRecDepth 100000 in
theorem c_X2_init (l : Launch) (G : Gl) (n c : Nat) (e : Nat → va_E) : Ck l G mX2_init 4 0 0 [.ref (G.1 c)] n e n e := by
  refine Ck.of (lv := [(0, .ref (G.1 c))]) rfl rfl (Nat.le_of_ble_eq_true rfl) rfl (fun X C => ?_)
  generalize hQ : k_E G X _ _ _ _ = Q
  replace C : Cy G 1 X cX2_init RX2 none 4 "<init>" 0 0 := C
  show Mk l G 1 X Q 0 [(0, .ref (G.1 c))] [] 0 0 n e
  refine k_aload_n C 0 dX2_init_0 rfl ?_
  refine k_callIN C c (n) 0 0 (c_X8_init l G n c e) kkX2_1 (by decide) rfl rfl (Nat.le_of_ble_eq_true rfl) rfl rfl (Nat.le_of_ble_eq_true rfl) (Nat.le_of_ble_eq_true rfl) dX2_init_1 ?_
  subst hQ
  exact k_vret C dX2_init_4
