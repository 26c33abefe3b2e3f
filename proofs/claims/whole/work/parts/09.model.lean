/-! THE REFERENCE, method by method (printed by my own program gen_model.py) -/
set_option maxHeartbeats 1000000 in
set_option maxRecDepth 100000 in
theorem cM_above (l : Launch) (D : va_G) (cA : Nat → ClassId) (w : va_W) (v : Int32) : Ki l yX7_above cX7_above 1 .int 0 0 0 0 D cA [.int v] w (fun r w' => r = mx0 v ∧ w' = w) := by
  refine ent_i (own := RX7) (lv0 := [(0, .int v)]) (by decide) rfl (Nat.le_of_ble_eq_true rfl) rfl ?_
  intro p e s m args below meth c A Q G hinit ret
  refine j_iload_n G dX7_above_0 rfl 0 rfl ?_
  refine j_if_le (tgt := 8) G dX7_above_1 (by decide) (fun c1 => ?_) (fun c1 => ?_)
  · refine j_iconst (v := 0) G dX7_above_8 (by decide) ?_
    exact ret _ _ _ _ dX7_above_9 rfl ⟨(by simp [mx0, c1]), rfl⟩
  · refine j_iload_n G dX7_above_4 rfl 0 rfl ?_
    refine j_goto (tgt := 9) G dX7_above_5 (by decide) ?_
    exact ret _ _ _ _ dX7_above_9 rfl ⟨(by simp [mx0, c1]), rfl⟩
set_option maxHeartbeats 1000000 in
set_option maxRecDepth 100000 in
theorem cM_sucked0 (l : Launch) (D : va_G) (cA : Nat → ClassId) (q : Nat → Nat) (un : Nat → Nat) (ui : Nat → Int32) (ul : Nat → Int64) (ua : Nat → Nat → Int32) (co : Int32) (hn : un 0 ≤ 20) (hp : PAR (un 0) (ua 1)) (d : Nat) : Ki l yX7_sucked cX7_sucked 4 .int (d + 2) (40 * d + 60) 0 0 D cA [.ref (q 0), .int 0] (mW cA q un ui ul ua co) (fun r w' => r = vac (un 0) (ui 0) (ua 1) (ua 2) (ua 7) 0 ∧ w' = mW cA q un ui ul ua co) := by
  refine ent_i (own := RX7) (lv0 := [(0, .ref (q 0)), (1, .int 0)]) (by decide) rfl (Nat.le_of_ble_eq_true rfl) rfl ?_
  intro p e s m args below meth c A Q G hinit ret
  refine j_iload_n G dX7_sucked_0 rfl 1 rfl ?_
  refine j_if_eq (tgt := 32) G dX7_sucked_1 (by decide) (fun _ => ?_) (fun c1 => absurd (by decide) c1)
  refine j_aload_n G dX7_sucked_32 rfl 0 rfl ?_
  refine gfX7_82 (v := .int (ui 0)) G 0 rfl rfl dX7_sucked_33 ?_
  refine j_aload_n G dX7_sucked_36 rfl 0 rfl ?_
  refine gfX7_35 (v := .ref (q 8)) G 0 rfl rfl dX7_sucked_37 ?_
  refine j_iconst (v := 0) G dX7_sucked_40 (by decide) ?_
  refine j_ialdN (j := 0) G 8 rfl rfl (by omega) (Nat.le_of_ble_eq_true rfl) dX7_sucked_41 ?_
  refine j_isub G dX7_sucked_42 ?_
  refine j_rwi (subS_0 (ua 7) (ui 0 - ua 7 0)) ?_
  refine j_istore_n (lv' := [(2, .int (subS (ua 7) (ui 0 - ua 7 0) 0)), (0, .ref (q 0)), (1, .int 0)]) G dX7_sucked_43 rfl (by decide) rfl ?_
  refine j_iconst (v := 0) G dX7_sucked_44 (by decide) ?_
  refine j_istore_n (lv' := [(3, .int 0), (2, .int (subS (ua 7) (ui 0 - ua 7 0) 0)), (0, .ref (q 0)), (1, .int 0)]) G dX7_sucked_45 rfl (by decide) rfl ?_
  have lp46 : ∀ (fu : Nat) (k : Nat), k ≤ un 0 → un 0 < k + fu → J p l e (RM (d + 2) (40 * d + 60) 0 0) s m args below meth c 4 D A (mW cA q un ui ul ua co) 0 0 Q 46 [(0, .ref (q 0)), (1, .int 0), (2, .int (subS (ua 7) (ui 0 - ua 7 0) k)), (3, .int (nI k))] [] := by
    intro fu
    induction fu with
    | zero => intro k h1 h2; exact absurd h2 (by omega)
    | succ fu ih =>
      intro k h1 h2
      refine j_iload_n G dX7_sucked_46 rfl 3 rfl ?_
      refine j_aload_n G dX7_sucked_47 rfl 0 rfl ?_
      refine gfX7_7 (v := .int (nI (un 0))) G 0 rfl rfl dX7_sucked_48 ?_
      refine j_icmp_ge (tgt := 69) G dX7_sucked_51 (by decide) (fun c51 => ?_) (fun c51 => ?_)
      · have g51 : k = un 0 := Nat.le_antisymm h1 ((nI_leI (by omega) (by omega)).mp c51)
        refine j_iload_n G dX7_sucked_69 rfl 2 rfl ?_
        refine jS_i G (cM_above l D cA (mW cA q un ui ul ua co) (subS (ua 7) (ui 0 - ua 7 0) k)) gX7_92 hd_X7_above.2 ⟨by show 0 + 1 ≤ d + 2; omega, by show 8 + (1 + 11) + 0 ≤ 40 * (d) + 60; omega⟩ ⟨Nat.le_of_ble_eq_true rfl, Nat.le_of_ble_eq_true rfl⟩ rfl rfl (Nat.le_of_ble_eq_true rfl) dX7_sucked_70 (fun r w' hp => ?_)
        obtain ⟨rfl, rfl⟩ := hp
        exact ret _ _ _ _ dX7_sucked_73 rfl ⟨(by rw [vac_0, pumpV, g51]), rfl⟩
      · have g51 : k < un 0 := by rcases Nat.lt_or_ge k (un 0) with h | h; exacts [h, absurd ((nI_leI (by omega) (by omega)).mpr h) c51]
        refine j_iload_n G dX7_sucked_54 rfl 2 rfl ?_
        refine j_aload_n G dX7_sucked_55 rfl 0 rfl ?_
        refine gfX7_35 (v := .ref (q 8)) G 0 rfl rfl dX7_sucked_56 ?_
        refine j_iload_n G dX7_sucked_59 rfl 3 rfl ?_
        refine j_ialdN (j := k) G 8 rfl rfl (by omega) (Nat.le_of_ble_eq_true rfl) dX7_sucked_60 ?_
        refine j_isub G dX7_sucked_61 ?_
        refine j_rwi (subS_S (ua 7) (ui 0 - ua 7 0) k) ?_
        refine j_istore_n (lv' := [(2, .int (subS (ua 7) (ui 0 - ua 7 0) (k + 1))), (0, .ref (q 0)), (1, .int 0), (3, .int (nI k))]) G dX7_sucked_62 rfl (by decide) rfl ?_
        refine j_iinc (v := (nI (k + 1))) (lv' := [(3, .int (nI (k + 1))), (2, .int (subS (ua 7) (ui 0 - ua 7 0) (k + 1))), (0, .ref (q 0)), (1, .int 0)]) G dX7_sucked_63 3 rfl (nI_1 k) (by decide) rfl ?_
        refine j_goto (tgt := 46) G dX7_sucked_66 (by decide) ?_
        refine j_sub (lv' := [(0, .ref (q 0)), (1, .int 0), (2, .int (subS (ua 7) (ui 0 - ua 7 0) (k + 1))), (3, .int (nI (k + 1)))]) [2, 3, 1, 0] rfl ?_
        exact ih (k + 1) (by omega) (by omega)
  refine j_sub (lv' := [(0, .ref (q 0)), (1, .int 0), (2, .int (subS (ua 7) (ui 0 - ua 7 0) 0)), (3, .int 0)]) [2, 3, 1, 0] rfl ?_
  exact lp46 (un 0 + 1) 0 (Nat.zero_le _) (by omega)
set_option maxHeartbeats 1000000 in
set_option maxRecDepth 100000 in
theorem cM_suckedS (l : Launch) (D : va_G) (cA : Nat → ClassId) (q : Nat → Nat) (un : Nat → Nat) (ui : Nat → Int32) (ul : Nat → Int64) (ua : Nat → Nat → Int32) (co : Int32) (hn : un 0 ≤ 20) (hp : PAR (un 0) (ua 1)) (d : Nat) (ih : ∀ j, j ≤ d → j < un 0 → Ki l yX7_sucked cX7_sucked 4 .int (d + 2) (40 * d + 60) 0 0 D cA [.ref (q 0), .int (nI j)] (mW cA q un ui ul ua co) (fun r w' => r = vac (un 0) (ui 0) (ua 1) (ua 2) (ua 7) j ∧ w' = mW cA q un ui ul ua co)) (j : Nat) (hj0 : 0 < j) (hjd : j ≤ d + 1) (hj : j < un 0) : Ki l yX7_sucked cX7_sucked 4 .int (d + 1 + 2) (40 * (d + 1) + 60) 0 0 D cA [.ref (q 0), .int (nI j)] (mW cA q un ui ul ua co) (fun r w' => r = vac (un 0) (ui 0) (ua 1) (ua 2) (ua 7) j ∧ w' = mW cA q un ui ul ua co) := by
  refine ent_i (own := RX7) (lv0 := [(0, .ref (q 0)), (1, .int (nI j))]) (by decide) rfl (Nat.le_of_ble_eq_true rfl) rfl ?_
  intro p e s m args below meth c A Q G hinit ret
  refine j_iload_n G dX7_sucked_0 rfl 1 rfl ?_
  refine j_if_eq (tgt := 32) G dX7_sucked_1 (by decide) (fun c1 => absurd c1 (nI_ne0 hj0 (by omega))) (fun c1 => ?_)
  refine j_aload_n G dX7_sucked_4 rfl 0 rfl ?_
  refine j_aload_n G dX7_sucked_5 rfl 0 rfl ?_
  refine gfX7_17 (v := .ref (q 2)) G 0 rfl rfl dX7_sucked_6 ?_
  refine j_iload_n G dX7_sucked_9 rfl 1 rfl ?_
  refine j_ialdN (j := j) G 2 rfl rfl (by omega) (Nat.le_of_ble_eq_true rfl) dX7_sucked_10 ?_
  obtain ⟨i, hi, e9⟩ := hp j hj0 hj
  refine j_rwi e9 ?_
  refine jV_i G 7 0 (ih i (by omega) (by omega)) gX7_89 hd_X7_sucked ⟨Nat.le_refl _, by show 8 + (4 + 11) + (40 * d + 60) ≤ 40 * (d + 1) + 60; omega⟩ ⟨Nat.le_of_ble_eq_true rfl, Nat.le_of_ble_eq_true rfl⟩ rfl rfl (Nat.le_of_ble_eq_true rfl) rfl rfl dX7_sucked_11 (fun r w' hp9 => ?_)
  obtain ⟨rfl, rfl⟩ := hp9
  refine j_aload_n G dX7_sucked_14 rfl 0 rfl ?_
  refine gfX7_20 (v := .ref (q 3)) G 0 rfl rfl dX7_sucked_15 ?_
  refine j_iload_n G dX7_sucked_18 rfl 1 rfl ?_
  refine j_ialdN (j := j) G 3 rfl rfl (by omega) (Nat.le_of_ble_eq_true rfl) dX7_sucked_19 ?_
  refine j_isub G dX7_sucked_20 ?_
  refine j_aload_n G dX7_sucked_21 rfl 0 rfl ?_
  refine gfX7_35 (v := .ref (q 8)) G 0 rfl rfl dX7_sucked_22 ?_
  refine j_iload_n G dX7_sucked_25 rfl 1 rfl ?_
  refine j_ialdN (j := j) G 8 rfl rfl (by omega) (Nat.le_of_ble_eq_true rfl) dX7_sucked_26 ?_
  refine j_isub G dX7_sucked_27 ?_
  refine jS_i G (cM_above l D cA (mW cA q un ui ul ua co) (((vac (un 0) (ui 0) (ua 1) (ua 2) (ua 7) i) - (ua 2 j)) - (ua 7 j))) gX7_92 hd_X7_above.2 ⟨by show 0 + 1 ≤ d + 1 + 2; omega, by show 8 + (1 + 11) + 0 ≤ 40 * (d + 1) + 60; omega⟩ ⟨Nat.le_of_ble_eq_true rfl, Nat.le_of_ble_eq_true rfl⟩ rfl rfl (Nat.le_of_ble_eq_true rfl) dX7_sucked_28 (fun r w' hp => ?_)
  obtain ⟨rfl, rfl⟩ := hp
  exact ret _ _ _ _ dX7_sucked_31 rfl ⟨by rw [vac_S hp hn hj0 hj hi e9], rfl⟩
theorem cM_suckedR (l : Launch) (D : va_G) (cA : Nat → ClassId) (q : Nat → Nat) (un : Nat → Nat) (ui : Nat → Int32) (ul : Nat → Int64) (ua : Nat → Nat → Int32) (co : Int32) (hn : un 0 ≤ 20) (hp : PAR (un 0) (ua 1)) : ∀ (d j : Nat), j ≤ d → j < un 0 → Ki l yX7_sucked cX7_sucked 4 .int (d + 2) (40 * d + 60) 0 0 D cA [.ref (q 0), .int (nI j)] (mW cA q un ui ul ua co) (fun r w' => r = vac (un 0) (ui 0) (ua 1) (ua 2) (ua 7) j ∧ w' = mW cA q un ui ul ua co) := by
  intro d
  induction d with
  | zero =>
    intro j h1 h2
    have e : j = 0 := by omega
    subst e
    exact cM_sucked0 l D cA q un ui ul ua co hn hp 0
  | succ d ih =>
    intro j h1 h2
    rcases Nat.eq_zero_or_pos j with e | e
    · subst e
      exact cM_sucked0 l D cA q un ui ul ua co hn hp (d + 1)
    · exact cM_suckedS l D cA q un ui ul ua co hn hp d ih j e h1 h2
theorem cM_sucked (l : Launch) (D : va_G) (cA : Nat → ClassId) (q : Nat → Nat) (un : Nat → Nat) (ui : Nat → Int32) (ul : Nat → Int64) (ua : Nat → Nat → Int32) (co : Int32) (j : Nat) (hn : un 0 ≤ 20) (hp : PAR (un 0) (ua 1)) (hj : j < un 0) : Ki l yX7_sucked cX7_sucked 4 .int 21 820 0 0 D cA [.ref (q 0), .int (nI j)] (mW cA q un ui ul ua co) (fun r w' => r = vac (un 0) (ui 0) (ua 1) (ua 2) (ua 7) j ∧ w' = mW cA q un ui ul ua co) := cM_suckedR l D cA q un ui ul ua co hn hp 19 j (by omega) hj
set_option maxHeartbeats 1000000 in
set_option maxRecDepth 100000 in
theorem cM_expected0 (l : Launch) (D : va_G) (cA : Nat → ClassId) (q : Nat → Nat) (un : Nat → Nat) (ui : Nat → Int32) (ul : Nat → Int64) (ua : Nat → Nat → Int32) (co : Int32) (hn : un 0 ≤ 20) (hp : PAR (un 0) (ua 1)) (d : Nat) : Ki l yX7_expected cX7_expected 2 .int (d + 2) (40 * d + 60) 0 0 D cA [.ref (q 0), .int 0] (mW cA q un ui ul ua co) (fun r w' => r = expV (ui 0) (ua 1) (ua 2) 0 ∧ w' = mW cA q un ui ul ua co) := by
  refine ent_i (own := RX7) (lv0 := [(0, .ref (q 0)), (1, .int 0)]) (by decide) rfl (Nat.le_of_ble_eq_true rfl) rfl ?_
  intro p e s m args below meth c A Q G hinit ret
  refine j_iload_n G dX7_expected_0 rfl 1 rfl ?_
  refine j_if_ne (tgt := 11) G dX7_expected_1 (by decide) (fun c1 => absurd c1 (by decide)) (fun _ => ?_)
  refine j_aload_n G dX7_expected_4 rfl 0 rfl ?_
  refine gfX7_82 (v := .int (ui 0)) G 0 rfl rfl dX7_expected_5 ?_
  refine j_goto (tgt := 31) G dX7_expected_8 (by decide) ?_
  exact ret _ _ _ _ dX7_expected_31 rfl ⟨exp_0.symm, rfl⟩
set_option maxHeartbeats 1000000 in
set_option maxRecDepth 100000 in
theorem cM_expectedS (l : Launch) (D : va_G) (cA : Nat → ClassId) (q : Nat → Nat) (un : Nat → Nat) (ui : Nat → Int32) (ul : Nat → Int64) (ua : Nat → Nat → Int32) (co : Int32) (hn : un 0 ≤ 20) (hp : PAR (un 0) (ua 1)) (d : Nat) (ih : ∀ j, j ≤ d → j < un 0 → Ki l yX7_expected cX7_expected 2 .int (d + 2) (40 * d + 60) 0 0 D cA [.ref (q 0), .int (nI j)] (mW cA q un ui ul ua co) (fun r w' => r = expV (ui 0) (ua 1) (ua 2) j ∧ w' = mW cA q un ui ul ua co)) (j : Nat) (hj0 : 0 < j) (hjd : j ≤ d + 1) (hj : j < un 0) : Ki l yX7_expected cX7_expected 2 .int (d + 1 + 2) (40 * (d + 1) + 60) 0 0 D cA [.ref (q 0), .int (nI j)] (mW cA q un ui ul ua co) (fun r w' => r = expV (ui 0) (ua 1) (ua 2) j ∧ w' = mW cA q un ui ul ua co) := by
  refine ent_i (own := RX7) (lv0 := [(0, .ref (q 0)), (1, .int (nI j))]) (by decide) rfl (Nat.le_of_ble_eq_true rfl) rfl ?_
  intro p e s m args below meth c A Q G hinit ret
  refine j_iload_n G dX7_expected_0 rfl 1 rfl ?_
  refine j_if_ne (tgt := 11) G dX7_expected_1 (by decide) (fun c1 => ?_) (fun c1 => absurd (by simpa using c1) (nI_ne0 hj0 (by omega)))
  refine j_aload_n G dX7_expected_11 rfl 0 rfl ?_
  refine j_aload_n G dX7_expected_12 rfl 0 rfl ?_
  refine gfX7_17 (v := .ref (q 2)) G 0 rfl rfl dX7_expected_13 ?_
  refine j_iload_n G dX7_expected_16 rfl 1 rfl ?_
  refine j_ialdN (j := j) G 2 rfl rfl (by omega) (Nat.le_of_ble_eq_true rfl) dX7_expected_17 ?_
  obtain ⟨i, hi, e9⟩ := hp j hj0 hj
  refine j_rwi e9 ?_
  refine jV_i G 7 0 (ih i (by omega) (by omega)) gX7_95 hd_X7_expected ⟨Nat.le_refl _, by show 8 + (2 + 11) + (40 * d + 60) ≤ 40 * (d + 1) + 60; omega⟩ ⟨Nat.le_of_ble_eq_true rfl, Nat.le_of_ble_eq_true rfl⟩ rfl rfl (Nat.le_of_ble_eq_true rfl) rfl rfl dX7_expected_18 (fun r w' hp9 => ?_)
  obtain ⟨rfl, rfl⟩ := hp9
  refine j_aload_n G dX7_expected_21 rfl 0 rfl ?_
  refine gfX7_20 (v := .ref (q 3)) G 0 rfl rfl dX7_expected_22 ?_
  refine j_iload_n G dX7_expected_25 rfl 1 rfl ?_
  refine j_ialdN (j := j) G 3 rfl rfl (by omega) (Nat.le_of_ble_eq_true rfl) dX7_expected_26 ?_
  refine j_isub G dX7_expected_27 ?_
  refine jS_i G (cM_above l D cA (mW cA q un ui ul ua co) ((expV (ui 0) (ua 1) (ua 2) i) - (ua 2 j))) gX7_92 hd_X7_above.2 ⟨by show 0 + 1 ≤ d + 1 + 2; omega, by show 8 + (1 + 11) + 0 ≤ 40 * (d + 1) + 60; omega⟩ ⟨Nat.le_of_ble_eq_true rfl, Nat.le_of_ble_eq_true rfl⟩ rfl rfl (Nat.le_of_ble_eq_true rfl) dX7_expected_28 (fun r w' hp => ?_)
  obtain ⟨rfl, rfl⟩ := hp
  exact ret _ _ _ _ dX7_expected_31 rfl ⟨by rw [exp_S hp hn hj0 hj hi e9], rfl⟩
theorem cM_expectedR (l : Launch) (D : va_G) (cA : Nat → ClassId) (q : Nat → Nat) (un : Nat → Nat) (ui : Nat → Int32) (ul : Nat → Int64) (ua : Nat → Nat → Int32) (co : Int32) (hn : un 0 ≤ 20) (hp : PAR (un 0) (ua 1)) : ∀ (d j : Nat), j ≤ d → j < un 0 → Ki l yX7_expected cX7_expected 2 .int (d + 2) (40 * d + 60) 0 0 D cA [.ref (q 0), .int (nI j)] (mW cA q un ui ul ua co) (fun r w' => r = expV (ui 0) (ua 1) (ua 2) j ∧ w' = mW cA q un ui ul ua co) := by
  intro d
  induction d with
  | zero =>
    intro j h1 h2
    have e : j = 0 := by omega
    subst e
    exact cM_expected0 l D cA q un ui ul ua co hn hp 0
  | succ d ih =>
    intro j h1 h2
    rcases Nat.eq_zero_or_pos j with e | e
    · subst e
      exact cM_expected0 l D cA q un ui ul ua co hn hp (d + 1)
    · exact cM_expectedS l D cA q un ui ul ua co hn hp d ih j e h1 h2
theorem cM_expected (l : Launch) (D : va_G) (cA : Nat → ClassId) (q : Nat → Nat) (un : Nat → Nat) (ui : Nat → Int32) (ul : Nat → Int64) (ua : Nat → Nat → Int32) (co : Int32) (j : Nat) (hn : un 0 ≤ 20) (hp : PAR (un 0) (ua 1)) (hj : j < un 0) : Ki l yX7_expected cX7_expected 2 .int 21 820 0 0 D cA [.ref (q 0), .int (nI j)] (mW cA q un ui ul ua co) (fun r w' => r = expV (ui 0) (ua 1) (ua 2) j ∧ w' = mW cA q un ui ul ua co) := cM_expectedR l D cA q un ui ul ua co hn hp 19 j (by omega) hj
