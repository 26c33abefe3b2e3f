/-! THE REFERENCE, method by method (printed by my own program gen_model.py) -/
set_option maxHeartbeats 4000000 in
set_option maxRecDepth 100000 in
theorem cM_thrown (l : Launch) (D : va_G) (cA : Nat → ClassId) (q : Nat → Nat) (un : Nat → Nat) (ui : Nat → Int32) (ul : Nat → Int64) (ua : Nat → Nat → Int32) (co : Int32) : Ki l yX7_thrown cX7_thrown 1 .int 0 0 0 0 D cA [.ref (q 0)] (mW cA q un ui ul ua co) (fun r w' => r = co ∧ w' = mW cA q un ui ul ua co) := by
  refine ent_i (own := RX7) (lv0 := [(0, .ref (q 0))]) (by decide) rfl (Nat.le_of_ble_eq_true rfl) rfl ?_
  intro p e s m args below meth c A Q G hinit ret
  refine j_aload_n G dX7_thrown_0 rfl 0 rfl ?_
  refine gfX7_60 (v := .int co) G 0 rfl rfl dX7_thrown_1 ?_
  exact ret _ _ _ _ dX7_thrown_4 rfl ⟨rfl, rfl⟩
set_option maxHeartbeats 4000000 in
set_option maxRecDepth 100000 in
theorem cM_fails (l : Launch) (D : va_G) (cA : Nat → ClassId) (q : Nat → Nat) (un : Nat → Nat) (ui : Nat → Int32) (ul : Nat → Int64) (ua : Nat → Nat → Int32) (co : Int32) (p0 : Int32) : Ki l yX7_fails cX7_fails 2 .boolean 0 0 0 0 D cA [.ref (q 0), .int p0] (mW cA q un ui ul ua co) (fun r w' => r = bI (¬ p0 ≤ 0) ∧ w' = mW cA q un ui ul ua p0) := by
  refine ent_i (own := RX7) (lv0 := [(0, .ref (q 0)), (1, .int p0)]) (by decide) rfl (Nat.le_of_ble_eq_true rfl) rfl ?_
  intro p e s m args below meth c A Q G hinit ret
  refine j_aload_n G dX7_fails_0 rfl 0 rfl ?_
  refine j_iload_n G dX7_fails_1 rfl 1 rfl ?_
  refine pfX7_60 (w' := mW cA q un ui ul ua p0) G 0 rfl rfl (Nat.le_of_ble_eq_true rfl) dX7_fails_2 rfl rfl ?_
  refine j_iload_n G dX7_fails_5 rfl 1 rfl ?_
  refine j_if_le (tgt := 13) G dX7_fails_6 (by decide) (fun c6 => ?_) (fun c6 => ?_)
  · refine j_iconst (v := 0) G dX7_fails_13 (by decide) ?_
    exact ret _ _ _ _ dX7_fails_14 (by decide) ⟨(by simp [bI, c6]), rfl⟩
  · refine j_iconst (v := 1) G dX7_fails_9 (by decide) ?_
    refine j_goto (tgt := 14) G dX7_fails_10 (by decide) ?_
    exact ret _ _ _ _ dX7_fails_14 (by decide) ⟨(by simp [bI, c6]), rfl⟩
set_option maxHeartbeats 4000000 in
set_option maxRecDepth 100000 in
theorem cM_tells (l : Launch) (D : va_G) (cA : Nat → ClassId) (q : Nat → Nat) (un : Nat → Nat) (ui : Nat → Int32) (ul : Nat → Int64) (ua : Nat → Nat → Int32) (co : Int32) (p0 : Int32) : Ki l yX7_tells cX7_tells 2 .int 0 0 0 0 D cA [.ref (q 0), .int p0] (mW cA q un ui ul ua co) (fun r w' => r = p0 ∧ w' = mW cA q un ui ul ua 0) := by
  refine ent_i (own := RX7) (lv0 := [(0, .ref (q 0)), (1, .int p0)]) (by decide) rfl (Nat.le_of_ble_eq_true rfl) rfl ?_
  intro p e s m args below meth c A Q G hinit ret
  refine j_aload_n G dX7_tells_0 rfl 0 rfl ?_
  refine j_iconst (v := 0) G dX7_tells_1 (by decide) ?_
  refine pfX7_60 (w' := mW cA q un ui ul ua 0) G 0 rfl rfl (Nat.le_of_ble_eq_true rfl) dX7_tells_2 rfl rfl ?_
  refine j_iload_n G dX7_tells_5 rfl 1 rfl ?_
  exact ret _ _ _ _ dX7_tells_6 rfl ⟨rfl, rfl⟩
set_option maxHeartbeats 4000000 in
set_option maxRecDepth 100000 in
theorem cM_tellsLong (l : Launch) (D : va_G) (cA : Nat → ClassId) (q : Nat → Nat) (un : Nat → Nat) (ui : Nat → Int32) (ul : Nat → Int64) (ua : Nat → Nat → Int32) (co : Int32) (p0 : Int64) : Kl l yX7_tellsLong cX7_tellsLong 3 0 0 0 0 D cA [.ref (q 0), .long p0] (mW cA q un ui ul ua co) (fun r w' => r = p0 ∧ w' = mW cA q un ui ul ua 0) := by
  refine ent_l (own := RX7) (lv0 := [(0, .ref (q 0)), (1, .long p0)]) (by decide) rfl (Nat.le_of_ble_eq_true rfl) rfl ?_
  intro p e s m args below meth c A Q G hinit ret
  refine j_aload_n G dX7_tellsLong_0 rfl 0 rfl ?_
  refine j_iconst (v := 0) G dX7_tellsLong_1 (by decide) ?_
  refine pfX7_60 (w' := mW cA q un ui ul ua 0) G 0 rfl rfl (Nat.le_of_ble_eq_true rfl) dX7_tellsLong_2 rfl rfl ?_
  refine j_lload_n G dX7_tellsLong_5 rfl 1 rfl ?_
  exact ret _ _ _ _ dX7_tellsLong_6 ⟨rfl, rfl⟩
set_option maxHeartbeats 4000000 in
set_option maxRecDepth 100000 in
theorem cM_in (l : Launch) (D : va_G) (cA : Nat → ClassId) (w : va_W) (v : Int32) (lo : Int32) (hi : Int32) : Ki l yX7_in cX7_in 3 .boolean 0 0 0 0 D cA [.int v, .int lo, .int hi] w (fun r w' => r = bI (RG lo hi v) ∧ w' = w) := by
  refine ent_i (own := RX7) (lv0 := [(0, .int v), (1, .int lo), (2, .int hi)]) (by decide) rfl (Nat.le_of_ble_eq_true rfl) rfl ?_
  intro p e s m args below meth c A Q G hinit ret
  refine j_iload_n G dX7_in_0 rfl 0 rfl ?_
  refine j_iload_n G dX7_in_1 rfl 1 rfl ?_
  refine j_icmp_lt (tgt := 14) G dX7_in_2 (by decide) (fun c2 => ?_) (fun c2 => ?_)
  · refine j_iconst (v := 0) G dX7_in_14 (by decide) ?_
    exact ret _ _ _ _ dX7_in_15 (by decide) ⟨(by simp [bI, c2]), rfl⟩
  · refine j_iload_n G dX7_in_5 rfl 0 rfl ?_
    refine j_iload_n G dX7_in_6 rfl 2 rfl ?_
    refine j_icmp_gt (tgt := 14) G dX7_in_7 (by decide) (fun c7 => ?_) (fun c7 => ?_)
    · refine j_iconst (v := 0) G dX7_in_14 (by decide) ?_
      exact ret _ _ _ _ dX7_in_15 (by decide) ⟨(by simp [bI, c2, c7]), rfl⟩
    · refine j_iconst (v := 1) G dX7_in_10 (by decide) ?_
      refine j_goto (tgt := 15) G dX7_in_11 (by decide) ?_
      exact ret _ _ _ _ dX7_in_15 (by decide) ⟨(by simp [bI, c2, c7]), rfl⟩
set_option maxHeartbeats 4000000 in
set_option maxRecDepth 100000 in
theorem cM_lesser (l : Launch) (D : va_G) (cA : Nat → ClassId) (w : va_W) (a : Int32) (b : Int32) : Ki l yX7_lesser cX7_lesser 2 .int 0 0 0 0 D cA [.int a, .int b] w (fun r w' => r = mn a b ∧ w' = w) := by
  refine ent_i (own := RX7) (lv0 := [(0, .int a), (1, .int b)]) (by decide) rfl (Nat.le_of_ble_eq_true rfl) rfl ?_
  intro p e s m args below meth c A Q G hinit ret
  refine j_iload_n G dX7_lesser_0 rfl 0 rfl ?_
  refine j_iload_n G dX7_lesser_1 rfl 1 rfl ?_
  refine j_icmp_ge (tgt := 9) G dX7_lesser_2 (by decide) (fun c2 => ?_) (fun c2 => ?_)
  · refine j_iload_n G dX7_lesser_9 rfl 1 rfl ?_
    exact ret _ _ _ _ dX7_lesser_10 rfl ⟨(by simp [mn, c2]), rfl⟩
  · refine j_iload_n G dX7_lesser_5 rfl 0 rfl ?_
    refine j_goto (tgt := 10) G dX7_lesser_6 (by decide) ?_
    exact ret _ _ _ _ dX7_lesser_10 rfl ⟨(by simp [mn, c2]), rfl⟩
set_option maxHeartbeats 4000000 in
set_option maxRecDepth 100000 in
theorem cM_above (l : Launch) (D : va_G) (cA : Nat → ClassId) (w : va_W) (v : Int32) : Ki l yX7_above cX7_above 1 .int 0 0 0 0 D cA [.int v] w (fun r w' => r = mx0 v ∧ w' = w) := by
  refine ent_i (own := RX7) (lv0 := [(0, .int v)]) (by decide) rfl (Nat.le_of_ble_eq_true rfl) rfl ?_
  intro p e s m args below meth c A Q G hinit ret
  refine j_iload_n G dX7_above_0 rfl 0 rfl ?_
  refine j_if_le (tgt := 8) G dX7_above_1 (by decide) (fun c1 => ?_) (fun c1 => ?_)
  · refine j_iconst (v := 0) G dX7_above_8 (by decide) ?_
    exact ret _ _ _ _ dX7_above_9 rfl ⟨(by simp [mx0, c1]), rfl⟩
  · refine j_iload_n G dX7_above_4 rfl 0 rfl ?_
    refine j_goto (tgt := 9) G dX7_above_5 (by decide) ?_
    exact ret _ _ _ _ dX7_above_9 rfl ⟨(by simp [mx0, c1]), rfl⟩
set_option maxHeartbeats 4000000 in
set_option maxRecDepth 100000 in
theorem cM_isNone (l : Launch) (D : va_G) (cA : Nat → ClassId) (q : Nat → Nat) (un : Nat → Nat) (ui : Nat → Int32) (ul : Nat → Int64) (ua : Nat → Nat → Int32) (co : Int32) (p0 : Int32) (hn : un 0 ≤ 20) : Ki l yX7_isNone cX7_isNone 2 .boolean 1 22 0 0 D cA [.ref (q 0), .int p0] (mW cA q un ui ul ua co) (fun r w' => r = bI (¬ VN (un 0) p0) ∧ w' = mW cA q un ui ul ua co) := by
  refine ent_i (own := RX7) (lv0 := [(0, .ref (q 0)), (1, .int p0)]) (by decide) rfl (Nat.le_of_ble_eq_true rfl) rfl ?_
  intro p e s m args below meth c A Q G hinit ret
  refine j_iload_n G dX7_isNone_0 rfl 1 rfl ?_
  refine j_iconst (v := 0) G dX7_isNone_1 (by decide) ?_
  refine j_aload_n G dX7_isNone_2 rfl 0 rfl ?_
  refine gfX7_7 (v := .int (nI (un 0))) G 0 rfl rfl dX7_isNone_3 ?_
  refine j_iconst (v := 1) G dX7_isNone_6 (by decide) ?_
  refine j_isub G dX7_isNone_7 ?_
  refine jS_i G (cM_in l D cA (mW cA q un ui ul ua co) p0 0 ((nI (un 0)) - 1)) gX7_63 hd_X7_in.2 ⟨Nat.le_of_ble_eq_true rfl, Nat.le_of_ble_eq_true rfl⟩ ⟨Nat.le_of_ble_eq_true rfl, Nat.le_of_ble_eq_true rfl⟩ rfl rfl (Nat.le_of_ble_eq_true rfl) dX7_isNone_8 (fun r w' hp => ?_)
  obtain ⟨rfl, rfl⟩ := hp
  refine j_ifb_ne (tgt := 18) G dX7_isNone_11 (by decide) (fun c11 => ?_) (fun c11 => ?_)
  · refine j_iconst (v := 0) G dX7_isNone_18 (by decide) ?_
    exact ret _ _ _ _ dX7_isNone_19 (by decide) ⟨(by rw [bI_congr (not_congr (VN_pred (by omega) p0).symm)]; simp [bI, c11]), rfl⟩
  · refine j_iconst (v := 1) G dX7_isNone_14 (by decide) ?_
    refine j_goto (tgt := 19) G dX7_isNone_15 (by decide) ?_
    exact ret _ _ _ _ dX7_isNone_19 (by decide) ⟨(by rw [bI_congr (not_congr (VN_pred (by omega) p0).symm)]; simp [bI, c11]), rfl⟩
set_option maxHeartbeats 4000000 in
set_option maxRecDepth 100000 in
theorem cM_adds (l : Launch) (D : va_G) (cA : Nat → ClassId) (q : Nat → Nat) (un : Nat → Nat) (ui : Nat → Int32) (ul : Nat → Int64) (ua : Nat → Nat → Int32) (co : Int32) (kd : Int32) (pr : Int32) (dp : Int32) (hn0 : un 0 < 20) : Ki l yX7_adds cX7_adds 4 .int 0 0 0 0 D cA [.ref (q 0), .int kd, .int pr, .int dp] (mW cA q un ui ul ua co) (fun r w' => r = nI (un 0) ∧ w' = mW cA q (up un 0 (un 0 + 1)) ui ul (up (up (up ua 0 (upd (ua 0) (un 0) kd)) 1 (upd (ua 1) (un 0) pr)) 2 (upd (ua 2) (un 0) dp)) co) := by
  refine ent_i (own := RX7) (lv0 := [(0, .ref (q 0)), (1, .int kd), (2, .int pr), (3, .int dp)]) (by decide) rfl (Nat.le_of_ble_eq_true rfl) rfl ?_
  intro p e s m args below meth c A Q G hinit ret
  refine j_aload_n G dX7_adds_0 rfl 0 rfl ?_
  refine gfX7_13 (v := .ref (q 1)) G 0 rfl rfl dX7_adds_1 ?_
  refine j_aload_n G dX7_adds_4 rfl 0 rfl ?_
  refine gfX7_7 (v := .int (nI (un 0))) G 0 rfl rfl dX7_adds_5 ?_
  refine j_iload_n G dX7_adds_8 rfl 1 rfl ?_
  refine j_iast (j := (un 0)) (w' := mW cA q un ui ul (up ua 0 (upd (ua 0) (un 0) kd)) co) G 1 rfl rfl (by omega) (Nat.le_of_ble_eq_true rfl) dX7_adds_9 rfl ?_
  refine j_aload_n G dX7_adds_10 rfl 0 rfl ?_
  refine gfX7_17 (v := .ref (q 2)) G 0 rfl rfl dX7_adds_11 ?_
  refine j_aload_n G dX7_adds_14 rfl 0 rfl ?_
  refine gfX7_7 (v := .int (nI (un 0))) G 0 rfl rfl dX7_adds_15 ?_
  refine j_iload_n G dX7_adds_18 rfl 2 rfl ?_
  refine j_iast (j := (un 0)) (w' := mW cA q un ui ul (up (up ua 0 (upd (ua 0) (un 0) kd)) 1 (upd (ua 1) (un 0) pr)) co) G 2 rfl rfl (by omega) (Nat.le_of_ble_eq_true rfl) dX7_adds_19 rfl ?_
  refine j_aload_n G dX7_adds_20 rfl 0 rfl ?_
  refine gfX7_20 (v := .ref (q 3)) G 0 rfl rfl dX7_adds_21 ?_
  refine j_aload_n G dX7_adds_24 rfl 0 rfl ?_
  refine gfX7_7 (v := .int (nI (un 0))) G 0 rfl rfl dX7_adds_25 ?_
  refine j_iload_n G dX7_adds_28 rfl 3 rfl ?_
  refine j_iast (j := (un 0)) (w' := mW cA q un ui ul (up (up (up ua 0 (upd (ua 0) (un 0) kd)) 1 (upd (ua 1) (un 0) pr)) 2 (upd (ua 2) (un 0) dp)) co) G 3 rfl rfl (by omega) (Nat.le_of_ble_eq_true rfl) dX7_adds_29 rfl ?_
  refine j_aload_n G dX7_adds_30 rfl 0 rfl ?_
  refine j_dup G dX7_adds_31 rfl ?_
  refine gfX7_7 (v := .int (nI (un 0))) G 0 rfl rfl dX7_adds_32 ?_
  refine j_iconst (v := 1) G dX7_adds_35 (by decide) ?_
  refine j_iadd G dX7_adds_36 ?_
  refine j_rwi (nI_add (un 0) 1) ?_
  refine pfX7_7 (w' := mW cA q (up un 0 (un 0 + 1)) ui ul (up (up (up ua 0 (upd (ua 0) (un 0) kd)) 1 (upd (ua 1) (un 0) pr)) 2 (upd (ua 2) (un 0) dp)) co) G 0 rfl rfl (Nat.le_of_ble_eq_true rfl) dX7_adds_37 rfl rfl ?_
  refine j_aload_n G dX7_adds_40 rfl 0 rfl ?_
  refine gfX7_7 (v := .int (nI (un 0 + 1))) G 0 rfl rfl dX7_adds_41 ?_
  refine j_iconst (v := 1) G dX7_adds_44 (by decide) ?_
  refine j_isub G dX7_adds_45 ?_
  refine j_rwi (nI_pred (un 0)) ?_
  exact ret _ _ _ _ dX7_adds_46 rfl ⟨rfl, rfl⟩
set_option maxHeartbeats 4000000 in
set_option maxRecDepth 100000 in
theorem cM_cannotAdd (l : Launch) (D : va_G) (cA : Nat → ClassId) (q : Nat → Nat) (un : Nat → Nat) (ui : Nat → Int32) (ul : Nat → Int64) (ua : Nat → Nat → Int32) (co : Int32) (pr : Int32) (ok : Prop) [Decidable ok] (hn : un 0 ≤ 20) : Ki l yX7_cannotAdd cX7_cannotAdd 3 .boolean 2 43 0 0 D cA [.ref (q 0), .int pr, .int (bI ok)] (mW cA q un ui ul ua co) (fun r w' => r = bI (¬ cfAdd (un 0) (ua 0) pr ok = 0) ∧ w' = mW cA q un ui ul ua (cfAdd (un 0) (ua 0) pr ok)) := by
  refine ent_i (own := RX7) (lv0 := [(0, .ref (q 0)), (1, .int pr), (2, .int (bI ok))]) (by decide) rfl (Nat.le_of_ble_eq_true rfl) rfl ?_
  intro p e s m args below meth c A Q G hinit ret
  refine j_aload_n G dX7_cannotAdd_0 rfl 0 rfl ?_
  refine j_aload_n G dX7_cannotAdd_1 rfl 0 rfl ?_
  refine j_iload_n G dX7_cannotAdd_2 rfl 1 rfl ?_
  refine jV_i G 7 0 (cM_isNone l D cA q un ui ul ua co pr hn) gX7_67 hd_X7_isNone ⟨Nat.le_of_ble_eq_true rfl, Nat.le_of_ble_eq_true rfl⟩ ⟨Nat.le_of_ble_eq_true rfl, Nat.le_of_ble_eq_true rfl⟩ rfl rfl (Nat.le_of_ble_eq_true rfl) rfl rfl dX7_cannotAdd_3 (fun r w' hp => ?_)
  obtain ⟨rfl, rfl⟩ := hp
  refine j_ifb_eq (tgt := 13) G dX7_cannotAdd_6 (by decide) (fun c6 => ?_) (fun c6 => ?_)
  · refine j_iload_n G dX7_cannotAdd_13 rfl 2 rfl ?_
    refine j_ifb_ne (tgt := 21) G dX7_cannotAdd_14 (by decide) (fun c14 => ?_) (fun c14 => ?_)
    · refine j_aload_n G dX7_cannotAdd_21 rfl 0 rfl ?_
      refine gfX7_13 (v := .ref (q 1)) G 0 rfl rfl dX7_cannotAdd_22 ?_
      refine j_iload_n G dX7_cannotAdd_25 rfl 1 rfl ?_
      refine j_iald G 1 rfl (VN.vp (Decidable.not_not.mp c6) (by omega) (by omega)) dX7_cannotAdd_26 ?_
      refine j_iconst (v := 2) G dX7_cannotAdd_27 (by decide) ?_
      refine j_icmp_ne (tgt := 35) G dX7_cannotAdd_28 (by decide) (fun c28 => ?_) (fun c28 => ?_)
      · refine j_aload_n G dX7_cannotAdd_35 rfl 0 rfl ?_
        refine gfX7_7 (v := .int (nI (un 0))) G 0 rfl rfl dX7_cannotAdd_36 ?_
        refine j_bipush (v := 20) G dX7_cannotAdd_39 (by decide) ?_
        refine j_icmp_ne (tgt := 48) G dX7_cannotAdd_41 (by decide) (fun c41 => ?_) (fun c41 => ?_)
        · refine j_iconst (v := 0) G dX7_cannotAdd_48 (by decide) ?_
          refine jV_i G 7 0 (cM_fails l D cA q un ui ul ua co 0) gX7_71 hd_X7_fails ⟨Nat.le_of_ble_eq_true rfl, Nat.le_of_ble_eq_true rfl⟩ ⟨Nat.le_of_ble_eq_true rfl, Nat.le_of_ble_eq_true rfl⟩ rfl rfl (Nat.le_of_ble_eq_true rfl) rfl rfl dX7_cannotAdd_49 (fun r w' hp => ?_)
          obtain ⟨rfl, rfl⟩ := hp
          refine j_rwi (show bI (¬ (0 : Int32) ≤ 0) = 0 from by decide) ?_
          exact ret _ _ _ _ dX7_cannotAdd_52 (by decide) ⟨(by simp [bI, cfAdd, c6, c14, c28, c41]), (by rw [show cfAdd (un 0) (ua 0) pr ok = 0 from (by simp [cfAdd, c6, c14, c28, c41])])⟩
        · refine j_iconst (v := 4) G dX7_cannotAdd_44 (by decide) ?_
          refine j_goto (tgt := 49) G dX7_cannotAdd_45 (by decide) ?_
          refine jV_i G 7 0 (cM_fails l D cA q un ui ul ua co 4) gX7_71 hd_X7_fails ⟨Nat.le_of_ble_eq_true rfl, Nat.le_of_ble_eq_true rfl⟩ ⟨Nat.le_of_ble_eq_true rfl, Nat.le_of_ble_eq_true rfl⟩ rfl rfl (Nat.le_of_ble_eq_true rfl) rfl rfl dX7_cannotAdd_49 (fun r w' hp => ?_)
          obtain ⟨rfl, rfl⟩ := hp
          refine j_rwi (show bI (¬ (4 : Int32) ≤ 0) = 1 from by decide) ?_
          exact ret _ _ _ _ dX7_cannotAdd_52 (by decide) ⟨(by simp [bI, cfAdd, c6, c14, c28, c41]), (by rw [show cfAdd (un 0) (ua 0) pr ok = 4 from (by simp [cfAdd, c6, c14, c28, c41])])⟩
      · refine j_iconst (v := 3) G dX7_cannotAdd_31 (by decide) ?_
        refine j_goto (tgt := 49) G dX7_cannotAdd_32 (by decide) ?_
        refine jV_i G 7 0 (cM_fails l D cA q un ui ul ua co 3) gX7_71 hd_X7_fails ⟨Nat.le_of_ble_eq_true rfl, Nat.le_of_ble_eq_true rfl⟩ ⟨Nat.le_of_ble_eq_true rfl, Nat.le_of_ble_eq_true rfl⟩ rfl rfl (Nat.le_of_ble_eq_true rfl) rfl rfl dX7_cannotAdd_49 (fun r w' hp => ?_)
        obtain ⟨rfl, rfl⟩ := hp
        refine j_rwi (show bI (¬ (3 : Int32) ≤ 0) = 1 from by decide) ?_
        exact ret _ _ _ _ dX7_cannotAdd_52 (by decide) ⟨(by simp [bI, cfAdd, c6, c14, c28]), (by rw [show cfAdd (un 0) (ua 0) pr ok = 3 from (by simp [cfAdd, c6, c14, c28])])⟩
    · refine j_iconst (v := 2) G dX7_cannotAdd_17 (by decide) ?_
      refine j_goto (tgt := 49) G dX7_cannotAdd_18 (by decide) ?_
      refine jV_i G 7 0 (cM_fails l D cA q un ui ul ua co 2) gX7_71 hd_X7_fails ⟨Nat.le_of_ble_eq_true rfl, Nat.le_of_ble_eq_true rfl⟩ ⟨Nat.le_of_ble_eq_true rfl, Nat.le_of_ble_eq_true rfl⟩ rfl rfl (Nat.le_of_ble_eq_true rfl) rfl rfl dX7_cannotAdd_49 (fun r w' hp => ?_)
      obtain ⟨rfl, rfl⟩ := hp
      refine j_rwi (show bI (¬ (2 : Int32) ≤ 0) = 1 from by decide) ?_
      exact ret _ _ _ _ dX7_cannotAdd_52 (by decide) ⟨(by simp [bI, cfAdd, c6, c14]), (by rw [show cfAdd (un 0) (ua 0) pr ok = 2 from (by simp [cfAdd, c6, c14])])⟩
  · refine j_iconst (v := 1) G dX7_cannotAdd_9 (by decide) ?_
    refine j_goto (tgt := 49) G dX7_cannotAdd_10 (by decide) ?_
    refine jV_i G 7 0 (cM_fails l D cA q un ui ul ua co 1) gX7_71 hd_X7_fails ⟨Nat.le_of_ble_eq_true rfl, Nat.le_of_ble_eq_true rfl⟩ ⟨Nat.le_of_ble_eq_true rfl, Nat.le_of_ble_eq_true rfl⟩ rfl rfl (Nat.le_of_ble_eq_true rfl) rfl rfl dX7_cannotAdd_49 (fun r w' hp => ?_)
    obtain ⟨rfl, rfl⟩ := hp
    refine j_rwi (show bI (¬ (1 : Int32) ≤ 0) = 1 from by decide) ?_
    exact ret _ _ _ _ dX7_cannotAdd_52 (by decide) ⟨(by simp [bI, cfAdd, c6]), (by rw [show cfAdd (un 0) (ua 0) pr ok = 1 from (by simp [cfAdd, c6])])⟩
set_option maxHeartbeats 4000000 in
set_option maxRecDepth 100000 in
theorem cM_addJunction (l : Launch) (D : va_G) (cA : Nat → ClassId) (q : Nat → Nat) (un : Nat → Nat) (ui : Nat → Int32) (ul : Nat → Int64) (ua : Nat → Nat → Int32) (co : Int32) (pr : Int32) (dp : Int32) (hn : un 0 ≤ 20) : Ki l yX7_addJunction cX7_addJunction 3 .int 3 65 0 0 D cA [.ref (q 0), .int pr, .int dp] (mW cA q un ui ul ua co) (fun r w' => PM (cfAdd (un 0) (ua 0) pr (RG 0 20 dp)) r (nI (un 0)) w' (mW cA q (up un 0 (un 0 + 1)) ui ul (up (up (up ua 0 (upd (ua 0) (un 0) 1)) 1 (upd (ua 1) (un 0) pr)) 2 (upd (ua 2) (un 0) dp)) 0) (fun co => mW cA q un ui ul ua co)) := by
  refine ent_i (own := RX7) (lv0 := [(0, .ref (q 0)), (1, .int pr), (2, .int dp)]) (by decide) rfl (Nat.le_of_ble_eq_true rfl) rfl ?_
  intro p e s m args below meth c A Q G hinit ret
  refine j_aload_n G dX7_addJunction_0 rfl 0 rfl ?_
  refine j_iload_n G dX7_addJunction_1 rfl 1 rfl ?_
  refine j_iload_n G dX7_addJunction_2 rfl 2 rfl ?_
  refine j_iconst (v := 0) G dX7_addJunction_3 (by decide) ?_
  refine j_bipush (v := 20) G dX7_addJunction_4 (by decide) ?_
  refine jS_i G (cM_in l D cA (mW cA q un ui ul ua co) dp 0 20) gX7_63 hd_X7_in.2 ⟨Nat.le_of_ble_eq_true rfl, Nat.le_of_ble_eq_true rfl⟩ ⟨Nat.le_of_ble_eq_true rfl, Nat.le_of_ble_eq_true rfl⟩ rfl rfl (Nat.le_of_ble_eq_true rfl) dX7_addJunction_6 (fun r w' hp => ?_)
  obtain ⟨rfl, rfl⟩ := hp
  refine jV_i G 7 0 (cM_cannotAdd l D cA q un ui ul ua co pr (RG 0 20 dp) hn) gX7_74 hd_X7_cannotAdd ⟨Nat.le_of_ble_eq_true rfl, Nat.le_of_ble_eq_true rfl⟩ ⟨Nat.le_of_ble_eq_true rfl, Nat.le_of_ble_eq_true rfl⟩ rfl rfl (Nat.le_of_ble_eq_true rfl) rfl rfl dX7_addJunction_9 (fun r w' hp => ?_)
  obtain ⟨rfl, rfl⟩ := hp
  refine j_ifb_eq (tgt := 19) G dX7_addJunction_12 (by decide) (fun c12 => ?_) (fun c12 => ?_)
  · refine j_aload_n G dX7_addJunction_19 rfl 0 rfl ?_
    refine j_iconst (v := 1) G dX7_addJunction_20 (by decide) ?_
    refine j_iload_n G dX7_addJunction_21 rfl 1 rfl ?_
    refine j_iload_n G dX7_addJunction_22 rfl 2 rfl ?_
    refine jV_i G 7 0 (cM_adds l D cA q un ui ul ua (cfAdd (un 0) (ua 0) pr (RG 0 20 dp)) 1 pr dp (add_room hn (Decidable.not_not.mp c12))) gX7_78 hd_X7_adds ⟨Nat.le_of_ble_eq_true rfl, Nat.le_of_ble_eq_true rfl⟩ ⟨Nat.le_of_ble_eq_true rfl, Nat.le_of_ble_eq_true rfl⟩ rfl rfl (Nat.le_of_ble_eq_true rfl) rfl rfl dX7_addJunction_23 (fun r w' hp => ?_)
    obtain ⟨rfl, rfl⟩ := hp
    refine j_w (w' := mW cA q (up un 0 (un 0 + 1)) ui ul (up (up (up ua 0 (upd (ua 0) (un 0) 1)) 1 (upd (ua 1) (un 0) pr)) 2 (upd (ua 2) (un 0) dp)) (cfAdd (un 0) (ua 0) pr (RG 0 20 dp))) rfl ?_
    exact ret _ _ _ _ dX7_addJunction_26 rfl (PM_ok (Decidable.not_not.mp c12) rfl (by rw [Decidable.not_not.mp c12]))
  · refine j_iconst (v := 0) G dX7_addJunction_15 (by decide) ?_
    refine j_goto (tgt := 26) G dX7_addJunction_16 (by decide) ?_
    exact ret _ _ _ _ dX7_addJunction_26 rfl (PM_no (cfAdd (un 0) (ua 0) pr (RG 0 20 dp)) rfl c12 rfl)
set_option maxHeartbeats 4000000 in
set_option maxRecDepth 100000 in
theorem cM_addTap (l : Launch) (D : va_G) (cA : Nat → ClassId) (q : Nat → Nat) (un : Nat → Nat) (ui : Nat → Int32) (ul : Nat → Int64) (ua : Nat → Nat → Int32) (co : Int32) (pr : Int32) (dp : Int32) (rt : Int32) (sw : Int32) (sh : Int32) (hn : un 0 ≤ 20) : Ki l yX7_addTap cX7_addTap 6 .int 3 65 0 0 D cA [.ref (q 0), .int pr, .int dp, .int rt, .int sw, .int sh] (mW cA q un ui ul ua co) (fun r w' => PM (cfAdd (un 0) (ua 0) pr (okTap dp rt sw sh)) r (nI (un 0)) w' (mW cA q (up un 0 (un 0 + 1)) ui ul (up (up (up (up (up (up ua 0 (upd (ua 0) (un 0) 2)) 1 (upd (ua 1) (un 0) pr)) 2 (upd (ua 2) (un 0) dp)) 3 (upd (ua 3) (un 0) rt)) 4 (upd (ua 4) (un 0) sw)) 5 (upd (ua 5) (un 0) sh)) 0) (fun co => mW cA q un ui ul ua co)) := by
  refine ent_i (own := RX7) (lv0 := [(0, .ref (q 0)), (1, .int pr), (2, .int dp), (3, .int rt), (4, .int sw), (5, .int sh)]) (by decide) rfl (Nat.le_of_ble_eq_true rfl) rfl ?_
  intro p e s m args below meth c A Q G hinit ret
  refine j_aload_n G dX7_addTap_0 rfl 0 rfl ?_
  refine j_iload_n G dX7_addTap_1 rfl 1 rfl ?_
  refine j_iload_n G dX7_addTap_2 rfl 2 rfl ?_
  refine j_iconst (v := 0) G dX7_addTap_3 (by decide) ?_
  refine j_bipush (v := 20) G dX7_addTap_4 (by decide) ?_
  refine jS_i G (cM_in l D cA (mW cA q un ui ul ua co) dp 0 20) gX7_63 hd_X7_in.2 ⟨Nat.le_of_ble_eq_true rfl, Nat.le_of_ble_eq_true rfl⟩ ⟨Nat.le_of_ble_eq_true rfl, Nat.le_of_ble_eq_true rfl⟩ rfl rfl (Nat.le_of_ble_eq_true rfl) dX7_addTap_6 (fun r w' hp => ?_)
  obtain ⟨rfl, rfl⟩ := hp
  refine j_ifb_eq (tgt := 47) G dX7_addTap_9 (by decide) (fun c9 => ?_) (fun c9 => ?_)
  · refine j_iconst (v := 0) G dX7_addTap_47 (by decide) ?_
    refine j_rwi (bI_f (p := okTap dp rt sw sh) (fun h => c9 (by first | exact h.1 | exact h.2.1 | exact h.2.2.1 | exact h.2.2.2))) ?_
    refine jV_i G 7 0 (cM_cannotAdd l D cA q un ui ul ua co pr (okTap dp rt sw sh) hn) gX7_74 hd_X7_cannotAdd ⟨Nat.le_of_ble_eq_true rfl, Nat.le_of_ble_eq_true rfl⟩ ⟨Nat.le_of_ble_eq_true rfl, Nat.le_of_ble_eq_true rfl⟩ rfl rfl (Nat.le_of_ble_eq_true rfl) rfl rfl dX7_addTap_48 (fun r w' hp => ?_)
    obtain ⟨rfl, rfl⟩ := hp
    refine j_ifb_eq (tgt := 56) G dX7_addTap_51 (by decide) (fun c51 => ?_) (fun c51 => ?_)
    · have hroom := add_room hn (Decidable.not_not.mp c51)
      refine j_aload_n G dX7_addTap_56 rfl 0 rfl ?_
      refine gfX7_23 (v := .ref (q 4)) G 0 rfl rfl dX7_addTap_57 ?_
      refine j_aload_n G dX7_addTap_60 rfl 0 rfl ?_
      refine gfX7_7 (v := .int (nI (un 0))) G 0 rfl rfl dX7_addTap_61 ?_
      refine j_iload_n G dX7_addTap_64 rfl 3 rfl ?_
      refine j_iast (j := (un 0)) (w' := mW cA q un ui ul (up ua 3 (upd (ua 3) (un 0) rt)) (cfAdd (un 0) (ua 0) pr (okTap dp rt sw sh))) G 4 rfl rfl hroom (Nat.le_of_ble_eq_true rfl) dX7_addTap_65 rfl ?_
      refine j_aload_n G dX7_addTap_66 rfl 0 rfl ?_
      refine gfX7_26 (v := .ref (q 5)) G 0 rfl rfl dX7_addTap_67 ?_
      refine j_aload_n G dX7_addTap_70 rfl 0 rfl ?_
      refine gfX7_7 (v := .int (nI (un 0))) G 0 rfl rfl dX7_addTap_71 ?_
      refine j_iload G dX7_addTap_74 4 rfl ?_
      refine j_iast (j := (un 0)) (w' := mW cA q un ui ul (up (up ua 3 (upd (ua 3) (un 0) rt)) 4 (upd (ua 4) (un 0) sw)) (cfAdd (un 0) (ua 0) pr (okTap dp rt sw sh))) G 5 rfl rfl hroom (Nat.le_of_ble_eq_true rfl) dX7_addTap_76 rfl ?_
      refine j_aload_n G dX7_addTap_77 rfl 0 rfl ?_
      refine gfX7_29 (v := .ref (q 6)) G 0 rfl rfl dX7_addTap_78 ?_
      refine j_aload_n G dX7_addTap_81 rfl 0 rfl ?_
      refine gfX7_7 (v := .int (nI (un 0))) G 0 rfl rfl dX7_addTap_82 ?_
      refine j_iload G dX7_addTap_85 5 rfl ?_
      refine j_iast (j := (un 0)) (w' := mW cA q un ui ul (up (up (up ua 3 (upd (ua 3) (un 0) rt)) 4 (upd (ua 4) (un 0) sw)) 5 (upd (ua 5) (un 0) sh)) (cfAdd (un 0) (ua 0) pr (okTap dp rt sw sh))) G 6 rfl rfl hroom (Nat.le_of_ble_eq_true rfl) dX7_addTap_87 rfl ?_
      refine j_aload_n G dX7_addTap_88 rfl 0 rfl ?_
      refine j_iconst (v := 2) G dX7_addTap_89 (by decide) ?_
      refine j_iload_n G dX7_addTap_90 rfl 1 rfl ?_
      refine j_iload_n G dX7_addTap_91 rfl 2 rfl ?_
      refine jV_i G 7 0 (cM_adds l D cA q un ui ul (up (up (up ua 3 (upd (ua 3) (un 0) rt)) 4 (upd (ua 4) (un 0) sw)) 5 (upd (ua 5) (un 0) sh)) (cfAdd (un 0) (ua 0) pr (okTap dp rt sw sh)) 2 pr dp hroom) gX7_78 hd_X7_adds ⟨Nat.le_of_ble_eq_true rfl, Nat.le_of_ble_eq_true rfl⟩ ⟨Nat.le_of_ble_eq_true rfl, Nat.le_of_ble_eq_true rfl⟩ rfl rfl (Nat.le_of_ble_eq_true rfl) rfl rfl dX7_addTap_92 (fun r w' hp => ?_)
      obtain ⟨rfl, rfl⟩ := hp
      refine j_w (w' := mW cA q (up un 0 (un 0 + 1)) ui ul (up (up (up (up (up (up ua 0 (upd (ua 0) (un 0) 2)) 1 (upd (ua 1) (un 0) pr)) 2 (upd (ua 2) (un 0) dp)) 3 (upd (ua 3) (un 0) rt)) 4 (upd (ua 4) (un 0) sw)) 5 (upd (ua 5) (un 0) sh)) (cfAdd (un 0) (ua 0) pr (okTap dp rt sw sh))) rfl ?_
      exact ret _ _ _ _ dX7_addTap_95 rfl (PM_ok (Decidable.not_not.mp c51) rfl (by rw [Decidable.not_not.mp c51]))
    · refine j_iconst (v := 0) G dX7_addTap_54 (by decide) ?_
      exact ret _ _ _ _ dX7_addTap_55 rfl (PM_no (cfAdd (un 0) (ua 0) pr (okTap dp rt sw sh)) rfl c51 rfl)
  · refine j_iload_n G dX7_addTap_12 rfl 3 rfl ?_
    refine j_iconst (v := 1) G dX7_addTap_13 (by decide) ?_
    refine j_bipush (v := 20) G dX7_addTap_14 (by decide) ?_
    refine jS_i G (cM_in l D cA (mW cA q un ui ul ua co) rt 1 20) gX7_63 hd_X7_in.2 ⟨Nat.le_of_ble_eq_true rfl, Nat.le_of_ble_eq_true rfl⟩ ⟨Nat.le_of_ble_eq_true rfl, Nat.le_of_ble_eq_true rfl⟩ rfl rfl (Nat.le_of_ble_eq_true rfl) dX7_addTap_16 (fun r w' hp => ?_)
    obtain ⟨rfl, rfl⟩ := hp
    refine j_ifb_eq (tgt := 47) G dX7_addTap_19 (by decide) (fun c19 => ?_) (fun c19 => ?_)
    · refine j_iconst (v := 0) G dX7_addTap_47 (by decide) ?_
      refine j_rwi (bI_f (p := okTap dp rt sw sh) (fun h => c19 (by first | exact h.1 | exact h.2.1 | exact h.2.2.1 | exact h.2.2.2))) ?_
      refine jV_i G 7 0 (cM_cannotAdd l D cA q un ui ul ua co pr (okTap dp rt sw sh) hn) gX7_74 hd_X7_cannotAdd ⟨Nat.le_of_ble_eq_true rfl, Nat.le_of_ble_eq_true rfl⟩ ⟨Nat.le_of_ble_eq_true rfl, Nat.le_of_ble_eq_true rfl⟩ rfl rfl (Nat.le_of_ble_eq_true rfl) rfl rfl dX7_addTap_48 (fun r w' hp => ?_)
      obtain ⟨rfl, rfl⟩ := hp
      refine j_ifb_eq (tgt := 56) G dX7_addTap_51 (by decide) (fun c51 => ?_) (fun c51 => ?_)
      · have hroom := add_room hn (Decidable.not_not.mp c51)
        refine j_aload_n G dX7_addTap_56 rfl 0 rfl ?_
        refine gfX7_23 (v := .ref (q 4)) G 0 rfl rfl dX7_addTap_57 ?_
        refine j_aload_n G dX7_addTap_60 rfl 0 rfl ?_
        refine gfX7_7 (v := .int (nI (un 0))) G 0 rfl rfl dX7_addTap_61 ?_
        refine j_iload_n G dX7_addTap_64 rfl 3 rfl ?_
        refine j_iast (j := (un 0)) (w' := mW cA q un ui ul (up ua 3 (upd (ua 3) (un 0) rt)) (cfAdd (un 0) (ua 0) pr (okTap dp rt sw sh))) G 4 rfl rfl hroom (Nat.le_of_ble_eq_true rfl) dX7_addTap_65 rfl ?_
        refine j_aload_n G dX7_addTap_66 rfl 0 rfl ?_
        refine gfX7_26 (v := .ref (q 5)) G 0 rfl rfl dX7_addTap_67 ?_
        refine j_aload_n G dX7_addTap_70 rfl 0 rfl ?_
        refine gfX7_7 (v := .int (nI (un 0))) G 0 rfl rfl dX7_addTap_71 ?_
        refine j_iload G dX7_addTap_74 4 rfl ?_
        refine j_iast (j := (un 0)) (w' := mW cA q un ui ul (up (up ua 3 (upd (ua 3) (un 0) rt)) 4 (upd (ua 4) (un 0) sw)) (cfAdd (un 0) (ua 0) pr (okTap dp rt sw sh))) G 5 rfl rfl hroom (Nat.le_of_ble_eq_true rfl) dX7_addTap_76 rfl ?_
        refine j_aload_n G dX7_addTap_77 rfl 0 rfl ?_
        refine gfX7_29 (v := .ref (q 6)) G 0 rfl rfl dX7_addTap_78 ?_
        refine j_aload_n G dX7_addTap_81 rfl 0 rfl ?_
        refine gfX7_7 (v := .int (nI (un 0))) G 0 rfl rfl dX7_addTap_82 ?_
        refine j_iload G dX7_addTap_85 5 rfl ?_
        refine j_iast (j := (un 0)) (w' := mW cA q un ui ul (up (up (up ua 3 (upd (ua 3) (un 0) rt)) 4 (upd (ua 4) (un 0) sw)) 5 (upd (ua 5) (un 0) sh)) (cfAdd (un 0) (ua 0) pr (okTap dp rt sw sh))) G 6 rfl rfl hroom (Nat.le_of_ble_eq_true rfl) dX7_addTap_87 rfl ?_
        refine j_aload_n G dX7_addTap_88 rfl 0 rfl ?_
        refine j_iconst (v := 2) G dX7_addTap_89 (by decide) ?_
        refine j_iload_n G dX7_addTap_90 rfl 1 rfl ?_
        refine j_iload_n G dX7_addTap_91 rfl 2 rfl ?_
        refine jV_i G 7 0 (cM_adds l D cA q un ui ul (up (up (up ua 3 (upd (ua 3) (un 0) rt)) 4 (upd (ua 4) (un 0) sw)) 5 (upd (ua 5) (un 0) sh)) (cfAdd (un 0) (ua 0) pr (okTap dp rt sw sh)) 2 pr dp hroom) gX7_78 hd_X7_adds ⟨Nat.le_of_ble_eq_true rfl, Nat.le_of_ble_eq_true rfl⟩ ⟨Nat.le_of_ble_eq_true rfl, Nat.le_of_ble_eq_true rfl⟩ rfl rfl (Nat.le_of_ble_eq_true rfl) rfl rfl dX7_addTap_92 (fun r w' hp => ?_)
        obtain ⟨rfl, rfl⟩ := hp
        refine j_w (w' := mW cA q (up un 0 (un 0 + 1)) ui ul (up (up (up (up (up (up ua 0 (upd (ua 0) (un 0) 2)) 1 (upd (ua 1) (un 0) pr)) 2 (upd (ua 2) (un 0) dp)) 3 (upd (ua 3) (un 0) rt)) 4 (upd (ua 4) (un 0) sw)) 5 (upd (ua 5) (un 0) sh)) (cfAdd (un 0) (ua 0) pr (okTap dp rt sw sh))) rfl ?_
        exact ret _ _ _ _ dX7_addTap_95 rfl (PM_ok (Decidable.not_not.mp c51) rfl (by rw [Decidable.not_not.mp c51]))
      · refine j_iconst (v := 0) G dX7_addTap_54 (by decide) ?_
        exact ret _ _ _ _ dX7_addTap_55 rfl (PM_no (cfAdd (un 0) (ua 0) pr (okTap dp rt sw sh)) rfl c51 rfl)
    · refine j_iload G dX7_addTap_22 4 rfl ?_
      refine j_iconst (v := 1) G dX7_addTap_24 (by decide) ?_
      refine j_bipush (v := 6) G dX7_addTap_25 (by decide) ?_
      refine jS_i G (cM_in l D cA (mW cA q un ui ul ua co) sw 1 6) gX7_63 hd_X7_in.2 ⟨Nat.le_of_ble_eq_true rfl, Nat.le_of_ble_eq_true rfl⟩ ⟨Nat.le_of_ble_eq_true rfl, Nat.le_of_ble_eq_true rfl⟩ rfl rfl (Nat.le_of_ble_eq_true rfl) dX7_addTap_27 (fun r w' hp => ?_)
      obtain ⟨rfl, rfl⟩ := hp
      refine j_ifb_eq (tgt := 47) G dX7_addTap_30 (by decide) (fun c30 => ?_) (fun c30 => ?_)
      · refine j_iconst (v := 0) G dX7_addTap_47 (by decide) ?_
        refine j_rwi (bI_f (p := okTap dp rt sw sh) (fun h => c30 (by first | exact h.1 | exact h.2.1 | exact h.2.2.1 | exact h.2.2.2))) ?_
        refine jV_i G 7 0 (cM_cannotAdd l D cA q un ui ul ua co pr (okTap dp rt sw sh) hn) gX7_74 hd_X7_cannotAdd ⟨Nat.le_of_ble_eq_true rfl, Nat.le_of_ble_eq_true rfl⟩ ⟨Nat.le_of_ble_eq_true rfl, Nat.le_of_ble_eq_true rfl⟩ rfl rfl (Nat.le_of_ble_eq_true rfl) rfl rfl dX7_addTap_48 (fun r w' hp => ?_)
        obtain ⟨rfl, rfl⟩ := hp
        refine j_ifb_eq (tgt := 56) G dX7_addTap_51 (by decide) (fun c51 => ?_) (fun c51 => ?_)
        · have hroom := add_room hn (Decidable.not_not.mp c51)
          refine j_aload_n G dX7_addTap_56 rfl 0 rfl ?_
          refine gfX7_23 (v := .ref (q 4)) G 0 rfl rfl dX7_addTap_57 ?_
          refine j_aload_n G dX7_addTap_60 rfl 0 rfl ?_
          refine gfX7_7 (v := .int (nI (un 0))) G 0 rfl rfl dX7_addTap_61 ?_
          refine j_iload_n G dX7_addTap_64 rfl 3 rfl ?_
          refine j_iast (j := (un 0)) (w' := mW cA q un ui ul (up ua 3 (upd (ua 3) (un 0) rt)) (cfAdd (un 0) (ua 0) pr (okTap dp rt sw sh))) G 4 rfl rfl hroom (Nat.le_of_ble_eq_true rfl) dX7_addTap_65 rfl ?_
          refine j_aload_n G dX7_addTap_66 rfl 0 rfl ?_
          refine gfX7_26 (v := .ref (q 5)) G 0 rfl rfl dX7_addTap_67 ?_
          refine j_aload_n G dX7_addTap_70 rfl 0 rfl ?_
          refine gfX7_7 (v := .int (nI (un 0))) G 0 rfl rfl dX7_addTap_71 ?_
          refine j_iload G dX7_addTap_74 4 rfl ?_
          refine j_iast (j := (un 0)) (w' := mW cA q un ui ul (up (up ua 3 (upd (ua 3) (un 0) rt)) 4 (upd (ua 4) (un 0) sw)) (cfAdd (un 0) (ua 0) pr (okTap dp rt sw sh))) G 5 rfl rfl hroom (Nat.le_of_ble_eq_true rfl) dX7_addTap_76 rfl ?_
          refine j_aload_n G dX7_addTap_77 rfl 0 rfl ?_
          refine gfX7_29 (v := .ref (q 6)) G 0 rfl rfl dX7_addTap_78 ?_
          refine j_aload_n G dX7_addTap_81 rfl 0 rfl ?_
          refine gfX7_7 (v := .int (nI (un 0))) G 0 rfl rfl dX7_addTap_82 ?_
          refine j_iload G dX7_addTap_85 5 rfl ?_
          refine j_iast (j := (un 0)) (w' := mW cA q un ui ul (up (up (up ua 3 (upd (ua 3) (un 0) rt)) 4 (upd (ua 4) (un 0) sw)) 5 (upd (ua 5) (un 0) sh)) (cfAdd (un 0) (ua 0) pr (okTap dp rt sw sh))) G 6 rfl rfl hroom (Nat.le_of_ble_eq_true rfl) dX7_addTap_87 rfl ?_
          refine j_aload_n G dX7_addTap_88 rfl 0 rfl ?_
          refine j_iconst (v := 2) G dX7_addTap_89 (by decide) ?_
          refine j_iload_n G dX7_addTap_90 rfl 1 rfl ?_
          refine j_iload_n G dX7_addTap_91 rfl 2 rfl ?_
          refine jV_i G 7 0 (cM_adds l D cA q un ui ul (up (up (up ua 3 (upd (ua 3) (un 0) rt)) 4 (upd (ua 4) (un 0) sw)) 5 (upd (ua 5) (un 0) sh)) (cfAdd (un 0) (ua 0) pr (okTap dp rt sw sh)) 2 pr dp hroom) gX7_78 hd_X7_adds ⟨Nat.le_of_ble_eq_true rfl, Nat.le_of_ble_eq_true rfl⟩ ⟨Nat.le_of_ble_eq_true rfl, Nat.le_of_ble_eq_true rfl⟩ rfl rfl (Nat.le_of_ble_eq_true rfl) rfl rfl dX7_addTap_92 (fun r w' hp => ?_)
          obtain ⟨rfl, rfl⟩ := hp
          refine j_w (w' := mW cA q (up un 0 (un 0 + 1)) ui ul (up (up (up (up (up (up ua 0 (upd (ua 0) (un 0) 2)) 1 (upd (ua 1) (un 0) pr)) 2 (upd (ua 2) (un 0) dp)) 3 (upd (ua 3) (un 0) rt)) 4 (upd (ua 4) (un 0) sw)) 5 (upd (ua 5) (un 0) sh)) (cfAdd (un 0) (ua 0) pr (okTap dp rt sw sh))) rfl ?_
          exact ret _ _ _ _ dX7_addTap_95 rfl (PM_ok (Decidable.not_not.mp c51) rfl (by rw [Decidable.not_not.mp c51]))
        · refine j_iconst (v := 0) G dX7_addTap_54 (by decide) ?_
          exact ret _ _ _ _ dX7_addTap_55 rfl (PM_no (cfAdd (un 0) (ua 0) pr (okTap dp rt sw sh)) rfl c51 rfl)
      · refine j_iload G dX7_addTap_33 5 rfl ?_
        refine j_iconst (v := 0) G dX7_addTap_35 (by decide) ?_
        refine j_iconst (v := 5) G dX7_addTap_36 (by decide) ?_
        refine jS_i G (cM_in l D cA (mW cA q un ui ul ua co) sh 0 5) gX7_63 hd_X7_in.2 ⟨Nat.le_of_ble_eq_true rfl, Nat.le_of_ble_eq_true rfl⟩ ⟨Nat.le_of_ble_eq_true rfl, Nat.le_of_ble_eq_true rfl⟩ rfl rfl (Nat.le_of_ble_eq_true rfl) dX7_addTap_37 (fun r w' hp => ?_)
        obtain ⟨rfl, rfl⟩ := hp
        refine j_ifb_eq (tgt := 47) G dX7_addTap_40 (by decide) (fun c40 => ?_) (fun c40 => ?_)
        · refine j_iconst (v := 0) G dX7_addTap_47 (by decide) ?_
          refine j_rwi (bI_f (p := okTap dp rt sw sh) (fun h => c40 (by first | exact h.1 | exact h.2.1 | exact h.2.2.1 | exact h.2.2.2))) ?_
          refine jV_i G 7 0 (cM_cannotAdd l D cA q un ui ul ua co pr (okTap dp rt sw sh) hn) gX7_74 hd_X7_cannotAdd ⟨Nat.le_of_ble_eq_true rfl, Nat.le_of_ble_eq_true rfl⟩ ⟨Nat.le_of_ble_eq_true rfl, Nat.le_of_ble_eq_true rfl⟩ rfl rfl (Nat.le_of_ble_eq_true rfl) rfl rfl dX7_addTap_48 (fun r w' hp => ?_)
          obtain ⟨rfl, rfl⟩ := hp
          refine j_ifb_eq (tgt := 56) G dX7_addTap_51 (by decide) (fun c51 => ?_) (fun c51 => ?_)
          · have hroom := add_room hn (Decidable.not_not.mp c51)
            refine j_aload_n G dX7_addTap_56 rfl 0 rfl ?_
            refine gfX7_23 (v := .ref (q 4)) G 0 rfl rfl dX7_addTap_57 ?_
            refine j_aload_n G dX7_addTap_60 rfl 0 rfl ?_
            refine gfX7_7 (v := .int (nI (un 0))) G 0 rfl rfl dX7_addTap_61 ?_
            refine j_iload_n G dX7_addTap_64 rfl 3 rfl ?_
            refine j_iast (j := (un 0)) (w' := mW cA q un ui ul (up ua 3 (upd (ua 3) (un 0) rt)) (cfAdd (un 0) (ua 0) pr (okTap dp rt sw sh))) G 4 rfl rfl hroom (Nat.le_of_ble_eq_true rfl) dX7_addTap_65 rfl ?_
            refine j_aload_n G dX7_addTap_66 rfl 0 rfl ?_
            refine gfX7_26 (v := .ref (q 5)) G 0 rfl rfl dX7_addTap_67 ?_
            refine j_aload_n G dX7_addTap_70 rfl 0 rfl ?_
            refine gfX7_7 (v := .int (nI (un 0))) G 0 rfl rfl dX7_addTap_71 ?_
            refine j_iload G dX7_addTap_74 4 rfl ?_
            refine j_iast (j := (un 0)) (w' := mW cA q un ui ul (up (up ua 3 (upd (ua 3) (un 0) rt)) 4 (upd (ua 4) (un 0) sw)) (cfAdd (un 0) (ua 0) pr (okTap dp rt sw sh))) G 5 rfl rfl hroom (Nat.le_of_ble_eq_true rfl) dX7_addTap_76 rfl ?_
            refine j_aload_n G dX7_addTap_77 rfl 0 rfl ?_
            refine gfX7_29 (v := .ref (q 6)) G 0 rfl rfl dX7_addTap_78 ?_
            refine j_aload_n G dX7_addTap_81 rfl 0 rfl ?_
            refine gfX7_7 (v := .int (nI (un 0))) G 0 rfl rfl dX7_addTap_82 ?_
            refine j_iload G dX7_addTap_85 5 rfl ?_
            refine j_iast (j := (un 0)) (w' := mW cA q un ui ul (up (up (up ua 3 (upd (ua 3) (un 0) rt)) 4 (upd (ua 4) (un 0) sw)) 5 (upd (ua 5) (un 0) sh)) (cfAdd (un 0) (ua 0) pr (okTap dp rt sw sh))) G 6 rfl rfl hroom (Nat.le_of_ble_eq_true rfl) dX7_addTap_87 rfl ?_
            refine j_aload_n G dX7_addTap_88 rfl 0 rfl ?_
            refine j_iconst (v := 2) G dX7_addTap_89 (by decide) ?_
            refine j_iload_n G dX7_addTap_90 rfl 1 rfl ?_
            refine j_iload_n G dX7_addTap_91 rfl 2 rfl ?_
            refine jV_i G 7 0 (cM_adds l D cA q un ui ul (up (up (up ua 3 (upd (ua 3) (un 0) rt)) 4 (upd (ua 4) (un 0) sw)) 5 (upd (ua 5) (un 0) sh)) (cfAdd (un 0) (ua 0) pr (okTap dp rt sw sh)) 2 pr dp hroom) gX7_78 hd_X7_adds ⟨Nat.le_of_ble_eq_true rfl, Nat.le_of_ble_eq_true rfl⟩ ⟨Nat.le_of_ble_eq_true rfl, Nat.le_of_ble_eq_true rfl⟩ rfl rfl (Nat.le_of_ble_eq_true rfl) rfl rfl dX7_addTap_92 (fun r w' hp => ?_)
            obtain ⟨rfl, rfl⟩ := hp
            refine j_w (w' := mW cA q (up un 0 (un 0 + 1)) ui ul (up (up (up (up (up (up ua 0 (upd (ua 0) (un 0) 2)) 1 (upd (ua 1) (un 0) pr)) 2 (upd (ua 2) (un 0) dp)) 3 (upd (ua 3) (un 0) rt)) 4 (upd (ua 4) (un 0) sw)) 5 (upd (ua 5) (un 0) sh)) (cfAdd (un 0) (ua 0) pr (okTap dp rt sw sh))) rfl ?_
            exact ret _ _ _ _ dX7_addTap_95 rfl (PM_ok (Decidable.not_not.mp c51) rfl (by rw [Decidable.not_not.mp c51]))
          · refine j_iconst (v := 0) G dX7_addTap_54 (by decide) ?_
            exact ret _ _ _ _ dX7_addTap_55 rfl (PM_no (cfAdd (un 0) (ua 0) pr (okTap dp rt sw sh)) rfl c51 rfl)
        · refine j_iconst (v := 1) G dX7_addTap_43 (by decide) ?_
          refine j_goto (tgt := 48) G dX7_addTap_44 (by decide) ?_
          refine j_rwi (bI_t (p := okTap dp rt sw sh) ⟨c9, c19, c30, c40⟩) ?_
          refine jV_i G 7 0 (cM_cannotAdd l D cA q un ui ul ua co pr (okTap dp rt sw sh) hn) gX7_74 hd_X7_cannotAdd ⟨Nat.le_of_ble_eq_true rfl, Nat.le_of_ble_eq_true rfl⟩ ⟨Nat.le_of_ble_eq_true rfl, Nat.le_of_ble_eq_true rfl⟩ rfl rfl (Nat.le_of_ble_eq_true rfl) rfl rfl dX7_addTap_48 (fun r w' hp => ?_)
          obtain ⟨rfl, rfl⟩ := hp
          refine j_ifb_eq (tgt := 56) G dX7_addTap_51 (by decide) (fun c51 => ?_) (fun c51 => ?_)
          · have hroom := add_room hn (Decidable.not_not.mp c51)
            refine j_aload_n G dX7_addTap_56 rfl 0 rfl ?_
            refine gfX7_23 (v := .ref (q 4)) G 0 rfl rfl dX7_addTap_57 ?_
            refine j_aload_n G dX7_addTap_60 rfl 0 rfl ?_
            refine gfX7_7 (v := .int (nI (un 0))) G 0 rfl rfl dX7_addTap_61 ?_
            refine j_iload_n G dX7_addTap_64 rfl 3 rfl ?_
            refine j_iast (j := (un 0)) (w' := mW cA q un ui ul (up ua 3 (upd (ua 3) (un 0) rt)) (cfAdd (un 0) (ua 0) pr (okTap dp rt sw sh))) G 4 rfl rfl hroom (Nat.le_of_ble_eq_true rfl) dX7_addTap_65 rfl ?_
            refine j_aload_n G dX7_addTap_66 rfl 0 rfl ?_
            refine gfX7_26 (v := .ref (q 5)) G 0 rfl rfl dX7_addTap_67 ?_
            refine j_aload_n G dX7_addTap_70 rfl 0 rfl ?_
            refine gfX7_7 (v := .int (nI (un 0))) G 0 rfl rfl dX7_addTap_71 ?_
            refine j_iload G dX7_addTap_74 4 rfl ?_
            refine j_iast (j := (un 0)) (w' := mW cA q un ui ul (up (up ua 3 (upd (ua 3) (un 0) rt)) 4 (upd (ua 4) (un 0) sw)) (cfAdd (un 0) (ua 0) pr (okTap dp rt sw sh))) G 5 rfl rfl hroom (Nat.le_of_ble_eq_true rfl) dX7_addTap_76 rfl ?_
            refine j_aload_n G dX7_addTap_77 rfl 0 rfl ?_
            refine gfX7_29 (v := .ref (q 6)) G 0 rfl rfl dX7_addTap_78 ?_
            refine j_aload_n G dX7_addTap_81 rfl 0 rfl ?_
            refine gfX7_7 (v := .int (nI (un 0))) G 0 rfl rfl dX7_addTap_82 ?_
            refine j_iload G dX7_addTap_85 5 rfl ?_
            refine j_iast (j := (un 0)) (w' := mW cA q un ui ul (up (up (up ua 3 (upd (ua 3) (un 0) rt)) 4 (upd (ua 4) (un 0) sw)) 5 (upd (ua 5) (un 0) sh)) (cfAdd (un 0) (ua 0) pr (okTap dp rt sw sh))) G 6 rfl rfl hroom (Nat.le_of_ble_eq_true rfl) dX7_addTap_87 rfl ?_
            refine j_aload_n G dX7_addTap_88 rfl 0 rfl ?_
            refine j_iconst (v := 2) G dX7_addTap_89 (by decide) ?_
            refine j_iload_n G dX7_addTap_90 rfl 1 rfl ?_
            refine j_iload_n G dX7_addTap_91 rfl 2 rfl ?_
            refine jV_i G 7 0 (cM_adds l D cA q un ui ul (up (up (up ua 3 (upd (ua 3) (un 0) rt)) 4 (upd (ua 4) (un 0) sw)) 5 (upd (ua 5) (un 0) sh)) (cfAdd (un 0) (ua 0) pr (okTap dp rt sw sh)) 2 pr dp hroom) gX7_78 hd_X7_adds ⟨Nat.le_of_ble_eq_true rfl, Nat.le_of_ble_eq_true rfl⟩ ⟨Nat.le_of_ble_eq_true rfl, Nat.le_of_ble_eq_true rfl⟩ rfl rfl (Nat.le_of_ble_eq_true rfl) rfl rfl dX7_addTap_92 (fun r w' hp => ?_)
            obtain ⟨rfl, rfl⟩ := hp
            refine j_w (w' := mW cA q (up un 0 (un 0 + 1)) ui ul (up (up (up (up (up (up ua 0 (upd (ua 0) (un 0) 2)) 1 (upd (ua 1) (un 0) pr)) 2 (upd (ua 2) (un 0) dp)) 3 (upd (ua 3) (un 0) rt)) 4 (upd (ua 4) (un 0) sw)) 5 (upd (ua 5) (un 0) sh)) (cfAdd (un 0) (ua 0) pr (okTap dp rt sw sh))) rfl ?_
            exact ret _ _ _ _ dX7_addTap_95 rfl (PM_ok (Decidable.not_not.mp c51) rfl (by rw [Decidable.not_not.mp c51]))
          · refine j_iconst (v := 0) G dX7_addTap_54 (by decide) ?_
            exact ret _ _ _ _ dX7_addTap_55 rfl (PM_no (cfAdd (un 0) (ua 0) pr (okTap dp rt sw sh)) rfl c51 rfl)
set_option maxHeartbeats 4000000 in
set_option maxRecDepth 100000 in
theorem cM_setPump (l : Launch) (D : va_G) (cA : Nat → ClassId) (q : Nat → Nat) (un : Nat → Nat) (ui : Nat → Int32) (ul : Nat → Int64) (ua : Nat → Nat → Int32) (co : Int32) (v : Int32) : Ki l yX7_setPump cX7_setPump 3 .int 1 22 0 0 D cA [.ref (q 0), .int v] (mW cA q un ui ul ua co) (fun r w' => PM (cfPump v) r (ui 0) w' (mW cA q un (up ui 0 v) ul ua 0) (fun co => mW cA q un ui ul ua co)) := by
  refine ent_i (own := RX7) (lv0 := [(0, .ref (q 0)), (1, .int v)]) (by decide) rfl (Nat.le_of_ble_eq_true rfl) rfl ?_
  intro p e s m args below meth c A Q G hinit ret
  refine j_aload_n G dX7_setPump_0 rfl 0 rfl ?_
  refine j_iload_n G dX7_setPump_1 rfl 1 rfl ?_
  refine j_iconst (v := 0) G dX7_setPump_2 (by decide) ?_
  refine j_bipush (v := 99) G dX7_setPump_3 (by decide) ?_
  refine jS_i G (cM_in l D cA (mW cA q un ui ul ua co) v 0 99) gX7_63 hd_X7_in.2 ⟨Nat.le_of_ble_eq_true rfl, Nat.le_of_ble_eq_true rfl⟩ ⟨Nat.le_of_ble_eq_true rfl, Nat.le_of_ble_eq_true rfl⟩ rfl rfl (Nat.le_of_ble_eq_true rfl) dX7_setPump_5 (fun r w' hp => ?_)
  obtain ⟨rfl, rfl⟩ := hp
  refine j_ifb_eq (tgt := 15) G dX7_setPump_8 (by decide) (fun c8 => ?_) (fun c8 => ?_)
  · refine j_iconst (v := 1) G dX7_setPump_15 (by decide) ?_
    refine jV_i G 7 0 (cM_fails l D cA q un ui ul ua co 1) gX7_71 hd_X7_fails ⟨Nat.le_of_ble_eq_true rfl, Nat.le_of_ble_eq_true rfl⟩ ⟨Nat.le_of_ble_eq_true rfl, Nat.le_of_ble_eq_true rfl⟩ rfl rfl (Nat.le_of_ble_eq_true rfl) rfl rfl dX7_setPump_16 (fun r w' hp => ?_)
    obtain ⟨rfl, rfl⟩ := hp
    refine j_rwi (show bI (¬ (1 : Int32) ≤ 0) = 1 from by decide) ?_
    refine j_if_eq (tgt := 24) G dX7_setPump_19 (by decide) (fun c19 => absurd c19 (by decide)) (fun _ => ?_)
    refine j_iconst (v := 0) G dX7_setPump_22 (by decide) ?_
    exact ret _ _ _ _ dX7_setPump_23 rfl (PM_no 1 (by simp [cfPump, c8]) (by decide) rfl)
  · refine j_iconst (v := 0) G dX7_setPump_11 (by decide) ?_
    refine j_goto (tgt := 16) G dX7_setPump_12 (by decide) ?_
    refine jV_i G 7 0 (cM_fails l D cA q un ui ul ua co 0) gX7_71 hd_X7_fails ⟨Nat.le_of_ble_eq_true rfl, Nat.le_of_ble_eq_true rfl⟩ ⟨Nat.le_of_ble_eq_true rfl, Nat.le_of_ble_eq_true rfl⟩ rfl rfl (Nat.le_of_ble_eq_true rfl) rfl rfl dX7_setPump_16 (fun r w' hp => ?_)
    obtain ⟨rfl, rfl⟩ := hp
    refine j_rwi (show bI (¬ (0 : Int32) ≤ 0) = 0 from by decide) ?_
    refine j_if_eq (tgt := 24) G dX7_setPump_19 (by decide) (fun _ => ?_) (fun c19 => absurd c19 (by decide))
    refine j_aload_n G dX7_setPump_24 rfl 0 rfl ?_
    refine gfX7_82 (v := .int (ui 0)) G 0 rfl rfl dX7_setPump_25 ?_
    refine j_istore_n (lv' := [(2, .int (ui 0)), (0, .ref (q 0)), (1, .int v)]) G dX7_setPump_28 rfl (by decide) rfl ?_
    refine j_aload_n G dX7_setPump_29 rfl 1 rfl ?_
    refine j_iload_n G dX7_setPump_30 rfl 2 rfl ?_
    refine pfX7_82 (w' := mW cA q un (up ui 0 v) ul ua 0) G 0 rfl rfl (Nat.le_of_ble_eq_true rfl) dX7_setPump_31 rfl rfl ?_
    refine j_iload_n G dX7_setPump_34 rfl 0 rfl ?_
    exact ret _ _ _ _ dX7_setPump_35 rfl (PM_ok (by simp [cfPump, c8]) rfl rfl)
set_option maxHeartbeats 4000000 in
set_option maxRecDepth 100000 in
theorem cM_addLeak (l : Launch) (D : va_G) (cA : Nat → ClassId) (q : Nat → Nat) (un : Nat → Nat) (ui : Nat → Int32) (ul : Nat → Int64) (ua : Nat → Nat → Int32) (co : Int32) (v : Int32) (z : Int32) (hn : un 0 ≤ 20) : Ki l yX7_addLeak cX7_addLeak 4 .int 2 43 0 0 D cA [.ref (q 0), .int v, .int z] (mW cA q un ui ul ua co) (fun r w' => PM (cfLeak (un 0) v z) r (ua 7 v.toNatClampNeg) w' (mW cA q un ui ul (up ua 7 (upd (ua 7) v.toNatClampNeg z)) 0) (fun co => mW cA q un ui ul ua co)) := by
  refine ent_i (own := RX7) (lv0 := [(0, .ref (q 0)), (1, .int v), (2, .int z)]) (by decide) rfl (Nat.le_of_ble_eq_true rfl) rfl ?_
  intro p e s m args below meth c A Q G hinit ret
  refine j_aload_n G dX7_addLeak_0 rfl 0 rfl ?_
  refine j_aload_n G dX7_addLeak_1 rfl 0 rfl ?_
  refine j_iload_n G dX7_addLeak_2 rfl 1 rfl ?_
  refine jV_i G 7 0 (cM_isNone l D cA q un ui ul ua co v hn) gX7_67 hd_X7_isNone ⟨Nat.le_of_ble_eq_true rfl, Nat.le_of_ble_eq_true rfl⟩ ⟨Nat.le_of_ble_eq_true rfl, Nat.le_of_ble_eq_true rfl⟩ rfl rfl (Nat.le_of_ble_eq_true rfl) rfl rfl dX7_addLeak_3 (fun r w' hp => ?_)
  obtain ⟨rfl, rfl⟩ := hp
  refine j_ifb_eq (tgt := 13) G dX7_addLeak_6 (by decide) (fun c6 => ?_) (fun c6 => ?_)
  · refine j_iload_n G dX7_addLeak_13 rfl 2 rfl ?_
    refine j_iconst (v := 1) G dX7_addLeak_14 (by decide) ?_
    refine j_bipush (v := 30) G dX7_addLeak_15 (by decide) ?_
    refine jS_i G (cM_in l D cA (mW cA q un ui ul ua co) z 1 30) gX7_63 hd_X7_in.2 ⟨Nat.le_of_ble_eq_true rfl, Nat.le_of_ble_eq_true rfl⟩ ⟨Nat.le_of_ble_eq_true rfl, Nat.le_of_ble_eq_true rfl⟩ rfl rfl (Nat.le_of_ble_eq_true rfl) dX7_addLeak_17 (fun r w' hp => ?_)
    obtain ⟨rfl, rfl⟩ := hp
    refine j_ifb_eq (tgt := 27) G dX7_addLeak_20 (by decide) (fun c20 => ?_) (fun c20 => ?_)
    · refine j_iconst (v := 2) G dX7_addLeak_27 (by decide) ?_
      refine jV_i G 7 0 (cM_fails l D cA q un ui ul ua co 2) gX7_71 hd_X7_fails ⟨Nat.le_of_ble_eq_true rfl, Nat.le_of_ble_eq_true rfl⟩ ⟨Nat.le_of_ble_eq_true rfl, Nat.le_of_ble_eq_true rfl⟩ rfl rfl (Nat.le_of_ble_eq_true rfl) rfl rfl dX7_addLeak_28 (fun r w' hp => ?_)
      obtain ⟨rfl, rfl⟩ := hp
      refine j_rwi (show bI (¬ (2 : Int32) ≤ 0) = 1 from by decide) ?_
      refine j_if_eq (tgt := 36) G dX7_addLeak_31 (by decide) (fun c31 => absurd c31 (by decide)) (fun _ => ?_)
      refine j_iconst (v := 0) G dX7_addLeak_34 (by decide) ?_
      exact ret _ _ _ _ dX7_addLeak_35 rfl (PM_no 2 (by simp [cfLeak, c6, c20]) (by decide) rfl)
    · refine j_iconst (v := 0) G dX7_addLeak_23 (by decide) ?_
      refine j_goto (tgt := 28) G dX7_addLeak_24 (by decide) ?_
      refine jV_i G 7 0 (cM_fails l D cA q un ui ul ua co 0) gX7_71 hd_X7_fails ⟨Nat.le_of_ble_eq_true rfl, Nat.le_of_ble_eq_true rfl⟩ ⟨Nat.le_of_ble_eq_true rfl, Nat.le_of_ble_eq_true rfl⟩ rfl rfl (Nat.le_of_ble_eq_true rfl) rfl rfl dX7_addLeak_28 (fun r w' hp => ?_)
      obtain ⟨rfl, rfl⟩ := hp
      refine j_rwi (show bI (¬ (0 : Int32) ≤ 0) = 0 from by decide) ?_
      refine j_if_eq (tgt := 36) G dX7_addLeak_31 (by decide) (fun _ => ?_) (fun c31 => absurd c31 (by decide))
      refine j_aload_n G dX7_addLeak_36 rfl 0 rfl ?_
      refine gfX7_35 (v := .ref (q 8)) G 0 rfl rfl dX7_addLeak_37 ?_
      refine j_iload_n G dX7_addLeak_40 rfl 1 rfl ?_
      refine j_iald G 8 rfl (VN.vp (Decidable.not_not.mp c6) (by omega) (by omega)) dX7_addLeak_41 ?_
      refine j_istore_n (lv' := [(3, .int (ua 7 v.toNatClampNeg)), (0, .ref (q 0)), (1, .int v), (2, .int z)]) G dX7_addLeak_42 rfl (by decide) rfl ?_
      refine j_aload_n G dX7_addLeak_43 rfl 1 rfl ?_
      refine gfX7_35 (v := .ref (q 8)) G 0 rfl rfl dX7_addLeak_44 ?_
      refine j_iload_n G dX7_addLeak_47 rfl 2 rfl ?_
      refine j_iload_n G dX7_addLeak_48 rfl 3 rfl ?_
      refine j_iastR (w' := mW cA q un ui ul (up ua 7 (upd (ua 7) v.toNatClampNeg z)) 0) G 8 rfl (VN.vp (Decidable.not_not.mp c6) (by omega) (by omega)) dX7_addLeak_49 rfl ?_
      refine j_iload_n G dX7_addLeak_50 rfl 0 rfl ?_
      exact ret _ _ _ _ dX7_addLeak_51 rfl (PM_ok (by simp [cfLeak, c6, c20]) rfl rfl)
  · refine j_iconst (v := 1) G dX7_addLeak_9 (by decide) ?_
    refine j_goto (tgt := 28) G dX7_addLeak_10 (by decide) ?_
    refine jV_i G 7 0 (cM_fails l D cA q un ui ul ua co 1) gX7_71 hd_X7_fails ⟨Nat.le_of_ble_eq_true rfl, Nat.le_of_ble_eq_true rfl⟩ ⟨Nat.le_of_ble_eq_true rfl, Nat.le_of_ble_eq_true rfl⟩ rfl rfl (Nat.le_of_ble_eq_true rfl) rfl rfl dX7_addLeak_28 (fun r w' hp => ?_)
    obtain ⟨rfl, rfl⟩ := hp
    refine j_rwi (show bI (¬ (1 : Int32) ≤ 0) = 1 from by decide) ?_
    refine j_if_eq (tgt := 36) G dX7_addLeak_31 (by decide) (fun c31 => absurd c31 (by decide)) (fun _ => ?_)
    refine j_iconst (v := 0) G dX7_addLeak_34 (by decide) ?_
    exact ret _ _ _ _ dX7_addLeak_35 rfl (PM_no 1 (by simp [cfLeak, c6]) (by decide) rfl)
set_option maxHeartbeats 4000000 in
set_option maxRecDepth 100000 in
theorem cM_repair (l : Launch) (D : va_G) (cA : Nat → ClassId) (q : Nat → Nat) (un : Nat → Nat) (ui : Nat → Int32) (ul : Nat → Int64) (ua : Nat → Nat → Int32) (co : Int32) (v : Int32) (hn : un 0 ≤ 20) : Ki l yX7_repair cX7_repair 3 .int 2 43 0 0 D cA [.ref (q 0), .int v] (mW cA q un ui ul ua co) (fun r w' => PM (cfRepair (un 0) v (ua 7)) r (ua 7 v.toNatClampNeg) w' (mW cA q un ui ul (up ua 7 (upd (ua 7) v.toNatClampNeg 0)) 0) (fun co => mW cA q un ui ul ua co)) := by
  refine ent_i (own := RX7) (lv0 := [(0, .ref (q 0)), (1, .int v)]) (by decide) rfl (Nat.le_of_ble_eq_true rfl) rfl ?_
  intro p e s m args below meth c A Q G hinit ret
  refine j_aload_n G dX7_repair_0 rfl 0 rfl ?_
  refine j_aload_n G dX7_repair_1 rfl 0 rfl ?_
  refine j_iload_n G dX7_repair_2 rfl 1 rfl ?_
  refine jV_i G 7 0 (cM_isNone l D cA q un ui ul ua co v hn) gX7_67 hd_X7_isNone ⟨Nat.le_of_ble_eq_true rfl, Nat.le_of_ble_eq_true rfl⟩ ⟨Nat.le_of_ble_eq_true rfl, Nat.le_of_ble_eq_true rfl⟩ rfl rfl (Nat.le_of_ble_eq_true rfl) rfl rfl dX7_repair_3 (fun r w' hp => ?_)
  obtain ⟨rfl, rfl⟩ := hp
  refine j_ifb_eq (tgt := 13) G dX7_repair_6 (by decide) (fun c6 => ?_) (fun c6 => ?_)
  · refine j_aload_n G dX7_repair_13 rfl 0 rfl ?_
    refine gfX7_35 (v := .ref (q 8)) G 0 rfl rfl dX7_repair_14 ?_
    refine j_iload_n G dX7_repair_17 rfl 1 rfl ?_
    refine j_iald G 8 rfl (VN.vp (Decidable.not_not.mp c6) (by omega) (by omega)) dX7_repair_18 ?_
    refine j_if_ne (tgt := 26) G dX7_repair_19 (by decide) (fun c19 => ?_) (fun c19 => ?_)
    · refine j_iconst (v := 0) G dX7_repair_26 (by decide) ?_
      refine jV_i G 7 0 (cM_fails l D cA q un ui ul ua co 0) gX7_71 hd_X7_fails ⟨Nat.le_of_ble_eq_true rfl, Nat.le_of_ble_eq_true rfl⟩ ⟨Nat.le_of_ble_eq_true rfl, Nat.le_of_ble_eq_true rfl⟩ rfl rfl (Nat.le_of_ble_eq_true rfl) rfl rfl dX7_repair_27 (fun r w' hp => ?_)
      obtain ⟨rfl, rfl⟩ := hp
      refine j_rwi (show bI (¬ (0 : Int32) ≤ 0) = 0 from by decide) ?_
      refine j_if_eq (tgt := 35) G dX7_repair_30 (by decide) (fun _ => ?_) (fun c30 => absurd c30 (by decide))
      refine j_aload_n G dX7_repair_35 rfl 0 rfl ?_
      refine gfX7_35 (v := .ref (q 8)) G 0 rfl rfl dX7_repair_36 ?_
      refine j_iload_n G dX7_repair_39 rfl 1 rfl ?_
      refine j_iald G 8 rfl (VN.vp (Decidable.not_not.mp c6) (by omega) (by omega)) dX7_repair_40 ?_
      refine j_istore_n (lv' := [(2, .int (ua 7 v.toNatClampNeg)), (0, .ref (q 0)), (1, .int v)]) G dX7_repair_41 rfl (by decide) rfl ?_
      refine j_aload_n G dX7_repair_42 rfl 1 rfl ?_
      refine gfX7_35 (v := .ref (q 8)) G 0 rfl rfl dX7_repair_43 ?_
      refine j_iload_n G dX7_repair_46 rfl 2 rfl ?_
      refine j_iconst (v := 0) G dX7_repair_47 (by decide) ?_
      refine j_iastR (w' := mW cA q un ui ul (up ua 7 (upd (ua 7) v.toNatClampNeg 0)) 0) G 8 rfl (VN.vp (Decidable.not_not.mp c6) (by omega) (by omega)) dX7_repair_48 rfl ?_
      refine j_iload_n G dX7_repair_49 rfl 0 rfl ?_
      exact ret _ _ _ _ dX7_repair_50 rfl (PM_ok (by simp [cfRepair, c6, c19]) rfl rfl)
    · refine j_iconst (v := 2) G dX7_repair_22 (by decide) ?_
      refine j_goto (tgt := 27) G dX7_repair_23 (by decide) ?_
      refine jV_i G 7 0 (cM_fails l D cA q un ui ul ua co 2) gX7_71 hd_X7_fails ⟨Nat.le_of_ble_eq_true rfl, Nat.le_of_ble_eq_true rfl⟩ ⟨Nat.le_of_ble_eq_true rfl, Nat.le_of_ble_eq_true rfl⟩ rfl rfl (Nat.le_of_ble_eq_true rfl) rfl rfl dX7_repair_27 (fun r w' hp => ?_)
      obtain ⟨rfl, rfl⟩ := hp
      refine j_rwi (show bI (¬ (2 : Int32) ≤ 0) = 1 from by decide) ?_
      refine j_if_eq (tgt := 35) G dX7_repair_30 (by decide) (fun c30 => absurd c30 (by decide)) (fun _ => ?_)
      refine j_iconst (v := 0) G dX7_repair_33 (by decide) ?_
      exact ret _ _ _ _ dX7_repair_34 rfl (PM_no 2 (by simp [cfRepair, c6, c19]) (by decide) rfl)
  · refine j_iconst (v := 1) G dX7_repair_9 (by decide) ?_
    refine j_goto (tgt := 27) G dX7_repair_10 (by decide) ?_
    refine jV_i G 7 0 (cM_fails l D cA q un ui ul ua co 1) gX7_71 hd_X7_fails ⟨Nat.le_of_ble_eq_true rfl, Nat.le_of_ble_eq_true rfl⟩ ⟨Nat.le_of_ble_eq_true rfl, Nat.le_of_ble_eq_true rfl⟩ rfl rfl (Nat.le_of_ble_eq_true rfl) rfl rfl dX7_repair_27 (fun r w' hp => ?_)
    obtain ⟨rfl, rfl⟩ := hp
    refine j_rwi (show bI (¬ (1 : Int32) ≤ 0) = 1 from by decide) ?_
    refine j_if_eq (tgt := 35) G dX7_repair_30 (by decide) (fun c30 => absurd c30 (by decide)) (fun _ => ?_)
    refine j_iconst (v := 0) G dX7_repair_33 (by decide) ?_
    exact ret _ _ _ _ dX7_repair_34 rfl (PM_no 1 (by simp [cfRepair, c6]) (by decide) rfl)
set_option maxHeartbeats 4000000 in
set_option maxRecDepth 100000 in
theorem cM_nodes (l : Launch) (D : va_G) (cA : Nat → ClassId) (q : Nat → Nat) (un : Nat → Nat) (ui : Nat → Int32) (ul : Nat → Int64) (ua : Nat → Nat → Int32) (co : Int32) : Ki l yX7_nodes cX7_nodes 1 .int 1 21 0 0 D cA [.ref (q 0)] (mW cA q un ui ul ua co) (fun r w' => r = nI (un 0) ∧ w' = mW cA q un ui ul ua 0) := by
  refine ent_i (own := RX7) (lv0 := [(0, .ref (q 0))]) (by decide) rfl (Nat.le_of_ble_eq_true rfl) rfl ?_
  intro p e s m args below meth c A Q G hinit ret
  refine j_aload_n G dX7_nodes_0 rfl 0 rfl ?_
  refine j_aload_n G dX7_nodes_1 rfl 0 rfl ?_
  refine gfX7_7 (v := .int (nI (un 0))) G 0 rfl rfl dX7_nodes_2 ?_
  refine jV_i G 7 0 (cM_tells l D cA q un ui ul ua co (nI (un 0))) gX7_85 hd_X7_tells ⟨Nat.le_of_ble_eq_true rfl, Nat.le_of_ble_eq_true rfl⟩ ⟨Nat.le_of_ble_eq_true rfl, Nat.le_of_ble_eq_true rfl⟩ rfl rfl (Nat.le_of_ble_eq_true rfl) rfl rfl dX7_nodes_5 (fun r w' hp => ?_)
  obtain ⟨rfl, rfl⟩ := hp
  exact ret _ _ _ _ dX7_nodes_8 rfl ⟨rfl, rfl⟩
set_option maxHeartbeats 4000000 in
set_option maxRecDepth 100000 in
theorem cM_sucked0 (l : Launch) (D : va_G) (cA : Nat → ClassId) (q : Nat → Nat) (un : Nat → Nat) (ui : Nat → Int32) (ul : Nat → Int64) (ua : Nat → Nat → Int32) (co : Int32) (hn : un 0 ≤ 20) (hp : PAR (un 0) (ua 1)) (d : Nat) : Ki l yX7_sucked cX7_sucked 4 .int (d + 2) (40 * d + 60) 0 0 D cA [.ref (q 0), .int 0] (mW cA q un ui ul ua co) (fun r w' => r = vac (un 0) (ui 0) (ua 1) (ua 2) (ua 7) 0 ∧ w' = mW cA q un ui ul ua co) := by
  refine ent_i (own := RX7) (lv0 := [(0, .ref (q 0)), (1, .int 0)]) (by decide) rfl (Nat.le_of_ble_eq_true rfl) rfl ?_
  intro p e s m args below meth c A Q G hinit ret
  refine j_iload_n G dX7_sucked_0 rfl 1 rfl ?_
  refine j_if_eq (tgt := 32) G dX7_sucked_1 (by decide) (fun _ => ?_) (fun c1 => absurd c1 (by decide))
  refine j_aload_n G dX7_sucked_32 rfl 0 rfl ?_
  refine gfX7_82 (v := .int (ui 0)) G 0 rfl rfl dX7_sucked_33 ?_
  refine j_aload_n G dX7_sucked_36 rfl 0 rfl ?_
  refine gfX7_35 (v := .ref (q 8)) G 0 rfl rfl dX7_sucked_37 ?_
  refine j_iconst (v := 0) G dX7_sucked_40 (by decide) ?_
  refine j_ialdN (j := 0) G 8 rfl rfl (by omega) (Nat.le_of_ble_eq_true rfl) dX7_sucked_41 ?_
  refine j_isub G dX7_sucked_42 ?_
  refine j_rwi (subS_0 (ua 7) (ui 0 - ua 7 0)) ?_
  refine j_istore_n (lv' := [(2, .int (subS (ua 7) (ui 0 - ua 7 0) 0)), (0, .ref (q 0)), (1, .int 0)]) G dX7_sucked_43 rfl (by decide) rfl ?_
  refine j_iconst (v := 0) G dX7_sucked_44 (by decide) ?_
  refine j_istore_n (lv' := [(3, .int 0), (2, .int (subS (ua 7) (ui 0 - ua 7 0) 0)), (0, .ref (q 0)), (1, .int 0)]) G dX7_sucked_45 rfl (by decide) rfl ?_
  have lp46 : ∀ (fu46 : Nat) (k : Nat), (k ≤ un 0) → (un 0 < k + fu46) → J p l e (RM (d + 2) (40 * d + 60) 0 0) s m args below meth c 4 D A (mW cA q un ui ul ua co) 0 0 Q 46 [(0, .ref (q 0)), (1, .int 0), (2, .int (subS (ua 7) (ui 0 - ua 7 0) k)), (3, .int (nI k))] [] := by
    intro fu46
    induction fu46 with
    | zero => intro k h1 h2; exact absurd h2 (by omega)
    | succ fu46 ih46 =>
      intro k h1 h2
      refine j_iload_n G dX7_sucked_46 rfl 3 rfl ?_
      refine j_aload_n G dX7_sucked_47 rfl 0 rfl ?_
      refine gfX7_7 (v := .int (nI (un 0))) G 0 rfl rfl dX7_sucked_48 ?_
      refine j_icmp_ge (tgt := 69) G dX7_sucked_51 (by decide) (fun c51 => ?_) (fun c51 => ?_)
      · have g51 : k = un 0 := Nat.le_antisymm h1 ((nI_leI (by omega) (by omega)).mp c51)
        refine j_iload_n G dX7_sucked_69 rfl 2 rfl ?_
        refine jS_i G (cM_above l D cA (mW cA q un ui ul ua co) (subS (ua 7) (ui 0 - ua 7 0) k)) gX7_92 hd_X7_above.2 ⟨by show 0 + 1 ≤ d + 2; omega, by show 8 + (1 + 11) + 0 ≤ 40 * (d) + 60; omega⟩ ⟨Nat.le_of_ble_eq_true rfl, Nat.le_of_ble_eq_true rfl⟩ rfl rfl (Nat.le_of_ble_eq_true rfl) dX7_sucked_70 (fun r w' hp => ?_)
        obtain ⟨rfl, rfl⟩ := hp
        exact ret _ _ _ _ dX7_sucked_73 rfl ⟨(by rw [vac_0, pumpV, g51]), rfl⟩
      · have g51 : k < un 0 := (Nat.lt_or_ge k (un 0)).resolve_right (fun h => absurd ((nI_leI (by omega) (by omega)).mpr h) c51)
        refine j_iload_n G dX7_sucked_54 rfl 2 rfl ?_
        refine j_aload_n G dX7_sucked_55 rfl 0 rfl ?_
        refine gfX7_35 (v := .ref (q 8)) G 0 rfl rfl dX7_sucked_56 ?_
        refine j_iload_n G dX7_sucked_59 rfl 3 rfl ?_
        refine j_ialdN (j := k) G 8 rfl rfl (by omega) (Nat.le_of_ble_eq_true rfl) dX7_sucked_60 ?_
        refine j_isub G dX7_sucked_61 ?_
        refine j_rwi (subS_S (ua 7) (ui 0 - ua 7 0) k) ?_
        refine j_istore_n (lv' := [(2, .int (subS (ua 7) (ui 0 - ua 7 0) (k + 1))), (0, .ref (q 0)), (1, .int 0), (3, .int (nI k))]) G dX7_sucked_62 rfl (by decide) rfl ?_
        refine j_iinc (v := (nI (k + 1))) (lv' := [(3, .int (nI (k + 1))), (2, .int (subS (ua 7) (ui 0 - ua 7 0) (k + 1))), (0, .ref (q 0)), (1, .int 0)]) G dX7_sucked_63 3 rfl (nI_1 k) (by decide) rfl ?_
        refine j_goto (tgt := 46) G dX7_sucked_66 (by decide) ?_
        refine j_sub (lv' := [(0, .ref (q 0)), (1, .int 0), (2, .int (subS (ua 7) (ui 0 - ua 7 0) (k + 1))), (3, .int (nI (k + 1)))]) [2, 3, 1, 0] rfl ?_
        exact ih46 (k + 1) (by omega) (by omega)
  refine j_sub (lv' := [(0, .ref (q 0)), (1, .int 0), (2, .int (subS (ua 7) (ui 0 - ua 7 0) 0)), (3, .int 0)]) [2, 3, 1, 0] rfl ?_
  exact lp46 (un 0 + 1) 0 (Nat.zero_le _) (by omega)
set_option maxHeartbeats 4000000 in
set_option maxRecDepth 100000 in
theorem cM_suckedS (l : Launch) (D : va_G) (cA : Nat → ClassId) (q : Nat → Nat) (un : Nat → Nat) (ui : Nat → Int32) (ul : Nat → Int64) (ua : Nat → Nat → Int32) (co : Int32) (hn : un 0 ≤ 20) (hp : PAR (un 0) (ua 1)) (d : Nat) (ih : ∀ j, j ≤ d → j < un 0 → Ki l yX7_sucked cX7_sucked 4 .int (d + 2) (40 * d + 60) 0 0 D cA [.ref (q 0), .int (nI j)] (mW cA q un ui ul ua co) (fun r w' => r = vac (un 0) (ui 0) (ua 1) (ua 2) (ua 7) j ∧ w' = mW cA q un ui ul ua co)) (j : Nat) (hj0 : 0 < j) (hjd : j ≤ d + 1) (hj : j < un 0) : Ki l yX7_sucked cX7_sucked 4 .int (d + 1 + 2) (40 * (d + 1) + 60) 0 0 D cA [.ref (q 0), .int (nI j)] (mW cA q un ui ul ua co) (fun r w' => r = vac (un 0) (ui 0) (ua 1) (ua 2) (ua 7) j ∧ w' = mW cA q un ui ul ua co) := by
  refine ent_i (own := RX7) (lv0 := [(0, .ref (q 0)), (1, .int (nI j))]) (by decide) rfl (Nat.le_of_ble_eq_true rfl) rfl ?_
  intro p e s m args below meth c A Q G hinit ret
  refine j_iload_n G dX7_sucked_0 rfl 1 rfl ?_
  refine j_if_eq (tgt := 32) G dX7_sucked_1 (by decide) (fun c1 => absurd c1 (nI_ne0 hj0 (by omega))) (fun c1 => ?_)
  refine j_aload_n G dX7_sucked_4 rfl 0 rfl ?_
  refine j_aload_n G dX7_sucked_5 rfl 0 rfl ?_
  refine gfX7_17 (v := .ref (q 2)) G 0 rfl rfl dX7_sucked_6 ?_
  refine j_iload_n G dX7_sucked_9 rfl 1 rfl ?_
  refine j_ialdN (j := j) G 2 rfl rfl (by omega) (Nat.le_of_ble_eq_true rfl) dX7_sucked_10 ?_
  obtain ⟨i, hi, e9⟩ := hp j hj0 hj
  refine j_rwi e9 ?_
  refine jV_i G 7 0 (ih i (by omega) (by omega)) gX7_89 hd_X7_sucked ⟨Nat.le_refl _, by show 8 + (4 + 11) + (40 * d + 60) ≤ 40 * (d + 1) + 60; omega⟩ ⟨Nat.le_of_ble_eq_true rfl, Nat.le_of_ble_eq_true rfl⟩ rfl rfl (Nat.le_of_ble_eq_true rfl) rfl rfl dX7_sucked_11 (fun r w' hp9 => ?_)
  obtain ⟨rfl, rfl⟩ := hp9
  refine j_aload_n G dX7_sucked_14 rfl 0 rfl ?_
  refine gfX7_20 (v := .ref (q 3)) G 0 rfl rfl dX7_sucked_15 ?_
  refine j_iload_n G dX7_sucked_18 rfl 1 rfl ?_
  refine j_ialdN (j := j) G 3 rfl rfl (by omega) (Nat.le_of_ble_eq_true rfl) dX7_sucked_19 ?_
  refine j_isub G dX7_sucked_20 ?_
  refine j_aload_n G dX7_sucked_21 rfl 0 rfl ?_
  refine gfX7_35 (v := .ref (q 8)) G 0 rfl rfl dX7_sucked_22 ?_
  refine j_iload_n G dX7_sucked_25 rfl 1 rfl ?_
  refine j_ialdN (j := j) G 8 rfl rfl (by omega) (Nat.le_of_ble_eq_true rfl) dX7_sucked_26 ?_
  refine j_isub G dX7_sucked_27 ?_
  refine jS_i G (cM_above l D cA (mW cA q un ui ul ua co) (((vac (un 0) (ui 0) (ua 1) (ua 2) (ua 7) i) - (ua 2 j)) - (ua 7 j))) gX7_92 hd_X7_above.2 ⟨by show 0 + 1 ≤ d + 1 + 2; omega, by show 8 + (1 + 11) + 0 ≤ 40 * (d + 1) + 60; omega⟩ ⟨Nat.le_of_ble_eq_true rfl, Nat.le_of_ble_eq_true rfl⟩ rfl rfl (Nat.le_of_ble_eq_true rfl) dX7_sucked_28 (fun r w' hp => ?_)
  obtain ⟨rfl, rfl⟩ := hp
  exact ret _ _ _ _ dX7_sucked_31 rfl ⟨by rw [vac_S hp hn hj0 hj hi e9], rfl⟩
theorem cM_suckedR (l : Launch) (D : va_G) (cA : Nat → ClassId) (q : Nat → Nat) (un : Nat → Nat) (ui : Nat → Int32) (ul : Nat → Int64) (ua : Nat → Nat → Int32) (co : Int32) (hn : un 0 ≤ 20) (hp : PAR (un 0) (ua 1)) : ∀ (d j : Nat), j ≤ d → j < un 0 → Ki l yX7_sucked cX7_sucked 4 .int (d + 2) (40 * d + 60) 0 0 D cA [.ref (q 0), .int (nI j)] (mW cA q un ui ul ua co) (fun r w' => r = vac (un 0) (ui 0) (ua 1) (ua 2) (ua 7) j ∧ w' = mW cA q un ui ul ua co) := by
  intro d
  induction d with
  | zero =>
    intro j h1 h2
    have e : j = 0 := by omega
    subst e
    exact cM_sucked0 l D cA q un ui ul ua co hn hp 0
  | succ d ih =>
    intro j h1 h2
    rcases Nat.eq_zero_or_pos j with e | e
    · subst e
      exact cM_sucked0 l D cA q un ui ul ua co hn hp (d + 1)
    · exact cM_suckedS l D cA q un ui ul ua co hn hp d ih j e h1 h2
theorem cM_sucked (l : Launch) (D : va_G) (cA : Nat → ClassId) (q : Nat → Nat) (un : Nat → Nat) (ui : Nat → Int32) (ul : Nat → Int64) (ua : Nat → Nat → Int32) (co : Int32) (j : Nat) (hn : un 0 ≤ 20) (hp : PAR (un 0) (ua 1)) (hj : j < un 0) : Ki l yX7_sucked cX7_sucked 4 .int 21 820 0 0 D cA [.ref (q 0), .int (nI j)] (mW cA q un ui ul ua co) (fun r w' => r = vac (un 0) (ui 0) (ua 1) (ua 2) (ua 7) j ∧ w' = mW cA q un ui ul ua co) := cM_suckedR l D cA q un ui ul ua co hn hp 19 j (by omega) hj
set_option maxHeartbeats 4000000 in
set_option maxRecDepth 100000 in
theorem cM_expected0 (l : Launch) (D : va_G) (cA : Nat → ClassId) (q : Nat → Nat) (un : Nat → Nat) (ui : Nat → Int32) (ul : Nat → Int64) (ua : Nat → Nat → Int32) (co : Int32) (hn : un 0 ≤ 20) (hp : PAR (un 0) (ua 1)) (d : Nat) : Ki l yX7_expected cX7_expected 2 .int (d + 2) (40 * d + 60) 0 0 D cA [.ref (q 0), .int 0] (mW cA q un ui ul ua co) (fun r w' => r = expV (ui 0) (ua 1) (ua 2) 0 ∧ w' = mW cA q un ui ul ua co) := by
  refine ent_i (own := RX7) (lv0 := [(0, .ref (q 0)), (1, .int 0)]) (by decide) rfl (Nat.le_of_ble_eq_true rfl) rfl ?_
  intro p e s m args below meth c A Q G hinit ret
  refine j_iload_n G dX7_expected_0 rfl 1 rfl ?_
  refine j_if_ne (tgt := 11) G dX7_expected_1 (by decide) (fun c1 => absurd c1 (by decide)) (fun _ => ?_)
  refine j_aload_n G dX7_expected_4 rfl 0 rfl ?_
  refine gfX7_82 (v := .int (ui 0)) G 0 rfl rfl dX7_expected_5 ?_
  refine j_goto (tgt := 31) G dX7_expected_8 (by decide) ?_
  exact ret _ _ _ _ dX7_expected_31 rfl ⟨exp_0.symm, rfl⟩
set_option maxHeartbeats 4000000 in
set_option maxRecDepth 100000 in
theorem cM_expectedS (l : Launch) (D : va_G) (cA : Nat → ClassId) (q : Nat → Nat) (un : Nat → Nat) (ui : Nat → Int32) (ul : Nat → Int64) (ua : Nat → Nat → Int32) (co : Int32) (hn : un 0 ≤ 20) (hp : PAR (un 0) (ua 1)) (d : Nat) (ih : ∀ j, j ≤ d → j < un 0 → Ki l yX7_expected cX7_expected 2 .int (d + 2) (40 * d + 60) 0 0 D cA [.ref (q 0), .int (nI j)] (mW cA q un ui ul ua co) (fun r w' => r = expV (ui 0) (ua 1) (ua 2) j ∧ w' = mW cA q un ui ul ua co)) (j : Nat) (hj0 : 0 < j) (hjd : j ≤ d + 1) (hj : j < un 0) : Ki l yX7_expected cX7_expected 2 .int (d + 1 + 2) (40 * (d + 1) + 60) 0 0 D cA [.ref (q 0), .int (nI j)] (mW cA q un ui ul ua co) (fun r w' => r = expV (ui 0) (ua 1) (ua 2) j ∧ w' = mW cA q un ui ul ua co) := by
  refine ent_i (own := RX7) (lv0 := [(0, .ref (q 0)), (1, .int (nI j))]) (by decide) rfl (Nat.le_of_ble_eq_true rfl) rfl ?_
  intro p e s m args below meth c A Q G hinit ret
  refine j_iload_n G dX7_expected_0 rfl 1 rfl ?_
  refine j_if_ne (tgt := 11) G dX7_expected_1 (by decide) (fun c1 => ?_) (fun c1 => absurd (by simpa using c1) (nI_ne0 hj0 (by omega)))
  refine j_aload_n G dX7_expected_11 rfl 0 rfl ?_
  refine j_aload_n G dX7_expected_12 rfl 0 rfl ?_
  refine gfX7_17 (v := .ref (q 2)) G 0 rfl rfl dX7_expected_13 ?_
  refine j_iload_n G dX7_expected_16 rfl 1 rfl ?_
  refine j_ialdN (j := j) G 2 rfl rfl (by omega) (Nat.le_of_ble_eq_true rfl) dX7_expected_17 ?_
  obtain ⟨i, hi, e9⟩ := hp j hj0 hj
  refine j_rwi e9 ?_
  refine jV_i G 7 0 (ih i (by omega) (by omega)) gX7_95 hd_X7_expected ⟨Nat.le_refl _, by show 8 + (2 + 11) + (40 * d + 60) ≤ 40 * (d + 1) + 60; omega⟩ ⟨Nat.le_of_ble_eq_true rfl, Nat.le_of_ble_eq_true rfl⟩ rfl rfl (Nat.le_of_ble_eq_true rfl) rfl rfl dX7_expected_18 (fun r w' hp9 => ?_)
  obtain ⟨rfl, rfl⟩ := hp9
  refine j_aload_n G dX7_expected_21 rfl 0 rfl ?_
  refine gfX7_20 (v := .ref (q 3)) G 0 rfl rfl dX7_expected_22 ?_
  refine j_iload_n G dX7_expected_25 rfl 1 rfl ?_
  refine j_ialdN (j := j) G 3 rfl rfl (by omega) (Nat.le_of_ble_eq_true rfl) dX7_expected_26 ?_
  refine j_isub G dX7_expected_27 ?_
  refine jS_i G (cM_above l D cA (mW cA q un ui ul ua co) ((expV (ui 0) (ua 1) (ua 2) i) - (ua 2 j))) gX7_92 hd_X7_above.2 ⟨by show 0 + 1 ≤ d + 1 + 2; omega, by show 8 + (1 + 11) + 0 ≤ 40 * (d + 1) + 60; omega⟩ ⟨Nat.le_of_ble_eq_true rfl, Nat.le_of_ble_eq_true rfl⟩ rfl rfl (Nat.le_of_ble_eq_true rfl) dX7_expected_28 (fun r w' hp => ?_)
  obtain ⟨rfl, rfl⟩ := hp
  exact ret _ _ _ _ dX7_expected_31 rfl ⟨by rw [exp_S hp hn hj0 hj hi e9], rfl⟩
theorem cM_expectedR (l : Launch) (D : va_G) (cA : Nat → ClassId) (q : Nat → Nat) (un : Nat → Nat) (ui : Nat → Int32) (ul : Nat → Int64) (ua : Nat → Nat → Int32) (co : Int32) (hn : un 0 ≤ 20) (hp : PAR (un 0) (ua 1)) : ∀ (d j : Nat), j ≤ d → j < un 0 → Ki l yX7_expected cX7_expected 2 .int (d + 2) (40 * d + 60) 0 0 D cA [.ref (q 0), .int (nI j)] (mW cA q un ui ul ua co) (fun r w' => r = expV (ui 0) (ua 1) (ua 2) j ∧ w' = mW cA q un ui ul ua co) := by
  intro d
  induction d with
  | zero =>
    intro j h1 h2
    have e : j = 0 := by omega
    subst e
    exact cM_expected0 l D cA q un ui ul ua co hn hp 0
  | succ d ih =>
    intro j h1 h2
    rcases Nat.eq_zero_or_pos j with e | e
    · subst e
      exact cM_expected0 l D cA q un ui ul ua co hn hp (d + 1)
    · exact cM_expectedS l D cA q un ui ul ua co hn hp d ih j e h1 h2
theorem cM_expected (l : Launch) (D : va_G) (cA : Nat → ClassId) (q : Nat → Nat) (un : Nat → Nat) (ui : Nat → Int32) (ul : Nat → Int64) (ua : Nat → Nat → Int32) (co : Int32) (j : Nat) (hn : un 0 ≤ 20) (hp : PAR (un 0) (ua 1)) (hj : j < un 0) : Ki l yX7_expected cX7_expected 2 .int 21 820 0 0 D cA [.ref (q 0), .int (nI j)] (mW cA q un ui ul ua co) (fun r w' => r = expV (ui 0) (ua 1) (ua 2) j ∧ w' = mW cA q un ui ul ua co) := cM_expectedR l D cA q un ui ul ua co hn hp 19 j (by omega) hj
set_option maxHeartbeats 4000000 in
set_option maxRecDepth 100000 in
theorem cM_asked (l : Launch) (D : va_G) (cA : Nat → ClassId) (q : Nat → Nat) (un : Nat → Nat) (ui : Nat → Int32) (ul : Nat → Int64) (ua : Nat → Nat → Int32) (co : Int32) (v : Int32) (hn : un 0 ≤ 20) (hp : PAR (un 0) (ua 1)) : Ki l yX7_asked cX7_asked 2 .int 22 843 0 0 D cA [.ref (q 0), .int v] (mW cA q un ui ul ua co) (fun r w' => PM (cfNode (un 0) v) r (vac (un 0) (ui 0) (ua 1) (ua 2) (ua 7) v.toNatClampNeg) w' (mW cA q un ui ul ua 0) (fun co => mW cA q un ui ul ua co)) := by
  refine ent_i (own := RX7) (lv0 := [(0, .ref (q 0)), (1, .int v)]) (by decide) rfl (Nat.le_of_ble_eq_true rfl) rfl ?_
  intro p e s m args below meth c A Q G hinit ret
  refine j_aload_n G dX7_asked_0 rfl 0 rfl ?_
  refine j_aload_n G dX7_asked_1 rfl 0 rfl ?_
  refine j_iload_n G dX7_asked_2 rfl 1 rfl ?_
  refine jV_i G 7 0 (cM_isNone l D cA q un ui ul ua co v hn) gX7_67 hd_X7_isNone ⟨Nat.le_of_ble_eq_true rfl, Nat.le_of_ble_eq_true rfl⟩ ⟨Nat.le_of_ble_eq_true rfl, Nat.le_of_ble_eq_true rfl⟩ rfl rfl (Nat.le_of_ble_eq_true rfl) rfl rfl dX7_asked_3 (fun r w' hp => ?_)
  obtain ⟨rfl, rfl⟩ := hp
  refine j_ifb_eq (tgt := 13) G dX7_asked_6 (by decide) (fun c6 => ?_) (fun c6 => ?_)
  · refine j_iconst (v := 0) G dX7_asked_13 (by decide) ?_
    refine jV_i G 7 0 (cM_fails l D cA q un ui ul ua co 0) gX7_71 hd_X7_fails ⟨Nat.le_of_ble_eq_true rfl, Nat.le_of_ble_eq_true rfl⟩ ⟨Nat.le_of_ble_eq_true rfl, Nat.le_of_ble_eq_true rfl⟩ rfl rfl (Nat.le_of_ble_eq_true rfl) rfl rfl dX7_asked_14 (fun r w' hp => ?_)
    obtain ⟨rfl, rfl⟩ := hp
    refine j_rwi (show bI (¬ (0 : Int32) ≤ 0) = 0 from by decide) ?_
    refine j_if_eq (tgt := 24) G dX7_asked_17 (by decide) (fun _ => ?_) (fun c17 => absurd c17 (by decide))
    refine j_aload_n G dX7_asked_24 rfl 0 rfl ?_
    refine j_iload_n G dX7_asked_25 rfl 1 rfl ?_
    have hv := Decidable.not_not.mp c6
    have hj := hv.lt (by omega)
    refine j_rwi (hv.nI (by omega)) ?_
    refine jV_i G 7 0 (cM_sucked l D cA q un ui ul ua 0 v.toNatClampNeg hn hp hj) gX7_89 hd_X7_sucked ⟨Nat.le_of_ble_eq_true rfl, Nat.le_of_ble_eq_true rfl⟩ ⟨Nat.le_of_ble_eq_true rfl, Nat.le_of_ble_eq_true rfl⟩ rfl rfl (Nat.le_of_ble_eq_true rfl) rfl rfl dX7_asked_26 (fun r w' hp => ?_)
    obtain ⟨rfl, rfl⟩ := hp
    exact ret _ _ _ _ dX7_asked_29 rfl (PM_ok (by simp [cfNode, c6]) rfl rfl)
  · refine j_iconst (v := 1) G dX7_asked_9 (by decide) ?_
    refine j_goto (tgt := 14) G dX7_asked_10 (by decide) ?_
    refine jV_i G 7 0 (cM_fails l D cA q un ui ul ua co 1) gX7_71 hd_X7_fails ⟨Nat.le_of_ble_eq_true rfl, Nat.le_of_ble_eq_true rfl⟩ ⟨Nat.le_of_ble_eq_true rfl, Nat.le_of_ble_eq_true rfl⟩ rfl rfl (Nat.le_of_ble_eq_true rfl) rfl rfl dX7_asked_14 (fun r w' hp => ?_)
    obtain ⟨rfl, rfl⟩ := hp
    refine j_rwi (show bI (¬ (1 : Int32) ≤ 0) = 1 from by decide) ?_
    refine j_if_eq (tgt := 24) G dX7_asked_17 (by decide) (fun c17 => absurd c17 (by decide)) (fun _ => ?_)
    refine j_iconst (v := 0) G dX7_asked_20 (by decide) ?_
    refine j_goto (tgt := 29) G dX7_asked_21 (by decide) ?_
    exact ret _ _ _ _ dX7_asked_29 rfl (PM_no 1 (by simp [cfNode, c6]) (by decide) rfl)
set_option maxHeartbeats 4000000 in
set_option maxRecDepth 100000 in
theorem cM_vacuum (l : Launch) (D : va_G) (cA : Nat → ClassId) (q : Nat → Nat) (un : Nat → Nat) (ui : Nat → Int32) (ul : Nat → Int64) (ua : Nat → Nat → Int32) (co : Int32) (v : Int32) (hn : un 0 ≤ 20) (hp : PAR (un 0) (ua 1)) : Ki l yX7_vacuum cX7_vacuum 2 .int 23 864 0 0 D cA [.ref (q 0), .int v] (mW cA q un ui ul ua co) (fun r w' => PM (cfNode (un 0) v) r (vac (un 0) (ui 0) (ua 1) (ua 2) (ua 7) v.toNatClampNeg) w' (mW cA q un ui ul ua 0) (fun co => mW cA q un ui ul ua co)) := by
  refine ent_i (own := RX7) (lv0 := [(0, .ref (q 0)), (1, .int v)]) (by decide) rfl (Nat.le_of_ble_eq_true rfl) rfl ?_
  intro p e s m args below meth c A Q G hinit ret
  refine j_aload_n G dX7_vacuum_0 rfl 0 rfl ?_
  refine j_iload_n G dX7_vacuum_1 rfl 1 rfl ?_
  refine jV_i G 7 0 (cM_asked l D cA q un ui ul ua co v hn hp) gX7_98 hd_X7_asked ⟨Nat.le_of_ble_eq_true rfl, Nat.le_of_ble_eq_true rfl⟩ ⟨Nat.le_of_ble_eq_true rfl, Nat.le_of_ble_eq_true rfl⟩ rfl rfl (Nat.le_of_ble_eq_true rfl) rfl rfl dX7_vacuum_2 (fun r w' hp => ?_)
  exact ret _ _ _ _ dX7_vacuum_5 rfl hp
set_option maxHeartbeats 4000000 in
set_option maxRecDepth 100000 in
theorem cM_vacuumBySweep (l : Launch) (D : va_G) (cA : Nat → ClassId) (q : Nat → Nat) (un : Nat → Nat) (ui : Nat → Int32) (ul : Nat → Int64) (ua : Nat → Nat → Int32) (co : Int32) (v : Int32) (hn : un 0 ≤ 20) (hp : PAR (un 0) (ua 1)) : Ki l yX7_vacuumBySweep cX7_vacuumBySweep 2 .int 23 864 0 0 D cA [.ref (q 0), .int v] (mW cA q un ui ul ua co) (fun r w' => PM (cfNode (un 0) v) r (vac (un 0) (ui 0) (ua 1) (ua 2) (ua 7) v.toNatClampNeg) w' (mW cA q un ui ul ua 0) (fun co => mW cA q un ui ul ua co)) := by
  refine ent_i (own := RX7) (lv0 := [(0, .ref (q 0)), (1, .int v)]) (by decide) rfl (Nat.le_of_ble_eq_true rfl) rfl ?_
  intro p e s m args below meth c A Q G hinit ret
  refine j_aload_n G dX7_vacuumBySweep_0 rfl 0 rfl ?_
  refine j_iload_n G dX7_vacuumBySweep_1 rfl 1 rfl ?_
  refine jV_i G 7 0 (cM_asked l D cA q un ui ul ua co v hn hp) gX7_98 hd_X7_asked ⟨Nat.le_of_ble_eq_true rfl, Nat.le_of_ble_eq_true rfl⟩ ⟨Nat.le_of_ble_eq_true rfl, Nat.le_of_ble_eq_true rfl⟩ rfl rfl (Nat.le_of_ble_eq_true rfl) rfl rfl dX7_vacuumBySweep_2 (fun r w' hp => ?_)
  exact ret _ _ _ _ dX7_vacuumBySweep_5 rfl hp
set_option maxHeartbeats 4000000 in
set_option maxRecDepth 100000 in
theorem cM_expectedVacuum (l : Launch) (D : va_G) (cA : Nat → ClassId) (q : Nat → Nat) (un : Nat → Nat) (ui : Nat → Int32) (ul : Nat → Int64) (ua : Nat → Nat → Int32) (co : Int32) (v : Int32) (hn : un 0 ≤ 20) (hp : PAR (un 0) (ua 1)) : Ki l yX7_expectedVacuum cX7_expectedVacuum 2 .int 22 841 0 0 D cA [.ref (q 0), .int v] (mW cA q un ui ul ua co) (fun r w' => PM (cfNode (un 0) v) r (expV (ui 0) (ua 1) (ua 2) v.toNatClampNeg) w' (mW cA q un ui ul ua 0) (fun co => mW cA q un ui ul ua co)) := by
  refine ent_i (own := RX7) (lv0 := [(0, .ref (q 0)), (1, .int v)]) (by decide) rfl (Nat.le_of_ble_eq_true rfl) rfl ?_
  intro p e s m args below meth c A Q G hinit ret
  refine j_aload_n G dX7_expectedVacuum_0 rfl 0 rfl ?_
  refine j_aload_n G dX7_expectedVacuum_1 rfl 0 rfl ?_
  refine j_iload_n G dX7_expectedVacuum_2 rfl 1 rfl ?_
  refine jV_i G 7 0 (cM_isNone l D cA q un ui ul ua co v hn) gX7_67 hd_X7_isNone ⟨Nat.le_of_ble_eq_true rfl, Nat.le_of_ble_eq_true rfl⟩ ⟨Nat.le_of_ble_eq_true rfl, Nat.le_of_ble_eq_true rfl⟩ rfl rfl (Nat.le_of_ble_eq_true rfl) rfl rfl dX7_expectedVacuum_3 (fun r w' hp => ?_)
  obtain ⟨rfl, rfl⟩ := hp
  refine j_ifb_eq (tgt := 13) G dX7_expectedVacuum_6 (by decide) (fun c6 => ?_) (fun c6 => ?_)
  · refine j_iconst (v := 0) G dX7_expectedVacuum_13 (by decide) ?_
    refine jV_i G 7 0 (cM_fails l D cA q un ui ul ua co 0) gX7_71 hd_X7_fails ⟨Nat.le_of_ble_eq_true rfl, Nat.le_of_ble_eq_true rfl⟩ ⟨Nat.le_of_ble_eq_true rfl, Nat.le_of_ble_eq_true rfl⟩ rfl rfl (Nat.le_of_ble_eq_true rfl) rfl rfl dX7_expectedVacuum_14 (fun r w' hp => ?_)
    obtain ⟨rfl, rfl⟩ := hp
    refine j_rwi (show bI (¬ (0 : Int32) ≤ 0) = 0 from by decide) ?_
    refine j_if_eq (tgt := 24) G dX7_expectedVacuum_17 (by decide) (fun _ => ?_) (fun c17 => absurd c17 (by decide))
    refine j_aload_n G dX7_expectedVacuum_24 rfl 0 rfl ?_
    refine j_iload_n G dX7_expectedVacuum_25 rfl 1 rfl ?_
    have hv := Decidable.not_not.mp c6
    have hj := hv.lt (by omega)
    refine j_rwi (hv.nI (by omega)) ?_
    refine jV_i G 7 0 (cM_expected l D cA q un ui ul ua 0 v.toNatClampNeg hn hp hj) gX7_95 hd_X7_expected ⟨Nat.le_of_ble_eq_true rfl, Nat.le_of_ble_eq_true rfl⟩ ⟨Nat.le_of_ble_eq_true rfl, Nat.le_of_ble_eq_true rfl⟩ rfl rfl (Nat.le_of_ble_eq_true rfl) rfl rfl dX7_expectedVacuum_26 (fun r w' hp => ?_)
    obtain ⟨rfl, rfl⟩ := hp
    exact ret _ _ _ _ dX7_expectedVacuum_29 rfl (PM_ok (by simp [cfNode, c6]) rfl rfl)
  · refine j_iconst (v := 1) G dX7_expectedVacuum_9 (by decide) ?_
    refine j_goto (tgt := 14) G dX7_expectedVacuum_10 (by decide) ?_
    refine jV_i G 7 0 (cM_fails l D cA q un ui ul ua co 1) gX7_71 hd_X7_fails ⟨Nat.le_of_ble_eq_true rfl, Nat.le_of_ble_eq_true rfl⟩ ⟨Nat.le_of_ble_eq_true rfl, Nat.le_of_ble_eq_true rfl⟩ rfl rfl (Nat.le_of_ble_eq_true rfl) rfl rfl dX7_expectedVacuum_14 (fun r w' hp => ?_)
    obtain ⟨rfl, rfl⟩ := hp
    refine j_rwi (show bI (¬ (1 : Int32) ≤ 0) = 1 from by decide) ?_
    refine j_if_eq (tgt := 24) G dX7_expectedVacuum_17 (by decide) (fun c17 => absurd c17 (by decide)) (fun _ => ?_)
    refine j_iconst (v := 0) G dX7_expectedVacuum_20 (by decide) ?_
    refine j_goto (tgt := 29) G dX7_expectedVacuum_21 (by decide) ?_
    exact ret _ _ _ _ dX7_expectedVacuum_29 rfl (PM_no 1 (by simp [cfNode, c6]) (by decide) rfl)
set_option maxHeartbeats 4000000 in
set_option maxRecDepth 100000 in
theorem cM_loses (l : Launch) (D : va_G) (cA : Nat → ClassId) (q : Nat → Nat) (un : Nat → Nat) (ui : Nat → Int32) (ul : Nat → Int64) (ua : Nat → Nat → Int32) (co : Int32) (j : Nat) (hn : un 0 ≤ 20) (hp : PAR (un 0) (ua 1)) (hj : j < un 0) : Ki l yX7_loses cX7_loses 2 .int 22 843 0 0 D cA [.ref (q 0), .int (nI j)] (mW cA q un ui ul ua co) (fun r w' => r = losV (un 0) (ui 0) (ua 1) (ua 2) (ua 7) j ∧ w' = mW cA q un ui ul ua co) := by
  refine ent_i (own := RX7) (lv0 := [(0, .ref (q 0)), (1, .int (nI j))]) (by decide) rfl (Nat.le_of_ble_eq_true rfl) rfl ?_
  intro p e s m args below meth c A Q G hinit ret
  refine j_aload_n G dX7_loses_0 rfl 0 rfl ?_
  refine j_iload_n G dX7_loses_1 rfl 1 rfl ?_
  refine jV_i G 7 0 (cM_expected l D cA q un ui ul ua co j hn hp hj) gX7_95 hd_X7_expected ⟨Nat.le_of_ble_eq_true rfl, Nat.le_of_ble_eq_true rfl⟩ ⟨Nat.le_of_ble_eq_true rfl, Nat.le_of_ble_eq_true rfl⟩ rfl rfl (Nat.le_of_ble_eq_true rfl) rfl rfl dX7_loses_2 (fun r w' hp => ?_)
  obtain ⟨rfl, rfl⟩ := hp
  refine j_aload_n G dX7_loses_5 rfl 0 rfl ?_
  refine j_iload_n G dX7_loses_6 rfl 1 rfl ?_
  refine jV_i G 7 0 (cM_sucked l D cA q un ui ul ua co j hn hp hj) gX7_89 hd_X7_sucked ⟨Nat.le_of_ble_eq_true rfl, Nat.le_of_ble_eq_true rfl⟩ ⟨Nat.le_of_ble_eq_true rfl, Nat.le_of_ble_eq_true rfl⟩ rfl rfl (Nat.le_of_ble_eq_true rfl) rfl rfl dX7_loses_7 (fun r w' hp => ?_)
  obtain ⟨rfl, rfl⟩ := hp
  refine j_isub G dX7_loses_10 ?_
  exact ret _ _ _ _ dX7_loses_11 rfl ⟨rfl, rfl⟩
set_option maxHeartbeats 4000000 in
set_option maxRecDepth 100000 in
theorem cM_ownLoss (l : Launch) (D : va_G) (cA : Nat → ClassId) (q : Nat → Nat) (un : Nat → Nat) (ui : Nat → Int32) (ul : Nat → Int64) (ua : Nat → Nat → Int32) (co : Int32) (j : Nat) (hn : un 0 ≤ 20) (hp : PAR (un 0) (ua 1)) (hj : j < un 0) : Ki l yX7_ownLoss cX7_ownLoss 2 .int 23 864 0 0 D cA [.ref (q 0), .int (nI j)] (mW cA q un ui ul ua co) (fun r w' => r = ownV (un 0) (ui 0) (ua 1) (ua 2) (ua 7) j ∧ w' = mW cA q un ui ul ua co) := by
  refine ent_i (own := RX7) (lv0 := [(0, .ref (q 0)), (1, .int (nI j))]) (by decide) rfl (Nat.le_of_ble_eq_true rfl) rfl ?_
  intro p e s m args below meth c A Q G hinit ret
  refine j_iload_n G dX7_ownLoss_0 rfl 1 rfl ?_
  refine j_if_ne (tgt := 12) G dX7_ownLoss_1 (by decide) (fun c1 => ?_) (fun c1 => ?_)
  · refine j_aload_n G dX7_ownLoss_12 rfl 0 rfl ?_
    refine j_iload_n G dX7_ownLoss_13 rfl 1 rfl ?_
    refine jV_i G 7 0 (cM_loses l D cA q un ui ul ua co j hn hp (by omega)) gX7_101 hd_X7_loses ⟨Nat.le_of_ble_eq_true rfl, Nat.le_of_ble_eq_true rfl⟩ ⟨Nat.le_of_ble_eq_true rfl, Nat.le_of_ble_eq_true rfl⟩ rfl rfl (Nat.le_of_ble_eq_true rfl) rfl rfl dX7_ownLoss_14 (fun r w' hp => ?_)
    obtain ⟨rfl, rfl⟩ := hp
    refine j_aload_n G dX7_ownLoss_17 rfl 0 rfl ?_
    refine j_aload_n G dX7_ownLoss_18 rfl 0 rfl ?_
    refine gfX7_17 (v := .ref (q 2)) G 0 rfl rfl dX7_ownLoss_19 ?_
    refine j_iload_n G dX7_ownLoss_22 rfl 1 rfl ?_
    refine j_ialdN (j := j) G 2 rfl rfl (by omega) (Nat.le_of_ble_eq_true rfl) dX7_ownLoss_23 ?_
    have hj0 : ¬ j = 0 := fun h => c1 (by rw [h]; rfl)
    obtain ⟨i, hi, e9⟩ := hp j (by omega) hj
    refine j_rwi e9 ?_
    refine jV_i G 7 0 (cM_loses l D cA q un ui ul ua co i hn hp (by omega)) gX7_101 hd_X7_loses ⟨Nat.le_of_ble_eq_true rfl, Nat.le_of_ble_eq_true rfl⟩ ⟨Nat.le_of_ble_eq_true rfl, Nat.le_of_ble_eq_true rfl⟩ rfl rfl (Nat.le_of_ble_eq_true rfl) rfl rfl dX7_ownLoss_24 (fun r w' hp => ?_)
    obtain ⟨rfl, rfl⟩ := hp
    refine j_isub G dX7_ownLoss_27 ?_
    exact ret _ _ _ _ dX7_ownLoss_28 rfl ⟨(by rw [ownV, if_neg hj0, e9, nI_clamp (by omega)]), rfl⟩
  · refine j_aload_n G dX7_ownLoss_4 rfl 0 rfl ?_
    refine j_iload_n G dX7_ownLoss_5 rfl 1 rfl ?_
    refine jV_i G 7 0 (cM_loses l D cA q un ui ul ua co j hn hp (by omega)) gX7_101 hd_X7_loses ⟨Nat.le_of_ble_eq_true rfl, Nat.le_of_ble_eq_true rfl⟩ ⟨Nat.le_of_ble_eq_true rfl, Nat.le_of_ble_eq_true rfl⟩ rfl rfl (Nat.le_of_ble_eq_true rfl) rfl rfl dX7_ownLoss_6 (fun r w' hp => ?_)
    obtain ⟨rfl, rfl⟩ := hp
    refine j_goto (tgt := 28) G dX7_ownLoss_9 (by decide) ?_
    exact ret _ _ _ _ dX7_ownLoss_28 rfl ⟨(by rw [ownV, if_pos ((nI_eq0 (by omega)).mp (Classical.byContradiction fun h => by first | exact h c1 | exact c1 h))]), rfl⟩
set_option maxHeartbeats 4000000 in
set_option maxRecDepth 100000 in
theorem cM_depth (l : Launch) (D : va_G) (cA : Nat → ClassId) (q : Nat → Nat) (un : Nat → Nat) (ui : Nat → Int32) (ul : Nat → Int64) (ua : Nat → Nat → Int32) (co : Int32) (v : Int32) (hn : un 0 ≤ 20) (hp : PAR (un 0) (ua 1)) : Ki l yX7_depth cX7_depth 4 .int 2 43 0 0 D cA [.ref (q 0), .int v] (mW cA q un ui ul ua co) (fun r w' => PM (cfNode (un 0) v) r (nI (depV (ua 1) v.toNatClampNeg)) w' (mW cA q un ui ul ua 0) (fun co => mW cA q un ui ul ua co)) := by
  refine ent_i (own := RX7) (lv0 := [(0, .ref (q 0)), (1, .int v)]) (by decide) rfl (Nat.le_of_ble_eq_true rfl) rfl ?_
  intro p e s m args below meth c A Q G hinit ret
  refine j_aload_n G dX7_depth_0 rfl 0 rfl ?_
  refine j_aload_n G dX7_depth_1 rfl 0 rfl ?_
  refine j_iload_n G dX7_depth_2 rfl 1 rfl ?_
  refine jV_i G 7 0 (cM_isNone l D cA q un ui ul ua co v hn) gX7_67 hd_X7_isNone ⟨Nat.le_of_ble_eq_true rfl, Nat.le_of_ble_eq_true rfl⟩ ⟨Nat.le_of_ble_eq_true rfl, Nat.le_of_ble_eq_true rfl⟩ rfl rfl (Nat.le_of_ble_eq_true rfl) rfl rfl dX7_depth_3 (fun r w' hp => ?_)
  obtain ⟨rfl, rfl⟩ := hp
  refine j_ifb_eq (tgt := 13) G dX7_depth_6 (by decide) (fun c6 => ?_) (fun c6 => ?_)
  · refine j_iconst (v := 0) G dX7_depth_13 (by decide) ?_
    refine jV_i G 7 0 (cM_fails l D cA q un ui ul ua co 0) gX7_71 hd_X7_fails ⟨Nat.le_of_ble_eq_true rfl, Nat.le_of_ble_eq_true rfl⟩ ⟨Nat.le_of_ble_eq_true rfl, Nat.le_of_ble_eq_true rfl⟩ rfl rfl (Nat.le_of_ble_eq_true rfl) rfl rfl dX7_depth_14 (fun r w' hp => ?_)
    obtain ⟨rfl, rfl⟩ := hp
    refine j_rwi (show bI (¬ (0 : Int32) ≤ 0) = 0 from by decide) ?_
    refine j_if_eq (tgt := 22) G dX7_depth_17 (by decide) (fun _ => ?_) (fun c17 => absurd c17 (by decide))
    refine j_iconst (v := 0) G dX7_depth_22 (by decide) ?_
    refine j_istore_n (lv' := [(2, .int 0), (0, .ref (q 0)), (1, .int v)]) G dX7_depth_23 rfl (by decide) rfl ?_
    refine j_iload_n G dX7_depth_24 rfl 2 rfl ?_
    have hv := Decidable.not_not.mp c6
    have hj := hv.lt (by omega)
    refine j_rwi (hv.nI (by omega)) ?_
    refine j_istore_n (lv' := [(3, .int (nI v.toNatClampNeg)), (2, .int 0), (0, .ref (q 0)), (1, .int v)]) G dX7_depth_25 rfl (by decide) rfl ?_
    have lp26 : ∀ (fu26 : Nat) (i : Nat) (n9 : Nat), (i < fu26) → (i < un 0) → (n9 + depV (ua 1) i = depV (ua 1) v.toNatClampNeg) → J p l e (RM 2 43 0 0) s m args below meth c 4 D A (mW cA q un ui ul ua 0) 0 0 Q 26 [(0, .ref (q 0)), (1, .int v), (2, .int (nI n9)), (3, .int (nI i))] [] := by
      intro fu26
      induction fu26 with
      | zero => intro i n9 h1 h2 h3; exact absurd h1 (by omega)
      | succ fu26 ih26 =>
        intro i n9 h1 h2 h3
        refine j_iload_n G dX7_depth_26 rfl 3 rfl ?_
        refine j_if_eq (tgt := 43) G dX7_depth_27 (by decide) (fun c27 => ?_) (fun c27 => ?_)
        · refine j_iload_n G dX7_depth_43 rfl 2 rfl ?_
          exact ret _ _ _ _ dX7_depth_44 rfl (PM_ok (by simp [cfNode, c6, c27]) (by rw [← h3, (nI_eq0 (by omega)).mp c27, dep_0, Nat.add_zero]) rfl)
        · refine j_iinc (v := (nI (n9 + 1))) (lv' := [(2, .int (nI (n9 + 1))), (0, .ref (q 0)), (1, .int v), (3, .int (nI i))]) G dX7_depth_30 2 rfl (nI_1 n9) (by decide) rfl ?_
          refine j_aload_n G dX7_depth_33 rfl 1 rfl ?_
          refine gfX7_17 (v := .ref (q 2)) G 0 rfl rfl dX7_depth_34 ?_
          refine j_iload_n G dX7_depth_37 rfl 3 rfl ?_
          refine j_ialdN (j := i) G 2 rfl rfl (by omega) (Nat.le_of_ble_eq_true rfl) dX7_depth_38 ?_
          have hi0 : ¬ i = 0 := fun h => c27 (by rw [h]; rfl)
          obtain ⟨i', hi', e9⟩ := hp i (by omega) h2
          refine j_rwi e9 ?_
          refine j_istore_n (lv' := [(3, .int (nI i')), (2, .int (nI (n9 + 1))), (0, .ref (q 0)), (1, .int v)]) G dX7_depth_39 rfl (by decide) rfl ?_
          refine j_goto (tgt := 26) G dX7_depth_40 (by decide) ?_
          refine j_sub (lv' := [(0, .ref (q 0)), (1, .int v), (2, .int (nI (n9 + 1))), (3, .int (nI i'))]) [2, 3, 1, 0] rfl ?_
          exact ih26 i' (n9 + 1) (by omega) (by omega) (by rw [← h3, dep_S hp hn (by omega) h2 hi' e9]; omega)
    refine j_sub (lv' := [(0, .ref (q 0)), (1, .int v), (2, .int 0), (3, .int (nI v.toNatClampNeg))]) [2, 3, 1, 0] rfl ?_
    exact lp26 (v.toNatClampNeg + 1) _ 0 (Nat.lt_succ_self _) hj (Nat.zero_add _)
  · refine j_iconst (v := 1) G dX7_depth_9 (by decide) ?_
    refine j_goto (tgt := 14) G dX7_depth_10 (by decide) ?_
    refine jV_i G 7 0 (cM_fails l D cA q un ui ul ua co 1) gX7_71 hd_X7_fails ⟨Nat.le_of_ble_eq_true rfl, Nat.le_of_ble_eq_true rfl⟩ ⟨Nat.le_of_ble_eq_true rfl, Nat.le_of_ble_eq_true rfl⟩ rfl rfl (Nat.le_of_ble_eq_true rfl) rfl rfl dX7_depth_14 (fun r w' hp => ?_)
    obtain ⟨rfl, rfl⟩ := hp
    refine j_rwi (show bI (¬ (1 : Int32) ≤ 0) = 1 from by decide) ?_
    refine j_if_eq (tgt := 22) G dX7_depth_17 (by decide) (fun c17 => absurd c17 (by decide)) (fun _ => ?_)
    refine j_iconst (v := 0) G dX7_depth_20 (by decide) ?_
    exact ret _ _ _ _ dX7_depth_21 rfl (PM_no 1 (by simp [cfNode, c6]) (by decide) rfl)
set_option maxHeartbeats 4000000 in
set_option maxRecDepth 100000 in
theorem cM_hours (l : Launch) (D : va_G) (cA : Nat → ClassId) (q : Nat → Nat) (un : Nat → Nat) (ui : Nat → Int32) (ul : Nat → Int64) (ua : Nat → Nat → Int32) (co : Int32) : Ki l yX7_hours cX7_hours 1 .int 1 21 0 0 D cA [.ref (q 0)] (mW cA q un ui ul ua co) (fun r w' => r = nI (un 1) ∧ w' = mW cA q un ui ul ua 0) := by
  refine ent_i (own := RX7) (lv0 := [(0, .ref (q 0))]) (by decide) rfl (Nat.le_of_ble_eq_true rfl) rfl ?_
  intro p e s m args below meth c A Q G hinit ret
  refine j_aload_n G dX7_hours_0 rfl 0 rfl ?_
  refine j_aload_n G dX7_hours_1 rfl 0 rfl ?_
  refine gfX7_143 (v := .int (nI (un 1))) G 0 rfl rfl dX7_hours_2 ?_
  refine jV_i G 7 0 (cM_tells l D cA q un ui ul ua co (nI (un 1))) gX7_85 hd_X7_tells ⟨Nat.le_of_ble_eq_true rfl, Nat.le_of_ble_eq_true rfl⟩ ⟨Nat.le_of_ble_eq_true rfl, Nat.le_of_ble_eq_true rfl⟩ rfl rfl (Nat.le_of_ble_eq_true rfl) rfl rfl dX7_hours_5 (fun r w' hp => ?_)
  obtain ⟨rfl, rfl⟩ := hp
  exact ret _ _ _ _ dX7_hours_8 rfl ⟨rfl, rfl⟩
set_option maxHeartbeats 4000000 in
set_option maxRecDepth 100000 in
theorem cM_gives (l : Launch) (D : va_G) (cA : Nat → ClassId) (q : Nat → Nat) (un : Nat → Nat) (ui : Nat → Int32) (ul : Nat → Int64) (ua : Nat → Nat → Int32) (co : Int32) (k : Nat) (t : Int32) (hn : un 0 ≤ 20) (hp : PAR (un 0) (ua 1)) (hk : k < un 0) : Ki l yX7_gives cX7_gives 3 .int 22 843 0 0 D cA [.ref (q 0), .int (nI k), .int t] (mW cA q un ui ul ua co) (fun r w' => r = givV (ua 3) (ua 5) (ua 6) (vac (un 0) (ui 0) (ua 1) (ua 2) (ua 7) k) t k ∧ w' = mW cA q un ui ul (up ua 6 (upd (ua 6) k (chgV (ua 5) (ua 6) t k))) co) := by
  refine ent_i (own := RX7) (lv0 := [(0, .ref (q 0)), (1, .int (nI k)), (2, .int t)]) (by decide) rfl (Nat.le_of_ble_eq_true rfl) rfl ?_
  intro p e s m args below meth c A Q G hinit ret
  refine j_iload_n G dX7_gives_0 rfl 2 rfl ?_
  refine j_aload_n G dX7_gives_1 rfl 0 rfl ?_
  refine gfX7_29 (v := .ref (q 6)) G 0 rfl rfl dX7_gives_2 ?_
  refine j_iload_n G dX7_gives_5 rfl 1 rfl ?_
  refine j_ialdN (j := k) G 6 rfl rfl (by omega) (Nat.le_of_ble_eq_true rfl) dX7_gives_6 ?_
  refine j_icmp_ge (tgt := 31) G dX7_gives_7 (by decide) (fun c7 => ?_) (fun c7 => ?_)
  · refine j_aload_n G dX7_gives_31 rfl 0 rfl ?_
    refine gfX7_32 (v := .ref (q 7)) G 0 rfl rfl dX7_gives_32 ?_
    refine j_iload_n G dX7_gives_35 rfl 1 rfl ?_
    refine j_ialdN (j := k) G 7 rfl rfl (by omega) (Nat.le_of_ble_eq_true rfl) dX7_gives_36 ?_
    refine j_if_ne (tgt := 56) G dX7_gives_37 (by decide) (fun c37 => ?_) (fun c37 => ?_)
    · refine j_aload_n G dX7_gives_56 rfl 0 rfl ?_
      refine gfX7_32 (v := .ref (q 7)) G 0 rfl rfl dX7_gives_57 ?_
      refine j_iload_n G dX7_gives_60 rfl 1 rfl ?_
      refine j_dup2 G dX7_gives_61 rfl rfl ?_
      refine j_ialdN (j := k) G 7 rfl rfl (by omega) (Nat.le_of_ble_eq_true rfl) dX7_gives_62 ?_
      refine j_iconst (v := 1) G dX7_gives_63 (by decide) ?_
      refine j_isub G dX7_gives_64 ?_
      refine j_iast (j := k) (w' := mW cA q un ui ul (up ua 6 (upd (ua 6) k ((ua 6 k) - 1))) co) G 7 rfl rfl (by omega) (Nat.le_of_ble_eq_true rfl) dX7_gives_65 rfl ?_
      refine j_aload_n G dX7_gives_66 rfl 0 rfl ?_
      refine gfX7_23 (v := .ref (q 4)) G 0 rfl rfl dX7_gives_67 ?_
      refine j_iload_n G dX7_gives_70 rfl 1 rfl ?_
      refine j_ialdN (j := k) G 4 rfl rfl (by omega) (Nat.le_of_ble_eq_true rfl) dX7_gives_71 ?_
      refine j_bipush (v := 20) G dX7_gives_72 (by decide) ?_
      refine j_aload_n G dX7_gives_74 rfl 0 rfl ?_
      refine j_iload_n G dX7_gives_75 rfl 1 rfl ?_
      refine jV_i G 7 0 (cM_sucked l D cA q un ui ul (up ua 6 (upd (ua 6) k ((ua 6 k) - 1))) co k hn hp hk) gX7_89 hd_X7_sucked ⟨Nat.le_of_ble_eq_true rfl, Nat.le_of_ble_eq_true rfl⟩ ⟨Nat.le_of_ble_eq_true rfl, Nat.le_of_ble_eq_true rfl⟩ rfl rfl (Nat.le_of_ble_eq_true rfl) rfl rfl dX7_gives_76 (fun r w' hp => ?_)
      obtain ⟨rfl, rfl⟩ := hp
      refine j_iadd G dX7_gives_79 ?_
      refine j_imul G dX7_gives_80 ?_
      refine j_bipush (v := 20) G dX7_gives_81 (by decide) ?_
      refine j_idiv G dX7_gives_83 (by decide) ?_
      exact ret _ _ _ _ dX7_gives_84 rfl ⟨(show ((ua 3 k) * (20 + (vac (un 0) (ui 0) (ua 1) (ua 2) (ua 7) k))) / 20 = givV (ua 3) (ua 5) (ua 6) (vac (un 0) (ui 0) (ua 1) (ua 2) (ua 7) k) t k from by rw [givV, if_neg (Int32.not_lt.mpr c7), if_neg c37]), (by rw [show chgV (ua 5) (ua 6) t k = ua 6 k - 1 from by rw [chgV, if_neg (Int32.not_lt.mpr c7), if_neg c37]])⟩
    · refine j_aload_n G dX7_gives_40 rfl 0 rfl ?_
      refine gfX7_23 (v := .ref (q 4)) G 0 rfl rfl dX7_gives_41 ?_
      refine j_iload_n G dX7_gives_44 rfl 1 rfl ?_
      refine j_ialdN (j := k) G 4 rfl rfl (by omega) (Nat.le_of_ble_eq_true rfl) dX7_gives_45 ?_
      refine j_aload_n G dX7_gives_46 rfl 0 rfl ?_
      refine j_iload_n G dX7_gives_47 rfl 1 rfl ?_
      refine jV_i G 7 0 (cM_sucked l D cA q un ui ul ua co k hn hp hk) gX7_89 hd_X7_sucked ⟨Nat.le_of_ble_eq_true rfl, Nat.le_of_ble_eq_true rfl⟩ ⟨Nat.le_of_ble_eq_true rfl, Nat.le_of_ble_eq_true rfl⟩ rfl rfl (Nat.le_of_ble_eq_true rfl) rfl rfl dX7_gives_48 (fun r w' hp => ?_)
      obtain ⟨rfl, rfl⟩ := hp
      refine j_imul G dX7_gives_51 ?_
      refine j_bipush (v := 100) G dX7_gives_52 (by decide) ?_
      refine j_idiv G dX7_gives_54 (by decide) ?_
      exact ret _ _ _ _ dX7_gives_55 rfl ⟨(show ((ua 3 k) * (vac (un 0) (ui 0) (ua 1) (ua 2) (ua 7) k)) / 100 = givV (ua 3) (ua 5) (ua 6) (vac (un 0) (ui 0) (ua 1) (ua 2) (ua 7) k) t k from by rw [givV, if_neg (Int32.not_lt.mpr c7), if_pos c37]), (by rw [show chgV (ua 5) (ua 6) t k = ua 6 k from by rw [chgV, if_neg (Int32.not_lt.mpr c7), if_pos c37]]; rw [upd_same]; exact mW_up6)⟩
  · refine j_aload_n G dX7_gives_10 rfl 0 rfl ?_
    refine gfX7_32 (v := .ref (q 7)) G 0 rfl rfl dX7_gives_11 ?_
    refine j_iload_n G dX7_gives_14 rfl 1 rfl ?_
    refine j_aload_n G dX7_gives_15 rfl 0 rfl ?_
    refine gfX7_32 (v := .ref (q 7)) G 0 rfl rfl dX7_gives_16 ?_
    refine j_iload_n G dX7_gives_19 rfl 1 rfl ?_
    refine j_ialdN (j := k) G 7 rfl rfl (by omega) (Nat.le_of_ble_eq_true rfl) dX7_gives_20 ?_
    refine j_iconst (v := 1) G dX7_gives_21 (by decide) ?_
    refine j_iadd G dX7_gives_22 ?_
    refine j_bipush (v := 9) G dX7_gives_23 (by decide) ?_
    refine jS_i G (cM_lesser l D cA (mW cA q un ui ul ua co) ((ua 6 k) + 1) 9) gX7_107 hd_X7_lesser.2 ⟨Nat.le_of_ble_eq_true rfl, Nat.le_of_ble_eq_true rfl⟩ ⟨Nat.le_of_ble_eq_true rfl, Nat.le_of_ble_eq_true rfl⟩ rfl rfl (Nat.le_of_ble_eq_true rfl) dX7_gives_25 (fun r w' hp => ?_)
    obtain ⟨rfl, rfl⟩ := hp
    refine j_iast (j := k) (w' := mW cA q un ui ul (up ua 6 (upd (ua 6) k (mn ((ua 6 k) + 1) 9))) co) G 7 rfl rfl (by omega) (Nat.le_of_ble_eq_true rfl) dX7_gives_28 rfl ?_
    refine j_iconst (v := 0) G dX7_gives_29 (by decide) ?_
    exact ret _ _ _ _ dX7_gives_30 rfl ⟨(show 0 = givV (ua 3) (ua 5) (ua 6) (vac (un 0) (ui 0) (ua 1) (ua 2) (ua 7) k) t k from by rw [givV, if_pos (Int32.not_le.mp c7)]), (by rw [show chgV (ua 5) (ua 6) t k = mn (ua 6 k + 1) 9 from by rw [chgV, if_pos (Int32.not_le.mp c7)]])⟩
set_option maxHeartbeats 4000000 in
set_option maxRecDepth 100000 in
theorem cM_wastes (l : Launch) (D : va_G) (cA : Nat → ClassId) (q : Nat → Nat) (un : Nat → Nat) (ui : Nat → Int32) (ul : Nat → Int64) (ua : Nat → Nat → Int32) (co : Int32) (v : Int32) (z : Int32) : Kv l yX7_wastes cX7_wastes 3 0 0 0 0 D cA [.ref (q 0), .int v, .int z] (mW cA q un ui ul ua co) (fun w' => w' = mW cA q un ui (up (up ul 3 (ul 3 + v.toInt64)) 4 (ul 4 + z.toInt64)) ua co) := by
  refine ent_v (own := RX7) (lv0 := [(0, .ref (q 0)), (1, .int v), (2, .int z)]) (by decide) rfl (Nat.le_of_ble_eq_true rfl) rfl ?_
  intro p e s m args below meth c A Q G hinit ret
  refine j_aload_n G dX7_wastes_0 rfl 0 rfl ?_
  refine j_dup G dX7_wastes_1 rfl ?_
  refine gfX7_118 (v := .long (ul 3)) G 0 rfl rfl dX7_wastes_2 ?_
  refine j_iload_n G dX7_wastes_5 rfl 1 rfl ?_
  refine j_i2l G dX7_wastes_6 ?_
  refine j_ladd G dX7_wastes_7 ?_
  refine j_topl (fun x1 ex1 => ?_)
  refine pfX7_118 (w' := mW cA q un ui (up ul 3 x1) ua co) G 0 rfl rfl (Nat.le_of_ble_eq_true rfl) dX7_wastes_8 rfl rfl ?_
  refine j_aload_n G dX7_wastes_11 rfl 0 rfl ?_
  refine j_dup G dX7_wastes_12 rfl ?_
  refine gfX7_122 (v := .long (ul 4)) G 0 rfl rfl dX7_wastes_13 ?_
  refine j_iload_n G dX7_wastes_16 rfl 2 rfl ?_
  refine j_i2l G dX7_wastes_17 ?_
  refine j_ladd G dX7_wastes_18 ?_
  refine j_topl (fun x2 ex2 => ?_)
  refine pfX7_122 (w' := mW cA q un ui (up (up ul 3 x1) 4 x2) ua co) G 0 rfl rfl (Nat.le_of_ble_eq_true rfl) dX7_wastes_19 rfl rfl ?_
  subst ex2 ex1
  exact ret _ _ _ dX7_wastes_22 rfl
set_option maxHeartbeats 4000000 in
set_option maxRecDepth 100000 in
theorem cM_least (l : Launch) (D : va_G) (cA : Nat → ClassId) (w : va_W) (v : Int32) : Ki l yX7_least cX7_least 1 .int 0 0 0 0 D cA [.int v] w (fun r w' => r = lstV v ∧ w' = w) := by
  refine ent_i (own := RX7) (lv0 := [(0, .int v)]) (by decide) rfl (Nat.le_of_ble_eq_true rfl) rfl ?_
  intro p e s m args below meth c A Q G hinit ret
  refine j_iload_n G dX7_least_0 rfl 0 rfl ?_
  refine j_bipush (v := 60) G dX7_least_1 (by decide) ?_
  refine j_iadd G dX7_least_3 ?_
  refine j_iconst (v := 1) G dX7_least_4 (by decide) ?_
  refine j_isub G dX7_least_5 ?_
  refine j_bipush (v := 60) G dX7_least_6 (by decide) ?_
  refine j_idiv G dX7_least_8 (by decide) ?_
  exact ret _ _ _ _ dX7_least_9 rfl ⟨rfl, rfl⟩
set_option maxHeartbeats 4000000 in
set_option maxRecDepth 100000 in
theorem cM_pours (l : Launch) (D : va_G) (cA : Nat → ClassId) (q : Nat → Nat) (un : Nat → Nat) (ui : Nat → Int32) (ul : Nat → Int64) (ua : Nat → Nat → Int32) (co : Int32) (v : Int32) (z : Int32) (ht4 : un 2 ≤ 4) : Kv l yX7_pours cX7_pours 8 1 22 0 0 D cA [.ref (q 0), .int v, .int z] (mW cA q un ui ul ua co) (fun w' => w' = mW cA q un ui (up (up ul 3 (ul 3 + (prN (ua 9) (v, z, ua 10, ua 11) (un 2)).1.toInt64)) 4 (ul 4 + (prN (ua 9) (v, z, ua 10, ua 11) (un 2)).2.1.toInt64)) (up (up ua 10 ((prN (ua 9) (v, z, ua 10, ua 11) (un 2)).2.2.1)) 11 ((prN (ua 9) (v, z, ua 10, ua 11) (un 2)).2.2.2)) co) := by
  refine ent_v (own := RX7) (lv0 := [(0, .ref (q 0)), (1, .int v), (2, .int z)]) (by decide) rfl (Nat.le_of_ble_eq_true rfl) rfl ?_
  intro p e s m args below meth c A Q G hinit ret
  refine j_iload_n G dX7_pours_0 rfl 1 rfl ?_
  refine j_istore_n (lv' := [(3, .int v), (0, .ref (q 0)), (1, .int v), (2, .int z)]) G dX7_pours_1 rfl (by decide) rfl ?_
  refine j_iload_n G dX7_pours_2 rfl 3 rfl ?_
  refine j_istore (lv' := [(4, .int z), (3, .int v), (0, .ref (q 0)), (1, .int v), (2, .int z)]) G dX7_pours_3 (by decide) rfl ?_
  refine j_iconst (v := 0) G dX7_pours_5 (by decide) ?_
  refine j_istore (lv' := [(5, .int 0), (4, .int z), (3, .int v), (0, .ref (q 0)), (1, .int v), (2, .int z)]) G dX7_pours_6 (by decide) rfl ?_
  have lp8 : ∀ (fu8 : Nat) (t : Nat) (lf : Int32) (sg : Int32) (vo : Nat → Int32) (su : Nat → Int32), (t ≤ un 2) → (un 2 < t + fu8) → (prN (ua 9) (v, z, ua 10, ua 11) t = (lf, sg, vo, su)) → J p l e (RM 1 22 0 0) s m args below meth c 8 D A (mW cA q un ui ul (up (up ua 10 vo) 11 su) co) 0 0 Q 8 [(0, .ref (q 0)), (1, .int v), (2, .int z), (3, .int lf), (4, .int sg), (5, .int (nI t))] [] := by
    intro fu8
    induction fu8 with
    | zero => intro t lf sg vo su h1 h2 h3; exact absurd h2 (by omega)
    | succ fu8 ih8 =>
      intro t lf sg vo su h1 h2 h3
      refine j_iload G dX7_pours_8 5 rfl ?_
      refine j_aload_n G dX7_pours_10 rfl 0 rfl ?_
      refine gfX7_111 (v := .int (nI (un 2))) G 0 rfl rfl dX7_pours_11 ?_
      refine j_icmp_ge (tgt := 108) G dX7_pours_14 (by decide) (fun c14 => ?_) (fun c14 => ?_)
      · have g14 : t = un 2 := Nat.le_antisymm h1 ((nI_leI (by omega) (by omega)).mp c14)
        refine j_aload_n G dX7_pours_108 rfl 0 rfl ?_
        refine j_iload_n G dX7_pours_109 rfl 3 rfl ?_
        refine j_iload G dX7_pours_110 4 rfl ?_
        refine jV_v G 7 0 (cM_wastes l D cA q un ui ul (up (up ua 10 vo) 11 su) co lf sg) gX7_114 hd_X7_wastes ⟨Nat.le_of_ble_eq_true rfl, Nat.le_of_ble_eq_true rfl⟩ ⟨Nat.le_of_ble_eq_true rfl, Nat.le_of_ble_eq_true rfl⟩ rfl rfl (Nat.le_of_ble_eq_true rfl) rfl rfl dX7_pours_112 (fun w' hp => ?_)
        subst hp
        refine j_w (w' := mW cA q un ui (up (up ul 3 (ul 3 + lf.toInt64)) 4 (ul 4 + sg.toInt64)) (up (up ua 10 vo) 11 su) co) rfl ?_
        exact ret _ _ _ dX7_pours_115 (by rw [← g14, h3])
      · have g14 : t < un 2 := (Nat.lt_or_ge t (un 2)).resolve_right (fun h => absurd ((nI_leI (by omega) (by omega)).mpr h) c14)
        refine j_iload_n G dX7_pours_17 rfl 3 rfl ?_
        refine j_if_le (tgt := 108) G dX7_pours_18 (by decide) (fun c18 => ?_) (fun c18 => ?_)
        · refine j_aload_n G dX7_pours_108 rfl 0 rfl ?_
          refine j_iload_n G dX7_pours_109 rfl 3 rfl ?_
          refine j_iload G dX7_pours_110 4 rfl ?_
          refine jV_v G 7 0 (cM_wastes l D cA q un ui ul (up (up ua 10 vo) 11 su) co lf sg) gX7_114 hd_X7_wastes ⟨Nat.le_of_ble_eq_true rfl, Nat.le_of_ble_eq_true rfl⟩ ⟨Nat.le_of_ble_eq_true rfl, Nat.le_of_ble_eq_true rfl⟩ rfl rfl (Nat.le_of_ble_eq_true rfl) rfl rfl dX7_pours_112 (fun w' hp => ?_)
          subst hp
          refine j_w (w' := mW cA q un ui (up (up ul 3 (ul 3 + lf.toInt64)) 4 (ul 4 + sg.toInt64)) (up (up ua 10 vo) 11 su) co) rfl ?_
          exact ret _ _ _ dX7_pours_115 (by have e9 := prN_stop (cp := ua 9) (v0 := (v, z, ua 10, ua 11)) (t := t) (by rw [h3]; exact c18) (un 2 - t); rw [show t + (un 2 - t) = un 2 by omega] at e9; rw [e9, h3])
        · refine j_iload_n G dX7_pours_21 rfl 3 rfl ?_
          refine j_aload_n G dX7_pours_22 rfl 0 rfl ?_
          refine gfX7_41 (v := .ref (q 10)) G 0 rfl rfl dX7_pours_23 ?_
          refine j_iload G dX7_pours_26 5 rfl ?_
          refine j_ialdN (j := t) G 10 rfl rfl (by omega) (Nat.le_of_ble_eq_true rfl) dX7_pours_28 ?_
          refine j_aload_n G dX7_pours_29 rfl 0 rfl ?_
          refine gfX7_44 (v := .ref (q 11)) G 0 rfl rfl dX7_pours_30 ?_
          refine j_iload G dX7_pours_33 5 rfl ?_
          refine j_ialdN (j := t) G 11 rfl rfl (by omega) (Nat.le_of_ble_eq_true rfl) dX7_pours_35 ?_
          refine j_isub G dX7_pours_36 ?_
          refine jS_i G (cM_lesser l D cA (mW cA q un ui ul (up (up ua 10 vo) 11 su) co) lf ((ua 9 t) - (vo t))) gX7_107 hd_X7_lesser.2 ⟨Nat.le_of_ble_eq_true rfl, Nat.le_of_ble_eq_true rfl⟩ ⟨Nat.le_of_ble_eq_true rfl, Nat.le_of_ble_eq_true rfl⟩ rfl rfl (Nat.le_of_ble_eq_true rfl) dX7_pours_37 (fun r w' hp => ?_)
          obtain ⟨rfl, rfl⟩ := hp
          refine j_istore (lv' := [(6, .int (mn lf ((ua 9 t) - (vo t)))), (0, .ref (q 0)), (1, .int v), (2, .int z), (3, .int lf), (4, .int sg), (5, .int (nI t))]) G dX7_pours_40 (by decide) rfl ?_
          refine j_iload G dX7_pours_42 0 rfl ?_
          refine j_iload_n G dX7_pours_44 rfl 4 rfl ?_
          refine j_icmp_ne (tgt := 53) G dX7_pours_45 (by decide) (fun c45 => ?_) (fun c45 => ?_)
          · refine j_iload G dX7_pours_53 5 rfl ?_
            refine j_i2l G dX7_pours_55 ?_
            refine j_iload G dX7_pours_56 0 rfl ?_
            refine j_i2l G dX7_pours_58 ?_
            refine j_lmul G dX7_pours_59 ?_
            refine j_iload_n G dX7_pours_60 rfl 4 rfl ?_
            refine j_i2l G dX7_pours_61 ?_
            refine j_ldiv G dX7_pours_62 (ne0L c18) ?_
            refine j_l2i G dX7_pours_63 ?_
            refine j_istore (lv' := [(7, .int (((sg.toInt64 * ((mn lf ((ua 9 t) - (vo t))).toInt64)) / lf.toInt64).toInt32)), (6, .int (mn lf ((ua 9 t) - (vo t)))), (0, .ref (q 0)), (1, .int v), (2, .int z), (3, .int lf), (4, .int sg), (5, .int (nI t))]) G dX7_pours_64 (by decide) rfl ?_
            refine j_aload_n G dX7_pours_66 rfl 2 rfl ?_
            refine gfX7_44 (v := .ref (q 11)) G 0 rfl rfl dX7_pours_67 ?_
            refine j_iload G dX7_pours_70 7 rfl ?_
            refine j_dup2 G dX7_pours_72 rfl rfl ?_
            refine j_ialdN (j := t) G 11 rfl rfl (by omega) (Nat.le_of_ble_eq_true rfl) dX7_pours_73 ?_
            refine j_iload G dX7_pours_74 1 rfl ?_
            refine j_iadd G dX7_pours_76 ?_
            refine j_iast (j := t) (w' := mW cA q un ui ul (up (up ua 10 (upd vo t ((vo t) + (mn lf ((ua 9 t) - (vo t)))))) 11 su) co) G 11 rfl rfl (by omega) (Nat.le_of_ble_eq_true rfl) dX7_pours_77 rfl ?_
            refine j_aload_n G dX7_pours_78 rfl 2 rfl ?_
            refine gfX7_47 (v := .ref (q 12)) G 0 rfl rfl dX7_pours_79 ?_
            refine j_iload G dX7_pours_82 7 rfl ?_
            refine j_dup2 G dX7_pours_84 rfl rfl ?_
            refine j_ialdN (j := t) G 12 rfl rfl (by omega) (Nat.le_of_ble_eq_true rfl) dX7_pours_85 ?_
            refine j_iload G dX7_pours_86 0 rfl ?_
            refine j_iadd G dX7_pours_88 ?_
            refine j_iast (j := t) (w' := mW cA q un ui ul (up (up ua 10 (upd vo t ((vo t) + (mn lf ((ua 9 t) - (vo t)))))) 11 (upd su t ((su t) + (((sg.toInt64 * ((mn lf ((ua 9 t) - (vo t))).toInt64)) / lf.toInt64).toInt32)))) co) G 12 rfl rfl (by omega) (Nat.le_of_ble_eq_true rfl) dX7_pours_89 rfl ?_
            refine j_iload_n G dX7_pours_90 rfl 5 rfl ?_
            refine j_iload G dX7_pours_91 1 rfl ?_
            refine j_isub G dX7_pours_93 ?_
            refine j_istore_n (lv' := [(3, .int (lf - (mn lf ((ua 9 t) - (vo t))))), (7, .int (((sg.toInt64 * ((mn lf ((ua 9 t) - (vo t))).toInt64)) / lf.toInt64).toInt32)), (6, .int (mn lf ((ua 9 t) - (vo t)))), (0, .ref (q 0)), (1, .int v), (2, .int z), (4, .int sg), (5, .int (nI t))]) G dX7_pours_94 rfl (by decide) rfl ?_
            refine j_iload G dX7_pours_95 6 rfl ?_
            refine j_iload G dX7_pours_97 1 rfl ?_
            refine j_isub G dX7_pours_99 ?_
            refine j_istore (lv' := [(4, .int (sg - (((sg.toInt64 * ((mn lf ((ua 9 t) - (vo t))).toInt64)) / lf.toInt64).toInt32))), (3, .int (lf - (mn lf ((ua 9 t) - (vo t))))), (7, .int (((sg.toInt64 * ((mn lf ((ua 9 t) - (vo t))).toInt64)) / lf.toInt64).toInt32)), (6, .int (mn lf ((ua 9 t) - (vo t)))), (0, .ref (q 0)), (1, .int v), (2, .int z), (5, .int (nI t))]) G dX7_pours_100 (by decide) rfl ?_
            refine j_iinc (v := (nI (t + 1))) (lv' := [(5, .int (nI (t + 1))), (4, .int (sg - (((sg.toInt64 * ((mn lf ((ua 9 t) - (vo t))).toInt64)) / lf.toInt64).toInt32))), (3, .int (lf - (mn lf ((ua 9 t) - (vo t))))), (7, .int (((sg.toInt64 * ((mn lf ((ua 9 t) - (vo t))).toInt64)) / lf.toInt64).toInt32)), (6, .int (mn lf ((ua 9 t) - (vo t)))), (0, .ref (q 0)), (1, .int v), (2, .int z)]) G dX7_pours_102 7 rfl (nI_1 t) (by decide) rfl ?_
            refine j_goto (tgt := 8) G dX7_pours_105 (by decide) ?_
            refine j_sub (lv' := [(0, .ref (q 0)), (1, .int v), (2, .int z), (3, .int (lf - (mn lf ((ua 9 t) - (vo t))))), (4, .int (sg - (((sg.toInt64 * ((mn lf ((ua 9 t) - (vo t))).toInt64)) / lf.toInt64).toInt32))), (5, .int (nI (t + 1)))]) [5, 6, 7, 2, 1, 0] rfl ?_
            exact ih8 (t + 1) (lf - (mn lf ((ua 9 t) - (vo t)))) (sg - (((sg.toInt64 * ((mn lf ((ua 9 t) - (vo t))).toInt64)) / lf.toInt64).toInt32)) (upd vo t ((vo t) + (mn lf ((ua 9 t) - (vo t))))) (upd su t ((su t) + (((sg.toInt64 * ((mn lf ((ua 9 t) - (vo t))).toInt64)) / lf.toInt64).toInt32))) (by omega) (by omega) (by simp [prN, h3, prS, c18, c45])
          · refine j_iload G dX7_pours_48 5 rfl ?_
            refine j_goto (tgt := 64) G dX7_pours_50 (by decide) ?_
            refine j_istore (lv' := [(7, .int sg), (6, .int (mn lf ((ua 9 t) - (vo t)))), (0, .ref (q 0)), (1, .int v), (2, .int z), (3, .int lf), (4, .int sg), (5, .int (nI t))]) G dX7_pours_64 (by decide) rfl ?_
            refine j_aload_n G dX7_pours_66 rfl 2 rfl ?_
            refine gfX7_44 (v := .ref (q 11)) G 0 rfl rfl dX7_pours_67 ?_
            refine j_iload G dX7_pours_70 7 rfl ?_
            refine j_dup2 G dX7_pours_72 rfl rfl ?_
            refine j_ialdN (j := t) G 11 rfl rfl (by omega) (Nat.le_of_ble_eq_true rfl) dX7_pours_73 ?_
            refine j_iload G dX7_pours_74 1 rfl ?_
            refine j_iadd G dX7_pours_76 ?_
            refine j_iast (j := t) (w' := mW cA q un ui ul (up (up ua 10 (upd vo t ((vo t) + (mn lf ((ua 9 t) - (vo t)))))) 11 su) co) G 11 rfl rfl (by omega) (Nat.le_of_ble_eq_true rfl) dX7_pours_77 rfl ?_
            refine j_aload_n G dX7_pours_78 rfl 2 rfl ?_
            refine gfX7_47 (v := .ref (q 12)) G 0 rfl rfl dX7_pours_79 ?_
            refine j_iload G dX7_pours_82 7 rfl ?_
            refine j_dup2 G dX7_pours_84 rfl rfl ?_
            refine j_ialdN (j := t) G 12 rfl rfl (by omega) (Nat.le_of_ble_eq_true rfl) dX7_pours_85 ?_
            refine j_iload G dX7_pours_86 0 rfl ?_
            refine j_iadd G dX7_pours_88 ?_
            refine j_iast (j := t) (w' := mW cA q un ui ul (up (up ua 10 (upd vo t ((vo t) + (mn lf ((ua 9 t) - (vo t)))))) 11 (upd su t ((su t) + sg))) co) G 12 rfl rfl (by omega) (Nat.le_of_ble_eq_true rfl) dX7_pours_89 rfl ?_
            refine j_iload_n G dX7_pours_90 rfl 5 rfl ?_
            refine j_iload G dX7_pours_91 1 rfl ?_
            refine j_isub G dX7_pours_93 ?_
            refine j_istore_n (lv' := [(3, .int (lf - (mn lf ((ua 9 t) - (vo t))))), (7, .int sg), (6, .int (mn lf ((ua 9 t) - (vo t)))), (0, .ref (q 0)), (1, .int v), (2, .int z), (4, .int sg), (5, .int (nI t))]) G dX7_pours_94 rfl (by decide) rfl ?_
            refine j_iload G dX7_pours_95 6 rfl ?_
            refine j_iload G dX7_pours_97 1 rfl ?_
            refine j_isub G dX7_pours_99 ?_
            refine j_istore (lv' := [(4, .int (sg - sg)), (3, .int (lf - (mn lf ((ua 9 t) - (vo t))))), (7, .int sg), (6, .int (mn lf ((ua 9 t) - (vo t)))), (0, .ref (q 0)), (1, .int v), (2, .int z), (5, .int (nI t))]) G dX7_pours_100 (by decide) rfl ?_
            refine j_iinc (v := (nI (t + 1))) (lv' := [(5, .int (nI (t + 1))), (4, .int (sg - sg)), (3, .int (lf - (mn lf ((ua 9 t) - (vo t))))), (7, .int sg), (6, .int (mn lf ((ua 9 t) - (vo t)))), (0, .ref (q 0)), (1, .int v), (2, .int z)]) G dX7_pours_102 7 rfl (nI_1 t) (by decide) rfl ?_
            refine j_goto (tgt := 8) G dX7_pours_105 (by decide) ?_
            refine j_sub (lv' := [(0, .ref (q 0)), (1, .int v), (2, .int z), (3, .int (lf - (mn lf ((ua 9 t) - (vo t))))), (4, .int (sg - sg)), (5, .int (nI (t + 1)))]) [5, 6, 7, 2, 1, 0] rfl ?_
            exact ih8 (t + 1) (lf - (mn lf ((ua 9 t) - (vo t)))) (sg - sg) (upd vo t ((vo t) + (mn lf ((ua 9 t) - (vo t))))) (upd su t ((su t) + sg)) (by omega) (by omega) (by simp [prN, h3, prS, c18, c45])
  refine j_sub (lv' := [(0, .ref (q 0)), (1, .int v), (2, .int z), (3, .int v), (4, .int z), (5, .int 0)]) [3, 4, 5, 2, 1, 0] rfl ?_
  exact lp8 (un 2 + 1) 0 v z (ua 10) (ua 11) (Nat.zero_le _) (by omega) rfl
set_option maxHeartbeats 4000000 in
set_option maxRecDepth 100000 in
theorem cM_boils (l : Launch) (D : va_G) (cA : Nat → ClassId) (q : Nat → Nat) (un : Nat → Nat) (ui : Nat → Int32) (ul : Nat → Int64) (ua : Nat → Nat → Int32) (co : Int32) : Kv l yX7_boils cX7_boils 2 1 21 0 0 D cA [.ref (q 0)] (mW cA q un ui ul ua co) (fun w' => w' = mW cA q un (up (up ui 1 (ui 1 - lessV (ui 1) (ui 2) (ui 3))) 4 (if lessV (ui 1) (ui 2) (ui 3) ≤ 0 then ui 4 else ui 4 + 1)) (up ul 2 (ul 2 + (lessV (ui 1) (ui 2) (ui 3)).toInt64)) ua co) := by
  refine ent_v (own := RX7) (lv0 := [(0, .ref (q 0))]) (by decide) rfl (Nat.le_of_ble_eq_true rfl) rfl ?_
  intro p e s m args below meth c A Q G hinit ret
  refine j_iconst (v := 5) G dX7_boils_0 (by decide) ?_
  refine j_aload_n G dX7_boils_1 rfl 0 rfl ?_
  refine gfX7_125 (v := .int (ui 3)) G 0 rfl rfl dX7_boils_2 ?_
  refine j_imul G dX7_boils_5 ?_
  refine j_aload_n G dX7_boils_6 rfl 0 rfl ?_
  refine gfX7_128 (v := .int (ui 1)) G 0 rfl rfl dX7_boils_7 ?_
  refine j_aload_n G dX7_boils_10 rfl 0 rfl ?_
  refine gfX7_131 (v := .int (ui 2)) G 0 rfl rfl dX7_boils_11 ?_
  refine jS_i G (cM_least l D cA (mW cA q un ui ul ua co) (ui 2)) gX7_134 hd_X7_least.2 ⟨Nat.le_of_ble_eq_true rfl, Nat.le_of_ble_eq_true rfl⟩ ⟨Nat.le_of_ble_eq_true rfl, Nat.le_of_ble_eq_true rfl⟩ rfl rfl (Nat.le_of_ble_eq_true rfl) dX7_boils_14 (fun r w' hp => ?_)
  obtain ⟨rfl, rfl⟩ := hp
  refine j_isub G dX7_boils_17 ?_
  refine jS_i G (cM_above l D cA (mW cA q un ui ul ua co) ((ui 1) - (lstV (ui 2)))) gX7_92 hd_X7_above.2 ⟨Nat.le_of_ble_eq_true rfl, Nat.le_of_ble_eq_true rfl⟩ ⟨Nat.le_of_ble_eq_true rfl, Nat.le_of_ble_eq_true rfl⟩ rfl rfl (Nat.le_of_ble_eq_true rfl) dX7_boils_18 (fun r w' hp => ?_)
  obtain ⟨rfl, rfl⟩ := hp
  refine jS_i G (cM_lesser l D cA (mW cA q un ui ul ua co) (5 * (ui 3)) (mx0 ((ui 1) - (lstV (ui 2))))) gX7_107 hd_X7_lesser.2 ⟨Nat.le_of_ble_eq_true rfl, Nat.le_of_ble_eq_true rfl⟩ ⟨Nat.le_of_ble_eq_true rfl, Nat.le_of_ble_eq_true rfl⟩ rfl rfl (Nat.le_of_ble_eq_true rfl) dX7_boils_21 (fun r w' hp => ?_)
  obtain ⟨rfl, rfl⟩ := hp
  refine j_rwi (show _ = lessV (ui 1) (ui 2) (ui 3) from rfl) ?_
  refine j_istore_n (lv' := [(1, .int (lessV (ui 1) (ui 2) (ui 3))), (0, .ref (q 0))]) G dX7_boils_24 rfl (by decide) rfl ?_
  refine j_aload_n G dX7_boils_25 rfl 1 rfl ?_
  refine j_dup G dX7_boils_26 rfl ?_
  refine gfX7_128 (v := .int (ui 1)) G 0 rfl rfl dX7_boils_27 ?_
  refine j_iload_n G dX7_boils_30 rfl 0 rfl ?_
  refine j_isub G dX7_boils_31 ?_
  refine j_topi (fun x1 ex1 => ?_)
  refine pfX7_128 (w' := mW cA q un (up ui 1 x1) ul ua co) G 0 rfl rfl (Nat.le_of_ble_eq_true rfl) dX7_boils_32 rfl rfl ?_
  refine j_aload_n G dX7_boils_35 rfl 1 rfl ?_
  refine j_dup G dX7_boils_36 rfl ?_
  refine gfX7_137 (v := .long (ul 2)) G 0 rfl rfl dX7_boils_37 ?_
  refine j_iload_n G dX7_boils_40 rfl 0 rfl ?_
  refine j_i2l G dX7_boils_41 ?_
  refine j_ladd G dX7_boils_42 ?_
  refine j_topl (fun x2 ex2 => ?_)
  refine pfX7_137 (w' := mW cA q un (up ui 1 x1) (up ul 2 x2) ua co) G 0 rfl rfl (Nat.le_of_ble_eq_true rfl) dX7_boils_43 rfl rfl ?_
  refine j_iload_n G dX7_boils_46 rfl 0 rfl ?_
  refine j_if_le (tgt := 60) G dX7_boils_47 (by decide) (fun c47 => ?_) (fun c47 => ?_)
  · subst ex2 ex1
    exact ret _ _ _ dX7_boils_60 (by rw [if_pos (show lessV (ui 1) (ui 2) (ui 3) ≤ 0 from c47)]; exact mW_upi4)
  · refine j_aload_n G dX7_boils_50 rfl 1 rfl ?_
    refine j_dup G dX7_boils_51 rfl ?_
    refine gfX7_140 (v := .int (ui 4)) G 0 rfl rfl dX7_boils_52 ?_
    refine j_iconst (v := 1) G dX7_boils_55 (by decide) ?_
    refine j_iadd G dX7_boils_56 ?_
    refine j_topi (fun x3 ex3 => ?_)
    refine pfX7_140 (w' := mW cA q un (up (up ui 1 x1) 4 x3) (up ul 2 x2) ua co) G 0 rfl rfl (Nat.le_of_ble_eq_true rfl) dX7_boils_57 rfl rfl ?_
    subst ex3 ex2 ex1
    exact ret _ _ _ dX7_boils_60 (by rw [if_neg (show ¬ lessV (ui 1) (ui 2) (ui 3) ≤ 0 from c47)])
set_option maxHeartbeats 4000000 in
set_option maxRecDepth 100000 in
theorem cM_isNoTap (l : Launch) (D : va_G) (cA : Nat → ClassId) (q : Nat → Nat) (un : Nat → Nat) (ui : Nat → Int32) (ul : Nat → Int64) (ua : Nat → Nat → Int32) (co : Int32) (v : Int32) (hn : un 0 ≤ 20) : Ki l yX7_isNoTap cX7_isNoTap 2 .boolean 2 43 0 0 D cA [.ref (q 0), .int v] (mW cA q un ui ul ua co) (fun r w' => r = bI (¬ cfTap (un 0) (ua 0) v = 0) ∧ w' = mW cA q un ui ul ua (cfTap (un 0) (ua 0) v)) := by
  refine ent_i (own := RX7) (lv0 := [(0, .ref (q 0)), (1, .int v)]) (by decide) rfl (Nat.le_of_ble_eq_true rfl) rfl ?_
  intro p e s m args below meth c A Q G hinit ret
  refine j_aload_n G dX7_isNoTap_0 rfl 0 rfl ?_
  refine j_aload_n G dX7_isNoTap_1 rfl 0 rfl ?_
  refine j_iload_n G dX7_isNoTap_2 rfl 1 rfl ?_
  refine jV_i G 7 0 (cM_isNone l D cA q un ui ul ua co v hn) gX7_67 hd_X7_isNone ⟨Nat.le_of_ble_eq_true rfl, Nat.le_of_ble_eq_true rfl⟩ ⟨Nat.le_of_ble_eq_true rfl, Nat.le_of_ble_eq_true rfl⟩ rfl rfl (Nat.le_of_ble_eq_true rfl) rfl rfl dX7_isNoTap_3 (fun r w' hp => ?_)
  obtain ⟨rfl, rfl⟩ := hp
  refine j_ifb_eq (tgt := 13) G dX7_isNoTap_6 (by decide) (fun c6 => ?_) (fun c6 => ?_)
  · refine j_aload_n G dX7_isNoTap_13 rfl 0 rfl ?_
    refine gfX7_13 (v := .ref (q 1)) G 0 rfl rfl dX7_isNoTap_14 ?_
    refine j_iload_n G dX7_isNoTap_17 rfl 1 rfl ?_
    refine j_iald G 1 rfl (VN.vp (Decidable.not_not.mp c6) (by omega) (by omega)) dX7_isNoTap_18 ?_
    refine j_iconst (v := 2) G dX7_isNoTap_19 (by decide) ?_
    refine j_icmp_eq (tgt := 27) G dX7_isNoTap_20 (by decide) (fun c20 => ?_) (fun c20 => ?_)
    · refine j_iconst (v := 0) G dX7_isNoTap_27 (by decide) ?_
      refine jV_i G 7 0 (cM_fails l D cA q un ui ul ua co 0) gX7_71 hd_X7_fails ⟨Nat.le_of_ble_eq_true rfl, Nat.le_of_ble_eq_true rfl⟩ ⟨Nat.le_of_ble_eq_true rfl, Nat.le_of_ble_eq_true rfl⟩ rfl rfl (Nat.le_of_ble_eq_true rfl) rfl rfl dX7_isNoTap_28 (fun r w' hp => ?_)
      obtain ⟨rfl, rfl⟩ := hp
      refine j_rwi (show bI (¬ (0 : Int32) ≤ 0) = 0 from by decide) ?_
      exact ret _ _ _ _ dX7_isNoTap_31 (by decide) ⟨(by simp [bI, cfTap, c6, c20]), (by rw [show cfTap (un 0) (ua 0) v = 0 from (by simp [cfTap, c6, c20])])⟩
    · refine j_iconst (v := 2) G dX7_isNoTap_23 (by decide) ?_
      refine j_goto (tgt := 28) G dX7_isNoTap_24 (by decide) ?_
      refine jV_i G 7 0 (cM_fails l D cA q un ui ul ua co 2) gX7_71 hd_X7_fails ⟨Nat.le_of_ble_eq_true rfl, Nat.le_of_ble_eq_true rfl⟩ ⟨Nat.le_of_ble_eq_true rfl, Nat.le_of_ble_eq_true rfl⟩ rfl rfl (Nat.le_of_ble_eq_true rfl) rfl rfl dX7_isNoTap_28 (fun r w' hp => ?_)
      obtain ⟨rfl, rfl⟩ := hp
      refine j_rwi (show bI (¬ (2 : Int32) ≤ 0) = 1 from by decide) ?_
      exact ret _ _ _ _ dX7_isNoTap_31 (by decide) ⟨(by simp [bI, cfTap, c6, c20]), (by rw [show cfTap (un 0) (ua 0) v = 2 from (by simp [cfTap, c6, c20])])⟩
  · refine j_iconst (v := 1) G dX7_isNoTap_9 (by decide) ?_
    refine j_goto (tgt := 28) G dX7_isNoTap_10 (by decide) ?_
    refine jV_i G 7 0 (cM_fails l D cA q un ui ul ua co 1) gX7_71 hd_X7_fails ⟨Nat.le_of_ble_eq_true rfl, Nat.le_of_ble_eq_true rfl⟩ ⟨Nat.le_of_ble_eq_true rfl, Nat.le_of_ble_eq_true rfl⟩ rfl rfl (Nat.le_of_ble_eq_true rfl) rfl rfl dX7_isNoTap_28 (fun r w' hp => ?_)
    obtain ⟨rfl, rfl⟩ := hp
    refine j_rwi (show bI (¬ (1 : Int32) ≤ 0) = 1 from by decide) ?_
    exact ret _ _ _ _ dX7_isNoTap_31 (by decide) ⟨(by simp [bI, cfTap, c6]), (by rw [show cfTap (un 0) (ua 0) v = 1 from (by simp [cfTap, c6])])⟩
set_option maxHeartbeats 4000000 in
set_option maxRecDepth 100000 in
theorem cM_charge (l : Launch) (D : va_G) (cA : Nat → ClassId) (q : Nat → Nat) (un : Nat → Nat) (ui : Nat → Int32) (ul : Nat → Int64) (ua : Nat → Nat → Int32) (co : Int32) (v : Int32) (hn : un 0 ≤ 20) : Ki l yX7_charge cX7_charge 2 .int 3 64 0 0 D cA [.ref (q 0), .int v] (mW cA q un ui ul ua co) (fun r w' => PM (cfTap (un 0) (ua 0) v) r (ua 6 v.toNatClampNeg) w' (mW cA q un ui ul ua 0) (fun co => mW cA q un ui ul ua co)) := by
  refine ent_i (own := RX7) (lv0 := [(0, .ref (q 0)), (1, .int v)]) (by decide) rfl (Nat.le_of_ble_eq_true rfl) rfl ?_
  intro p e s m args below meth c A Q G hinit ret
  refine j_aload_n G dX7_charge_0 rfl 0 rfl ?_
  refine j_iload_n G dX7_charge_1 rfl 1 rfl ?_
  refine jV_i G 7 0 (cM_isNoTap l D cA q un ui ul ua co v hn) gX7_161 hd_X7_isNoTap ⟨Nat.le_of_ble_eq_true rfl, Nat.le_of_ble_eq_true rfl⟩ ⟨Nat.le_of_ble_eq_true rfl, Nat.le_of_ble_eq_true rfl⟩ rfl rfl (Nat.le_of_ble_eq_true rfl) rfl rfl dX7_charge_2 (fun r w' hp => ?_)
  obtain ⟨rfl, rfl⟩ := hp
  refine j_ifb_eq (tgt := 12) G dX7_charge_5 (by decide) (fun c5 => ?_) (fun c5 => ?_)
  · refine j_aload_n G dX7_charge_12 rfl 0 rfl ?_
    refine gfX7_32 (v := .ref (q 7)) G 0 rfl rfl dX7_charge_13 ?_
    refine j_iload_n G dX7_charge_16 rfl 1 rfl ?_
    refine j_iald G 7 rfl (VN.vp (cfTap_ok (Decidable.not_not.mp c5)).1 (by omega) (by omega)) dX7_charge_17 ?_
    exact ret _ _ _ _ dX7_charge_18 rfl (PM_ok (Decidable.not_not.mp c5) rfl (by rw [Decidable.not_not.mp c5]))
  · refine j_iconst (v := 0) G dX7_charge_8 (by decide) ?_
    refine j_goto (tgt := 18) G dX7_charge_9 (by decide) ?_
    exact ret _ _ _ _ dX7_charge_18 rfl (PM_no (cfTap (un 0) (ua 0) v) rfl c5 rfl)
set_option maxHeartbeats 4000000 in
set_option maxRecDepth 100000 in
theorem cM_sapOf (l : Launch) (D : va_G) (cA : Nat → ClassId) (q : Nat → Nat) (un : Nat → Nat) (ui : Nat → Int32) (ul : Nat → Int64) (ua : Nat → Nat → Int32) (co : Int32) (v : Int32) (h : Int32) (hn : un 0 ≤ 20) (hh : un 1 ≤ 200) : Ki l yX7_sapOf cX7_sapOf 3 .int 3 64 0 0 D cA [.ref (q 0), .int v, .int h] (mW cA q un ui ul ua co) (fun r w' => PM (cfSap (un 0) (ua 0) v (un 1) h) r (ua 8 (200 * v.toNatClampNeg + h.toNatClampNeg)) w' (mW cA q un ui ul ua 0) (fun co => mW cA q un ui ul ua co)) := by
  refine ent_i (own := RX7) (lv0 := [(0, .ref (q 0)), (1, .int v), (2, .int h)]) (by decide) rfl (Nat.le_of_ble_eq_true rfl) rfl ?_
  intro p e s m args below meth c A Q G hinit ret
  refine j_aload_n G dX7_sapOf_0 rfl 0 rfl ?_
  refine j_iload_n G dX7_sapOf_1 rfl 1 rfl ?_
  refine jV_i G 7 0 (cM_isNoTap l D cA q un ui ul ua co v hn) gX7_161 hd_X7_isNoTap ⟨Nat.le_of_ble_eq_true rfl, Nat.le_of_ble_eq_true rfl⟩ ⟨Nat.le_of_ble_eq_true rfl, Nat.le_of_ble_eq_true rfl⟩ rfl rfl (Nat.le_of_ble_eq_true rfl) rfl rfl dX7_sapOf_2 (fun r w' hp => ?_)
  obtain ⟨rfl, rfl⟩ := hp
  refine j_ifb_ne (tgt := 34) G dX7_sapOf_5 (by decide) (fun c5 => ?_) (fun c5 => ?_)
  · refine j_iconst (v := 0) G dX7_sapOf_34 (by decide) ?_
    refine j_goto (tgt := 50) G dX7_sapOf_35 (by decide) ?_
    exact ret _ _ _ _ dX7_sapOf_50 rfl (PM_no (cfTap (un 0) (ua 0) v) (by simp [cfSap, c5]) c5 rfl)
  · refine j_aload_n G dX7_sapOf_8 rfl 0 rfl ?_
    refine j_iload_n G dX7_sapOf_9 rfl 2 rfl ?_
    refine j_iconst (v := 0) G dX7_sapOf_10 (by decide) ?_
    refine j_aload_n G dX7_sapOf_11 rfl 0 rfl ?_
    refine gfX7_143 (v := .int (nI (un 1))) G 0 rfl rfl dX7_sapOf_12 ?_
    refine j_iconst (v := 1) G dX7_sapOf_15 (by decide) ?_
    refine j_isub G dX7_sapOf_16 ?_
    refine jS_i G (cM_in l D cA (mW cA q un ui ul ua (cfTap (un 0) (ua 0) v)) h 0 ((nI (un 1)) - 1)) gX7_63 hd_X7_in.2 ⟨Nat.le_of_ble_eq_true rfl, Nat.le_of_ble_eq_true rfl⟩ ⟨Nat.le_of_ble_eq_true rfl, Nat.le_of_ble_eq_true rfl⟩ rfl rfl (Nat.le_of_ble_eq_true rfl) dX7_sapOf_17 (fun r w' hp => ?_)
    obtain ⟨rfl, rfl⟩ := hp
    refine j_ifb_eq (tgt := 27) G dX7_sapOf_20 (by decide) (fun c20 => ?_) (fun c20 => ?_)
    · refine j_iconst (v := 3) G dX7_sapOf_27 (by decide) ?_
      refine jV_i G 7 0 (cM_fails l D cA q un ui ul ua (cfTap (un 0) (ua 0) v) 3) gX7_71 hd_X7_fails ⟨Nat.le_of_ble_eq_true rfl, Nat.le_of_ble_eq_true rfl⟩ ⟨Nat.le_of_ble_eq_true rfl, Nat.le_of_ble_eq_true rfl⟩ rfl rfl (Nat.le_of_ble_eq_true rfl) rfl rfl dX7_sapOf_28 (fun r w' hp => ?_)
      obtain ⟨rfl, rfl⟩ := hp
      refine j_rwi (show bI (¬ (3 : Int32) ≤ 0) = 1 from by decide) ?_
      refine j_if_eq (tgt := 38) G dX7_sapOf_31 (by decide) (fun c31 => absurd c31 (by decide)) (fun _ => ?_)
      refine j_iconst (v := 0) G dX7_sapOf_34 (by decide) ?_
      refine j_goto (tgt := 50) G dX7_sapOf_35 (by decide) ?_
      exact ret _ _ _ _ dX7_sapOf_50 rfl (PM_no 3 (by rw [cfSap, if_neg c5, if_neg (fun z9 => c20 ((VN_pred (by omega) h).mpr z9))]) (by decide) rfl)
    · refine j_iconst (v := 0) G dX7_sapOf_23 (by decide) ?_
      refine j_goto (tgt := 28) G dX7_sapOf_24 (by decide) ?_
      refine jV_i G 7 0 (cM_fails l D cA q un ui ul ua (cfTap (un 0) (ua 0) v) 0) gX7_71 hd_X7_fails ⟨Nat.le_of_ble_eq_true rfl, Nat.le_of_ble_eq_true rfl⟩ ⟨Nat.le_of_ble_eq_true rfl, Nat.le_of_ble_eq_true rfl⟩ rfl rfl (Nat.le_of_ble_eq_true rfl) rfl rfl dX7_sapOf_28 (fun r w' hp => ?_)
      obtain ⟨rfl, rfl⟩ := hp
      refine j_rwi (show bI (¬ (0 : Int32) ≤ 0) = 0 from by decide) ?_
      refine j_if_eq (tgt := 38) G dX7_sapOf_31 (by decide) (fun _ => ?_) (fun c31 => absurd c31 (by decide))
      refine j_aload_n G dX7_sapOf_38 rfl 0 rfl ?_
      refine gfX7_38 (v := .ref (q 9)) G 0 rfl rfl dX7_sapOf_39 ?_
      refine j_sipush (v := 200) G dX7_sapOf_42 (by decide) ?_
      refine j_iload_n G dX7_sapOf_45 rfl 1 rfl ?_
      have hv := (cfTap_ok (Decidable.not_not.mp c5)).1
      have hj := hv.lt (by omega)
      refine j_rwi (hv.nI (by omega)) ?_
      refine j_imul G dX7_sapOf_46 ?_
      refine j_rwi (pk_mul 200 v.toNatClampNeg) ?_
      refine j_iload_n G dX7_sapOf_47 rfl 2 rfl ?_
      have hw := (VN_pred (by omega) h).mp c20
      have hk := hw.lt (by omega)
      refine j_rwi (hw.nI (by omega)) ?_
      refine j_iadd G dX7_sapOf_48 ?_
      refine j_rwi (nI_add (200 * v.toNatClampNeg) h.toNatClampNeg) ?_
      refine j_ialdN (j := (200 * v.toNatClampNeg + h.toNatClampNeg)) G 9 rfl rfl (by omega) (Nat.le_of_ble_eq_true rfl) dX7_sapOf_49 ?_
      exact ret _ _ _ _ dX7_sapOf_50 rfl (PM_ok (by rw [cfSap, if_neg c5, if_pos ((VN_pred (by omega) h).mp c20)]) rfl rfl)
set_option maxHeartbeats 4000000 in
set_option maxRecDepth 100000 in
theorem cM_total (l : Launch) (D : va_G) (cA : Nat → ClassId) (q : Nat → Nat) (un : Nat → Nat) (ui : Nat → Int32) (ul : Nat → Int64) (ua : Nat → Nat → Int32) (co : Int32) (j : Nat) (hh : un 1 ≤ 200) (hj20 : j < 20) : Ki l yX7_total cX7_total 4 .int 0 0 0 0 D cA [.ref (q 0), .int (nI j)] (mW cA q un ui ul ua co) (fun r w' => r = totS (ua 8) j (un 1) ∧ w' = mW cA q un ui ul ua co) := by
  refine ent_i (own := RX7) (lv0 := [(0, .ref (q 0)), (1, .int (nI j))]) (by decide) rfl (Nat.le_of_ble_eq_true rfl) rfl ?_
  intro p e s m args below meth c A Q G hinit ret
  refine j_iconst (v := 0) G dX7_total_0 (by decide) ?_
  refine j_rwi (totS_0 (ua 8) j) ?_
  refine j_istore_n (lv' := [(2, .int (totS (ua 8) j 0)), (0, .ref (q 0)), (1, .int (nI j))]) G dX7_total_1 rfl (by decide) rfl ?_
  refine j_iconst (v := 0) G dX7_total_2 (by decide) ?_
  refine j_istore_n (lv' := [(3, .int 0), (2, .int (totS (ua 8) j 0)), (0, .ref (q 0)), (1, .int (nI j))]) G dX7_total_3 rfl (by decide) rfl ?_
  have lp4 : ∀ (fu4 : Nat) (h : Nat), (h ≤ un 1) → (un 1 < h + fu4) → J p l e (RM 0 0 0 0) s m args below meth c 4 D A (mW cA q un ui ul ua co) 0 0 Q 4 [(0, .ref (q 0)), (1, .int (nI j)), (2, .int (totS (ua 8) j h)), (3, .int (nI h))] [] := by
    intro fu4
    induction fu4 with
    | zero => intro h h1 h2; exact absurd h2 (by omega)
    | succ fu4 ih4 =>
      intro h h1 h2
      refine j_iload_n G dX7_total_4 rfl 3 rfl ?_
      refine j_aload_n G dX7_total_5 rfl 0 rfl ?_
      refine gfX7_143 (v := .int (nI (un 1))) G 0 rfl rfl dX7_total_6 ?_
      refine j_icmp_ge (tgt := 33) G dX7_total_9 (by decide) (fun c9 => ?_) (fun c9 => ?_)
      · have g9 : h = un 1 := Nat.le_antisymm h1 ((nI_leI (by omega) (by omega)).mp c9)
        refine j_iload_n G dX7_total_33 rfl 2 rfl ?_
        exact ret _ _ _ _ dX7_total_34 rfl ⟨(by rw [g9]), rfl⟩
      · have g9 : h < un 1 := (Nat.lt_or_ge h (un 1)).resolve_right (fun h9 => absurd ((nI_leI (by omega) (by omega)).mpr h9) c9)
        refine j_iload_n G dX7_total_12 rfl 2 rfl ?_
        refine j_aload_n G dX7_total_13 rfl 0 rfl ?_
        refine gfX7_38 (v := .ref (q 9)) G 0 rfl rfl dX7_total_14 ?_
        refine j_sipush (v := 200) G dX7_total_17 (by decide) ?_
        refine j_iload_n G dX7_total_20 rfl 1 rfl ?_
        refine j_imul G dX7_total_21 ?_
        refine j_rwi (pk_mul 200 j) ?_
        refine j_iload_n G dX7_total_22 rfl 3 rfl ?_
        refine j_iadd G dX7_total_23 ?_
        refine j_rwi (nI_add (200 * j) h) ?_
        refine j_ialdN (j := (200 * j + h)) G 9 rfl rfl (by omega) (Nat.le_of_ble_eq_true rfl) dX7_total_24 ?_
        refine j_iadd G dX7_total_25 ?_
        refine j_rwi (totS_S (ua 8) j h) ?_
        refine j_istore_n (lv' := [(2, .int (totS (ua 8) j (h + 1))), (0, .ref (q 0)), (1, .int (nI j)), (3, .int (nI h))]) G dX7_total_26 rfl (by decide) rfl ?_
        refine j_iinc (v := (nI (h + 1))) (lv' := [(3, .int (nI (h + 1))), (2, .int (totS (ua 8) j (h + 1))), (0, .ref (q 0)), (1, .int (nI j))]) G dX7_total_27 3 rfl (nI_1 h) (by decide) rfl ?_
        refine j_goto (tgt := 4) G dX7_total_30 (by decide) ?_
        refine j_sub (lv' := [(0, .ref (q 0)), (1, .int (nI j)), (2, .int (totS (ua 8) j (h + 1))), (3, .int (nI (h + 1)))]) [2, 3, 1, 0] rfl ?_
        exact ih4 (h + 1) (by omega) (by omega)
  refine j_sub (lv' := [(0, .ref (q 0)), (1, .int (nI j)), (2, .int (totS (ua 8) j 0)), (3, .int 0)]) [2, 3, 1, 0] rfl ?_
  exact lp4 (un 1 + 1) 0 (Nat.zero_le _) (by omega)
set_option maxHeartbeats 4000000 in
set_option maxRecDepth 100000 in
theorem cM_totalOf (l : Launch) (D : va_G) (cA : Nat → ClassId) (q : Nat → Nat) (un : Nat → Nat) (ui : Nat → Int32) (ul : Nat → Int64) (ua : Nat → Nat → Int32) (co : Int32) (v : Int32) (hn : un 0 ≤ 20) (hh : un 1 ≤ 200) : Ki l yX7_totalOf cX7_totalOf 2 .int 3 64 0 0 D cA [.ref (q 0), .int v] (mW cA q un ui ul ua co) (fun r w' => PM (cfTap (un 0) (ua 0) v) r (totS (ua 8) v.toNatClampNeg (un 1)) w' (mW cA q un ui ul ua 0) (fun co => mW cA q un ui ul ua co)) := by
  refine ent_i (own := RX7) (lv0 := [(0, .ref (q 0)), (1, .int v)]) (by decide) rfl (Nat.le_of_ble_eq_true rfl) rfl ?_
  intro p e s m args below meth c A Q G hinit ret
  refine j_aload_n G dX7_totalOf_0 rfl 0 rfl ?_
  refine j_iload_n G dX7_totalOf_1 rfl 1 rfl ?_
  refine jV_i G 7 0 (cM_isNoTap l D cA q un ui ul ua co v hn) gX7_161 hd_X7_isNoTap ⟨Nat.le_of_ble_eq_true rfl, Nat.le_of_ble_eq_true rfl⟩ ⟨Nat.le_of_ble_eq_true rfl, Nat.le_of_ble_eq_true rfl⟩ rfl rfl (Nat.le_of_ble_eq_true rfl) rfl rfl dX7_totalOf_2 (fun r w' hp => ?_)
  obtain ⟨rfl, rfl⟩ := hp
  refine j_ifb_eq (tgt := 12) G dX7_totalOf_5 (by decide) (fun c5 => ?_) (fun c5 => ?_)
  · refine j_aload_n G dX7_totalOf_12 rfl 0 rfl ?_
    refine j_iload_n G dX7_totalOf_13 rfl 1 rfl ?_
    have hv := (cfTap_ok (Decidable.not_not.mp c5)).1
    have hj := hv.lt (by omega)
    refine j_rwi (hv.nI (by omega)) ?_
    refine jV_i G 7 0 (cM_total l D cA q un ui ul ua (cfTap (un 0) (ua 0) v) v.toNatClampNeg hh (by omega)) gX7_164 hd_X7_total ⟨Nat.le_of_ble_eq_true rfl, Nat.le_of_ble_eq_true rfl⟩ ⟨Nat.le_of_ble_eq_true rfl, Nat.le_of_ble_eq_true rfl⟩ rfl rfl (Nat.le_of_ble_eq_true rfl) rfl rfl dX7_totalOf_14 (fun r w' hp => ?_)
    obtain ⟨rfl, rfl⟩ := hp
    exact ret _ _ _ _ dX7_totalOf_17 rfl (PM_ok (Decidable.not_not.mp c5) rfl (by rw [Decidable.not_not.mp c5]))
  · refine j_iconst (v := 0) G dX7_totalOf_8 (by decide) ?_
    refine j_goto (tgt := 17) G dX7_totalOf_9 (by decide) ?_
    exact ret _ _ _ _ dX7_totalOf_17 rfl (PM_no (cfTap (un 0) (ua 0) v) rfl c5 rfl)
set_option maxHeartbeats 4000000 in
set_option maxRecDepth 100000 in
theorem cM_tapByYield (l : Launch) (D : va_G) (cA : Nat → ClassId) (q : Nat → Nat) (un : Nat → Nat) (ui : Nat → Int32) (ul : Nat → Int64) (ua : Nat → Nat → Int32) (co : Int32) (rk : Int32) (hn : un 0 ≤ 20) (hh : un 1 ≤ 200) : Ki l yX7_tapByYield cX7_tapByYield 5 .int 1 23 0 0 D cA [.ref (q 0), .int rk] (mW cA q un ui ul ua co) (fun r w' => PM (cfRank (yldP (ua 0) (fun j => totS (ua 8) j (un 1)) (un 0) rk) (un 0)) r (nI (fnd (yldP (ua 0) (fun j => totS (ua 8) j (un 1)) (un 0) rk) (un 0))) w' (mW cA q un ui ul ua 0) (fun co => mW cA q un ui ul ua co)) := by
  refine ent_i (own := RX7) (lv0 := [(0, .ref (q 0)), (1, .int rk)]) (by decide) rfl (Nat.le_of_ble_eq_true rfl) rfl ?_
  intro p e s m args below meth c A Q G hinit ret
  refine j_iconst (v := 0) G dX7_tapByYield_0 (by decide) ?_
  refine j_istore_n (lv' := [(2, .int 0), (0, .ref (q 0)), (1, .int rk)]) G dX7_tapByYield_1 rfl (by decide) rfl ?_
  have lp2 : ∀ (fu2 : Nat) (k : Nat), (k ≤ un 0) → (un 0 < k + fu2) → (∀ j, j < k → ¬ yldP (ua 0) (fun j => totS (ua 8) j (un 1)) (un 0) rk j) → J p l e (RM 1 23 0 0) s m args below meth c 5 D A (mW cA q un ui ul ua co) 0 0 Q 2 [(0, .ref (q 0)), (1, .int rk), (2, .int (nI k))] [] := by
    intro fu2
    induction fu2 with
    | zero => intro k h1 h2 h3; exact absurd h2 (by omega)
    | succ fu2 ih2 =>
      intro k h1 h2 h3
      refine j_iload_n G dX7_tapByYield_2 rfl 2 rfl ?_
      refine j_aload_n G dX7_tapByYield_3 rfl 0 rfl ?_
      refine gfX7_7 (v := .int (nI (un 0))) G 0 rfl rfl dX7_tapByYield_4 ?_
      refine j_icmp_ge (tgt := 110) G dX7_tapByYield_7 (by decide) (fun c7 => ?_) (fun c7 => ?_)
      · have g7 : un 0 ≤ k := (nI_leI (by omega) (by omega)).mp c7
        refine j_aload_n G dX7_tapByYield_110 rfl 0 rfl ?_
        refine j_iconst (v := 1) G dX7_tapByYield_111 (by decide) ?_
        refine pfX7_60 (w' := mW cA q un ui ul ua 1) G 0 rfl rfl (Nat.le_of_ble_eq_true rfl) dX7_tapByYield_112 rfl rfl ?_
        refine j_iconst (v := 0) G dX7_tapByYield_115 (by decide) ?_
        exact ret _ _ _ _ dX7_tapByYield_116 rfl (PM_no 1 (cfRank_no (P := yldP (ua 0) (fun j => totS (ua 8) j (un 1)) (un 0) rk) (fun j hj => h3 j (by have := g7; omega))) (by decide) rfl)
      · have g7 : k < un 0 := (Nat.lt_or_ge k (un 0)).resolve_right (fun h => absurd ((nI_leI (by omega) (by omega)).mpr h) c7)
        refine j_iconst (v := 0) G dX7_tapByYield_10 (by decide) ?_
        refine j_rwi (cntV_0 (fun o => ua 0 o = 2 ∧ ahP (fun j => totS (ua 8) j (un 1)) k o)) ?_
        refine j_istore_n (lv' := [(3, .int (cntV (fun o => ua 0 o = 2 ∧ ahP (fun j => totS (ua 8) j (un 1)) k o) 0)), (0, .ref (q 0)), (1, .int rk), (2, .int (nI k))]) G dX7_tapByYield_11 rfl (by decide) rfl ?_
        refine j_iconst (v := 0) G dX7_tapByYield_12 (by decide) ?_
        refine j_istore (lv' := [(4, .int 0), (3, .int (cntV (fun o => ua 0 o = 2 ∧ ahP (fun j => totS (ua 8) j (un 1)) k o) 0)), (0, .ref (q 0)), (1, .int rk), (2, .int (nI k))]) G dX7_tapByYield_13 (by decide) rfl ?_
        have lp15 : ∀ (fu15 : Nat) (o : Nat), (o ≤ un 0) → (un 0 < o + fu15) → J p l e (RM 1 23 0 0) s m args below meth c 5 D A (mW cA q un ui ul ua co) 0 0 Q 15 [(0, .ref (q 0)), (1, .int rk), (2, .int (nI k)), (3, .int (cntV (fun o => ua 0 o = 2 ∧ ahP (fun j => totS (ua 8) j (un 1)) k o) o)), (4, .int (nI o))] [] := by
          intro fu15
          induction fu15 with
          | zero => intro o h4 h5; exact absurd h5 (by omega)
          | succ fu15 ih15 =>
            intro o h4 h5
            refine j_iload G dX7_tapByYield_15 4 rfl ?_
            refine j_aload_n G dX7_tapByYield_17 rfl 0 rfl ?_
            refine gfX7_7 (v := .int (nI (un 0))) G 0 rfl rfl dX7_tapByYield_18 ?_
            refine j_icmp_ge (tgt := 83) G dX7_tapByYield_21 (by decide) (fun c21 => ?_) (fun c21 => ?_)
            · have g21 : o = un 0 := Nat.le_antisymm h4 ((nI_leI (by omega) (by omega)).mp c21)
              refine j_aload_n G dX7_tapByYield_83 rfl 0 rfl ?_
              refine gfX7_13 (v := .ref (q 1)) G 0 rfl rfl dX7_tapByYield_84 ?_
              refine j_iload_n G dX7_tapByYield_87 rfl 2 rfl ?_
              refine j_ialdN (j := k) G 1 rfl rfl (by omega) (Nat.le_of_ble_eq_true rfl) dX7_tapByYield_88 ?_
              refine j_iconst (v := 2) G dX7_tapByYield_89 (by decide) ?_
              refine j_icmp_ne (tgt := 104) G dX7_tapByYield_90 (by decide) (fun c90 => ?_) (fun c90 => ?_)
              · refine j_iinc (v := (nI (k + 1))) (lv' := [(2, .int (nI (k + 1))), (0, .ref (q 0)), (1, .int rk), (3, .int (cntV (fun o => ua 0 o = 2 ∧ ahP (fun j => totS (ua 8) j (un 1)) k o) o)), (4, .int (nI o))]) G dX7_tapByYield_104 2 rfl (nI_1 k) (by decide) rfl ?_
                refine j_goto (tgt := 2) G dX7_tapByYield_107 (by decide) ?_
                refine j_sub (lv' := [(0, .ref (q 0)), (1, .int rk), (2, .int (nI (k + 1)))]) [1, 2, 0] rfl ?_
                exact ih2 (k + 1) (by omega) (by omega) (lt_s h3 (fun h => c90 h.1))
              · refine j_iload_n G dX7_tapByYield_93 rfl 3 rfl ?_
                refine j_iload_n G dX7_tapByYield_94 rfl 1 rfl ?_
                refine j_icmp_ne (tgt := 104) G dX7_tapByYield_95 (by decide) (fun c95 => ?_) (fun c95 => ?_)
                · refine j_iinc (v := (nI (k + 1))) (lv' := [(2, .int (nI (k + 1))), (0, .ref (q 0)), (1, .int rk), (3, .int (cntV (fun o => ua 0 o = 2 ∧ ahP (fun j => totS (ua 8) j (un 1)) k o) o)), (4, .int (nI o))]) G dX7_tapByYield_104 2 rfl (nI_1 k) (by decide) rfl ?_
                  refine j_goto (tgt := 2) G dX7_tapByYield_107 (by decide) ?_
                  refine j_sub (lv' := [(0, .ref (q 0)), (1, .int rk), (2, .int (nI (k + 1)))]) [1, 2, 0] rfl ?_
                  exact ih2 (k + 1) (by omega) (by omega) (lt_s h3 (fun h => c95 (by rw [g21]; exact h.2)))
                · refine j_aload_n G dX7_tapByYield_98 rfl 0 rfl ?_
                  refine j_iload_n G dX7_tapByYield_99 rfl 2 rfl ?_
                  refine jV_i G 7 0 (cM_tells l D cA q un ui ul ua co (nI k)) gX7_85 hd_X7_tells ⟨Nat.le_of_ble_eq_true rfl, Nat.le_of_ble_eq_true rfl⟩ ⟨Nat.le_of_ble_eq_true rfl, Nat.le_of_ble_eq_true rfl⟩ rfl rfl (Nat.le_of_ble_eq_true rfl) rfl rfl dX7_tapByYield_100 (fun r w' hp => ?_)
                  obtain ⟨rfl, rfl⟩ := hp
                  exact ret _ _ _ _ dX7_tapByYield_103 rfl (PM_ok (cfRank_ok (P := yldP (ua 0) (fun j => totS (ua 8) j (un 1)) (un 0) rk) h3 g7 ⟨c90, by have e9 := c95; rw [g21] at e9; exact e9⟩) (by rw [fnd_at (P := yldP (ua 0) (fun j => totS (ua 8) j (un 1)) (un 0) rk) h3 g7 ⟨c90, by have e9 := c95; rw [g21] at e9; exact e9⟩]) rfl)
            · have g21 : o < un 0 := (Nat.lt_or_ge o (un 0)).resolve_right (fun h => absurd ((nI_leI (by omega) (by omega)).mpr h) c21)
              refine j_iload_n G dX7_tapByYield_24 rfl 3 rfl ?_
              refine j_aload_n G dX7_tapByYield_25 rfl 0 rfl ?_
              refine gfX7_13 (v := .ref (q 1)) G 0 rfl rfl dX7_tapByYield_26 ?_
              refine j_iload G dX7_tapByYield_29 4 rfl ?_
              refine j_ialdN (j := o) G 1 rfl rfl (by omega) (Nat.le_of_ble_eq_true rfl) dX7_tapByYield_31 ?_
              refine j_iconst (v := 2) G dX7_tapByYield_32 (by decide) ?_
              refine j_icmp_ne (tgt := 74) G dX7_tapByYield_33 (by decide) (fun c33 => ?_) (fun c33 => ?_)
              · refine j_iconst (v := 0) G dX7_tapByYield_74 (by decide) ?_
                refine j_iadd G dX7_tapByYield_75 ?_
                refine j_rwi (cntV_n (fun o => ua 0 o = 2 ∧ ahP (fun j => totS (ua 8) j (un 1)) k o) o (by simp [ahP, c33])) ?_
                refine j_istore_n (lv' := [(3, .int (cntV (fun o => ua 0 o = 2 ∧ ahP (fun j => totS (ua 8) j (un 1)) k o) (o + 1))), (0, .ref (q 0)), (1, .int rk), (2, .int (nI k)), (4, .int (nI o))]) G dX7_tapByYield_76 rfl (by decide) rfl ?_
                refine j_iinc (v := (nI (o + 1))) (lv' := [(4, .int (nI (o + 1))), (3, .int (cntV (fun o => ua 0 o = 2 ∧ ahP (fun j => totS (ua 8) j (un 1)) k o) (o + 1))), (0, .ref (q 0)), (1, .int rk), (2, .int (nI k))]) G dX7_tapByYield_77 4 rfl (nI_1 o) (by decide) rfl ?_
                refine j_goto (tgt := 15) G dX7_tapByYield_80 (by decide) ?_
                refine j_sub (lv' := [(0, .ref (q 0)), (1, .int rk), (2, .int (nI k)), (3, .int (cntV (fun o => ua 0 o = 2 ∧ ahP (fun j => totS (ua 8) j (un 1)) k o) (o + 1))), (4, .int (nI (o + 1)))]) [2, 3, 4, 1, 0] rfl ?_
                exact ih15 (o + 1) (by omega) (by omega)
              · refine j_aload_n G dX7_tapByYield_36 rfl 0 rfl ?_
                refine j_iload G dX7_tapByYield_37 4 rfl ?_
                refine jV_i G 7 0 (cM_total l D cA q un ui ul ua co o hh (by omega)) gX7_164 hd_X7_total ⟨Nat.le_of_ble_eq_true rfl, Nat.le_of_ble_eq_true rfl⟩ ⟨Nat.le_of_ble_eq_true rfl, Nat.le_of_ble_eq_true rfl⟩ rfl rfl (Nat.le_of_ble_eq_true rfl) rfl rfl dX7_tapByYield_39 (fun r w' hp => ?_)
                obtain ⟨rfl, rfl⟩ := hp
                refine j_aload_n G dX7_tapByYield_42 rfl 0 rfl ?_
                refine j_iload_n G dX7_tapByYield_43 rfl 2 rfl ?_
                refine jV_i G 7 0 (cM_total l D cA q un ui ul ua co k hh (by omega)) gX7_164 hd_X7_total ⟨Nat.le_of_ble_eq_true rfl, Nat.le_of_ble_eq_true rfl⟩ ⟨Nat.le_of_ble_eq_true rfl, Nat.le_of_ble_eq_true rfl⟩ rfl rfl (Nat.le_of_ble_eq_true rfl) rfl rfl dX7_tapByYield_44 (fun r w' hp => ?_)
                obtain ⟨rfl, rfl⟩ := hp
                refine j_icmp_gt (tgt := 70) G dX7_tapByYield_47 (by decide) (fun c47 => ?_) (fun c47 => ?_)
                · refine j_iconst (v := 1) G dX7_tapByYield_70 (by decide) ?_
                  refine j_goto (tgt := 75) G dX7_tapByYield_71 (by decide) ?_
                  refine j_iadd G dX7_tapByYield_75 ?_
                  refine j_rwi (cntV_y (fun o => ua 0 o = 2 ∧ ahP (fun j => totS (ua 8) j (un 1)) k o) o (by simp [ahP, c33, c47])) ?_
                  refine j_istore_n (lv' := [(3, .int (cntV (fun o => ua 0 o = 2 ∧ ahP (fun j => totS (ua 8) j (un 1)) k o) (o + 1))), (0, .ref (q 0)), (1, .int rk), (2, .int (nI k)), (4, .int (nI o))]) G dX7_tapByYield_76 rfl (by decide) rfl ?_
                  refine j_iinc (v := (nI (o + 1))) (lv' := [(4, .int (nI (o + 1))), (3, .int (cntV (fun o => ua 0 o = 2 ∧ ahP (fun j => totS (ua 8) j (un 1)) k o) (o + 1))), (0, .ref (q 0)), (1, .int rk), (2, .int (nI k))]) G dX7_tapByYield_77 4 rfl (nI_1 o) (by decide) rfl ?_
                  refine j_goto (tgt := 15) G dX7_tapByYield_80 (by decide) ?_
                  refine j_sub (lv' := [(0, .ref (q 0)), (1, .int rk), (2, .int (nI k)), (3, .int (cntV (fun o => ua 0 o = 2 ∧ ahP (fun j => totS (ua 8) j (un 1)) k o) (o + 1))), (4, .int (nI (o + 1)))]) [2, 3, 4, 1, 0] rfl ?_
                  exact ih15 (o + 1) (by omega) (by omega)
                · refine j_aload_n G dX7_tapByYield_50 rfl 0 rfl ?_
                  refine j_iload G dX7_tapByYield_51 4 rfl ?_
                  refine jV_i G 7 0 (cM_total l D cA q un ui ul ua co o hh (by omega)) gX7_164 hd_X7_total ⟨Nat.le_of_ble_eq_true rfl, Nat.le_of_ble_eq_true rfl⟩ ⟨Nat.le_of_ble_eq_true rfl, Nat.le_of_ble_eq_true rfl⟩ rfl rfl (Nat.le_of_ble_eq_true rfl) rfl rfl dX7_tapByYield_53 (fun r w' hp => ?_)
                  obtain ⟨rfl, rfl⟩ := hp
                  refine j_aload_n G dX7_tapByYield_56 rfl 0 rfl ?_
                  refine j_iload_n G dX7_tapByYield_57 rfl 2 rfl ?_
                  refine jV_i G 7 0 (cM_total l D cA q un ui ul ua co k hh (by omega)) gX7_164 hd_X7_total ⟨Nat.le_of_ble_eq_true rfl, Nat.le_of_ble_eq_true rfl⟩ ⟨Nat.le_of_ble_eq_true rfl, Nat.le_of_ble_eq_true rfl⟩ rfl rfl (Nat.le_of_ble_eq_true rfl) rfl rfl dX7_tapByYield_58 (fun r w' hp => ?_)
                  obtain ⟨rfl, rfl⟩ := hp
                  refine j_icmp_ne (tgt := 74) G dX7_tapByYield_61 (by decide) (fun c61 => ?_) (fun c61 => ?_)
                  · refine j_iconst (v := 0) G dX7_tapByYield_74 (by decide) ?_
                    refine j_iadd G dX7_tapByYield_75 ?_
                    refine j_rwi (cntV_n (fun o => ua 0 o = 2 ∧ ahP (fun j => totS (ua 8) j (un 1)) k o) o (by simp [ahP, c33, c47, c61])) ?_
                    refine j_istore_n (lv' := [(3, .int (cntV (fun o => ua 0 o = 2 ∧ ahP (fun j => totS (ua 8) j (un 1)) k o) (o + 1))), (0, .ref (q 0)), (1, .int rk), (2, .int (nI k)), (4, .int (nI o))]) G dX7_tapByYield_76 rfl (by decide) rfl ?_
                    refine j_iinc (v := (nI (o + 1))) (lv' := [(4, .int (nI (o + 1))), (3, .int (cntV (fun o => ua 0 o = 2 ∧ ahP (fun j => totS (ua 8) j (un 1)) k o) (o + 1))), (0, .ref (q 0)), (1, .int rk), (2, .int (nI k))]) G dX7_tapByYield_77 4 rfl (nI_1 o) (by decide) rfl ?_
                    refine j_goto (tgt := 15) G dX7_tapByYield_80 (by decide) ?_
                    refine j_sub (lv' := [(0, .ref (q 0)), (1, .int rk), (2, .int (nI k)), (3, .int (cntV (fun o => ua 0 o = 2 ∧ ahP (fun j => totS (ua 8) j (un 1)) k o) (o + 1))), (4, .int (nI (o + 1)))]) [2, 3, 4, 1, 0] rfl ?_
                    exact ih15 (o + 1) (by omega) (by omega)
                  · refine j_iload G dX7_tapByYield_64 4 rfl ?_
                    refine j_iload_n G dX7_tapByYield_66 rfl 2 rfl ?_
                    refine j_icmp_ge (tgt := 74) G dX7_tapByYield_67 (by decide) (fun c67 => ?_) (fun c67 => ?_)
                    · have g67 : ¬ o < k := Nat.not_lt.mpr ((nI_leI (by omega) (by omega)).mp c67)
                      refine j_iconst (v := 0) G dX7_tapByYield_74 (by decide) ?_
                      refine j_iadd G dX7_tapByYield_75 ?_
                      refine j_rwi (cntV_n (fun o => ua 0 o = 2 ∧ ahP (fun j => totS (ua 8) j (un 1)) k o) o (by simp [ahP, c33, c47, c61, g67])) ?_
                      refine j_istore_n (lv' := [(3, .int (cntV (fun o => ua 0 o = 2 ∧ ahP (fun j => totS (ua 8) j (un 1)) k o) (o + 1))), (0, .ref (q 0)), (1, .int rk), (2, .int (nI k)), (4, .int (nI o))]) G dX7_tapByYield_76 rfl (by decide) rfl ?_
                      refine j_iinc (v := (nI (o + 1))) (lv' := [(4, .int (nI (o + 1))), (3, .int (cntV (fun o => ua 0 o = 2 ∧ ahP (fun j => totS (ua 8) j (un 1)) k o) (o + 1))), (0, .ref (q 0)), (1, .int rk), (2, .int (nI k))]) G dX7_tapByYield_77 4 rfl (nI_1 o) (by decide) rfl ?_
                      refine j_goto (tgt := 15) G dX7_tapByYield_80 (by decide) ?_
                      refine j_sub (lv' := [(0, .ref (q 0)), (1, .int rk), (2, .int (nI k)), (3, .int (cntV (fun o => ua 0 o = 2 ∧ ahP (fun j => totS (ua 8) j (un 1)) k o) (o + 1))), (4, .int (nI (o + 1)))]) [2, 3, 4, 1, 0] rfl ?_
                      exact ih15 (o + 1) (by omega) (by omega)
                    · have g67 : o < k := Nat.lt_of_not_le (fun h => c67 ((nI_leI (by omega) (by omega)).mpr h))
                      refine j_iconst (v := 1) G dX7_tapByYield_70 (by decide) ?_
                      refine j_goto (tgt := 75) G dX7_tapByYield_71 (by decide) ?_
                      refine j_iadd G dX7_tapByYield_75 ?_
                      refine j_rwi (cntV_y (fun o => ua 0 o = 2 ∧ ahP (fun j => totS (ua 8) j (un 1)) k o) o (by simp [ahP, c33, c47, c61, g67])) ?_
                      refine j_istore_n (lv' := [(3, .int (cntV (fun o => ua 0 o = 2 ∧ ahP (fun j => totS (ua 8) j (un 1)) k o) (o + 1))), (0, .ref (q 0)), (1, .int rk), (2, .int (nI k)), (4, .int (nI o))]) G dX7_tapByYield_76 rfl (by decide) rfl ?_
                      refine j_iinc (v := (nI (o + 1))) (lv' := [(4, .int (nI (o + 1))), (3, .int (cntV (fun o => ua 0 o = 2 ∧ ahP (fun j => totS (ua 8) j (un 1)) k o) (o + 1))), (0, .ref (q 0)), (1, .int rk), (2, .int (nI k))]) G dX7_tapByYield_77 4 rfl (nI_1 o) (by decide) rfl ?_
                      refine j_goto (tgt := 15) G dX7_tapByYield_80 (by decide) ?_
                      refine j_sub (lv' := [(0, .ref (q 0)), (1, .int rk), (2, .int (nI k)), (3, .int (cntV (fun o => ua 0 o = 2 ∧ ahP (fun j => totS (ua 8) j (un 1)) k o) (o + 1))), (4, .int (nI (o + 1)))]) [2, 3, 4, 1, 0] rfl ?_
                      exact ih15 (o + 1) (by omega) (by omega)
        refine j_sub (lv' := [(0, .ref (q 0)), (1, .int rk), (2, .int (nI k)), (3, .int (cntV (fun o => ua 0 o = 2 ∧ ahP (fun j => totS (ua 8) j (un 1)) k o) 0)), (4, .int 0)]) [2, 3, 4, 1, 0] rfl ?_
        exact lp15 (un 0 + 1) 0 (Nat.zero_le _) (by omega)
  refine j_sub (lv' := [(0, .ref (q 0)), (1, .int rk), (2, .int 0)]) [1, 2, 0] rfl ?_
  exact lp2 (un 0 + 1) 0 (Nat.zero_le _) (by omega) (fun j hj => absurd hj (Nat.not_lt_zero j))
set_option maxHeartbeats 4000000 in
set_option maxRecDepth 100000 in
theorem cM_addTank (l : Launch) (D : va_G) (cA : Nat → ClassId) (q : Nat → Nat) (un : Nat → Nat) (ui : Nat → Int32) (ul : Nat → Int64) (ua : Nat → Nat → Int32) (co : Int32) (v : Int32) (ht4 : un 2 ≤ 4) : Ki l yX7_addTank cX7_addTank 2 .int 1 22 0 0 D cA [.ref (q 0), .int v] (mW cA q un ui ul ua co) (fun r w' => PM (cfAddTank (un 2) v) r (nI (un 2)) w' (mW cA q (up un 2 (un 2 + 1)) ui ul (up ua 9 (upd (ua 9) (un 2) v)) 0) (fun co => mW cA q un ui ul ua co)) := by
  refine ent_i (own := RX7) (lv0 := [(0, .ref (q 0)), (1, .int v)]) (by decide) rfl (Nat.le_of_ble_eq_true rfl) rfl ?_
  intro p e s m args below meth c A Q G hinit ret
  refine j_aload_n G dX7_addTank_0 rfl 0 rfl ?_
  refine j_iload_n G dX7_addTank_1 rfl 1 rfl ?_
  refine j_iconst (v := 1) G dX7_addTank_2 (by decide) ?_
  refine j_sipush (v := 5000) G dX7_addTank_3 (by decide) ?_
  refine jS_i G (cM_in l D cA (mW cA q un ui ul ua co) v 1 5000) gX7_63 hd_X7_in.2 ⟨Nat.le_of_ble_eq_true rfl, Nat.le_of_ble_eq_true rfl⟩ ⟨Nat.le_of_ble_eq_true rfl, Nat.le_of_ble_eq_true rfl⟩ rfl rfl (Nat.le_of_ble_eq_true rfl) dX7_addTank_6 (fun r w' hp => ?_)
  obtain ⟨rfl, rfl⟩ := hp
  refine j_ifb_ne (tgt := 16) G dX7_addTank_9 (by decide) (fun c9 => ?_) (fun c9 => ?_)
  · refine j_aload_n G dX7_addTank_16 rfl 0 rfl ?_
    refine gfX7_111 (v := .int (nI (un 2))) G 0 rfl rfl dX7_addTank_17 ?_
    refine j_iconst (v := 4) G dX7_addTank_20 (by decide) ?_
    refine j_icmp_ne (tgt := 28) G dX7_addTank_21 (by decide) (fun c21 => ?_) (fun c21 => ?_)
    · refine j_iconst (v := 0) G dX7_addTank_28 (by decide) ?_
      refine jV_i G 7 0 (cM_fails l D cA q un ui ul ua co 0) gX7_71 hd_X7_fails ⟨Nat.le_of_ble_eq_true rfl, Nat.le_of_ble_eq_true rfl⟩ ⟨Nat.le_of_ble_eq_true rfl, Nat.le_of_ble_eq_true rfl⟩ rfl rfl (Nat.le_of_ble_eq_true rfl) rfl rfl dX7_addTank_29 (fun r w' hp => ?_)
      obtain ⟨rfl, rfl⟩ := hp
      refine j_rwi (show bI (¬ (0 : Int32) ≤ 0) = 0 from by decide) ?_
      refine j_if_eq (tgt := 37) G dX7_addTank_32 (by decide) (fun _ => ?_) (fun c32 => absurd c32 (by decide))
      have g21 : un 2 < 4 := (Nat.lt_or_ge (un 2) 4).resolve_right (fun h => absurd (show nI (un 2) = 4 from by rw [show un 2 = 4 by omega]; rfl) c21)
      refine j_aload_n G dX7_addTank_37 rfl 0 rfl ?_
      refine gfX7_41 (v := .ref (q 10)) G 0 rfl rfl dX7_addTank_38 ?_
      refine j_aload_n G dX7_addTank_41 rfl 0 rfl ?_
      refine gfX7_111 (v := .int (nI (un 2))) G 0 rfl rfl dX7_addTank_42 ?_
      refine j_iload_n G dX7_addTank_45 rfl 1 rfl ?_
      refine j_iast (j := (un 2)) (w' := mW cA q un ui ul (up ua 9 (upd (ua 9) (un 2) v)) 0) G 10 rfl rfl (by omega) (Nat.le_of_ble_eq_true rfl) dX7_addTank_46 rfl ?_
      refine j_aload_n G dX7_addTank_47 rfl 0 rfl ?_
      refine j_dup G dX7_addTank_48 rfl ?_
      refine gfX7_111 (v := .int (nI (un 2))) G 0 rfl rfl dX7_addTank_49 ?_
      refine j_iconst (v := 1) G dX7_addTank_52 (by decide) ?_
      refine j_iadd G dX7_addTank_53 ?_
      refine j_rwi (nI_add (un 2) 1) ?_
      refine pfX7_111 (w' := mW cA q (up un 2 (un 2 + 1)) ui ul (up ua 9 (upd (ua 9) (un 2) v)) 0) G 0 rfl rfl (Nat.le_of_ble_eq_true rfl) dX7_addTank_54 rfl rfl ?_
      refine j_aload_n G dX7_addTank_57 rfl 0 rfl ?_
      refine gfX7_111 (v := .int (nI (un 2 + 1))) G 0 rfl rfl dX7_addTank_58 ?_
      refine j_iconst (v := 1) G dX7_addTank_61 (by decide) ?_
      refine j_isub G dX7_addTank_62 ?_
      refine j_rwi (nI_pred (un 2)) ?_
      exact ret _ _ _ _ dX7_addTank_63 rfl (PM_ok (by simp [cfAddTank, c9, c21]) rfl rfl)
    · refine j_iconst (v := 2) G dX7_addTank_24 (by decide) ?_
      refine j_goto (tgt := 29) G dX7_addTank_25 (by decide) ?_
      refine jV_i G 7 0 (cM_fails l D cA q un ui ul ua co 2) gX7_71 hd_X7_fails ⟨Nat.le_of_ble_eq_true rfl, Nat.le_of_ble_eq_true rfl⟩ ⟨Nat.le_of_ble_eq_true rfl, Nat.le_of_ble_eq_true rfl⟩ rfl rfl (Nat.le_of_ble_eq_true rfl) rfl rfl dX7_addTank_29 (fun r w' hp => ?_)
      obtain ⟨rfl, rfl⟩ := hp
      refine j_rwi (show bI (¬ (2 : Int32) ≤ 0) = 1 from by decide) ?_
      refine j_if_eq (tgt := 37) G dX7_addTank_32 (by decide) (fun c32 => absurd c32 (by decide)) (fun _ => ?_)
      refine j_iconst (v := 0) G dX7_addTank_35 (by decide) ?_
      exact ret _ _ _ _ dX7_addTank_36 rfl (PM_no 2 (by simp [cfAddTank, c9, c21]) (by decide) rfl)
  · refine j_iconst (v := 1) G dX7_addTank_12 (by decide) ?_
    refine j_goto (tgt := 29) G dX7_addTank_13 (by decide) ?_
    refine jV_i G 7 0 (cM_fails l D cA q un ui ul ua co 1) gX7_71 hd_X7_fails ⟨Nat.le_of_ble_eq_true rfl, Nat.le_of_ble_eq_true rfl⟩ ⟨Nat.le_of_ble_eq_true rfl, Nat.le_of_ble_eq_true rfl⟩ rfl rfl (Nat.le_of_ble_eq_true rfl) rfl rfl dX7_addTank_29 (fun r w' hp => ?_)
    obtain ⟨rfl, rfl⟩ := hp
    refine j_rwi (show bI (¬ (1 : Int32) ≤ 0) = 1 from by decide) ?_
    refine j_if_eq (tgt := 37) G dX7_addTank_32 (by decide) (fun c32 => absurd c32 (by decide)) (fun _ => ?_)
    refine j_iconst (v := 0) G dX7_addTank_35 (by decide) ?_
    exact ret _ _ _ _ dX7_addTank_36 rfl (PM_no 1 (by simp [cfAddTank, c9]) (by decide) rfl)
set_option maxHeartbeats 4000000 in
set_option maxRecDepth 100000 in
theorem cM_isNoTank (l : Launch) (D : va_G) (cA : Nat → ClassId) (q : Nat → Nat) (un : Nat → Nat) (ui : Nat → Int32) (ul : Nat → Int64) (ua : Nat → Nat → Int32) (co : Int32) (v : Int32) (ht4 : un 2 ≤ 4) : Ki l yX7_isNoTank cX7_isNoTank 2 .boolean 1 22 0 0 D cA [.ref (q 0), .int v] (mW cA q un ui ul ua co) (fun r w' => r = bI (¬ VN (un 2) v) ∧ w' = mW cA q un ui ul ua (cfTank (un 2) v)) := by
  refine ent_i (own := RX7) (lv0 := [(0, .ref (q 0)), (1, .int v)]) (by decide) rfl (Nat.le_of_ble_eq_true rfl) rfl ?_
  intro p e s m args below meth c A Q G hinit ret
  refine j_aload_n G dX7_isNoTank_0 rfl 0 rfl ?_
  refine j_iload_n G dX7_isNoTank_1 rfl 1 rfl ?_
  refine j_iconst (v := 0) G dX7_isNoTank_2 (by decide) ?_
  refine j_aload_n G dX7_isNoTank_3 rfl 0 rfl ?_
  refine gfX7_111 (v := .int (nI (un 2))) G 0 rfl rfl dX7_isNoTank_4 ?_
  refine j_iconst (v := 1) G dX7_isNoTank_7 (by decide) ?_
  refine j_isub G dX7_isNoTank_8 ?_
  refine jS_i G (cM_in l D cA (mW cA q un ui ul ua co) v 0 ((nI (un 2)) - 1)) gX7_63 hd_X7_in.2 ⟨Nat.le_of_ble_eq_true rfl, Nat.le_of_ble_eq_true rfl⟩ ⟨Nat.le_of_ble_eq_true rfl, Nat.le_of_ble_eq_true rfl⟩ rfl rfl (Nat.le_of_ble_eq_true rfl) dX7_isNoTank_9 (fun r w' hp => ?_)
  obtain ⟨rfl, rfl⟩ := hp
  refine j_ifb_eq (tgt := 19) G dX7_isNoTank_12 (by decide) (fun c12 => ?_) (fun c12 => ?_)
  · refine j_iconst (v := 1) G dX7_isNoTank_19 (by decide) ?_
    refine jV_i G 7 0 (cM_fails l D cA q un ui ul ua co 1) gX7_71 hd_X7_fails ⟨Nat.le_of_ble_eq_true rfl, Nat.le_of_ble_eq_true rfl⟩ ⟨Nat.le_of_ble_eq_true rfl, Nat.le_of_ble_eq_true rfl⟩ rfl rfl (Nat.le_of_ble_eq_true rfl) rfl rfl dX7_isNoTank_20 (fun r w' hp => ?_)
    obtain ⟨rfl, rfl⟩ := hp
    refine j_rwi (show bI (¬ (1 : Int32) ≤ 0) = 1 from by decide) ?_
    exact ret _ _ _ _ dX7_isNoTank_23 (by decide) ⟨(by have e9 := VN_pred (n := un 2) (by omega) v; simp only [bI, ← e9]; simp [c12]), (by have e9 := VN_pred (n := un 2) (by omega) v; rw [show cfTank (un 2) v = 1 from by simp only [cfTank, ← e9]; simp [c12]])⟩
  · refine j_iconst (v := 0) G dX7_isNoTank_15 (by decide) ?_
    refine j_goto (tgt := 20) G dX7_isNoTank_16 (by decide) ?_
    refine jV_i G 7 0 (cM_fails l D cA q un ui ul ua co 0) gX7_71 hd_X7_fails ⟨Nat.le_of_ble_eq_true rfl, Nat.le_of_ble_eq_true rfl⟩ ⟨Nat.le_of_ble_eq_true rfl, Nat.le_of_ble_eq_true rfl⟩ rfl rfl (Nat.le_of_ble_eq_true rfl) rfl rfl dX7_isNoTank_20 (fun r w' hp => ?_)
    obtain ⟨rfl, rfl⟩ := hp
    refine j_rwi (show bI (¬ (0 : Int32) ≤ 0) = 0 from by decide) ?_
    exact ret _ _ _ _ dX7_isNoTank_23 (by decide) ⟨(by have e9 := VN_pred (n := un 2) (by omega) v; simp only [bI, ← e9]; simp [c12]), (by have e9 := VN_pred (n := un 2) (by omega) v; rw [show cfTank (un 2) v = 0 from by simp only [cfTank, ← e9]; simp [c12]])⟩
set_option maxHeartbeats 4000000 in
set_option maxRecDepth 100000 in
theorem cM_drain (l : Launch) (D : va_G) (cA : Nat → ClassId) (q : Nat → Nat) (un : Nat → Nat) (ui : Nat → Int32) (ul : Nat → Int64) (ua : Nat → Nat → Int32) (co : Int32) (v : Int32) (ht4 : un 2 ≤ 4) : Ki l yX7_drain cX7_drain 3 .int 2 43 0 0 D cA [.ref (q 0), .int v] (mW cA q un ui ul ua co) (fun r w' => PM (cfTank (un 2) v) r (ua 10 v.toNatClampNeg) w' (mW cA q un ui (up (up ul 3 (ul 3 + (ua 10 v.toNatClampNeg).toInt64)) 4 (ul 4 + (ua 11 v.toNatClampNeg).toInt64)) (up (up ua 10 (upd (ua 10) v.toNatClampNeg 0)) 11 (upd (ua 11) v.toNatClampNeg 0)) 0) (fun co => mW cA q un ui ul ua co)) := by
  refine ent_i (own := RX7) (lv0 := [(0, .ref (q 0)), (1, .int v)]) (by decide) rfl (Nat.le_of_ble_eq_true rfl) rfl ?_
  intro p e s m args below meth c A Q G hinit ret
  refine j_aload_n G dX7_drain_0 rfl 0 rfl ?_
  refine j_iload_n G dX7_drain_1 rfl 1 rfl ?_
  refine jV_i G 7 0 (cM_isNoTank l D cA q un ui ul ua co v ht4) gX7_167 hd_X7_isNoTank ⟨Nat.le_of_ble_eq_true rfl, Nat.le_of_ble_eq_true rfl⟩ ⟨Nat.le_of_ble_eq_true rfl, Nat.le_of_ble_eq_true rfl⟩ rfl rfl (Nat.le_of_ble_eq_true rfl) rfl rfl dX7_drain_2 (fun r w' hp => ?_)
  obtain ⟨rfl, rfl⟩ := hp
  refine j_ifb_eq (tgt := 10) G dX7_drain_5 (by decide) (fun c5 => ?_) (fun c5 => ?_)
  · refine j_aload_n G dX7_drain_10 rfl 0 rfl ?_
    refine gfX7_44 (v := .ref (q 11)) G 0 rfl rfl dX7_drain_11 ?_
    refine j_iload_n G dX7_drain_14 rfl 1 rfl ?_
    refine j_iald G 11 rfl (VN.vp (Decidable.not_not.mp c5) (by omega) (by omega)) dX7_drain_15 ?_
    refine j_istore_n (lv' := [(2, .int (ua 10 v.toNatClampNeg)), (0, .ref (q 0)), (1, .int v)]) G dX7_drain_16 rfl (by decide) rfl ?_
    refine j_aload_n G dX7_drain_17 rfl 1 rfl ?_
    refine j_aload_n G dX7_drain_18 rfl 1 rfl ?_
    refine gfX7_44 (v := .ref (q 11)) G 0 rfl rfl dX7_drain_19 ?_
    refine j_iload_n G dX7_drain_22 rfl 2 rfl ?_
    refine j_iald G 11 rfl (VN.vp (Decidable.not_not.mp c5) (by omega) (by omega)) dX7_drain_23 ?_
    refine j_aload_n G dX7_drain_24 rfl 1 rfl ?_
    refine gfX7_47 (v := .ref (q 12)) G 0 rfl rfl dX7_drain_25 ?_
    refine j_iload_n G dX7_drain_28 rfl 2 rfl ?_
    refine j_iald G 12 rfl (VN.vp (Decidable.not_not.mp c5) (by omega) (by omega)) dX7_drain_29 ?_
    refine jV_v G 7 0 (cM_wastes l D cA q un ui ul ua (cfTank (un 2) v) (ua 10 v.toNatClampNeg) (ua 11 v.toNatClampNeg)) gX7_114 hd_X7_wastes ⟨Nat.le_of_ble_eq_true rfl, Nat.le_of_ble_eq_true rfl⟩ ⟨Nat.le_of_ble_eq_true rfl, Nat.le_of_ble_eq_true rfl⟩ rfl rfl (Nat.le_of_ble_eq_true rfl) rfl rfl dX7_drain_30 (fun w' hp => ?_)
    subst hp
    refine j_w (w' := mW cA q un ui (up (up ul 3 (ul 3 + (ua 10 v.toNatClampNeg).toInt64)) 4 (ul 4 + (ua 11 v.toNatClampNeg).toInt64)) ua (cfTank (un 2) v)) rfl ?_
    refine j_aload_n G dX7_drain_33 rfl 1 rfl ?_
    refine gfX7_44 (v := .ref (q 11)) G 0 rfl rfl dX7_drain_34 ?_
    refine j_iload_n G dX7_drain_37 rfl 2 rfl ?_
    refine j_iconst (v := 0) G dX7_drain_38 (by decide) ?_
    refine j_iastR (w' := mW cA q un ui (up (up ul 3 (ul 3 + (ua 10 v.toNatClampNeg).toInt64)) 4 (ul 4 + (ua 11 v.toNatClampNeg).toInt64)) (up ua 10 (upd (ua 10) v.toNatClampNeg 0)) (cfTank (un 2) v)) G 11 rfl (VN.vp (Decidable.not_not.mp c5) (by omega) (by omega)) dX7_drain_39 rfl ?_
    refine j_aload_n G dX7_drain_40 rfl 1 rfl ?_
    refine gfX7_47 (v := .ref (q 12)) G 0 rfl rfl dX7_drain_41 ?_
    refine j_iload_n G dX7_drain_44 rfl 2 rfl ?_
    refine j_iconst (v := 0) G dX7_drain_45 (by decide) ?_
    refine j_iastR (w' := mW cA q un ui (up (up ul 3 (ul 3 + (ua 10 v.toNatClampNeg).toInt64)) 4 (ul 4 + (ua 11 v.toNatClampNeg).toInt64)) (up (up ua 10 (upd (ua 10) v.toNatClampNeg 0)) 11 (upd (ua 11) v.toNatClampNeg 0)) (cfTank (un 2) v)) G 12 rfl (VN.vp (Decidable.not_not.mp c5) (by omega) (by omega)) dX7_drain_46 rfl ?_
    refine j_iload_n G dX7_drain_47 rfl 0 rfl ?_
    exact ret _ _ _ _ dX7_drain_48 rfl (PM_ok (by simp [cfTank, Decidable.not_not.mp c5]) rfl (by rw [show cfTank (un 2) v = 0 from if_pos (Decidable.not_not.mp c5)]))
  · refine j_iconst (v := 0) G dX7_drain_8 (by decide) ?_
    exact ret _ _ _ _ dX7_drain_9 rfl (PM_no (cfTank (un 2) v) (by simp [cfTank, cfTank, c5]) (by simp [cfTank, c5]) rfl)
set_option maxHeartbeats 4000000 in
set_option maxRecDepth 100000 in
theorem cM_tankVolume (l : Launch) (D : va_G) (cA : Nat → ClassId) (q : Nat → Nat) (un : Nat → Nat) (ui : Nat → Int32) (ul : Nat → Int64) (ua : Nat → Nat → Int32) (co : Int32) (v : Int32) (ht4 : un 2 ≤ 4) : Ki l yX7_tankVolume cX7_tankVolume 2 .int 2 43 0 0 D cA [.ref (q 0), .int v] (mW cA q un ui ul ua co) (fun r w' => PM (cfTank (un 2) v) r (ua 10 v.toNatClampNeg) w' (mW cA q un ui ul ua 0) (fun co => mW cA q un ui ul ua co)) := by
  refine ent_i (own := RX7) (lv0 := [(0, .ref (q 0)), (1, .int v)]) (by decide) rfl (Nat.le_of_ble_eq_true rfl) rfl ?_
  intro p e s m args below meth c A Q G hinit ret
  refine j_aload_n G dX7_tankVolume_0 rfl 0 rfl ?_
  refine j_iload_n G dX7_tankVolume_1 rfl 1 rfl ?_
  refine jV_i G 7 0 (cM_isNoTank l D cA q un ui ul ua co v ht4) gX7_167 hd_X7_isNoTank ⟨Nat.le_of_ble_eq_true rfl, Nat.le_of_ble_eq_true rfl⟩ ⟨Nat.le_of_ble_eq_true rfl, Nat.le_of_ble_eq_true rfl⟩ rfl rfl (Nat.le_of_ble_eq_true rfl) rfl rfl dX7_tankVolume_2 (fun r w' hp => ?_)
  obtain ⟨rfl, rfl⟩ := hp
  refine j_ifb_eq (tgt := 12) G dX7_tankVolume_5 (by decide) (fun c5 => ?_) (fun c5 => ?_)
  · refine j_aload_n G dX7_tankVolume_12 rfl 0 rfl ?_
    refine gfX7_44 (v := .ref (q 11)) G 0 rfl rfl dX7_tankVolume_13 ?_
    refine j_iload_n G dX7_tankVolume_16 rfl 1 rfl ?_
    refine j_iald G 11 rfl (VN.vp (Decidable.not_not.mp c5) (by omega) (by omega)) dX7_tankVolume_17 ?_
    exact ret _ _ _ _ dX7_tankVolume_18 rfl (PM_ok (by simp [cfTank, Decidable.not_not.mp c5]) rfl (by rw [show cfTank (un 2) v = 0 from if_pos (Decidable.not_not.mp c5)]))
  · refine j_iconst (v := 0) G dX7_tankVolume_8 (by decide) ?_
    refine j_goto (tgt := 18) G dX7_tankVolume_9 (by decide) ?_
    exact ret _ _ _ _ dX7_tankVolume_18 rfl (PM_no (cfTank (un 2) v) (by simp [cfTank, cfTank, c5]) (by simp [cfTank, c5]) rfl)
set_option maxHeartbeats 4000000 in
set_option maxRecDepth 100000 in
theorem cM_tankSugar (l : Launch) (D : va_G) (cA : Nat → ClassId) (q : Nat → Nat) (un : Nat → Nat) (ui : Nat → Int32) (ul : Nat → Int64) (ua : Nat → Nat → Int32) (co : Int32) (v : Int32) (ht4 : un 2 ≤ 4) : Ki l yX7_tankSugar cX7_tankSugar 2 .int 2 43 0 0 D cA [.ref (q 0), .int v] (mW cA q un ui ul ua co) (fun r w' => PM (cfTank (un 2) v) r (ua 11 v.toNatClampNeg) w' (mW cA q un ui ul ua 0) (fun co => mW cA q un ui ul ua co)) := by
  refine ent_i (own := RX7) (lv0 := [(0, .ref (q 0)), (1, .int v)]) (by decide) rfl (Nat.le_of_ble_eq_true rfl) rfl ?_
  intro p e s m args below meth c A Q G hinit ret
  refine j_aload_n G dX7_tankSugar_0 rfl 0 rfl ?_
  refine j_iload_n G dX7_tankSugar_1 rfl 1 rfl ?_
  refine jV_i G 7 0 (cM_isNoTank l D cA q un ui ul ua co v ht4) gX7_167 hd_X7_isNoTank ⟨Nat.le_of_ble_eq_true rfl, Nat.le_of_ble_eq_true rfl⟩ ⟨Nat.le_of_ble_eq_true rfl, Nat.le_of_ble_eq_true rfl⟩ rfl rfl (Nat.le_of_ble_eq_true rfl) rfl rfl dX7_tankSugar_2 (fun r w' hp => ?_)
  obtain ⟨rfl, rfl⟩ := hp
  refine j_ifb_eq (tgt := 12) G dX7_tankSugar_5 (by decide) (fun c5 => ?_) (fun c5 => ?_)
  · refine j_aload_n G dX7_tankSugar_12 rfl 0 rfl ?_
    refine gfX7_47 (v := .ref (q 12)) G 0 rfl rfl dX7_tankSugar_13 ?_
    refine j_iload_n G dX7_tankSugar_16 rfl 1 rfl ?_
    refine j_iald G 12 rfl (VN.vp (Decidable.not_not.mp c5) (by omega) (by omega)) dX7_tankSugar_17 ?_
    exact ret _ _ _ _ dX7_tankSugar_18 rfl (PM_ok (by simp [cfTank, Decidable.not_not.mp c5]) rfl (by rw [show cfTank (un 2) v = 0 from if_pos (Decidable.not_not.mp c5)]))
  · refine j_iconst (v := 0) G dX7_tankSugar_8 (by decide) ?_
    refine j_goto (tgt := 18) G dX7_tankSugar_9 (by decide) ?_
    exact ret _ _ _ _ dX7_tankSugar_18 rfl (PM_no (cfTank (un 2) v) (by simp [cfTank, cfTank, c5]) (by simp [cfTank, c5]) rfl)
set_option maxHeartbeats 4000000 in
set_option maxRecDepth 100000 in
theorem cM_load (l : Launch) (D : va_G) (cA : Nat → ClassId) (q : Nat → Nat) (un : Nat → Nat) (ui : Nat → Int32) (ul : Nat → Int64) (ua : Nat → Nat → Int32) (co : Int32) (v : Int32) (z : Int32) (ht4 : un 2 ≤ 4) : Ki l yX7_load cX7_load 4 .int 2 43 0 0 D cA [.ref (q 0), .int v, .int z] (mW cA q un ui ul ua co) (fun r w' => PM (cfLoad (un 2) v z (ui 1) (ua 10)) r (ui 1 + z) w' (mW cA q un (up (up ui 1 (ui 1 + z)) 2 (ui 2 + ((ua 11 v.toNatClampNeg).toInt64 * z.toInt64 / (ua 10 v.toNatClampNeg).toInt64).toInt32)) ul (up (up ua 10 (upd (ua 10) v.toNatClampNeg (ua 10 v.toNatClampNeg - z))) 11 (upd (ua 11) v.toNatClampNeg (ua 11 v.toNatClampNeg - ((ua 11 v.toNatClampNeg).toInt64 * z.toInt64 / (ua 10 v.toNatClampNeg).toInt64).toInt32))) 0) (fun co => mW cA q un ui ul ua co)) := by
  refine ent_i (own := RX7) (lv0 := [(0, .ref (q 0)), (1, .int v), (2, .int z)]) (by decide) rfl (Nat.le_of_ble_eq_true rfl) rfl ?_
  intro p e s m args below meth c A Q G hinit ret
  refine j_aload_n G dX7_load_0 rfl 0 rfl ?_
  refine j_iload_n G dX7_load_1 rfl 1 rfl ?_
  refine jV_i G 7 0 (cM_isNoTank l D cA q un ui ul ua co v ht4) gX7_167 hd_X7_isNoTank ⟨Nat.le_of_ble_eq_true rfl, Nat.le_of_ble_eq_true rfl⟩ ⟨Nat.le_of_ble_eq_true rfl, Nat.le_of_ble_eq_true rfl⟩ rfl rfl (Nat.le_of_ble_eq_true rfl) rfl rfl dX7_load_2 (fun r w' hp => ?_)
  obtain ⟨rfl, rfl⟩ := hp
  refine j_ifb_ne (tgt := 61) G dX7_load_5 (by decide) (fun c5 => ?_) (fun c5 => ?_)
  · refine j_iconst (v := 0) G dX7_load_61 (by decide) ?_
    exact ret _ _ _ _ dX7_load_62 rfl (PM_no (cfTank (un 2) v) (by simp [cfTank, cfLoad, c5]) (by simp [cfTank, c5]) rfl)
  · refine j_aload_n G dX7_load_8 rfl 0 rfl ?_
    refine j_iload_n G dX7_load_9 rfl 2 rfl ?_
    refine j_iconst (v := 1) G dX7_load_10 (by decide) ?_
    refine j_sipush (v := 500) G dX7_load_11 (by decide) ?_
    refine jS_i G (cM_in l D cA (mW cA q un ui ul ua (cfTank (un 2) v)) z 1 500) gX7_63 hd_X7_in.2 ⟨Nat.le_of_ble_eq_true rfl, Nat.le_of_ble_eq_true rfl⟩ ⟨Nat.le_of_ble_eq_true rfl, Nat.le_of_ble_eq_true rfl⟩ rfl rfl (Nat.le_of_ble_eq_true rfl) dX7_load_14 (fun r w' hp => ?_)
    obtain ⟨rfl, rfl⟩ := hp
    refine j_ifb_ne (tgt := 24) G dX7_load_17 (by decide) (fun c17 => ?_) (fun c17 => ?_)
    · refine j_iload_n G dX7_load_24 rfl 2 rfl ?_
      refine j_aload_n G dX7_load_25 rfl 0 rfl ?_
      refine gfX7_44 (v := .ref (q 11)) G 0 rfl rfl dX7_load_26 ?_
      refine j_iload_n G dX7_load_29 rfl 1 rfl ?_
      refine j_iald G 11 rfl (VN.vp (Decidable.not_not.mp c5) (by omega) (by omega)) dX7_load_30 ?_
      refine j_icmp_le (tgt := 38) G dX7_load_31 (by decide) (fun c31 => ?_) (fun c31 => ?_)
      · refine j_aload_n G dX7_load_38 rfl 0 rfl ?_
        refine gfX7_128 (v := .int (ui 1)) G 0 rfl rfl dX7_load_39 ?_
        refine j_iload_n G dX7_load_42 rfl 2 rfl ?_
        refine j_iadd G dX7_load_43 ?_
        refine j_sipush (v := 500) G dX7_load_44 (by decide) ?_
        refine j_icmp_le (tgt := 54) G dX7_load_47 (by decide) (fun c47 => ?_) (fun c47 => ?_)
        · refine j_iconst (v := 0) G dX7_load_54 (by decide) ?_
          refine jV_i G 7 0 (cM_fails l D cA q un ui ul ua (cfTank (un 2) v) 0) gX7_71 hd_X7_fails ⟨Nat.le_of_ble_eq_true rfl, Nat.le_of_ble_eq_true rfl⟩ ⟨Nat.le_of_ble_eq_true rfl, Nat.le_of_ble_eq_true rfl⟩ rfl rfl (Nat.le_of_ble_eq_true rfl) rfl rfl dX7_load_55 (fun r w' hp => ?_)
          obtain ⟨rfl, rfl⟩ := hp
          refine j_rwi (show bI (¬ (0 : Int32) ≤ 0) = 0 from by decide) ?_
          refine j_if_eq (tgt := 63) G dX7_load_58 (by decide) (fun _ => ?_) (fun c58 => absurd c58 (by decide))
          refine j_aload_n G dX7_load_63 rfl 0 rfl ?_
          refine gfX7_47 (v := .ref (q 12)) G 0 rfl rfl dX7_load_64 ?_
          refine j_iload_n G dX7_load_67 rfl 1 rfl ?_
          refine j_iald G 12 rfl (VN.vp (Decidable.not_not.mp c5) (by omega) (by omega)) dX7_load_68 ?_
          refine j_i2l G dX7_load_69 ?_
          refine j_iload_n G dX7_load_70 rfl 2 rfl ?_
          refine j_i2l G dX7_load_71 ?_
          refine j_lmul G dX7_load_72 ?_
          refine j_aload_n G dX7_load_73 rfl 0 rfl ?_
          refine gfX7_44 (v := .ref (q 11)) G 0 rfl rfl dX7_load_74 ?_
          refine j_iload_n G dX7_load_77 rfl 1 rfl ?_
          refine j_iald G 11 rfl (VN.vp (Decidable.not_not.mp c5) (by omega) (by omega)) dX7_load_78 ?_
          refine j_i2l G dX7_load_79 ?_
          refine j_ldiv G dX7_load_80 (ne0V c17 c31) ?_
          refine j_l2i G dX7_load_81 ?_
          refine j_istore_n (lv' := [(3, .int (((((ua 11 v.toNatClampNeg).toInt64) * z.toInt64) / ((ua 10 v.toNatClampNeg).toInt64)).toInt32)), (0, .ref (q 0)), (1, .int v), (2, .int z)]) G dX7_load_82 rfl (by decide) rfl ?_
          refine j_aload_n G dX7_load_83 rfl 1 rfl ?_
          refine gfX7_44 (v := .ref (q 11)) G 0 rfl rfl dX7_load_84 ?_
          refine j_iload_n G dX7_load_87 rfl 2 rfl ?_
          refine j_dup2 G dX7_load_88 rfl rfl ?_
          refine j_iald G 11 rfl (VN.vp (Decidable.not_not.mp c5) (by omega) (by omega)) dX7_load_89 ?_
          refine j_iload_n G dX7_load_90 rfl 3 rfl ?_
          refine j_isub G dX7_load_91 ?_
          refine j_iastR (w' := mW cA q un ui ul (up ua 10 (upd (ua 10) v.toNatClampNeg ((ua 10 v.toNatClampNeg) - z))) 0) G 11 rfl (VN.vp (Decidable.not_not.mp c5) (by omega) (by omega)) dX7_load_92 rfl ?_
          refine j_aload_n G dX7_load_93 rfl 1 rfl ?_
          refine gfX7_47 (v := .ref (q 12)) G 0 rfl rfl dX7_load_94 ?_
          refine j_iload_n G dX7_load_97 rfl 2 rfl ?_
          refine j_dup2 G dX7_load_98 rfl rfl ?_
          refine j_iald G 12 rfl (VN.vp (Decidable.not_not.mp c5) (by omega) (by omega)) dX7_load_99 ?_
          refine j_iload_n G dX7_load_100 rfl 0 rfl ?_
          refine j_isub G dX7_load_101 ?_
          refine j_iastR (w' := mW cA q un ui ul (up (up ua 10 (upd (ua 10) v.toNatClampNeg ((ua 10 v.toNatClampNeg) - z))) 11 (upd (ua 11) v.toNatClampNeg ((ua 11 v.toNatClampNeg) - (((((ua 11 v.toNatClampNeg).toInt64) * z.toInt64) / ((ua 10 v.toNatClampNeg).toInt64)).toInt32)))) 0) G 12 rfl (VN.vp (Decidable.not_not.mp c5) (by omega) (by omega)) dX7_load_102 rfl ?_
          refine j_aload_n G dX7_load_103 rfl 1 rfl ?_
          refine j_dup G dX7_load_104 rfl ?_
          refine gfX7_128 (v := .int (ui 1)) G 0 rfl rfl dX7_load_105 ?_
          refine j_iload_n G dX7_load_108 rfl 3 rfl ?_
          refine j_iadd G dX7_load_109 ?_
          refine j_topi (fun x1 ex1 => ?_)
          refine pfX7_128 (w' := mW cA q un (up ui 1 x1) ul (up (up ua 10 (upd (ua 10) v.toNatClampNeg ((ua 10 v.toNatClampNeg) - z))) 11 (upd (ua 11) v.toNatClampNeg ((ua 11 v.toNatClampNeg) - (((((ua 11 v.toNatClampNeg).toInt64) * z.toInt64) / ((ua 10 v.toNatClampNeg).toInt64)).toInt32)))) 0) G 0 rfl rfl (Nat.le_of_ble_eq_true rfl) dX7_load_110 rfl rfl ?_
          refine j_aload_n G dX7_load_113 rfl 1 rfl ?_
          refine j_dup G dX7_load_114 rfl ?_
          refine gfX7_131 (v := .int (ui 2)) G 0 rfl rfl dX7_load_115 ?_
          refine j_iload_n G dX7_load_118 rfl 0 rfl ?_
          refine j_iadd G dX7_load_119 ?_
          refine j_topi (fun x2 ex2 => ?_)
          refine pfX7_131 (w' := mW cA q un (up (up ui 1 x1) 2 x2) ul (up (up ua 10 (upd (ua 10) v.toNatClampNeg ((ua 10 v.toNatClampNeg) - z))) 11 (upd (ua 11) v.toNatClampNeg ((ua 11 v.toNatClampNeg) - (((((ua 11 v.toNatClampNeg).toInt64) * z.toInt64) / ((ua 10 v.toNatClampNeg).toInt64)).toInt32)))) 0) G 0 rfl rfl (Nat.le_of_ble_eq_true rfl) dX7_load_120 rfl rfl ?_
          refine j_aload_n G dX7_load_123 rfl 1 rfl ?_
          refine gfX7_128 (v := .int x1) G 0 rfl rfl dX7_load_124 ?_
          subst ex2 ex1
          exact ret _ _ _ _ dX7_load_127 rfl (PM_ok (by simp [cfLoad, c5, c17, c31, c47]) rfl rfl)
        · refine j_iconst (v := 4) G dX7_load_50 (by decide) ?_
          refine j_goto (tgt := 55) G dX7_load_51 (by decide) ?_
          refine jV_i G 7 0 (cM_fails l D cA q un ui ul ua (cfTank (un 2) v) 4) gX7_71 hd_X7_fails ⟨Nat.le_of_ble_eq_true rfl, Nat.le_of_ble_eq_true rfl⟩ ⟨Nat.le_of_ble_eq_true rfl, Nat.le_of_ble_eq_true rfl⟩ rfl rfl (Nat.le_of_ble_eq_true rfl) rfl rfl dX7_load_55 (fun r w' hp => ?_)
          obtain ⟨rfl, rfl⟩ := hp
          refine j_rwi (show bI (¬ (4 : Int32) ≤ 0) = 1 from by decide) ?_
          refine j_if_eq (tgt := 63) G dX7_load_58 (by decide) (fun c58 => absurd c58 (by decide)) (fun _ => ?_)
          refine j_iconst (v := 0) G dX7_load_61 (by decide) ?_
          exact ret _ _ _ _ dX7_load_62 rfl (PM_no 4 (by simp [cfLoad, c5, c17, c31, c47]) (by decide) rfl)
      · refine j_iconst (v := 3) G dX7_load_34 (by decide) ?_
        refine j_goto (tgt := 55) G dX7_load_35 (by decide) ?_
        refine jV_i G 7 0 (cM_fails l D cA q un ui ul ua (cfTank (un 2) v) 3) gX7_71 hd_X7_fails ⟨Nat.le_of_ble_eq_true rfl, Nat.le_of_ble_eq_true rfl⟩ ⟨Nat.le_of_ble_eq_true rfl, Nat.le_of_ble_eq_true rfl⟩ rfl rfl (Nat.le_of_ble_eq_true rfl) rfl rfl dX7_load_55 (fun r w' hp => ?_)
        obtain ⟨rfl, rfl⟩ := hp
        refine j_rwi (show bI (¬ (3 : Int32) ≤ 0) = 1 from by decide) ?_
        refine j_if_eq (tgt := 63) G dX7_load_58 (by decide) (fun c58 => absurd c58 (by decide)) (fun _ => ?_)
        refine j_iconst (v := 0) G dX7_load_61 (by decide) ?_
        exact ret _ _ _ _ dX7_load_62 rfl (PM_no 3 (by simp [cfLoad, c5, c17, c31]) (by decide) rfl)
    · refine j_iconst (v := 2) G dX7_load_20 (by decide) ?_
      refine j_goto (tgt := 55) G dX7_load_21 (by decide) ?_
      refine jV_i G 7 0 (cM_fails l D cA q un ui ul ua (cfTank (un 2) v) 2) gX7_71 hd_X7_fails ⟨Nat.le_of_ble_eq_true rfl, Nat.le_of_ble_eq_true rfl⟩ ⟨Nat.le_of_ble_eq_true rfl, Nat.le_of_ble_eq_true rfl⟩ rfl rfl (Nat.le_of_ble_eq_true rfl) rfl rfl dX7_load_55 (fun r w' hp => ?_)
      obtain ⟨rfl, rfl⟩ := hp
      refine j_rwi (show bI (¬ (2 : Int32) ≤ 0) = 1 from by decide) ?_
      refine j_if_eq (tgt := 63) G dX7_load_58 (by decide) (fun c58 => absurd c58 (by decide)) (fun _ => ?_)
      refine j_iconst (v := 0) G dX7_load_61 (by decide) ?_
      exact ret _ _ _ _ dX7_load_62 rfl (PM_no 2 (by simp [cfLoad, c5, c17]) (by decide) rfl)
set_option maxHeartbeats 4000000 in
set_option maxRecDepth 100000 in
theorem cM_setFire (l : Launch) (D : va_G) (cA : Nat → ClassId) (q : Nat → Nat) (un : Nat → Nat) (ui : Nat → Int32) (ul : Nat → Int64) (ua : Nat → Nat → Int32) (co : Int32) (v : Int32) : Ki l yX7_setFire cX7_setFire 3 .int 1 22 0 0 D cA [.ref (q 0), .int v] (mW cA q un ui ul ua co) (fun r w' => PM (cfFire v) r (ui 3) w' (mW cA q un (up ui 3 v) ul ua 0) (fun co => mW cA q un ui ul ua co)) := by
  refine ent_i (own := RX7) (lv0 := [(0, .ref (q 0)), (1, .int v)]) (by decide) rfl (Nat.le_of_ble_eq_true rfl) rfl ?_
  intro p e s m args below meth c A Q G hinit ret
  refine j_aload_n G dX7_setFire_0 rfl 0 rfl ?_
  refine j_iload_n G dX7_setFire_1 rfl 1 rfl ?_
  refine j_iconst (v := 0) G dX7_setFire_2 (by decide) ?_
  refine j_bipush (v := 9) G dX7_setFire_3 (by decide) ?_
  refine jS_i G (cM_in l D cA (mW cA q un ui ul ua co) v 0 9) gX7_63 hd_X7_in.2 ⟨Nat.le_of_ble_eq_true rfl, Nat.le_of_ble_eq_true rfl⟩ ⟨Nat.le_of_ble_eq_true rfl, Nat.le_of_ble_eq_true rfl⟩ rfl rfl (Nat.le_of_ble_eq_true rfl) dX7_setFire_5 (fun r w' hp => ?_)
  obtain ⟨rfl, rfl⟩ := hp
  refine j_ifb_eq (tgt := 15) G dX7_setFire_8 (by decide) (fun c8 => ?_) (fun c8 => ?_)
  · refine j_iconst (v := 1) G dX7_setFire_15 (by decide) ?_
    refine jV_i G 7 0 (cM_fails l D cA q un ui ul ua co 1) gX7_71 hd_X7_fails ⟨Nat.le_of_ble_eq_true rfl, Nat.le_of_ble_eq_true rfl⟩ ⟨Nat.le_of_ble_eq_true rfl, Nat.le_of_ble_eq_true rfl⟩ rfl rfl (Nat.le_of_ble_eq_true rfl) rfl rfl dX7_setFire_16 (fun r w' hp => ?_)
    obtain ⟨rfl, rfl⟩ := hp
    refine j_rwi (show bI (¬ (1 : Int32) ≤ 0) = 1 from by decide) ?_
    refine j_if_eq (tgt := 24) G dX7_setFire_19 (by decide) (fun c19 => absurd c19 (by decide)) (fun _ => ?_)
    refine j_iconst (v := 0) G dX7_setFire_22 (by decide) ?_
    exact ret _ _ _ _ dX7_setFire_23 rfl (PM_no 1 (by simp [cfFire, c8]) (by decide) rfl)
  · refine j_iconst (v := 0) G dX7_setFire_11 (by decide) ?_
    refine j_goto (tgt := 16) G dX7_setFire_12 (by decide) ?_
    refine jV_i G 7 0 (cM_fails l D cA q un ui ul ua co 0) gX7_71 hd_X7_fails ⟨Nat.le_of_ble_eq_true rfl, Nat.le_of_ble_eq_true rfl⟩ ⟨Nat.le_of_ble_eq_true rfl, Nat.le_of_ble_eq_true rfl⟩ rfl rfl (Nat.le_of_ble_eq_true rfl) rfl rfl dX7_setFire_16 (fun r w' hp => ?_)
    obtain ⟨rfl, rfl⟩ := hp
    refine j_rwi (show bI (¬ (0 : Int32) ≤ 0) = 0 from by decide) ?_
    refine j_if_eq (tgt := 24) G dX7_setFire_19 (by decide) (fun _ => ?_) (fun c19 => absurd c19 (by decide))
    refine j_aload_n G dX7_setFire_24 rfl 0 rfl ?_
    refine gfX7_125 (v := .int (ui 3)) G 0 rfl rfl dX7_setFire_25 ?_
    refine j_istore_n (lv' := [(2, .int (ui 3)), (0, .ref (q 0)), (1, .int v)]) G dX7_setFire_28 rfl (by decide) rfl ?_
    refine j_aload_n G dX7_setFire_29 rfl 1 rfl ?_
    refine j_iload_n G dX7_setFire_30 rfl 2 rfl ?_
    refine pfX7_125 (w' := mW cA q un (up ui 3 v) ul ua 0) G 0 rfl rfl (Nat.le_of_ble_eq_true rfl) dX7_setFire_31 rfl rfl ?_
    refine j_iload_n G dX7_setFire_34 rfl 0 rfl ?_
    exact ret _ _ _ _ dX7_setFire_35 rfl (PM_ok (by simp [cfFire, c8]) rfl rfl)
set_option maxHeartbeats 4000000 in
set_option maxRecDepth 100000 in
theorem cM_panVolume (l : Launch) (D : va_G) (cA : Nat → ClassId) (q : Nat → Nat) (un : Nat → Nat) (ui : Nat → Int32) (ul : Nat → Int64) (ua : Nat → Nat → Int32) (co : Int32) : Ki l yX7_panVolume cX7_panVolume 1 .int 1 21 0 0 D cA [.ref (q 0)] (mW cA q un ui ul ua co) (fun r w' => r = ui 1 ∧ w' = mW cA q un ui ul ua 0) := by
  refine ent_i (own := RX7) (lv0 := [(0, .ref (q 0))]) (by decide) rfl (Nat.le_of_ble_eq_true rfl) rfl ?_
  intro p e s m args below meth c A Q G hinit ret
  refine j_aload_n G dX7_panVolume_0 rfl 0 rfl ?_
  refine j_aload_n G dX7_panVolume_1 rfl 0 rfl ?_
  refine gfX7_128 (v := .int (ui 1)) G 0 rfl rfl dX7_panVolume_2 ?_
  refine jV_i G 7 0 (cM_tells l D cA q un ui ul ua co (ui 1)) gX7_85 hd_X7_tells ⟨Nat.le_of_ble_eq_true rfl, Nat.le_of_ble_eq_true rfl⟩ ⟨Nat.le_of_ble_eq_true rfl, Nat.le_of_ble_eq_true rfl⟩ rfl rfl (Nat.le_of_ble_eq_true rfl) rfl rfl dX7_panVolume_5 (fun r w' hp => ?_)
  obtain ⟨rfl, rfl⟩ := hp
  exact ret _ _ _ _ dX7_panVolume_8 rfl ⟨rfl, rfl⟩
set_option maxHeartbeats 4000000 in
set_option maxRecDepth 100000 in
theorem cM_panSugar (l : Launch) (D : va_G) (cA : Nat → ClassId) (q : Nat → Nat) (un : Nat → Nat) (ui : Nat → Int32) (ul : Nat → Int64) (ua : Nat → Nat → Int32) (co : Int32) : Ki l yX7_panSugar cX7_panSugar 1 .int 1 21 0 0 D cA [.ref (q 0)] (mW cA q un ui ul ua co) (fun r w' => r = ui 2 ∧ w' = mW cA q un ui ul ua 0) := by
  refine ent_i (own := RX7) (lv0 := [(0, .ref (q 0))]) (by decide) rfl (Nat.le_of_ble_eq_true rfl) rfl ?_
  intro p e s m args below meth c A Q G hinit ret
  refine j_aload_n G dX7_panSugar_0 rfl 0 rfl ?_
  refine j_aload_n G dX7_panSugar_1 rfl 0 rfl ?_
  refine gfX7_131 (v := .int (ui 2)) G 0 rfl rfl dX7_panSugar_2 ?_
  refine jV_i G 7 0 (cM_tells l D cA q un ui ul ua co (ui 2)) gX7_85 hd_X7_tells ⟨Nat.le_of_ble_eq_true rfl, Nat.le_of_ble_eq_true rfl⟩ ⟨Nat.le_of_ble_eq_true rfl, Nat.le_of_ble_eq_true rfl⟩ rfl rfl (Nat.le_of_ble_eq_true rfl) rfl rfl dX7_panSugar_5 (fun r w' hp => ?_)
  obtain ⟨rfl, rfl⟩ := hp
  exact ret _ _ _ _ dX7_panSugar_8 rfl ⟨rfl, rfl⟩
set_option maxHeartbeats 4000000 in
set_option maxRecDepth 100000 in
theorem cM_isDone (l : Launch) (D : va_G) (cA : Nat → ClassId) (q : Nat → Nat) (un : Nat → Nat) (ui : Nat → Int32) (ul : Nat → Int64) (ua : Nat → Nat → Int32) (co : Int32) : Ki l yX7_isDone cX7_isDone 1 .boolean 1 20 0 0 D cA [.ref (q 0)] (mW cA q un ui ul ua co) (fun r w' => r = bI (dnP (ui 1) (ui 2)) ∧ w' = mW cA q un ui ul ua co) := by
  refine ent_i (own := RX7) (lv0 := [(0, .ref (q 0))]) (by decide) rfl (Nat.le_of_ble_eq_true rfl) rfl ?_
  intro p e s m args below meth c A Q G hinit ret
  refine j_aload_n G dX7_isDone_0 rfl 0 rfl ?_
  refine gfX7_128 (v := .int (ui 1)) G 0 rfl rfl dX7_isDone_1 ?_
  refine j_if_le (tgt := 25) G dX7_isDone_4 (by decide) (fun c4 => ?_) (fun c4 => ?_)
  · refine j_iconst (v := 0) G dX7_isDone_25 (by decide) ?_
    exact ret _ _ _ _ dX7_isDone_26 (by decide) ⟨(by simp [bI, c4]), rfl⟩
  · refine j_aload_n G dX7_isDone_7 rfl 0 rfl ?_
    refine gfX7_128 (v := .int (ui 1)) G 0 rfl rfl dX7_isDone_8 ?_
    refine j_aload_n G dX7_isDone_11 rfl 0 rfl ?_
    refine gfX7_131 (v := .int (ui 2)) G 0 rfl rfl dX7_isDone_12 ?_
    refine jS_i G (cM_least l D cA (mW cA q un ui ul ua co) (ui 2)) gX7_134 hd_X7_least.2 ⟨Nat.le_of_ble_eq_true rfl, Nat.le_of_ble_eq_true rfl⟩ ⟨Nat.le_of_ble_eq_true rfl, Nat.le_of_ble_eq_true rfl⟩ rfl rfl (Nat.le_of_ble_eq_true rfl) dX7_isDone_15 (fun r w' hp => ?_)
    obtain ⟨rfl, rfl⟩ := hp
    refine j_icmp_gt (tgt := 25) G dX7_isDone_18 (by decide) (fun c18 => ?_) (fun c18 => ?_)
    · refine j_iconst (v := 0) G dX7_isDone_25 (by decide) ?_
      exact ret _ _ _ _ dX7_isDone_26 (by decide) ⟨(by simp [bI, c4, c18]), rfl⟩
    · refine j_iconst (v := 1) G dX7_isDone_21 (by decide) ?_
      refine j_goto (tgt := 26) G dX7_isDone_22 (by decide) ?_
      exact ret _ _ _ _ dX7_isDone_26 (by decide) ⟨(by simp [bI, c4, c18]), rfl⟩
set_option maxHeartbeats 4000000 in
set_option maxRecDepth 100000 in
theorem cM_isReady (l : Launch) (D : va_G) (cA : Nat → ClassId) (q : Nat → Nat) (un : Nat → Nat) (ui : Nat → Int32) (ul : Nat → Int64) (ua : Nat → Nat → Int32) (co : Int32) : Ki l yX7_isReady cX7_isReady 1 .boolean 2 40 0 0 D cA [.ref (q 0)] (mW cA q un ui ul ua co) (fun r w' => r = bI (dnP (ui 1) (ui 2)) ∧ w' = mW cA q un ui ul ua 0) := by
  refine ent_i (own := RX7) (lv0 := [(0, .ref (q 0))]) (by decide) rfl (Nat.le_of_ble_eq_true rfl) rfl ?_
  intro p e s m args below meth c A Q G hinit ret
  refine j_aload_n G dX7_isReady_0 rfl 0 rfl ?_
  refine j_iconst (v := 0) G dX7_isReady_1 (by decide) ?_
  refine pfX7_60 (w' := mW cA q un ui ul ua 0) G 0 rfl rfl (Nat.le_of_ble_eq_true rfl) dX7_isReady_2 rfl rfl ?_
  refine j_aload_n G dX7_isReady_5 rfl 0 rfl ?_
  refine jV_i G 7 0 (cM_isDone l D cA q un ui ul ua 0 ) gX7_170 hd_X7_isDone ⟨Nat.le_of_ble_eq_true rfl, Nat.le_of_ble_eq_true rfl⟩ ⟨Nat.le_of_ble_eq_true rfl, Nat.le_of_ble_eq_true rfl⟩ rfl rfl (Nat.le_of_ble_eq_true rfl) rfl rfl dX7_isReady_6 (fun r w' hp => ?_)
  obtain ⟨rfl, rfl⟩ := hp
  exact ret _ _ _ _ dX7_isReady_9 bI_n ⟨rfl, rfl⟩
set_option maxHeartbeats 4000000 in
set_option maxRecDepth 100000 in
theorem cM_longs (l : Launch) (D : va_G) (cA : Nat → ClassId) (q : Nat → Nat) (un : Nat → Nat) (ui : Nat → Int32) (ul : Nat → Int64) (ua : Nat → Nat → Int32) (co : Int32) (hfi : RG 0 9 (ui 3)) : Ki l yX7_longs cX7_longs 1 .int 2 40 0 0 D cA [.ref (q 0)] (mW cA q un ui ul ua co) (fun r w' => PM (cfLong (ui 1) (ui 2) (ui 3)) r (longV (ui 1) (ui 2) (ui 3)) w' (mW cA q un ui ul ua 0) (fun co => mW cA q un ui ul ua co)) := by
  refine ent_i (own := RX7) (lv0 := [(0, .ref (q 0))]) (by decide) rfl (Nat.le_of_ble_eq_true rfl) rfl ?_
  intro p e s m args below meth c A Q G hinit ret
  refine j_aload_n G dX7_longs_0 rfl 0 rfl ?_
  refine j_aload_n G dX7_longs_1 rfl 0 rfl ?_
  refine gfX7_128 (v := .int (ui 1)) G 0 rfl rfl dX7_longs_2 ?_
  refine j_if_eq (tgt := 22) G dX7_longs_5 (by decide) (fun c5 => ?_) (fun c5 => ?_)
  · refine j_iconst (v := 1) G dX7_longs_22 (by decide) ?_
    refine j_goto (tgt := 27) G dX7_longs_23 (by decide) ?_
    refine jV_i G 7 0 (cM_fails l D cA q un ui ul ua co 1) gX7_71 hd_X7_fails ⟨Nat.le_of_ble_eq_true rfl, Nat.le_of_ble_eq_true rfl⟩ ⟨Nat.le_of_ble_eq_true rfl, Nat.le_of_ble_eq_true rfl⟩ rfl rfl (Nat.le_of_ble_eq_true rfl) rfl rfl dX7_longs_27 (fun r w' hp => ?_)
    obtain ⟨rfl, rfl⟩ := hp
    refine j_rwi (show bI (¬ (1 : Int32) ≤ 0) = 1 from by decide) ?_
    refine j_if_ne (tgt := 40) G dX7_longs_30 (by decide) (fun _ => ?_) (fun c30 => absurd c30 (by decide))
    refine j_iconst (v := 0) G dX7_longs_40 (by decide) ?_
    exact ret _ _ _ _ dX7_longs_41 rfl (PM_no 1 (by rw [cfLong, if_pos c5]) (by decide) rfl)
  · refine j_aload_n G dX7_longs_8 rfl 0 rfl ?_
    refine jV_i G 7 0 (cM_isDone l D cA q un ui ul ua co ) gX7_170 hd_X7_isDone ⟨Nat.le_of_ble_eq_true rfl, Nat.le_of_ble_eq_true rfl⟩ ⟨Nat.le_of_ble_eq_true rfl, Nat.le_of_ble_eq_true rfl⟩ rfl rfl (Nat.le_of_ble_eq_true rfl) rfl rfl dX7_longs_9 (fun r w' hp => ?_)
    obtain ⟨rfl, rfl⟩ := hp
    refine j_ifb_ne (tgt := 26) G dX7_longs_12 (by decide) (fun c12 => ?_) (fun c12 => ?_)
    · refine j_iconst (v := 0) G dX7_longs_26 (by decide) ?_
      refine jV_i G 7 0 (cM_fails l D cA q un ui ul ua co 0) gX7_71 hd_X7_fails ⟨Nat.le_of_ble_eq_true rfl, Nat.le_of_ble_eq_true rfl⟩ ⟨Nat.le_of_ble_eq_true rfl, Nat.le_of_ble_eq_true rfl⟩ rfl rfl (Nat.le_of_ble_eq_true rfl) rfl rfl dX7_longs_27 (fun r w' hp => ?_)
      obtain ⟨rfl, rfl⟩ := hp
      refine j_rwi (show bI (¬ (0 : Int32) ≤ 0) = 0 from by decide) ?_
      refine j_if_ne (tgt := 40) G dX7_longs_30 (by decide) (fun c30 => absurd c30 (by decide)) (fun _ => ?_)
      refine j_aload_n G dX7_longs_33 rfl 0 rfl ?_
      refine jV_i G 7 0 (cM_isDone l D cA q un ui ul ua 0 ) gX7_170 hd_X7_isDone ⟨Nat.le_of_ble_eq_true rfl, Nat.le_of_ble_eq_true rfl⟩ ⟨Nat.le_of_ble_eq_true rfl, Nat.le_of_ble_eq_true rfl⟩ rfl rfl (Nat.le_of_ble_eq_true rfl) rfl rfl dX7_longs_34 (fun r w' hp => ?_)
      obtain ⟨rfl, rfl⟩ := hp
      refine j_ifb_eq (tgt := 42) G dX7_longs_37 (by decide) (fun c37 => absurd c12 c37) (fun c37 => ?_)
      refine j_iconst (v := 0) G dX7_longs_40 (by decide) ?_
      exact ret _ _ _ _ dX7_longs_41 rfl (PM_ok (by rw [cfLong, if_neg c5, if_pos c12]) (by rw [longV, if_pos c12]) rfl)
    · refine j_aload_n G dX7_longs_15 rfl 0 rfl ?_
      refine gfX7_125 (v := .int (ui 3)) G 0 rfl rfl dX7_longs_16 ?_
      refine j_if_ne (tgt := 26) G dX7_longs_19 (by decide) (fun c19 => ?_) (fun c19 => ?_)
      · refine j_iconst (v := 0) G dX7_longs_26 (by decide) ?_
        refine jV_i G 7 0 (cM_fails l D cA q un ui ul ua co 0) gX7_71 hd_X7_fails ⟨Nat.le_of_ble_eq_true rfl, Nat.le_of_ble_eq_true rfl⟩ ⟨Nat.le_of_ble_eq_true rfl, Nat.le_of_ble_eq_true rfl⟩ rfl rfl (Nat.le_of_ble_eq_true rfl) rfl rfl dX7_longs_27 (fun r w' hp => ?_)
        obtain ⟨rfl, rfl⟩ := hp
        refine j_rwi (show bI (¬ (0 : Int32) ≤ 0) = 0 from by decide) ?_
        refine j_if_ne (tgt := 40) G dX7_longs_30 (by decide) (fun c30 => absurd c30 (by decide)) (fun _ => ?_)
        refine j_aload_n G dX7_longs_33 rfl 0 rfl ?_
        refine jV_i G 7 0 (cM_isDone l D cA q un ui ul ua 0 ) gX7_170 hd_X7_isDone ⟨Nat.le_of_ble_eq_true rfl, Nat.le_of_ble_eq_true rfl⟩ ⟨Nat.le_of_ble_eq_true rfl, Nat.le_of_ble_eq_true rfl⟩ rfl rfl (Nat.le_of_ble_eq_true rfl) rfl rfl dX7_longs_34 (fun r w' hp => ?_)
        obtain ⟨rfl, rfl⟩ := hp
        refine j_ifb_eq (tgt := 42) G dX7_longs_37 (by decide) (fun c37 => ?_) (fun c37 => absurd c37 c12)
        refine j_aload_n G dX7_longs_42 rfl 0 rfl ?_
        refine gfX7_128 (v := .int (ui 1)) G 0 rfl rfl dX7_longs_43 ?_
        refine j_aload_n G dX7_longs_46 rfl 0 rfl ?_
        refine gfX7_131 (v := .int (ui 2)) G 0 rfl rfl dX7_longs_47 ?_
        refine jS_i G (cM_least l D cA (mW cA q un ui ul ua 0) (ui 2)) gX7_134 hd_X7_least.2 ⟨Nat.le_of_ble_eq_true rfl, Nat.le_of_ble_eq_true rfl⟩ ⟨Nat.le_of_ble_eq_true rfl, Nat.le_of_ble_eq_true rfl⟩ rfl rfl (Nat.le_of_ble_eq_true rfl) dX7_longs_50 (fun r w' hp => ?_)
        obtain ⟨rfl, rfl⟩ := hp
        refine j_isub G dX7_longs_53 ?_
        refine j_iconst (v := 5) G dX7_longs_54 (by decide) ?_
        refine j_aload_n G dX7_longs_55 rfl 0 rfl ?_
        refine gfX7_125 (v := .int (ui 3)) G 0 rfl rfl dX7_longs_56 ?_
        refine j_imul G dX7_longs_59 ?_
        refine j_iadd G dX7_longs_60 ?_
        refine j_iconst (v := 1) G dX7_longs_61 (by decide) ?_
        refine j_isub G dX7_longs_62 ?_
        refine j_iconst (v := 5) G dX7_longs_63 (by decide) ?_
        refine j_aload_n G dX7_longs_64 rfl 0 rfl ?_
        refine gfX7_125 (v := .int (ui 3)) G 0 rfl rfl dX7_longs_65 ?_
        refine j_imul G dX7_longs_68 ?_
        refine j_idiv G dX7_longs_69 (ne5 hfi c19) ?_
        exact ret _ _ _ _ dX7_longs_70 rfl (PM_ok (by rw [cfLong, if_neg c5, if_neg c12, if_neg c19]) (by rw [longV, if_neg c12]) rfl)
      · refine j_iconst (v := 1) G dX7_longs_22 (by decide) ?_
        refine j_goto (tgt := 27) G dX7_longs_23 (by decide) ?_
        refine jV_i G 7 0 (cM_fails l D cA q un ui ul ua co 1) gX7_71 hd_X7_fails ⟨Nat.le_of_ble_eq_true rfl, Nat.le_of_ble_eq_true rfl⟩ ⟨Nat.le_of_ble_eq_true rfl, Nat.le_of_ble_eq_true rfl⟩ rfl rfl (Nat.le_of_ble_eq_true rfl) rfl rfl dX7_longs_27 (fun r w' hp => ?_)
        obtain ⟨rfl, rfl⟩ := hp
        refine j_rwi (show bI (¬ (1 : Int32) ≤ 0) = 1 from by decide) ?_
        refine j_if_ne (tgt := 40) G dX7_longs_30 (by decide) (fun _ => ?_) (fun c30 => absurd c30 (by decide))
        refine j_iconst (v := 0) G dX7_longs_40 (by decide) ?_
        exact ret _ _ _ _ dX7_longs_41 rfl (PM_no 1 (by rw [cfLong, if_neg c5, if_neg c12, if_pos c19]) (by decide) rfl)
set_option maxHeartbeats 4000000 in
set_option maxRecDepth 100000 in
theorem cM_hoursToReady (l : Launch) (D : va_G) (cA : Nat → ClassId) (q : Nat → Nat) (un : Nat → Nat) (ui : Nat → Int32) (ul : Nat → Int64) (ua : Nat → Nat → Int32) (co : Int32) (hfi : RG 0 9 (ui 3)) : Ki l yX7_hoursToReady cX7_hoursToReady 1 .int 3 60 0 0 D cA [.ref (q 0)] (mW cA q un ui ul ua co) (fun r w' => PM (cfLong (ui 1) (ui 2) (ui 3)) r (longV (ui 1) (ui 2) (ui 3)) w' (mW cA q un ui ul ua 0) (fun co => mW cA q un ui ul ua co)) := by
  refine ent_i (own := RX7) (lv0 := [(0, .ref (q 0))]) (by decide) rfl (Nat.le_of_ble_eq_true rfl) rfl ?_
  intro p e s m args below meth c A Q G hinit ret
  refine j_aload_n G dX7_hoursToReady_0 rfl 0 rfl ?_
  refine jV_i G 7 0 (cM_longs l D cA q un ui ul ua co  hfi) gX7_174 hd_X7_longs ⟨Nat.le_of_ble_eq_true rfl, Nat.le_of_ble_eq_true rfl⟩ ⟨Nat.le_of_ble_eq_true rfl, Nat.le_of_ble_eq_true rfl⟩ rfl rfl (Nat.le_of_ble_eq_true rfl) rfl rfl dX7_hoursToReady_1 (fun r w' hp => ?_)
  exact ret _ _ _ _ dX7_hoursToReady_4 rfl hp
set_option maxHeartbeats 4000000 in
set_option maxRecDepth 100000 in
theorem cM_hoursByBoiling (l : Launch) (D : va_G) (cA : Nat → ClassId) (q : Nat → Nat) (un : Nat → Nat) (ui : Nat → Int32) (ul : Nat → Int64) (ua : Nat → Nat → Int32) (co : Int32) (hfi : RG 0 9 (ui 3)) : Ki l yX7_hoursByBoiling cX7_hoursByBoiling 1 .int 3 60 0 0 D cA [.ref (q 0)] (mW cA q un ui ul ua co) (fun r w' => PM (cfLong (ui 1) (ui 2) (ui 3)) r (longV (ui 1) (ui 2) (ui 3)) w' (mW cA q un ui ul ua 0) (fun co => mW cA q un ui ul ua co)) := by
  refine ent_i (own := RX7) (lv0 := [(0, .ref (q 0))]) (by decide) rfl (Nat.le_of_ble_eq_true rfl) rfl ?_
  intro p e s m args below meth c A Q G hinit ret
  refine j_aload_n G dX7_hoursByBoiling_0 rfl 0 rfl ?_
  refine jV_i G 7 0 (cM_longs l D cA q un ui ul ua co  hfi) gX7_174 hd_X7_longs ⟨Nat.le_of_ble_eq_true rfl, Nat.le_of_ble_eq_true rfl⟩ ⟨Nat.le_of_ble_eq_true rfl, Nat.le_of_ble_eq_true rfl⟩ rfl rfl (Nat.le_of_ble_eq_true rfl) rfl rfl dX7_hoursByBoiling_1 (fun r w' hp => ?_)
  exact ret _ _ _ _ dX7_hoursByBoiling_4 rfl hp
set_option maxHeartbeats 4000000 in
set_option maxRecDepth 100000 in
theorem cM_empties (l : Launch) (D : va_G) (cA : Nat → ClassId) (q : Nat → Nat) (un : Nat → Nat) (ui : Nat → Int32) (ul : Nat → Int64) (ua : Nat → Nat → Int32) (co : Int32) : Kv l yX7_empties cX7_empties 1 0 0 0 0 D cA [.ref (q 0)] (mW cA q un ui ul ua co) (fun w' => w' = mW cA q un (up (up (up ui 1 0) 2 0) 4 0) ul ua co) := by
  refine ent_v (own := RX7) (lv0 := [(0, .ref (q 0))]) (by decide) rfl (Nat.le_of_ble_eq_true rfl) rfl ?_
  intro p e s m args below meth c A Q G hinit ret
  refine j_aload_n G dX7_empties_0 rfl 0 rfl ?_
  refine j_iconst (v := 0) G dX7_empties_1 (by decide) ?_
  refine pfX7_128 (w' := mW cA q un (up ui 1 0) ul ua co) G 0 rfl rfl (Nat.le_of_ble_eq_true rfl) dX7_empties_2 rfl rfl ?_
  refine j_aload_n G dX7_empties_5 rfl 0 rfl ?_
  refine j_iconst (v := 0) G dX7_empties_6 (by decide) ?_
  refine pfX7_131 (w' := mW cA q un (up (up ui 1 0) 2 0) ul ua co) G 0 rfl rfl (Nat.le_of_ble_eq_true rfl) dX7_empties_7 rfl rfl ?_
  refine j_aload_n G dX7_empties_10 rfl 0 rfl ?_
  refine j_iconst (v := 0) G dX7_empties_11 (by decide) ?_
  refine pfX7_140 (w' := mW cA q un (up (up (up ui 1 0) 2 0) 4 0) ul ua co) G 0 rfl rfl (Nat.le_of_ble_eq_true rfl) dX7_empties_12 rfl rfl ?_
  exact ret _ _ _ dX7_empties_15 rfl
set_option maxHeartbeats 4000000 in
set_option maxRecDepth 100000 in
theorem cM_draw (l : Launch) (D : va_G) (cA : Nat → ClassId) (q : Nat → Nat) (un : Nat → Nat) (ui : Nat → Int32) (ul : Nat → Int64) (ua : Nat → Nat → Int32) (co : Int32) (hb30 : un 3 ≤ 30) : Ki l yX7_draw cX7_draw 1 .int 2 40 0 0 D cA [.ref (q 0)] (mW cA q un ui ul ua co) (fun r w' => PM (cfDraw (ui 1) (ui 2) (un 3)) r (nI (un 3)) w' (mW cA q (up un 3 (un 3 + 1)) (up (up (up ui 1 0) 2 0) 4 0) ul (up (up (up ua 12 (upd (ua 12) (un 3) (ui 1))) 13 (upd (ua 13) (un 3) (ui 2))) 14 (upd (ua 14) (un 3) (gradeV (ui 4)))) 0) (fun co => mW cA q un ui ul ua co)) := by
  refine ent_i (own := RX7) (lv0 := [(0, .ref (q 0))]) (by decide) rfl (Nat.le_of_ble_eq_true rfl) rfl ?_
  intro p e s m args below meth c A Q G hinit ret
  refine j_aload_n G dX7_draw_0 rfl 0 rfl ?_
  refine j_aload_n G dX7_draw_1 rfl 0 rfl ?_
  refine jV_i G 7 0 (cM_isDone l D cA q un ui ul ua co ) gX7_170 hd_X7_isDone ⟨Nat.le_of_ble_eq_true rfl, Nat.le_of_ble_eq_true rfl⟩ ⟨Nat.le_of_ble_eq_true rfl, Nat.le_of_ble_eq_true rfl⟩ rfl rfl (Nat.le_of_ble_eq_true rfl) rfl rfl dX7_draw_2 (fun r w' hp => ?_)
  obtain ⟨rfl, rfl⟩ := hp
  refine j_ifb_ne (tgt := 12) G dX7_draw_5 (by decide) (fun c5 => ?_) (fun c5 => ?_)
  · refine j_aload_n G dX7_draw_12 rfl 0 rfl ?_
    refine gfX7_178 (v := .int (nI (un 3))) G 0 rfl rfl dX7_draw_13 ?_
    refine j_bipush (v := 30) G dX7_draw_16 (by decide) ?_
    refine j_icmp_ne (tgt := 25) G dX7_draw_18 (by decide) (fun c18 => ?_) (fun c18 => ?_)
    · refine j_iconst (v := 0) G dX7_draw_25 (by decide) ?_
      refine jV_i G 7 0 (cM_fails l D cA q un ui ul ua co 0) gX7_71 hd_X7_fails ⟨Nat.le_of_ble_eq_true rfl, Nat.le_of_ble_eq_true rfl⟩ ⟨Nat.le_of_ble_eq_true rfl, Nat.le_of_ble_eq_true rfl⟩ rfl rfl (Nat.le_of_ble_eq_true rfl) rfl rfl dX7_draw_26 (fun r w' hp => ?_)
      obtain ⟨rfl, rfl⟩ := hp
      refine j_rwi (show bI (¬ (0 : Int32) ≤ 0) = 0 from by decide) ?_
      refine j_if_eq (tgt := 34) G dX7_draw_29 (by decide) (fun _ => ?_) (fun c29 => absurd c29 (by decide))
      have g18 : un 3 < 30 := (Nat.lt_or_ge (un 3) 30).resolve_right (fun h => absurd (show nI (un 3) = 30 from by rw [show un 3 = 30 by omega]; rfl) c18)
      refine j_aload_n G dX7_draw_34 rfl 0 rfl ?_
      refine gfX7_50 (v := .ref (q 13)) G 0 rfl rfl dX7_draw_35 ?_
      refine j_aload_n G dX7_draw_38 rfl 0 rfl ?_
      refine gfX7_178 (v := .int (nI (un 3))) G 0 rfl rfl dX7_draw_39 ?_
      refine j_aload_n G dX7_draw_42 rfl 0 rfl ?_
      refine gfX7_128 (v := .int (ui 1)) G 0 rfl rfl dX7_draw_43 ?_
      refine j_iast (j := (un 3)) (w' := mW cA q un ui ul (up ua 12 (upd (ua 12) (un 3) (ui 1))) 0) G 13 rfl rfl (by omega) (Nat.le_of_ble_eq_true rfl) dX7_draw_46 rfl ?_
      refine j_aload_n G dX7_draw_47 rfl 0 rfl ?_
      refine gfX7_53 (v := .ref (q 14)) G 0 rfl rfl dX7_draw_48 ?_
      refine j_aload_n G dX7_draw_51 rfl 0 rfl ?_
      refine gfX7_178 (v := .int (nI (un 3))) G 0 rfl rfl dX7_draw_52 ?_
      refine j_aload_n G dX7_draw_55 rfl 0 rfl ?_
      refine gfX7_131 (v := .int (ui 2)) G 0 rfl rfl dX7_draw_56 ?_
      refine j_iast (j := (un 3)) (w' := mW cA q un ui ul (up (up ua 12 (upd (ua 12) (un 3) (ui 1))) 13 (upd (ua 13) (un 3) (ui 2))) 0) G 14 rfl rfl (by omega) (Nat.le_of_ble_eq_true rfl) dX7_draw_59 rfl ?_
      refine j_aload_n G dX7_draw_60 rfl 0 rfl ?_
      refine gfX7_56 (v := .ref (q 15)) G 0 rfl rfl dX7_draw_61 ?_
      refine j_aload_n G dX7_draw_64 rfl 0 rfl ?_
      refine gfX7_178 (v := .int (nI (un 3))) G 0 rfl rfl dX7_draw_65 ?_
      refine j_aload_n G dX7_draw_68 rfl 0 rfl ?_
      refine gfX7_140 (v := .int (ui 4)) G 0 rfl rfl dX7_draw_69 ?_
      refine j_iconst (v := 3) G dX7_draw_72 (by decide) ?_
      refine j_icmp_gt (tgt := 81) G dX7_draw_73 (by decide) (fun c73 => ?_) (fun c73 => ?_)
      · refine j_aload_n G dX7_draw_81 rfl 0 rfl ?_
        refine gfX7_140 (v := .int (ui 4)) G 0 rfl rfl dX7_draw_82 ?_
        refine j_bipush (v := 8) G dX7_draw_85 (by decide) ?_
        refine j_icmp_gt (tgt := 95) G dX7_draw_87 (by decide) (fun c87 => ?_) (fun c87 => ?_)
        · refine j_bipush (v := 100) G dX7_draw_95 (by decide) ?_
          refine j_rwi (show (100 : Int32) = gradeV (ui 4) from by rw [gradeV, if_neg (Int32.not_le.mpr c73), if_neg (Int32.not_le.mpr c87)]) ?_
          refine j_cast (j := (un 3)) (w' := mW cA q un ui ul (up (up (up ua 12 (upd (ua 12) (un 3) (ui 1))) 13 (upd (ua 13) (un 3) (ui 2))) 14 (upd (ua 14) (un 3) (gradeV (ui 4)))) 0) G 15 rfl rfl (by omega) (Nat.le_of_ble_eq_true rfl) (gradeV_c _) dX7_draw_97 rfl ?_
          refine j_aload_n G dX7_draw_98 rfl 0 rfl ?_
          refine j_dup G dX7_draw_99 rfl ?_
          refine gfX7_178 (v := .int (nI (un 3))) G 0 rfl rfl dX7_draw_100 ?_
          refine j_iconst (v := 1) G dX7_draw_103 (by decide) ?_
          refine j_iadd G dX7_draw_104 ?_
          refine j_rwi (nI_add (un 3) 1) ?_
          refine pfX7_178 (w' := mW cA q (up un 3 (un 3 + 1)) ui ul (up (up (up ua 12 (upd (ua 12) (un 3) (ui 1))) 13 (upd (ua 13) (un 3) (ui 2))) 14 (upd (ua 14) (un 3) (gradeV (ui 4)))) 0) G 0 rfl rfl (Nat.le_of_ble_eq_true rfl) dX7_draw_105 rfl rfl ?_
          refine j_aload_n G dX7_draw_108 rfl 0 rfl ?_
          refine jV_v G 7 0 (cM_empties l D cA q (up un 3 (un 3 + 1)) ui ul (up (up (up ua 12 (upd (ua 12) (un 3) (ui 1))) 13 (upd (ua 13) (un 3) (ui 2))) 14 (upd (ua 14) (un 3) (gradeV (ui 4)))) 0 ) gX7_181 hd_X7_empties ⟨Nat.le_of_ble_eq_true rfl, Nat.le_of_ble_eq_true rfl⟩ ⟨Nat.le_of_ble_eq_true rfl, Nat.le_of_ble_eq_true rfl⟩ rfl rfl (Nat.le_of_ble_eq_true rfl) rfl rfl dX7_draw_109 (fun w' hp => ?_)
          subst hp
          refine j_w (w' := mW cA q (up un 3 (un 3 + 1)) (up (up (up ui 1 0) 2 0) 4 0) ul (up (up (up ua 12 (upd (ua 12) (un 3) (ui 1))) 13 (upd (ua 13) (un 3) (ui 2))) 14 (upd (ua 14) (un 3) (gradeV (ui 4)))) 0) rfl ?_
          refine j_aload_n G dX7_draw_112 rfl 0 rfl ?_
          refine gfX7_178 (v := .int (nI (un 3 + 1))) G 0 rfl rfl dX7_draw_113 ?_
          refine j_iconst (v := 1) G dX7_draw_116 (by decide) ?_
          refine j_isub G dX7_draw_117 ?_
          refine j_rwi (nI_pred (un 3)) ?_
          exact ret _ _ _ _ dX7_draw_118 rfl (PM_ok (by simp [cfDraw, c5, c18, c73, c87]) rfl rfl)
        · refine j_bipush (v := 97) G dX7_draw_90 (by decide) ?_
          refine j_goto (tgt := 97) G dX7_draw_92 (by decide) ?_
          refine j_rwi (show (97 : Int32) = gradeV (ui 4) from by rw [gradeV, if_neg (Int32.not_le.mpr c73), if_pos (Int32.not_lt.mp c87)]) ?_
          refine j_cast (j := (un 3)) (w' := mW cA q un ui ul (up (up (up ua 12 (upd (ua 12) (un 3) (ui 1))) 13 (upd (ua 13) (un 3) (ui 2))) 14 (upd (ua 14) (un 3) (gradeV (ui 4)))) 0) G 15 rfl rfl (by omega) (Nat.le_of_ble_eq_true rfl) (gradeV_c _) dX7_draw_97 rfl ?_
          refine j_aload_n G dX7_draw_98 rfl 0 rfl ?_
          refine j_dup G dX7_draw_99 rfl ?_
          refine gfX7_178 (v := .int (nI (un 3))) G 0 rfl rfl dX7_draw_100 ?_
          refine j_iconst (v := 1) G dX7_draw_103 (by decide) ?_
          refine j_iadd G dX7_draw_104 ?_
          refine j_rwi (nI_add (un 3) 1) ?_
          refine pfX7_178 (w' := mW cA q (up un 3 (un 3 + 1)) ui ul (up (up (up ua 12 (upd (ua 12) (un 3) (ui 1))) 13 (upd (ua 13) (un 3) (ui 2))) 14 (upd (ua 14) (un 3) (gradeV (ui 4)))) 0) G 0 rfl rfl (Nat.le_of_ble_eq_true rfl) dX7_draw_105 rfl rfl ?_
          refine j_aload_n G dX7_draw_108 rfl 0 rfl ?_
          refine jV_v G 7 0 (cM_empties l D cA q (up un 3 (un 3 + 1)) ui ul (up (up (up ua 12 (upd (ua 12) (un 3) (ui 1))) 13 (upd (ua 13) (un 3) (ui 2))) 14 (upd (ua 14) (un 3) (gradeV (ui 4)))) 0 ) gX7_181 hd_X7_empties ⟨Nat.le_of_ble_eq_true rfl, Nat.le_of_ble_eq_true rfl⟩ ⟨Nat.le_of_ble_eq_true rfl, Nat.le_of_ble_eq_true rfl⟩ rfl rfl (Nat.le_of_ble_eq_true rfl) rfl rfl dX7_draw_109 (fun w' hp => ?_)
          subst hp
          refine j_w (w' := mW cA q (up un 3 (un 3 + 1)) (up (up (up ui 1 0) 2 0) 4 0) ul (up (up (up ua 12 (upd (ua 12) (un 3) (ui 1))) 13 (upd (ua 13) (un 3) (ui 2))) 14 (upd (ua 14) (un 3) (gradeV (ui 4)))) 0) rfl ?_
          refine j_aload_n G dX7_draw_112 rfl 0 rfl ?_
          refine gfX7_178 (v := .int (nI (un 3 + 1))) G 0 rfl rfl dX7_draw_113 ?_
          refine j_iconst (v := 1) G dX7_draw_116 (by decide) ?_
          refine j_isub G dX7_draw_117 ?_
          refine j_rwi (nI_pred (un 3)) ?_
          exact ret _ _ _ _ dX7_draw_118 rfl (PM_ok (by simp [cfDraw, c5, c18, c73, c87]) rfl rfl)
      · refine j_bipush (v := 103) G dX7_draw_76 (by decide) ?_
        refine j_goto (tgt := 97) G dX7_draw_78 (by decide) ?_
        refine j_rwi (show (103 : Int32) = gradeV (ui 4) from by rw [gradeV, if_pos (Int32.not_lt.mp c73)]) ?_
        refine j_cast (j := (un 3)) (w' := mW cA q un ui ul (up (up (up ua 12 (upd (ua 12) (un 3) (ui 1))) 13 (upd (ua 13) (un 3) (ui 2))) 14 (upd (ua 14) (un 3) (gradeV (ui 4)))) 0) G 15 rfl rfl (by omega) (Nat.le_of_ble_eq_true rfl) (gradeV_c _) dX7_draw_97 rfl ?_
        refine j_aload_n G dX7_draw_98 rfl 0 rfl ?_
        refine j_dup G dX7_draw_99 rfl ?_
        refine gfX7_178 (v := .int (nI (un 3))) G 0 rfl rfl dX7_draw_100 ?_
        refine j_iconst (v := 1) G dX7_draw_103 (by decide) ?_
        refine j_iadd G dX7_draw_104 ?_
        refine j_rwi (nI_add (un 3) 1) ?_
        refine pfX7_178 (w' := mW cA q (up un 3 (un 3 + 1)) ui ul (up (up (up ua 12 (upd (ua 12) (un 3) (ui 1))) 13 (upd (ua 13) (un 3) (ui 2))) 14 (upd (ua 14) (un 3) (gradeV (ui 4)))) 0) G 0 rfl rfl (Nat.le_of_ble_eq_true rfl) dX7_draw_105 rfl rfl ?_
        refine j_aload_n G dX7_draw_108 rfl 0 rfl ?_
        refine jV_v G 7 0 (cM_empties l D cA q (up un 3 (un 3 + 1)) ui ul (up (up (up ua 12 (upd (ua 12) (un 3) (ui 1))) 13 (upd (ua 13) (un 3) (ui 2))) 14 (upd (ua 14) (un 3) (gradeV (ui 4)))) 0 ) gX7_181 hd_X7_empties ⟨Nat.le_of_ble_eq_true rfl, Nat.le_of_ble_eq_true rfl⟩ ⟨Nat.le_of_ble_eq_true rfl, Nat.le_of_ble_eq_true rfl⟩ rfl rfl (Nat.le_of_ble_eq_true rfl) rfl rfl dX7_draw_109 (fun w' hp => ?_)
        subst hp
        refine j_w (w' := mW cA q (up un 3 (un 3 + 1)) (up (up (up ui 1 0) 2 0) 4 0) ul (up (up (up ua 12 (upd (ua 12) (un 3) (ui 1))) 13 (upd (ua 13) (un 3) (ui 2))) 14 (upd (ua 14) (un 3) (gradeV (ui 4)))) 0) rfl ?_
        refine j_aload_n G dX7_draw_112 rfl 0 rfl ?_
        refine gfX7_178 (v := .int (nI (un 3 + 1))) G 0 rfl rfl dX7_draw_113 ?_
        refine j_iconst (v := 1) G dX7_draw_116 (by decide) ?_
        refine j_isub G dX7_draw_117 ?_
        refine j_rwi (nI_pred (un 3)) ?_
        exact ret _ _ _ _ dX7_draw_118 rfl (PM_ok (by simp [cfDraw, c5, c18, c73]) rfl rfl)
    · refine j_iconst (v := 2) G dX7_draw_21 (by decide) ?_
      refine j_goto (tgt := 26) G dX7_draw_22 (by decide) ?_
      refine jV_i G 7 0 (cM_fails l D cA q un ui ul ua co 2) gX7_71 hd_X7_fails ⟨Nat.le_of_ble_eq_true rfl, Nat.le_of_ble_eq_true rfl⟩ ⟨Nat.le_of_ble_eq_true rfl, Nat.le_of_ble_eq_true rfl⟩ rfl rfl (Nat.le_of_ble_eq_true rfl) rfl rfl dX7_draw_26 (fun r w' hp => ?_)
      obtain ⟨rfl, rfl⟩ := hp
      refine j_rwi (show bI (¬ (2 : Int32) ≤ 0) = 1 from by decide) ?_
      refine j_if_eq (tgt := 34) G dX7_draw_29 (by decide) (fun c29 => absurd c29 (by decide)) (fun _ => ?_)
      refine j_iconst (v := 0) G dX7_draw_32 (by decide) ?_
      exact ret _ _ _ _ dX7_draw_33 rfl (PM_no 2 (by simp [cfDraw, c5, c18]) (by decide) rfl)
  · refine j_iconst (v := 1) G dX7_draw_8 (by decide) ?_
    refine j_goto (tgt := 26) G dX7_draw_9 (by decide) ?_
    refine jV_i G 7 0 (cM_fails l D cA q un ui ul ua co 1) gX7_71 hd_X7_fails ⟨Nat.le_of_ble_eq_true rfl, Nat.le_of_ble_eq_true rfl⟩ ⟨Nat.le_of_ble_eq_true rfl, Nat.le_of_ble_eq_true rfl⟩ rfl rfl (Nat.le_of_ble_eq_true rfl) rfl rfl dX7_draw_26 (fun r w' hp => ?_)
    obtain ⟨rfl, rfl⟩ := hp
    refine j_rwi (show bI (¬ (1 : Int32) ≤ 0) = 1 from by decide) ?_
    refine j_if_eq (tgt := 34) G dX7_draw_29 (by decide) (fun c29 => absurd c29 (by decide)) (fun _ => ?_)
    refine j_iconst (v := 0) G dX7_draw_32 (by decide) ?_
    exact ret _ _ _ _ dX7_draw_33 rfl (PM_no 1 (by simp [cfDraw, c5]) (by decide) rfl)
set_option maxHeartbeats 4000000 in
set_option maxRecDepth 100000 in
theorem cM_dump (l : Launch) (D : va_G) (cA : Nat → ClassId) (q : Nat → Nat) (un : Nat → Nat) (ui : Nat → Int32) (ul : Nat → Int64) (ua : Nat → Nat → Int32) (co : Int32) : Ki l yX7_dump cX7_dump 2 .int 1 22 0 0 D cA [.ref (q 0)] (mW cA q un ui ul ua co) (fun r w' => r = ui 1 ∧ w' = mW cA q un (up (up (up ui 1 0) 2 0) 4 0) (up (up ul 3 (ul 3 + (ui 1).toInt64)) 4 (ul 4 + (ui 2).toInt64)) ua 0) := by
  refine ent_i (own := RX7) (lv0 := [(0, .ref (q 0))]) (by decide) rfl (Nat.le_of_ble_eq_true rfl) rfl ?_
  intro p e s m args below meth c A Q G hinit ret
  refine j_aload_n G dX7_dump_0 rfl 0 rfl ?_
  refine j_aload_n G dX7_dump_1 rfl 0 rfl ?_
  refine gfX7_128 (v := .int (ui 1)) G 0 rfl rfl dX7_dump_2 ?_
  refine jV_i G 7 0 (cM_tells l D cA q un ui ul ua co (ui 1)) gX7_85 hd_X7_tells ⟨Nat.le_of_ble_eq_true rfl, Nat.le_of_ble_eq_true rfl⟩ ⟨Nat.le_of_ble_eq_true rfl, Nat.le_of_ble_eq_true rfl⟩ rfl rfl (Nat.le_of_ble_eq_true rfl) rfl rfl dX7_dump_5 (fun r w' hp => ?_)
  obtain ⟨rfl, rfl⟩ := hp
  refine j_istore_n (lv' := [(1, .int (ui 1)), (0, .ref (q 0))]) G dX7_dump_8 rfl (by decide) rfl ?_
  refine j_aload_n G dX7_dump_9 rfl 1 rfl ?_
  refine j_aload_n G dX7_dump_10 rfl 1 rfl ?_
  refine gfX7_128 (v := .int (ui 1)) G 0 rfl rfl dX7_dump_11 ?_
  refine j_aload_n G dX7_dump_14 rfl 1 rfl ?_
  refine gfX7_131 (v := .int (ui 2)) G 0 rfl rfl dX7_dump_15 ?_
  refine jV_v G 7 0 (cM_wastes l D cA q un ui ul ua 0 (ui 1) (ui 2)) gX7_114 hd_X7_wastes ⟨Nat.le_of_ble_eq_true rfl, Nat.le_of_ble_eq_true rfl⟩ ⟨Nat.le_of_ble_eq_true rfl, Nat.le_of_ble_eq_true rfl⟩ rfl rfl (Nat.le_of_ble_eq_true rfl) rfl rfl dX7_dump_18 (fun w' hp => ?_)
  subst hp
  refine j_w (w' := mW cA q un ui (up (up ul 3 (ul 3 + (ui 1).toInt64)) 4 (ul 4 + (ui 2).toInt64)) ua 0) rfl ?_
  refine j_aload_n G dX7_dump_21 rfl 1 rfl ?_
  refine jV_v G 7 0 (cM_empties l D cA q un ui (up (up ul 3 (ul 3 + (ui 1).toInt64)) 4 (ul 4 + (ui 2).toInt64)) ua 0 ) gX7_181 hd_X7_empties ⟨Nat.le_of_ble_eq_true rfl, Nat.le_of_ble_eq_true rfl⟩ ⟨Nat.le_of_ble_eq_true rfl, Nat.le_of_ble_eq_true rfl⟩ rfl rfl (Nat.le_of_ble_eq_true rfl) rfl rfl dX7_dump_22 (fun w' hp => ?_)
  subst hp
  refine j_w (w' := mW cA q un (up (up (up ui 1 0) 2 0) 4 0) (up (up ul 3 (ul 3 + (ui 1).toInt64)) 4 (ul 4 + (ui 2).toInt64)) ua 0) rfl ?_
  refine j_iload_n G dX7_dump_25 rfl 0 rfl ?_
  exact ret _ _ _ _ dX7_dump_26 rfl ⟨rfl, rfl⟩
set_option maxHeartbeats 4000000 in
set_option maxRecDepth 100000 in
theorem cM_batches (l : Launch) (D : va_G) (cA : Nat → ClassId) (q : Nat → Nat) (un : Nat → Nat) (ui : Nat → Int32) (ul : Nat → Int64) (ua : Nat → Nat → Int32) (co : Int32) : Ki l yX7_batches cX7_batches 1 .int 1 21 0 0 D cA [.ref (q 0)] (mW cA q un ui ul ua co) (fun r w' => r = nI (un 3) ∧ w' = mW cA q un ui ul ua 0) := by
  refine ent_i (own := RX7) (lv0 := [(0, .ref (q 0))]) (by decide) rfl (Nat.le_of_ble_eq_true rfl) rfl ?_
  intro p e s m args below meth c A Q G hinit ret
  refine j_aload_n G dX7_batches_0 rfl 0 rfl ?_
  refine j_aload_n G dX7_batches_1 rfl 0 rfl ?_
  refine gfX7_178 (v := .int (nI (un 3))) G 0 rfl rfl dX7_batches_2 ?_
  refine jV_i G 7 0 (cM_tells l D cA q un ui ul ua co (nI (un 3))) gX7_85 hd_X7_tells ⟨Nat.le_of_ble_eq_true rfl, Nat.le_of_ble_eq_true rfl⟩ ⟨Nat.le_of_ble_eq_true rfl, Nat.le_of_ble_eq_true rfl⟩ rfl rfl (Nat.le_of_ble_eq_true rfl) rfl rfl dX7_batches_5 (fun r w' hp => ?_)
  obtain ⟨rfl, rfl⟩ := hp
  exact ret _ _ _ _ dX7_batches_8 rfl ⟨rfl, rfl⟩
set_option maxHeartbeats 4000000 in
set_option maxRecDepth 100000 in
theorem cM_isNoBatch (l : Launch) (D : va_G) (cA : Nat → ClassId) (q : Nat → Nat) (un : Nat → Nat) (ui : Nat → Int32) (ul : Nat → Int64) (ua : Nat → Nat → Int32) (co : Int32) (v : Int32) (hb30 : un 3 ≤ 30) : Ki l yX7_isNoBatch cX7_isNoBatch 2 .boolean 1 22 0 0 D cA [.ref (q 0), .int v] (mW cA q un ui ul ua co) (fun r w' => r = bI (¬ VN (un 3) v) ∧ w' = mW cA q un ui ul ua (cfTank (un 3) v)) := by
  refine ent_i (own := RX7) (lv0 := [(0, .ref (q 0)), (1, .int v)]) (by decide) rfl (Nat.le_of_ble_eq_true rfl) rfl ?_
  intro p e s m args below meth c A Q G hinit ret
  refine j_aload_n G dX7_isNoBatch_0 rfl 0 rfl ?_
  refine j_iload_n G dX7_isNoBatch_1 rfl 1 rfl ?_
  refine j_iconst (v := 0) G dX7_isNoBatch_2 (by decide) ?_
  refine j_aload_n G dX7_isNoBatch_3 rfl 0 rfl ?_
  refine gfX7_178 (v := .int (nI (un 3))) G 0 rfl rfl dX7_isNoBatch_4 ?_
  refine j_iconst (v := 1) G dX7_isNoBatch_7 (by decide) ?_
  refine j_isub G dX7_isNoBatch_8 ?_
  refine jS_i G (cM_in l D cA (mW cA q un ui ul ua co) v 0 ((nI (un 3)) - 1)) gX7_63 hd_X7_in.2 ⟨Nat.le_of_ble_eq_true rfl, Nat.le_of_ble_eq_true rfl⟩ ⟨Nat.le_of_ble_eq_true rfl, Nat.le_of_ble_eq_true rfl⟩ rfl rfl (Nat.le_of_ble_eq_true rfl) dX7_isNoBatch_9 (fun r w' hp => ?_)
  obtain ⟨rfl, rfl⟩ := hp
  refine j_ifb_eq (tgt := 19) G dX7_isNoBatch_12 (by decide) (fun c12 => ?_) (fun c12 => ?_)
  · refine j_iconst (v := 1) G dX7_isNoBatch_19 (by decide) ?_
    refine jV_i G 7 0 (cM_fails l D cA q un ui ul ua co 1) gX7_71 hd_X7_fails ⟨Nat.le_of_ble_eq_true rfl, Nat.le_of_ble_eq_true rfl⟩ ⟨Nat.le_of_ble_eq_true rfl, Nat.le_of_ble_eq_true rfl⟩ rfl rfl (Nat.le_of_ble_eq_true rfl) rfl rfl dX7_isNoBatch_20 (fun r w' hp => ?_)
    obtain ⟨rfl, rfl⟩ := hp
    refine j_rwi (show bI (¬ (1 : Int32) ≤ 0) = 1 from by decide) ?_
    exact ret _ _ _ _ dX7_isNoBatch_23 (by decide) ⟨(by have e9 := VN_pred (n := un 3) (by omega) v; simp only [bI, ← e9]; simp [c12]), (by have e9 := VN_pred (n := un 3) (by omega) v; rw [show cfTank (un 3) v = 1 from by simp only [cfTank, ← e9]; simp [c12]])⟩
  · refine j_iconst (v := 0) G dX7_isNoBatch_15 (by decide) ?_
    refine j_goto (tgt := 20) G dX7_isNoBatch_16 (by decide) ?_
    refine jV_i G 7 0 (cM_fails l D cA q un ui ul ua co 0) gX7_71 hd_X7_fails ⟨Nat.le_of_ble_eq_true rfl, Nat.le_of_ble_eq_true rfl⟩ ⟨Nat.le_of_ble_eq_true rfl, Nat.le_of_ble_eq_true rfl⟩ rfl rfl (Nat.le_of_ble_eq_true rfl) rfl rfl dX7_isNoBatch_20 (fun r w' hp => ?_)
    obtain ⟨rfl, rfl⟩ := hp
    refine j_rwi (show bI (¬ (0 : Int32) ≤ 0) = 0 from by decide) ?_
    exact ret _ _ _ _ dX7_isNoBatch_23 (by decide) ⟨(by have e9 := VN_pred (n := un 3) (by omega) v; simp only [bI, ← e9]; simp [c12]), (by have e9 := VN_pred (n := un 3) (by omega) v; rw [show cfTank (un 3) v = 0 from by simp only [cfTank, ← e9]; simp [c12]])⟩
set_option maxHeartbeats 4000000 in
set_option maxRecDepth 100000 in
theorem cM_batchVolume (l : Launch) (D : va_G) (cA : Nat → ClassId) (q : Nat → Nat) (un : Nat → Nat) (ui : Nat → Int32) (ul : Nat → Int64) (ua : Nat → Nat → Int32) (co : Int32) (v : Int32) (hb30 : un 3 ≤ 30) : Ki l yX7_batchVolume cX7_batchVolume 2 .int 2 43 0 0 D cA [.ref (q 0), .int v] (mW cA q un ui ul ua co) (fun r w' => PM (cfTank (un 3) v) r (ua 12 v.toNatClampNeg) w' (mW cA q un ui ul ua 0) (fun co => mW cA q un ui ul ua co)) := by
  refine ent_i (own := RX7) (lv0 := [(0, .ref (q 0)), (1, .int v)]) (by decide) rfl (Nat.le_of_ble_eq_true rfl) rfl ?_
  intro p e s m args below meth c A Q G hinit ret
  refine j_aload_n G dX7_batchVolume_0 rfl 0 rfl ?_
  refine j_iload_n G dX7_batchVolume_1 rfl 1 rfl ?_
  refine jV_i G 7 0 (cM_isNoBatch l D cA q un ui ul ua co v hb30) gX7_184 hd_X7_isNoBatch ⟨Nat.le_of_ble_eq_true rfl, Nat.le_of_ble_eq_true rfl⟩ ⟨Nat.le_of_ble_eq_true rfl, Nat.le_of_ble_eq_true rfl⟩ rfl rfl (Nat.le_of_ble_eq_true rfl) rfl rfl dX7_batchVolume_2 (fun r w' hp => ?_)
  obtain ⟨rfl, rfl⟩ := hp
  refine j_ifb_eq (tgt := 12) G dX7_batchVolume_5 (by decide) (fun c5 => ?_) (fun c5 => ?_)
  · refine j_aload_n G dX7_batchVolume_12 rfl 0 rfl ?_
    refine gfX7_50 (v := .ref (q 13)) G 0 rfl rfl dX7_batchVolume_13 ?_
    refine j_iload_n G dX7_batchVolume_16 rfl 1 rfl ?_
    refine j_iald G 13 rfl (VN.vp (Decidable.not_not.mp c5) (by omega) (by omega)) dX7_batchVolume_17 ?_
    exact ret _ _ _ _ dX7_batchVolume_18 rfl (PM_ok (by simp [cfTank, Decidable.not_not.mp c5]) rfl (by rw [show cfTank (un 3) v = 0 from if_pos (Decidable.not_not.mp c5)]))
  · refine j_iconst (v := 0) G dX7_batchVolume_8 (by decide) ?_
    refine j_goto (tgt := 18) G dX7_batchVolume_9 (by decide) ?_
    exact ret _ _ _ _ dX7_batchVolume_18 rfl (PM_no (cfTank (un 3) v) rfl (by simp [cfTank, c5]) rfl)
set_option maxHeartbeats 4000000 in
set_option maxRecDepth 100000 in
theorem cM_gradeOf (l : Launch) (D : va_G) (cA : Nat → ClassId) (q : Nat → Nat) (un : Nat → Nat) (ui : Nat → Int32) (ul : Nat → Int64) (ua : Nat → Nat → Int32) (co : Int32) (v : Int32) (hb30 : un 3 ≤ 30) (hgr : ∀ j, narrow .char (.int (ua 14 j)) = .int (ua 14 j)) : Ki l yX7_gradeOf cX7_gradeOf 2 .char 2 43 0 0 D cA [.ref (q 0), .int v] (mW cA q un ui ul ua co) (fun r w' => PM (cfTank (un 3) v) r (ua 14 v.toNatClampNeg) w' (mW cA q un ui ul ua 0) (fun co => mW cA q un ui ul ua co)) := by
  refine ent_i (own := RX7) (lv0 := [(0, .ref (q 0)), (1, .int v)]) (by decide) rfl (Nat.le_of_ble_eq_true rfl) rfl ?_
  intro p e s m args below meth c A Q G hinit ret
  refine j_aload_n G dX7_gradeOf_0 rfl 0 rfl ?_
  refine j_iload_n G dX7_gradeOf_1 rfl 1 rfl ?_
  refine jV_i G 7 0 (cM_isNoBatch l D cA q un ui ul ua co v hb30) gX7_184 hd_X7_isNoBatch ⟨Nat.le_of_ble_eq_true rfl, Nat.le_of_ble_eq_true rfl⟩ ⟨Nat.le_of_ble_eq_true rfl, Nat.le_of_ble_eq_true rfl⟩ rfl rfl (Nat.le_of_ble_eq_true rfl) rfl rfl dX7_gradeOf_2 (fun r w' hp => ?_)
  obtain ⟨rfl, rfl⟩ := hp
  refine j_ifb_eq (tgt := 13) G dX7_gradeOf_5 (by decide) (fun c5 => ?_) (fun c5 => ?_)
  · refine j_aload_n G dX7_gradeOf_13 rfl 0 rfl ?_
    refine gfX7_56 (v := .ref (q 15)) G 0 rfl rfl dX7_gradeOf_14 ?_
    refine j_iload_n G dX7_gradeOf_17 rfl 1 rfl ?_
    refine j_cald G 15 rfl (VN.vp (Decidable.not_not.mp c5) (by omega) (by omega)) dX7_gradeOf_18 ?_
    exact ret _ _ _ _ dX7_gradeOf_19 (hgr _) (PM_ok (by simp [cfTank, Decidable.not_not.mp c5]) rfl (by rw [show cfTank (un 3) v = 0 from if_pos (Decidable.not_not.mp c5)]))
  · refine j_bipush (v := 97) G dX7_gradeOf_8 (by decide) ?_
    refine j_goto (tgt := 19) G dX7_gradeOf_10 (by decide) ?_
    exact ret _ _ _ _ dX7_gradeOf_19 rfl (PM_no (cfTank (un 3) v) rfl (by simp [cfTank, c5]) rfl)
set_option maxHeartbeats 4000000 in
set_option maxRecDepth 100000 in
theorem cM_totalSap (l : Launch) (D : va_G) (cA : Nat → ClassId) (q : Nat → Nat) (un : Nat → Nat) (ui : Nat → Int32) (ul : Nat → Int64) (ua : Nat → Nat → Int32) (co : Int32) : Kl l yX7_totalSap cX7_totalSap 1 1 22 0 0 D cA [.ref (q 0)] (mW cA q un ui ul ua co) (fun r w' => r = ul 0 ∧ w' = mW cA q un ui ul ua 0) := by
  refine ent_l (own := RX7) (lv0 := [(0, .ref (q 0))]) (by decide) rfl (Nat.le_of_ble_eq_true rfl) rfl ?_
  intro p e s m args below meth c A Q G hinit ret
  refine j_aload_n G dX7_totalSap_0 rfl 0 rfl ?_
  refine j_aload_n G dX7_totalSap_1 rfl 0 rfl ?_
  refine gfX7_149 (v := .long (ul 0)) G 0 rfl rfl dX7_totalSap_2 ?_
  refine jV_l G 7 0 (cM_tellsLong l D cA q un ui ul ua co (ul 0)) gX7_187 hd_X7_tellsLong ⟨Nat.le_of_ble_eq_true rfl, Nat.le_of_ble_eq_true rfl⟩ ⟨Nat.le_of_ble_eq_true rfl, Nat.le_of_ble_eq_true rfl⟩ rfl rfl (Nat.le_of_ble_eq_true rfl) rfl rfl dX7_totalSap_5 (fun r w' hp => ?_)
  obtain ⟨rfl, rfl⟩ := hp
  exact ret _ _ _ _ dX7_totalSap_8 ⟨rfl, rfl⟩
set_option maxHeartbeats 4000000 in
set_option maxRecDepth 100000 in
theorem cM_steam (l : Launch) (D : va_G) (cA : Nat → ClassId) (q : Nat → Nat) (un : Nat → Nat) (ui : Nat → Int32) (ul : Nat → Int64) (ua : Nat → Nat → Int32) (co : Int32) : Kl l yX7_steam cX7_steam 1 1 22 0 0 D cA [.ref (q 0)] (mW cA q un ui ul ua co) (fun r w' => r = ul 2 ∧ w' = mW cA q un ui ul ua 0) := by
  refine ent_l (own := RX7) (lv0 := [(0, .ref (q 0))]) (by decide) rfl (Nat.le_of_ble_eq_true rfl) rfl ?_
  intro p e s m args below meth c A Q G hinit ret
  refine j_aload_n G dX7_steam_0 rfl 0 rfl ?_
  refine j_aload_n G dX7_steam_1 rfl 0 rfl ?_
  refine gfX7_137 (v := .long (ul 2)) G 0 rfl rfl dX7_steam_2 ?_
  refine jV_l G 7 0 (cM_tellsLong l D cA q un ui ul ua co (ul 2)) gX7_187 hd_X7_tellsLong ⟨Nat.le_of_ble_eq_true rfl, Nat.le_of_ble_eq_true rfl⟩ ⟨Nat.le_of_ble_eq_true rfl, Nat.le_of_ble_eq_true rfl⟩ rfl rfl (Nat.le_of_ble_eq_true rfl) rfl rfl dX7_steam_5 (fun r w' hp => ?_)
  obtain ⟨rfl, rfl⟩ := hp
  exact ret _ _ _ _ dX7_steam_8 ⟨rfl, rfl⟩
set_option maxHeartbeats 4000000 in
set_option maxRecDepth 100000 in
theorem cM_loss (l : Launch) (D : va_G) (cA : Nat → ClassId) (q : Nat → Nat) (un : Nat → Nat) (ui : Nat → Int32) (ul : Nat → Int64) (ua : Nat → Nat → Int32) (co : Int32) : Kl l yX7_loss cX7_loss 1 1 22 0 0 D cA [.ref (q 0)] (mW cA q un ui ul ua co) (fun r w' => r = ul 3 ∧ w' = mW cA q un ui ul ua 0) := by
  refine ent_l (own := RX7) (lv0 := [(0, .ref (q 0))]) (by decide) rfl (Nat.le_of_ble_eq_true rfl) rfl ?_
  intro p e s m args below meth c A Q G hinit ret
  refine j_aload_n G dX7_loss_0 rfl 0 rfl ?_
  refine j_aload_n G dX7_loss_1 rfl 0 rfl ?_
  refine gfX7_118 (v := .long (ul 3)) G 0 rfl rfl dX7_loss_2 ?_
  refine jV_l G 7 0 (cM_tellsLong l D cA q un ui ul ua co (ul 3)) gX7_187 hd_X7_tellsLong ⟨Nat.le_of_ble_eq_true rfl, Nat.le_of_ble_eq_true rfl⟩ ⟨Nat.le_of_ble_eq_true rfl, Nat.le_of_ble_eq_true rfl⟩ rfl rfl (Nat.le_of_ble_eq_true rfl) rfl rfl dX7_loss_5 (fun r w' hp => ?_)
  obtain ⟨rfl, rfl⟩ := hp
  exact ret _ _ _ _ dX7_loss_8 ⟨rfl, rfl⟩
set_option maxHeartbeats 4000000 in
set_option maxRecDepth 100000 in
theorem cM_lostSugar (l : Launch) (D : va_G) (cA : Nat → ClassId) (q : Nat → Nat) (un : Nat → Nat) (ui : Nat → Int32) (ul : Nat → Int64) (ua : Nat → Nat → Int32) (co : Int32) : Kl l yX7_lostSugar cX7_lostSugar 1 1 22 0 0 D cA [.ref (q 0)] (mW cA q un ui ul ua co) (fun r w' => r = ul 4 ∧ w' = mW cA q un ui ul ua 0) := by
  refine ent_l (own := RX7) (lv0 := [(0, .ref (q 0))]) (by decide) rfl (Nat.le_of_ble_eq_true rfl) rfl ?_
  intro p e s m args below meth c A Q G hinit ret
  refine j_aload_n G dX7_lostSugar_0 rfl 0 rfl ?_
  refine j_aload_n G dX7_lostSugar_1 rfl 0 rfl ?_
  refine gfX7_122 (v := .long (ul 4)) G 0 rfl rfl dX7_lostSugar_2 ?_
  refine jV_l G 7 0 (cM_tellsLong l D cA q un ui ul ua co (ul 4)) gX7_187 hd_X7_tellsLong ⟨Nat.le_of_ble_eq_true rfl, Nat.le_of_ble_eq_true rfl⟩ ⟨Nat.le_of_ble_eq_true rfl, Nat.le_of_ble_eq_true rfl⟩ rfl rfl (Nat.le_of_ble_eq_true rfl) rfl rfl dX7_lostSugar_5 (fun r w' hp => ?_)
  obtain ⟨rfl, rfl⟩ := hp
  exact ret _ _ _ _ dX7_lostSugar_8 ⟨rfl, rfl⟩
set_option maxHeartbeats 4000000 in
set_option maxRecDepth 100000 in
theorem cM_missing (l : Launch) (D : va_G) (cA : Nat → ClassId) (q : Nat → Nat) (un : Nat → Nat) (ui : Nat → Int32) (ul : Nat → Int64) (ua : Nat → Nat → Int32) (co : Int32) (hb30 : un 3 ≤ 30) (ht4 : un 2 ≤ 4) : Kl l yX7_missing cX7_missing 4 0 0 0 0 D cA [.ref (q 0)] (mW cA q un ui ul ua co) (fun r w' => r = missV un ui ul ua ∧ w' = mW cA q un ui ul ua co) := by
  refine ent_l (own := RX7) (lv0 := [(0, .ref (q 0))]) (by decide) rfl (Nat.le_of_ble_eq_true rfl) rfl ?_
  intro p e s m args below meth c A Q G hinit ret
  refine j_aload_n G dX7_missing_0 rfl 0 rfl ?_
  refine gfX7_149 (v := .long (ul 0)) G 0 rfl rfl dX7_missing_1 ?_
  refine j_aload_n G dX7_missing_4 rfl 0 rfl ?_
  refine gfX7_137 (v := .long (ul 2)) G 0 rfl rfl dX7_missing_5 ?_
  refine j_lsub G dX7_missing_8 ?_
  refine j_aload_n G dX7_missing_9 rfl 0 rfl ?_
  refine gfX7_128 (v := .int (ui 1)) G 0 rfl rfl dX7_missing_10 ?_
  refine j_i2l G dX7_missing_13 ?_
  refine j_lsub G dX7_missing_14 ?_
  refine j_rwl (subL_0 (ua 12) (ul 0 - ul 2 - (ui 1).toInt64)) ?_
  refine j_lstore_n (lv' := [(1, .long (subL (ua 12) (ul 0 - ul 2 - (ui 1).toInt64) 0)), (0, .ref (q 0))]) G dX7_missing_15 rfl (by decide) rfl ?_
  refine j_iconst (v := 0) G dX7_missing_16 (by decide) ?_
  refine j_istore_n (lv' := [(3, .int 0), (1, .long (subL (ua 12) (ul 0 - ul 2 - (ui 1).toInt64) 0)), (0, .ref (q 0))]) G dX7_missing_17 rfl (by decide) rfl ?_
  have lp18 : ∀ (fu18 : Nat) (b : Nat), (b ≤ un 3) → (un 3 < b + fu18) → J p l e (RM 0 0 0 0) s m args below meth c 4 D A (mW cA q un ui ul ua co) 0 0 Q 18 [(0, .ref (q 0)), (1, .long (subL (ua 12) (ul 0 - ul 2 - (ui 1).toInt64) b)), (3, .int (nI b))] [] := by
    intro fu18
    induction fu18 with
    | zero => intro b h1 h2; exact absurd h2 (by omega)
    | succ fu18 ih18 =>
      intro b h1 h2
      refine j_iload_n G dX7_missing_18 rfl 2 rfl ?_
      refine j_aload_n G dX7_missing_19 rfl 0 rfl ?_
      refine gfX7_178 (v := .int (nI (un 3))) G 0 rfl rfl dX7_missing_20 ?_
      refine j_icmp_ge (tgt := 42) G dX7_missing_23 (by decide) (fun c23 => ?_) (fun c23 => ?_)
      · have g23 : b = un 3 := Nat.le_antisymm h1 ((nI_leI (by omega) (by omega)).mp c23)
        subst g23
        refine j_iconst (v := 0) G dX7_missing_42 (by decide) ?_
        refine j_lv (lv' := [(0, .ref (q 0)), (1, .long (subL (ua 10) (subL (ua 12) (ul 0 - ul 2 - (ui 1).toInt64) (un 3)) 0)), (3, .int (nI (un 3)))]) (by rw [← subL_0 (ua 10)]) ?_
        refine j_istore_n (lv' := [(3, .int 0), (0, .ref (q 0)), (1, .long (subL (ua 10) (subL (ua 12) (ul 0 - ul 2 - (ui 1).toInt64) (un 3)) 0))]) G dX7_missing_43 rfl (by decide) rfl ?_
        have lp44 : ∀ (fu44 : Nat) (t : Nat), (t ≤ un 2) → (un 2 < t + fu44) → J p l e (RM 0 0 0 0) s m args below meth c 4 D A (mW cA q un ui ul ua co) 0 0 Q 44 [(0, .ref (q 0)), (1, .long (subL (ua 10) (subL (ua 12) (ul 0 - ul 2 - (ui 1).toInt64) (un 3)) t)), (3, .int (nI t))] [] := by
          intro fu44
          induction fu44 with
          | zero => intro t h3 h4; exact absurd h4 (by omega)
          | succ fu44 ih44 =>
            intro t h3 h4
            refine j_iload_n G dX7_missing_44 rfl 2 rfl ?_
            refine j_aload_n G dX7_missing_45 rfl 0 rfl ?_
            refine gfX7_111 (v := .int (nI (un 2))) G 0 rfl rfl dX7_missing_46 ?_
            refine j_icmp_ge (tgt := 68) G dX7_missing_49 (by decide) (fun c49 => ?_) (fun c49 => ?_)
            · have g49 : t = un 2 := Nat.le_antisymm h3 ((nI_leI (by omega) (by omega)).mp c49)
              subst g49
              refine j_lload_n G dX7_missing_68 rfl 1 rfl ?_
              exact ret _ _ _ _ dX7_missing_69 ⟨rfl, rfl⟩
            · have g49 : t < un 2 := (Nat.lt_or_ge t (un 2)).resolve_right (fun h => absurd ((nI_leI (by omega) (by omega)).mpr h) c49)
              refine j_lload_n G dX7_missing_52 rfl 1 rfl ?_
              refine j_aload_n G dX7_missing_53 rfl 0 rfl ?_
              refine gfX7_44 (v := .ref (q 11)) G 0 rfl rfl dX7_missing_54 ?_
              refine j_iload_n G dX7_missing_57 rfl 2 rfl ?_
              refine j_ialdN (j := t) G 11 rfl rfl (by omega) (Nat.le_of_ble_eq_true rfl) dX7_missing_58 ?_
              refine j_i2l G dX7_missing_59 ?_
              refine j_lsub G dX7_missing_60 ?_
              refine j_rwl (subL_S (ua 10) (subL (ua 12) (ul 0 - ul 2 - (ui 1).toInt64) (un 3)) t) ?_
              refine j_lstore_n (lv' := [(1, .long (subL (ua 10) (subL (ua 12) (ul 0 - ul 2 - (ui 1).toInt64) (un 3)) (t + 1))), (0, .ref (q 0)), (3, .int (nI t))]) G dX7_missing_61 rfl (by decide) rfl ?_
              refine j_iinc (v := (nI (t + 1))) (lv' := [(3, .int (nI (t + 1))), (1, .long (subL (ua 10) (subL (ua 12) (ul 0 - ul 2 - (ui 1).toInt64) (un 3)) (t + 1))), (0, .ref (q 0))]) G dX7_missing_62 2 rfl (nI_1 t) (by decide) rfl ?_
              refine j_goto (tgt := 44) G dX7_missing_65 (by decide) ?_
              refine j_sub (lv' := [(0, .ref (q 0)), (1, .long (subL (ua 10) (subL (ua 12) (ul 0 - ul 2 - (ui 1).toInt64) (un 3)) (t + 1))), (3, .int (nI (t + 1)))]) [2, 1, 0] rfl ?_
              exact ih44 (t + 1) (by omega) (by omega)
        refine j_sub (lv' := [(0, .ref (q 0)), (1, .long (subL (ua 10) (subL (ua 12) (ul 0 - ul 2 - (ui 1).toInt64) (un 3)) 0)), (3, .int 0)]) [1, 2, 0] rfl ?_
        exact lp44 (un 2 + 1) 0 (Nat.zero_le _) (by omega)
      · have g23 : b < un 3 := (Nat.lt_or_ge b (un 3)).resolve_right (fun h => absurd ((nI_leI (by omega) (by omega)).mpr h) c23)
        refine j_lload_n G dX7_missing_26 rfl 1 rfl ?_
        refine j_aload_n G dX7_missing_27 rfl 0 rfl ?_
        refine gfX7_50 (v := .ref (q 13)) G 0 rfl rfl dX7_missing_28 ?_
        refine j_iload_n G dX7_missing_31 rfl 2 rfl ?_
        refine j_ialdN (j := b) G 13 rfl rfl (by omega) (Nat.le_of_ble_eq_true rfl) dX7_missing_32 ?_
        refine j_i2l G dX7_missing_33 ?_
        refine j_lsub G dX7_missing_34 ?_
        refine j_rwl (subL_S (ua 12) (ul 0 - ul 2 - (ui 1).toInt64) b) ?_
        refine j_lstore_n (lv' := [(1, .long (subL (ua 12) (ul 0 - ul 2 - (ui 1).toInt64) (b + 1))), (0, .ref (q 0)), (3, .int (nI b))]) G dX7_missing_35 rfl (by decide) rfl ?_
        refine j_iinc (v := (nI (b + 1))) (lv' := [(3, .int (nI (b + 1))), (1, .long (subL (ua 12) (ul 0 - ul 2 - (ui 1).toInt64) (b + 1))), (0, .ref (q 0))]) G dX7_missing_36 2 rfl (nI_1 b) (by decide) rfl ?_
        refine j_goto (tgt := 18) G dX7_missing_39 (by decide) ?_
        refine j_sub (lv' := [(0, .ref (q 0)), (1, .long (subL (ua 12) (ul 0 - ul 2 - (ui 1).toInt64) (b + 1))), (3, .int (nI (b + 1)))]) [2, 1, 0] rfl ?_
        exact ih18 (b + 1) (by omega) (by omega)
  refine j_sub (lv' := [(0, .ref (q 0)), (1, .long (subL (ua 12) (ul 0 - ul 2 - (ui 1).toInt64) 0)), (3, .int 0)]) [2, 1, 0] rfl ?_
  exact lp18 (un 3 + 1) 0 (Nat.zero_le _) (by omega)
set_option maxHeartbeats 4000000 in
set_option maxRecDepth 100000 in
theorem cM_lossByBalance (l : Launch) (D : va_G) (cA : Nat → ClassId) (q : Nat → Nat) (un : Nat → Nat) (ui : Nat → Int32) (ul : Nat → Int64) (ua : Nat → Nat → Int32) (co : Int32) (hb30 : un 3 ≤ 30) (ht4 : un 2 ≤ 4) : Kl l yX7_lossByBalance cX7_lossByBalance 1 1 23 0 0 D cA [.ref (q 0)] (mW cA q un ui ul ua co) (fun r w' => r = missV un ui ul ua ∧ w' = mW cA q un ui ul ua 0) := by
  refine ent_l (own := RX7) (lv0 := [(0, .ref (q 0))]) (by decide) rfl (Nat.le_of_ble_eq_true rfl) rfl ?_
  intro p e s m args below meth c A Q G hinit ret
  refine j_aload_n G dX7_lossByBalance_0 rfl 0 rfl ?_
  refine j_aload_n G dX7_lossByBalance_1 rfl 0 rfl ?_
  refine jV_l G 7 0 (cM_missing l D cA q un ui ul ua co hb30 ht4) gX7_191 hd_X7_missing ⟨Nat.le_of_ble_eq_true rfl, Nat.le_of_ble_eq_true rfl⟩ ⟨Nat.le_of_ble_eq_true rfl, Nat.le_of_ble_eq_true rfl⟩ rfl rfl (Nat.le_of_ble_eq_true rfl) rfl rfl dX7_lossByBalance_2 (fun r w' hp => ?_)
  obtain ⟨rfl, rfl⟩ := hp
  refine jV_l G 7 0 (cM_tellsLong l D cA q un ui ul ua co (missV un ui ul ua)) gX7_187 hd_X7_tellsLong ⟨Nat.le_of_ble_eq_true rfl, Nat.le_of_ble_eq_true rfl⟩ ⟨Nat.le_of_ble_eq_true rfl, Nat.le_of_ble_eq_true rfl⟩ rfl rfl (Nat.le_of_ble_eq_true rfl) rfl rfl dX7_lossByBalance_5 (fun r w' hp => ?_)
  obtain ⟨rfl, rfl⟩ := hp
  exact ret _ _ _ _ dX7_lossByBalance_8 ⟨rfl, rfl⟩
set_option maxHeartbeats 4000000 in
set_option maxRecDepth 100000 in
theorem cM_isBalanced (l : Launch) (D : va_G) (cA : Nat → ClassId) (q : Nat → Nat) (un : Nat → Nat) (ui : Nat → Int32) (ul : Nat → Int64) (ua : Nat → Nat → Int32) (co : Int32) (hb30 : un 3 ≤ 30) (ht4 : un 2 ≤ 4) : Ki l yX7_isBalanced cX7_isBalanced 4 .boolean 1 23 0 0 D cA [.ref (q 0)] (mW cA q un ui ul ua co) (fun r w' => r = bI (balP un ui ul ua) ∧ w' = mW cA q un ui ul ua 0) := by
  refine ent_i (own := RX7) (lv0 := [(0, .ref (q 0))]) (by decide) rfl (Nat.le_of_ble_eq_true rfl) rfl ?_
  intro p e s m args below meth c A Q G hinit ret
  refine j_aload_n G dX7_isBalanced_0 rfl 0 rfl ?_
  refine j_iconst (v := 0) G dX7_isBalanced_1 (by decide) ?_
  refine pfX7_60 (w' := mW cA q un ui ul ua 0) G 0 rfl rfl (Nat.le_of_ble_eq_true rfl) dX7_isBalanced_2 rfl rfl ?_
  refine j_aload_n G dX7_isBalanced_5 rfl 0 rfl ?_
  refine gfX7_152 (v := .long (ul 1)) G 0 rfl rfl dX7_isBalanced_6 ?_
  refine j_aload_n G dX7_isBalanced_9 rfl 0 rfl ?_
  refine gfX7_122 (v := .long (ul 4)) G 0 rfl rfl dX7_isBalanced_10 ?_
  refine j_lsub G dX7_isBalanced_13 ?_
  refine j_aload_n G dX7_isBalanced_14 rfl 0 rfl ?_
  refine gfX7_131 (v := .int (ui 2)) G 0 rfl rfl dX7_isBalanced_15 ?_
  refine j_i2l G dX7_isBalanced_18 ?_
  refine j_lsub G dX7_isBalanced_19 ?_
  refine j_rwl (subL_0 (ua 13) (ul 1 - ul 4 - (ui 2).toInt64)) ?_
  refine j_lstore_n (lv' := [(1, .long (subL (ua 13) (ul 1 - ul 4 - (ui 2).toInt64) 0)), (0, .ref (q 0))]) G dX7_isBalanced_20 rfl (by decide) rfl ?_
  refine j_iconst (v := 0) G dX7_isBalanced_21 (by decide) ?_
  refine j_istore_n (lv' := [(3, .int 0), (1, .long (subL (ua 13) (ul 1 - ul 4 - (ui 2).toInt64) 0)), (0, .ref (q 0))]) G dX7_isBalanced_22 rfl (by decide) rfl ?_
  have lp23 : ∀ (fu23 : Nat) (b : Nat), (b ≤ un 3) → (un 3 < b + fu23) → J p l e (RM 1 23 0 0) s m args below meth c 4 D A (mW cA q un ui ul ua 0) 0 0 Q 23 [(0, .ref (q 0)), (1, .long (subL (ua 13) (ul 1 - ul 4 - (ui 2).toInt64) b)), (3, .int (nI b))] [] := by
    intro fu23
    induction fu23 with
    | zero => intro b h1 h2; exact absurd h2 (by omega)
    | succ fu23 ih23 =>
      intro b h1 h2
      refine j_iload_n G dX7_isBalanced_23 rfl 2 rfl ?_
      refine j_aload_n G dX7_isBalanced_24 rfl 0 rfl ?_
      refine gfX7_178 (v := .int (nI (un 3))) G 0 rfl rfl dX7_isBalanced_25 ?_
      refine j_icmp_ge (tgt := 47) G dX7_isBalanced_28 (by decide) (fun c28 => ?_) (fun c28 => ?_)
      · have g28 : b = un 3 := Nat.le_antisymm h1 ((nI_leI (by omega) (by omega)).mp c28)
        subst g28
        refine j_iconst (v := 0) G dX7_isBalanced_47 (by decide) ?_
        refine j_lv (lv' := [(0, .ref (q 0)), (1, .long (subL (ua 11) (subL (ua 13) (ul 1 - ul 4 - (ui 2).toInt64) (un 3)) 0)), (3, .int (nI (un 3)))]) (by rw [← subL_0 (ua 11)]) ?_
        refine j_istore_n (lv' := [(3, .int 0), (0, .ref (q 0)), (1, .long (subL (ua 11) (subL (ua 13) (ul 1 - ul 4 - (ui 2).toInt64) (un 3)) 0))]) G dX7_isBalanced_48 rfl (by decide) rfl ?_
        have lp49 : ∀ (fu49 : Nat) (t : Nat), (t ≤ un 2) → (un 2 < t + fu49) → J p l e (RM 1 23 0 0) s m args below meth c 4 D A (mW cA q un ui ul ua 0) 0 0 Q 49 [(0, .ref (q 0)), (1, .long (subL (ua 11) (subL (ua 13) (ul 1 - ul 4 - (ui 2).toInt64) (un 3)) t)), (3, .int (nI t))] [] := by
          intro fu49
          induction fu49 with
          | zero => intro t h3 h4; exact absurd h4 (by omega)
          | succ fu49 ih49 =>
            intro t h3 h4
            refine j_iload_n G dX7_isBalanced_49 rfl 2 rfl ?_
            refine j_aload_n G dX7_isBalanced_50 rfl 0 rfl ?_
            refine gfX7_111 (v := .int (nI (un 2))) G 0 rfl rfl dX7_isBalanced_51 ?_
            refine j_icmp_ge (tgt := 73) G dX7_isBalanced_54 (by decide) (fun c54 => ?_) (fun c54 => ?_)
            · have g54 : t = un 2 := Nat.le_antisymm h3 ((nI_leI (by omega) (by omega)).mp c54)
              subst g54
              refine j_aload_n G dX7_isBalanced_73 rfl 0 rfl ?_
              refine jV_l G 7 0 (cM_missing l D cA q un ui ul ua 0 hb30 ht4) gX7_191 hd_X7_missing ⟨Nat.le_of_ble_eq_true rfl, Nat.le_of_ble_eq_true rfl⟩ ⟨Nat.le_of_ble_eq_true rfl, Nat.le_of_ble_eq_true rfl⟩ rfl rfl (Nat.le_of_ble_eq_true rfl) rfl rfl dX7_isBalanced_74 (fun r w' hp => ?_)
              obtain ⟨rfl, rfl⟩ := hp
              refine j_aload_n G dX7_isBalanced_77 rfl 0 rfl ?_
              refine gfX7_118 (v := .long (ul 3)) G 0 rfl rfl dX7_isBalanced_78 ?_
              refine j_lcmp G dX7_isBalanced_81 ?_
              refine j_if_ne (tgt := 95) G dX7_isBalanced_82 (by decide) (fun c82 => ?_) (fun c82 => ?_)
              · refine j_iconst (v := 0) G dX7_isBalanced_95 (by decide) ?_
                exact ret _ _ _ _ dX7_isBalanced_96 (by decide) ⟨(bI_f (fun h => c82 (lgz.mpr h.1))), rfl⟩
              · refine j_lload_n G dX7_isBalanced_85 rfl 1 rfl ?_
                refine j_lconst (v := 0) G dX7_isBalanced_86 (by decide) ?_
                refine j_lcmp G dX7_isBalanced_87 ?_
                refine j_if_ne (tgt := 95) G dX7_isBalanced_88 (by decide) (fun c88 => ?_) (fun c88 => ?_)
                · refine j_iconst (v := 0) G dX7_isBalanced_95 (by decide) ?_
                  exact ret _ _ _ _ dX7_isBalanced_96 (by decide) ⟨(bI_f (fun h => c88 (lgz.mpr h.2))), rfl⟩
                · refine j_iconst (v := 1) G dX7_isBalanced_91 (by decide) ?_
                  refine j_goto (tgt := 96) G dX7_isBalanced_92 (by decide) ?_
                  exact ret _ _ _ _ dX7_isBalanced_96 (by decide) ⟨(bI_t ⟨lgz.mp c82, lgz.mp c88⟩), rfl⟩
            · have g54 : t < un 2 := (Nat.lt_or_ge t (un 2)).resolve_right (fun h => absurd ((nI_leI (by omega) (by omega)).mpr h) c54)
              refine j_lload_n G dX7_isBalanced_57 rfl 1 rfl ?_
              refine j_aload_n G dX7_isBalanced_58 rfl 0 rfl ?_
              refine gfX7_47 (v := .ref (q 12)) G 0 rfl rfl dX7_isBalanced_59 ?_
              refine j_iload_n G dX7_isBalanced_62 rfl 2 rfl ?_
              refine j_ialdN (j := t) G 12 rfl rfl (by omega) (Nat.le_of_ble_eq_true rfl) dX7_isBalanced_63 ?_
              refine j_i2l G dX7_isBalanced_64 ?_
              refine j_lsub G dX7_isBalanced_65 ?_
              refine j_rwl (subL_S (ua 11) (subL (ua 13) (ul 1 - ul 4 - (ui 2).toInt64) (un 3)) t) ?_
              refine j_lstore_n (lv' := [(1, .long (subL (ua 11) (subL (ua 13) (ul 1 - ul 4 - (ui 2).toInt64) (un 3)) (t + 1))), (0, .ref (q 0)), (3, .int (nI t))]) G dX7_isBalanced_66 rfl (by decide) rfl ?_
              refine j_iinc (v := (nI (t + 1))) (lv' := [(3, .int (nI (t + 1))), (1, .long (subL (ua 11) (subL (ua 13) (ul 1 - ul 4 - (ui 2).toInt64) (un 3)) (t + 1))), (0, .ref (q 0))]) G dX7_isBalanced_67 2 rfl (nI_1 t) (by decide) rfl ?_
              refine j_goto (tgt := 49) G dX7_isBalanced_70 (by decide) ?_
              refine j_sub (lv' := [(0, .ref (q 0)), (1, .long (subL (ua 11) (subL (ua 13) (ul 1 - ul 4 - (ui 2).toInt64) (un 3)) (t + 1))), (3, .int (nI (t + 1)))]) [2, 1, 0] rfl ?_
              exact ih49 (t + 1) (by omega) (by omega)
        refine j_sub (lv' := [(0, .ref (q 0)), (1, .long (subL (ua 11) (subL (ua 13) (ul 1 - ul 4 - (ui 2).toInt64) (un 3)) 0)), (3, .int 0)]) [1, 2, 0] rfl ?_
        exact lp49 (un 2 + 1) 0 (Nat.zero_le _) (by omega)
      · have g28 : b < un 3 := (Nat.lt_or_ge b (un 3)).resolve_right (fun h => absurd ((nI_leI (by omega) (by omega)).mpr h) c28)
        refine j_lload_n G dX7_isBalanced_31 rfl 1 rfl ?_
        refine j_aload_n G dX7_isBalanced_32 rfl 0 rfl ?_
        refine gfX7_53 (v := .ref (q 14)) G 0 rfl rfl dX7_isBalanced_33 ?_
        refine j_iload_n G dX7_isBalanced_36 rfl 2 rfl ?_
        refine j_ialdN (j := b) G 14 rfl rfl (by omega) (Nat.le_of_ble_eq_true rfl) dX7_isBalanced_37 ?_
        refine j_i2l G dX7_isBalanced_38 ?_
        refine j_lsub G dX7_isBalanced_39 ?_
        refine j_rwl (subL_S (ua 13) (ul 1 - ul 4 - (ui 2).toInt64) b) ?_
        refine j_lstore_n (lv' := [(1, .long (subL (ua 13) (ul 1 - ul 4 - (ui 2).toInt64) (b + 1))), (0, .ref (q 0)), (3, .int (nI b))]) G dX7_isBalanced_40 rfl (by decide) rfl ?_
        refine j_iinc (v := (nI (b + 1))) (lv' := [(3, .int (nI (b + 1))), (1, .long (subL (ua 13) (ul 1 - ul 4 - (ui 2).toInt64) (b + 1))), (0, .ref (q 0))]) G dX7_isBalanced_41 2 rfl (nI_1 b) (by decide) rfl ?_
        refine j_goto (tgt := 23) G dX7_isBalanced_44 (by decide) ?_
        refine j_sub (lv' := [(0, .ref (q 0)), (1, .long (subL (ua 13) (ul 1 - ul 4 - (ui 2).toInt64) (b + 1))), (3, .int (nI (b + 1)))]) [2, 1, 0] rfl ?_
        exact ih23 (b + 1) (by omega) (by omega)
  refine j_sub (lv' := [(0, .ref (q 0)), (1, .long (subL (ua 13) (ul 1 - ul 4 - (ui 2).toInt64) 0)), (3, .int 0)]) [2, 1, 0] rfl ?_
  exact lp23 (un 3 + 1) 0 (Nat.zero_le _) (by omega)
