/-! THE REFERENCE: its two largest methods -/
set_option maxHeartbeats 4000000 in
set_option maxRecDepth 100000 in
theorem cM_suspect (l : Launch) (D : va_G) (cA : Nat → ClassId) (q : Nat → Nat) (un : Nat → Nat) (ui : Nat → Int32) (ul : Nat → Int64) (ua : Nat → Nat → Int32) (co : Int32) (rk : Int32) (hn : un 0 ≤ 20) (hp : PAR (un 0) (ua 1)) : Ki l yX7_suspect cX7_suspect 5 .int 24 885 0 0 D cA [.ref (q 0), .int rk] (mW cA q un ui ul ua co) (fun r w' => PM (cfRank (susP (ownV (un 0) (ui 0) (ua 1) (ua 2) (ua 7)) (un 0) rk) (un 0)) r (nI (fnd (susP (ownV (un 0) (ui 0) (ua 1) (ua 2) (ua 7)) (un 0) rk) (un 0))) w' (mW cA q un ui ul ua 0) (fun co => mW cA q un ui ul ua co)) := by
  refine ent_i (own := RX7) (lv0 := [(0, .ref (q 0)), (1, .int rk)]) (by decide) rfl (Nat.le_of_ble_eq_true rfl) rfl ?_
  intro p e s m args below meth c A Q G hinit ret
  refine j_iconst (v := 0) G dX7_suspect_0 (by decide) ?_
  refine j_istore_n (lv' := [(2, .int 0), (0, .ref (q 0)), (1, .int rk)]) G dX7_suspect_1 rfl (by decide) rfl ?_
  have lp2 : ∀ (fu2 : Nat) (k : Nat), (k ≤ un 0) → (un 0 < k + fu2) → (∀ j, j < k → ¬ susP (ownV (un 0) (ui 0) (ua 1) (ua 2) (ua 7)) (un 0) rk j) → J p l e (RM 24 885 0 0) s m args below meth c 5 D A (mW cA q un ui ul ua co) 0 0 Q 2 [(0, .ref (q 0)), (1, .int rk), (2, .int (nI k))] [] := by
    intro fu2
    induction fu2 with
    | zero => intro k h1 h2 h3; exact absurd h2 (by omega)
    | succ fu2 ih2 =>
      intro k h1 h2 h3
      refine j_iload_n G dX7_suspect_2 rfl 2 rfl ?_
      refine j_aload_n G dX7_suspect_3 rfl 0 rfl ?_
      refine gfX7_7 (v := .int (nI (un 0))) G 0 rfl rfl dX7_suspect_4 ?_
      refine j_icmp_ge (tgt := 97) G dX7_suspect_7 (by decide) (fun c7 => ?_) (fun c7 => ?_)
      · have g7 : un 0 ≤ k := (nI_leI (by omega) (by omega)).mp c7
        refine j_aload_n G dX7_suspect_97 rfl 0 rfl ?_
        refine j_iconst (v := 1) G dX7_suspect_98 (by decide) ?_
        refine pfX7_60 (w' := mW cA q un ui ul ua 1) G 0 rfl rfl (Nat.le_of_ble_eq_true rfl) dX7_suspect_99 rfl rfl ?_
        refine j_iconst (v := 0) G dX7_suspect_102 (by decide) ?_
        exact ret _ _ _ _ dX7_suspect_103 rfl (PM_no 1 (cfRank_no (P := susP (ownV (un 0) (ui 0) (ua 1) (ua 2) (ua 7)) (un 0) rk) (fun j hj => h3 j (by have := g7; omega))) (by decide) rfl)
      · have g7 : k < un 0 := (Nat.lt_or_ge k (un 0)).resolve_right (fun h => absurd ((nI_leI (by omega) (by omega)).mpr h) c7)
        refine j_iconst (v := 0) G dX7_suspect_10 (by decide) ?_
        refine j_rwi (cntV_0 (ahP (ownV (un 0) (ui 0) (ua 1) (ua 2) (ua 7)) k)) ?_
        refine j_istore_n (lv' := [(3, .int (cntV (ahP (ownV (un 0) (ui 0) (ua 1) (ua 2) (ua 7)) k) 0)), (0, .ref (q 0)), (1, .int rk), (2, .int (nI k))]) G dX7_suspect_11 rfl (by decide) rfl ?_
        refine j_iconst (v := 0) G dX7_suspect_12 (by decide) ?_
        refine j_istore (lv' := [(4, .int 0), (3, .int (cntV (ahP (ownV (un 0) (ui 0) (ua 1) (ua 2) (ua 7)) k) 0)), (0, .ref (q 0)), (1, .int rk), (2, .int (nI k))]) G dX7_suspect_13 (by decide) rfl ?_
        have lp15 : ∀ (fu15 : Nat) (o : Nat), (o ≤ un 0) → (un 0 < o + fu15) → J p l e (RM 24 885 0 0) s m args below meth c 5 D A (mW cA q un ui ul ua co) 0 0 Q 15 [(0, .ref (q 0)), (1, .int rk), (2, .int (nI k)), (3, .int (cntV (ahP (ownV (un 0) (ui 0) (ua 1) (ua 2) (ua 7)) k) o)), (4, .int (nI o))] [] := by
          intro fu15
          induction fu15 with
          | zero => intro o h4 h5; exact absurd h5 (by omega)
          | succ fu15 ih15 =>
            intro o h4 h5
            refine j_iload G dX7_suspect_15 4 rfl ?_
            refine j_aload_n G dX7_suspect_17 rfl 0 rfl ?_
            refine gfX7_7 (v := .int (nI (un 0))) G 0 rfl rfl dX7_suspect_18 ?_
            refine j_icmp_ge (tgt := 72) G dX7_suspect_21 (by decide) (fun c21 => ?_) (fun c21 => ?_)
            · have g21 : o = un 0 := Nat.le_antisymm h4 ((nI_leI (by omega) (by omega)).mp c21)
              refine j_aload_n G dX7_suspect_72 rfl 0 rfl ?_
              refine j_iload_n G dX7_suspect_73 rfl 2 rfl ?_
              refine jV_i G 7 0 (cM_ownLoss l D cA q un ui ul ua co k hn hp (by omega)) gX7_104 hd_X7_ownLoss ⟨Nat.le_of_ble_eq_true rfl, Nat.le_of_ble_eq_true rfl⟩ ⟨Nat.le_of_ble_eq_true rfl, Nat.le_of_ble_eq_true rfl⟩ rfl rfl (Nat.le_of_ble_eq_true rfl) rfl rfl dX7_suspect_74 (fun r w' hp => ?_)
              obtain ⟨rfl, rfl⟩ := hp
              refine j_if_le (tgt := 91) G dX7_suspect_77 (by decide) (fun c77 => ?_) (fun c77 => ?_)
              · refine j_iinc (v := (nI (k + 1))) (lv' := [(2, .int (nI (k + 1))), (0, .ref (q 0)), (1, .int rk), (3, .int (cntV (ahP (ownV (un 0) (ui 0) (ua 1) (ua 2) (ua 7)) k) o)), (4, .int (nI o))]) G dX7_suspect_91 2 rfl (nI_1 k) (by decide) rfl ?_
                refine j_goto (tgt := 2) G dX7_suspect_94 (by decide) ?_
                refine j_sub (lv' := [(0, .ref (q 0)), (1, .int rk), (2, .int (nI (k + 1)))]) [1, 2, 0] rfl ?_
                exact ih2 (k + 1) (by omega) (by omega) (lt_s h3 (fun h => absurd h.1 (Int32.not_lt.mpr c77)))
              · refine j_iload_n G dX7_suspect_80 rfl 3 rfl ?_
                refine j_iload_n G dX7_suspect_81 rfl 1 rfl ?_
                refine j_icmp_ne (tgt := 91) G dX7_suspect_82 (by decide) (fun c82 => ?_) (fun c82 => ?_)
                · refine j_iinc (v := (nI (k + 1))) (lv' := [(2, .int (nI (k + 1))), (0, .ref (q 0)), (1, .int rk), (3, .int (cntV (ahP (ownV (un 0) (ui 0) (ua 1) (ua 2) (ua 7)) k) o)), (4, .int (nI o))]) G dX7_suspect_91 2 rfl (nI_1 k) (by decide) rfl ?_
                  refine j_goto (tgt := 2) G dX7_suspect_94 (by decide) ?_
                  refine j_sub (lv' := [(0, .ref (q 0)), (1, .int rk), (2, .int (nI (k + 1)))]) [1, 2, 0] rfl ?_
                  exact ih2 (k + 1) (by omega) (by omega) (lt_s h3 (fun h => c82 (by rw [g21]; exact h.2)))
                · refine j_aload_n G dX7_suspect_85 rfl 0 rfl ?_
                  refine j_iload_n G dX7_suspect_86 rfl 2 rfl ?_
                  refine jV_i G 7 0 (cM_tells l D cA q un ui ul ua co (nI k)) gX7_85 hd_X7_tells ⟨Nat.le_of_ble_eq_true rfl, Nat.le_of_ble_eq_true rfl⟩ ⟨Nat.le_of_ble_eq_true rfl, Nat.le_of_ble_eq_true rfl⟩ rfl rfl (Nat.le_of_ble_eq_true rfl) rfl rfl dX7_suspect_87 (fun r w' hp => ?_)
                  obtain ⟨rfl, rfl⟩ := hp
                  exact ret _ _ _ _ dX7_suspect_90 rfl (PM_ok (cfRank_ok (P := susP (ownV (un 0) (ui 0) (ua 1) (ua 2) (ua 7)) (un 0) rk) h3 g7 ⟨Int32.not_le.mp c77, by have e9 := c82; rw [g21] at e9; exact e9⟩) (by rw [fnd_at (P := susP (ownV (un 0) (ui 0) (ua 1) (ua 2) (ua 7)) (un 0) rk) h3 g7 ⟨Int32.not_le.mp c77, by have e9 := c82; rw [g21] at e9; exact e9⟩]) rfl)
            · have g21 : o < un 0 := (Nat.lt_or_ge o (un 0)).resolve_right (fun h => absurd ((nI_leI (by omega) (by omega)).mpr h) c21)
              refine j_iload_n G dX7_suspect_24 rfl 3 rfl ?_
              refine j_aload_n G dX7_suspect_25 rfl 0 rfl ?_
              refine j_iload G dX7_suspect_26 4 rfl ?_
              refine jV_i G 7 0 (cM_ownLoss l D cA q un ui ul ua co o hn hp (by omega)) gX7_104 hd_X7_ownLoss ⟨Nat.le_of_ble_eq_true rfl, Nat.le_of_ble_eq_true rfl⟩ ⟨Nat.le_of_ble_eq_true rfl, Nat.le_of_ble_eq_true rfl⟩ rfl rfl (Nat.le_of_ble_eq_true rfl) rfl rfl dX7_suspect_28 (fun r w' hp => ?_)
              obtain ⟨rfl, rfl⟩ := hp
              refine j_aload_n G dX7_suspect_31 rfl 0 rfl ?_
              refine j_iload_n G dX7_suspect_32 rfl 2 rfl ?_
              refine jV_i G 7 0 (cM_ownLoss l D cA q un ui ul ua co k hn hp (by omega)) gX7_104 hd_X7_ownLoss ⟨Nat.le_of_ble_eq_true rfl, Nat.le_of_ble_eq_true rfl⟩ ⟨Nat.le_of_ble_eq_true rfl, Nat.le_of_ble_eq_true rfl⟩ rfl rfl (Nat.le_of_ble_eq_true rfl) rfl rfl dX7_suspect_33 (fun r w' hp => ?_)
              obtain ⟨rfl, rfl⟩ := hp
              refine j_icmp_gt (tgt := 59) G dX7_suspect_36 (by decide) (fun c36 => ?_) (fun c36 => ?_)
              · refine j_iconst (v := 1) G dX7_suspect_59 (by decide) ?_
                refine j_goto (tgt := 64) G dX7_suspect_60 (by decide) ?_
                refine j_iadd G dX7_suspect_64 ?_
                refine j_rwi (cntV_y (ahP (ownV (un 0) (ui 0) (ua 1) (ua 2) (ua 7)) k) o (by simp [ahP, c36])) ?_
                refine j_istore_n (lv' := [(3, .int (cntV (ahP (ownV (un 0) (ui 0) (ua 1) (ua 2) (ua 7)) k) (o + 1))), (0, .ref (q 0)), (1, .int rk), (2, .int (nI k)), (4, .int (nI o))]) G dX7_suspect_65 rfl (by decide) rfl ?_
                refine j_iinc (v := (nI (o + 1))) (lv' := [(4, .int (nI (o + 1))), (3, .int (cntV (ahP (ownV (un 0) (ui 0) (ua 1) (ua 2) (ua 7)) k) (o + 1))), (0, .ref (q 0)), (1, .int rk), (2, .int (nI k))]) G dX7_suspect_66 4 rfl (nI_1 o) (by decide) rfl ?_
                refine j_goto (tgt := 15) G dX7_suspect_69 (by decide) ?_
                refine j_sub (lv' := [(0, .ref (q 0)), (1, .int rk), (2, .int (nI k)), (3, .int (cntV (ahP (ownV (un 0) (ui 0) (ua 1) (ua 2) (ua 7)) k) (o + 1))), (4, .int (nI (o + 1)))]) [2, 3, 4, 1, 0] rfl ?_
                exact ih15 (o + 1) (by omega) (by omega)
              · refine j_aload_n G dX7_suspect_39 rfl 0 rfl ?_
                refine j_iload G dX7_suspect_40 4 rfl ?_
                refine jV_i G 7 0 (cM_ownLoss l D cA q un ui ul ua co o hn hp (by omega)) gX7_104 hd_X7_ownLoss ⟨Nat.le_of_ble_eq_true rfl, Nat.le_of_ble_eq_true rfl⟩ ⟨Nat.le_of_ble_eq_true rfl, Nat.le_of_ble_eq_true rfl⟩ rfl rfl (Nat.le_of_ble_eq_true rfl) rfl rfl dX7_suspect_42 (fun r w' hp => ?_)
                obtain ⟨rfl, rfl⟩ := hp
                refine j_aload_n G dX7_suspect_45 rfl 0 rfl ?_
                refine j_iload_n G dX7_suspect_46 rfl 2 rfl ?_
                refine jV_i G 7 0 (cM_ownLoss l D cA q un ui ul ua co k hn hp (by omega)) gX7_104 hd_X7_ownLoss ⟨Nat.le_of_ble_eq_true rfl, Nat.le_of_ble_eq_true rfl⟩ ⟨Nat.le_of_ble_eq_true rfl, Nat.le_of_ble_eq_true rfl⟩ rfl rfl (Nat.le_of_ble_eq_true rfl) rfl rfl dX7_suspect_47 (fun r w' hp => ?_)
                obtain ⟨rfl, rfl⟩ := hp
                refine j_icmp_ne (tgt := 63) G dX7_suspect_50 (by decide) (fun c50 => ?_) (fun c50 => ?_)
                · refine j_iconst (v := 0) G dX7_suspect_63 (by decide) ?_
                  refine j_iadd G dX7_suspect_64 ?_
                  refine j_rwi (cntV_n (ahP (ownV (un 0) (ui 0) (ua 1) (ua 2) (ua 7)) k) o (by simp [ahP, c36, c50])) ?_
                  refine j_istore_n (lv' := [(3, .int (cntV (ahP (ownV (un 0) (ui 0) (ua 1) (ua 2) (ua 7)) k) (o + 1))), (0, .ref (q 0)), (1, .int rk), (2, .int (nI k)), (4, .int (nI o))]) G dX7_suspect_65 rfl (by decide) rfl ?_
                  refine j_iinc (v := (nI (o + 1))) (lv' := [(4, .int (nI (o + 1))), (3, .int (cntV (ahP (ownV (un 0) (ui 0) (ua 1) (ua 2) (ua 7)) k) (o + 1))), (0, .ref (q 0)), (1, .int rk), (2, .int (nI k))]) G dX7_suspect_66 4 rfl (nI_1 o) (by decide) rfl ?_
                  refine j_goto (tgt := 15) G dX7_suspect_69 (by decide) ?_
                  refine j_sub (lv' := [(0, .ref (q 0)), (1, .int rk), (2, .int (nI k)), (3, .int (cntV (ahP (ownV (un 0) (ui 0) (ua 1) (ua 2) (ua 7)) k) (o + 1))), (4, .int (nI (o + 1)))]) [2, 3, 4, 1, 0] rfl ?_
                  exact ih15 (o + 1) (by omega) (by omega)
                · refine j_iload G dX7_suspect_53 4 rfl ?_
                  refine j_iload_n G dX7_suspect_55 rfl 2 rfl ?_
                  refine j_icmp_ge (tgt := 63) G dX7_suspect_56 (by decide) (fun c56 => ?_) (fun c56 => ?_)
                  · have g56 : ¬ o < k := Nat.not_lt.mpr ((nI_leI (by omega) (by omega)).mp c56)
                    refine j_iconst (v := 0) G dX7_suspect_63 (by decide) ?_
                    refine j_iadd G dX7_suspect_64 ?_
                    refine j_rwi (cntV_n (ahP (ownV (un 0) (ui 0) (ua 1) (ua 2) (ua 7)) k) o (by simp [ahP, c36, c50, g56])) ?_
                    refine j_istore_n (lv' := [(3, .int (cntV (ahP (ownV (un 0) (ui 0) (ua 1) (ua 2) (ua 7)) k) (o + 1))), (0, .ref (q 0)), (1, .int rk), (2, .int (nI k)), (4, .int (nI o))]) G dX7_suspect_65 rfl (by decide) rfl ?_
                    refine j_iinc (v := (nI (o + 1))) (lv' := [(4, .int (nI (o + 1))), (3, .int (cntV (ahP (ownV (un 0) (ui 0) (ua 1) (ua 2) (ua 7)) k) (o + 1))), (0, .ref (q 0)), (1, .int rk), (2, .int (nI k))]) G dX7_suspect_66 4 rfl (nI_1 o) (by decide) rfl ?_
                    refine j_goto (tgt := 15) G dX7_suspect_69 (by decide) ?_
                    refine j_sub (lv' := [(0, .ref (q 0)), (1, .int rk), (2, .int (nI k)), (3, .int (cntV (ahP (ownV (un 0) (ui 0) (ua 1) (ua 2) (ua 7)) k) (o + 1))), (4, .int (nI (o + 1)))]) [2, 3, 4, 1, 0] rfl ?_
                    exact ih15 (o + 1) (by omega) (by omega)
                  · have g56 : o < k := Nat.lt_of_not_le (fun h => c56 ((nI_leI (by omega) (by omega)).mpr h))
                    refine j_iconst (v := 1) G dX7_suspect_59 (by decide) ?_
                    refine j_goto (tgt := 64) G dX7_suspect_60 (by decide) ?_
                    refine j_iadd G dX7_suspect_64 ?_
                    refine j_rwi (cntV_y (ahP (ownV (un 0) (ui 0) (ua 1) (ua 2) (ua 7)) k) o (by simp [ahP, c36, c50, g56])) ?_
                    refine j_istore_n (lv' := [(3, .int (cntV (ahP (ownV (un 0) (ui 0) (ua 1) (ua 2) (ua 7)) k) (o + 1))), (0, .ref (q 0)), (1, .int rk), (2, .int (nI k)), (4, .int (nI o))]) G dX7_suspect_65 rfl (by decide) rfl ?_
                    refine j_iinc (v := (nI (o + 1))) (lv' := [(4, .int (nI (o + 1))), (3, .int (cntV (ahP (ownV (un 0) (ui 0) (ua 1) (ua 2) (ua 7)) k) (o + 1))), (0, .ref (q 0)), (1, .int rk), (2, .int (nI k))]) G dX7_suspect_66 4 rfl (nI_1 o) (by decide) rfl ?_
                    refine j_goto (tgt := 15) G dX7_suspect_69 (by decide) ?_
                    refine j_sub (lv' := [(0, .ref (q 0)), (1, .int rk), (2, .int (nI k)), (3, .int (cntV (ahP (ownV (un 0) (ui 0) (ua 1) (ua 2) (ua 7)) k) (o + 1))), (4, .int (nI (o + 1)))]) [2, 3, 4, 1, 0] rfl ?_
                    exact ih15 (o + 1) (by omega) (by omega)
        refine j_sub (lv' := [(0, .ref (q 0)), (1, .int rk), (2, .int (nI k)), (3, .int (cntV (ahP (ownV (un 0) (ui 0) (ua 1) (ua 2) (ua 7)) k) 0)), (4, .int 0)]) [2, 3, 4, 1, 0] rfl ?_
        exact lp15 (un 0 + 1) 0 (Nat.zero_le _) (by omega)
  refine j_sub (lv' := [(0, .ref (q 0)), (1, .int rk), (2, .int 0)]) [1, 2, 0] rfl ?_
  exact lp2 (un 0 + 1) 0 (Nat.zero_le _) (by omega) (fun j hj => absurd hj (Nat.not_lt_zero j))
set_option maxHeartbeats 4000000 in
set_option maxRecDepth 100000 in
theorem cM_pass (l : Launch) (D : va_G) (cA : Nat → ClassId) (q : Nat → Nat) (un : Nat → Nat) (ui : Nat → Int32) (ul : Nat → Int64) (ua : Nat → Nat → Int32) (co : Int32) (t : Int32) (hn : un 0 ≤ 20) (hp : PAR (un 0) (ua 1)) (hh : un 1 ≤ 200) (ht4 : un 2 ≤ 4) : Ki l yX7_pass cX7_pass 6 .int 23 865 0 0 D cA [.ref (q 0), .int t] (mW cA q un ui ul ua co) (fun r w' => PM (cfPass (un 1) t) r (hrV (ua 0) (ua 3) (ua 5) (ua 6) (vac (un 0) (ui 0) (ua 1) (ua 2) (ua 7)) t (un 0)) w' (mW cA q (up un 1 (un 1 + 1)) (up (up ui 1 (ui 1 - lessV (ui 1) (ui 2) (ui 3))) 4 (if lessV (ui 1) (ui 2) (ui 3) ≤ 0 then ui 4 else ui 4 + 1)) (up (up (up (up (up ul 0 (ul 0 + (hrV (ua 0) (ua 3) (ua 5) (ua 6) (vac (un 0) (ui 0) (ua 1) (ua 2) (ua 7)) t (un 0)).toInt64)) 1 (ul 1 + (hrS (ua 0) (ua 3) (ua 4) (ua 5) (ua 6) (vac (un 0) (ui 0) (ua 1) (ua 2) (ua 7)) t (un 0)).toInt64)) 2 (ul 2 + (lessV (ui 1) (ui 2) (ui 3)).toInt64)) 3 (ul 3 + (prN (ua 9) ((hrV (ua 0) (ua 3) (ua 5) (ua 6) (vac (un 0) (ui 0) (ua 1) (ua 2) (ua 7)) t (un 0)), (hrS (ua 0) (ua 3) (ua 4) (ua 5) (ua 6) (vac (un 0) (ui 0) (ua 1) (ua 2) (ua 7)) t (un 0)), ua 10, ua 11) (un 2)).1.toInt64)) 4 (ul 4 + (prN (ua 9) ((hrV (ua 0) (ua 3) (ua 5) (ua 6) (vac (un 0) (ui 0) (ua 1) (ua 2) (ua 7)) t (un 0)), (hrS (ua 0) (ua 3) (ua 4) (ua 5) (ua 6) (vac (un 0) (ui 0) (ua 1) (ua 2) (ua 7)) t (un 0)), ua 10, ua 11) (un 2)).2.1.toInt64)) (up (up (up (up ua 6 (hrC (ua 0) (ua 5) (ua 6) t (un 0))) 8 (hrA (ua 0) (ua 3) (ua 5) (ua 6) (vac (un 0) (ui 0) (ua 1) (ua 2) (ua 7)) t (un 1) (ua 8) (un 0))) 10 ((prN (ua 9) ((hrV (ua 0) (ua 3) (ua 5) (ua 6) (vac (un 0) (ui 0) (ua 1) (ua 2) (ua 7)) t (un 0)), (hrS (ua 0) (ua 3) (ua 4) (ua 5) (ua 6) (vac (un 0) (ui 0) (ua 1) (ua 2) (ua 7)) t (un 0)), ua 10, ua 11) (un 2)).2.2.1)) 11 ((prN (ua 9) ((hrV (ua 0) (ua 3) (ua 5) (ua 6) (vac (un 0) (ui 0) (ua 1) (ua 2) (ua 7)) t (un 0)), (hrS (ua 0) (ua 3) (ua 4) (ua 5) (ua 6) (vac (un 0) (ui 0) (ua 1) (ua 2) (ua 7)) t (un 0)), ua 10, ua 11) (un 2)).2.2.2)) 0) (fun co => mW cA q un ui ul ua co)) := by
  refine ent_i (own := RX7) (lv0 := [(0, .ref (q 0)), (1, .int t)]) (by decide) rfl (Nat.le_of_ble_eq_true rfl) rfl ?_
  intro p e s m args below meth c A Q G hinit ret
  refine j_aload_n G dX7_pass_0 rfl 0 rfl ?_
  refine j_iload_n G dX7_pass_1 rfl 1 rfl ?_
  refine j_bipush (v := (-30)) G dX7_pass_2 (by decide) ?_
  refine j_bipush (v := 30) G dX7_pass_4 (by decide) ?_
  refine jS_i G (cM_in l D cA (mW cA q un ui ul ua co) t (-30) 30) gX7_63 hd_X7_in.2 ⟨Nat.le_of_ble_eq_true rfl, Nat.le_of_ble_eq_true rfl⟩ ⟨Nat.le_of_ble_eq_true rfl, Nat.le_of_ble_eq_true rfl⟩ rfl rfl (Nat.le_of_ble_eq_true rfl) dX7_pass_6 (fun r w' hp => ?_)
  obtain ⟨rfl, rfl⟩ := hp
  refine j_ifb_ne (tgt := 16) G dX7_pass_9 (by decide) (fun c9 => ?_) (fun c9 => ?_)
  · refine j_aload_n G dX7_pass_16 rfl 0 rfl ?_
    refine gfX7_143 (v := .int (nI (un 1))) G 0 rfl rfl dX7_pass_17 ?_
    refine j_sipush (v := 200) G dX7_pass_20 (by decide) ?_
    refine j_icmp_ne (tgt := 30) G dX7_pass_23 (by decide) (fun c23 => ?_) (fun c23 => ?_)
    · refine j_iconst (v := 0) G dX7_pass_30 (by decide) ?_
      refine jV_i G 7 0 (cM_fails l D cA q un ui ul ua co 0) gX7_71 hd_X7_fails ⟨Nat.le_of_ble_eq_true rfl, Nat.le_of_ble_eq_true rfl⟩ ⟨Nat.le_of_ble_eq_true rfl, Nat.le_of_ble_eq_true rfl⟩ rfl rfl (Nat.le_of_ble_eq_true rfl) rfl rfl dX7_pass_31 (fun r w' hp => ?_)
      obtain ⟨rfl, rfl⟩ := hp
      refine j_rwi (show bI (¬ (0 : Int32) ≤ 0) = 0 from by decide) ?_
      refine j_if_eq (tgt := 39) G dX7_pass_34 (by decide) (fun _ => ?_) (fun c34 => absurd c34 (by decide))
      have g23 : un 1 < 200 := (Nat.lt_or_ge (un 1) 200).resolve_right (fun h => absurd (show nI (un 1) = 200 from by rw [show un 1 = 200 by omega]; rfl) c23)
      refine j_iconst (v := 0) G dX7_pass_39 (by decide) ?_
      refine j_rwi (hrV_0 (ua 0) (ua 3) (ua 5) (ua 6) (vac (un 0) (ui 0) (ua 1) (ua 2) (ua 7)) t) ?_
      refine j_istore_n (lv' := [(2, .int (hrV (ua 0) (ua 3) (ua 5) (ua 6) (vac (un 0) (ui 0) (ua 1) (ua 2) (ua 7)) t 0)), (0, .ref (q 0)), (1, .int t)]) G dX7_pass_40 rfl (by decide) rfl ?_
      refine j_iconst (v := 0) G dX7_pass_41 (by decide) ?_
      refine j_rwi (hrS_0 (ua 0) (ua 3) (ua 4) (ua 5) (ua 6) (vac (un 0) (ui 0) (ua 1) (ua 2) (ua 7)) t) ?_
      refine j_istore_n (lv' := [(3, .int (hrS (ua 0) (ua 3) (ua 4) (ua 5) (ua 6) (vac (un 0) (ui 0) (ua 1) (ua 2) (ua 7)) t 0)), (2, .int (hrV (ua 0) (ua 3) (ua 5) (ua 6) (vac (un 0) (ui 0) (ua 1) (ua 2) (ua 7)) t 0)), (0, .ref (q 0)), (1, .int t)]) G dX7_pass_42 rfl (by decide) rfl ?_
      refine j_iconst (v := 0) G dX7_pass_43 (by decide) ?_
      refine j_istore (lv' := [(4, .int 0), (3, .int (hrS (ua 0) (ua 3) (ua 4) (ua 5) (ua 6) (vac (un 0) (ui 0) (ua 1) (ua 2) (ua 7)) t 0)), (2, .int (hrV (ua 0) (ua 3) (ua 5) (ua 6) (vac (un 0) (ui 0) (ua 1) (ua 2) (ua 7)) t 0)), (0, .ref (q 0)), (1, .int t)]) G dX7_pass_44 (by decide) rfl ?_
      have lp46 : ∀ (fu46 : Nat) (k : Nat), (k ≤ un 0) → (un 0 < k + fu46) → J p l e (RM 23 865 0 0) s m args below meth c 6 D A (mW cA q un ui ul (up (up ua 6 (hrC (ua 0) (ua 5) (ua 6) t k)) 8 (hrA (ua 0) (ua 3) (ua 5) (ua 6) (vac (un 0) (ui 0) (ua 1) (ua 2) (ua 7)) t (un 1) (ua 8) k)) 0) 0 0 Q 46 [(0, .ref (q 0)), (1, .int t), (2, .int (hrV (ua 0) (ua 3) (ua 5) (ua 6) (vac (un 0) (ui 0) (ua 1) (ua 2) (ua 7)) t k)), (3, .int (hrS (ua 0) (ua 3) (ua 4) (ua 5) (ua 6) (vac (un 0) (ui 0) (ua 1) (ua 2) (ua 7)) t k)), (4, .int (nI k))] [] := by
        intro fu46
        induction fu46 with
        | zero => intro k h1 h2; exact absurd h2 (by omega)
        | succ fu46 ih46 =>
          intro k h1 h2
          refine j_iload G dX7_pass_46 4 rfl ?_
          refine j_aload_n G dX7_pass_48 rfl 0 rfl ?_
          refine gfX7_7 (v := .int (nI (un 0))) G 0 rfl rfl dX7_pass_49 ?_
          refine j_icmp_ge (tgt := 120) G dX7_pass_52 (by decide) (fun c52 => ?_) (fun c52 => ?_)
          · have g52 : k = un 0 := Nat.le_antisymm h1 ((nI_leI (by omega) (by omega)).mp c52)
            subst g52
            refine j_aload_n G dX7_pass_120 rfl 0 rfl ?_
            refine j_dup G dX7_pass_121 rfl ?_
            refine gfX7_143 (v := .int (nI (un 1))) G 0 rfl rfl dX7_pass_122 ?_
            refine j_iconst (v := 1) G dX7_pass_125 (by decide) ?_
            refine j_iadd G dX7_pass_126 ?_
            refine j_rwi (nI_add (un 1) 1) ?_
            refine pfX7_143 (w' := mW cA q (up un 1 (un 1 + 1)) ui ul (up (up ua 6 (hrC (ua 0) (ua 5) (ua 6) t (un 0))) 8 (hrA (ua 0) (ua 3) (ua 5) (ua 6) (vac (un 0) (ui 0) (ua 1) (ua 2) (ua 7)) t (un 1) (ua 8) (un 0))) 0) G 0 rfl rfl (Nat.le_of_ble_eq_true rfl) dX7_pass_127 rfl rfl ?_
            refine j_aload_n G dX7_pass_130 rfl 0 rfl ?_
            refine j_dup G dX7_pass_131 rfl ?_
            refine gfX7_149 (v := .long (ul 0)) G 0 rfl rfl dX7_pass_132 ?_
            refine j_iload_n G dX7_pass_135 rfl 2 rfl ?_
            refine j_i2l G dX7_pass_136 ?_
            refine j_ladd G dX7_pass_137 ?_
            refine j_topl (fun x1 ex1 => ?_)
            refine pfX7_149 (w' := mW cA q (up un 1 (un 1 + 1)) ui (up ul 0 x1) (up (up ua 6 (hrC (ua 0) (ua 5) (ua 6) t (un 0))) 8 (hrA (ua 0) (ua 3) (ua 5) (ua 6) (vac (un 0) (ui 0) (ua 1) (ua 2) (ua 7)) t (un 1) (ua 8) (un 0))) 0) G 0 rfl rfl (Nat.le_of_ble_eq_true rfl) dX7_pass_138 rfl rfl ?_
            refine j_aload_n G dX7_pass_141 rfl 0 rfl ?_
            refine j_dup G dX7_pass_142 rfl ?_
            refine gfX7_152 (v := .long (ul 1)) G 0 rfl rfl dX7_pass_143 ?_
            refine j_iload_n G dX7_pass_146 rfl 3 rfl ?_
            refine j_i2l G dX7_pass_147 ?_
            refine j_ladd G dX7_pass_148 ?_
            refine j_topl (fun x2 ex2 => ?_)
            refine pfX7_152 (w' := mW cA q (up un 1 (un 1 + 1)) ui (up (up ul 0 x1) 1 x2) (up (up ua 6 (hrC (ua 0) (ua 5) (ua 6) t (un 0))) 8 (hrA (ua 0) (ua 3) (ua 5) (ua 6) (vac (un 0) (ui 0) (ua 1) (ua 2) (ua 7)) t (un 1) (ua 8) (un 0))) 0) G 0 rfl rfl (Nat.le_of_ble_eq_true rfl) dX7_pass_149 rfl rfl ?_
            refine j_aload_n G dX7_pass_152 rfl 0 rfl ?_
            refine j_iload_n G dX7_pass_153 rfl 2 rfl ?_
            refine j_iload_n G dX7_pass_154 rfl 3 rfl ?_
            refine jV_v G 7 0 (cM_pours l D cA q (up un 1 (un 1 + 1)) ui (up (up ul 0 x1) 1 x2) (up (up ua 6 (hrC (ua 0) (ua 5) (ua 6) t (un 0))) 8 (hrA (ua 0) (ua 3) (ua 5) (ua 6) (vac (un 0) (ui 0) (ua 1) (ua 2) (ua 7)) t (un 1) (ua 8) (un 0))) 0 (hrV (ua 0) (ua 3) (ua 5) (ua 6) (vac (un 0) (ui 0) (ua 1) (ua 2) (ua 7)) t (un 0)) (hrS (ua 0) (ua 3) (ua 4) (ua 5) (ua 6) (vac (un 0) (ui 0) (ua 1) (ua 2) (ua 7)) t (un 0)) ht4) gX7_155 hd_X7_pours ⟨Nat.le_of_ble_eq_true rfl, Nat.le_of_ble_eq_true rfl⟩ ⟨Nat.le_of_ble_eq_true rfl, Nat.le_of_ble_eq_true rfl⟩ rfl rfl (Nat.le_of_ble_eq_true rfl) rfl rfl dX7_pass_155 (fun w' hp => ?_)
            subst hp
            refine j_w (w' := mW cA q (up un 1 (un 1 + 1)) ui (up (up (up (up ul 0 x1) 1 x2) 3 (ul 3 + (prN (ua 9) ((hrV (ua 0) (ua 3) (ua 5) (ua 6) (vac (un 0) (ui 0) (ua 1) (ua 2) (ua 7)) t (un 0)), (hrS (ua 0) (ua 3) (ua 4) (ua 5) (ua 6) (vac (un 0) (ui 0) (ua 1) (ua 2) (ua 7)) t (un 0)), ua 10, ua 11) (un 2)).1.toInt64)) 4 (ul 4 + (prN (ua 9) ((hrV (ua 0) (ua 3) (ua 5) (ua 6) (vac (un 0) (ui 0) (ua 1) (ua 2) (ua 7)) t (un 0)), (hrS (ua 0) (ua 3) (ua 4) (ua 5) (ua 6) (vac (un 0) (ui 0) (ua 1) (ua 2) (ua 7)) t (un 0)), ua 10, ua 11) (un 2)).2.1.toInt64)) (up (up (up (up ua 6 (hrC (ua 0) (ua 5) (ua 6) t (un 0))) 8 (hrA (ua 0) (ua 3) (ua 5) (ua 6) (vac (un 0) (ui 0) (ua 1) (ua 2) (ua 7)) t (un 1) (ua 8) (un 0))) 10 ((prN (ua 9) ((hrV (ua 0) (ua 3) (ua 5) (ua 6) (vac (un 0) (ui 0) (ua 1) (ua 2) (ua 7)) t (un 0)), (hrS (ua 0) (ua 3) (ua 4) (ua 5) (ua 6) (vac (un 0) (ui 0) (ua 1) (ua 2) (ua 7)) t (un 0)), ua 10, ua 11) (un 2)).2.2.1)) 11 ((prN (ua 9) ((hrV (ua 0) (ua 3) (ua 5) (ua 6) (vac (un 0) (ui 0) (ua 1) (ua 2) (ua 7)) t (un 0)), (hrS (ua 0) (ua 3) (ua 4) (ua 5) (ua 6) (vac (un 0) (ui 0) (ua 1) (ua 2) (ua 7)) t (un 0)), ua 10, ua 11) (un 2)).2.2.2)) 0) (by simp [mW, mO, up_at]) ?_
            refine j_aload_n G dX7_pass_158 rfl 0 rfl ?_
            refine jV_v G 7 0 (cM_boils l D cA q (up un 1 (un 1 + 1)) ui (up (up (up (up ul 0 x1) 1 x2) 3 (ul 3 + (prN (ua 9) ((hrV (ua 0) (ua 3) (ua 5) (ua 6) (vac (un 0) (ui 0) (ua 1) (ua 2) (ua 7)) t (un 0)), (hrS (ua 0) (ua 3) (ua 4) (ua 5) (ua 6) (vac (un 0) (ui 0) (ua 1) (ua 2) (ua 7)) t (un 0)), ua 10, ua 11) (un 2)).1.toInt64)) 4 (ul 4 + (prN (ua 9) ((hrV (ua 0) (ua 3) (ua 5) (ua 6) (vac (un 0) (ui 0) (ua 1) (ua 2) (ua 7)) t (un 0)), (hrS (ua 0) (ua 3) (ua 4) (ua 5) (ua 6) (vac (un 0) (ui 0) (ua 1) (ua 2) (ua 7)) t (un 0)), ua 10, ua 11) (un 2)).2.1.toInt64)) (up (up (up (up ua 6 (hrC (ua 0) (ua 5) (ua 6) t (un 0))) 8 (hrA (ua 0) (ua 3) (ua 5) (ua 6) (vac (un 0) (ui 0) (ua 1) (ua 2) (ua 7)) t (un 1) (ua 8) (un 0))) 10 ((prN (ua 9) ((hrV (ua 0) (ua 3) (ua 5) (ua 6) (vac (un 0) (ui 0) (ua 1) (ua 2) (ua 7)) t (un 0)), (hrS (ua 0) (ua 3) (ua 4) (ua 5) (ua 6) (vac (un 0) (ui 0) (ua 1) (ua 2) (ua 7)) t (un 0)), ua 10, ua 11) (un 2)).2.2.1)) 11 ((prN (ua 9) ((hrV (ua 0) (ua 3) (ua 5) (ua 6) (vac (un 0) (ui 0) (ua 1) (ua 2) (ua 7)) t (un 0)), (hrS (ua 0) (ua 3) (ua 4) (ua 5) (ua 6) (vac (un 0) (ui 0) (ua 1) (ua 2) (ua 7)) t (un 0)), ua 10, ua 11) (un 2)).2.2.2)) 0 ) gX7_158 hd_X7_boils ⟨Nat.le_of_ble_eq_true rfl, Nat.le_of_ble_eq_true rfl⟩ ⟨Nat.le_of_ble_eq_true rfl, Nat.le_of_ble_eq_true rfl⟩ rfl rfl (Nat.le_of_ble_eq_true rfl) rfl rfl dX7_pass_159 (fun w' hp => ?_)
            subst hp
            refine j_w (w' := mW cA q (up un 1 (un 1 + 1)) (up (up ui 1 (ui 1 - lessV (ui 1) (ui 2) (ui 3))) 4 (if lessV (ui 1) (ui 2) (ui 3) ≤ 0 then ui 4 else ui 4 + 1)) (up (up (up (up (up ul 0 x1) 1 x2) 2 (ul 2 + (lessV (ui 1) (ui 2) (ui 3)).toInt64)) 3 (ul 3 + (prN (ua 9) ((hrV (ua 0) (ua 3) (ua 5) (ua 6) (vac (un 0) (ui 0) (ua 1) (ua 2) (ua 7)) t (un 0)), (hrS (ua 0) (ua 3) (ua 4) (ua 5) (ua 6) (vac (un 0) (ui 0) (ua 1) (ua 2) (ua 7)) t (un 0)), ua 10, ua 11) (un 2)).1.toInt64)) 4 (ul 4 + (prN (ua 9) ((hrV (ua 0) (ua 3) (ua 5) (ua 6) (vac (un 0) (ui 0) (ua 1) (ua 2) (ua 7)) t (un 0)), (hrS (ua 0) (ua 3) (ua 4) (ua 5) (ua 6) (vac (un 0) (ui 0) (ua 1) (ua 2) (ua 7)) t (un 0)), ua 10, ua 11) (un 2)).2.1.toInt64)) (up (up (up (up ua 6 (hrC (ua 0) (ua 5) (ua 6) t (un 0))) 8 (hrA (ua 0) (ua 3) (ua 5) (ua 6) (vac (un 0) (ui 0) (ua 1) (ua 2) (ua 7)) t (un 1) (ua 8) (un 0))) 10 ((prN (ua 9) ((hrV (ua 0) (ua 3) (ua 5) (ua 6) (vac (un 0) (ui 0) (ua 1) (ua 2) (ua 7)) t (un 0)), (hrS (ua 0) (ua 3) (ua 4) (ua 5) (ua 6) (vac (un 0) (ui 0) (ua 1) (ua 2) (ua 7)) t (un 0)), ua 10, ua 11) (un 2)).2.2.1)) 11 ((prN (ua 9) ((hrV (ua 0) (ua 3) (ua 5) (ua 6) (vac (un 0) (ui 0) (ua 1) (ua 2) (ua 7)) t (un 0)), (hrS (ua 0) (ua 3) (ua 4) (ua 5) (ua 6) (vac (un 0) (ui 0) (ua 1) (ua 2) (ua 7)) t (un 0)), ua 10, ua 11) (un 2)).2.2.2)) 0) (by simp [mW, mO, up_at]) ?_
            refine j_iload_n G dX7_pass_162 rfl 2 rfl ?_
            subst ex2 ex1
            exact ret _ _ _ _ dX7_pass_163 rfl (PM_ok (by simp [cfPass, c9, c23, c52]) rfl rfl)
          · have g52 : k < un 0 := (Nat.lt_or_ge k (un 0)).resolve_right (fun h => absurd ((nI_leI (by omega) (by omega)).mpr h) c52)
            refine j_aload_n G dX7_pass_55 rfl 0 rfl ?_
            refine gfX7_13 (v := .ref (q 1)) G 0 rfl rfl dX7_pass_56 ?_
            refine j_iload G dX7_pass_59 4 rfl ?_
            refine j_ialdN (j := k) G 1 rfl rfl (by omega) (Nat.le_of_ble_eq_true rfl) dX7_pass_61 ?_
            refine j_iconst (v := 2) G dX7_pass_62 (by decide) ?_
            refine j_icmp_eq (tgt := 69) G dX7_pass_63 (by decide) (fun c63 => ?_) (fun c63 => ?_)
            · refine j_aload_n G dX7_pass_69 rfl 0 rfl ?_
              refine j_iload G dX7_pass_70 4 rfl ?_
              refine j_iload_n G dX7_pass_72 rfl 1 rfl ?_
              refine jV_i G 7 0 (cM_gives l D cA q un ui ul (up (up ua 6 (hrC (ua 0) (ua 5) (ua 6) t k)) 8 (hrA (ua 0) (ua 3) (ua 5) (ua 6) (vac (un 0) (ui 0) (ua 1) (ua 2) (ua 7)) t (un 1) (ua 8) k)) 0 k t hn hp g52) gX7_146 hd_X7_gives ⟨Nat.le_of_ble_eq_true rfl, Nat.le_of_ble_eq_true rfl⟩ ⟨Nat.le_of_ble_eq_true rfl, Nat.le_of_ble_eq_true rfl⟩ rfl rfl (Nat.le_of_ble_eq_true rfl) rfl rfl dX7_pass_73 (fun r w' hp => ?_)
              obtain ⟨rfl, rfl⟩ := hp
              refine j_w (w' := mW cA q un ui ul (up (up ua 6 (upd ((hrC (ua 0) (ua 5) (ua 6) t k)) k (chgV (ua 5) ((hrC (ua 0) (ua 5) (ua 6) t k)) t k))) 8 (hrA (ua 0) (ua 3) (ua 5) (ua 6) (vac (un 0) (ui 0) (ua 1) (ua 2) (ua 7)) t (un 1) (ua 8) k)) 0) rfl ?_
              refine j_rwi (show _ = hrG (ua 0) (ua 3) (ua 5) (ua 6) (vac (un 0) (ui 0) (ua 1) (ua 2) (ua 7)) t k from rfl) ?_
              refine j_istore (lv' := [(5, .int (hrG (ua 0) (ua 3) (ua 5) (ua 6) (vac (un 0) (ui 0) (ua 1) (ua 2) (ua 7)) t k)), (0, .ref (q 0)), (1, .int t), (2, .int (hrV (ua 0) (ua 3) (ua 5) (ua 6) (vac (un 0) (ui 0) (ua 1) (ua 2) (ua 7)) t k)), (3, .int (hrS (ua 0) (ua 3) (ua 4) (ua 5) (ua 6) (vac (un 0) (ui 0) (ua 1) (ua 2) (ua 7)) t k)), (4, .int (nI k))]) G dX7_pass_76 (by decide) rfl ?_
              refine j_aload_n G dX7_pass_78 rfl 1 rfl ?_
              refine gfX7_38 (v := .ref (q 9)) G 0 rfl rfl dX7_pass_79 ?_
              refine j_sipush (v := 200) G dX7_pass_82 (by decide) ?_
              refine j_iload G dX7_pass_85 5 rfl ?_
              refine j_imul G dX7_pass_87 ?_
              refine j_rwi (pk_mul 200 k) ?_
              refine j_aload_n G dX7_pass_88 rfl 1 rfl ?_
              refine gfX7_143 (v := .int (nI (un 1))) G 0 rfl rfl dX7_pass_89 ?_
              refine j_iadd G dX7_pass_92 ?_
              refine j_rwi (nI_add (200 * k) (un 1)) ?_
              refine j_iload G dX7_pass_93 0 rfl ?_
              refine j_iast (j := (200 * k + un 1)) (w' := mW cA q un ui ul (up (up ua 6 (upd ((hrC (ua 0) (ua 5) (ua 6) t k)) k (chgV (ua 5) ((hrC (ua 0) (ua 5) (ua 6) t k)) t k))) 8 (upd (hrA (ua 0) (ua 3) (ua 5) (ua 6) (vac (un 0) (ui 0) (ua 1) (ua 2) (ua 7)) t (un 1) (ua 8) k) (200 * k + un 1) (hrG (ua 0) (ua 3) (ua 5) (ua 6) (vac (un 0) (ui 0) (ua 1) (ua 2) (ua 7)) t k))) 0) G 9 rfl rfl (by omega) (Nat.le_of_ble_eq_true rfl) dX7_pass_95 rfl ?_
              refine j_iload_n G dX7_pass_96 rfl 3 rfl ?_
              refine j_iload G dX7_pass_97 0 rfl ?_
              refine j_iadd G dX7_pass_99 ?_
              refine j_istore_n (lv' := [(2, .int ((hrV (ua 0) (ua 3) (ua 5) (ua 6) (vac (un 0) (ui 0) (ua 1) (ua 2) (ua 7)) t k) + (hrG (ua 0) (ua 3) (ua 5) (ua 6) (vac (un 0) (ui 0) (ua 1) (ua 2) (ua 7)) t k))), (5, .int (hrG (ua 0) (ua 3) (ua 5) (ua 6) (vac (un 0) (ui 0) (ua 1) (ua 2) (ua 7)) t k)), (0, .ref (q 0)), (1, .int t), (3, .int (hrS (ua 0) (ua 3) (ua 4) (ua 5) (ua 6) (vac (un 0) (ui 0) (ua 1) (ua 2) (ua 7)) t k)), (4, .int (nI k))]) G dX7_pass_100 rfl (by decide) rfl ?_
              refine j_iload_n G dX7_pass_101 rfl 4 rfl ?_
              refine j_iload G dX7_pass_102 1 rfl ?_
              refine j_aload_n G dX7_pass_104 rfl 2 rfl ?_
              refine gfX7_26 (v := .ref (q 5)) G 0 rfl rfl dX7_pass_105 ?_
              refine j_iload G dX7_pass_108 5 rfl ?_
              refine j_ialdN (j := k) G 5 rfl rfl (by omega) (Nat.le_of_ble_eq_true rfl) dX7_pass_110 ?_
              refine j_imul G dX7_pass_111 ?_
              refine j_iadd G dX7_pass_112 ?_
              refine j_istore_n (lv' := [(3, .int ((hrS (ua 0) (ua 3) (ua 4) (ua 5) (ua 6) (vac (un 0) (ui 0) (ua 1) (ua 2) (ua 7)) t k) + ((hrG (ua 0) (ua 3) (ua 5) (ua 6) (vac (un 0) (ui 0) (ua 1) (ua 2) (ua 7)) t k) * (ua 4 k)))), (2, .int ((hrV (ua 0) (ua 3) (ua 5) (ua 6) (vac (un 0) (ui 0) (ua 1) (ua 2) (ua 7)) t k) + (hrG (ua 0) (ua 3) (ua 5) (ua 6) (vac (un 0) (ui 0) (ua 1) (ua 2) (ua 7)) t k))), (5, .int (hrG (ua 0) (ua 3) (ua 5) (ua 6) (vac (un 0) (ui 0) (ua 1) (ua 2) (ua 7)) t k)), (0, .ref (q 0)), (1, .int t), (4, .int (nI k))]) G dX7_pass_113 rfl (by decide) rfl ?_
              refine j_sub (lv' := [(3, .int ((hrS (ua 0) (ua 3) (ua 4) (ua 5) (ua 6) (vac (un 0) (ui 0) (ua 1) (ua 2) (ua 7)) t k) + ((hrG (ua 0) (ua 3) (ua 5) (ua 6) (vac (un 0) (ui 0) (ua 1) (ua 2) (ua 7)) t k) * (ua 4 k)))), (2, .int ((hrV (ua 0) (ua 3) (ua 5) (ua 6) (vac (un 0) (ui 0) (ua 1) (ua 2) (ua 7)) t k) + (hrG (ua 0) (ua 3) (ua 5) (ua 6) (vac (un 0) (ui 0) (ua 1) (ua 2) (ua 7)) t k))), (0, .ref (q 0)), (1, .int t), (4, .int (nI k))]) [0, 1, 3, 4, 5] rfl ?_
              have g63 := hr_y (kd := ua 0) (rt := ua 3) (sw := ua 4) (sh := ua 5) (ch := ua 6) (vc := vac (un 0) (ui 0) (ua 1) (ua 2) (ua 7)) (t := t) (ho := un 1) (sa := ua 8) c63
              refine j_w (w' := mW cA q un ui ul (up (up ua 6 (hrC (ua 0) (ua 5) (ua 6) t (k + 1))) 8 (hrA (ua 0) (ua 3) (ua 5) (ua 6) (vac (un 0) (ui 0) (ua 1) (ua 2) (ua 7)) t (un 1) (ua 8) (k + 1))) 0) (by rw [g63.2.2.1, g63.2.2.2]) ?_
              refine j_lv (lv' := [(3, .int (hrS (ua 0) (ua 3) (ua 4) (ua 5) (ua 6) (vac (un 0) (ui 0) (ua 1) (ua 2) (ua 7)) t (k + 1))), (2, .int (hrV (ua 0) (ua 3) (ua 5) (ua 6) (vac (un 0) (ui 0) (ua 1) (ua 2) (ua 7)) t (k + 1))), (0, .ref (q 0)), (1, .int t), (4, .int (nI k))]) (by rw [g63.1, g63.2.1]) ?_
              refine j_iinc (v := (nI (k + 1))) (lv' := [(4, .int (nI (k + 1))), (3, .int (hrS (ua 0) (ua 3) (ua 4) (ua 5) (ua 6) (vac (un 0) (ui 0) (ua 1) (ua 2) (ua 7)) t (k + 1))), (2, .int (hrV (ua 0) (ua 3) (ua 5) (ua 6) (vac (un 0) (ui 0) (ua 1) (ua 2) (ua 7)) t (k + 1))), (0, .ref (q 0)), (1, .int t)]) G dX7_pass_114 4 rfl (nI_1 k) (by decide) rfl ?_
              refine j_goto (tgt := 46) G dX7_pass_117 (by decide) ?_
              refine j_sub (lv' := [(0, .ref (q 0)), (1, .int t), (2, .int (hrV (ua 0) (ua 3) (ua 5) (ua 6) (vac (un 0) (ui 0) (ua 1) (ua 2) (ua 7)) t (k + 1))), (3, .int (hrS (ua 0) (ua 3) (ua 4) (ua 5) (ua 6) (vac (un 0) (ui 0) (ua 1) (ua 2) (ua 7)) t (k + 1))), (4, .int (nI (k + 1)))]) [3, 4, 2, 1, 0] rfl ?_
              exact ih46 (k + 1) (by omega) (by omega)
            · refine j_goto (tgt := 114) G dX7_pass_66 (by decide) ?_
              refine j_sub (lv' := [(0, .ref (q 0)), (1, .int t), (2, .int (hrV (ua 0) (ua 3) (ua 5) (ua 6) (vac (un 0) (ui 0) (ua 1) (ua 2) (ua 7)) t k)), (3, .int (hrS (ua 0) (ua 3) (ua 4) (ua 5) (ua 6) (vac (un 0) (ui 0) (ua 1) (ua 2) (ua 7)) t k)), (4, .int (nI k))]) [0, 1, 2, 3, 4] rfl ?_
              have g63 := hr_n (kd := ua 0) (rt := ua 3) (sw := ua 4) (sh := ua 5) (ch := ua 6) (vc := vac (un 0) (ui 0) (ua 1) (ua 2) (ua 7)) (t := t) (ho := un 1) (sa := ua 8) c63
              refine j_w (w' := mW cA q un ui ul (up (up ua 6 (hrC (ua 0) (ua 5) (ua 6) t (k + 1))) 8 (hrA (ua 0) (ua 3) (ua 5) (ua 6) (vac (un 0) (ui 0) (ua 1) (ua 2) (ua 7)) t (un 1) (ua 8) (k + 1))) 0) (by rw [g63.2.2.1, g63.2.2.2]) ?_
              refine j_lv (lv' := [(0, .ref (q 0)), (1, .int t), (2, .int (hrV (ua 0) (ua 3) (ua 5) (ua 6) (vac (un 0) (ui 0) (ua 1) (ua 2) (ua 7)) t (k + 1))), (3, .int (hrS (ua 0) (ua 3) (ua 4) (ua 5) (ua 6) (vac (un 0) (ui 0) (ua 1) (ua 2) (ua 7)) t (k + 1))), (4, .int (nI k))]) (by rw [g63.1, g63.2.1]) ?_
              refine j_iinc (v := (nI (k + 1))) (lv' := [(4, .int (nI (k + 1))), (0, .ref (q 0)), (1, .int t), (2, .int (hrV (ua 0) (ua 3) (ua 5) (ua 6) (vac (un 0) (ui 0) (ua 1) (ua 2) (ua 7)) t (k + 1))), (3, .int (hrS (ua 0) (ua 3) (ua 4) (ua 5) (ua 6) (vac (un 0) (ui 0) (ua 1) (ua 2) (ua 7)) t (k + 1)))]) G dX7_pass_114 4 rfl (nI_1 k) (by decide) rfl ?_
              refine j_goto (tgt := 46) G dX7_pass_117 (by decide) ?_
              refine j_sub (lv' := [(0, .ref (q 0)), (1, .int t), (2, .int (hrV (ua 0) (ua 3) (ua 5) (ua 6) (vac (un 0) (ui 0) (ua 1) (ua 2) (ua 7)) t (k + 1))), (3, .int (hrS (ua 0) (ua 3) (ua 4) (ua 5) (ua 6) (vac (un 0) (ui 0) (ua 1) (ua 2) (ua 7)) t (k + 1))), (4, .int (nI (k + 1)))]) [1, 2, 3, 4, 0] rfl ?_
              exact ih46 (k + 1) (by omega) (by omega)
      refine j_sub (lv' := [(0, .ref (q 0)), (1, .int t), (2, .int (hrV (ua 0) (ua 3) (ua 5) (ua 6) (vac (un 0) (ui 0) (ua 1) (ua 2) (ua 7)) t 0)), (3, .int (hrS (ua 0) (ua 3) (ua 4) (ua 5) (ua 6) (vac (un 0) (ui 0) (ua 1) (ua 2) (ua 7)) t 0)), (4, .int 0)]) [3, 4, 2, 1, 0] rfl ?_
      exact lp46 (un 0 + 1) 0 (Nat.zero_le _) (by omega)
    · refine j_iconst (v := 2) G dX7_pass_26 (by decide) ?_
      refine j_goto (tgt := 31) G dX7_pass_27 (by decide) ?_
      refine jV_i G 7 0 (cM_fails l D cA q un ui ul ua co 2) gX7_71 hd_X7_fails ⟨Nat.le_of_ble_eq_true rfl, Nat.le_of_ble_eq_true rfl⟩ ⟨Nat.le_of_ble_eq_true rfl, Nat.le_of_ble_eq_true rfl⟩ rfl rfl (Nat.le_of_ble_eq_true rfl) rfl rfl dX7_pass_31 (fun r w' hp => ?_)
      obtain ⟨rfl, rfl⟩ := hp
      refine j_rwi (show bI (¬ (2 : Int32) ≤ 0) = 1 from by decide) ?_
      refine j_if_eq (tgt := 39) G dX7_pass_34 (by decide) (fun c34 => absurd c34 (by decide)) (fun _ => ?_)
      refine j_iconst (v := 0) G dX7_pass_37 (by decide) ?_
      exact ret _ _ _ _ dX7_pass_38 rfl (PM_no 2 (by simp [cfPass, c9, c23]) (by decide) rfl)
  · refine j_iconst (v := 1) G dX7_pass_12 (by decide) ?_
    refine j_goto (tgt := 31) G dX7_pass_13 (by decide) ?_
    refine jV_i G 7 0 (cM_fails l D cA q un ui ul ua co 1) gX7_71 hd_X7_fails ⟨Nat.le_of_ble_eq_true rfl, Nat.le_of_ble_eq_true rfl⟩ ⟨Nat.le_of_ble_eq_true rfl, Nat.le_of_ble_eq_true rfl⟩ rfl rfl (Nat.le_of_ble_eq_true rfl) rfl rfl dX7_pass_31 (fun r w' hp => ?_)
    obtain ⟨rfl, rfl⟩ := hp
    refine j_rwi (show bI (¬ (1 : Int32) ≤ 0) = 1 from by decide) ?_
    refine j_if_eq (tgt := 39) G dX7_pass_34 (by decide) (fun c34 => absurd c34 (by decide)) (fun _ => ?_)
    refine j_iconst (v := 0) G dX7_pass_37 (by decide) ?_
    exact ret _ _ _ _ dX7_pass_38 rfl (PM_no 1 (by simp [cfPass, c9]) (by decide) rfl)
