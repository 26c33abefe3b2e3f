/-! THE CLASS: a tap, pouring, an hour of taps (printed by gen_class2.py) -/
set_option maxHeartbeats 4000000 in
set_option maxRecDepth 100000 in
theorem cC_X4_run (l : Launch) (D : va_G) (cA : Nat → ClassId) (w : va_W) (i0 i1 a gv : Nat) (rt sw sh ch tot : Int32) (g : Nat → Int32) (he : w[i0]? = some (a, .inr (4, [.int rt, .int sw, .int sh, .ref gv, .int ch, .int tot]))) (he1 : w[i1]? = some (gv, .inl (cA 0, 200, .inl g))) (h10 : i1 ≠ i0) (hr tm va : Int32) (hin : vp_in hr 200) : Ki l yX4_run cX4_run 5 .int 1 40 0 0 D cA [.ref a, .int hr, .int tm, .int va] w (fun r w' => r = tgV rt sh ch va tm ∧ w' = (w.set i0 (a, .inr (4, [.int rt, .int sw, .int sh, .ref gv, .int (tcV sh ch tm), .int (tot + tgV rt sh ch va tm)]))).set i1 (gv, .inl (cA 0, 200, .inl (upd g hr.toNatClampNeg (tgV rt sh ch va tm))))) := by
  refine ent_i (own := RX4) (lv0 := [(0, .ref a), (1, .int hr), (2, .int tm), (3, .int va)]) (by decide) rfl (Nat.le_of_ble_eq_true rfl) rfl ?_
  intro p e s m args below meth c A Q G hinit ret
  refine j_iconst (v := 0) G dX4_run_0 (by decide) ?_
  refine j_istore (lv' := [(4, .int 0), (0, .ref a), (1, .int hr), (2, .int tm), (3, .int va)]) G dX4_run_1 (by decide) rfl ?_
  refine j_iload_n G dX4_run_3 rfl 3 rfl ?_
  refine j_aload_n G dX4_run_4 rfl 1 rfl ?_
  refine gfX4_18 (v := .int sh) G i0 he rfl dX4_run_5 ?_
  refine j_isub G dX4_run_8 ?_
  refine j_if_ge (tgt := 30) G dX4_run_9 (by decide) (fun c9 => ?_) (fun c9 => ?_)
  · refine j_aload_n G dX4_run_30 rfl 1 rfl ?_
    refine gfX4_25 (v := .int ch) G i0 he rfl dX4_run_31 ?_
    refine j_if_le (tgt := 64) G dX4_run_34 (by decide) (fun c34 => ?_) (fun c34 => ?_)
    · refine j_aload_n G dX4_run_64 rfl 1 rfl ?_
      refine gfX4_9 (v := .int rt) G i0 he rfl dX4_run_65 ?_
      refine j_iload_n G dX4_run_68 rfl 4 rfl ?_
      refine j_imul G dX4_run_69 ?_
      refine j_bipush (v := 100) G dX4_run_70 (by decide) ?_
      refine j_idiv G dX4_run_72 (by decide) ?_
      refine j_istore (lv' := [(4, .int ((rt * va) / 100)), (0, .ref a), (1, .int hr), (2, .int tm), (3, .int va)]) G dX4_run_73 (by decide) rfl ?_
      refine j_aload_n G dX4_run_75 rfl 1 rfl ?_
      refine gfX4_21 (v := .ref gv) G i0 he rfl dX4_run_76 ?_
      refine j_iload_n G dX4_run_79 rfl 2 rfl ?_
      refine j_iload G dX4_run_80 0 rfl ?_
      refine j_iastR (w' := (w).set i1 (gv, .inl (cA 0, 200, .inl (upd g hr.toNatClampNeg ((rt * va) / 100))))) G i1 he1 hin dX4_run_82 rfl ?_
      refine j_aload_n G dX4_run_83 rfl 1 rfl ?_
      refine j_dup G dX4_run_84 rfl ?_
      refine gfX4_34 (v := .int tot) G i0 (set_ne1 h10 he) rfl dX4_run_85 ?_
      refine j_iload G dX4_run_88 0 rfl ?_
      refine j_iadd G dX4_run_90 ?_
      refine j_topi (fun x1 ex1 => ?_)
      refine pfX4_34 (w' := (w.set i0 (a, .inr (4, [.int rt, .int sw, .int sh, .ref gv, .int ch, .int x1]))).set i1 (gv, .inl (cA 0, 200, .inl (upd g hr.toNatClampNeg ((rt * va) / 100))))) G i0 (set_ne1 h10 he) rfl (Nat.le_of_ble_eq_true rfl) dX4_run_91 (set_c1 h10) rfl ?_
      refine j_iload G dX4_run_94 0 rfl ?_
      subst ex1
      exact ret _ _ _ _ dX4_run_96 rfl ⟨(show (rt * va / 100 : Int32) = tgV rt sh ch va tm from by rw [tgV, if_neg (Int32.not_lt.mpr c9), if_neg (Int32.not_lt.mpr c34)]), (by rw [show tgV rt sh ch va tm = rt * va / 100 from by rw [tgV, if_neg (Int32.not_lt.mpr c9), if_neg (Int32.not_lt.mpr c34)], show tcV sh ch tm = ch from by rw [tcV, if_neg (Int32.not_lt.mpr c9), if_neg (Int32.not_lt.mpr c34)]])⟩
    · refine j_aload_n G dX4_run_37 rfl 1 rfl ?_
      refine gfX4_9 (v := .int rt) G i0 he rfl dX4_run_38 ?_
      refine j_bipush (v := 20) G dX4_run_41 (by decide) ?_
      refine j_iload_n G dX4_run_43 rfl 4 rfl ?_
      refine j_iadd G dX4_run_44 ?_
      refine j_imul G dX4_run_45 ?_
      refine j_bipush (v := 20) G dX4_run_46 (by decide) ?_
      refine j_idiv G dX4_run_48 (by decide) ?_
      refine j_istore (lv' := [(4, .int ((rt * (20 + va)) / 20)), (0, .ref a), (1, .int hr), (2, .int tm), (3, .int va)]) G dX4_run_49 (by decide) rfl ?_
      refine j_aload_n G dX4_run_51 rfl 1 rfl ?_
      refine j_dup G dX4_run_52 rfl ?_
      refine gfX4_25 (v := .int ch) G i0 he rfl dX4_run_53 ?_
      refine j_iconst (v := 1) G dX4_run_56 (by decide) ?_
      refine j_isub G dX4_run_57 ?_
      refine j_topi (fun x2 ex2 => ?_)
      refine pfX4_25 (w' := w.set i0 (a, .inr (4, [.int rt, .int sw, .int sh, .ref gv, .int x2, .int tot]))) G i0 he rfl (Nat.le_of_ble_eq_true rfl) dX4_run_58 rfl rfl ?_
      refine j_goto (tgt := 75) G dX4_run_61 (by decide) ?_
      refine j_aload_n G dX4_run_75 rfl 1 rfl ?_
      refine gfX4_21 (v := .ref gv) G i0 (set_at he) rfl dX4_run_76 ?_
      refine j_iload_n G dX4_run_79 rfl 2 rfl ?_
      refine j_iload G dX4_run_80 0 rfl ?_
      refine j_iastR (w' := (w.set i0 (a, .inr (4, [.int rt, .int sw, .int sh, .ref gv, .int x2, .int tot]))).set i1 (gv, .inl (cA 0, 200, .inl (upd g hr.toNatClampNeg ((rt * (20 + va)) / 20))))) G i1 (set_ne1 h10.symm he1) hin dX4_run_82 rfl ?_
      refine j_aload_n G dX4_run_83 rfl 1 rfl ?_
      refine j_dup G dX4_run_84 rfl ?_
      refine gfX4_34 (v := .int tot) G i0 (set_ne1 h10 (set_at he)) rfl dX4_run_85 ?_
      refine j_iload G dX4_run_88 0 rfl ?_
      refine j_iadd G dX4_run_90 ?_
      refine j_topi (fun x3 ex3 => ?_)
      refine pfX4_34 (w' := (w.set i0 (a, .inr (4, [.int rt, .int sw, .int sh, .ref gv, .int x2, .int x3]))).set i1 (gv, .inl (cA 0, 200, .inl (upd g hr.toNatClampNeg ((rt * (20 + va)) / 20))))) G i0 (set_ne1 h10 (set_at he)) rfl (Nat.le_of_ble_eq_true rfl) dX4_run_91 (set_c2 h10) rfl ?_
      refine j_iload G dX4_run_94 0 rfl ?_
      subst ex3 ex2
      exact ret _ _ _ _ dX4_run_96 rfl ⟨(show (rt * (20 + va) / 20 : Int32) = tgV rt sh ch va tm from by rw [tgV, if_neg (Int32.not_lt.mpr c9), if_pos (Int32.not_le.mp c34)]), (by rw [show tgV rt sh ch va tm = rt * (20 + va) / 20 from by rw [tgV, if_neg (Int32.not_lt.mpr c9), if_pos (Int32.not_le.mp c34)], show tcV sh ch tm = ch - 1 from by rw [tcV, if_neg (Int32.not_lt.mpr c9), if_pos (Int32.not_le.mp c34)]])⟩
  · refine j_aload_n G dX4_run_12 rfl 1 rfl ?_
    refine j_bipush (v := 9) G dX4_run_13 (by decide) ?_
    refine j_aload_n G dX4_run_15 rfl 1 rfl ?_
    refine gfX4_25 (v := .int ch) G i0 he rfl dX4_run_16 ?_
    refine j_iconst (v := 1) G dX4_run_19 (by decide) ?_
    refine j_iadd G dX4_run_20 ?_
    refine j_min G wd_650 ⟨Nat.le_of_ble_eq_true rfl, Nat.le_of_ble_eq_true rfl, Nat.le_of_ble_eq_true rfl, Nat.le_of_ble_eq_true rfl⟩ dX4_run_21 ?_
    refine j_topi (fun x4 ex4 => ?_)
    refine pfX4_25 (w' := w.set i0 (a, .inr (4, [.int rt, .int sw, .int sh, .ref gv, .int x4, .int tot]))) G i0 he rfl (Nat.le_of_ble_eq_true rfl) dX4_run_24 rfl rfl ?_
    refine j_goto (tgt := 75) G dX4_run_27 (by decide) ?_
    refine j_aload_n G dX4_run_75 rfl 1 rfl ?_
    refine gfX4_21 (v := .ref gv) G i0 (set_at he) rfl dX4_run_76 ?_
    refine j_iload_n G dX4_run_79 rfl 2 rfl ?_
    refine j_iload G dX4_run_80 0 rfl ?_
    refine j_iastR (w' := (w.set i0 (a, .inr (4, [.int rt, .int sw, .int sh, .ref gv, .int x4, .int tot]))).set i1 (gv, .inl (cA 0, 200, .inl (upd g hr.toNatClampNeg 0)))) G i1 (set_ne1 h10.symm he1) hin dX4_run_82 rfl ?_
    refine j_aload_n G dX4_run_83 rfl 1 rfl ?_
    refine j_dup G dX4_run_84 rfl ?_
    refine gfX4_34 (v := .int tot) G i0 (set_ne1 h10 (set_at he)) rfl dX4_run_85 ?_
    refine j_iload G dX4_run_88 0 rfl ?_
    refine j_iadd G dX4_run_90 ?_
    refine j_topi (fun x5 ex5 => ?_)
    refine pfX4_34 (w' := (w.set i0 (a, .inr (4, [.int rt, .int sw, .int sh, .ref gv, .int x4, .int x5]))).set i1 (gv, .inl (cA 0, 200, .inl (upd g hr.toNatClampNeg 0)))) G i0 (set_ne1 h10 (set_at he)) rfl (Nat.le_of_ble_eq_true rfl) dX4_run_91 (set_c2 h10) rfl ?_
    refine j_iload G dX4_run_94 0 rfl ?_
    subst ex5 ex4
    exact ret _ _ _ _ dX4_run_96 rfl ⟨(show (0 : Int32) = tgV rt sh ch va tm from by rw [tgV, if_pos (Int32.not_le.mp c9)]), (by rw [show tgV rt sh ch va tm = 0 from by rw [tgV, if_pos (Int32.not_le.mp c9)], show tcV sh ch tm = if ch + 1 < 9 then ch + 1 else 9 from by rw [tcV, if_pos (Int32.not_le.mp c9)]])⟩
set_option maxHeartbeats 4000000 in
set_option maxRecDepth 100000 in
theorem cC_X6_pour (l : Launch) (D : va_G) (cA : Nat → ClassId) (q : Nat → Nat) (un : Nat → Nat) (ui : Nat → Int32) (ul : Nat → Int64) (ua : Nat → Nat → Int32) (vc ex wo tp : Nat → Int32) (tf kf : Nat → Option Nat) (L : List Nat) (f : Nat → va_E) (kd : Nat → Int32) (rt : Nat → Int32) (sw : Nat → Int32) (sh : Nat → Int32) (ch : Nat → Int32) (sa : Nat → Int32) (tt : Nat → Int32) (ta : Nat → Nat) (ga : Nat → Nat) (ka : Nat → Nat) (v : Int32) (z : Int32) (ht4 : un 2 ≤ 4) (hPG : PLg cA kd rt sw sh ch sa tt (un 2) (ua 9) (ua 10) (ua 11) L f tf kf ta ga ka) (hls : LSv v z) (htk : ∀ t, t < un 2 → TK (ua 9 t) (ua 10 t) (ua 11 t)) : Kv l yX6_pour cX6_pour 9 1 40 0 0 D cA [.ref (q 0), .int v, .int z] (cF cA q un ui ul ua vc ex wo tp tf kf ++ va_pl L f) (fun w' => ∃ f9, PLg cA kd rt sw sh ch sa tt (un 2) (ua 9) (prN (ua 9) (v, z, ua 10, ua 11) (un 2)).2.2.1 (prN (ua 9) (v, z, ua 10, ua 11) (un 2)).2.2.2 L f9 tf kf ta ga ka ∧ w' = cF cA q un ui (up (up ul 3 (ul 3 + (prN (ua 9) (v, z, ua 10, ua 11) (un 2)).1.toInt64)) 4 (ul 4 + (prN (ua 9) (v, z, ua 10, ua 11) (un 2)).2.1.toInt64)) ua vc ex wo tp tf kf ++ va_pl L f9) := by
  refine ent_v (own := RX6) (lv0 := [(0, .ref (q 0)), (1, .int v), (2, .int z)]) (by decide) rfl (Nat.le_of_ble_eq_true rfl) rfl ?_
  intro p e s m args below meth c A Q G hinit ret
  refine j_iload_n G dX6_pour_0 rfl 1 rfl ?_
  refine j_istore_n (lv' := [(3, .int v), (0, .ref (q 0)), (1, .int v), (2, .int z)]) G dX6_pour_1 rfl (by decide) rfl ?_
  refine j_iload_n G dX6_pour_2 rfl 3 rfl ?_
  refine j_istore (lv' := [(4, .int z), (3, .int v), (0, .ref (q 0)), (1, .int v), (2, .int z)]) G dX6_pour_3 (by decide) rfl ?_
  refine j_iconst (v := 0) G dX6_pour_5 (by decide) ?_
  refine j_istore (lv' := [(5, .int 0), (4, .int z), (3, .int v), (0, .ref (q 0)), (1, .int v), (2, .int z)]) G dX6_pour_6 (by decide) rfl ?_
  have lp8 : ∀ (fu8 : Nat) (t : Nat) (lf : Int32) (sg : Int32) (vo : Nat → Int32) (su : Nat → Int32) (f' : Nat → va_E), (t ≤ 4) → (4 < t + fu8) → (prN (ua 9) (v, z, ua 10, ua 11) (min t (un 2)) = (lf, sg, vo, su)) → (LSv lf sg) → (PLg cA kd rt sw sh ch sa tt (un 2) (ua 9) vo su L f' tf kf ta ga ka) → (∀ j, t ≤ j → j < un 2 → vo j = ua 10 j ∧ su j = ua 11 j) → J p l e (RM 1 40 0 0) s m args below meth c 9 D A (cF cA q un ui ul ua vc ex wo tp tf kf ++ va_pl L f') 0 0 Q 8 [(0, .ref (q 0)), (1, .int v), (2, .int z), (3, .int lf), (4, .int sg), (5, .int (nI t))] [] := by
    intro fu8
    induction fu8 with
    | zero => intro t lf sg vo su f' h1 h2 h3 h4 h5 h6; exact absurd h2 (by omega)
    | succ fu8 ih8 =>
      intro t lf sg vo su f' h1 h2 h3 h4 h5 h6
      refine j_iload G dX6_pour_8 5 rfl ?_
      refine j_aload_n G dX6_pour_10 rfl 0 rfl ?_
      refine gfX6_24 (v := .ref (q 8)) G 0 rfl rfl dX6_pour_11 ?_
      refine j_alen (v := 4) G 8 3 rfl rfl rfl dX6_pour_14 ?_
      refine j_icmp_ge (tgt := 80) G dX6_pour_15 (by decide) (fun c15 => ?_) (fun c15 => ?_)
      · have g15 : t = 4 := Nat.le_antisymm h1 ((nI_leI (by omega) (by omega)).mp (show nI 4 ≤ nI t from c15))
        refine j_aload_n G dX6_pour_80 rfl 0 rfl ?_
        refine gfX6_48 (v := .ref (q 14)) G 0 rfl rfl dX6_pour_81 ?_
        refine j_iload_n G dX6_pour_84 rfl 3 rfl ?_
        refine j_iload G dX6_pour_85 4 rfl ?_
        refine jV_v G 0 14 (cC_X0_addLoss l D cA q un ui ul ua vc ex wo tp tf kf L f' lf sg) gX6_190 hd_X0_addLoss ⟨Nat.le_of_ble_eq_true rfl, Nat.le_of_ble_eq_true rfl⟩ ⟨Nat.le_of_ble_eq_true rfl, Nat.le_of_ble_eq_true rfl⟩ rfl rfl (Nat.le_of_ble_eq_true rfl) rfl rfl dX6_pour_87 (fun w' hq9 => ?_)
        obtain rfl := hq9.symm
        refine j_w (w' := cF cA q un ui (up (up ul 3 (ul 3 + lf.toInt64)) 4 (ul 4 + sg.toInt64)) ua vc ex wo tp tf kf ++ va_pl L f') rfl ?_
        have h39 : prN (ua 9) (v, z, ua 10, ua 11) (un 2) = (lf, sg, vo, su) := by rw [show min t (un 2) = un 2 by omega] at h3; exact h3
        exact ret _ _ _ dX6_pour_90 ⟨f', by rw [h39]; exact h5, by rw [h39]⟩
      · have g15 : t < 4 := (Nat.lt_or_ge t 4).resolve_right (fun h => absurd (show nI 4 ≤ nI t from (nI_leI (by omega) (by omega)).mpr h) c15)
        refine j_aload_n G dX6_pour_18 rfl 0 rfl ?_
        refine gfX6_24 (v := .ref (q 8)) G 0 rfl rfl dX6_pour_19 ?_
        refine j_iload G dX6_pour_22 5 rfl ?_
        refine j_aldR G 8 3 rfl rfl (vp_in_nI g15 (by decide)) dX6_pour_24 (fun r24 => ?_) (fun b24 r24 => ?_)
        · rw [nI_clamp (by omega)] at r24
          have u24 : ¬ t < un 2 := by intro z9; rw [h5.2.2.2.2.1 t g15, if_pos z9] at r24; exact absurd r24 (by simp)
          refine j_astoreN (lv' := [(6, .null), (0, .ref (q 0)), (1, .int v), (2, .int z), (3, .int lf), (4, .int sg), (5, .int (nI t))]) G dX6_pour_25 (by decide) rfl ?_
          refine j_aloadN G dX6_pour_27 0 rfl ?_
          refine j_ifnull_n (tgt := 74) G dX6_pour_29 (by decide) ?_
          refine j_iinc (v := (nI (t + 1))) (lv' := [(5, .int (nI (t + 1))), (6, .null), (0, .ref (q 0)), (1, .int v), (2, .int z), (3, .int lf), (4, .int sg)]) G dX6_pour_74 6 rfl (nI_1 t) (by decide) rfl ?_
          refine j_goto (tgt := 8) G dX6_pour_77 (by decide) ?_
          refine j_sub (lv' := [(0, .ref (q 0)), (1, .int v), (2, .int z), (3, .int lf), (4, .int sg), (5, .int (nI (t + 1)))]) [2, 3, 4, 5, 6, 0] rfl ?_
          exact ih8 (t + 1) lf sg vo su f' (by omega) (by omega) (by rw [show min (t + 1) (un 2) = min t (un 2) by omega]; exact h3) h4 h5 (fun j hj hj2 => h6 j (by omega) hj2)
        · rw [nI_clamp (by omega)] at r24
          have u24 : t < un 2 := by refine Decidable.byContradiction fun z9 => ?_; rw [h5.2.2.2.2.1 t g15, if_neg z9] at r24; exact absurd r24 (by simp)
          have e24 : b24 = ka t := by rw [h5.2.2.2.2.1 t g15, if_pos u24] at r24; exact (Option.some.inj r24).symm
          subst e24
          have P9 := pr_step (cp := ua 9) (vo := vo) (su := su) (t := t) h4 (by rw [(h6 t (Nat.le_refl t) u24).1, (h6 t (Nat.le_refl t) u24).2]; exact htk t u24)
          have P5 := h5.tank u24 (vo t + mn lf (ua 9 t - vo t)) (su t + shrV sg (mn lf (ua 9 t - vo t)) lf)
          refine j_astore (lv' := [(6, .ref (ka t)), (0, .ref (q 0)), (1, .int v), (2, .int z), (3, .int lf), (4, .int sg), (5, .int (nI t))]) G dX6_pour_25 (by decide) rfl ?_
          refine j_aload G dX6_pour_27 0 rfl ?_
          refine j_ifnull_r G dX6_pour_29 ?_
          refine j_iload_n G dX6_pour_32 rfl 4 rfl ?_
          refine j_aload G dX6_pour_33 0 rfl ?_
          obtain ⟨ix1, hix1⟩ := va_pl_get (X := cF cA q un ui ul ua vc ex wo tp tf kf) (f := f') (h5.2.2.2.2.2.1 t u24).1
          refine j_hD (fun hDix1 => ?_)
          refine jV_i G 3 ix1 (cC_X3_room l D cA (cF cA q un ui ul ua vc ex wo tp tf kf ++ va_pl L f') ix1 (ka t) (ua 9 t) (vo t) (su t) (by rw [hix1, (h5.2.2.2.2.2.1 t u24).2]) ) gX6_345 hd_X3_room ⟨Nat.le_of_ble_eq_true rfl, Nat.le_of_ble_eq_true rfl⟩ ⟨Nat.le_of_ble_eq_true rfl, Nat.le_of_ble_eq_true rfl⟩ rfl rfl (Nat.le_of_ble_eq_true rfl) rfl (by rw [hix1, (h5.2.2.2.2.2.1 t u24).2]) dX6_pour_35 (fun r w' hq9 => ?_)
          obtain ⟨hr9, hw9⟩ := hq9
          obtain rfl := hr9.symm
          obtain rfl := hw9.symm
          refine j_min G wd_665 ⟨Nat.le_of_ble_eq_true rfl, Nat.le_of_ble_eq_true rfl, Nat.le_of_ble_eq_true rfl, Nat.le_of_ble_eq_true rfl⟩ dX6_pour_38 ?_
          refine j_rwi (mn_gt _ _) ?_
          refine j_istore (lv' := [(7, .int (mn lf (ua 9 t - vo t))), (6, .ref (ka t)), (0, .ref (q 0)), (1, .int v), (2, .int z), (3, .int lf), (4, .int sg), (5, .int (nI t))]) G dX6_pour_41 (by decide) rfl ?_
          refine j_iload G dX6_pour_43 6 rfl ?_
          refine j_iload G dX6_pour_45 0 rfl ?_
          refine j_iload_n G dX6_pour_47 rfl 5 rfl ?_
          refine jS_i G (cC_X6_shareOfSugar l D cA (cF cA q un ui ul ua vc ex wo tp tf kf ++ va_pl L f') sg (mn lf (ua 9 t - vo t)) lf) gX6_203 hd_X6_shareOfSugar.2 ⟨Nat.le_of_ble_eq_true rfl, Nat.le_of_ble_eq_true rfl⟩ ⟨Nat.le_of_ble_eq_true rfl, Nat.le_of_ble_eq_true rfl⟩ rfl rfl (Nat.le_of_ble_eq_true rfl) dX6_pour_48 (fun r w' hq9 => ?_)
          obtain ⟨hr9, hw9⟩ := hq9
          obtain rfl := hr9.symm
          obtain rfl := hw9.symm
          refine j_istore (lv' := [(8, .int (shrV sg (mn lf (ua 9 t - vo t)) lf)), (7, .int (mn lf (ua 9 t - vo t))), (6, .ref (ka t)), (0, .ref (q 0)), (1, .int v), (2, .int z), (3, .int lf), (4, .int sg), (5, .int (nI t))]) G dX6_pour_51 (by decide) rfl ?_
          refine j_aload G dX6_pour_53 2 rfl ?_
          refine j_iload G dX6_pour_55 1 rfl ?_
          refine j_iload G dX6_pour_57 0 rfl ?_
          obtain ⟨ix2, hix2⟩ := va_pl_get (X := cF cA q un ui ul ua vc ex wo tp tf kf) (f := f') (h5.2.2.2.2.2.1 t u24).1
          refine j_hD (fun hDix2 => ?_)
          refine jV_v G 3 ix2 (cC_X3_putIn l D cA (cF cA q un ui ul ua vc ex wo tp tf kf ++ va_pl L f') ix2 (ka t) (ua 9 t) (vo t) (su t) (by rw [hix2, (h5.2.2.2.2.2.1 t u24).2]) (mn lf (ua 9 t - vo t)) (shrV sg (mn lf (ua 9 t - vo t)) lf)) gX6_353 hd_X3_putIn ⟨Nat.le_of_ble_eq_true rfl, Nat.le_of_ble_eq_true rfl⟩ ⟨Nat.le_of_ble_eq_true rfl, Nat.le_of_ble_eq_true rfl⟩ rfl rfl (Nat.le_of_ble_eq_true rfl) rfl (by rw [hix2, (h5.2.2.2.2.2.1 t u24).2]) dX6_pour_59 (fun w' hq9 => ?_)
          obtain rfl := hq9.symm
          refine j_w (w' := cF cA q un ui ul ua vc ex wo tp tf kf ++ va_pl L (va_up f' (ka t) (.inr (3, [.int ((ua 9 t)), .int ((vo t) + (mn lf (ua 9 t - vo t))), .int ((su t) + (shrV sg (mn lf (ua 9 t - vo t)) lf))])))) (va_pl_set hDix2 (h5.2.2.2.2.2.1 t u24).1 hix2) ?_
          refine j_iload_n G dX6_pour_62 rfl 6 rfl ?_
          refine j_iload G dX6_pour_63 1 rfl ?_
          refine j_isub G dX6_pour_65 ?_
          refine j_istore_n (lv' := [(3, .int (lf - (mn lf (ua 9 t - vo t)))), (8, .int (shrV sg (mn lf (ua 9 t - vo t)) lf)), (7, .int (mn lf (ua 9 t - vo t))), (6, .ref (ka t)), (0, .ref (q 0)), (1, .int v), (2, .int z), (4, .int sg), (5, .int (nI t))]) G dX6_pour_66 rfl (by decide) rfl ?_
          refine j_iload G dX6_pour_67 7 rfl ?_
          refine j_iload G dX6_pour_69 1 rfl ?_
          refine j_isub G dX6_pour_71 ?_
          refine j_istore (lv' := [(4, .int (sg - (shrV sg (mn lf (ua 9 t - vo t)) lf))), (3, .int (lf - (mn lf (ua 9 t - vo t)))), (8, .int (shrV sg (mn lf (ua 9 t - vo t)) lf)), (7, .int (mn lf (ua 9 t - vo t))), (6, .ref (ka t)), (0, .ref (q 0)), (1, .int v), (2, .int z), (5, .int (nI t))]) G dX6_pour_72 (by decide) rfl ?_
          refine j_iinc (v := (nI (t + 1))) (lv' := [(5, .int (nI (t + 1))), (4, .int (sg - (shrV sg (mn lf (ua 9 t - vo t)) lf))), (3, .int (lf - (mn lf (ua 9 t - vo t)))), (8, .int (shrV sg (mn lf (ua 9 t - vo t)) lf)), (7, .int (mn lf (ua 9 t - vo t))), (6, .ref (ka t)), (0, .ref (q 0)), (1, .int v), (2, .int z)]) G dX6_pour_74 8 rfl (nI_1 t) (by decide) rfl ?_
          refine j_goto (tgt := 8) G dX6_pour_77 (by decide) ?_
          refine j_sub (lv' := [(0, .ref (q 0)), (1, .int v), (2, .int z), (3, .int (lf - (mn lf (ua 9 t - vo t)))), (4, .int (sg - (shrV sg (mn lf (ua 9 t - vo t)) lf))), (5, .int (nI (t + 1)))]) [6, 7, 8, 2, 1, 0] rfl ?_
          refine ih8 (t + 1) (lf - (mn lf (ua 9 t - vo t))) (sg - (shrV sg (mn lf (ua 9 t - vo t)) lf)) (upd vo t (vo t + mn lf (ua 9 t - vo t))) (upd su t (su t + shrV sg (mn lf (ua 9 t - vo t)) lf)) (va_up f' (ka t) (.inr (3, [.int ((ua 9 t)), .int ((vo t) + (mn lf (ua 9 t - vo t))), .int ((su t) + (shrV sg (mn lf (ua 9 t - vo t)) lf))]))) (by omega) (by omega) ?_ P9.2.1 P5 (fun j hj hj2 => by rw [pk_un (by omega), pk_un (by omega)]; exact h6 j (by omega) hj2)
          rw [show min (t + 1) (un 2) = min t (un 2) + 1 by omega, show prN (ua 9) (v, z, ua 10, ua 11) (min t (un 2) + 1) = prS (ua 9) (min t (un 2)) (prN (ua 9) (v, z, ua 10, ua 11) (min t (un 2))) from rfl, h3, show min t (un 2) = t by omega]; exact P9.1
  refine j_sub (lv' := [(0, .ref (q 0)), (1, .int v), (2, .int z), (3, .int v), (4, .int z), (5, .int 0)]) [3, 4, 5, 2, 1, 0] rfl ?_
  exact lp8 (5) 0 v z (ua 10) (ua 11) f (Nat.zero_le _) (by omega) (by rw [Nat.zero_min]; rfl) hls hPG (fun j _ _ => ⟨rfl, rfl⟩)
set_option maxHeartbeats 4000000 in
set_option maxRecDepth 100000 in
theorem cC_X6_runTaps (l : Launch) (D : va_G) (cA : Nat → ClassId) (q : Nat → Nat) (un : Nat → Nat) (ui : Nat → Int32) (ul : Nat → Int64) (ua : Nat → Nat → Int32) (vc ex wo tp : Nat → Int32) (tf kf : Nat → Option Nat) (L : List Nat) (f : Nat → va_E) (ta : Nat → Nat) (ga : Nat → Nat) (ka : Nat → Nat) (t : Int32) (hI : INV un ui ua) (hPL : PL cA un ua L f tf kf ta ga ka) (hh9 : un 1 < 200) (ht : RG (-30) 30 t) : Ki l yX6_runTaps cX6_runTaps 7 .int 3 84 0 0 D cA [.ref (q 0), .int t] (cF cA q un ui ul ua vc ex wo tp tf kf ++ va_pl L f) (fun r w' => ∃ f9, PLg cA (ua 0) (ua 3) (ua 4) (ua 5) (hrC (ua 0) (ua 5) (ua 6) t (un 0)) (hrA (ua 0) (ua 3) (ua 5) (ua 6) (vac (un 0) (ui 0) (ua 1) (ua 2) (ua 7)) t (un 1) (ua 8) (un 0)) (hrT (ua 0) (ua 3) (ua 5) (ua 6) (vac (un 0) (ui 0) (ua 1) (ua 2) (ua 7)) t (fun j => totS (ua 8) j (un 1)) (un 0)) (un 2) (ua 9) (prN (ua 9) ((hrV (ua 0) (ua 3) (ua 5) (ua 6) (vac (un 0) (ui 0) (ua 1) (ua 2) (ua 7)) t (un 0)), (hrS (ua 0) (ua 3) (ua 4) (ua 5) (ua 6) (vac (un 0) (ui 0) (ua 1) (ua 2) (ua 7)) t (un 0)), ua 10, ua 11) (un 2)).2.2.1 (prN (ua 9) ((hrV (ua 0) (ua 3) (ua 5) (ua 6) (vac (un 0) (ui 0) (ua 1) (ua 2) (ua 7)) t (un 0)), (hrS (ua 0) (ua 3) (ua 4) (ua 5) (ua 6) (vac (un 0) (ui 0) (ua 1) (ua 2) (ua 7)) t (un 0)), ua 10, ua 11) (un 2)).2.2.2 L f9 tf kf ta ga ka ∧ r = hrV (ua 0) (ua 3) (ua 5) (ua 6) (vac (un 0) (ui 0) (ua 1) (ua 2) (ua 7)) t (un 0) ∧ w' = cF cA q un ui (up (up (up (up ul 0 (ul 0 + (hrV (ua 0) (ua 3) (ua 5) (ua 6) (vac (un 0) (ui 0) (ua 1) (ua 2) (ua 7)) t (un 0)).toInt64)) 1 (ul 1 + (hrS (ua 0) (ua 3) (ua 4) (ua 5) (ua 6) (vac (un 0) (ui 0) (ua 1) (ua 2) (ua 7)) t (un 0)).toInt64)) 3 (ul 3 + (prN (ua 9) ((hrV (ua 0) (ua 3) (ua 5) (ua 6) (vac (un 0) (ui 0) (ua 1) (ua 2) (ua 7)) t (un 0)), (hrS (ua 0) (ua 3) (ua 4) (ua 5) (ua 6) (vac (un 0) (ui 0) (ua 1) (ua 2) (ua 7)) t (un 0)), ua 10, ua 11) (un 2)).1.toInt64)) 4 (ul 4 + (prN (ua 9) ((hrV (ua 0) (ua 3) (ua 5) (ua 6) (vac (un 0) (ui 0) (ua 1) (ua 2) (ua 7)) t (un 0)), (hrS (ua 0) (ua 3) (ua 4) (ua 5) (ua 6) (vac (un 0) (ui 0) (ua 1) (ua 2) (ua 7)) t (un 0)), ua 10, ua 11) (un 2)).2.1.toInt64)) ua (swV (vac (un 0) (ui 0) (ua 1) (ua 2) (ua 7)) vc (un 0)) (swV (expV (ui 0) (ua 1) (ua 2)) ex (un 0)) wo tp tf kf ++ va_pl L f9) := by
  refine ent_i (own := RX6) (lv0 := [(0, .ref (q 0)), (1, .int t)]) (by decide) rfl (Nat.le_of_ble_eq_true rfl) rfl ?_
  intro p e s m args below meth c A Q G hinit ret
  have hn := hI.1.2.1
  have hn1 := hI.1.1
  have hp := hI.2.1
  have ht4 := hI.1.2.2.2.1
  refine j_aload_n G dX6_runTaps_0 rfl 0 rfl ?_
  refine gfX6_10 (v := .ref (q 1)) G 0 rfl rfl dX6_runTaps_1 ?_
  refine jV_v G 5 1 (cC_X5_sweep l D cA q un ui ul ua vc ex wo tp tf kf L f hn hn1 hp) gX6_111 hd_X5_sweep ⟨Nat.le_of_ble_eq_true rfl, Nat.le_of_ble_eq_true rfl⟩ ⟨Nat.le_of_ble_eq_true rfl, Nat.le_of_ble_eq_true rfl⟩ rfl rfl (Nat.le_of_ble_eq_true rfl) rfl rfl dX6_runTaps_4 (fun w' hq9 => ?_)
  obtain rfl := hq9.symm
  refine j_w (w' := cF cA q un ui ul ua (swV (vac (un 0) (ui 0) (ua 1) (ua 2) (ua 7)) vc (un 0)) (swV (expV (ui 0) (ua 1) (ua 2)) ex (un 0)) wo tp tf kf ++ va_pl L f) rfl ?_
  refine j_iconst (v := 0) G dX6_runTaps_7 (by decide) ?_
  refine j_rwi (hrV_0 (ua 0) (ua 3) (ua 5) (ua 6) (vac (un 0) (ui 0) (ua 1) (ua 2) (ua 7)) t) ?_
  refine j_istore_n (lv' := [(2, .int (hrV (ua 0) (ua 3) (ua 5) (ua 6) (vac (un 0) (ui 0) (ua 1) (ua 2) (ua 7)) t 0)), (0, .ref (q 0)), (1, .int t)]) G dX6_runTaps_8 rfl (by decide) rfl ?_
  refine j_iconst (v := 0) G dX6_runTaps_9 (by decide) ?_
  refine j_rwi (hrS_0 (ua 0) (ua 3) (ua 4) (ua 5) (ua 6) (vac (un 0) (ui 0) (ua 1) (ua 2) (ua 7)) t) ?_
  refine j_istore_n (lv' := [(3, .int (hrS (ua 0) (ua 3) (ua 4) (ua 5) (ua 6) (vac (un 0) (ui 0) (ua 1) (ua 2) (ua 7)) t 0)), (2, .int (hrV (ua 0) (ua 3) (ua 5) (ua 6) (vac (un 0) (ui 0) (ua 1) (ua 2) (ua 7)) t 0)), (0, .ref (q 0)), (1, .int t)]) G dX6_runTaps_10 rfl (by decide) rfl ?_
  refine j_iconst (v := 0) G dX6_runTaps_11 (by decide) ?_
  refine j_istore (lv' := [(4, .int 0), (3, .int (hrS (ua 0) (ua 3) (ua 4) (ua 5) (ua 6) (vac (un 0) (ui 0) (ua 1) (ua 2) (ua 7)) t 0)), (2, .int (hrV (ua 0) (ua 3) (ua 5) (ua 6) (vac (un 0) (ui 0) (ua 1) (ua 2) (ua 7)) t 0)), (0, .ref (q 0)), (1, .int t)]) G dX6_runTaps_12 (by decide) rfl ?_
  have lp14 : ∀ (fu14 : Nat) (k : Nat) (f' : Nat → va_E), (k ≤ un 0) → (un 0 < k + fu14) → (PLg cA (ua 0) (ua 3) (ua 4) (ua 5) (hrC (ua 0) (ua 5) (ua 6) t k) (hrA (ua 0) (ua 3) (ua 5) (ua 6) (vac (un 0) (ui 0) (ua 1) (ua 2) (ua 7)) t (un 1) (ua 8) k) (hrT (ua 0) (ua 3) (ua 5) (ua 6) (vac (un 0) (ui 0) (ua 1) (ua 2) (ua 7)) t (fun j => totS (ua 8) j (un 1)) k) (un 2) (ua 9) (ua 10) (ua 11) L f' tf kf ta ga ka) → J p l e (RM 3 84 0 0) s m args below meth c 7 D A (cF cA q un ui ul ua (swV (vac (un 0) (ui 0) (ua 1) (ua 2) (ua 7)) vc (un 0)) (swV (expV (ui 0) (ua 1) (ua 2)) ex (un 0)) wo tp tf kf ++ va_pl L f') 0 0 Q 14 [(0, .ref (q 0)), (1, .int t), (2, .int (hrV (ua 0) (ua 3) (ua 5) (ua 6) (vac (un 0) (ui 0) (ua 1) (ua 2) (ua 7)) t k)), (3, .int (hrS (ua 0) (ua 3) (ua 4) (ua 5) (ua 6) (vac (un 0) (ui 0) (ua 1) (ua 2) (ua 7)) t k)), (4, .int (nI k))] [] := by
    intro fu14
    induction fu14 with
    | zero => intro k f' h1 h2 h3; exact absurd h2 (by omega)
    | succ fu14 ih14 =>
      intro k f' h1 h2 h3
      refine j_iload G dX6_runTaps_14 4 rfl ?_
      refine j_aload_n G dX6_runTaps_16 rfl 0 rfl ?_
      refine gfX6_10 (v := .ref (q 1)) G 0 rfl rfl dX6_runTaps_17 ?_
      refine jV_i G 5 1 (cC_X5_size l D cA q un ui ul ua (swV (vac (un 0) (ui 0) (ua 1) (ua 2) (ua 7)) vc (un 0)) (swV (expV (ui 0) (ua 1) (ua 2)) ex (un 0)) wo tp tf kf L f' ) gX6_103 hd_X5_size ⟨Nat.le_of_ble_eq_true rfl, Nat.le_of_ble_eq_true rfl⟩ ⟨Nat.le_of_ble_eq_true rfl, Nat.le_of_ble_eq_true rfl⟩ rfl rfl (Nat.le_of_ble_eq_true rfl) rfl rfl dX6_runTaps_20 (fun r w' hq9 => ?_)
      obtain ⟨hr9, hw9⟩ := hq9
      obtain rfl := hr9.symm
      obtain rfl := hw9.symm
      refine j_icmp_ge (tgt := 84) G dX6_runTaps_23 (by decide) (fun c23 => ?_) (fun c23 => ?_)
      · have g23 : k = un 0 := Nat.le_antisymm h1 ((nI_leI (by omega) (by omega)).mp c23)
        subst g23
        refine j_aload_n G dX6_runTaps_84 rfl 0 rfl ?_
        refine gfX6_48 (v := .ref (q 14)) G 0 rfl rfl dX6_runTaps_85 ?_
        refine j_iload_n G dX6_runTaps_88 rfl 2 rfl ?_
        refine j_iload_n G dX6_runTaps_89 rfl 3 rfl ?_
        refine jV_v G 0 14 (cC_X0_addSap l D cA q un ui ul ua (swV (vac (un 0) (ui 0) (ua 1) (ua 2) (ua 7)) vc (un 0)) (swV (expV (ui 0) (ua 1) (ua 2)) ex (un 0)) wo tp tf kf L f' (hrV (ua 0) (ua 3) (ua 5) (ua 6) (vac (un 0) (ui 0) (ua 1) (ua 2) (ua 7)) t (un 0)) (hrS (ua 0) (ua 3) (ua 4) (ua 5) (ua 6) (vac (un 0) (ui 0) (ua 1) (ua 2) (ua 7)) t (un 0))) gX6_339 hd_X0_addSap ⟨Nat.le_of_ble_eq_true rfl, Nat.le_of_ble_eq_true rfl⟩ ⟨Nat.le_of_ble_eq_true rfl, Nat.le_of_ble_eq_true rfl⟩ rfl rfl (Nat.le_of_ble_eq_true rfl) rfl rfl dX6_runTaps_90 (fun w' hq9 => ?_)
        obtain rfl := hq9.symm
        refine j_w (w' := cF cA q un ui (up (up ul 0 (ul 0 + (hrV (ua 0) (ua 3) (ua 5) (ua 6) (vac (un 0) (ui 0) (ua 1) (ua 2) (ua 7)) t (un 0)).toInt64)) 1 (ul 1 + (hrS (ua 0) (ua 3) (ua 4) (ua 5) (ua 6) (vac (un 0) (ui 0) (ua 1) (ua 2) (ua 7)) t (un 0)).toInt64)) ua (swV (vac (un 0) (ui 0) (ua 1) (ua 2) (ua 7)) vc (un 0)) (swV (expV (ui 0) (ua 1) (ua 2)) ex (un 0)) wo tp tf kf ++ va_pl L f') rfl ?_
        refine j_aload_n G dX6_runTaps_93 rfl 0 rfl ?_
        refine j_iload_n G dX6_runTaps_94 rfl 2 rfl ?_
        refine j_iload_n G dX6_runTaps_95 rfl 3 rfl ?_
        refine jV_v G 6 0 (cC_X6_pour l D cA q un ui (up (up ul 0 (ul 0 + (hrV (ua 0) (ua 3) (ua 5) (ua 6) (vac (un 0) (ui 0) (ua 1) (ua 2) (ua 7)) t (un 0)).toInt64)) 1 (ul 1 + (hrS (ua 0) (ua 3) (ua 4) (ua 5) (ua 6) (vac (un 0) (ui 0) (ua 1) (ua 2) (ua 7)) t (un 0)).toInt64)) ua (swV (vac (un 0) (ui 0) (ua 1) (ua 2) (ua 7)) vc (un 0)) (swV (expV (ui 0) (ua 1) (ua 2)) ex (un 0)) wo tp tf kf L f' (ua 0) (ua 3) (ua 4) (ua 5) (hrC (ua 0) (ua 5) (ua 6) t (un 0)) (hrA (ua 0) (ua 3) (ua 5) (ua 6) (vac (un 0) (ui 0) (ua 1) (ua 2) (ua 7)) t (un 1) (ua 8) (un 0)) (hrT (ua 0) (ua 3) (ua 5) (ua 6) (vac (un 0) (ui 0) (ua 1) (ua 2) (ua 7)) t (fun j => totS (ua 8) j (un 1)) (un 0)) ta ga ka (hrV (ua 0) (ua 3) (ua 5) (ua 6) (vac (un 0) (ui 0) (ua 1) (ua 2) (ua 7)) t (un 0)) (hrS (ua 0) (ua 3) (ua 4) (ua 5) (ua 6) (vac (un 0) (ui 0) (ua 1) (ua 2) (ua 7)) t (un 0)) ht4 h3 (hI.ls t) hI.2.2.2.2.2.2.1) gX6_342 hd_X6_pour ⟨Nat.le_of_ble_eq_true rfl, Nat.le_of_ble_eq_true rfl⟩ ⟨Nat.le_of_ble_eq_true rfl, Nat.le_of_ble_eq_true rfl⟩ rfl rfl (Nat.le_of_ble_eq_true rfl) rfl rfl dX6_runTaps_96 (fun w' hq9 => ?_)
        obtain ⟨f9, P9, hw9⟩ := hq9
        obtain rfl := hw9.symm
        refine j_w (w' := cF cA q un ui (up (up (up (up ul 0 (ul 0 + (hrV (ua 0) (ua 3) (ua 5) (ua 6) (vac (un 0) (ui 0) (ua 1) (ua 2) (ua 7)) t (un 0)).toInt64)) 1 (ul 1 + (hrS (ua 0) (ua 3) (ua 4) (ua 5) (ua 6) (vac (un 0) (ui 0) (ua 1) (ua 2) (ua 7)) t (un 0)).toInt64)) 3 (ul 3 + (prN (ua 9) ((hrV (ua 0) (ua 3) (ua 5) (ua 6) (vac (un 0) (ui 0) (ua 1) (ua 2) (ua 7)) t (un 0)), (hrS (ua 0) (ua 3) (ua 4) (ua 5) (ua 6) (vac (un 0) (ui 0) (ua 1) (ua 2) (ua 7)) t (un 0)), ua 10, ua 11) (un 2)).1.toInt64)) 4 (ul 4 + (prN (ua 9) ((hrV (ua 0) (ua 3) (ua 5) (ua 6) (vac (un 0) (ui 0) (ua 1) (ua 2) (ua 7)) t (un 0)), (hrS (ua 0) (ua 3) (ua 4) (ua 5) (ua 6) (vac (un 0) (ui 0) (ua 1) (ua 2) (ua 7)) t (un 0)), ua 10, ua 11) (un 2)).2.1.toInt64)) ua (swV (vac (un 0) (ui 0) (ua 1) (ua 2) (ua 7)) vc (un 0)) (swV (expV (ui 0) (ua 1) (ua 2)) ex (un 0)) wo tp tf kf ++ va_pl L f9) rfl ?_
        refine j_iload_n G dX6_runTaps_99 rfl 2 rfl ?_
        exact ret _ _ _ _ dX6_runTaps_100 rfl ⟨f9, P9, rfl, rfl⟩
      · have g23 : k < un 0 := (Nat.lt_or_ge k (un 0)).resolve_right (fun h => absurd ((nI_leI (by omega) (by omega)).mpr h) c23)
        refine j_aload_n G dX6_runTaps_26 rfl 0 rfl ?_
        refine gfX6_18 (v := .ref (q 7)) G 0 rfl rfl dX6_runTaps_27 ?_
        refine j_iload G dX6_runTaps_30 4 rfl ?_
        refine j_aldR G 7 2 rfl rfl (vp_in_nI (show k < 20 by omega) (by decide)) dX6_runTaps_32 (fun r32 => ?_) (fun b32 r32 => ?_)
        · rw [nI_clamp (by omega)] at r32
          have u32 : ¬ ua 0 k = 2 := by intro z9; rw [h3.1 k (by omega), if_pos z9] at r32; exact absurd r32 (by simp)
          refine j_astoreN (lv' := [(5, .null), (0, .ref (q 0)), (1, .int t), (2, .int (hrV (ua 0) (ua 3) (ua 5) (ua 6) (vac (un 0) (ui 0) (ua 1) (ua 2) (ua 7)) t k)), (3, .int (hrS (ua 0) (ua 3) (ua 4) (ua 5) (ua 6) (vac (un 0) (ui 0) (ua 1) (ua 2) (ua 7)) t k)), (4, .int (nI k))]) G dX6_runTaps_33 (by decide) rfl ?_
          refine j_aloadN G dX6_runTaps_35 0 rfl ?_
          refine j_ifnull_n (tgt := 78) G dX6_runTaps_37 (by decide) ?_
          have y9 := hr_n (kd := ua 0) (rt := ua 3) (sw := ua 4) (sh := ua 5) (ch := ua 6) (vc := vac (un 0) (ui 0) (ua 1) (ua 2) (ua 7)) (t := t) (ho := un 1) (sa := ua 8) u32
          refine j_lv (lv' := [(5, .null), (0, .ref (q 0)), (1, .int t), (2, .int (hrV (ua 0) (ua 3) (ua 5) (ua 6) (vac (un 0) (ui 0) (ua 1) (ua 2) (ua 7)) t (k + 1))), (3, .int (hrS (ua 0) (ua 3) (ua 4) (ua 5) (ua 6) (vac (un 0) (ui 0) (ua 1) (ua 2) (ua 7)) t (k + 1))), (4, .int (nI k))]) (by rw [y9.1, y9.2.1]) ?_
          refine j_iinc (v := (nI (k + 1))) (lv' := [(4, .int (nI (k + 1))), (5, .null), (0, .ref (q 0)), (1, .int t), (2, .int (hrV (ua 0) (ua 3) (ua 5) (ua 6) (vac (un 0) (ui 0) (ua 1) (ua 2) (ua 7)) t (k + 1))), (3, .int (hrS (ua 0) (ua 3) (ua 4) (ua 5) (ua 6) (vac (un 0) (ui 0) (ua 1) (ua 2) (ua 7)) t (k + 1)))]) G dX6_runTaps_78 5 rfl (nI_1 k) (by decide) rfl ?_
          refine j_goto (tgt := 14) G dX6_runTaps_81 (by decide) ?_
          refine j_sub (lv' := [(0, .ref (q 0)), (1, .int t), (2, .int (hrV (ua 0) (ua 3) (ua 5) (ua 6) (vac (un 0) (ui 0) (ua 1) (ua 2) (ua 7)) t (k + 1))), (3, .int (hrS (ua 0) (ua 3) (ua 4) (ua 5) (ua 6) (vac (un 0) (ui 0) (ua 1) (ua 2) (ua 7)) t (k + 1))), (4, .int (nI (k + 1)))]) [2, 3, 4, 5, 0] rfl ?_
          exact ih14 (k + 1) f' (by omega) (by omega) (by rw [← y9.2.2.1, ← y9.2.2.2, ← hrT_n u32]; exact h3)
        · rw [nI_clamp (by omega)] at r32
          have u32 : ua 0 k = 2 := by refine Decidable.byContradiction fun z9 => ?_; rw [h3.1 k (by omega), if_neg z9] at r32; exact absurd r32 (by simp)
          have e32 : b32 = ta k := by rw [h3.1 k (by omega), if_pos u32] at r32; exact (Option.some.inj r32).symm
          subst e32
          refine j_astore (lv' := [(5, .ref (ta k)), (0, .ref (q 0)), (1, .int t), (2, .int (hrV (ua 0) (ua 3) (ua 5) (ua 6) (vac (un 0) (ui 0) (ua 1) (ua 2) (ua 7)) t k)), (3, .int (hrS (ua 0) (ua 3) (ua 4) (ua 5) (ua 6) (vac (un 0) (ui 0) (ua 1) (ua 2) (ua 7)) t k)), (4, .int (nI k))]) G dX6_runTaps_33 (by decide) rfl ?_
          refine j_aload G dX6_runTaps_35 0 rfl ?_
          refine j_ifnull_r G dX6_runTaps_37 ?_
          refine j_aload G dX6_runTaps_40 0 rfl ?_
          refine j_aload_n G dX6_runTaps_42 rfl 1 rfl ?_
          refine gfX6_131 (v := .int (nI (un 1))) G 0 rfl rfl dX6_runTaps_43 ?_
          refine j_iload_n G dX6_runTaps_46 rfl 2 rfl ?_
          refine j_aload_n G dX6_runTaps_47 rfl 1 rfl ?_
          refine gfX6_10 (v := .ref (q 1)) G 0 rfl rfl dX6_runTaps_48 ?_
          refine gfX6_114 (v := .ref (q 5)) G 1 rfl rfl dX6_runTaps_51 ?_
          refine j_iload G dX6_runTaps_54 5 rfl ?_
          refine j_ialdN (j := k) G 5 rfl rfl (by omega) (Nat.le_of_ble_eq_true rfl) dX6_runTaps_56 ?_
          refine j_rwi (swV_lt g23) ?_
          have hk20 : k < 20 := by omega
          obtain ⟨a1, a2, a3, g, a4, a5⟩ := h3.2.1 k hk20 u32
          obtain ⟨x0, ex0⟩ := va_pl_get (X := cF cA q un ui ul ua (swV (vac (un 0) (ui 0) (ua 1) (ua 2) (ua 7)) vc (un 0)) (swV (expV (ui 0) (ua 1) (ua 2)) ex (un 0)) wo tp tf kf) (f := f') a1
          obtain ⟨x1, ex1⟩ := va_pl_get (X := cF cA q un ui ul ua (swV (vac (un 0) (ui 0) (ua 1) (ua 2) (ua 7)) vc (un 0)) (swV (expV (ui 0) (ua 1) (ua 2)) ex (un 0)) wo tp tf kf) (f := f') a2
          refine j_hD (fun hD9 => ?_)
          have hne : ga k ≠ ta k := (h3.tg hk20 hk20 u32 u32).symm
          have hx : x1 ≠ x0 := by intro z9; subst z9; exact hne (congrArg Prod.fst (Option.some.inj (ex1.symm.trans ex0)))
          have ex0' : (cF cA q un ui ul ua (swV (vac (un 0) (ui 0) (ua 1) (ua 2) (ua 7)) vc (un 0)) (swV (expV (ui 0) (ua 1) (ua 2)) ex (un 0)) wo tp tf kf ++ va_pl L f')[x0]? = some (ta k, .inr (4, [.int (ua 3 k), .int (ua 4 k), .int (ua 5 k), .ref (ga k), .int (hrC (ua 0) (ua 5) (ua 6) t k k), .int (hrT (ua 0) (ua 3) (ua 5) (ua 6) (vac (un 0) (ui 0) (ua 1) (ua 2) (ua 7)) t (fun j => totS (ua 8) j (un 1)) k k)])) := by rw [ex0, a3]
          have ex1' : (cF cA q un ui ul ua (swV (vac (un 0) (ui 0) (ua 1) (ua 2) (ua 7)) vc (un 0)) (swV (expV (ui 0) (ua 1) (ua 2)) ex (un 0)) wo tp tf kf ++ va_pl L f')[x1]? = some (ga k, .inl (cA 0, 200, .inl g)) := by rw [ex1, a4]
          refine jV_i G 4 x0 (cC_X4_run l D cA (cF cA q un ui ul ua (swV (vac (un 0) (ui 0) (ua 1) (ua 2) (ua 7)) vc (un 0)) (swV (expV (ui 0) (ua 1) (ua 2)) ex (un 0)) wo tp tf kf ++ va_pl L f') x0 x1 (ta k) (ga k) (ua 3 k) (ua 4 k) (ua 5 k) (hrC (ua 0) (ua 5) (ua 6) t k k) (hrT (ua 0) (ua 3) (ua 5) (ua 6) (vac (un 0) (ui 0) (ua 1) (ua 2) (ua 7)) t (fun j => totS (ua 8) j (un 1)) k k) g ex0' ex1' hx (nI (un 1)) t (vac (un 0) (ui 0) (ua 1) (ua 2) (ua 7) k) (vp_in_nI hh9 (by decide))) gX6_333 hd_X4_run ⟨Nat.le_of_ble_eq_true rfl, Nat.le_of_ble_eq_true rfl⟩ ⟨Nat.le_of_ble_eq_true rfl, Nat.le_of_ble_eq_true rfl⟩ rfl rfl (Nat.le_of_ble_eq_true rfl) rfl ex0' dX6_runTaps_57 (fun r w' hq9 => ?_)
          have etg : tgV (ua 3 k) (ua 5 k) (hrC (ua 0) (ua 5) (ua 6) t k k) (vac (un 0) (ui 0) (ua 1) (ua 2) (ua 7) k) t = hrG (ua 0) (ua 3) (ua 5) (ua 6) (vac (un 0) (ui 0) (ua 1) (ua 2) (ua 7)) t k := tg_eq ht (hI.2.2.2.1.2.2.1 k) (by rw [hrC_ge k k (Nat.le_refl k)]; exact hI.2.2.2.1.2.2.2.1 k)
          have etc : tcV (ua 5 k) (hrC (ua 0) (ua 5) (ua 6) t k k) t = chgV (ua 5) (hrC (ua 0) (ua 5) (ua 6) t k) t k := tc_eq ht (hI.2.2.2.1.2.2.1 k) (by rw [hrC_ge k k (Nat.le_refl k)]; exact hI.2.2.2.1.2.2.2.1 k)
          obtain ⟨hr9, hw9⟩ := hq9
          rw [etg] at hr9
          rw [etg, etc, nI_clamp (by omega)] at hw9
          obtain rfl := hr9.symm
          obtain rfl := hw9.symm
          have P5 := h3.tap (k := k) (ho := un 1) hk20 u32 hh9 a4 (hrG (ua 0) (ua 3) (ua 5) (ua 6) (vac (un 0) (ui 0) (ua 1) (ua 2) (ua 7)) t k) (chgV (ua 5) (hrC (ua 0) (ua 5) (ua 6) t k) t k) (hrT (ua 0) (ua 3) (ua 5) (ua 6) (vac (un 0) (ui 0) (ua 1) (ua 2) (ua 7)) t (fun j => totS (ua 8) j (un 1)) k k + hrG (ua 0) (ua 3) (ua 5) (ua 6) (vac (un 0) (ui 0) (ua 1) (ua 2) (ua 7)) t k)
          have y9 := hr_y (kd := ua 0) (rt := ua 3) (sw := ua 4) (sh := ua 5) (ch := ua 6) (vc := vac (un 0) (ui 0) (ua 1) (ua 2) (ua 7)) (t := t) (ho := un 1) (sa := ua 8) u32
          rw [y9.2.2.1, y9.2.2.2, hrT_y u32] at P5
          refine j_w (w' := cF cA q un ui ul ua (swV (vac (un 0) (ui 0) (ua 1) (ua 2) (ua 7)) vc (un 0)) (swV (expV (ui 0) (ua 1) (ua 2)) ex (un 0)) wo tp tf kf ++ va_pl L (va_up (va_up f' (ta k) (.inr (4, [.int (ua 3 k), .int (ua 4 k), .int (ua 5 k), .ref (ga k), .int (chgV (ua 5) (hrC (ua 0) (ua 5) (ua 6) t k) t k), .int (hrT (ua 0) (ua 3) (ua 5) (ua 6) (vac (un 0) (ui 0) (ua 1) (ua 2) (ua 7)) t (fun j => totS (ua 8) j (un 1)) k k + hrG (ua 0) (ua 3) (ua 5) (ua 6) (vac (un 0) (ui 0) (ua 1) (ua 2) (ua 7)) t k)]))) (ga k) (.inl (cA 0, 200, .inl (upd g (un 1) (hrG (ua 0) (ua 3) (ua 5) (ua 6) (vac (un 0) (ui 0) (ua 1) (ua 2) (ua 7)) t k)))))) (pl_set2 hD9 a1 a2 hne ex0 ex1) ?_
          refine j_istore (lv' := [(6, .int (hrG (ua 0) (ua 3) (ua 5) (ua 6) (vac (un 0) (ui 0) (ua 1) (ua 2) (ua 7)) t k)), (5, .ref (ta k)), (0, .ref (q 0)), (1, .int t), (2, .int (hrV (ua 0) (ua 3) (ua 5) (ua 6) (vac (un 0) (ui 0) (ua 1) (ua 2) (ua 7)) t k)), (3, .int (hrS (ua 0) (ua 3) (ua 4) (ua 5) (ua 6) (vac (un 0) (ui 0) (ua 1) (ua 2) (ua 7)) t k)), (4, .int (nI k))]) G dX6_runTaps_60 (by decide) rfl ?_
          refine j_iload_n G dX6_runTaps_62 rfl 4 rfl ?_
          refine j_iload G dX6_runTaps_63 0 rfl ?_
          refine j_iadd G dX6_runTaps_65 ?_
          refine j_istore_n (lv' := [(2, .int ((hrV (ua 0) (ua 3) (ua 5) (ua 6) (vac (un 0) (ui 0) (ua 1) (ua 2) (ua 7)) t k) + (hrG (ua 0) (ua 3) (ua 5) (ua 6) (vac (un 0) (ui 0) (ua 1) (ua 2) (ua 7)) t k))), (6, .int (hrG (ua 0) (ua 3) (ua 5) (ua 6) (vac (un 0) (ui 0) (ua 1) (ua 2) (ua 7)) t k)), (5, .ref (ta k)), (0, .ref (q 0)), (1, .int t), (3, .int (hrS (ua 0) (ua 3) (ua 4) (ua 5) (ua 6) (vac (un 0) (ui 0) (ua 1) (ua 2) (ua 7)) t k)), (4, .int (nI k))]) G dX6_runTaps_66 rfl (by decide) rfl ?_
          refine j_iload_n G dX6_runTaps_67 rfl 5 rfl ?_
          refine j_iload G dX6_runTaps_68 1 rfl ?_
          refine j_aload G dX6_runTaps_70 2 rfl ?_
          obtain ⟨b1, b2, b3, g2, b4, b5⟩ := P5.2.1 k hk20 u32
          obtain ⟨x2, ex2⟩ := va_pl_get (X := cF cA q un ui ul ua (swV (vac (un 0) (ui 0) (ua 1) (ua 2) (ua 7)) vc (un 0)) (swV (expV (ui 0) (ua 1) (ua 2)) ex (un 0)) wo tp tf kf) (f := va_up (va_up f' (ta k) (.inr (4, [.int (ua 3 k), .int (ua 4 k), .int (ua 5 k), .ref (ga k), .int (chgV (ua 5) (hrC (ua 0) (ua 5) (ua 6) t k) t k), .int (hrT (ua 0) (ua 3) (ua 5) (ua 6) (vac (un 0) (ui 0) (ua 1) (ua 2) (ua 7)) t (fun j => totS (ua 8) j (un 1)) k k + hrG (ua 0) (ua 3) (ua 5) (ua 6) (vac (un 0) (ui 0) (ua 1) (ua 2) (ua 7)) t k)]))) (ga k) (.inl (cA 0, 200, .inl (upd g (un 1) (hrG (ua 0) (ua 3) (ua 5) (ua 6) (vac (un 0) (ui 0) (ua 1) (ua 2) (ua 7)) t k))))) b1
          rw [b3] at ex2
          refine gfX6_336 (v := .int (ua 4 k)) G x2 ex2 rfl dX6_runTaps_72 ?_
          refine j_imul G dX6_runTaps_75 ?_
          refine j_iadd G dX6_runTaps_76 ?_
          refine j_istore_n (lv' := [(3, .int ((hrS (ua 0) (ua 3) (ua 4) (ua 5) (ua 6) (vac (un 0) (ui 0) (ua 1) (ua 2) (ua 7)) t k) + ((hrG (ua 0) (ua 3) (ua 5) (ua 6) (vac (un 0) (ui 0) (ua 1) (ua 2) (ua 7)) t k) * (ua 4 k)))), (2, .int ((hrV (ua 0) (ua 3) (ua 5) (ua 6) (vac (un 0) (ui 0) (ua 1) (ua 2) (ua 7)) t k) + (hrG (ua 0) (ua 3) (ua 5) (ua 6) (vac (un 0) (ui 0) (ua 1) (ua 2) (ua 7)) t k))), (6, .int (hrG (ua 0) (ua 3) (ua 5) (ua 6) (vac (un 0) (ui 0) (ua 1) (ua 2) (ua 7)) t k)), (5, .ref (ta k)), (0, .ref (q 0)), (1, .int t), (4, .int (nI k))]) G dX6_runTaps_77 rfl (by decide) rfl ?_
          refine j_lv (lv' := [(3, .int (hrS (ua 0) (ua 3) (ua 4) (ua 5) (ua 6) (vac (un 0) (ui 0) (ua 1) (ua 2) (ua 7)) t (k + 1))), (2, .int (hrV (ua 0) (ua 3) (ua 5) (ua 6) (vac (un 0) (ui 0) (ua 1) (ua 2) (ua 7)) t (k + 1))), (6, .int (hrG (ua 0) (ua 3) (ua 5) (ua 6) (vac (un 0) (ui 0) (ua 1) (ua 2) (ua 7)) t k)), (5, .ref (ta k)), (0, .ref (q 0)), (1, .int t), (4, .int (nI k))]) (by rw [y9.1, y9.2.1]) ?_
          refine j_iinc (v := (nI (k + 1))) (lv' := [(4, .int (nI (k + 1))), (3, .int (hrS (ua 0) (ua 3) (ua 4) (ua 5) (ua 6) (vac (un 0) (ui 0) (ua 1) (ua 2) (ua 7)) t (k + 1))), (2, .int (hrV (ua 0) (ua 3) (ua 5) (ua 6) (vac (un 0) (ui 0) (ua 1) (ua 2) (ua 7)) t (k + 1))), (6, .int (hrG (ua 0) (ua 3) (ua 5) (ua 6) (vac (un 0) (ui 0) (ua 1) (ua 2) (ua 7)) t k)), (5, .ref (ta k)), (0, .ref (q 0)), (1, .int t)]) G dX6_runTaps_78 6 rfl (nI_1 k) (by decide) rfl ?_
          refine j_goto (tgt := 14) G dX6_runTaps_81 (by decide) ?_
          refine j_sub (lv' := [(0, .ref (q 0)), (1, .int t), (2, .int (hrV (ua 0) (ua 3) (ua 5) (ua 6) (vac (un 0) (ui 0) (ua 1) (ua 2) (ua 7)) t (k + 1))), (3, .int (hrS (ua 0) (ua 3) (ua 4) (ua 5) (ua 6) (vac (un 0) (ui 0) (ua 1) (ua 2) (ua 7)) t (k + 1))), (4, .int (nI (k + 1)))]) [5, 6, 2, 1, 0] rfl ?_
          exact ih14 (k + 1) (va_up (va_up f' (ta k) (.inr (4, [.int (ua 3 k), .int (ua 4 k), .int (ua 5 k), .ref (ga k), .int (chgV (ua 5) (hrC (ua 0) (ua 5) (ua 6) t k) t k), .int (hrT (ua 0) (ua 3) (ua 5) (ua 6) (vac (un 0) (ui 0) (ua 1) (ua 2) (ua 7)) t (fun j => totS (ua 8) j (un 1)) k k + hrG (ua 0) (ua 3) (ua 5) (ua 6) (vac (un 0) (ui 0) (ua 1) (ua 2) (ua 7)) t k)]))) (ga k) (.inl (cA 0, 200, .inl (upd g (un 1) (hrG (ua 0) (ua 3) (ua 5) (ua 6) (vac (un 0) (ui 0) (ua 1) (ua 2) (ua 7)) t k))))) (by omega) (by omega) P5
  refine j_sub (lv' := [(0, .ref (q 0)), (1, .int t), (2, .int (hrV (ua 0) (ua 3) (ua 5) (ua 6) (vac (un 0) (ui 0) (ua 1) (ua 2) (ua 7)) t 0)), (3, .int (hrS (ua 0) (ua 3) (ua 4) (ua 5) (ua 6) (vac (un 0) (ui 0) (ua 1) (ua 2) (ua 7)) t 0)), (4, .int 0)]) [3, 4, 2, 1, 0] rfl ?_
  exact lp14 (un 0 + 1) 0 f (Nat.zero_le _) (by omega) hPL
