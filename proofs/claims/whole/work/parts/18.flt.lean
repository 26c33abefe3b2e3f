/-! floats and doubles: the quotients are numbers -/
theorem nn32 {r : UInt32} (h : FP.Core.fIsNaN r = false) : vf_n32 r := by
  have h1 : ¬ 2139095040 < r.toNat % 2 ^ 31 := fun z => by rw [(FP.Core.isNaN_bits32 r).mpr z] at h; cases h
  unfold vf_n32
  rw [UInt32.le_iff_toNat_le, UInt32.toNat_and, show (0x7fffffff : UInt32).toNat = 2 ^ 31 - 1 from rfl, Nat.and_two_pow_sub_one_eq_mod]
  exact Nat.not_lt.mp h1
theorem nn64 {r : UInt64} (h : FP.Core.dIsNaN r = false) : vf_n64 r := by
  have h1 : ¬ 9218868437227405312 < r.toNat % 2 ^ 63 := fun z => by rw [(FP.Core.isNaN_bits r).mpr z] at h; cases h
  unfold vf_n64
  rw [UInt64.le_iff_toNat_le, UInt64.toNat_and, show (0x7fffffffffffffff : UInt64).toNat = 2 ^ 63 - 1 from rfl, Nat.and_two_pow_sub_one_eq_mod]
  exact Nat.not_lt.mp h1
theorem fq_n {a b : Int64} (h : ¬ b = 0) : FP.Core.fIsNaN (FP.fdiv (FP.l2f a) (FP.l2f b)) = false := FP.Core.fdiv_out (FP.Core.FFin.notNaN (FP.Core.l2f_fin a)) (FP.Core.l2f_fin b) (fun z => FP.Core.l2f_ne_zero h ((FP.Core.zero_bits232 _).mp z))
theorem dq_n {a b : Int64} (h : ¬ b = 0) : FP.Core.dIsNaN (FP.ddiv (FP.l2d a) (FP.l2d b)) = false := FP.Core.ddiv_out (FP.Core.DFin.notNaN (FP.Core.l2d_fin a)) (FP.Core.l2d_fin b) (fun z => FP.Core.l2d_ne_zero h ((FP.Core.zero_bits2 _).mp z))
theorem fq_d {a b : Int64} (h : ¬ b = 0) : FP.Core.dIsNaN (FP.f2d (FP.fdiv (FP.l2f a) (FP.l2f b))) = false := (FP.f2d_nan _).trans (fq_n h)
theorem dc_self {x : UInt64} (h : FP.Core.dIsNaN x = false) (op : CmpOp) : Op.cmpValue (FP.dcmp x x) op = 0 := by
  rw [show FP.dcmp x x = some .eq from FP.Core.dcmp_self ((FP.Core.notNaN_iff x).mp h)]
  rfl
set_option maxHeartbeats 4000000 in
set_option maxRecDepth 100000 in
theorem cC_X6_lossShare (l : Launch) (D : va_G) (cA : Nat → ClassId) (hfl : l.stackTraces = false) (q : Nat → Nat) (un : Nat → Nat) (ui : Nat → Int32) (ul : Nat → Int64) (ua : Nat → Nat → Int32) (vc ex wo tp : Nat → Int32) (tf kf : Nat → Option Nat) (L : List Nat) (f : Nat → va_E) : Xf l yX6_lossShare cX6_lossShare 1 7 130 1 6 D cA [.ref (q 0)] (cF cA q un ui ul ua vc ex wo tp tf kf ++ va_pl L f) (fun r w' => (ul 0 ≠ 0) ∧ r = FP.fdiv (FP.l2f (ul 3)) (FP.l2f (ul 0)) ∧ w' = (cF cA q un ui ul ua vc ex wo tp tf kf ++ va_pl L f)) (fun u => ((ul 0 = 0) ∧ u = ("java/lang/ArithmeticException", cF cA q un ui ul ua vc ex wo tp tf kf ++ va_pl L f))) := by
  refine ent_Xf (own := RX6) (lv0 := [(0, .ref (q 0))]) (by decide) rfl (Nat.le_of_ble_eq_true rfl) rfl ?_
  intro p e s m args below meth c A Q G hQ ht hlocks ret
  refine j_aload_n G dX6_lossShare_0 rfl 0 rfl ?_
  refine jXV_v G 6 0 (cC_X6_requireSap l D cA hfl q un ui ul ua vc ex wo tp tf kf L f ) gX6_293 hd_X6_requireSap ⟨Nat.le_of_ble_eq_true rfl, Nat.le_of_ble_eq_true rfl⟩ ⟨Nat.le_of_ble_eq_true rfl, Nat.le_of_ble_eq_true rfl⟩ rfl rfl (Nat.le_of_ble_eq_true rfl) rfl rfl dX6_lossShare_1 (fun E9 w9 hq9 => ?_) (fun w' hq9 => ?_)
  · rcases hq9 with ⟨h9, hu9⟩
    cases hu9
    exact j_out (post := fun _ => True) G hQ ht hlocks ⟨h9, rfl⟩ (Nat.le_of_ble_eq_true rfl) (Nat.le_of_ble_eq_true rfl)
  obtain ⟨k1, hw9⟩ := hq9
  obtain rfl := hw9.symm
  refine j_aload_n G dX6_lossShare_4 rfl 0 rfl ?_
  refine gfX6_48 (v := .ref (q 14)) G 0 rfl rfl dX6_lossShare_5 ?_
  refine gfX6_266 (v := .long (ul 3)) G 14 rfl rfl dX6_lossShare_8 ?_
  refine j_l2f G dX6_lossShare_11 ?_
  refine j_aload_n G dX6_lossShare_12 rfl 0 rfl ?_
  refine gfX6_48 (v := .ref (q 14)) G 0 rfl rfl dX6_lossShare_13 ?_
  refine gfX6_259 (v := .long (ul 0)) G 14 rfl rfl dX6_lossShare_16 ?_
  refine j_l2f G dX6_lossShare_19 ?_
  refine j_fdiv G dX6_lossShare_20 (nn32 (fq_n k1)) ?_
  refine j_cs (k' := 1) (n' := 6) (Nat.le_of_ble_eq_true rfl) (Nat.le_of_ble_eq_true rfl) ?_
  exact ret _ _ _ _ dX6_lossShare_21 ⟨k1, rfl, rfl⟩
set_option maxHeartbeats 4000000 in
set_option maxRecDepth 100000 in
theorem cC_X6_meanSweetness (l : Launch) (D : va_G) (cA : Nat → ClassId) (hfl : l.stackTraces = false) (q : Nat → Nat) (un : Nat → Nat) (ui : Nat → Int32) (ul : Nat → Int64) (ua : Nat → Nat → Int32) (vc ex wo tp : Nat → Int32) (tf kf : Nat → Option Nat) (L : List Nat) (f : Nat → va_E) : Xd l yX6_meanSweetness cX6_meanSweetness 1 7 130 1 6 D cA [.ref (q 0)] (cF cA q un ui ul ua vc ex wo tp tf kf ++ va_pl L f) (fun r w' => (ul 0 ≠ 0) ∧ r = FP.ddiv (FP.l2d (ul 1)) (FP.l2d (ul 0)) ∧ w' = (cF cA q un ui ul ua vc ex wo tp tf kf ++ va_pl L f)) (fun u => ((ul 0 = 0) ∧ u = ("java/lang/ArithmeticException", cF cA q un ui ul ua vc ex wo tp tf kf ++ va_pl L f))) := by
  refine ent_Xd (own := RX6) (lv0 := [(0, .ref (q 0))]) (by decide) rfl (Nat.le_of_ble_eq_true rfl) rfl ?_
  intro p e s m args below meth c A Q G hQ ht hlocks ret
  refine j_aload_n G dX6_meanSweetness_0 rfl 0 rfl ?_
  refine jXV_v G 6 0 (cC_X6_requireSap l D cA hfl q un ui ul ua vc ex wo tp tf kf L f ) gX6_293 hd_X6_requireSap ⟨Nat.le_of_ble_eq_true rfl, Nat.le_of_ble_eq_true rfl⟩ ⟨Nat.le_of_ble_eq_true rfl, Nat.le_of_ble_eq_true rfl⟩ rfl rfl (Nat.le_of_ble_eq_true rfl) rfl rfl dX6_meanSweetness_1 (fun E9 w9 hq9 => ?_) (fun w' hq9 => ?_)
  · rcases hq9 with ⟨h9, hu9⟩
    cases hu9
    exact j_out (post := fun _ => True) G hQ ht hlocks ⟨h9, rfl⟩ (Nat.le_of_ble_eq_true rfl) (Nat.le_of_ble_eq_true rfl)
  obtain ⟨k1, hw9⟩ := hq9
  obtain rfl := hw9.symm
  refine j_aload_n G dX6_meanSweetness_4 rfl 0 rfl ?_
  refine gfX6_48 (v := .ref (q 14)) G 0 rfl rfl dX6_meanSweetness_5 ?_
  refine gfX6_290 (v := .long (ul 1)) G 14 rfl rfl dX6_meanSweetness_8 ?_
  refine j_l2d G dX6_meanSweetness_11 ?_
  refine j_aload_n G dX6_meanSweetness_12 rfl 0 rfl ?_
  refine gfX6_48 (v := .ref (q 14)) G 0 rfl rfl dX6_meanSweetness_13 ?_
  refine gfX6_259 (v := .long (ul 0)) G 14 rfl rfl dX6_meanSweetness_16 ?_
  refine j_l2d G dX6_meanSweetness_19 ?_
  refine j_ddiv G dX6_meanSweetness_20 (nn64 (dq_n k1)) ?_
  refine j_cs (k' := 1) (n' := 6) (Nat.le_of_ble_eq_true rfl) (Nat.le_of_ble_eq_true rfl) ?_
  exact ret _ _ _ _ dX6_meanSweetness_21 ⟨k1, rfl, rfl⟩
set_option maxHeartbeats 4000000 in
set_option maxRecDepth 100000 in
theorem cM_lossShare (l : Launch) (D : va_G) (cA : Nat → ClassId) (q : Nat → Nat) (un : Nat → Nat) (ui : Nat → Int32) (ul : Nat → Int64) (ua : Nat → Nat → Int32) (co : Int32) : Kf l yX7_lossShare cX7_lossShare 1 1 21 0 0 D cA [.ref (q 0)] (mW cA q un ui ul ua co) (fun r w' => (¬ ul 0 = 0 ∧ r = FP.fdiv (FP.l2f (ul 3)) (FP.l2f (ul 0)) ∧ w' = mW cA q un ui ul ua 0) ∨ (ul 0 = 0 ∧ w' = mW cA q un ui ul ua 1)) := by
  refine ent_f (own := RX7) (lv0 := [(0, .ref (q 0))]) (by decide) rfl (Nat.le_of_ble_eq_true rfl) rfl ?_
  intro p e s m args below meth c A Q G hinit ret
  refine j_aload_n G dX7_lossShare_0 rfl 0 rfl ?_
  refine j_aload_n G dX7_lossShare_1 rfl 0 rfl ?_
  refine gfX7_149 (v := .long (ul 0)) G 0 rfl rfl dX7_lossShare_2 ?_
  refine j_lconst (v := 0) G dX7_lossShare_5 (by decide) ?_
  refine j_lcmp G dX7_lossShare_6 ?_
  refine j_if_ne (tgt := 14) G dX7_lossShare_7 (by decide) (fun c7 => ?_) (fun c7 => ?_)
  · refine j_iconst (v := 0) G dX7_lossShare_14 (by decide) ?_
    refine jV_i G 7 0 (cM_fails l D cA q un ui ul ua co 0) gX7_71 hd_X7_fails ⟨Nat.le_of_ble_eq_true rfl, Nat.le_of_ble_eq_true rfl⟩ ⟨Nat.le_of_ble_eq_true rfl, Nat.le_of_ble_eq_true rfl⟩ rfl rfl (Nat.le_of_ble_eq_true rfl) rfl rfl dX7_lossShare_15 (fun r w' hp => ?_)
    obtain ⟨rfl, rfl⟩ := hp
    refine j_rwi (show bI (¬ (0 : Int32) ≤ 0) = 0 from by decide) ?_
    refine j_if_eq (tgt := 25) G dX7_lossShare_18 (by decide) (fun _ => ?_) (fun c18 => absurd c18 (by decide))
    refine j_aload_n G dX7_lossShare_25 rfl 0 rfl ?_
    refine gfX7_118 (v := .long (ul 3)) G 0 rfl rfl dX7_lossShare_26 ?_
    refine j_l2f G dX7_lossShare_29 ?_
    refine j_aload_n G dX7_lossShare_30 rfl 0 rfl ?_
    refine gfX7_149 (v := .long (ul 0)) G 0 rfl rfl dX7_lossShare_31 ?_
    refine j_l2f G dX7_lossShare_34 ?_
    refine j_fdiv G dX7_lossShare_35 (nn32 (fq_n (fun h => c7 (lgz.mpr h)))) ?_
    exact ret _ _ _ _ dX7_lossShare_36 (Or.inl ⟨(fun h => c7 (lgz.mpr h)), rfl, rfl⟩)
  · refine j_iconst (v := 1) G dX7_lossShare_10 (by decide) ?_
    refine j_goto (tgt := 15) G dX7_lossShare_11 (by decide) ?_
    refine jV_i G 7 0 (cM_fails l D cA q un ui ul ua co 1) gX7_71 hd_X7_fails ⟨Nat.le_of_ble_eq_true rfl, Nat.le_of_ble_eq_true rfl⟩ ⟨Nat.le_of_ble_eq_true rfl, Nat.le_of_ble_eq_true rfl⟩ rfl rfl (Nat.le_of_ble_eq_true rfl) rfl rfl dX7_lossShare_15 (fun r w' hp => ?_)
    obtain ⟨rfl, rfl⟩ := hp
    refine j_rwi (show bI (¬ (1 : Int32) ≤ 0) = 1 from by decide) ?_
    refine j_if_eq (tgt := 25) G dX7_lossShare_18 (by decide) (fun c18 => absurd c18 (by decide)) (fun _ => ?_)
    refine j_fconst0 G dX7_lossShare_21 ?_
    refine j_goto (tgt := 36) G dX7_lossShare_22 (by decide) ?_
    exact ret _ _ _ _ dX7_lossShare_36 (Or.inr ⟨lgz.mp c7, rfl⟩)
set_option maxHeartbeats 4000000 in
set_option maxRecDepth 100000 in
theorem cM_meanSweetness (l : Launch) (D : va_G) (cA : Nat → ClassId) (q : Nat → Nat) (un : Nat → Nat) (ui : Nat → Int32) (ul : Nat → Int64) (ua : Nat → Nat → Int32) (co : Int32) : Kd l yX7_meanSweetness cX7_meanSweetness 1 1 21 0 0 D cA [.ref (q 0)] (mW cA q un ui ul ua co) (fun r w' => (¬ ul 0 = 0 ∧ r = FP.ddiv (FP.l2d (ul 1)) (FP.l2d (ul 0)) ∧ w' = mW cA q un ui ul ua 0) ∨ (ul 0 = 0 ∧ w' = mW cA q un ui ul ua 1)) := by
  refine ent_d (own := RX7) (lv0 := [(0, .ref (q 0))]) (by decide) rfl (Nat.le_of_ble_eq_true rfl) rfl ?_
  intro p e s m args below meth c A Q G hinit ret
  refine j_aload_n G dX7_meanSweetness_0 rfl 0 rfl ?_
  refine j_aload_n G dX7_meanSweetness_1 rfl 0 rfl ?_
  refine gfX7_149 (v := .long (ul 0)) G 0 rfl rfl dX7_meanSweetness_2 ?_
  refine j_lconst (v := 0) G dX7_meanSweetness_5 (by decide) ?_
  refine j_lcmp G dX7_meanSweetness_6 ?_
  refine j_if_ne (tgt := 14) G dX7_meanSweetness_7 (by decide) (fun c7 => ?_) (fun c7 => ?_)
  · refine j_iconst (v := 0) G dX7_meanSweetness_14 (by decide) ?_
    refine jV_i G 7 0 (cM_fails l D cA q un ui ul ua co 0) gX7_71 hd_X7_fails ⟨Nat.le_of_ble_eq_true rfl, Nat.le_of_ble_eq_true rfl⟩ ⟨Nat.le_of_ble_eq_true rfl, Nat.le_of_ble_eq_true rfl⟩ rfl rfl (Nat.le_of_ble_eq_true rfl) rfl rfl dX7_meanSweetness_15 (fun r w' hp => ?_)
    obtain ⟨rfl, rfl⟩ := hp
    refine j_rwi (show bI (¬ (0 : Int32) ≤ 0) = 0 from by decide) ?_
    refine j_if_eq (tgt := 25) G dX7_meanSweetness_18 (by decide) (fun _ => ?_) (fun c18 => absurd c18 (by decide))
    refine j_aload_n G dX7_meanSweetness_25 rfl 0 rfl ?_
    refine gfX7_152 (v := .long (ul 1)) G 0 rfl rfl dX7_meanSweetness_26 ?_
    refine j_l2d G dX7_meanSweetness_29 ?_
    refine j_aload_n G dX7_meanSweetness_30 rfl 0 rfl ?_
    refine gfX7_149 (v := .long (ul 0)) G 0 rfl rfl dX7_meanSweetness_31 ?_
    refine j_l2d G dX7_meanSweetness_34 ?_
    refine j_ddiv G dX7_meanSweetness_35 (nn64 (dq_n (fun h => c7 (lgz.mpr h)))) ?_
    exact ret _ _ _ _ dX7_meanSweetness_36 (Or.inl ⟨(fun h => c7 (lgz.mpr h)), rfl, rfl⟩)
  · refine j_iconst (v := 1) G dX7_meanSweetness_10 (by decide) ?_
    refine j_goto (tgt := 15) G dX7_meanSweetness_11 (by decide) ?_
    refine jV_i G 7 0 (cM_fails l D cA q un ui ul ua co 1) gX7_71 hd_X7_fails ⟨Nat.le_of_ble_eq_true rfl, Nat.le_of_ble_eq_true rfl⟩ ⟨Nat.le_of_ble_eq_true rfl, Nat.le_of_ble_eq_true rfl⟩ rfl rfl (Nat.le_of_ble_eq_true rfl) rfl rfl dX7_meanSweetness_15 (fun r w' hp => ?_)
    obtain ⟨rfl, rfl⟩ := hp
    refine j_rwi (show bI (¬ (1 : Int32) ≤ 0) = 1 from by decide) ?_
    refine j_if_eq (tgt := 25) G dX7_meanSweetness_18 (by decide) (fun c18 => absurd c18 (by decide)) (fun _ => ?_)
    refine j_dconst0 G dX7_meanSweetness_21 ?_
    refine j_goto (tgt := 36) G dX7_meanSweetness_22 (by decide) ?_
    exact ret _ _ _ _ dX7_meanSweetness_36 (Or.inr ⟨lgz.mp c7, rfl⟩)
