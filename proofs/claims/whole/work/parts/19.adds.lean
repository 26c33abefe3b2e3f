/-! THE CLASS: a tank, a tap added -/
theorem vu_u {g : Nat → va_E} {a : Nat} {x y : va_E} : va_up (va_up g a x) a y = va_up g a y := by
  funext b
  by_cases h : b = a
  · subst h; rw [vu_s, vu_s]
  · rw [vu_n h, vu_n h, vu_n h]
theorem pl_new {A : Nat → Prop} {X : va_W} {L : List Nat} {f : Nat → va_E} {a : Nat} {x : va_E} (hD : va_D A ((X ++ va_pl L f) ++ [(a, x)])) : (X ++ va_pl L f) ++ [(a, x)] = X ++ va_pl (L ++ [a]) (va_up f a x) := by
  rw [List.append_assoc, va_pl_push (va_pl_fresh2 hD)]
theorem pl_at {X : va_W} {L : List Nat} {f : Nat → va_E} {a : Nat} {x : va_E} (h : a ∈ L) (hf : f a = x) : ∃ k : Nat, (X ++ va_pl L f)[k]? = some (a, x) := by
  obtain ⟨k, e⟩ := va_pl_get (X := X) (f := f) h
  exact ⟨k, by rw [e, hf]⟩
theorem pl_re {A : Nat → Prop} {X : va_W} {L : List Nat} {f : Nat → va_E} {a k : Nat} {x y : va_E} (hD : va_D A (X ++ va_pl L (va_up f a x))) (h : a ∈ L) (hk : (X ++ va_pl L (va_up f a x))[k]? = some (a, x)) : (X ++ va_pl L (va_up f a x)).set k (a, y) = X ++ va_pl L (va_up f a y) := by
  rw [va_pl_set hD h (by rw [hk, vu_s]), vu_u]
theorem cfAdd_2 {n : Nat} {kd : Nat → Int32} {par : Int32} {ok : Prop} [Decidable ok] (h1 : VN n par) (h2 : ¬ ok) : cfAdd n kd par ok = 2 := by
  rw [cfAdd, if_neg (fun h => h h1), if_pos h2]
theorem cfAdd_1 {n : Nat} {kd : Nat → Int32} {par : Int32} {ok : Prop} [Decidable ok] (h1 : ¬ VN n par) : cfAdd n kd par ok = 1 := by
  rw [cfAdd, if_pos h1]
theorem tot_z {sa : Nat → Int32} {j : Nat} (h : ∀ i, i < 200 → sa (200 * j + i) = 0) : ∀ n, n ≤ 200 → totS sa j n = 0 := by
  intro n
  induction n with
  | zero => intro _; rfl
  | succ n ih => intro hn; rw [← totS_S, ih (by omega), h n (by omega)]; rfl
set_option maxHeartbeats 4000000 in
set_option maxRecDepth 100000 in
theorem cC_X6_addTank (l : Launch) (D : va_G) (cA : Nat → ClassId) (hfl : l.stackTraces = false) (q : Nat → Nat) (un : Nat → Nat) (ui : Nat → Int32) (ul : Nat → Int64) (ua : Nat → Nat → Int32) (vc ex wo tp : Nat → Int32) (tf kf : Nat → Option Nat) (L : List Nat) (f : Nat → va_E) (ta : Nat → Nat) (ga : Nat → Nat) (ka : Nat → Nat) (v : Int32) (hI : INV un ui ua) (hPL : PL cA un ua L f tf kf ta ga ka) : Xi l yX6_addTank cX6_addTank 3 .int 6 110 1 6 D cA [.ref (q 0), .int v] (cF cA q un ui ul ua vc ex wo tp tf kf ++ va_pl L f) (fun r w' => ∃ L9 f9 kf9 ka9, PLg cA (ua 0) (ua 3) (ua 4) (ua 5) (ua 6) (ua 8) (fun j => totS (ua 8) j (un 1)) (un 2 + 1) (upd (ua 9) (un 2) v) (ua 10) (ua 11) L9 f9 tf kf9 ta ga ka9 ∧ (cfAddTank (un 2) v = 0) ∧ r = nI (un 2) ∧ w' = cF cA q (up un 2 (un 2 + 1)) ui ul ua vc ex wo tp tf kf9 ++ va_pl L9 f9) (fun u => ((cfAddTank (un 2) v = 1) ∧ u = ("java/lang/IllegalArgumentException", cF cA q un ui ul ua vc ex wo tp tf kf ++ va_pl L f)) ∨ ((cfAddTank (un 2) v = 2) ∧ u = ("java/lang/IllegalStateException", cF cA q un ui ul ua vc ex wo tp tf kf ++ va_pl L f))) := by
  refine ent_Xi (own := RX6) (lv0 := [(0, .ref (q 0)), (1, .int v)]) (by decide) rfl (Nat.le_of_ble_eq_true rfl) rfl ?_
  intro p e s m args below meth c A Q G hQ ht hlocks ret
  have hn := hI.1.2.1
  have hn1 := hI.1.1
  have hp := hI.2.1
  have ht4 := hI.1.2.2.2.1
  refine j_iload_n G dX6_addTank_0 rfl 1 rfl ?_
  refine j_iconst (v := 1) G dX6_addTank_1 (by decide) ?_
  refine j_sipush (v := 5000) G dX6_addTank_2 (by decide) ?_
  refine jS_i G (cC_X6_isOutside l D cA (cF cA q un ui ul ua vc ex wo tp tf kf ++ va_pl L f) v 1 5000) gX6_60 hd_X6_isOutside.2 ⟨Nat.le_of_ble_eq_true rfl, Nat.le_of_ble_eq_true rfl⟩ ⟨Nat.le_of_ble_eq_true rfl, Nat.le_of_ble_eq_true rfl⟩ rfl rfl (Nat.le_of_ble_eq_true rfl) dX6_addTank_5 (fun r w' hq9 => ?_)
  obtain ⟨hr9, hw9⟩ := hq9
  obtain rfl := hr9.symm
  obtain rfl := hw9.symm
  refine j_ifb_eq (tgt := 21) G dX6_addTank_8 (by decide) (fun c8 => ?_) (fun c8 => ?_)
  · refine j_aload_n G dX6_addTank_21 rfl 0 rfl ?_
    refine gfX6_169 (v := .int (nI (un 2))) G 0 rfl rfl dX6_addTank_22 ?_
    refine j_iconst (v := 4) G dX6_addTank_25 (by decide) ?_
    refine j_icmp_lt (tgt := 39) G dX6_addTank_26 (by decide) (fun c26 => ?_) (fun c26 => ?_)
    · refine j_aload_n G dX6_addTank_39 rfl 0 rfl ?_
      refine gfX6_169 (v := .int (nI (un 2))) G 0 rfl rfl dX6_addTank_40 ?_
      refine j_istore_n (lv' := [(2, .int (nI (un 2))), (0, .ref (q 0)), (1, .int v)]) G dX6_addTank_43 rfl (by decide) rfl ?_
      refine j_aload_n G dX6_addTank_44 rfl 1 rfl ?_
      refine gfX6_24 (v := .ref (q 8)) G 0 rfl rfl dX6_addTank_45 ?_
      refine j_iload_n G dX6_addTank_48 rfl 0 rfl ?_
      have g26 : un 2 < 4 := (nI_ltI (by omega) (by omega)).mp (show nI (un 2) < nI 4 from c26)
      refine j_new (T := TX3) (N := 3) (ci := 3) (fs := [.int 0, .int 0, .int 0]) G inX3 rfl tyX3 tyX3_ok wd_101 wd_725 wd_58 (fun j hj => by rcases (show j = 0 ∨ j = 1 ∨ j = 2 by omega) with rfl | rfl | rfl <;> rfl) ⟨Nat.le_of_ble_eq_true rfl, Nat.le_of_ble_eq_true rfl⟩ dX6_addTank_49 (fun a9 => ?_)
      refine j_hD (fun hD1 => ?_)
      have ha9 : a9 ∉ L := va_pl_fresh2 hD1
      have hm9 : a9 ∈ L ++ [a9] := by simp
      refine j_w (w' := cF cA q un ui ul ua vc ex wo tp tf kf ++ va_pl (L ++ [a9]) (va_up f a9 (.inr (3, [.int 0, .int 0, .int 0])))) (pl_new hD1) ?_
      refine j_dup G dX6_addTank_52 rfl ?_
      refine j_iload_n G dX6_addTank_53 rfl 2 rfl ?_
      obtain ⟨x0, ex0⟩ := pl_at (X := cF cA q un ui ul ua vc ex wo tp tf kf) (L := L ++ [a9]) (f := va_up f a9 (.inr (3, [.int 0, .int 0, .int 0]))) hm9 vu_s
      refine j_hD (fun hD2 => ?_)
      refine jI_v G (cC_X3_init l D cA _ x0 a9 ex0 v) wd_726 wd_727 (show Cond.initialized yX3_init.cls ∈ WS from wd_58) wd_728 rfl hd_X3_init.2 ⟨Nat.le_of_ble_eq_true rfl, Nat.le_of_ble_eq_true rfl⟩ ⟨Nat.le_of_ble_eq_true rfl, Nat.le_of_ble_eq_true rfl⟩ rfl rfl (Nat.le_of_ble_eq_true rfl) dX6_addTank_54 (fun w' hq9 => ?_)
      obtain rfl := hq9.symm
      refine j_w (w' := cF cA q un ui ul ua vc ex wo tp tf kf ++ va_pl (L ++ [a9]) (va_up f a9 (.inr (3, [.int v, .int 0, .int 0])))) (pl_re hD2 hm9 ex0) ?_
      obtain ⟨x1, ex1⟩ := pl_at (X := cF cA q un ui ul ua vc ex wo tp tf kf) (L := L ++ [a9]) (f := va_up f a9 (.inr (3, [.int v, .int 0, .int 0]))) hm9 vu_s
      have P9 := (PL_g.mp hPL).addK ha9 (hI.2.2.2.2.2.2.2.1 (un 2) (Nat.le_refl _)).1 (hI.2.2.2.2.2.2.2.1 (un 2) (Nat.le_refl _)).2 v
      refine j_astT (w' := cF cA q un ui ul ua vc ex wo tp tf (va_up kf (un 2) (some a9)) ++ va_pl (L ++ [a9]) (va_up f a9 (.inr (3, [.int v, .int 0, .int 0])))) G 8 3 x1 3 rfl rfl ex1 rfl rfl g26 (Nat.le_of_ble_eq_true rfl) dX6_addTank_57 rfl ?_
      refine j_aload_n G dX6_addTank_58 rfl 1 rfl ?_
      refine j_iload_n G dX6_addTank_59 rfl 0 rfl ?_
      refine j_iconst (v := 1) G dX6_addTank_60 (by decide) ?_
      refine j_iadd G dX6_addTank_61 ?_
      refine j_rwi (nI_add (un 2) 1) ?_
      refine pfX6_169 (w' := cF cA q (up un 2 (un 2 + 1)) ui ul ua vc ex wo tp tf (va_up kf (un 2) (some a9)) ++ va_pl (L ++ [a9]) (va_up f a9 (.inr (3, [.int v, .int 0, .int 0])))) G 0 rfl rfl (Nat.le_of_ble_eq_true rfl) dX6_addTank_62 rfl rfl ?_
      refine j_iload_n G dX6_addTank_65 rfl 0 rfl ?_
      refine j_cs (k' := 1) (n' := 6) (Nat.le_of_ble_eq_true rfl) (Nat.le_of_ble_eq_true rfl) ?_
      exact ret _ _ _ _ dX6_addTank_66 rfl ⟨_, _, _, _, P9, (by rw [cfAddTank, if_neg (fun h8 => h8 (Decidable.not_not.mp c8)), if_neg (fun h8 => by have h7 := (nI_eq (a := un 2) (b := 4) (by omega) (by omega)).mp h8; omega)]), rfl, rfl⟩
    · exact j_thr G hfl hQ ht hlocks (names := ["java/lang/RuntimeException", "java/lang/Exception"]) ft_ISE ft_names wd_450 wd_54 rfl st_172 at_ISE og_ISE dX6_addTank_29 dX6_addTank_32 dX6_addTank_33 dX6_addTank_35 dX6_addTank_38 ⟨Nat.le_of_ble_eq_true rfl, Nat.le_of_ble_eq_true rfl, Nat.le_of_ble_eq_true rfl, Nat.le_of_ble_eq_true rfl⟩ (Or.inr (⟨(by rw [cfAddTank, if_neg (fun h8 => h8 (Decidable.not_not.mp c8)), if_pos (by have h7 := (nI_leI (a := 4) (b := un 2) (by omega) (by omega)).mp (show nI 4 ≤ nI (un 2) from Int32.not_lt.mp c26); rw [show un 2 = 4 by omega]; rfl)]), rfl⟩)) (Nat.le_of_ble_eq_true rfl) (Nat.le_of_ble_eq_true rfl)
  · exact j_thr G hfl hQ ht hlocks (names := ["java/lang/RuntimeException", "java/lang/Exception"]) ft_IAE ft_names wd_410 wd_52 rfl st_167 at_IAE og_IAE dX6_addTank_11 dX6_addTank_14 dX6_addTank_15 dX6_addTank_17 dX6_addTank_20 ⟨Nat.le_of_ble_eq_true rfl, Nat.le_of_ble_eq_true rfl, Nat.le_of_ble_eq_true rfl, Nat.le_of_ble_eq_true rfl⟩ (Or.inl ⟨(by rw [cfAddTank, if_pos c8]), rfl⟩) (Nat.le_of_ble_eq_true rfl) (Nat.le_of_ble_eq_true rfl)
set_option maxHeartbeats 4000000 in
set_option maxRecDepth 100000 in
theorem cC_X6_addTap (l : Launch) (D : va_G) (cA : Nat → ClassId) (hfl : l.stackTraces = false) (q : Nat → Nat) (un : Nat → Nat) (ui : Nat → Int32) (ul : Nat → Int64) (ua : Nat → Nat → Int32) (vc ex wo tp : Nat → Int32) (tf kf : Nat → Option Nat) (L : List Nat) (f : Nat → va_E) (ta : Nat → Nat) (ga : Nat → Nat) (ka : Nat → Nat) (pr : Int32) (dp : Int32) (rt : Int32) (sw : Int32) (sh : Int32) (hI : INV un ui ua) (hPL : PL cA un ua L f tf kf ta ga ka) : Xi l yX6_addTap cX6_addTap 7 .int 7 131 4 218 D cA [.ref (q 0), .int pr, .int dp, .int rt, .int sw, .int sh] (cF cA q un ui ul ua vc ex wo tp tf kf ++ va_pl L f) (fun r w' => ∃ L9 f9 tf9 ta9 ga9, PLg cA (upd (ua 0) (un 0) 2) (upd (ua 3) (un 0) rt) (upd (ua 4) (un 0) sw) (upd (ua 5) (un 0) sh) (ua 6) (ua 8) (fun j => totS (ua 8) j (un 1)) (un 2) (ua 9) (ua 10) (ua 11) L9 f9 tf9 kf ta9 ga9 ka ∧ (cfAdd (un 0) (ua 0) pr (okTap dp rt sw sh) = 0) ∧ r = nI (un 0) ∧ w' = cF cA q (up un 0 (un 0 + 1)) ui ul (up (up ua 1 (upd (ua 1) (un 0) pr)) 2 (upd (ua 2) (un 0) dp)) vc ex wo tp tf9 kf ++ va_pl L9 f9) (fun u => ((cfAdd (un 0) (ua 0) pr (okTap dp rt sw sh) = 1) ∧ u = ("java/lang/IndexOutOfBoundsException", cF cA q un ui ul ua vc ex wo tp tf kf ++ va_pl L f)) ∨ ((cfAdd (un 0) (ua 0) pr (okTap dp rt sw sh) = 2) ∧ u = ("java/lang/IllegalArgumentException", cF cA q un ui ul ua vc ex wo tp tf kf ++ va_pl L f)) ∨ ((cfAdd (un 0) (ua 0) pr (okTap dp rt sw sh) = 3) ∧ u = ("java/lang/UnsupportedOperationException", cF cA q un ui ul ua vc ex wo tp tf kf ++ va_pl L f)) ∨ ((cfAdd (un 0) (ua 0) pr (okTap dp rt sw sh) = 4) ∧ u = ("java/lang/IllegalStateException", cF cA q un ui ul ua vc ex wo tp tf kf ++ va_pl L f))) := by
  refine ent_Xi (own := RX6) (lv0 := [(0, .ref (q 0)), (1, .int pr), (2, .int dp), (3, .int rt), (4, .int sw), (5, .int sh)]) (by decide) rfl (Nat.le_of_ble_eq_true rfl) rfl ?_
  intro p e s m args below meth c A Q G hQ ht hlocks ret
  have hn := hI.1.2.1
  have hn1 := hI.1.1
  have hp := hI.2.1
  have ht4 := hI.1.2.2.2.1
  refine j_aload_n G dX6_addTap_0 rfl 0 rfl ?_
  refine j_iload_n G dX6_addTap_1 rfl 1 rfl ?_
  refine jXV_v G 6 0 (cC_X6_requireNode l D cA hfl q un ui ul ua vc ex wo tp tf kf L f pr) gX6_56 hd_X6_requireNode ⟨Nat.le_of_ble_eq_true rfl, Nat.le_of_ble_eq_true rfl⟩ ⟨Nat.le_of_ble_eq_true rfl, Nat.le_of_ble_eq_true rfl⟩ rfl rfl (Nat.le_of_ble_eq_true rfl) rfl rfl dX6_addTap_2 (fun E9 w9 hq9 => ?_) (fun w' hq9 => ?_)
  · rcases hq9 with ⟨h9, hu9⟩
    cases hu9
    exact j_out (post := fun _ => True) G hQ ht hlocks (Or.inl ⟨(cfAdd_1 h9), rfl⟩) (Nat.le_of_ble_eq_true rfl) (Nat.le_of_ble_eq_true rfl)
  obtain ⟨k2, hw9⟩ := hq9
  obtain rfl := hw9.symm
  refine j_iload_n G dX6_addTap_5 rfl 2 rfl ?_
  refine j_iconst (v := 0) G dX6_addTap_6 (by decide) ?_
  refine j_bipush (v := 20) G dX6_addTap_7 (by decide) ?_
  refine jS_i G (cC_X6_isOutside l D cA (cF cA q un ui ul ua vc ex wo tp tf kf ++ va_pl L f) dp 0 20) gX6_60 hd_X6_isOutside.2 ⟨Nat.le_of_ble_eq_true rfl, Nat.le_of_ble_eq_true rfl⟩ ⟨Nat.le_of_ble_eq_true rfl, Nat.le_of_ble_eq_true rfl⟩ rfl rfl (Nat.le_of_ble_eq_true rfl) dX6_addTap_9 (fun r w' hq9 => ?_)
  obtain ⟨hr9, hw9⟩ := hq9
  obtain rfl := hr9.symm
  obtain rfl := hw9.symm
  refine j_ifb_ne (tgt := 46) G dX6_addTap_12 (by decide) (fun c12 => ?_) (fun c12 => ?_)
  · exact j_thr G hfl hQ ht hlocks (names := ["java/lang/RuntimeException", "java/lang/Exception"]) ft_IAE ft_names wd_410 wd_52 rfl st_78 at_IAE og_IAE dX6_addTap_46 dX6_addTap_49 dX6_addTap_50 dX6_addTap_52 dX6_addTap_55 ⟨Nat.le_of_ble_eq_true rfl, Nat.le_of_ble_eq_true rfl, Nat.le_of_ble_eq_true rfl, Nat.le_of_ble_eq_true rfl⟩ (Or.inr (Or.inl ⟨(cfAdd_2 k2 (fun h8 => c12 h8.1)), rfl⟩)) (Nat.le_of_ble_eq_true rfl) (Nat.le_of_ble_eq_true rfl)
  · refine j_iload_n G dX6_addTap_15 rfl 3 rfl ?_
    refine j_iconst (v := 1) G dX6_addTap_16 (by decide) ?_
    refine j_bipush (v := 20) G dX6_addTap_17 (by decide) ?_
    refine jS_i G (cC_X6_isOutside l D cA (cF cA q un ui ul ua vc ex wo tp tf kf ++ va_pl L f) rt 1 20) gX6_60 hd_X6_isOutside.2 ⟨Nat.le_of_ble_eq_true rfl, Nat.le_of_ble_eq_true rfl⟩ ⟨Nat.le_of_ble_eq_true rfl, Nat.le_of_ble_eq_true rfl⟩ rfl rfl (Nat.le_of_ble_eq_true rfl) dX6_addTap_19 (fun r w' hq9 => ?_)
    obtain ⟨hr9, hw9⟩ := hq9
    obtain rfl := hr9.symm
    obtain rfl := hw9.symm
    refine j_ifb_ne (tgt := 46) G dX6_addTap_22 (by decide) (fun c22 => ?_) (fun c22 => ?_)
    · exact j_thr G hfl hQ ht hlocks (names := ["java/lang/RuntimeException", "java/lang/Exception"]) ft_IAE ft_names wd_410 wd_52 rfl st_78 at_IAE og_IAE dX6_addTap_46 dX6_addTap_49 dX6_addTap_50 dX6_addTap_52 dX6_addTap_55 ⟨Nat.le_of_ble_eq_true rfl, Nat.le_of_ble_eq_true rfl, Nat.le_of_ble_eq_true rfl, Nat.le_of_ble_eq_true rfl⟩ (Or.inr (Or.inl ⟨(cfAdd_2 k2 (fun h8 => c22 h8.2.1)), rfl⟩)) (Nat.le_of_ble_eq_true rfl) (Nat.le_of_ble_eq_true rfl)
    · refine j_iload G dX6_addTap_25 4 rfl ?_
      refine j_iconst (v := 1) G dX6_addTap_27 (by decide) ?_
      refine j_bipush (v := 6) G dX6_addTap_28 (by decide) ?_
      refine jS_i G (cC_X6_isOutside l D cA (cF cA q un ui ul ua vc ex wo tp tf kf ++ va_pl L f) sw 1 6) gX6_60 hd_X6_isOutside.2 ⟨Nat.le_of_ble_eq_true rfl, Nat.le_of_ble_eq_true rfl⟩ ⟨Nat.le_of_ble_eq_true rfl, Nat.le_of_ble_eq_true rfl⟩ rfl rfl (Nat.le_of_ble_eq_true rfl) dX6_addTap_30 (fun r w' hq9 => ?_)
      obtain ⟨hr9, hw9⟩ := hq9
      obtain rfl := hr9.symm
      obtain rfl := hw9.symm
      refine j_ifb_ne (tgt := 46) G dX6_addTap_33 (by decide) (fun c33 => ?_) (fun c33 => ?_)
      · exact j_thr G hfl hQ ht hlocks (names := ["java/lang/RuntimeException", "java/lang/Exception"]) ft_IAE ft_names wd_410 wd_52 rfl st_78 at_IAE og_IAE dX6_addTap_46 dX6_addTap_49 dX6_addTap_50 dX6_addTap_52 dX6_addTap_55 ⟨Nat.le_of_ble_eq_true rfl, Nat.le_of_ble_eq_true rfl, Nat.le_of_ble_eq_true rfl, Nat.le_of_ble_eq_true rfl⟩ (Or.inr (Or.inl ⟨(cfAdd_2 k2 (fun h8 => c33 h8.2.2.1)), rfl⟩)) (Nat.le_of_ble_eq_true rfl) (Nat.le_of_ble_eq_true rfl)
      · refine j_iload G dX6_addTap_36 5 rfl ?_
        refine j_iconst (v := 0) G dX6_addTap_38 (by decide) ?_
        refine j_iconst (v := 5) G dX6_addTap_39 (by decide) ?_
        refine jS_i G (cC_X6_isOutside l D cA (cF cA q un ui ul ua vc ex wo tp tf kf ++ va_pl L f) sh 0 5) gX6_60 hd_X6_isOutside.2 ⟨Nat.le_of_ble_eq_true rfl, Nat.le_of_ble_eq_true rfl⟩ ⟨Nat.le_of_ble_eq_true rfl, Nat.le_of_ble_eq_true rfl⟩ rfl rfl (Nat.le_of_ble_eq_true rfl) dX6_addTap_40 (fun r w' hq9 => ?_)
        obtain ⟨hr9, hw9⟩ := hq9
        obtain rfl := hr9.symm
        obtain rfl := hw9.symm
        refine j_ifb_eq (tgt := 56) G dX6_addTap_43 (by decide) (fun c43 => ?_) (fun c43 => ?_)
        · have hok : okTap dp rt sw sh := ⟨Decidable.not_not.mp c12, Decidable.not_not.mp c22, Decidable.not_not.mp c33, Decidable.not_not.mp c43⟩
          refine j_aload_n G dX6_addTap_56 rfl 0 rfl ?_
          refine j_iload_n G dX6_addTap_57 rfl 1 rfl ?_
          refine jXV_v G 6 0 (cC_X6_requireRoomBelow l D cA hfl q un ui ul ua vc ex wo tp tf kf L f ta ga ka pr hn k2 hPL) gX6_71 hd_X6_requireRoomBelow ⟨Nat.le_of_ble_eq_true rfl, Nat.le_of_ble_eq_true rfl⟩ ⟨Nat.le_of_ble_eq_true rfl, Nat.le_of_ble_eq_true rfl⟩ rfl rfl (Nat.le_of_ble_eq_true rfl) rfl rfl dX6_addTap_58 (fun E9 w9 hq9 => ?_) (fun w' hq9 => ?_)
          · rcases hq9 with ⟨h9, hu9⟩ | ⟨h9, hu9⟩
            · cases hu9
              exact j_out (post := fun _ => True) G hQ ht hlocks (Or.inr (Or.inr (Or.inl ⟨(cfAdd_3 k2 hok h9), rfl⟩))) (Nat.le_of_ble_eq_true rfl) (Nat.le_of_ble_eq_true rfl)
            · cases hu9
              exact j_out (post := fun _ => True) G hQ ht hlocks (Or.inr (Or.inr (Or.inr (⟨(cfAdd_4 k2 hok h9.1 ((full20 hn).mp h9.2)), rfl⟩)))) (Nat.le_of_ble_eq_true rfl) (Nat.le_of_ble_eq_true rfl)
          obtain ⟨k58, hw9⟩ := hq9
          obtain rfl := hw9.symm
          refine j_aload_n G dX6_addTap_61 rfl 0 rfl ?_
          refine gfX6_10 (v := .ref (q 1)) G 0 rfl rfl dX6_addTap_62 ?_
          refine j_iload_n G dX6_addTap_65 rfl 1 rfl ?_
          refine j_iload_n G dX6_addTap_66 rfl 2 rfl ?_
          refine jV_i G 5 1 (cC_X5_join l D cA q un ui ul ua vc ex wo tp tf kf L f pr dp (room20 hn k58.2)) gX6_74 hd_X5_join ⟨Nat.le_of_ble_eq_true rfl, Nat.le_of_ble_eq_true rfl⟩ ⟨Nat.le_of_ble_eq_true rfl, Nat.le_of_ble_eq_true rfl⟩ rfl rfl (Nat.le_of_ble_eq_true rfl) rfl rfl dX6_addTap_67 (fun r w' hq9 => ?_)
          obtain ⟨hr9, hw9⟩ := hq9
          obtain rfl := hr9.symm
          obtain rfl := hw9.symm
          refine j_w (w' := cF cA q (up un 0 (un 0 + 1)) ui ul (up (up ua 1 (upd (ua 1) (un 0) pr)) 2 (upd (ua 2) (un 0) dp)) vc ex wo tp tf kf ++ va_pl L f) rfl ?_
          refine j_istore (lv' := [(6, .int (nI (un 0))), (0, .ref (q 0)), (1, .int pr), (2, .int dp), (3, .int rt), (4, .int sw), (5, .int sh)]) G dX6_addTap_70 (by decide) rfl ?_
          refine j_aload_n G dX6_addTap_72 rfl 1 rfl ?_
          refine gfX6_18 (v := .ref (q 7)) G 0 rfl rfl dX6_addTap_73 ?_
          refine j_iload G dX6_addTap_76 0 rfl ?_
          have hr20 := room20 hn k58.2
          refine j_new (T := TX4) (N := 6) (ci := 4) (fs := [.int 0, .int 0, .int 0, .null, .int 0, .int 0]) G inX4 rfl tyX4 tyX4_ok wd_99 wd_478 wd_55 (fun j hj => by rcases (show j = 0 ∨ j = 1 ∨ j = 2 ∨ j = 3 ∨ j = 4 ∨ j = 5 by omega) with rfl | rfl | rfl | rfl | rfl | rfl <;> rfl) ⟨Nat.le_of_ble_eq_true rfl, Nat.le_of_ble_eq_true rfl⟩ dX6_addTap_78 (fun a9 => ?_)
          refine j_hD (fun hD1 => ?_)
          have ha9 : a9 ∉ L := va_pl_fresh2 hD1
          have hm9 : a9 ∈ L ++ [a9] := by simp
          refine j_w (w' := cF cA q (up un 0 (un 0 + 1)) ui ul (up (up ua 1 (upd (ua 1) (un 0) pr)) 2 (upd (ua 2) (un 0) dp)) vc ex wo tp tf kf ++ va_pl (L ++ [a9]) (va_up f a9 (.inr (4, [.int 0, .int 0, .int 0, .null, .int 0, .int 0])))) (pl_new hD1) ?_
          refine j_dup G dX6_addTap_81 rfl ?_
          refine j_iload_n G dX6_addTap_82 rfl 4 rfl ?_
          refine j_iload G dX6_addTap_83 5 rfl ?_
          refine j_iload G dX6_addTap_85 6 rfl ?_
          obtain ⟨x0, ex0⟩ := pl_at (X := cF cA q (up un 0 (un 0 + 1)) ui ul (up (up ua 1 (upd (ua 1) (un 0) pr)) 2 (upd (ua 2) (un 0) dp)) vc ex wo tp tf kf) (L := L ++ [a9]) (f := va_up f a9 (.inr (4, [.int 0, .int 0, .int 0, .null, .int 0, .int 0]))) hm9 vu_s
          refine j_hD (fun hD2 => ?_)
          refine jI_v G (cC_X4_init l D cA _ x0 a9 ex0 rt sw sh) wd_479 wd_480 (show Cond.initialized yX4_init.cls ∈ WS from wd_55) wd_481 rfl hd_X4_init.2 ⟨Nat.le_of_ble_eq_true rfl, Nat.le_of_ble_eq_true rfl⟩ ⟨Nat.le_of_ble_eq_true rfl, Nat.le_of_ble_eq_true rfl⟩ rfl rfl (Nat.le_of_ble_eq_true rfl) dX6_addTap_87 (fun w' hq9 => ?_)
          obtain ⟨b9, hw9⟩ := hq9
          obtain rfl := hw9.symm
          refine j_w (w' := (cF cA q (up un 0 (un 0 + 1)) ui ul (up (up ua 1 (upd (ua 1) (un 0) pr)) 2 (upd (ua 2) (un 0) dp)) vc ex wo tp tf kf ++ va_pl (L ++ [a9]) (va_up f a9 (.inr (4, [.int rt, .int sw, .int sh, .ref b9, .int 0, .int 0])))) ++ [(b9, .inl (cA 0, 200, .inl (fun _ => 0)))]) (congrArg (fun w => w ++ [(b9, .inl (cA 0, 200, .inl (fun _ => 0)))]) (pl_re hD2 hm9 ex0)) ?_
          refine j_hD (fun hD3 => ?_)
          have hb9 : b9 ∉ L ++ [a9] := va_pl_fresh2 hD3
          have hb1 : b9 ∉ L := fun h8 => hb9 (List.mem_append_left _ h8)
          have hab : a9 ≠ b9 := fun h8 => hb9 (by rw [← h8]; exact hm9)
          refine j_w (w' := cF cA q (up un 0 (un 0 + 1)) ui ul (up (up ua 1 (upd (ua 1) (un 0) pr)) 2 (upd (ua 2) (un 0) dp)) vc ex wo tp tf kf ++ va_pl (L ++ [a9] ++ [b9]) (va_up (va_up f a9 (.inr (4, [.int rt, .int sw, .int sh, .ref b9, .int 0, .int 0]))) b9 (.inl (cA 0, 200, .inl (fun _ => 0))))) (pl_new hD3) ?_
          obtain ⟨x1, ex1⟩ := pl_at (X := cF cA q (up un 0 (un 0 + 1)) ui ul (up (up ua 1 (upd (ua 1) (un 0) pr)) 2 (upd (ua 2) (un 0) dp)) vc ex wo tp tf kf) (L := L ++ [a9] ++ [b9]) (f := va_up (va_up f a9 (.inr (4, [.int rt, .int sw, .int sh, .ref b9, .int 0, .int 0]))) b9 (.inl (cA 0, 200, .inl (fun _ => 0)))) (List.mem_append_left _ hm9) ((vu_n hab).trans vu_s)
          have Z9 := hI.2.2.2.2.2.1 (un 0) (Nat.le_refl _)
          have P9 := (PL_g.mp hPL).addT (n := un 0) Z9.1 ha9 hb1 hab Z9.2.1 (tot_z Z9.2.2 (un 1) hI.1.2.2.1) Z9.2.2 rt sw sh
          refine j_astT (w' := cF cA q (up un 0 (un 0 + 1)) ui ul (up (up ua 1 (upd (ua 1) (un 0) pr)) 2 (upd (ua 2) (un 0) dp)) vc ex wo tp (va_up tf (un 0) (some a9)) kf ++ va_pl (L ++ [a9] ++ [b9]) (va_up (va_up f a9 (.inr (4, [.int rt, .int sw, .int sh, .ref b9, .int 0, .int 0]))) b9 (.inl (cA 0, 200, .inl (fun _ => 0))))) G 7 2 x1 4 rfl rfl ex1 rfl rfl hr20 (Nat.le_of_ble_eq_true rfl) dX6_addTap_90 rfl ?_
          refine j_iload G dX6_addTap_91 0 rfl ?_
          refine j_cs (k' := 4) (n' := 218) (Nat.le_of_ble_eq_true rfl) (Nat.le_of_ble_eq_true rfl) ?_
          exact ret _ _ _ _ dX6_addTap_93 rfl ⟨_, _, _, _, _, P9, (cfAdd_0 k2 hok k58.1 (fun h8 => (full20 hn).mpr h8 k58.2)), rfl, rfl⟩
        · exact j_thr G hfl hQ ht hlocks (names := ["java/lang/RuntimeException", "java/lang/Exception"]) ft_IAE ft_names wd_410 wd_52 rfl st_78 at_IAE og_IAE dX6_addTap_46 dX6_addTap_49 dX6_addTap_50 dX6_addTap_52 dX6_addTap_55 ⟨Nat.le_of_ble_eq_true rfl, Nat.le_of_ble_eq_true rfl, Nat.le_of_ble_eq_true rfl, Nat.le_of_ble_eq_true rfl⟩ (Or.inr (Or.inl ⟨(cfAdd_2 k2 (fun h8 => c43 h8.2.2.2)), rfl⟩)) (Nat.le_of_ble_eq_true rfl) (Nat.le_of_ble_eq_true rfl)
