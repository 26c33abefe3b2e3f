/-! THE LAW, case by case, on (printed by gen_law.py) -/
set_option maxHeartbeats 4000000 in
set_option maxRecDepth 100000 in
theorem lw_tapByYield {p : Program} {l : Launch} {e : Env} {s : State} {m : MethodId} {args : Array Value} {below : List Frame} {meth : Method} {c : Code} {D : va_G} {cA : Nat → ClassId} {A : Nat → Prop} {Q : State → Prop} {k n : Nat} (G : GX p s m args c cL_law 9 RL D cA A) (hfl : l.stackTraces = false) {bs Ls : Nat} {xs : Nat → Int32} (hX : va_X bs Ls xs s s.heap) (hbl : bs < s.heap.size) (hbA : ¬ A bs) (hLs : Ls ≤ 3072) {i : Nat} (hi : i + 5 < Ls) (hk : k + 8 ≤ 603072) (hn9 : n + 256 ≤ 7211114) (q qm : Nat → Nat) (un : Nat → Nat) (ui : Nat → Int32) (ul : Nat → Int64) (ua : Nat → Nat → Int32) (vc ex wo tp : Nat → Int32) (tf kf : Nat → Option Nat) (L : List Nat) (f : Nat → va_E) (ta ga ka : Nat → Nat) (co : Int32) (oa ob : Nat) (g : Nat → Int64) (gd : Nat → UInt64) (hI : INV un ui ua) (hPL : PL cA un ua L f tf kf ta ga ka) (hN : ∀ (un : Nat → Nat) (ui : Nat → Int32) (ul : Nat → Int64) (ua : Nat → Nat → Int32) (vc ex wo tp : Nat → Int32) (tf kf : Nat → Option Nat) (L : List Nat) (f : Nat → va_E) (ta ga ka : Nat → Nat) (co : Int32) (g : Nat → Int64) (gd : Nat → UInt64), INV un ui ua → PL cA un ua L f tf kf ta ga ka → J p l e (RM 2048 94400 603072 7211114) s m args below meth c 9 D A (mW cA qm un ui ul ua co ++ (((cF cA q un ui ul ua vc ex wo tp tf kf ++ va_pl L f) ++ [(oa, .inl (cA 4, 1, .inr (.inl g)))]) ++ [(ob, .inl (cA 5, 1, .inr (.inr (.inr (.inl gd)))))])) (k + 8) (n + 256) Q 2045 [(0, .ref bs), (1, .ref (q 0)), (2, .ref (qm 0)), (3, .ref oa), (4, .ref ob), (5, .int (nI i))] []) : J p l e (RM 2048 94400 603072 7211114) s m args below meth c 9 D A (mW cA qm un ui ul ua co ++ (((cF cA q un ui ul ua vc ex wo tp tf kf ++ va_pl L f) ++ [(oa, .inl (cA 4, 1, .inr (.inl g)))]) ++ [(ob, .inl (cA 5, 1, .inr (.inr (.inr (.inl gd)))))])) k n Q 1118 [(0, .ref bs), (1, .ref (q 0)), (2, .ref (qm 0)), (3, .ref oa), (4, .ref ob), (5, .int (nI i))] [] := by
  refine j_aload_n G dL_law_1118 rfl 1 rfl ?_
  refine j_aload_n G dL_law_1119 rfl 0 rfl ?_
  refine j_iload G dL_law_1120 5 rfl ?_
  refine j_iconst (v := 1) G dL_law_1122 (by decide) ?_
  refine j_iadd G dL_law_1123 ?_
  refine j_rwi (nI_add i 1) ?_
  refine j_sldN (j := i + 1) G hX hbl hbA (by omega) (by omega) dL_law_1124 ?_
  refine j_aload_n G dL_law_1125 rfl 3 rfl ?_
  refine jSW_i G (fw_W (cW_tapByYield l D cA (b0 := cF cA q un ui ul ua vc ex wo tp tf kf ++ va_pl L f) rfl (xs (i + 1)) g (cC_X6_tapByYield l D cA hfl q un ui ul ua vc ex wo tp tf kf L f ta ga ka (xs (i + 1)) hI.1.2.1 hPL) (fun E8 b8 h8 => congrArg Prod.fst h8.2)) (mW cA qm un ui ul ua co) [(ob, .inl (cA 5, 1, .inr (.inr (.inr (.inl gd)))))] (List.append_assoc _ _ _).symm) (gw_tapByYield wd_709) hd_L_tapByYield.2 ⟨Nat.le_of_ble_eq_true rfl, Nat.le_of_ble_eq_true rfl⟩ ⟨by show _ ≤ 603072; omega, by show _ ≤ 7211114; omega⟩ rfl rfl (Nat.le_of_ble_eq_true rfl) dL_law_1126 (fun r w9 hq9 => ?_)
  obtain ⟨b1, hq8, hw9⟩ := hq9
  have SI : ∀ j, j < un 0 → ((ndP (rkT (ua 0) (fun j => totS (ua 8) j (un 1)) wo (un 0)) (un 0) (xs (i + 1))) j ↔ (yldP (ua 0) (fun j => totS (ua 8) j (un 1)) (un 0) (xs (i + 1))) j) := fun j hj => yld_iff (fun o _ => (totS_NB hI.2.2.2.1.2.2.2.2.2 o (un 1) hI.1.2.2.1).ge0 (by have := hI.1.2.2.1; omega)) hj
  rcases hq8 with ⟨v9, b2, hp9, hr9, hb9⟩ | ⟨E9, b2, hp9, hd9, hb9⟩
  · obtain ⟨hok, hv9, hb8⟩ := hp9
    subst hw9
    subst hb9
    subst hr9
    subst hb8
    subst hv9
    have hcf : cfRank (yldP (ua 0) (fun j => totS (ua 8) j (un 1)) (un 0) (xs (i + 1))) (un 0) = 0 := ((rank_congr SI).symm.trans hok)
    refine j_w (w' := mW cA qm un ui ul ua co ++ (((cF cA q un ui ul ua vc ex (rkT (ua 0) (fun j => totS (ua 8) j (un 1)) wo (un 0)) tp tf kf ++ va_pl L f) ++ [(oa, .inl (cA 4, 1, .inr (.inl (vp_updL g 0 (nI (fnd (ndP (rkT (ua 0) (fun j => totS (ua 8) j (un 1)) wo (un 0)) (un 0) (xs (i + 1))) (un 0))).toInt64))))]) ++ [(ob, .inl (cA 5, 1, .inr (.inr (.inr (.inl gd)))))])) (List.append_assoc _ _ _) ?_
    refine j_istore (lv' := [(6, .int 0), (0, .ref bs), (1, .ref (q 0)), (2, .ref (qm 0)), (3, .ref oa), (4, .ref ob), (5, .int (nI i))]) G dL_law_1129 (by decide) rfl ?_
    refine j_aload_n G dL_law_1131 rfl 3 rfl ?_
    refine j_aload_n G dL_law_1132 rfl 1 rfl ?_
    refine j_iload G dL_law_1133 6 rfl ?_
    refine j_iconst (v := 1) G dL_law_1135 (by decide) ?_
    refine j_iadd G dL_law_1136 ?_
    refine j_rwi (nI_add i 1) ?_
    refine j_sldN (j := i + 1) G hX hbl hbA (by omega) (by omega) dL_law_1137 ?_
    refine jV_i G 7 0 (fw_i (cM_tapByYield l D cA qm un ui ul ua co (xs (i + 1)) hI.1.2.1 hI.1.2.2.1) [] (((cF cA q un ui ul ua vc ex (rkT (ua 0) (fun j => totS (ua 8) j (un 1)) wo (un 0)) tp tf kf ++ va_pl L f) ++ [(oa, .inl (cA 4, 1, .inr (.inl (vp_updL g 0 (nI (fnd (ndP (rkT (ua 0) (fun j => totS (ua 8) j (un 1)) wo (un 0)) (un 0) (xs (i + 1))) (un 0))).toInt64))))]) ++ [(ob, .inl (cA 5, 1, .inr (.inr (.inr (.inl gd)))))]) rfl) gL_176 hd_X7_tapByYield ⟨Nat.le_of_ble_eq_true rfl, Nat.le_of_ble_eq_true rfl⟩ ⟨by show _ ≤ 603072; omega, by show _ ≤ 7211114; omega⟩ rfl rfl (Nat.le_of_ble_eq_true rfl) rfl rfl dL_law_1138 (fun r w9 hq9 => ?_)
    obtain ⟨b1, hq8, hw9⟩ := hq9
    rcases hq8 with ⟨hc9, hr9, hb9⟩ | ⟨hc9, hb9⟩
    · subst hw9
      subst hb9
      subst hr9
      refine j_w (w' := mW cA qm un ui ul ua 0 ++ (((cF cA q un ui ul ua vc ex (rkT (ua 0) (fun j => totS (ua 8) j (un 1)) wo (un 0)) tp tf kf ++ va_pl L f) ++ [(oa, .inl (cA 4, 1, .inr (.inl (vp_updL g 0 (nI (fnd (ndP (rkT (ua 0) (fun j => totS (ua 8) j (un 1)) wo (un 0)) (un 0) (xs (i + 1))) (un 0))).toInt64))))]) ++ [(ob, .inl (cA 5, 1, .inr (.inr (.inr (.inl gd)))))])) rfl ?_
      refine j_istore (lv' := [(7, .int (nI (fnd (yldP (ua 0) (fun j => totS (ua 8) j (un 1)) (un 0) (xs (i + 1))) (un 0)))), (6, .int 0), (0, .ref bs), (1, .ref (q 0)), (2, .ref (qm 0)), (3, .ref oa), (4, .ref ob), (5, .int (nI i))]) G dL_law_1141 (by decide) rfl ?_
      refine j_aload_n G dL_law_1143 rfl 4 rfl ?_
      refine jV_i G 7 0 (fw_i (cM_thrown l D cA qm un ui ul ua 0  ) [] (((cF cA q un ui ul ua vc ex (rkT (ua 0) (fun j => totS (ua 8) j (un 1)) wo (un 0)) tp tf kf ++ va_pl L f) ++ [(oa, .inl (cA 4, 1, .inr (.inl (vp_updL g 0 (nI (fnd (ndP (rkT (ua 0) (fun j => totS (ua 8) j (un 1)) wo (un 0)) (un 0) (xs (i + 1))) (un 0))).toInt64))))]) ++ [(ob, .inl (cA 5, 1, .inr (.inr (.inr (.inl gd)))))]) rfl) gL_122 hd_X7_thrown ⟨Nat.le_of_ble_eq_true rfl, Nat.le_of_ble_eq_true rfl⟩ ⟨by show _ ≤ 603072; omega, by show _ ≤ 7211114; omega⟩ rfl rfl (Nat.le_of_ble_eq_true rfl) rfl rfl dL_law_1144 (fun r w9 hq9 => ?_)
      obtain ⟨b1, hq8, hw9⟩ := hq9
      obtain ⟨hr9, hb9⟩ := hq8
      subst hw9
      subst hb9
      subst hr9
      refine j_w (w' := mW cA qm un ui ul ua 0 ++ (((cF cA q un ui ul ua vc ex (rkT (ua 0) (fun j => totS (ua 8) j (un 1)) wo (un 0)) tp tf kf ++ va_pl L f) ++ [(oa, .inl (cA 4, 1, .inr (.inl (vp_updL g 0 (nI (fnd (ndP (rkT (ua 0) (fun j => totS (ua 8) j (un 1)) wo (un 0)) (un 0) (xs (i + 1))) (un 0))).toInt64))))]) ++ [(ob, .inl (cA 5, 1, .inr (.inr (.inr (.inl gd)))))])) rfl ?_
      refine j_iload G dL_law_1147 1 rfl ?_
      refine j_icmp_eq (tgt := 1154) G dL_law_1149 (by decide) (fun c1149 => ?_) (fun c1149 => absurd rfl c1149)
      refine j_iload G dL_law_1154 1 rfl ?_
      refine j_if_ne (tgt := 1171) G dL_law_1156 (by decide) (fun c1156 => absurd c1156 (by decide)) (fun _ => ?_)
      refine j_aload_n G dL_law_1159 rfl 5 rfl ?_
      refine j_iconst (v := 0) G dL_law_1160 (by decide) ?_
      refine j_lald G _ wq_o (show vp_in (nI 0) 1 from vp_in_nI (by decide) (by decide)) dL_law_1161 ?_
      refine j_rwl (show _ = (nI (fnd (ndP (rkT (ua 0) (fun j => totS (ua 8) j (un 1)) wo (un 0)) (un 0) (xs (i + 1))) (un 0))).toInt64 from rfl) ?_
      refine j_iload G dL_law_1162 0 rfl ?_
      refine j_i2l G dL_law_1164 ?_
      refine j_lcmp G dL_law_1165 ?_
      refine j_if_eq (tgt := 1171) G dL_law_1166 (by decide) (fun c1166 => ?_) (fun c1166 => absurd (lgz.mpr (congrArg Int32.toInt64 (congrArg nI (fnd_congr SI)))) c1166)
      refine j_goto (tgt := 2045) G dL_law_1171 (by decide) ?_
      refine j_sub (lv' := [(0, .ref bs), (1, .ref (q 0)), (2, .ref (qm 0)), (3, .ref oa), (4, .ref ob), (5, .int (nI i))]) [2, 3, 4, 5, 6, 7] rfl ?_
      refine j_cs (k' := k + 8) (n' := n + 256) (by omega) (by omega) ?_
      refine j_w (w' := mW cA qm un ui ul ua 0 ++ (((cF cA q un ui ul ua vc ex (rkT (ua 0) (fun j => totS (ua 8) j (un 1)) wo (un 0)) tp tf kf ++ va_pl L f) ++ [(oa, .inl (cA 4, 1, .inr (.inl (vp_updL g 0 (nI (fnd (ndP (rkT (ua 0) (fun j => totS (ua 8) j (un 1)) wo (un 0)) (un 0) (xs (i + 1))) (un 0))).toInt64))))]) ++ [(ob, .inl (cA 5, 1, .inr (.inr (.inr (.inl gd)))))])) rfl ?_
      exact hN un ui ul ua vc ex (rkT (ua 0) (fun j => totS (ua 8) j (un 1)) wo (un 0)) tp tf kf L f ta ga ka 0 (vp_updL g 0 (nI (fnd (ndP (rkT (ua 0) (fun j => totS (ua 8) j (un 1)) wo (un 0)) (un 0) (xs (i + 1))) (un 0))).toInt64) gd hI hPL
    · exact absurd hcf hc9
  · obtain ⟨hc, he⟩ := hp9
    cases he
    have hr9 : r = 1 := hd9.2
    subst hw9
    subst hb9
    subst hr9
    have hcf : cfRank (yldP (ua 0) (fun j => totS (ua 8) j (un 1)) (un 0) (xs (i + 1))) (un 0) = 1 := ((rank_congr SI).symm.trans hc)
    refine j_w (w' := mW cA qm un ui ul ua co ++ (((cF cA q un ui ul ua vc ex (rkT (ua 0) (fun j => totS (ua 8) j (un 1)) wo (un 0)) tp tf kf ++ va_pl L f) ++ [(oa, .inl (cA 4, 1, .inr (.inl g)))]) ++ [(ob, .inl (cA 5, 1, .inr (.inr (.inr (.inl gd)))))])) (List.append_assoc _ _ _) ?_
    refine j_istore (lv' := [(6, .int 1), (0, .ref bs), (1, .ref (q 0)), (2, .ref (qm 0)), (3, .ref oa), (4, .ref ob), (5, .int (nI i))]) G dL_law_1129 (by decide) rfl ?_
    refine j_aload_n G dL_law_1131 rfl 3 rfl ?_
    refine j_aload_n G dL_law_1132 rfl 1 rfl ?_
    refine j_iload G dL_law_1133 6 rfl ?_
    refine j_iconst (v := 1) G dL_law_1135 (by decide) ?_
    refine j_iadd G dL_law_1136 ?_
    refine j_rwi (nI_add i 1) ?_
    refine j_sldN (j := i + 1) G hX hbl hbA (by omega) (by omega) dL_law_1137 ?_
    refine jV_i G 7 0 (fw_i (cM_tapByYield l D cA qm un ui ul ua co (xs (i + 1)) hI.1.2.1 hI.1.2.2.1) [] (((cF cA q un ui ul ua vc ex (rkT (ua 0) (fun j => totS (ua 8) j (un 1)) wo (un 0)) tp tf kf ++ va_pl L f) ++ [(oa, .inl (cA 4, 1, .inr (.inl g)))]) ++ [(ob, .inl (cA 5, 1, .inr (.inr (.inr (.inl gd)))))]) rfl) gL_176 hd_X7_tapByYield ⟨Nat.le_of_ble_eq_true rfl, Nat.le_of_ble_eq_true rfl⟩ ⟨by show _ ≤ 603072; omega, by show _ ≤ 7211114; omega⟩ rfl rfl (Nat.le_of_ble_eq_true rfl) rfl rfl dL_law_1138 (fun r w9 hq9 => ?_)
    obtain ⟨b1, hq8, hw9⟩ := hq9
    rcases hq8 with ⟨hc9, hr9, hb9⟩ | ⟨hc9, hb9⟩
    · exact absurd (hcf.symm.trans hc9) (by decide)
    · rw [hcf] at hb9
      subst hw9
      subst hb9
      refine j_w (w' := mW cA qm un ui ul ua 1 ++ (((cF cA q un ui ul ua vc ex (rkT (ua 0) (fun j => totS (ua 8) j (un 1)) wo (un 0)) tp tf kf ++ va_pl L f) ++ [(oa, .inl (cA 4, 1, .inr (.inl g)))]) ++ [(ob, .inl (cA 5, 1, .inr (.inr (.inr (.inl gd)))))])) rfl ?_
      refine j_istore (lv' := [(7, .int r), (6, .int 1), (0, .ref bs), (1, .ref (q 0)), (2, .ref (qm 0)), (3, .ref oa), (4, .ref ob), (5, .int (nI i))]) G dL_law_1141 (by decide) rfl ?_
      refine j_aload_n G dL_law_1143 rfl 4 rfl ?_
      refine jV_i G 7 0 (fw_i (cM_thrown l D cA qm un ui ul ua 1  ) [] (((cF cA q un ui ul ua vc ex (rkT (ua 0) (fun j => totS (ua 8) j (un 1)) wo (un 0)) tp tf kf ++ va_pl L f) ++ [(oa, .inl (cA 4, 1, .inr (.inl g)))]) ++ [(ob, .inl (cA 5, 1, .inr (.inr (.inr (.inl gd)))))]) rfl) gL_122 hd_X7_thrown ⟨Nat.le_of_ble_eq_true rfl, Nat.le_of_ble_eq_true rfl⟩ ⟨by show _ ≤ 603072; omega, by show _ ≤ 7211114; omega⟩ rfl rfl (Nat.le_of_ble_eq_true rfl) rfl rfl dL_law_1144 (fun r w9 hq9 => ?_)
      obtain ⟨b1, hq8, hw9⟩ := hq9
      obtain ⟨hr9, hb9⟩ := hq8
      subst hw9
      subst hb9
      subst hr9
      refine j_w (w' := mW cA qm un ui ul ua 1 ++ (((cF cA q un ui ul ua vc ex (rkT (ua 0) (fun j => totS (ua 8) j (un 1)) wo (un 0)) tp tf kf ++ va_pl L f) ++ [(oa, .inl (cA 4, 1, .inr (.inl g)))]) ++ [(ob, .inl (cA 5, 1, .inr (.inr (.inr (.inl gd)))))])) rfl ?_
      refine j_iload G dL_law_1147 1 rfl ?_
      refine j_icmp_eq (tgt := 1154) G dL_law_1149 (by decide) (fun c1149 => ?_) (fun c1149 => absurd rfl c1149)
      refine j_iload G dL_law_1154 1 rfl ?_
      refine j_if_ne (tgt := 1171) G dL_law_1156 (by decide) (fun _ => ?_) (fun c1156 => absurd c1156 (by decide))
      refine j_goto (tgt := 2045) G dL_law_1171 (by decide) ?_
      refine j_sub (lv' := [(0, .ref bs), (1, .ref (q 0)), (2, .ref (qm 0)), (3, .ref oa), (4, .ref ob), (5, .int (nI i))]) [2, 3, 4, 5, 6, 7] rfl ?_
      refine j_cs (k' := k + 8) (n' := n + 256) (by omega) (by omega) ?_
      refine j_w (w' := mW cA qm un ui ul ua 1 ++ (((cF cA q un ui ul ua vc ex (rkT (ua 0) (fun j => totS (ua 8) j (un 1)) wo (un 0)) tp tf kf ++ va_pl L f) ++ [(oa, .inl (cA 4, 1, .inr (.inl g)))]) ++ [(ob, .inl (cA 5, 1, .inr (.inr (.inr (.inl gd)))))])) rfl ?_
      exact hN un ui ul ua vc ex (rkT (ua 0) (fun j => totS (ua 8) j (un 1)) wo (un 0)) tp tf kf L f ta ga ka 1 g gd hI hPL
set_option maxHeartbeats 4000000 in
set_option maxRecDepth 100000 in
theorem lw_addTank {p : Program} {l : Launch} {e : Env} {s : State} {m : MethodId} {args : Array Value} {below : List Frame} {meth : Method} {c : Code} {D : va_G} {cA : Nat → ClassId} {A : Nat → Prop} {Q : State → Prop} {k n : Nat} (G : GX p s m args c cL_law 9 RL D cA A) (hfl : l.stackTraces = false) {bs Ls : Nat} {xs : Nat → Int32} (hX : va_X bs Ls xs s s.heap) (hbl : bs < s.heap.size) (hbA : ¬ A bs) (hLs : Ls ≤ 3072) {i : Nat} (hi : i + 5 < Ls) (hk : k + 8 ≤ 603072) (hn9 : n + 256 ≤ 7211114) (q qm : Nat → Nat) (un : Nat → Nat) (ui : Nat → Int32) (ul : Nat → Int64) (ua : Nat → Nat → Int32) (vc ex wo tp : Nat → Int32) (tf kf : Nat → Option Nat) (L : List Nat) (f : Nat → va_E) (ta ga ka : Nat → Nat) (co : Int32) (oa ob : Nat) (g : Nat → Int64) (gd : Nat → UInt64) (hI : INV un ui ua) (hPL : PL cA un ua L f tf kf ta ga ka) (hN : ∀ (un : Nat → Nat) (ui : Nat → Int32) (ul : Nat → Int64) (ua : Nat → Nat → Int32) (vc ex wo tp : Nat → Int32) (tf kf : Nat → Option Nat) (L : List Nat) (f : Nat → va_E) (ta ga ka : Nat → Nat) (co : Int32) (g : Nat → Int64) (gd : Nat → UInt64), INV un ui ua → PL cA un ua L f tf kf ta ga ka → J p l e (RM 2048 94400 603072 7211114) s m args below meth c 9 D A (mW cA qm un ui ul ua co ++ (((cF cA q un ui ul ua vc ex wo tp tf kf ++ va_pl L f) ++ [(oa, .inl (cA 4, 1, .inr (.inl g)))]) ++ [(ob, .inl (cA 5, 1, .inr (.inr (.inr (.inl gd)))))])) (k + 8) (n + 256) Q 2045 [(0, .ref bs), (1, .ref (q 0)), (2, .ref (qm 0)), (3, .ref oa), (4, .ref ob), (5, .int (nI i))] []) : J p l e (RM 2048 94400 603072 7211114) s m args below meth c 9 D A (mW cA qm un ui ul ua co ++ (((cF cA q un ui ul ua vc ex wo tp tf kf ++ va_pl L f) ++ [(oa, .inl (cA 4, 1, .inr (.inl g)))]) ++ [(ob, .inl (cA 5, 1, .inr (.inr (.inr (.inl gd)))))])) k n Q 1174 [(0, .ref bs), (1, .ref (q 0)), (2, .ref (qm 0)), (3, .ref oa), (4, .ref ob), (5, .int (nI i))] [] := by
  refine j_aload_n G dL_law_1174 rfl 1 rfl ?_
  refine j_aload_n G dL_law_1175 rfl 0 rfl ?_
  refine j_iload G dL_law_1176 5 rfl ?_
  refine j_iconst (v := 1) G dL_law_1178 (by decide) ?_
  refine j_iadd G dL_law_1179 ?_
  refine j_rwi (nI_add i 1) ?_
  refine j_sldN (j := i + 1) G hX hbl hbA (by omega) (by omega) dL_law_1180 ?_
  refine j_aload_n G dL_law_1181 rfl 3 rfl ?_
  refine jSW_i G (fw_W (cW_addTank l D cA (b0 := cF cA q un ui ul ua vc ex wo tp tf kf ++ va_pl L f) rfl (xs (i + 1)) g (cC_X6_addTank l D cA hfl q un ui ul ua vc ex wo tp tf kf L f ta ga ka (xs (i + 1)) hI hPL) (fun E8 b8 h8 => h8.elim (fun h8 => Or.inl (congrArg Prod.fst h8.2)) (fun h8 => Or.inr ((congrArg Prod.fst h8.2))))) (mW cA qm un ui ul ua co) [(ob, .inl (cA 5, 1, .inr (.inr (.inr (.inl gd)))))] (List.append_assoc _ _ _).symm) (gw_addTank wd_716) hd_L_addTank.2 ⟨Nat.le_of_ble_eq_true rfl, Nat.le_of_ble_eq_true rfl⟩ ⟨by show _ ≤ 603072; omega, by show _ ≤ 7211114; omega⟩ rfl rfl (Nat.le_of_ble_eq_true rfl) dL_law_1182 (fun r w9 hq9 => ?_)
  obtain ⟨b1, hq8, hw9⟩ := hq9
  rcases hq8 with ⟨v9, b2, hp9, hr9, hb9⟩ | ⟨E9, b2, hp9, hd9, hb9⟩
  · obtain ⟨L9, f9, kf9, ka9, P9, hok, hv9, hb8⟩ := hp9
    subst hw9
    subst hb9
    subst hr9
    subst hb8
    subst hv9
    have hcf : cfAddTank (un 2) (xs (i + 1)) = 0 := hok
    refine j_w (w' := mW cA qm un ui ul ua co ++ (((cF cA q (up un 2 (un 2 + 1)) ui ul ua vc ex wo tp tf kf9 ++ va_pl L9 f9) ++ [(oa, .inl (cA 4, 1, .inr (.inl (vp_updL g 0 (nI (un 2)).toInt64))))]) ++ [(ob, .inl (cA 5, 1, .inr (.inr (.inr (.inl gd)))))])) (List.append_assoc _ _ _) ?_
    refine j_istore (lv' := [(6, .int 0), (0, .ref bs), (1, .ref (q 0)), (2, .ref (qm 0)), (3, .ref oa), (4, .ref ob), (5, .int (nI i))]) G dL_law_1185 (by decide) rfl ?_
    refine j_aload_n G dL_law_1187 rfl 3 rfl ?_
    refine j_aload_n G dL_law_1188 rfl 1 rfl ?_
    refine j_iload G dL_law_1189 6 rfl ?_
    refine j_iconst (v := 1) G dL_law_1191 (by decide) ?_
    refine j_iadd G dL_law_1192 ?_
    refine j_rwi (nI_add i 1) ?_
    refine j_sldN (j := i + 1) G hX hbl hbA (by omega) (by omega) dL_law_1193 ?_
    refine jV_i G 7 0 (fw_i (cM_addTank l D cA qm un ui ul ua co (xs (i + 1)) hI.1.2.2.2.1) [] (((cF cA q (up un 2 (un 2 + 1)) ui ul ua vc ex wo tp tf kf9 ++ va_pl L9 f9) ++ [(oa, .inl (cA 4, 1, .inr (.inl (vp_updL g 0 (nI (un 2)).toInt64))))]) ++ [(ob, .inl (cA 5, 1, .inr (.inr (.inr (.inl gd)))))]) rfl) gL_179 hd_X7_addTank ⟨Nat.le_of_ble_eq_true rfl, Nat.le_of_ble_eq_true rfl⟩ ⟨by show _ ≤ 603072; omega, by show _ ≤ 7211114; omega⟩ rfl rfl (Nat.le_of_ble_eq_true rfl) rfl rfl dL_law_1194 (fun r w9 hq9 => ?_)
    obtain ⟨b1, hq8, hw9⟩ := hq9
    rcases hq8 with ⟨hc9, hr9, hb9⟩ | ⟨hc9, hb9⟩
    · subst hw9
      subst hb9
      subst hr9
      refine j_w (w' := mW cA qm (up un 2 (un 2 + 1)) ui ul (up ua 9 (upd (ua 9) (un 2) (xs (i + 1)))) 0 ++ (((cF cA q (up un 2 (un 2 + 1)) ui ul ua vc ex wo tp tf kf9 ++ va_pl L9 f9) ++ [(oa, .inl (cA 4, 1, .inr (.inl (vp_updL g 0 (nI (un 2)).toInt64))))]) ++ [(ob, .inl (cA 5, 1, .inr (.inr (.inr (.inl gd)))))])) rfl ?_
      refine j_istore (lv' := [(7, .int (nI (un 2))), (6, .int 0), (0, .ref bs), (1, .ref (q 0)), (2, .ref (qm 0)), (3, .ref oa), (4, .ref ob), (5, .int (nI i))]) G dL_law_1197 (by decide) rfl ?_
      refine j_aload_n G dL_law_1199 rfl 4 rfl ?_
      refine jV_i G 7 0 (fw_i (cM_thrown l D cA qm (up un 2 (un 2 + 1)) ui ul (up ua 9 (upd (ua 9) (un 2) (xs (i + 1)))) 0  ) [] (((cF cA q (up un 2 (un 2 + 1)) ui ul ua vc ex wo tp tf kf9 ++ va_pl L9 f9) ++ [(oa, .inl (cA 4, 1, .inr (.inl (vp_updL g 0 (nI (un 2)).toInt64))))]) ++ [(ob, .inl (cA 5, 1, .inr (.inr (.inr (.inl gd)))))]) rfl) gL_122 hd_X7_thrown ⟨Nat.le_of_ble_eq_true rfl, Nat.le_of_ble_eq_true rfl⟩ ⟨by show _ ≤ 603072; omega, by show _ ≤ 7211114; omega⟩ rfl rfl (Nat.le_of_ble_eq_true rfl) rfl rfl dL_law_1200 (fun r w9 hq9 => ?_)
      obtain ⟨b1, hq8, hw9⟩ := hq9
      obtain ⟨hr9, hb9⟩ := hq8
      subst hw9
      subst hb9
      subst hr9
      refine j_w (w' := mW cA qm (up un 2 (un 2 + 1)) ui ul (up ua 9 (upd (ua 9) (un 2) (xs (i + 1)))) 0 ++ (((cF cA q (up un 2 (un 2 + 1)) ui ul ua vc ex wo tp tf kf9 ++ va_pl L9 f9) ++ [(oa, .inl (cA 4, 1, .inr (.inl (vp_updL g 0 (nI (un 2)).toInt64))))]) ++ [(ob, .inl (cA 5, 1, .inr (.inr (.inr (.inl gd)))))])) rfl ?_
      refine j_iload G dL_law_1203 1 rfl ?_
      refine j_icmp_eq (tgt := 1210) G dL_law_1205 (by decide) (fun c1205 => ?_) (fun c1205 => absurd rfl c1205)
      refine j_iload G dL_law_1210 1 rfl ?_
      refine j_if_ne (tgt := 1227) G dL_law_1212 (by decide) (fun c1212 => absurd c1212 (by decide)) (fun _ => ?_)
      refine j_aload_n G dL_law_1215 rfl 5 rfl ?_
      refine j_iconst (v := 0) G dL_law_1216 (by decide) ?_
      refine j_lald G _ wq_o (show vp_in (nI 0) 1 from vp_in_nI (by decide) (by decide)) dL_law_1217 ?_
      refine j_rwl (show _ = (nI (un 2)).toInt64 from rfl) ?_
      refine j_iload G dL_law_1218 0 rfl ?_
      refine j_i2l G dL_law_1220 ?_
      refine j_lcmp G dL_law_1221 ?_
      refine j_if_eq (tgt := 1227) G dL_law_1222 (by decide) (fun c1222 => ?_) (fun c1222 => absurd (lgz.mpr rfl) c1222)
      refine j_goto (tgt := 2045) G dL_law_1227 (by decide) ?_
      refine j_sub (lv' := [(0, .ref bs), (1, .ref (q 0)), (2, .ref (qm 0)), (3, .ref oa), (4, .ref ob), (5, .int (nI i))]) [2, 3, 4, 5, 6, 7] rfl ?_
      refine j_cs (k' := k + 8) (n' := n + 256) (by omega) (by omega) ?_
      refine j_w (w' := mW cA qm (up un 2 (un 2 + 1)) ui ul (up ua 9 (upd (ua 9) (un 2) (xs (i + 1)))) 0 ++ (((cF cA q (up un 2 (un 2 + 1)) ui ul (up ua 9 (upd (ua 9) (un 2) (xs (i + 1)))) vc ex wo tp tf kf9 ++ va_pl L9 f9) ++ [(oa, .inl (cA 4, 1, .inr (.inl (vp_updL g 0 (nI (un 2)).toInt64))))]) ++ [(ob, .inl (cA 5, 1, .inr (.inr (.inr (.inl gd)))))])) rfl ?_
      exact hN (up un 2 (un 2 + 1)) ui ul (up ua 9 (upd (ua 9) (un 2) (xs (i + 1)))) vc ex wo tp tf kf9 L9 f9 ta ga ka9 0 (vp_updL g 0 (nI (un 2)).toInt64) gd (hI.addK hok) (PL_g.mpr P9)
    · exact absurd hcf hc9
  · rcases hp9 with ⟨hc, he⟩ | ⟨hc, he⟩
    · cases he
      have hr9 : r = 1 := by rcases hd9 with ⟨h8, h7⟩ | ⟨h8, h7⟩ <;> first | exact h7 | exact absurd h8 (by decide)
      subst hw9
      subst hb9
      subst hr9
      have hcf : cfAddTank (un 2) (xs (i + 1)) = 1 := hc
      refine j_w (w' := mW cA qm un ui ul ua co ++ (((cF cA q un ui ul ua vc ex wo tp tf kf ++ va_pl L f) ++ [(oa, .inl (cA 4, 1, .inr (.inl g)))]) ++ [(ob, .inl (cA 5, 1, .inr (.inr (.inr (.inl gd)))))])) (List.append_assoc _ _ _) ?_
      refine j_istore (lv' := [(6, .int 1), (0, .ref bs), (1, .ref (q 0)), (2, .ref (qm 0)), (3, .ref oa), (4, .ref ob), (5, .int (nI i))]) G dL_law_1185 (by decide) rfl ?_
      refine j_aload_n G dL_law_1187 rfl 3 rfl ?_
      refine j_aload_n G dL_law_1188 rfl 1 rfl ?_
      refine j_iload G dL_law_1189 6 rfl ?_
      refine j_iconst (v := 1) G dL_law_1191 (by decide) ?_
      refine j_iadd G dL_law_1192 ?_
      refine j_rwi (nI_add i 1) ?_
      refine j_sldN (j := i + 1) G hX hbl hbA (by omega) (by omega) dL_law_1193 ?_
      refine jV_i G 7 0 (fw_i (cM_addTank l D cA qm un ui ul ua co (xs (i + 1)) hI.1.2.2.2.1) [] (((cF cA q un ui ul ua vc ex wo tp tf kf ++ va_pl L f) ++ [(oa, .inl (cA 4, 1, .inr (.inl g)))]) ++ [(ob, .inl (cA 5, 1, .inr (.inr (.inr (.inl gd)))))]) rfl) gL_179 hd_X7_addTank ⟨Nat.le_of_ble_eq_true rfl, Nat.le_of_ble_eq_true rfl⟩ ⟨by show _ ≤ 603072; omega, by show _ ≤ 7211114; omega⟩ rfl rfl (Nat.le_of_ble_eq_true rfl) rfl rfl dL_law_1194 (fun r w9 hq9 => ?_)
      obtain ⟨b1, hq8, hw9⟩ := hq9
      rcases hq8 with ⟨hc9, hr9, hb9⟩ | ⟨hc9, hb9⟩
      · exact absurd (hcf.symm.trans hc9) (by decide)
      · rw [hcf] at hb9
        subst hw9
        subst hb9
        refine j_w (w' := mW cA qm un ui ul ua 1 ++ (((cF cA q un ui ul ua vc ex wo tp tf kf ++ va_pl L f) ++ [(oa, .inl (cA 4, 1, .inr (.inl g)))]) ++ [(ob, .inl (cA 5, 1, .inr (.inr (.inr (.inl gd)))))])) rfl ?_
        refine j_istore (lv' := [(7, .int r), (6, .int 1), (0, .ref bs), (1, .ref (q 0)), (2, .ref (qm 0)), (3, .ref oa), (4, .ref ob), (5, .int (nI i))]) G dL_law_1197 (by decide) rfl ?_
        refine j_aload_n G dL_law_1199 rfl 4 rfl ?_
        refine jV_i G 7 0 (fw_i (cM_thrown l D cA qm un ui ul ua 1  ) [] (((cF cA q un ui ul ua vc ex wo tp tf kf ++ va_pl L f) ++ [(oa, .inl (cA 4, 1, .inr (.inl g)))]) ++ [(ob, .inl (cA 5, 1, .inr (.inr (.inr (.inl gd)))))]) rfl) gL_122 hd_X7_thrown ⟨Nat.le_of_ble_eq_true rfl, Nat.le_of_ble_eq_true rfl⟩ ⟨by show _ ≤ 603072; omega, by show _ ≤ 7211114; omega⟩ rfl rfl (Nat.le_of_ble_eq_true rfl) rfl rfl dL_law_1200 (fun r w9 hq9 => ?_)
        obtain ⟨b1, hq8, hw9⟩ := hq9
        obtain ⟨hr9, hb9⟩ := hq8
        subst hw9
        subst hb9
        subst hr9
        refine j_w (w' := mW cA qm un ui ul ua 1 ++ (((cF cA q un ui ul ua vc ex wo tp tf kf ++ va_pl L f) ++ [(oa, .inl (cA 4, 1, .inr (.inl g)))]) ++ [(ob, .inl (cA 5, 1, .inr (.inr (.inr (.inl gd)))))])) rfl ?_
        refine j_iload G dL_law_1203 1 rfl ?_
        refine j_icmp_eq (tgt := 1210) G dL_law_1205 (by decide) (fun c1205 => ?_) (fun c1205 => absurd rfl c1205)
        refine j_iload G dL_law_1210 1 rfl ?_
        refine j_if_ne (tgt := 1227) G dL_law_1212 (by decide) (fun _ => ?_) (fun c1212 => absurd c1212 (by decide))
        refine j_goto (tgt := 2045) G dL_law_1227 (by decide) ?_
        refine j_sub (lv' := [(0, .ref bs), (1, .ref (q 0)), (2, .ref (qm 0)), (3, .ref oa), (4, .ref ob), (5, .int (nI i))]) [2, 3, 4, 5, 6, 7] rfl ?_
        refine j_cs (k' := k + 8) (n' := n + 256) (by omega) (by omega) ?_
        refine j_w (w' := mW cA qm un ui ul ua 1 ++ (((cF cA q un ui ul ua vc ex wo tp tf kf ++ va_pl L f) ++ [(oa, .inl (cA 4, 1, .inr (.inl g)))]) ++ [(ob, .inl (cA 5, 1, .inr (.inr (.inr (.inl gd)))))])) rfl ?_
        exact hN un ui ul ua vc ex wo tp tf kf L f ta ga ka 1 g gd hI hPL
    · cases he
      have hr9 : r = 2 := by rcases hd9 with ⟨h8, h7⟩ | ⟨h8, h7⟩ <;> first | exact h7 | exact absurd h8 (by decide)
      subst hw9
      subst hb9
      subst hr9
      have hcf : cfAddTank (un 2) (xs (i + 1)) = 2 := hc
      refine j_w (w' := mW cA qm un ui ul ua co ++ (((cF cA q un ui ul ua vc ex wo tp tf kf ++ va_pl L f) ++ [(oa, .inl (cA 4, 1, .inr (.inl g)))]) ++ [(ob, .inl (cA 5, 1, .inr (.inr (.inr (.inl gd)))))])) (List.append_assoc _ _ _) ?_
      refine j_istore (lv' := [(6, .int 2), (0, .ref bs), (1, .ref (q 0)), (2, .ref (qm 0)), (3, .ref oa), (4, .ref ob), (5, .int (nI i))]) G dL_law_1185 (by decide) rfl ?_
      refine j_aload_n G dL_law_1187 rfl 3 rfl ?_
      refine j_aload_n G dL_law_1188 rfl 1 rfl ?_
      refine j_iload G dL_law_1189 6 rfl ?_
      refine j_iconst (v := 1) G dL_law_1191 (by decide) ?_
      refine j_iadd G dL_law_1192 ?_
      refine j_rwi (nI_add i 1) ?_
      refine j_sldN (j := i + 1) G hX hbl hbA (by omega) (by omega) dL_law_1193 ?_
      refine jV_i G 7 0 (fw_i (cM_addTank l D cA qm un ui ul ua co (xs (i + 1)) hI.1.2.2.2.1) [] (((cF cA q un ui ul ua vc ex wo tp tf kf ++ va_pl L f) ++ [(oa, .inl (cA 4, 1, .inr (.inl g)))]) ++ [(ob, .inl (cA 5, 1, .inr (.inr (.inr (.inl gd)))))]) rfl) gL_179 hd_X7_addTank ⟨Nat.le_of_ble_eq_true rfl, Nat.le_of_ble_eq_true rfl⟩ ⟨by show _ ≤ 603072; omega, by show _ ≤ 7211114; omega⟩ rfl rfl (Nat.le_of_ble_eq_true rfl) rfl rfl dL_law_1194 (fun r w9 hq9 => ?_)
      obtain ⟨b1, hq8, hw9⟩ := hq9
      rcases hq8 with ⟨hc9, hr9, hb9⟩ | ⟨hc9, hb9⟩
      · exact absurd (hcf.symm.trans hc9) (by decide)
      · rw [hcf] at hb9
        subst hw9
        subst hb9
        refine j_w (w' := mW cA qm un ui ul ua 2 ++ (((cF cA q un ui ul ua vc ex wo tp tf kf ++ va_pl L f) ++ [(oa, .inl (cA 4, 1, .inr (.inl g)))]) ++ [(ob, .inl (cA 5, 1, .inr (.inr (.inr (.inl gd)))))])) rfl ?_
        refine j_istore (lv' := [(7, .int r), (6, .int 2), (0, .ref bs), (1, .ref (q 0)), (2, .ref (qm 0)), (3, .ref oa), (4, .ref ob), (5, .int (nI i))]) G dL_law_1197 (by decide) rfl ?_
        refine j_aload_n G dL_law_1199 rfl 4 rfl ?_
        refine jV_i G 7 0 (fw_i (cM_thrown l D cA qm un ui ul ua 2  ) [] (((cF cA q un ui ul ua vc ex wo tp tf kf ++ va_pl L f) ++ [(oa, .inl (cA 4, 1, .inr (.inl g)))]) ++ [(ob, .inl (cA 5, 1, .inr (.inr (.inr (.inl gd)))))]) rfl) gL_122 hd_X7_thrown ⟨Nat.le_of_ble_eq_true rfl, Nat.le_of_ble_eq_true rfl⟩ ⟨by show _ ≤ 603072; omega, by show _ ≤ 7211114; omega⟩ rfl rfl (Nat.le_of_ble_eq_true rfl) rfl rfl dL_law_1200 (fun r w9 hq9 => ?_)
        obtain ⟨b1, hq8, hw9⟩ := hq9
        obtain ⟨hr9, hb9⟩ := hq8
        subst hw9
        subst hb9
        subst hr9
        refine j_w (w' := mW cA qm un ui ul ua 2 ++ (((cF cA q un ui ul ua vc ex wo tp tf kf ++ va_pl L f) ++ [(oa, .inl (cA 4, 1, .inr (.inl g)))]) ++ [(ob, .inl (cA 5, 1, .inr (.inr (.inr (.inl gd)))))])) rfl ?_
        refine j_iload G dL_law_1203 1 rfl ?_
        refine j_icmp_eq (tgt := 1210) G dL_law_1205 (by decide) (fun c1205 => ?_) (fun c1205 => absurd rfl c1205)
        refine j_iload G dL_law_1210 1 rfl ?_
        refine j_if_ne (tgt := 1227) G dL_law_1212 (by decide) (fun _ => ?_) (fun c1212 => absurd c1212 (by decide))
        refine j_goto (tgt := 2045) G dL_law_1227 (by decide) ?_
        refine j_sub (lv' := [(0, .ref bs), (1, .ref (q 0)), (2, .ref (qm 0)), (3, .ref oa), (4, .ref ob), (5, .int (nI i))]) [2, 3, 4, 5, 6, 7] rfl ?_
        refine j_cs (k' := k + 8) (n' := n + 256) (by omega) (by omega) ?_
        refine j_w (w' := mW cA qm un ui ul ua 2 ++ (((cF cA q un ui ul ua vc ex wo tp tf kf ++ va_pl L f) ++ [(oa, .inl (cA 4, 1, .inr (.inl g)))]) ++ [(ob, .inl (cA 5, 1, .inr (.inr (.inr (.inl gd)))))])) rfl ?_
        exact hN un ui ul ua vc ex wo tp tf kf L f ta ga ka 2 g gd hI hPL
set_option maxHeartbeats 4000000 in
set_option maxRecDepth 100000 in
theorem lw_drain {p : Program} {l : Launch} {e : Env} {s : State} {m : MethodId} {args : Array Value} {below : List Frame} {meth : Method} {c : Code} {D : va_G} {cA : Nat → ClassId} {A : Nat → Prop} {Q : State → Prop} {k n : Nat} (G : GX p s m args c cL_law 9 RL D cA A) (hfl : l.stackTraces = false) {bs Ls : Nat} {xs : Nat → Int32} (hX : va_X bs Ls xs s s.heap) (hbl : bs < s.heap.size) (hbA : ¬ A bs) (hLs : Ls ≤ 3072) {i : Nat} (hi : i + 5 < Ls) (hk : k + 8 ≤ 603072) (hn9 : n + 256 ≤ 7211114) (q qm : Nat → Nat) (un : Nat → Nat) (ui : Nat → Int32) (ul : Nat → Int64) (ua : Nat → Nat → Int32) (vc ex wo tp : Nat → Int32) (tf kf : Nat → Option Nat) (L : List Nat) (f : Nat → va_E) (ta ga ka : Nat → Nat) (co : Int32) (oa ob : Nat) (g : Nat → Int64) (gd : Nat → UInt64) (hI : INV un ui ua) (hPL : PL cA un ua L f tf kf ta ga ka) (hN : ∀ (un : Nat → Nat) (ui : Nat → Int32) (ul : Nat → Int64) (ua : Nat → Nat → Int32) (vc ex wo tp : Nat → Int32) (tf kf : Nat → Option Nat) (L : List Nat) (f : Nat → va_E) (ta ga ka : Nat → Nat) (co : Int32) (g : Nat → Int64) (gd : Nat → UInt64), INV un ui ua → PL cA un ua L f tf kf ta ga ka → J p l e (RM 2048 94400 603072 7211114) s m args below meth c 9 D A (mW cA qm un ui ul ua co ++ (((cF cA q un ui ul ua vc ex wo tp tf kf ++ va_pl L f) ++ [(oa, .inl (cA 4, 1, .inr (.inl g)))]) ++ [(ob, .inl (cA 5, 1, .inr (.inr (.inr (.inl gd)))))])) (k + 8) (n + 256) Q 2045 [(0, .ref bs), (1, .ref (q 0)), (2, .ref (qm 0)), (3, .ref oa), (4, .ref ob), (5, .int (nI i))] []) : J p l e (RM 2048 94400 603072 7211114) s m args below meth c 9 D A (mW cA qm un ui ul ua co ++ (((cF cA q un ui ul ua vc ex wo tp tf kf ++ va_pl L f) ++ [(oa, .inl (cA 4, 1, .inr (.inl g)))]) ++ [(ob, .inl (cA 5, 1, .inr (.inr (.inr (.inl gd)))))])) k n Q 1230 [(0, .ref bs), (1, .ref (q 0)), (2, .ref (qm 0)), (3, .ref oa), (4, .ref ob), (5, .int (nI i))] [] := by
  refine j_aload_n G dL_law_1230 rfl 1 rfl ?_
  refine j_aload_n G dL_law_1231 rfl 0 rfl ?_
  refine j_iload G dL_law_1232 5 rfl ?_
  refine j_iconst (v := 1) G dL_law_1234 (by decide) ?_
  refine j_iadd G dL_law_1235 ?_
  refine j_rwi (nI_add i 1) ?_
  refine j_sldN (j := i + 1) G hX hbl hbA (by omega) (by omega) dL_law_1236 ?_
  refine j_aload_n G dL_law_1237 rfl 3 rfl ?_
  refine jSW_i G (fw_W (cW_drain l D cA (b0 := cF cA q un ui ul ua vc ex wo tp tf kf ++ va_pl L f) rfl (xs (i + 1)) g (cC_X6_drain l D cA hfl q un ui ul ua vc ex wo tp tf kf L f ta ga ka (xs (i + 1)) hI.1.2.2.2.1 hPL) (fun E8 b8 h8 => congrArg Prod.fst h8.2)) (mW cA qm un ui ul ua co) [(ob, .inl (cA 5, 1, .inr (.inr (.inr (.inl gd)))))] (List.append_assoc _ _ _).symm) (gw_drain wd_742) hd_L_drain.2 ⟨Nat.le_of_ble_eq_true rfl, Nat.le_of_ble_eq_true rfl⟩ ⟨by show _ ≤ 603072; omega, by show _ ≤ 7211114; omega⟩ rfl rfl (Nat.le_of_ble_eq_true rfl) dL_law_1238 (fun r w9 hq9 => ?_)
  obtain ⟨b1, hq8, hw9⟩ := hq9
  rcases hq8 with ⟨v9, b2, hp9, hr9, hb9⟩ | ⟨E9, b2, hp9, hd9, hb9⟩
  · obtain ⟨hok, hv9, hb8⟩ := hp9
    subst hw9
    subst hb9
    subst hr9
    subst hb8
    subst hv9
    have hcf : cfTank (un 2) (xs (i + 1)) = 0 := (if_pos hok)
    refine j_w (w' := mW cA qm un ui ul ua co ++ (((cF cA q un ui (up (up ul 3 (ul 3 + (ua 10 (xs (i + 1)).toNatClampNeg).toInt64)) 4 (ul 4 + (ua 11 (xs (i + 1)).toNatClampNeg).toInt64)) ua vc ex wo tp tf kf ++ va_pl L (va_up f (ka (xs (i + 1)).toNatClampNeg) (.inr (3, [.int (ua 9 (xs (i + 1)).toNatClampNeg), .int (ua 10 (xs (i + 1)).toNatClampNeg - ua 10 (xs (i + 1)).toNatClampNeg), .int (ua 11 (xs (i + 1)).toNatClampNeg - ua 11 (xs (i + 1)).toNatClampNeg)])))) ++ [(oa, .inl (cA 4, 1, .inr (.inl (vp_updL g 0 (ua 10 (xs (i + 1)).toNatClampNeg).toInt64))))]) ++ [(ob, .inl (cA 5, 1, .inr (.inr (.inr (.inl gd)))))])) (List.append_assoc _ _ _) ?_
    refine j_istore (lv' := [(6, .int 0), (0, .ref bs), (1, .ref (q 0)), (2, .ref (qm 0)), (3, .ref oa), (4, .ref ob), (5, .int (nI i))]) G dL_law_1241 (by decide) rfl ?_
    refine j_aload_n G dL_law_1243 rfl 3 rfl ?_
    refine j_aload_n G dL_law_1244 rfl 1 rfl ?_
    refine j_iload G dL_law_1245 6 rfl ?_
    refine j_iconst (v := 1) G dL_law_1247 (by decide) ?_
    refine j_iadd G dL_law_1248 ?_
    refine j_rwi (nI_add i 1) ?_
    refine j_sldN (j := i + 1) G hX hbl hbA (by omega) (by omega) dL_law_1249 ?_
    refine jV_i G 7 0 (fw_i (cM_drain l D cA qm un ui ul ua co (xs (i + 1)) hI.1.2.2.2.1) [] (((cF cA q un ui (up (up ul 3 (ul 3 + (ua 10 (xs (i + 1)).toNatClampNeg).toInt64)) 4 (ul 4 + (ua 11 (xs (i + 1)).toNatClampNeg).toInt64)) ua vc ex wo tp tf kf ++ va_pl L (va_up f (ka (xs (i + 1)).toNatClampNeg) (.inr (3, [.int (ua 9 (xs (i + 1)).toNatClampNeg), .int (ua 10 (xs (i + 1)).toNatClampNeg - ua 10 (xs (i + 1)).toNatClampNeg), .int (ua 11 (xs (i + 1)).toNatClampNeg - ua 11 (xs (i + 1)).toNatClampNeg)])))) ++ [(oa, .inl (cA 4, 1, .inr (.inl (vp_updL g 0 (ua 10 (xs (i + 1)).toNatClampNeg).toInt64))))]) ++ [(ob, .inl (cA 5, 1, .inr (.inr (.inr (.inl gd)))))]) rfl) gL_182 hd_X7_drain ⟨Nat.le_of_ble_eq_true rfl, Nat.le_of_ble_eq_true rfl⟩ ⟨by show _ ≤ 603072; omega, by show _ ≤ 7211114; omega⟩ rfl rfl (Nat.le_of_ble_eq_true rfl) rfl rfl dL_law_1250 (fun r w9 hq9 => ?_)
    obtain ⟨b1, hq8, hw9⟩ := hq9
    rcases hq8 with ⟨hc9, hr9, hb9⟩ | ⟨hc9, hb9⟩
    · subst hw9
      subst hb9
      subst hr9
      refine j_w (w' := mW cA qm un ui (up (up ul 3 (ul 3 + (ua 10 (xs (i + 1)).toNatClampNeg).toInt64)) 4 (ul 4 + (ua 11 (xs (i + 1)).toNatClampNeg).toInt64)) (up (up ua 10 (upd (ua 10) (xs (i + 1)).toNatClampNeg 0)) 11 (upd (ua 11) (xs (i + 1)).toNatClampNeg 0)) 0 ++ (((cF cA q un ui (up (up ul 3 (ul 3 + (ua 10 (xs (i + 1)).toNatClampNeg).toInt64)) 4 (ul 4 + (ua 11 (xs (i + 1)).toNatClampNeg).toInt64)) ua vc ex wo tp tf kf ++ va_pl L (va_up f (ka (xs (i + 1)).toNatClampNeg) (.inr (3, [.int (ua 9 (xs (i + 1)).toNatClampNeg), .int (ua 10 (xs (i + 1)).toNatClampNeg - ua 10 (xs (i + 1)).toNatClampNeg), .int (ua 11 (xs (i + 1)).toNatClampNeg - ua 11 (xs (i + 1)).toNatClampNeg)])))) ++ [(oa, .inl (cA 4, 1, .inr (.inl (vp_updL g 0 (ua 10 (xs (i + 1)).toNatClampNeg).toInt64))))]) ++ [(ob, .inl (cA 5, 1, .inr (.inr (.inr (.inl gd)))))])) rfl ?_
      refine j_istore (lv' := [(7, .int (ua 10 (xs (i + 1)).toNatClampNeg)), (6, .int 0), (0, .ref bs), (1, .ref (q 0)), (2, .ref (qm 0)), (3, .ref oa), (4, .ref ob), (5, .int (nI i))]) G dL_law_1253 (by decide) rfl ?_
      refine j_aload_n G dL_law_1255 rfl 4 rfl ?_
      refine jV_i G 7 0 (fw_i (cM_thrown l D cA qm un ui (up (up ul 3 (ul 3 + (ua 10 (xs (i + 1)).toNatClampNeg).toInt64)) 4 (ul 4 + (ua 11 (xs (i + 1)).toNatClampNeg).toInt64)) (up (up ua 10 (upd (ua 10) (xs (i + 1)).toNatClampNeg 0)) 11 (upd (ua 11) (xs (i + 1)).toNatClampNeg 0)) 0  ) [] (((cF cA q un ui (up (up ul 3 (ul 3 + (ua 10 (xs (i + 1)).toNatClampNeg).toInt64)) 4 (ul 4 + (ua 11 (xs (i + 1)).toNatClampNeg).toInt64)) ua vc ex wo tp tf kf ++ va_pl L (va_up f (ka (xs (i + 1)).toNatClampNeg) (.inr (3, [.int (ua 9 (xs (i + 1)).toNatClampNeg), .int (ua 10 (xs (i + 1)).toNatClampNeg - ua 10 (xs (i + 1)).toNatClampNeg), .int (ua 11 (xs (i + 1)).toNatClampNeg - ua 11 (xs (i + 1)).toNatClampNeg)])))) ++ [(oa, .inl (cA 4, 1, .inr (.inl (vp_updL g 0 (ua 10 (xs (i + 1)).toNatClampNeg).toInt64))))]) ++ [(ob, .inl (cA 5, 1, .inr (.inr (.inr (.inl gd)))))]) rfl) gL_122 hd_X7_thrown ⟨Nat.le_of_ble_eq_true rfl, Nat.le_of_ble_eq_true rfl⟩ ⟨by show _ ≤ 603072; omega, by show _ ≤ 7211114; omega⟩ rfl rfl (Nat.le_of_ble_eq_true rfl) rfl rfl dL_law_1256 (fun r w9 hq9 => ?_)
      obtain ⟨b1, hq8, hw9⟩ := hq9
      obtain ⟨hr9, hb9⟩ := hq8
      subst hw9
      subst hb9
      subst hr9
      refine j_w (w' := mW cA qm un ui (up (up ul 3 (ul 3 + (ua 10 (xs (i + 1)).toNatClampNeg).toInt64)) 4 (ul 4 + (ua 11 (xs (i + 1)).toNatClampNeg).toInt64)) (up (up ua 10 (upd (ua 10) (xs (i + 1)).toNatClampNeg 0)) 11 (upd (ua 11) (xs (i + 1)).toNatClampNeg 0)) 0 ++ (((cF cA q un ui (up (up ul 3 (ul 3 + (ua 10 (xs (i + 1)).toNatClampNeg).toInt64)) 4 (ul 4 + (ua 11 (xs (i + 1)).toNatClampNeg).toInt64)) ua vc ex wo tp tf kf ++ va_pl L (va_up f (ka (xs (i + 1)).toNatClampNeg) (.inr (3, [.int (ua 9 (xs (i + 1)).toNatClampNeg), .int (ua 10 (xs (i + 1)).toNatClampNeg - ua 10 (xs (i + 1)).toNatClampNeg), .int (ua 11 (xs (i + 1)).toNatClampNeg - ua 11 (xs (i + 1)).toNatClampNeg)])))) ++ [(oa, .inl (cA 4, 1, .inr (.inl (vp_updL g 0 (ua 10 (xs (i + 1)).toNatClampNeg).toInt64))))]) ++ [(ob, .inl (cA 5, 1, .inr (.inr (.inr (.inl gd)))))])) rfl ?_
      refine j_iload G dL_law_1259 1 rfl ?_
      refine j_icmp_eq (tgt := 1266) G dL_law_1261 (by decide) (fun c1261 => ?_) (fun c1261 => absurd rfl c1261)
      refine j_iload G dL_law_1266 1 rfl ?_
      refine j_if_ne (tgt := 1283) G dL_law_1268 (by decide) (fun c1268 => absurd c1268 (by decide)) (fun _ => ?_)
      refine j_aload_n G dL_law_1271 rfl 5 rfl ?_
      refine j_iconst (v := 0) G dL_law_1272 (by decide) ?_
      refine j_lald G _ wq_o (show vp_in (nI 0) 1 from vp_in_nI (by decide) (by decide)) dL_law_1273 ?_
      refine j_rwl (show _ = (ua 10 (xs (i + 1)).toNatClampNeg).toInt64 from rfl) ?_
      refine j_iload G dL_law_1274 0 rfl ?_
      refine j_i2l G dL_law_1276 ?_
      refine j_lcmp G dL_law_1277 ?_
      refine j_if_eq (tgt := 1283) G dL_law_1278 (by decide) (fun c1278 => ?_) (fun c1278 => absurd (lgz.mpr rfl) c1278)
      refine j_goto (tgt := 2045) G dL_law_1283 (by decide) ?_
      refine j_sub (lv' := [(0, .ref bs), (1, .ref (q 0)), (2, .ref (qm 0)), (3, .ref oa), (4, .ref ob), (5, .int (nI i))]) [2, 3, 4, 5, 6, 7] rfl ?_
      refine j_cs (k' := k + 8) (n' := n + 256) (by omega) (by omega) ?_
      refine j_w (w' := mW cA qm un ui (up (up ul 3 (ul 3 + (ua 10 (xs (i + 1)).toNatClampNeg).toInt64)) 4 (ul 4 + (ua 11 (xs (i + 1)).toNatClampNeg).toInt64)) (up (up ua 10 (upd (ua 10) (xs (i + 1)).toNatClampNeg 0)) 11 (upd (ua 11) (xs (i + 1)).toNatClampNeg 0)) 0 ++ (((cF cA q un ui (up (up ul 3 (ul 3 + (ua 10 (xs (i + 1)).toNatClampNeg).toInt64)) 4 (ul 4 + (ua 11 (xs (i + 1)).toNatClampNeg).toInt64)) (up (up ua 10 (upd (ua 10) (xs (i + 1)).toNatClampNeg 0)) 11 (upd (ua 11) (xs (i + 1)).toNatClampNeg 0)) vc ex wo tp tf kf ++ va_pl L (va_up f (ka (xs (i + 1)).toNatClampNeg) (.inr (3, [.int (ua 9 (xs (i + 1)).toNatClampNeg), .int (ua 10 (xs (i + 1)).toNatClampNeg - ua 10 (xs (i + 1)).toNatClampNeg), .int (ua 11 (xs (i + 1)).toNatClampNeg - ua 11 (xs (i + 1)).toNatClampNeg)])))) ++ [(oa, .inl (cA 4, 1, .inr (.inl (vp_updL g 0 (ua 10 (xs (i + 1)).toNatClampNeg).toInt64))))]) ++ [(ob, .inl (cA 5, 1, .inr (.inr (.inr (.inl gd)))))])) rfl ?_
      exact hN un ui (up (up ul 3 (ul 3 + (ua 10 (xs (i + 1)).toNatClampNeg).toInt64)) 4 (ul 4 + (ua 11 (xs (i + 1)).toNatClampNeg).toInt64)) (up (up ua 10 (upd (ua 10) (xs (i + 1)).toNatClampNeg 0)) 11 (upd (ua 11) (xs (i + 1)).toNatClampNeg 0)) vc ex wo tp tf kf L (va_up f (ka (xs (i + 1)).toNatClampNeg) (.inr (3, [.int (ua 9 (xs (i + 1)).toNatClampNeg), .int (ua 10 (xs (i + 1)).toNatClampNeg - ua 10 (xs (i + 1)).toNatClampNeg), .int (ua 11 (xs (i + 1)).toNatClampNeg - ua 11 (xs (i + 1)).toNatClampNeg)]))) ta ga ka 0 (vp_updL g 0 (ua 10 (xs (i + 1)).toNatClampNeg).toInt64) gd (hI.drain (hok.lt (by have := hI.1.2.2.2.1; omega))) (PL_drain hPL (hok.lt (by have := hI.1.2.2.2.1; omega)))
    · exact absurd hcf hc9
  · obtain ⟨hc, he⟩ := hp9
    cases he
    have hr9 : r = 1 := hd9.2
    subst hw9
    subst hb9
    subst hr9
    have hcf : cfTank (un 2) (xs (i + 1)) = 1 := (if_neg hc)
    refine j_w (w' := mW cA qm un ui ul ua co ++ (((cF cA q un ui ul ua vc ex wo tp tf kf ++ va_pl L f) ++ [(oa, .inl (cA 4, 1, .inr (.inl g)))]) ++ [(ob, .inl (cA 5, 1, .inr (.inr (.inr (.inl gd)))))])) (List.append_assoc _ _ _) ?_
    refine j_istore (lv' := [(6, .int 1), (0, .ref bs), (1, .ref (q 0)), (2, .ref (qm 0)), (3, .ref oa), (4, .ref ob), (5, .int (nI i))]) G dL_law_1241 (by decide) rfl ?_
    refine j_aload_n G dL_law_1243 rfl 3 rfl ?_
    refine j_aload_n G dL_law_1244 rfl 1 rfl ?_
    refine j_iload G dL_law_1245 6 rfl ?_
    refine j_iconst (v := 1) G dL_law_1247 (by decide) ?_
    refine j_iadd G dL_law_1248 ?_
    refine j_rwi (nI_add i 1) ?_
    refine j_sldN (j := i + 1) G hX hbl hbA (by omega) (by omega) dL_law_1249 ?_
    refine jV_i G 7 0 (fw_i (cM_drain l D cA qm un ui ul ua co (xs (i + 1)) hI.1.2.2.2.1) [] (((cF cA q un ui ul ua vc ex wo tp tf kf ++ va_pl L f) ++ [(oa, .inl (cA 4, 1, .inr (.inl g)))]) ++ [(ob, .inl (cA 5, 1, .inr (.inr (.inr (.inl gd)))))]) rfl) gL_182 hd_X7_drain ⟨Nat.le_of_ble_eq_true rfl, Nat.le_of_ble_eq_true rfl⟩ ⟨by show _ ≤ 603072; omega, by show _ ≤ 7211114; omega⟩ rfl rfl (Nat.le_of_ble_eq_true rfl) rfl rfl dL_law_1250 (fun r w9 hq9 => ?_)
    obtain ⟨b1, hq8, hw9⟩ := hq9
    rcases hq8 with ⟨hc9, hr9, hb9⟩ | ⟨hc9, hb9⟩
    · exact absurd (hcf.symm.trans hc9) (by decide)
    · rw [hcf] at hb9
      subst hw9
      subst hb9
      refine j_w (w' := mW cA qm un ui ul ua 1 ++ (((cF cA q un ui ul ua vc ex wo tp tf kf ++ va_pl L f) ++ [(oa, .inl (cA 4, 1, .inr (.inl g)))]) ++ [(ob, .inl (cA 5, 1, .inr (.inr (.inr (.inl gd)))))])) rfl ?_
      refine j_istore (lv' := [(7, .int r), (6, .int 1), (0, .ref bs), (1, .ref (q 0)), (2, .ref (qm 0)), (3, .ref oa), (4, .ref ob), (5, .int (nI i))]) G dL_law_1253 (by decide) rfl ?_
      refine j_aload_n G dL_law_1255 rfl 4 rfl ?_
      refine jV_i G 7 0 (fw_i (cM_thrown l D cA qm un ui ul ua 1  ) [] (((cF cA q un ui ul ua vc ex wo tp tf kf ++ va_pl L f) ++ [(oa, .inl (cA 4, 1, .inr (.inl g)))]) ++ [(ob, .inl (cA 5, 1, .inr (.inr (.inr (.inl gd)))))]) rfl) gL_122 hd_X7_thrown ⟨Nat.le_of_ble_eq_true rfl, Nat.le_of_ble_eq_true rfl⟩ ⟨by show _ ≤ 603072; omega, by show _ ≤ 7211114; omega⟩ rfl rfl (Nat.le_of_ble_eq_true rfl) rfl rfl dL_law_1256 (fun r w9 hq9 => ?_)
      obtain ⟨b1, hq8, hw9⟩ := hq9
      obtain ⟨hr9, hb9⟩ := hq8
      subst hw9
      subst hb9
      subst hr9
      refine j_w (w' := mW cA qm un ui ul ua 1 ++ (((cF cA q un ui ul ua vc ex wo tp tf kf ++ va_pl L f) ++ [(oa, .inl (cA 4, 1, .inr (.inl g)))]) ++ [(ob, .inl (cA 5, 1, .inr (.inr (.inr (.inl gd)))))])) rfl ?_
      refine j_iload G dL_law_1259 1 rfl ?_
      refine j_icmp_eq (tgt := 1266) G dL_law_1261 (by decide) (fun c1261 => ?_) (fun c1261 => absurd rfl c1261)
      refine j_iload G dL_law_1266 1 rfl ?_
      refine j_if_ne (tgt := 1283) G dL_law_1268 (by decide) (fun _ => ?_) (fun c1268 => absurd c1268 (by decide))
      refine j_goto (tgt := 2045) G dL_law_1283 (by decide) ?_
      refine j_sub (lv' := [(0, .ref bs), (1, .ref (q 0)), (2, .ref (qm 0)), (3, .ref oa), (4, .ref ob), (5, .int (nI i))]) [2, 3, 4, 5, 6, 7] rfl ?_
      refine j_cs (k' := k + 8) (n' := n + 256) (by omega) (by omega) ?_
      refine j_w (w' := mW cA qm un ui ul ua 1 ++ (((cF cA q un ui ul ua vc ex wo tp tf kf ++ va_pl L f) ++ [(oa, .inl (cA 4, 1, .inr (.inl g)))]) ++ [(ob, .inl (cA 5, 1, .inr (.inr (.inr (.inl gd)))))])) rfl ?_
      exact hN un ui ul ua vc ex wo tp tf kf L f ta ga ka 1 g gd hI hPL
set_option maxHeartbeats 4000000 in
set_option maxRecDepth 100000 in
theorem lw_tankVolume {p : Program} {l : Launch} {e : Env} {s : State} {m : MethodId} {args : Array Value} {below : List Frame} {meth : Method} {c : Code} {D : va_G} {cA : Nat → ClassId} {A : Nat → Prop} {Q : State → Prop} {k n : Nat} (G : GX p s m args c cL_law 9 RL D cA A) (hfl : l.stackTraces = false) {bs Ls : Nat} {xs : Nat → Int32} (hX : va_X bs Ls xs s s.heap) (hbl : bs < s.heap.size) (hbA : ¬ A bs) (hLs : Ls ≤ 3072) {i : Nat} (hi : i + 5 < Ls) (hk : k + 8 ≤ 603072) (hn9 : n + 256 ≤ 7211114) (q qm : Nat → Nat) (un : Nat → Nat) (ui : Nat → Int32) (ul : Nat → Int64) (ua : Nat → Nat → Int32) (vc ex wo tp : Nat → Int32) (tf kf : Nat → Option Nat) (L : List Nat) (f : Nat → va_E) (ta ga ka : Nat → Nat) (co : Int32) (oa ob : Nat) (g : Nat → Int64) (gd : Nat → UInt64) (hI : INV un ui ua) (hPL : PL cA un ua L f tf kf ta ga ka) (hN : ∀ (un : Nat → Nat) (ui : Nat → Int32) (ul : Nat → Int64) (ua : Nat → Nat → Int32) (vc ex wo tp : Nat → Int32) (tf kf : Nat → Option Nat) (L : List Nat) (f : Nat → va_E) (ta ga ka : Nat → Nat) (co : Int32) (g : Nat → Int64) (gd : Nat → UInt64), INV un ui ua → PL cA un ua L f tf kf ta ga ka → J p l e (RM 2048 94400 603072 7211114) s m args below meth c 9 D A (mW cA qm un ui ul ua co ++ (((cF cA q un ui ul ua vc ex wo tp tf kf ++ va_pl L f) ++ [(oa, .inl (cA 4, 1, .inr (.inl g)))]) ++ [(ob, .inl (cA 5, 1, .inr (.inr (.inr (.inl gd)))))])) (k + 8) (n + 256) Q 2045 [(0, .ref bs), (1, .ref (q 0)), (2, .ref (qm 0)), (3, .ref oa), (4, .ref ob), (5, .int (nI i))] []) : J p l e (RM 2048 94400 603072 7211114) s m args below meth c 9 D A (mW cA qm un ui ul ua co ++ (((cF cA q un ui ul ua vc ex wo tp tf kf ++ va_pl L f) ++ [(oa, .inl (cA 4, 1, .inr (.inl g)))]) ++ [(ob, .inl (cA 5, 1, .inr (.inr (.inr (.inl gd)))))])) k n Q 1286 [(0, .ref bs), (1, .ref (q 0)), (2, .ref (qm 0)), (3, .ref oa), (4, .ref ob), (5, .int (nI i))] [] := by
  refine j_aload_n G dL_law_1286 rfl 1 rfl ?_
  refine j_aload_n G dL_law_1287 rfl 0 rfl ?_
  refine j_iload G dL_law_1288 5 rfl ?_
  refine j_iconst (v := 1) G dL_law_1290 (by decide) ?_
  refine j_iadd G dL_law_1291 ?_
  refine j_rwi (nI_add i 1) ?_
  refine j_sldN (j := i + 1) G hX hbl hbA (by omega) (by omega) dL_law_1292 ?_
  refine j_aload_n G dL_law_1293 rfl 3 rfl ?_
  refine jSW_i G (fw_W (cW_tankVolume l D cA (b0 := cF cA q un ui ul ua vc ex wo tp tf kf ++ va_pl L f) rfl (xs (i + 1)) g (cC_X6_tankVolume l D cA hfl q un ui ul ua vc ex wo tp tf kf L f ta ga ka (xs (i + 1)) hI.1.2.2.2.1 hPL) (fun E8 b8 h8 => congrArg Prod.fst h8.2)) (mW cA qm un ui ul ua co) [(ob, .inl (cA 5, 1, .inr (.inr (.inr (.inl gd)))))] (List.append_assoc _ _ _).symm) (gw_tankVolume wd_758) hd_L_tankVolume.2 ⟨Nat.le_of_ble_eq_true rfl, Nat.le_of_ble_eq_true rfl⟩ ⟨by show _ ≤ 603072; omega, by show _ ≤ 7211114; omega⟩ rfl rfl (Nat.le_of_ble_eq_true rfl) dL_law_1294 (fun r w9 hq9 => ?_)
  obtain ⟨b1, hq8, hw9⟩ := hq9
  rcases hq8 with ⟨v9, b2, hp9, hr9, hb9⟩ | ⟨E9, b2, hp9, hd9, hb9⟩
  · obtain ⟨hok, hv9, hb8⟩ := hp9
    subst hw9
    subst hb9
    subst hr9
    subst hb8
    subst hv9
    have hcf : cfTank (un 2) (xs (i + 1)) = 0 := (if_pos hok)
    refine j_w (w' := mW cA qm un ui ul ua co ++ (((cF cA q un ui ul ua vc ex wo tp tf kf ++ va_pl L f) ++ [(oa, .inl (cA 4, 1, .inr (.inl (vp_updL g 0 (ua 10 (xs (i + 1)).toNatClampNeg).toInt64))))]) ++ [(ob, .inl (cA 5, 1, .inr (.inr (.inr (.inl gd)))))])) (List.append_assoc _ _ _) ?_
    refine j_istore (lv' := [(6, .int 0), (0, .ref bs), (1, .ref (q 0)), (2, .ref (qm 0)), (3, .ref oa), (4, .ref ob), (5, .int (nI i))]) G dL_law_1297 (by decide) rfl ?_
    refine j_aload_n G dL_law_1299 rfl 3 rfl ?_
    refine j_aload_n G dL_law_1300 rfl 1 rfl ?_
    refine j_iload G dL_law_1301 6 rfl ?_
    refine j_iconst (v := 1) G dL_law_1303 (by decide) ?_
    refine j_iadd G dL_law_1304 ?_
    refine j_rwi (nI_add i 1) ?_
    refine j_sldN (j := i + 1) G hX hbl hbA (by omega) (by omega) dL_law_1305 ?_
    refine jV_i G 7 0 (fw_i (cM_tankVolume l D cA qm un ui ul ua co (xs (i + 1)) hI.1.2.2.2.1) [] (((cF cA q un ui ul ua vc ex wo tp tf kf ++ va_pl L f) ++ [(oa, .inl (cA 4, 1, .inr (.inl (vp_updL g 0 (ua 10 (xs (i + 1)).toNatClampNeg).toInt64))))]) ++ [(ob, .inl (cA 5, 1, .inr (.inr (.inr (.inl gd)))))]) rfl) gL_185 hd_X7_tankVolume ⟨Nat.le_of_ble_eq_true rfl, Nat.le_of_ble_eq_true rfl⟩ ⟨by show _ ≤ 603072; omega, by show _ ≤ 7211114; omega⟩ rfl rfl (Nat.le_of_ble_eq_true rfl) rfl rfl dL_law_1306 (fun r w9 hq9 => ?_)
    obtain ⟨b1, hq8, hw9⟩ := hq9
    rcases hq8 with ⟨hc9, hr9, hb9⟩ | ⟨hc9, hb9⟩
    · subst hw9
      subst hb9
      subst hr9
      refine j_w (w' := mW cA qm un ui ul ua 0 ++ (((cF cA q un ui ul ua vc ex wo tp tf kf ++ va_pl L f) ++ [(oa, .inl (cA 4, 1, .inr (.inl (vp_updL g 0 (ua 10 (xs (i + 1)).toNatClampNeg).toInt64))))]) ++ [(ob, .inl (cA 5, 1, .inr (.inr (.inr (.inl gd)))))])) rfl ?_
      refine j_istore (lv' := [(7, .int (ua 10 (xs (i + 1)).toNatClampNeg)), (6, .int 0), (0, .ref bs), (1, .ref (q 0)), (2, .ref (qm 0)), (3, .ref oa), (4, .ref ob), (5, .int (nI i))]) G dL_law_1309 (by decide) rfl ?_
      refine j_aload_n G dL_law_1311 rfl 4 rfl ?_
      refine jV_i G 7 0 (fw_i (cM_thrown l D cA qm un ui ul ua 0  ) [] (((cF cA q un ui ul ua vc ex wo tp tf kf ++ va_pl L f) ++ [(oa, .inl (cA 4, 1, .inr (.inl (vp_updL g 0 (ua 10 (xs (i + 1)).toNatClampNeg).toInt64))))]) ++ [(ob, .inl (cA 5, 1, .inr (.inr (.inr (.inl gd)))))]) rfl) gL_122 hd_X7_thrown ⟨Nat.le_of_ble_eq_true rfl, Nat.le_of_ble_eq_true rfl⟩ ⟨by show _ ≤ 603072; omega, by show _ ≤ 7211114; omega⟩ rfl rfl (Nat.le_of_ble_eq_true rfl) rfl rfl dL_law_1312 (fun r w9 hq9 => ?_)
      obtain ⟨b1, hq8, hw9⟩ := hq9
      obtain ⟨hr9, hb9⟩ := hq8
      subst hw9
      subst hb9
      subst hr9
      refine j_w (w' := mW cA qm un ui ul ua 0 ++ (((cF cA q un ui ul ua vc ex wo tp tf kf ++ va_pl L f) ++ [(oa, .inl (cA 4, 1, .inr (.inl (vp_updL g 0 (ua 10 (xs (i + 1)).toNatClampNeg).toInt64))))]) ++ [(ob, .inl (cA 5, 1, .inr (.inr (.inr (.inl gd)))))])) rfl ?_
      refine j_iload G dL_law_1315 1 rfl ?_
      refine j_icmp_eq (tgt := 1322) G dL_law_1317 (by decide) (fun c1317 => ?_) (fun c1317 => absurd rfl c1317)
      refine j_iload G dL_law_1322 1 rfl ?_
      refine j_if_ne (tgt := 1339) G dL_law_1324 (by decide) (fun c1324 => absurd c1324 (by decide)) (fun _ => ?_)
      refine j_aload_n G dL_law_1327 rfl 5 rfl ?_
      refine j_iconst (v := 0) G dL_law_1328 (by decide) ?_
      refine j_lald G _ wq_o (show vp_in (nI 0) 1 from vp_in_nI (by decide) (by decide)) dL_law_1329 ?_
      refine j_rwl (show _ = (ua 10 (xs (i + 1)).toNatClampNeg).toInt64 from rfl) ?_
      refine j_iload G dL_law_1330 0 rfl ?_
      refine j_i2l G dL_law_1332 ?_
      refine j_lcmp G dL_law_1333 ?_
      refine j_if_eq (tgt := 1339) G dL_law_1334 (by decide) (fun c1334 => ?_) (fun c1334 => absurd (lgz.mpr rfl) c1334)
      refine j_goto (tgt := 2045) G dL_law_1339 (by decide) ?_
      refine j_sub (lv' := [(0, .ref bs), (1, .ref (q 0)), (2, .ref (qm 0)), (3, .ref oa), (4, .ref ob), (5, .int (nI i))]) [2, 3, 4, 5, 6, 7] rfl ?_
      refine j_cs (k' := k + 8) (n' := n + 256) (by omega) (by omega) ?_
      refine j_w (w' := mW cA qm un ui ul ua 0 ++ (((cF cA q un ui ul ua vc ex wo tp tf kf ++ va_pl L f) ++ [(oa, .inl (cA 4, 1, .inr (.inl (vp_updL g 0 (ua 10 (xs (i + 1)).toNatClampNeg).toInt64))))]) ++ [(ob, .inl (cA 5, 1, .inr (.inr (.inr (.inl gd)))))])) rfl ?_
      exact hN un ui ul ua vc ex wo tp tf kf L f ta ga ka 0 (vp_updL g 0 (ua 10 (xs (i + 1)).toNatClampNeg).toInt64) gd hI hPL
    · exact absurd hcf hc9
  · obtain ⟨hc, he⟩ := hp9
    cases he
    have hr9 : r = 1 := hd9.2
    subst hw9
    subst hb9
    subst hr9
    have hcf : cfTank (un 2) (xs (i + 1)) = 1 := (if_neg hc)
    refine j_w (w' := mW cA qm un ui ul ua co ++ (((cF cA q un ui ul ua vc ex wo tp tf kf ++ va_pl L f) ++ [(oa, .inl (cA 4, 1, .inr (.inl g)))]) ++ [(ob, .inl (cA 5, 1, .inr (.inr (.inr (.inl gd)))))])) (List.append_assoc _ _ _) ?_
    refine j_istore (lv' := [(6, .int 1), (0, .ref bs), (1, .ref (q 0)), (2, .ref (qm 0)), (3, .ref oa), (4, .ref ob), (5, .int (nI i))]) G dL_law_1297 (by decide) rfl ?_
    refine j_aload_n G dL_law_1299 rfl 3 rfl ?_
    refine j_aload_n G dL_law_1300 rfl 1 rfl ?_
    refine j_iload G dL_law_1301 6 rfl ?_
    refine j_iconst (v := 1) G dL_law_1303 (by decide) ?_
    refine j_iadd G dL_law_1304 ?_
    refine j_rwi (nI_add i 1) ?_
    refine j_sldN (j := i + 1) G hX hbl hbA (by omega) (by omega) dL_law_1305 ?_
    refine jV_i G 7 0 (fw_i (cM_tankVolume l D cA qm un ui ul ua co (xs (i + 1)) hI.1.2.2.2.1) [] (((cF cA q un ui ul ua vc ex wo tp tf kf ++ va_pl L f) ++ [(oa, .inl (cA 4, 1, .inr (.inl g)))]) ++ [(ob, .inl (cA 5, 1, .inr (.inr (.inr (.inl gd)))))]) rfl) gL_185 hd_X7_tankVolume ⟨Nat.le_of_ble_eq_true rfl, Nat.le_of_ble_eq_true rfl⟩ ⟨by show _ ≤ 603072; omega, by show _ ≤ 7211114; omega⟩ rfl rfl (Nat.le_of_ble_eq_true rfl) rfl rfl dL_law_1306 (fun r w9 hq9 => ?_)
    obtain ⟨b1, hq8, hw9⟩ := hq9
    rcases hq8 with ⟨hc9, hr9, hb9⟩ | ⟨hc9, hb9⟩
    · exact absurd (hcf.symm.trans hc9) (by decide)
    · rw [hcf] at hb9
      subst hw9
      subst hb9
      refine j_w (w' := mW cA qm un ui ul ua 1 ++ (((cF cA q un ui ul ua vc ex wo tp tf kf ++ va_pl L f) ++ [(oa, .inl (cA 4, 1, .inr (.inl g)))]) ++ [(ob, .inl (cA 5, 1, .inr (.inr (.inr (.inl gd)))))])) rfl ?_
      refine j_istore (lv' := [(7, .int r), (6, .int 1), (0, .ref bs), (1, .ref (q 0)), (2, .ref (qm 0)), (3, .ref oa), (4, .ref ob), (5, .int (nI i))]) G dL_law_1309 (by decide) rfl ?_
      refine j_aload_n G dL_law_1311 rfl 4 rfl ?_
      refine jV_i G 7 0 (fw_i (cM_thrown l D cA qm un ui ul ua 1  ) [] (((cF cA q un ui ul ua vc ex wo tp tf kf ++ va_pl L f) ++ [(oa, .inl (cA 4, 1, .inr (.inl g)))]) ++ [(ob, .inl (cA 5, 1, .inr (.inr (.inr (.inl gd)))))]) rfl) gL_122 hd_X7_thrown ⟨Nat.le_of_ble_eq_true rfl, Nat.le_of_ble_eq_true rfl⟩ ⟨by show _ ≤ 603072; omega, by show _ ≤ 7211114; omega⟩ rfl rfl (Nat.le_of_ble_eq_true rfl) rfl rfl dL_law_1312 (fun r w9 hq9 => ?_)
      obtain ⟨b1, hq8, hw9⟩ := hq9
      obtain ⟨hr9, hb9⟩ := hq8
      subst hw9
      subst hb9
      subst hr9
      refine j_w (w' := mW cA qm un ui ul ua 1 ++ (((cF cA q un ui ul ua vc ex wo tp tf kf ++ va_pl L f) ++ [(oa, .inl (cA 4, 1, .inr (.inl g)))]) ++ [(ob, .inl (cA 5, 1, .inr (.inr (.inr (.inl gd)))))])) rfl ?_
      refine j_iload G dL_law_1315 1 rfl ?_
      refine j_icmp_eq (tgt := 1322) G dL_law_1317 (by decide) (fun c1317 => ?_) (fun c1317 => absurd rfl c1317)
      refine j_iload G dL_law_1322 1 rfl ?_
      refine j_if_ne (tgt := 1339) G dL_law_1324 (by decide) (fun _ => ?_) (fun c1324 => absurd c1324 (by decide))
      refine j_goto (tgt := 2045) G dL_law_1339 (by decide) ?_
      refine j_sub (lv' := [(0, .ref bs), (1, .ref (q 0)), (2, .ref (qm 0)), (3, .ref oa), (4, .ref ob), (5, .int (nI i))]) [2, 3, 4, 5, 6, 7] rfl ?_
      refine j_cs (k' := k + 8) (n' := n + 256) (by omega) (by omega) ?_
      refine j_w (w' := mW cA qm un ui ul ua 1 ++ (((cF cA q un ui ul ua vc ex wo tp tf kf ++ va_pl L f) ++ [(oa, .inl (cA 4, 1, .inr (.inl g)))]) ++ [(ob, .inl (cA 5, 1, .inr (.inr (.inr (.inl gd)))))])) rfl ?_
      exact hN un ui ul ua vc ex wo tp tf kf L f ta ga ka 1 g gd hI hPL
set_option maxHeartbeats 4000000 in
set_option maxRecDepth 100000 in
theorem lw_tankSugar {p : Program} {l : Launch} {e : Env} {s : State} {m : MethodId} {args : Array Value} {below : List Frame} {meth : Method} {c : Code} {D : va_G} {cA : Nat → ClassId} {A : Nat → Prop} {Q : State → Prop} {k n : Nat} (G : GX p s m args c cL_law 9 RL D cA A) (hfl : l.stackTraces = false) {bs Ls : Nat} {xs : Nat → Int32} (hX : va_X bs Ls xs s s.heap) (hbl : bs < s.heap.size) (hbA : ¬ A bs) (hLs : Ls ≤ 3072) {i : Nat} (hi : i + 5 < Ls) (hk : k + 8 ≤ 603072) (hn9 : n + 256 ≤ 7211114) (q qm : Nat → Nat) (un : Nat → Nat) (ui : Nat → Int32) (ul : Nat → Int64) (ua : Nat → Nat → Int32) (vc ex wo tp : Nat → Int32) (tf kf : Nat → Option Nat) (L : List Nat) (f : Nat → va_E) (ta ga ka : Nat → Nat) (co : Int32) (oa ob : Nat) (g : Nat → Int64) (gd : Nat → UInt64) (hI : INV un ui ua) (hPL : PL cA un ua L f tf kf ta ga ka) (hN : ∀ (un : Nat → Nat) (ui : Nat → Int32) (ul : Nat → Int64) (ua : Nat → Nat → Int32) (vc ex wo tp : Nat → Int32) (tf kf : Nat → Option Nat) (L : List Nat) (f : Nat → va_E) (ta ga ka : Nat → Nat) (co : Int32) (g : Nat → Int64) (gd : Nat → UInt64), INV un ui ua → PL cA un ua L f tf kf ta ga ka → J p l e (RM 2048 94400 603072 7211114) s m args below meth c 9 D A (mW cA qm un ui ul ua co ++ (((cF cA q un ui ul ua vc ex wo tp tf kf ++ va_pl L f) ++ [(oa, .inl (cA 4, 1, .inr (.inl g)))]) ++ [(ob, .inl (cA 5, 1, .inr (.inr (.inr (.inl gd)))))])) (k + 8) (n + 256) Q 2045 [(0, .ref bs), (1, .ref (q 0)), (2, .ref (qm 0)), (3, .ref oa), (4, .ref ob), (5, .int (nI i))] []) : J p l e (RM 2048 94400 603072 7211114) s m args below meth c 9 D A (mW cA qm un ui ul ua co ++ (((cF cA q un ui ul ua vc ex wo tp tf kf ++ va_pl L f) ++ [(oa, .inl (cA 4, 1, .inr (.inl g)))]) ++ [(ob, .inl (cA 5, 1, .inr (.inr (.inr (.inl gd)))))])) k n Q 1342 [(0, .ref bs), (1, .ref (q 0)), (2, .ref (qm 0)), (3, .ref oa), (4, .ref ob), (5, .int (nI i))] [] := by
  refine j_aload_n G dL_law_1342 rfl 1 rfl ?_
  refine j_aload_n G dL_law_1343 rfl 0 rfl ?_
  refine j_iload G dL_law_1344 5 rfl ?_
  refine j_iconst (v := 1) G dL_law_1346 (by decide) ?_
  refine j_iadd G dL_law_1347 ?_
  refine j_rwi (nI_add i 1) ?_
  refine j_sldN (j := i + 1) G hX hbl hbA (by omega) (by omega) dL_law_1348 ?_
  refine j_aload_n G dL_law_1349 rfl 3 rfl ?_
  refine jSW_i G (fw_W (cW_tankSugar l D cA (b0 := cF cA q un ui ul ua vc ex wo tp tf kf ++ va_pl L f) rfl (xs (i + 1)) g (cC_X6_tankSugar l D cA hfl q un ui ul ua vc ex wo tp tf kf L f ta ga ka (xs (i + 1)) hI.1.2.2.2.1 hPL) (fun E8 b8 h8 => congrArg Prod.fst h8.2)) (mW cA qm un ui ul ua co) [(ob, .inl (cA 5, 1, .inr (.inr (.inr (.inl gd)))))] (List.append_assoc _ _ _).symm) (gw_tankSugar wd_765) hd_L_tankSugar.2 ⟨Nat.le_of_ble_eq_true rfl, Nat.le_of_ble_eq_true rfl⟩ ⟨by show _ ≤ 603072; omega, by show _ ≤ 7211114; omega⟩ rfl rfl (Nat.le_of_ble_eq_true rfl) dL_law_1350 (fun r w9 hq9 => ?_)
  obtain ⟨b1, hq8, hw9⟩ := hq9
  rcases hq8 with ⟨v9, b2, hp9, hr9, hb9⟩ | ⟨E9, b2, hp9, hd9, hb9⟩
  · obtain ⟨hok, hv9, hb8⟩ := hp9
    subst hw9
    subst hb9
    subst hr9
    subst hb8
    subst hv9
    have hcf : cfTank (un 2) (xs (i + 1)) = 0 := (if_pos hok)
    refine j_w (w' := mW cA qm un ui ul ua co ++ (((cF cA q un ui ul ua vc ex wo tp tf kf ++ va_pl L f) ++ [(oa, .inl (cA 4, 1, .inr (.inl (vp_updL g 0 (ua 11 (xs (i + 1)).toNatClampNeg).toInt64))))]) ++ [(ob, .inl (cA 5, 1, .inr (.inr (.inr (.inl gd)))))])) (List.append_assoc _ _ _) ?_
    refine j_istore (lv' := [(6, .int 0), (0, .ref bs), (1, .ref (q 0)), (2, .ref (qm 0)), (3, .ref oa), (4, .ref ob), (5, .int (nI i))]) G dL_law_1353 (by decide) rfl ?_
    refine j_aload_n G dL_law_1355 rfl 3 rfl ?_
    refine j_aload_n G dL_law_1356 rfl 1 rfl ?_
    refine j_iload G dL_law_1357 6 rfl ?_
    refine j_iconst (v := 1) G dL_law_1359 (by decide) ?_
    refine j_iadd G dL_law_1360 ?_
    refine j_rwi (nI_add i 1) ?_
    refine j_sldN (j := i + 1) G hX hbl hbA (by omega) (by omega) dL_law_1361 ?_
    refine jV_i G 7 0 (fw_i (cM_tankSugar l D cA qm un ui ul ua co (xs (i + 1)) hI.1.2.2.2.1) [] (((cF cA q un ui ul ua vc ex wo tp tf kf ++ va_pl L f) ++ [(oa, .inl (cA 4, 1, .inr (.inl (vp_updL g 0 (ua 11 (xs (i + 1)).toNatClampNeg).toInt64))))]) ++ [(ob, .inl (cA 5, 1, .inr (.inr (.inr (.inl gd)))))]) rfl) gL_188 hd_X7_tankSugar ⟨Nat.le_of_ble_eq_true rfl, Nat.le_of_ble_eq_true rfl⟩ ⟨by show _ ≤ 603072; omega, by show _ ≤ 7211114; omega⟩ rfl rfl (Nat.le_of_ble_eq_true rfl) rfl rfl dL_law_1362 (fun r w9 hq9 => ?_)
    obtain ⟨b1, hq8, hw9⟩ := hq9
    rcases hq8 with ⟨hc9, hr9, hb9⟩ | ⟨hc9, hb9⟩
    · subst hw9
      subst hb9
      subst hr9
      refine j_w (w' := mW cA qm un ui ul ua 0 ++ (((cF cA q un ui ul ua vc ex wo tp tf kf ++ va_pl L f) ++ [(oa, .inl (cA 4, 1, .inr (.inl (vp_updL g 0 (ua 11 (xs (i + 1)).toNatClampNeg).toInt64))))]) ++ [(ob, .inl (cA 5, 1, .inr (.inr (.inr (.inl gd)))))])) rfl ?_
      refine j_istore (lv' := [(7, .int (ua 11 (xs (i + 1)).toNatClampNeg)), (6, .int 0), (0, .ref bs), (1, .ref (q 0)), (2, .ref (qm 0)), (3, .ref oa), (4, .ref ob), (5, .int (nI i))]) G dL_law_1365 (by decide) rfl ?_
      refine j_aload_n G dL_law_1367 rfl 4 rfl ?_
      refine jV_i G 7 0 (fw_i (cM_thrown l D cA qm un ui ul ua 0  ) [] (((cF cA q un ui ul ua vc ex wo tp tf kf ++ va_pl L f) ++ [(oa, .inl (cA 4, 1, .inr (.inl (vp_updL g 0 (ua 11 (xs (i + 1)).toNatClampNeg).toInt64))))]) ++ [(ob, .inl (cA 5, 1, .inr (.inr (.inr (.inl gd)))))]) rfl) gL_122 hd_X7_thrown ⟨Nat.le_of_ble_eq_true rfl, Nat.le_of_ble_eq_true rfl⟩ ⟨by show _ ≤ 603072; omega, by show _ ≤ 7211114; omega⟩ rfl rfl (Nat.le_of_ble_eq_true rfl) rfl rfl dL_law_1368 (fun r w9 hq9 => ?_)
      obtain ⟨b1, hq8, hw9⟩ := hq9
      obtain ⟨hr9, hb9⟩ := hq8
      subst hw9
      subst hb9
      subst hr9
      refine j_w (w' := mW cA qm un ui ul ua 0 ++ (((cF cA q un ui ul ua vc ex wo tp tf kf ++ va_pl L f) ++ [(oa, .inl (cA 4, 1, .inr (.inl (vp_updL g 0 (ua 11 (xs (i + 1)).toNatClampNeg).toInt64))))]) ++ [(ob, .inl (cA 5, 1, .inr (.inr (.inr (.inl gd)))))])) rfl ?_
      refine j_iload G dL_law_1371 1 rfl ?_
      refine j_icmp_eq (tgt := 1378) G dL_law_1373 (by decide) (fun c1373 => ?_) (fun c1373 => absurd rfl c1373)
      refine j_iload G dL_law_1378 1 rfl ?_
      refine j_if_ne (tgt := 1395) G dL_law_1380 (by decide) (fun c1380 => absurd c1380 (by decide)) (fun _ => ?_)
      refine j_aload_n G dL_law_1383 rfl 5 rfl ?_
      refine j_iconst (v := 0) G dL_law_1384 (by decide) ?_
      refine j_lald G _ wq_o (show vp_in (nI 0) 1 from vp_in_nI (by decide) (by decide)) dL_law_1385 ?_
      refine j_rwl (show _ = (ua 11 (xs (i + 1)).toNatClampNeg).toInt64 from rfl) ?_
      refine j_iload G dL_law_1386 0 rfl ?_
      refine j_i2l G dL_law_1388 ?_
      refine j_lcmp G dL_law_1389 ?_
      refine j_if_eq (tgt := 1395) G dL_law_1390 (by decide) (fun c1390 => ?_) (fun c1390 => absurd (lgz.mpr rfl) c1390)
      refine j_goto (tgt := 2045) G dL_law_1395 (by decide) ?_
      refine j_sub (lv' := [(0, .ref bs), (1, .ref (q 0)), (2, .ref (qm 0)), (3, .ref oa), (4, .ref ob), (5, .int (nI i))]) [2, 3, 4, 5, 6, 7] rfl ?_
      refine j_cs (k' := k + 8) (n' := n + 256) (by omega) (by omega) ?_
      refine j_w (w' := mW cA qm un ui ul ua 0 ++ (((cF cA q un ui ul ua vc ex wo tp tf kf ++ va_pl L f) ++ [(oa, .inl (cA 4, 1, .inr (.inl (vp_updL g 0 (ua 11 (xs (i + 1)).toNatClampNeg).toInt64))))]) ++ [(ob, .inl (cA 5, 1, .inr (.inr (.inr (.inl gd)))))])) rfl ?_
      exact hN un ui ul ua vc ex wo tp tf kf L f ta ga ka 0 (vp_updL g 0 (ua 11 (xs (i + 1)).toNatClampNeg).toInt64) gd hI hPL
    · exact absurd hcf hc9
  · obtain ⟨hc, he⟩ := hp9
    cases he
    have hr9 : r = 1 := hd9.2
    subst hw9
    subst hb9
    subst hr9
    have hcf : cfTank (un 2) (xs (i + 1)) = 1 := (if_neg hc)
    refine j_w (w' := mW cA qm un ui ul ua co ++ (((cF cA q un ui ul ua vc ex wo tp tf kf ++ va_pl L f) ++ [(oa, .inl (cA 4, 1, .inr (.inl g)))]) ++ [(ob, .inl (cA 5, 1, .inr (.inr (.inr (.inl gd)))))])) (List.append_assoc _ _ _) ?_
    refine j_istore (lv' := [(6, .int 1), (0, .ref bs), (1, .ref (q 0)), (2, .ref (qm 0)), (3, .ref oa), (4, .ref ob), (5, .int (nI i))]) G dL_law_1353 (by decide) rfl ?_
    refine j_aload_n G dL_law_1355 rfl 3 rfl ?_
    refine j_aload_n G dL_law_1356 rfl 1 rfl ?_
    refine j_iload G dL_law_1357 6 rfl ?_
    refine j_iconst (v := 1) G dL_law_1359 (by decide) ?_
    refine j_iadd G dL_law_1360 ?_
    refine j_rwi (nI_add i 1) ?_
    refine j_sldN (j := i + 1) G hX hbl hbA (by omega) (by omega) dL_law_1361 ?_
    refine jV_i G 7 0 (fw_i (cM_tankSugar l D cA qm un ui ul ua co (xs (i + 1)) hI.1.2.2.2.1) [] (((cF cA q un ui ul ua vc ex wo tp tf kf ++ va_pl L f) ++ [(oa, .inl (cA 4, 1, .inr (.inl g)))]) ++ [(ob, .inl (cA 5, 1, .inr (.inr (.inr (.inl gd)))))]) rfl) gL_188 hd_X7_tankSugar ⟨Nat.le_of_ble_eq_true rfl, Nat.le_of_ble_eq_true rfl⟩ ⟨by show _ ≤ 603072; omega, by show _ ≤ 7211114; omega⟩ rfl rfl (Nat.le_of_ble_eq_true rfl) rfl rfl dL_law_1362 (fun r w9 hq9 => ?_)
    obtain ⟨b1, hq8, hw9⟩ := hq9
    rcases hq8 with ⟨hc9, hr9, hb9⟩ | ⟨hc9, hb9⟩
    · exact absurd (hcf.symm.trans hc9) (by decide)
    · rw [hcf] at hb9
      subst hw9
      subst hb9
      refine j_w (w' := mW cA qm un ui ul ua 1 ++ (((cF cA q un ui ul ua vc ex wo tp tf kf ++ va_pl L f) ++ [(oa, .inl (cA 4, 1, .inr (.inl g)))]) ++ [(ob, .inl (cA 5, 1, .inr (.inr (.inr (.inl gd)))))])) rfl ?_
      refine j_istore (lv' := [(7, .int r), (6, .int 1), (0, .ref bs), (1, .ref (q 0)), (2, .ref (qm 0)), (3, .ref oa), (4, .ref ob), (5, .int (nI i))]) G dL_law_1365 (by decide) rfl ?_
      refine j_aload_n G dL_law_1367 rfl 4 rfl ?_
      refine jV_i G 7 0 (fw_i (cM_thrown l D cA qm un ui ul ua 1  ) [] (((cF cA q un ui ul ua vc ex wo tp tf kf ++ va_pl L f) ++ [(oa, .inl (cA 4, 1, .inr (.inl g)))]) ++ [(ob, .inl (cA 5, 1, .inr (.inr (.inr (.inl gd)))))]) rfl) gL_122 hd_X7_thrown ⟨Nat.le_of_ble_eq_true rfl, Nat.le_of_ble_eq_true rfl⟩ ⟨by show _ ≤ 603072; omega, by show _ ≤ 7211114; omega⟩ rfl rfl (Nat.le_of_ble_eq_true rfl) rfl rfl dL_law_1368 (fun r w9 hq9 => ?_)
      obtain ⟨b1, hq8, hw9⟩ := hq9
      obtain ⟨hr9, hb9⟩ := hq8
      subst hw9
      subst hb9
      subst hr9
      refine j_w (w' := mW cA qm un ui ul ua 1 ++ (((cF cA q un ui ul ua vc ex wo tp tf kf ++ va_pl L f) ++ [(oa, .inl (cA 4, 1, .inr (.inl g)))]) ++ [(ob, .inl (cA 5, 1, .inr (.inr (.inr (.inl gd)))))])) rfl ?_
      refine j_iload G dL_law_1371 1 rfl ?_
      refine j_icmp_eq (tgt := 1378) G dL_law_1373 (by decide) (fun c1373 => ?_) (fun c1373 => absurd rfl c1373)
      refine j_iload G dL_law_1378 1 rfl ?_
      refine j_if_ne (tgt := 1395) G dL_law_1380 (by decide) (fun _ => ?_) (fun c1380 => absurd c1380 (by decide))
      refine j_goto (tgt := 2045) G dL_law_1395 (by decide) ?_
      refine j_sub (lv' := [(0, .ref bs), (1, .ref (q 0)), (2, .ref (qm 0)), (3, .ref oa), (4, .ref ob), (5, .int (nI i))]) [2, 3, 4, 5, 6, 7] rfl ?_
      refine j_cs (k' := k + 8) (n' := n + 256) (by omega) (by omega) ?_
      refine j_w (w' := mW cA qm un ui ul ua 1 ++ (((cF cA q un ui ul ua vc ex wo tp tf kf ++ va_pl L f) ++ [(oa, .inl (cA 4, 1, .inr (.inl g)))]) ++ [(ob, .inl (cA 5, 1, .inr (.inr (.inr (.inl gd)))))])) rfl ?_
      exact hN un ui ul ua vc ex wo tp tf kf L f ta ga ka 1 g gd hI hPL
set_option maxHeartbeats 4000000 in
set_option maxRecDepth 100000 in
theorem lw_load {p : Program} {l : Launch} {e : Env} {s : State} {m : MethodId} {args : Array Value} {below : List Frame} {meth : Method} {c : Code} {D : va_G} {cA : Nat → ClassId} {A : Nat → Prop} {Q : State → Prop} {k n : Nat} (G : GX p s m args c cL_law 9 RL D cA A) (hfl : l.stackTraces = false) {bs Ls : Nat} {xs : Nat → Int32} (hX : va_X bs Ls xs s s.heap) (hbl : bs < s.heap.size) (hbA : ¬ A bs) (hLs : Ls ≤ 3072) {i : Nat} (hi : i + 5 < Ls) (hk : k + 8 ≤ 603072) (hn9 : n + 256 ≤ 7211114) (q qm : Nat → Nat) (un : Nat → Nat) (ui : Nat → Int32) (ul : Nat → Int64) (ua : Nat → Nat → Int32) (vc ex wo tp : Nat → Int32) (tf kf : Nat → Option Nat) (L : List Nat) (f : Nat → va_E) (ta ga ka : Nat → Nat) (co : Int32) (oa ob : Nat) (g : Nat → Int64) (gd : Nat → UInt64) (hI : INV un ui ua) (hPL : PL cA un ua L f tf kf ta ga ka) (hN : ∀ (un : Nat → Nat) (ui : Nat → Int32) (ul : Nat → Int64) (ua : Nat → Nat → Int32) (vc ex wo tp : Nat → Int32) (tf kf : Nat → Option Nat) (L : List Nat) (f : Nat → va_E) (ta ga ka : Nat → Nat) (co : Int32) (g : Nat → Int64) (gd : Nat → UInt64), INV un ui ua → PL cA un ua L f tf kf ta ga ka → J p l e (RM 2048 94400 603072 7211114) s m args below meth c 9 D A (mW cA qm un ui ul ua co ++ (((cF cA q un ui ul ua vc ex wo tp tf kf ++ va_pl L f) ++ [(oa, .inl (cA 4, 1, .inr (.inl g)))]) ++ [(ob, .inl (cA 5, 1, .inr (.inr (.inr (.inl gd)))))])) (k + 8) (n + 256) Q 2045 [(0, .ref bs), (1, .ref (q 0)), (2, .ref (qm 0)), (3, .ref oa), (4, .ref ob), (5, .int (nI i))] []) : J p l e (RM 2048 94400 603072 7211114) s m args below meth c 9 D A (mW cA qm un ui ul ua co ++ (((cF cA q un ui ul ua vc ex wo tp tf kf ++ va_pl L f) ++ [(oa, .inl (cA 4, 1, .inr (.inl g)))]) ++ [(ob, .inl (cA 5, 1, .inr (.inr (.inr (.inl gd)))))])) k n Q 1398 [(0, .ref bs), (1, .ref (q 0)), (2, .ref (qm 0)), (3, .ref oa), (4, .ref ob), (5, .int (nI i))] [] := by
  refine j_aload_n G dL_law_1398 rfl 1 rfl ?_
  refine j_aload_n G dL_law_1399 rfl 0 rfl ?_
  refine j_iload G dL_law_1400 5 rfl ?_
  refine j_iconst (v := 1) G dL_law_1402 (by decide) ?_
  refine j_iadd G dL_law_1403 ?_
  refine j_rwi (nI_add i 1) ?_
  refine j_sldN (j := i + 1) G hX hbl hbA (by omega) (by omega) dL_law_1404 ?_
  refine j_aload_n G dL_law_1405 rfl 0 rfl ?_
  refine j_iload G dL_law_1406 5 rfl ?_
  refine j_iconst (v := 2) G dL_law_1408 (by decide) ?_
  refine j_iadd G dL_law_1409 ?_
  refine j_rwi (nI_add i 2) ?_
  refine j_sldN (j := i + 2) G hX hbl hbA (by omega) (by omega) dL_law_1410 ?_
  refine j_aload_n G dL_law_1411 rfl 3 rfl ?_
  refine jSW_i G (fw_W (cW_load l D cA (b0 := cF cA q un ui ul ua vc ex wo tp tf kf ++ va_pl L f) rfl (xs (i + 1)) (xs (i + 2)) g (cC_X6_load l D cA hfl q un ui ul ua vc ex wo tp tf kf L f ta ga ka (xs (i + 1)) (xs (i + 2)) hI.1.2.2.2.1 hPL) (fun E8 b8 h8 => h8.elim (fun h8 => Or.inl (congrArg Prod.fst h8.2)) (fun h8 => h8.elim (fun h8 => Or.inr (Or.inl (congrArg Prod.fst h8.2))) (fun h8 => h8.elim (fun h8 => Or.inr (Or.inr (Or.inl (congrArg Prod.fst h8.2)))) (fun h8 => Or.inr (Or.inr (Or.inr ((congrArg Prod.fst h8.2))))))))) (mW cA qm un ui ul ua co) [(ob, .inl (cA 5, 1, .inr (.inr (.inr (.inl gd)))))] (List.append_assoc _ _ _).symm) (gw_load wd_772) hd_L_load.2 ⟨Nat.le_of_ble_eq_true rfl, Nat.le_of_ble_eq_true rfl⟩ ⟨by show _ ≤ 603072; omega, by show _ ≤ 7211114; omega⟩ rfl rfl (Nat.le_of_ble_eq_true rfl) dL_law_1412 (fun r w9 hq9 => ?_)
  obtain ⟨b1, hq8, hw9⟩ := hq9
  rcases hq8 with ⟨v9, b2, hp9, hr9, hb9⟩ | ⟨E9, b2, hp9, hd9, hb9⟩
  · obtain ⟨hok, hv9, hb8⟩ := hp9
    subst hw9
    subst hb9
    subst hr9
    subst hb8
    subst hv9
    have hcf : cfLoad (un 2) (xs (i + 1)) (xs (i + 2)) (ui 1) (ua 10) = 0 := ((cfLoad_eq hI.2.2.1.2.2).symm.trans hok)
    refine j_w (w' := mW cA qm un ui ul ua co ++ (((cF cA q un (up (up ui 1 (ui 1 + (xs (i + 2)))) 2 (ui 2 + shrV (ua 11 (xs (i + 1)).toNatClampNeg) (xs (i + 2)) (ua 10 (xs (i + 1)).toNatClampNeg))) ul ua vc ex wo tp tf kf ++ va_pl L (va_up f (ka (xs (i + 1)).toNatClampNeg) (.inr (3, [.int (ua 9 (xs (i + 1)).toNatClampNeg), .int (ua 10 (xs (i + 1)).toNatClampNeg - (xs (i + 2))), .int (ua 11 (xs (i + 1)).toNatClampNeg - shrV (ua 11 (xs (i + 1)).toNatClampNeg) (xs (i + 2)) (ua 10 (xs (i + 1)).toNatClampNeg))])))) ++ [(oa, .inl (cA 4, 1, .inr (.inl (vp_updL g 0 (ui 1 + (xs (i + 2))).toInt64))))]) ++ [(ob, .inl (cA 5, 1, .inr (.inr (.inr (.inl gd)))))])) (List.append_assoc _ _ _) ?_
    refine j_istore (lv' := [(6, .int 0), (0, .ref bs), (1, .ref (q 0)), (2, .ref (qm 0)), (3, .ref oa), (4, .ref ob), (5, .int (nI i))]) G dL_law_1415 (by decide) rfl ?_
    refine j_aload_n G dL_law_1417 rfl 3 rfl ?_
    refine j_aload_n G dL_law_1418 rfl 1 rfl ?_
    refine j_iload G dL_law_1419 6 rfl ?_
    refine j_iconst (v := 1) G dL_law_1421 (by decide) ?_
    refine j_iadd G dL_law_1422 ?_
    refine j_rwi (nI_add i 1) ?_
    refine j_sldN (j := i + 1) G hX hbl hbA (by omega) (by omega) dL_law_1423 ?_
    refine j_aload_n G dL_law_1424 rfl 1 rfl ?_
    refine j_iload G dL_law_1425 6 rfl ?_
    refine j_iconst (v := 2) G dL_law_1427 (by decide) ?_
    refine j_iadd G dL_law_1428 ?_
    refine j_rwi (nI_add i 2) ?_
    refine j_sldN (j := i + 2) G hX hbl hbA (by omega) (by omega) dL_law_1429 ?_
    refine jV_i G 7 0 (fw_i (cM_load l D cA qm un ui ul ua co (xs (i + 1)) (xs (i + 2)) hI.1.2.2.2.1) [] (((cF cA q un (up (up ui 1 (ui 1 + (xs (i + 2)))) 2 (ui 2 + shrV (ua 11 (xs (i + 1)).toNatClampNeg) (xs (i + 2)) (ua 10 (xs (i + 1)).toNatClampNeg))) ul ua vc ex wo tp tf kf ++ va_pl L (va_up f (ka (xs (i + 1)).toNatClampNeg) (.inr (3, [.int (ua 9 (xs (i + 1)).toNatClampNeg), .int (ua 10 (xs (i + 1)).toNatClampNeg - (xs (i + 2))), .int (ua 11 (xs (i + 1)).toNatClampNeg - shrV (ua 11 (xs (i + 1)).toNatClampNeg) (xs (i + 2)) (ua 10 (xs (i + 1)).toNatClampNeg))])))) ++ [(oa, .inl (cA 4, 1, .inr (.inl (vp_updL g 0 (ui 1 + (xs (i + 2))).toInt64))))]) ++ [(ob, .inl (cA 5, 1, .inr (.inr (.inr (.inl gd)))))]) rfl) gL_191 hd_X7_load ⟨Nat.le_of_ble_eq_true rfl, Nat.le_of_ble_eq_true rfl⟩ ⟨by show _ ≤ 603072; omega, by show _ ≤ 7211114; omega⟩ rfl rfl (Nat.le_of_ble_eq_true rfl) rfl rfl dL_law_1430 (fun r w9 hq9 => ?_)
    obtain ⟨b1, hq8, hw9⟩ := hq9
    rcases hq8 with ⟨hc9, hr9, hb9⟩ | ⟨hc9, hb9⟩
    · subst hw9
      subst hb9
      subst hr9
      refine j_w (w' := mW cA qm un (up (up ui 1 (ui 1 + (xs (i + 2)))) 2 (ui 2 + ((ua 11 (xs (i + 1)).toNatClampNeg).toInt64 * (xs (i + 2)).toInt64 / (ua 10 (xs (i + 1)).toNatClampNeg).toInt64).toInt32)) ul (up (up ua 10 (upd (ua 10) (xs (i + 1)).toNatClampNeg (ua 10 (xs (i + 1)).toNatClampNeg - (xs (i + 2))))) 11 (upd (ua 11) (xs (i + 1)).toNatClampNeg (ua 11 (xs (i + 1)).toNatClampNeg - ((ua 11 (xs (i + 1)).toNatClampNeg).toInt64 * (xs (i + 2)).toInt64 / (ua 10 (xs (i + 1)).toNatClampNeg).toInt64).toInt32))) 0 ++ (((cF cA q un (up (up ui 1 (ui 1 + (xs (i + 2)))) 2 (ui 2 + shrV (ua 11 (xs (i + 1)).toNatClampNeg) (xs (i + 2)) (ua 10 (xs (i + 1)).toNatClampNeg))) ul ua vc ex wo tp tf kf ++ va_pl L (va_up f (ka (xs (i + 1)).toNatClampNeg) (.inr (3, [.int (ua 9 (xs (i + 1)).toNatClampNeg), .int (ua 10 (xs (i + 1)).toNatClampNeg - (xs (i + 2))), .int (ua 11 (xs (i + 1)).toNatClampNeg - shrV (ua 11 (xs (i + 1)).toNatClampNeg) (xs (i + 2)) (ua 10 (xs (i + 1)).toNatClampNeg))])))) ++ [(oa, .inl (cA 4, 1, .inr (.inl (vp_updL g 0 (ui 1 + (xs (i + 2))).toInt64))))]) ++ [(ob, .inl (cA 5, 1, .inr (.inr (.inr (.inl gd)))))])) rfl ?_
      refine j_istore (lv' := [(7, .int (ui 1 + (xs (i + 2)))), (6, .int 0), (0, .ref bs), (1, .ref (q 0)), (2, .ref (qm 0)), (3, .ref oa), (4, .ref ob), (5, .int (nI i))]) G dL_law_1433 (by decide) rfl ?_
      refine j_aload_n G dL_law_1435 rfl 4 rfl ?_
      refine jV_i G 7 0 (fw_i (cM_thrown l D cA qm un (up (up ui 1 (ui 1 + (xs (i + 2)))) 2 (ui 2 + ((ua 11 (xs (i + 1)).toNatClampNeg).toInt64 * (xs (i + 2)).toInt64 / (ua 10 (xs (i + 1)).toNatClampNeg).toInt64).toInt32)) ul (up (up ua 10 (upd (ua 10) (xs (i + 1)).toNatClampNeg (ua 10 (xs (i + 1)).toNatClampNeg - (xs (i + 2))))) 11 (upd (ua 11) (xs (i + 1)).toNatClampNeg (ua 11 (xs (i + 1)).toNatClampNeg - ((ua 11 (xs (i + 1)).toNatClampNeg).toInt64 * (xs (i + 2)).toInt64 / (ua 10 (xs (i + 1)).toNatClampNeg).toInt64).toInt32))) 0  ) [] (((cF cA q un (up (up ui 1 (ui 1 + (xs (i + 2)))) 2 (ui 2 + shrV (ua 11 (xs (i + 1)).toNatClampNeg) (xs (i + 2)) (ua 10 (xs (i + 1)).toNatClampNeg))) ul ua vc ex wo tp tf kf ++ va_pl L (va_up f (ka (xs (i + 1)).toNatClampNeg) (.inr (3, [.int (ua 9 (xs (i + 1)).toNatClampNeg), .int (ua 10 (xs (i + 1)).toNatClampNeg - (xs (i + 2))), .int (ua 11 (xs (i + 1)).toNatClampNeg - shrV (ua 11 (xs (i + 1)).toNatClampNeg) (xs (i + 2)) (ua 10 (xs (i + 1)).toNatClampNeg))])))) ++ [(oa, .inl (cA 4, 1, .inr (.inl (vp_updL g 0 (ui 1 + (xs (i + 2))).toInt64))))]) ++ [(ob, .inl (cA 5, 1, .inr (.inr (.inr (.inl gd)))))]) rfl) gL_122 hd_X7_thrown ⟨Nat.le_of_ble_eq_true rfl, Nat.le_of_ble_eq_true rfl⟩ ⟨by show _ ≤ 603072; omega, by show _ ≤ 7211114; omega⟩ rfl rfl (Nat.le_of_ble_eq_true rfl) rfl rfl dL_law_1436 (fun r w9 hq9 => ?_)
      obtain ⟨b1, hq8, hw9⟩ := hq9
      obtain ⟨hr9, hb9⟩ := hq8
      subst hw9
      subst hb9
      subst hr9
      refine j_w (w' := mW cA qm un (up (up ui 1 (ui 1 + (xs (i + 2)))) 2 (ui 2 + ((ua 11 (xs (i + 1)).toNatClampNeg).toInt64 * (xs (i + 2)).toInt64 / (ua 10 (xs (i + 1)).toNatClampNeg).toInt64).toInt32)) ul (up (up ua 10 (upd (ua 10) (xs (i + 1)).toNatClampNeg (ua 10 (xs (i + 1)).toNatClampNeg - (xs (i + 2))))) 11 (upd (ua 11) (xs (i + 1)).toNatClampNeg (ua 11 (xs (i + 1)).toNatClampNeg - ((ua 11 (xs (i + 1)).toNatClampNeg).toInt64 * (xs (i + 2)).toInt64 / (ua 10 (xs (i + 1)).toNatClampNeg).toInt64).toInt32))) 0 ++ (((cF cA q un (up (up ui 1 (ui 1 + (xs (i + 2)))) 2 (ui 2 + shrV (ua 11 (xs (i + 1)).toNatClampNeg) (xs (i + 2)) (ua 10 (xs (i + 1)).toNatClampNeg))) ul ua vc ex wo tp tf kf ++ va_pl L (va_up f (ka (xs (i + 1)).toNatClampNeg) (.inr (3, [.int (ua 9 (xs (i + 1)).toNatClampNeg), .int (ua 10 (xs (i + 1)).toNatClampNeg - (xs (i + 2))), .int (ua 11 (xs (i + 1)).toNatClampNeg - shrV (ua 11 (xs (i + 1)).toNatClampNeg) (xs (i + 2)) (ua 10 (xs (i + 1)).toNatClampNeg))])))) ++ [(oa, .inl (cA 4, 1, .inr (.inl (vp_updL g 0 (ui 1 + (xs (i + 2))).toInt64))))]) ++ [(ob, .inl (cA 5, 1, .inr (.inr (.inr (.inl gd)))))])) rfl ?_
      refine j_iload G dL_law_1439 1 rfl ?_
      refine j_icmp_eq (tgt := 1446) G dL_law_1441 (by decide) (fun c1441 => ?_) (fun c1441 => absurd rfl c1441)
      refine j_iload G dL_law_1446 1 rfl ?_
      refine j_if_ne (tgt := 1463) G dL_law_1448 (by decide) (fun c1448 => absurd c1448 (by decide)) (fun _ => ?_)
      refine j_aload_n G dL_law_1451 rfl 5 rfl ?_
      refine j_iconst (v := 0) G dL_law_1452 (by decide) ?_
      refine j_lald G _ wq_o (show vp_in (nI 0) 1 from vp_in_nI (by decide) (by decide)) dL_law_1453 ?_
      refine j_rwl (show _ = (ui 1 + (xs (i + 2))).toInt64 from rfl) ?_
      refine j_iload G dL_law_1454 0 rfl ?_
      refine j_i2l G dL_law_1456 ?_
      refine j_lcmp G dL_law_1457 ?_
      refine j_if_eq (tgt := 1463) G dL_law_1458 (by decide) (fun c1458 => ?_) (fun c1458 => absurd (lgz.mpr rfl) c1458)
      refine j_goto (tgt := 2045) G dL_law_1463 (by decide) ?_
      refine j_sub (lv' := [(0, .ref bs), (1, .ref (q 0)), (2, .ref (qm 0)), (3, .ref oa), (4, .ref ob), (5, .int (nI i))]) [2, 3, 4, 5, 6, 7] rfl ?_
      refine j_cs (k' := k + 8) (n' := n + 256) (by omega) (by omega) ?_
      have hld := cfLoad_ok hcf
      have ht9 := hld.1.lt (by have := hI.1.2.2.2.1; omega)
      have hsh := load_eq (pv := 0) (hI.2.2.2.2.2.2.1 _ ht9) hld.2.1 hld.2.2.1
      refine j_w (w' := mW cA qm un (up (up ui 1 (ui 1 + (xs (i + 2)))) 2 (ui 2 + ((ua 11 (xs (i + 1)).toNatClampNeg).toInt64 * (xs (i + 2)).toInt64 / (ua 10 (xs (i + 1)).toNatClampNeg).toInt64).toInt32)) ul (up (up ua 10 (upd (ua 10) (xs (i + 1)).toNatClampNeg (ua 10 (xs (i + 1)).toNatClampNeg - (xs (i + 2))))) 11 (upd (ua 11) (xs (i + 1)).toNatClampNeg (ua 11 (xs (i + 1)).toNatClampNeg - ((ua 11 (xs (i + 1)).toNatClampNeg).toInt64 * (xs (i + 2)).toInt64 / (ua 10 (xs (i + 1)).toNatClampNeg).toInt64).toInt32))) 0 ++ (((cF cA q un (up (up ui 1 (ui 1 + (xs (i + 2)))) 2 (ui 2 + ((ua 11 (xs (i + 1)).toNatClampNeg).toInt64 * (xs (i + 2)).toInt64 / (ua 10 (xs (i + 1)).toNatClampNeg).toInt64).toInt32)) ul ua vc ex wo tp tf kf ++ va_pl L (va_up f (ka (xs (i + 1)).toNatClampNeg) (.inr (3, [.int (ua 9 (xs (i + 1)).toNatClampNeg), .int (ua 10 (xs (i + 1)).toNatClampNeg - (xs (i + 2))), .int (ua 11 (xs (i + 1)).toNatClampNeg - ((ua 11 (xs (i + 1)).toNatClampNeg).toInt64 * (xs (i + 2)).toInt64 / (ua 10 (xs (i + 1)).toNatClampNeg).toInt64).toInt32)])))) ++ [(oa, .inl (cA 4, 1, .inr (.inl (vp_updL g 0 (ui 1 + (xs (i + 2))).toInt64))))]) ++ [(ob, .inl (cA 5, 1, .inr (.inr (.inr (.inl gd)))))])) (by rw [hsh]) ?_
      refine j_w (w' := mW cA qm un (up (up ui 1 (ui 1 + (xs (i + 2)))) 2 (ui 2 + ((ua 11 (xs (i + 1)).toNatClampNeg).toInt64 * (xs (i + 2)).toInt64 / (ua 10 (xs (i + 1)).toNatClampNeg).toInt64).toInt32)) ul (up (up ua 10 (upd (ua 10) (xs (i + 1)).toNatClampNeg (ua 10 (xs (i + 1)).toNatClampNeg - (xs (i + 2))))) 11 (upd (ua 11) (xs (i + 1)).toNatClampNeg (ua 11 (xs (i + 1)).toNatClampNeg - ((ua 11 (xs (i + 1)).toNatClampNeg).toInt64 * (xs (i + 2)).toInt64 / (ua 10 (xs (i + 1)).toNatClampNeg).toInt64).toInt32))) 0 ++ (((cF cA q un (up (up ui 1 (ui 1 + (xs (i + 2)))) 2 (ui 2 + ((ua 11 (xs (i + 1)).toNatClampNeg).toInt64 * (xs (i + 2)).toInt64 / (ua 10 (xs (i + 1)).toNatClampNeg).toInt64).toInt32)) ul (up (up ua 10 (upd (ua 10) (xs (i + 1)).toNatClampNeg (ua 10 (xs (i + 1)).toNatClampNeg - (xs (i + 2))))) 11 (upd (ua 11) (xs (i + 1)).toNatClampNeg (ua 11 (xs (i + 1)).toNatClampNeg - ((ua 11 (xs (i + 1)).toNatClampNeg).toInt64 * (xs (i + 2)).toInt64 / (ua 10 (xs (i + 1)).toNatClampNeg).toInt64).toInt32))) vc ex wo tp tf kf ++ va_pl L (va_up f (ka (xs (i + 1)).toNatClampNeg) (.inr (3, [.int (ua 9 (xs (i + 1)).toNatClampNeg), .int (ua 10 (xs (i + 1)).toNatClampNeg - (xs (i + 2))), .int (ua 11 (xs (i + 1)).toNatClampNeg - ((ua 11 (xs (i + 1)).toNatClampNeg).toInt64 * (xs (i + 2)).toInt64 / (ua 10 (xs (i + 1)).toNatClampNeg).toInt64).toInt32)])))) ++ [(oa, .inl (cA 4, 1, .inr (.inl (vp_updL g 0 (ui 1 + (xs (i + 2))).toInt64))))]) ++ [(ob, .inl (cA 5, 1, .inr (.inr (.inr (.inl gd)))))])) rfl ?_
      exact hN un (up (up ui 1 (ui 1 + (xs (i + 2)))) 2 (ui 2 + ((ua 11 (xs (i + 1)).toNatClampNeg).toInt64 * (xs (i + 2)).toInt64 / (ua 10 (xs (i + 1)).toNatClampNeg).toInt64).toInt32)) ul (up (up ua 10 (upd (ua 10) (xs (i + 1)).toNatClampNeg (ua 10 (xs (i + 1)).toNatClampNeg - (xs (i + 2))))) 11 (upd (ua 11) (xs (i + 1)).toNatClampNeg (ua 11 (xs (i + 1)).toNatClampNeg - ((ua 11 (xs (i + 1)).toNatClampNeg).toInt64 * (xs (i + 2)).toInt64 / (ua 10 (xs (i + 1)).toNatClampNeg).toInt64).toInt32))) vc ex wo tp tf kf L (va_up f (ka (xs (i + 1)).toNatClampNeg) (.inr (3, [.int (ua 9 (xs (i + 1)).toNatClampNeg), .int (ua 10 (xs (i + 1)).toNatClampNeg - (xs (i + 2))), .int (ua 11 (xs (i + 1)).toNatClampNeg - ((ua 11 (xs (i + 1)).toNatClampNeg).toInt64 * (xs (i + 2)).toInt64 / (ua 10 (xs (i + 1)).toNatClampNeg).toInt64).toInt32)]))) ta ga ka 0 (vp_updL g 0 (ui 1 + (xs (i + 2))).toInt64) gd (hI.tank ht9 (load_ok (hI.2.2.2.2.2.2.1 _ ht9) hI.2.2.1.2.2 hld.2.1 hld.2.2.1 hld.2.2.2).1 (load_ok (hI.2.2.2.2.2.2.1 _ ht9) hI.2.2.1.2.2 hld.2.1 hld.2.2.1 hld.2.2.2).2) (PL_g.mpr ((PL_g.mp hPL).tank ht9 _ _))
    · exact absurd hcf hc9
  · rcases hp9 with ⟨hc, he⟩ | ⟨hc, he⟩ | ⟨hc, he⟩ | ⟨hc, he⟩
    · cases he
      have hr9 : r = 1 := by rcases hd9 with ⟨h8, h7⟩ | ⟨h8, h7⟩ | ⟨h8, h7⟩ | ⟨h8, h7⟩ <;> first | exact h7 | exact absurd h8 (by decide)
      subst hw9
      subst hb9
      subst hr9
      have hcf : cfLoad (un 2) (xs (i + 1)) (xs (i + 2)) (ui 1) (ua 10) = 1 := ((cfLoad_eq hI.2.2.1.2.2).symm.trans hc)
      refine j_w (w' := mW cA qm un ui ul ua co ++ (((cF cA q un ui ul ua vc ex wo tp tf kf ++ va_pl L f) ++ [(oa, .inl (cA 4, 1, .inr (.inl g)))]) ++ [(ob, .inl (cA 5, 1, .inr (.inr (.inr (.inl gd)))))])) (List.append_assoc _ _ _) ?_
      refine j_istore (lv' := [(6, .int 1), (0, .ref bs), (1, .ref (q 0)), (2, .ref (qm 0)), (3, .ref oa), (4, .ref ob), (5, .int (nI i))]) G dL_law_1415 (by decide) rfl ?_
      refine j_aload_n G dL_law_1417 rfl 3 rfl ?_
      refine j_aload_n G dL_law_1418 rfl 1 rfl ?_
      refine j_iload G dL_law_1419 6 rfl ?_
      refine j_iconst (v := 1) G dL_law_1421 (by decide) ?_
      refine j_iadd G dL_law_1422 ?_
      refine j_rwi (nI_add i 1) ?_
      refine j_sldN (j := i + 1) G hX hbl hbA (by omega) (by omega) dL_law_1423 ?_
      refine j_aload_n G dL_law_1424 rfl 1 rfl ?_
      refine j_iload G dL_law_1425 6 rfl ?_
      refine j_iconst (v := 2) G dL_law_1427 (by decide) ?_
      refine j_iadd G dL_law_1428 ?_
      refine j_rwi (nI_add i 2) ?_
      refine j_sldN (j := i + 2) G hX hbl hbA (by omega) (by omega) dL_law_1429 ?_
      refine jV_i G 7 0 (fw_i (cM_load l D cA qm un ui ul ua co (xs (i + 1)) (xs (i + 2)) hI.1.2.2.2.1) [] (((cF cA q un ui ul ua vc ex wo tp tf kf ++ va_pl L f) ++ [(oa, .inl (cA 4, 1, .inr (.inl g)))]) ++ [(ob, .inl (cA 5, 1, .inr (.inr (.inr (.inl gd)))))]) rfl) gL_191 hd_X7_load ⟨Nat.le_of_ble_eq_true rfl, Nat.le_of_ble_eq_true rfl⟩ ⟨by show _ ≤ 603072; omega, by show _ ≤ 7211114; omega⟩ rfl rfl (Nat.le_of_ble_eq_true rfl) rfl rfl dL_law_1430 (fun r w9 hq9 => ?_)
      obtain ⟨b1, hq8, hw9⟩ := hq9
      rcases hq8 with ⟨hc9, hr9, hb9⟩ | ⟨hc9, hb9⟩
      · exact absurd (hcf.symm.trans hc9) (by decide)
      · rw [hcf] at hb9
        subst hw9
        subst hb9
        refine j_w (w' := mW cA qm un ui ul ua 1 ++ (((cF cA q un ui ul ua vc ex wo tp tf kf ++ va_pl L f) ++ [(oa, .inl (cA 4, 1, .inr (.inl g)))]) ++ [(ob, .inl (cA 5, 1, .inr (.inr (.inr (.inl gd)))))])) rfl ?_
        refine j_istore (lv' := [(7, .int r), (6, .int 1), (0, .ref bs), (1, .ref (q 0)), (2, .ref (qm 0)), (3, .ref oa), (4, .ref ob), (5, .int (nI i))]) G dL_law_1433 (by decide) rfl ?_
        refine j_aload_n G dL_law_1435 rfl 4 rfl ?_
        refine jV_i G 7 0 (fw_i (cM_thrown l D cA qm un ui ul ua 1  ) [] (((cF cA q un ui ul ua vc ex wo tp tf kf ++ va_pl L f) ++ [(oa, .inl (cA 4, 1, .inr (.inl g)))]) ++ [(ob, .inl (cA 5, 1, .inr (.inr (.inr (.inl gd)))))]) rfl) gL_122 hd_X7_thrown ⟨Nat.le_of_ble_eq_true rfl, Nat.le_of_ble_eq_true rfl⟩ ⟨by show _ ≤ 603072; omega, by show _ ≤ 7211114; omega⟩ rfl rfl (Nat.le_of_ble_eq_true rfl) rfl rfl dL_law_1436 (fun r w9 hq9 => ?_)
        obtain ⟨b1, hq8, hw9⟩ := hq9
        obtain ⟨hr9, hb9⟩ := hq8
        subst hw9
        subst hb9
        subst hr9
        refine j_w (w' := mW cA qm un ui ul ua 1 ++ (((cF cA q un ui ul ua vc ex wo tp tf kf ++ va_pl L f) ++ [(oa, .inl (cA 4, 1, .inr (.inl g)))]) ++ [(ob, .inl (cA 5, 1, .inr (.inr (.inr (.inl gd)))))])) rfl ?_
        refine j_iload G dL_law_1439 1 rfl ?_
        refine j_icmp_eq (tgt := 1446) G dL_law_1441 (by decide) (fun c1441 => ?_) (fun c1441 => absurd rfl c1441)
        refine j_iload G dL_law_1446 1 rfl ?_
        refine j_if_ne (tgt := 1463) G dL_law_1448 (by decide) (fun _ => ?_) (fun c1448 => absurd c1448 (by decide))
        refine j_goto (tgt := 2045) G dL_law_1463 (by decide) ?_
        refine j_sub (lv' := [(0, .ref bs), (1, .ref (q 0)), (2, .ref (qm 0)), (3, .ref oa), (4, .ref ob), (5, .int (nI i))]) [2, 3, 4, 5, 6, 7] rfl ?_
        refine j_cs (k' := k + 8) (n' := n + 256) (by omega) (by omega) ?_
        refine j_w (w' := mW cA qm un ui ul ua 1 ++ (((cF cA q un ui ul ua vc ex wo tp tf kf ++ va_pl L f) ++ [(oa, .inl (cA 4, 1, .inr (.inl g)))]) ++ [(ob, .inl (cA 5, 1, .inr (.inr (.inr (.inl gd)))))])) rfl ?_
        exact hN un ui ul ua vc ex wo tp tf kf L f ta ga ka 1 g gd hI hPL
    · cases he
      have hr9 : r = 2 := by rcases hd9 with ⟨h8, h7⟩ | ⟨h8, h7⟩ | ⟨h8, h7⟩ | ⟨h8, h7⟩ <;> first | exact h7 | exact absurd h8 (by decide)
      subst hw9
      subst hb9
      subst hr9
      have hcf : cfLoad (un 2) (xs (i + 1)) (xs (i + 2)) (ui 1) (ua 10) = 2 := ((cfLoad_eq hI.2.2.1.2.2).symm.trans hc)
      refine j_w (w' := mW cA qm un ui ul ua co ++ (((cF cA q un ui ul ua vc ex wo tp tf kf ++ va_pl L f) ++ [(oa, .inl (cA 4, 1, .inr (.inl g)))]) ++ [(ob, .inl (cA 5, 1, .inr (.inr (.inr (.inl gd)))))])) (List.append_assoc _ _ _) ?_
      refine j_istore (lv' := [(6, .int 2), (0, .ref bs), (1, .ref (q 0)), (2, .ref (qm 0)), (3, .ref oa), (4, .ref ob), (5, .int (nI i))]) G dL_law_1415 (by decide) rfl ?_
      refine j_aload_n G dL_law_1417 rfl 3 rfl ?_
      refine j_aload_n G dL_law_1418 rfl 1 rfl ?_
      refine j_iload G dL_law_1419 6 rfl ?_
      refine j_iconst (v := 1) G dL_law_1421 (by decide) ?_
      refine j_iadd G dL_law_1422 ?_
      refine j_rwi (nI_add i 1) ?_
      refine j_sldN (j := i + 1) G hX hbl hbA (by omega) (by omega) dL_law_1423 ?_
      refine j_aload_n G dL_law_1424 rfl 1 rfl ?_
      refine j_iload G dL_law_1425 6 rfl ?_
      refine j_iconst (v := 2) G dL_law_1427 (by decide) ?_
      refine j_iadd G dL_law_1428 ?_
      refine j_rwi (nI_add i 2) ?_
      refine j_sldN (j := i + 2) G hX hbl hbA (by omega) (by omega) dL_law_1429 ?_
      refine jV_i G 7 0 (fw_i (cM_load l D cA qm un ui ul ua co (xs (i + 1)) (xs (i + 2)) hI.1.2.2.2.1) [] (((cF cA q un ui ul ua vc ex wo tp tf kf ++ va_pl L f) ++ [(oa, .inl (cA 4, 1, .inr (.inl g)))]) ++ [(ob, .inl (cA 5, 1, .inr (.inr (.inr (.inl gd)))))]) rfl) gL_191 hd_X7_load ⟨Nat.le_of_ble_eq_true rfl, Nat.le_of_ble_eq_true rfl⟩ ⟨by show _ ≤ 603072; omega, by show _ ≤ 7211114; omega⟩ rfl rfl (Nat.le_of_ble_eq_true rfl) rfl rfl dL_law_1430 (fun r w9 hq9 => ?_)
      obtain ⟨b1, hq8, hw9⟩ := hq9
      rcases hq8 with ⟨hc9, hr9, hb9⟩ | ⟨hc9, hb9⟩
      · exact absurd (hcf.symm.trans hc9) (by decide)
      · rw [hcf] at hb9
        subst hw9
        subst hb9
        refine j_w (w' := mW cA qm un ui ul ua 2 ++ (((cF cA q un ui ul ua vc ex wo tp tf kf ++ va_pl L f) ++ [(oa, .inl (cA 4, 1, .inr (.inl g)))]) ++ [(ob, .inl (cA 5, 1, .inr (.inr (.inr (.inl gd)))))])) rfl ?_
        refine j_istore (lv' := [(7, .int r), (6, .int 2), (0, .ref bs), (1, .ref (q 0)), (2, .ref (qm 0)), (3, .ref oa), (4, .ref ob), (5, .int (nI i))]) G dL_law_1433 (by decide) rfl ?_
        refine j_aload_n G dL_law_1435 rfl 4 rfl ?_
        refine jV_i G 7 0 (fw_i (cM_thrown l D cA qm un ui ul ua 2  ) [] (((cF cA q un ui ul ua vc ex wo tp tf kf ++ va_pl L f) ++ [(oa, .inl (cA 4, 1, .inr (.inl g)))]) ++ [(ob, .inl (cA 5, 1, .inr (.inr (.inr (.inl gd)))))]) rfl) gL_122 hd_X7_thrown ⟨Nat.le_of_ble_eq_true rfl, Nat.le_of_ble_eq_true rfl⟩ ⟨by show _ ≤ 603072; omega, by show _ ≤ 7211114; omega⟩ rfl rfl (Nat.le_of_ble_eq_true rfl) rfl rfl dL_law_1436 (fun r w9 hq9 => ?_)
        obtain ⟨b1, hq8, hw9⟩ := hq9
        obtain ⟨hr9, hb9⟩ := hq8
        subst hw9
        subst hb9
        subst hr9
        refine j_w (w' := mW cA qm un ui ul ua 2 ++ (((cF cA q un ui ul ua vc ex wo tp tf kf ++ va_pl L f) ++ [(oa, .inl (cA 4, 1, .inr (.inl g)))]) ++ [(ob, .inl (cA 5, 1, .inr (.inr (.inr (.inl gd)))))])) rfl ?_
        refine j_iload G dL_law_1439 1 rfl ?_
        refine j_icmp_eq (tgt := 1446) G dL_law_1441 (by decide) (fun c1441 => ?_) (fun c1441 => absurd rfl c1441)
        refine j_iload G dL_law_1446 1 rfl ?_
        refine j_if_ne (tgt := 1463) G dL_law_1448 (by decide) (fun _ => ?_) (fun c1448 => absurd c1448 (by decide))
        refine j_goto (tgt := 2045) G dL_law_1463 (by decide) ?_
        refine j_sub (lv' := [(0, .ref bs), (1, .ref (q 0)), (2, .ref (qm 0)), (3, .ref oa), (4, .ref ob), (5, .int (nI i))]) [2, 3, 4, 5, 6, 7] rfl ?_
        refine j_cs (k' := k + 8) (n' := n + 256) (by omega) (by omega) ?_
        refine j_w (w' := mW cA qm un ui ul ua 2 ++ (((cF cA q un ui ul ua vc ex wo tp tf kf ++ va_pl L f) ++ [(oa, .inl (cA 4, 1, .inr (.inl g)))]) ++ [(ob, .inl (cA 5, 1, .inr (.inr (.inr (.inl gd)))))])) rfl ?_
        exact hN un ui ul ua vc ex wo tp tf kf L f ta ga ka 2 g gd hI hPL
    · cases he
      have hr9 : r = 3 := by rcases hd9 with ⟨h8, h7⟩ | ⟨h8, h7⟩ | ⟨h8, h7⟩ | ⟨h8, h7⟩ <;> first | exact h7 | exact absurd h8 (by decide)
      subst hw9
      subst hb9
      subst hr9
      have hcf : cfLoad (un 2) (xs (i + 1)) (xs (i + 2)) (ui 1) (ua 10) = 3 := ((cfLoad_eq hI.2.2.1.2.2).symm.trans hc)
      refine j_w (w' := mW cA qm un ui ul ua co ++ (((cF cA q un ui ul ua vc ex wo tp tf kf ++ va_pl L f) ++ [(oa, .inl (cA 4, 1, .inr (.inl g)))]) ++ [(ob, .inl (cA 5, 1, .inr (.inr (.inr (.inl gd)))))])) (List.append_assoc _ _ _) ?_
      refine j_istore (lv' := [(6, .int 3), (0, .ref bs), (1, .ref (q 0)), (2, .ref (qm 0)), (3, .ref oa), (4, .ref ob), (5, .int (nI i))]) G dL_law_1415 (by decide) rfl ?_
      refine j_aload_n G dL_law_1417 rfl 3 rfl ?_
      refine j_aload_n G dL_law_1418 rfl 1 rfl ?_
      refine j_iload G dL_law_1419 6 rfl ?_
      refine j_iconst (v := 1) G dL_law_1421 (by decide) ?_
      refine j_iadd G dL_law_1422 ?_
      refine j_rwi (nI_add i 1) ?_
      refine j_sldN (j := i + 1) G hX hbl hbA (by omega) (by omega) dL_law_1423 ?_
      refine j_aload_n G dL_law_1424 rfl 1 rfl ?_
      refine j_iload G dL_law_1425 6 rfl ?_
      refine j_iconst (v := 2) G dL_law_1427 (by decide) ?_
      refine j_iadd G dL_law_1428 ?_
      refine j_rwi (nI_add i 2) ?_
      refine j_sldN (j := i + 2) G hX hbl hbA (by omega) (by omega) dL_law_1429 ?_
      refine jV_i G 7 0 (fw_i (cM_load l D cA qm un ui ul ua co (xs (i + 1)) (xs (i + 2)) hI.1.2.2.2.1) [] (((cF cA q un ui ul ua vc ex wo tp tf kf ++ va_pl L f) ++ [(oa, .inl (cA 4, 1, .inr (.inl g)))]) ++ [(ob, .inl (cA 5, 1, .inr (.inr (.inr (.inl gd)))))]) rfl) gL_191 hd_X7_load ⟨Nat.le_of_ble_eq_true rfl, Nat.le_of_ble_eq_true rfl⟩ ⟨by show _ ≤ 603072; omega, by show _ ≤ 7211114; omega⟩ rfl rfl (Nat.le_of_ble_eq_true rfl) rfl rfl dL_law_1430 (fun r w9 hq9 => ?_)
      obtain ⟨b1, hq8, hw9⟩ := hq9
      rcases hq8 with ⟨hc9, hr9, hb9⟩ | ⟨hc9, hb9⟩
      · exact absurd (hcf.symm.trans hc9) (by decide)
      · rw [hcf] at hb9
        subst hw9
        subst hb9
        refine j_w (w' := mW cA qm un ui ul ua 3 ++ (((cF cA q un ui ul ua vc ex wo tp tf kf ++ va_pl L f) ++ [(oa, .inl (cA 4, 1, .inr (.inl g)))]) ++ [(ob, .inl (cA 5, 1, .inr (.inr (.inr (.inl gd)))))])) rfl ?_
        refine j_istore (lv' := [(7, .int r), (6, .int 3), (0, .ref bs), (1, .ref (q 0)), (2, .ref (qm 0)), (3, .ref oa), (4, .ref ob), (5, .int (nI i))]) G dL_law_1433 (by decide) rfl ?_
        refine j_aload_n G dL_law_1435 rfl 4 rfl ?_
        refine jV_i G 7 0 (fw_i (cM_thrown l D cA qm un ui ul ua 3  ) [] (((cF cA q un ui ul ua vc ex wo tp tf kf ++ va_pl L f) ++ [(oa, .inl (cA 4, 1, .inr (.inl g)))]) ++ [(ob, .inl (cA 5, 1, .inr (.inr (.inr (.inl gd)))))]) rfl) gL_122 hd_X7_thrown ⟨Nat.le_of_ble_eq_true rfl, Nat.le_of_ble_eq_true rfl⟩ ⟨by show _ ≤ 603072; omega, by show _ ≤ 7211114; omega⟩ rfl rfl (Nat.le_of_ble_eq_true rfl) rfl rfl dL_law_1436 (fun r w9 hq9 => ?_)
        obtain ⟨b1, hq8, hw9⟩ := hq9
        obtain ⟨hr9, hb9⟩ := hq8
        subst hw9
        subst hb9
        subst hr9
        refine j_w (w' := mW cA qm un ui ul ua 3 ++ (((cF cA q un ui ul ua vc ex wo tp tf kf ++ va_pl L f) ++ [(oa, .inl (cA 4, 1, .inr (.inl g)))]) ++ [(ob, .inl (cA 5, 1, .inr (.inr (.inr (.inl gd)))))])) rfl ?_
        refine j_iload G dL_law_1439 1 rfl ?_
        refine j_icmp_eq (tgt := 1446) G dL_law_1441 (by decide) (fun c1441 => ?_) (fun c1441 => absurd rfl c1441)
        refine j_iload G dL_law_1446 1 rfl ?_
        refine j_if_ne (tgt := 1463) G dL_law_1448 (by decide) (fun _ => ?_) (fun c1448 => absurd c1448 (by decide))
        refine j_goto (tgt := 2045) G dL_law_1463 (by decide) ?_
        refine j_sub (lv' := [(0, .ref bs), (1, .ref (q 0)), (2, .ref (qm 0)), (3, .ref oa), (4, .ref ob), (5, .int (nI i))]) [2, 3, 4, 5, 6, 7] rfl ?_
        refine j_cs (k' := k + 8) (n' := n + 256) (by omega) (by omega) ?_
        refine j_w (w' := mW cA qm un ui ul ua 3 ++ (((cF cA q un ui ul ua vc ex wo tp tf kf ++ va_pl L f) ++ [(oa, .inl (cA 4, 1, .inr (.inl g)))]) ++ [(ob, .inl (cA 5, 1, .inr (.inr (.inr (.inl gd)))))])) rfl ?_
        exact hN un ui ul ua vc ex wo tp tf kf L f ta ga ka 3 g gd hI hPL
    · cases he
      have hr9 : r = 4 := by rcases hd9 with ⟨h8, h7⟩ | ⟨h8, h7⟩ | ⟨h8, h7⟩ | ⟨h8, h7⟩ <;> first | exact h7 | exact absurd h8 (by decide)
      subst hw9
      subst hb9
      subst hr9
      have hcf : cfLoad (un 2) (xs (i + 1)) (xs (i + 2)) (ui 1) (ua 10) = 4 := ((cfLoad_eq hI.2.2.1.2.2).symm.trans hc)
      refine j_w (w' := mW cA qm un ui ul ua co ++ (((cF cA q un ui ul ua vc ex wo tp tf kf ++ va_pl L f) ++ [(oa, .inl (cA 4, 1, .inr (.inl g)))]) ++ [(ob, .inl (cA 5, 1, .inr (.inr (.inr (.inl gd)))))])) (List.append_assoc _ _ _) ?_
      refine j_istore (lv' := [(6, .int 4), (0, .ref bs), (1, .ref (q 0)), (2, .ref (qm 0)), (3, .ref oa), (4, .ref ob), (5, .int (nI i))]) G dL_law_1415 (by decide) rfl ?_
      refine j_aload_n G dL_law_1417 rfl 3 rfl ?_
      refine j_aload_n G dL_law_1418 rfl 1 rfl ?_
      refine j_iload G dL_law_1419 6 rfl ?_
      refine j_iconst (v := 1) G dL_law_1421 (by decide) ?_
      refine j_iadd G dL_law_1422 ?_
      refine j_rwi (nI_add i 1) ?_
      refine j_sldN (j := i + 1) G hX hbl hbA (by omega) (by omega) dL_law_1423 ?_
      refine j_aload_n G dL_law_1424 rfl 1 rfl ?_
      refine j_iload G dL_law_1425 6 rfl ?_
      refine j_iconst (v := 2) G dL_law_1427 (by decide) ?_
      refine j_iadd G dL_law_1428 ?_
      refine j_rwi (nI_add i 2) ?_
      refine j_sldN (j := i + 2) G hX hbl hbA (by omega) (by omega) dL_law_1429 ?_
      refine jV_i G 7 0 (fw_i (cM_load l D cA qm un ui ul ua co (xs (i + 1)) (xs (i + 2)) hI.1.2.2.2.1) [] (((cF cA q un ui ul ua vc ex wo tp tf kf ++ va_pl L f) ++ [(oa, .inl (cA 4, 1, .inr (.inl g)))]) ++ [(ob, .inl (cA 5, 1, .inr (.inr (.inr (.inl gd)))))]) rfl) gL_191 hd_X7_load ⟨Nat.le_of_ble_eq_true rfl, Nat.le_of_ble_eq_true rfl⟩ ⟨by show _ ≤ 603072; omega, by show _ ≤ 7211114; omega⟩ rfl rfl (Nat.le_of_ble_eq_true rfl) rfl rfl dL_law_1430 (fun r w9 hq9 => ?_)
      obtain ⟨b1, hq8, hw9⟩ := hq9
      rcases hq8 with ⟨hc9, hr9, hb9⟩ | ⟨hc9, hb9⟩
      · exact absurd (hcf.symm.trans hc9) (by decide)
      · rw [hcf] at hb9
        subst hw9
        subst hb9
        refine j_w (w' := mW cA qm un ui ul ua 4 ++ (((cF cA q un ui ul ua vc ex wo tp tf kf ++ va_pl L f) ++ [(oa, .inl (cA 4, 1, .inr (.inl g)))]) ++ [(ob, .inl (cA 5, 1, .inr (.inr (.inr (.inl gd)))))])) rfl ?_
        refine j_istore (lv' := [(7, .int r), (6, .int 4), (0, .ref bs), (1, .ref (q 0)), (2, .ref (qm 0)), (3, .ref oa), (4, .ref ob), (5, .int (nI i))]) G dL_law_1433 (by decide) rfl ?_
        refine j_aload_n G dL_law_1435 rfl 4 rfl ?_
        refine jV_i G 7 0 (fw_i (cM_thrown l D cA qm un ui ul ua 4  ) [] (((cF cA q un ui ul ua vc ex wo tp tf kf ++ va_pl L f) ++ [(oa, .inl (cA 4, 1, .inr (.inl g)))]) ++ [(ob, .inl (cA 5, 1, .inr (.inr (.inr (.inl gd)))))]) rfl) gL_122 hd_X7_thrown ⟨Nat.le_of_ble_eq_true rfl, Nat.le_of_ble_eq_true rfl⟩ ⟨by show _ ≤ 603072; omega, by show _ ≤ 7211114; omega⟩ rfl rfl (Nat.le_of_ble_eq_true rfl) rfl rfl dL_law_1436 (fun r w9 hq9 => ?_)
        obtain ⟨b1, hq8, hw9⟩ := hq9
        obtain ⟨hr9, hb9⟩ := hq8
        subst hw9
        subst hb9
        subst hr9
        refine j_w (w' := mW cA qm un ui ul ua 4 ++ (((cF cA q un ui ul ua vc ex wo tp tf kf ++ va_pl L f) ++ [(oa, .inl (cA 4, 1, .inr (.inl g)))]) ++ [(ob, .inl (cA 5, 1, .inr (.inr (.inr (.inl gd)))))])) rfl ?_
        refine j_iload G dL_law_1439 1 rfl ?_
        refine j_icmp_eq (tgt := 1446) G dL_law_1441 (by decide) (fun c1441 => ?_) (fun c1441 => absurd rfl c1441)
        refine j_iload G dL_law_1446 1 rfl ?_
        refine j_if_ne (tgt := 1463) G dL_law_1448 (by decide) (fun _ => ?_) (fun c1448 => absurd c1448 (by decide))
        refine j_goto (tgt := 2045) G dL_law_1463 (by decide) ?_
        refine j_sub (lv' := [(0, .ref bs), (1, .ref (q 0)), (2, .ref (qm 0)), (3, .ref oa), (4, .ref ob), (5, .int (nI i))]) [2, 3, 4, 5, 6, 7] rfl ?_
        refine j_cs (k' := k + 8) (n' := n + 256) (by omega) (by omega) ?_
        refine j_w (w' := mW cA qm un ui ul ua 4 ++ (((cF cA q un ui ul ua vc ex wo tp tf kf ++ va_pl L f) ++ [(oa, .inl (cA 4, 1, .inr (.inl g)))]) ++ [(ob, .inl (cA 5, 1, .inr (.inr (.inr (.inl gd)))))])) rfl ?_
        exact hN un ui ul ua vc ex wo tp tf kf L f ta ga ka 4 g gd hI hPL
set_option maxHeartbeats 4000000 in
set_option maxRecDepth 100000 in
theorem lw_setFire {p : Program} {l : Launch} {e : Env} {s : State} {m : MethodId} {args : Array Value} {below : List Frame} {meth : Method} {c : Code} {D : va_G} {cA : Nat → ClassId} {A : Nat → Prop} {Q : State → Prop} {k n : Nat} (G : GX p s m args c cL_law 9 RL D cA A) (hfl : l.stackTraces = false) {bs Ls : Nat} {xs : Nat → Int32} (hX : va_X bs Ls xs s s.heap) (hbl : bs < s.heap.size) (hbA : ¬ A bs) (hLs : Ls ≤ 3072) {i : Nat} (hi : i + 5 < Ls) (hk : k + 8 ≤ 603072) (hn9 : n + 256 ≤ 7211114) (q qm : Nat → Nat) (un : Nat → Nat) (ui : Nat → Int32) (ul : Nat → Int64) (ua : Nat → Nat → Int32) (vc ex wo tp : Nat → Int32) (tf kf : Nat → Option Nat) (L : List Nat) (f : Nat → va_E) (ta ga ka : Nat → Nat) (co : Int32) (oa ob : Nat) (g : Nat → Int64) (gd : Nat → UInt64) (hI : INV un ui ua) (hPL : PL cA un ua L f tf kf ta ga ka) (hN : ∀ (un : Nat → Nat) (ui : Nat → Int32) (ul : Nat → Int64) (ua : Nat → Nat → Int32) (vc ex wo tp : Nat → Int32) (tf kf : Nat → Option Nat) (L : List Nat) (f : Nat → va_E) (ta ga ka : Nat → Nat) (co : Int32) (g : Nat → Int64) (gd : Nat → UInt64), INV un ui ua → PL cA un ua L f tf kf ta ga ka → J p l e (RM 2048 94400 603072 7211114) s m args below meth c 9 D A (mW cA qm un ui ul ua co ++ (((cF cA q un ui ul ua vc ex wo tp tf kf ++ va_pl L f) ++ [(oa, .inl (cA 4, 1, .inr (.inl g)))]) ++ [(ob, .inl (cA 5, 1, .inr (.inr (.inr (.inl gd)))))])) (k + 8) (n + 256) Q 2045 [(0, .ref bs), (1, .ref (q 0)), (2, .ref (qm 0)), (3, .ref oa), (4, .ref ob), (5, .int (nI i))] []) : J p l e (RM 2048 94400 603072 7211114) s m args below meth c 9 D A (mW cA qm un ui ul ua co ++ (((cF cA q un ui ul ua vc ex wo tp tf kf ++ va_pl L f) ++ [(oa, .inl (cA 4, 1, .inr (.inl g)))]) ++ [(ob, .inl (cA 5, 1, .inr (.inr (.inr (.inl gd)))))])) k n Q 1466 [(0, .ref bs), (1, .ref (q 0)), (2, .ref (qm 0)), (3, .ref oa), (4, .ref ob), (5, .int (nI i))] [] := by
  refine j_aload_n G dL_law_1466 rfl 1 rfl ?_
  refine j_aload_n G dL_law_1467 rfl 0 rfl ?_
  refine j_iload G dL_law_1468 5 rfl ?_
  refine j_iconst (v := 1) G dL_law_1470 (by decide) ?_
  refine j_iadd G dL_law_1471 ?_
  refine j_rwi (nI_add i 1) ?_
  refine j_sldN (j := i + 1) G hX hbl hbA (by omega) (by omega) dL_law_1472 ?_
  refine j_aload_n G dL_law_1473 rfl 3 rfl ?_
  refine jSW_i G (fw_W (cW_setFire l D cA (b0 := cF cA q un ui ul ua vc ex wo tp tf kf ++ va_pl L f) rfl (xs (i + 1)) g (cC_X6_setFire l D cA hfl q un ui ul ua vc ex wo tp tf kf L f (xs (i + 1)) ) (fun E8 b8 h8 => congrArg Prod.fst h8.2)) (mW cA qm un ui ul ua co) [(ob, .inl (cA 5, 1, .inr (.inr (.inr (.inl gd)))))] (List.append_assoc _ _ _).symm) (gw_setFire wd_786) hd_L_setFire.2 ⟨Nat.le_of_ble_eq_true rfl, Nat.le_of_ble_eq_true rfl⟩ ⟨by show _ ≤ 603072; omega, by show _ ≤ 7211114; omega⟩ rfl rfl (Nat.le_of_ble_eq_true rfl) dL_law_1474 (fun r w9 hq9 => ?_)
  obtain ⟨b1, hq8, hw9⟩ := hq9
  rcases hq8 with ⟨v9, b2, hp9, hr9, hb9⟩ | ⟨E9, b2, hp9, hd9, hb9⟩
  · obtain ⟨hok, hv9, hb8⟩ := hp9
    subst hw9
    subst hb9
    subst hr9
    subst hb8
    subst hv9
    have hcf : cfFire (xs (i + 1)) = 0 := hok
    refine j_w (w' := mW cA qm un ui ul ua co ++ (((cF cA q un (up ui 3 (xs (i + 1))) ul ua vc ex wo tp tf kf ++ va_pl L f) ++ [(oa, .inl (cA 4, 1, .inr (.inl (vp_updL g 0 (ui 3).toInt64))))]) ++ [(ob, .inl (cA 5, 1, .inr (.inr (.inr (.inl gd)))))])) (List.append_assoc _ _ _) ?_
    refine j_istore (lv' := [(6, .int 0), (0, .ref bs), (1, .ref (q 0)), (2, .ref (qm 0)), (3, .ref oa), (4, .ref ob), (5, .int (nI i))]) G dL_law_1477 (by decide) rfl ?_
    refine j_aload_n G dL_law_1479 rfl 3 rfl ?_
    refine j_aload_n G dL_law_1480 rfl 1 rfl ?_
    refine j_iload G dL_law_1481 6 rfl ?_
    refine j_iconst (v := 1) G dL_law_1483 (by decide) ?_
    refine j_iadd G dL_law_1484 ?_
    refine j_rwi (nI_add i 1) ?_
    refine j_sldN (j := i + 1) G hX hbl hbA (by omega) (by omega) dL_law_1485 ?_
    refine jV_i G 7 0 (fw_i (cM_setFire l D cA qm un ui ul ua co (xs (i + 1)) ) [] (((cF cA q un (up ui 3 (xs (i + 1))) ul ua vc ex wo tp tf kf ++ va_pl L f) ++ [(oa, .inl (cA 4, 1, .inr (.inl (vp_updL g 0 (ui 3).toInt64))))]) ++ [(ob, .inl (cA 5, 1, .inr (.inr (.inr (.inl gd)))))]) rfl) gL_194 hd_X7_setFire ⟨Nat.le_of_ble_eq_true rfl, Nat.le_of_ble_eq_true rfl⟩ ⟨by show _ ≤ 603072; omega, by show _ ≤ 7211114; omega⟩ rfl rfl (Nat.le_of_ble_eq_true rfl) rfl rfl dL_law_1486 (fun r w9 hq9 => ?_)
    obtain ⟨b1, hq8, hw9⟩ := hq9
    rcases hq8 with ⟨hc9, hr9, hb9⟩ | ⟨hc9, hb9⟩
    · subst hw9
      subst hb9
      subst hr9
      refine j_w (w' := mW cA qm un (up ui 3 (xs (i + 1))) ul ua 0 ++ (((cF cA q un (up ui 3 (xs (i + 1))) ul ua vc ex wo tp tf kf ++ va_pl L f) ++ [(oa, .inl (cA 4, 1, .inr (.inl (vp_updL g 0 (ui 3).toInt64))))]) ++ [(ob, .inl (cA 5, 1, .inr (.inr (.inr (.inl gd)))))])) rfl ?_
      refine j_istore (lv' := [(7, .int (ui 3)), (6, .int 0), (0, .ref bs), (1, .ref (q 0)), (2, .ref (qm 0)), (3, .ref oa), (4, .ref ob), (5, .int (nI i))]) G dL_law_1489 (by decide) rfl ?_
      refine j_aload_n G dL_law_1491 rfl 4 rfl ?_
      refine jV_i G 7 0 (fw_i (cM_thrown l D cA qm un (up ui 3 (xs (i + 1))) ul ua 0  ) [] (((cF cA q un (up ui 3 (xs (i + 1))) ul ua vc ex wo tp tf kf ++ va_pl L f) ++ [(oa, .inl (cA 4, 1, .inr (.inl (vp_updL g 0 (ui 3).toInt64))))]) ++ [(ob, .inl (cA 5, 1, .inr (.inr (.inr (.inl gd)))))]) rfl) gL_122 hd_X7_thrown ⟨Nat.le_of_ble_eq_true rfl, Nat.le_of_ble_eq_true rfl⟩ ⟨by show _ ≤ 603072; omega, by show _ ≤ 7211114; omega⟩ rfl rfl (Nat.le_of_ble_eq_true rfl) rfl rfl dL_law_1492 (fun r w9 hq9 => ?_)
      obtain ⟨b1, hq8, hw9⟩ := hq9
      obtain ⟨hr9, hb9⟩ := hq8
      subst hw9
      subst hb9
      subst hr9
      refine j_w (w' := mW cA qm un (up ui 3 (xs (i + 1))) ul ua 0 ++ (((cF cA q un (up ui 3 (xs (i + 1))) ul ua vc ex wo tp tf kf ++ va_pl L f) ++ [(oa, .inl (cA 4, 1, .inr (.inl (vp_updL g 0 (ui 3).toInt64))))]) ++ [(ob, .inl (cA 5, 1, .inr (.inr (.inr (.inl gd)))))])) rfl ?_
      refine j_iload G dL_law_1495 1 rfl ?_
      refine j_icmp_eq (tgt := 1502) G dL_law_1497 (by decide) (fun c1497 => ?_) (fun c1497 => absurd rfl c1497)
      refine j_iload G dL_law_1502 1 rfl ?_
      refine j_if_ne (tgt := 1519) G dL_law_1504 (by decide) (fun c1504 => absurd c1504 (by decide)) (fun _ => ?_)
      refine j_aload_n G dL_law_1507 rfl 5 rfl ?_
      refine j_iconst (v := 0) G dL_law_1508 (by decide) ?_
      refine j_lald G _ wq_o (show vp_in (nI 0) 1 from vp_in_nI (by decide) (by decide)) dL_law_1509 ?_
      refine j_rwl (show _ = (ui 3).toInt64 from rfl) ?_
      refine j_iload G dL_law_1510 0 rfl ?_
      refine j_i2l G dL_law_1512 ?_
      refine j_lcmp G dL_law_1513 ?_
      refine j_if_eq (tgt := 1519) G dL_law_1514 (by decide) (fun c1514 => ?_) (fun c1514 => absurd (lgz.mpr rfl) c1514)
      refine j_goto (tgt := 2045) G dL_law_1519 (by decide) ?_
      refine j_sub (lv' := [(0, .ref bs), (1, .ref (q 0)), (2, .ref (qm 0)), (3, .ref oa), (4, .ref ob), (5, .int (nI i))]) [2, 3, 4, 5, 6, 7] rfl ?_
      refine j_cs (k' := k + 8) (n' := n + 256) (by omega) (by omega) ?_
      refine j_w (w' := mW cA qm un (up ui 3 (xs (i + 1))) ul ua 0 ++ (((cF cA q un (up ui 3 (xs (i + 1))) ul ua vc ex wo tp tf kf ++ va_pl L f) ++ [(oa, .inl (cA 4, 1, .inr (.inl (vp_updL g 0 (ui 3).toInt64))))]) ++ [(ob, .inl (cA 5, 1, .inr (.inr (.inr (.inl gd)))))])) rfl ?_
      exact hN un (up ui 3 (xs (i + 1))) ul ua vc ex wo tp tf kf L f ta ga ka 0 (vp_updL g 0 (ui 3).toInt64) gd (hI.fire hok) hPL
    · exact absurd hcf hc9
  · obtain ⟨hc, he⟩ := hp9
    cases he
    have hr9 : r = 1 := hd9.2
    subst hw9
    subst hb9
    subst hr9
    have hcf : cfFire (xs (i + 1)) = 1 := hc
    refine j_w (w' := mW cA qm un ui ul ua co ++ (((cF cA q un ui ul ua vc ex wo tp tf kf ++ va_pl L f) ++ [(oa, .inl (cA 4, 1, .inr (.inl g)))]) ++ [(ob, .inl (cA 5, 1, .inr (.inr (.inr (.inl gd)))))])) (List.append_assoc _ _ _) ?_
    refine j_istore (lv' := [(6, .int 1), (0, .ref bs), (1, .ref (q 0)), (2, .ref (qm 0)), (3, .ref oa), (4, .ref ob), (5, .int (nI i))]) G dL_law_1477 (by decide) rfl ?_
    refine j_aload_n G dL_law_1479 rfl 3 rfl ?_
    refine j_aload_n G dL_law_1480 rfl 1 rfl ?_
    refine j_iload G dL_law_1481 6 rfl ?_
    refine j_iconst (v := 1) G dL_law_1483 (by decide) ?_
    refine j_iadd G dL_law_1484 ?_
    refine j_rwi (nI_add i 1) ?_
    refine j_sldN (j := i + 1) G hX hbl hbA (by omega) (by omega) dL_law_1485 ?_
    refine jV_i G 7 0 (fw_i (cM_setFire l D cA qm un ui ul ua co (xs (i + 1)) ) [] (((cF cA q un ui ul ua vc ex wo tp tf kf ++ va_pl L f) ++ [(oa, .inl (cA 4, 1, .inr (.inl g)))]) ++ [(ob, .inl (cA 5, 1, .inr (.inr (.inr (.inl gd)))))]) rfl) gL_194 hd_X7_setFire ⟨Nat.le_of_ble_eq_true rfl, Nat.le_of_ble_eq_true rfl⟩ ⟨by show _ ≤ 603072; omega, by show _ ≤ 7211114; omega⟩ rfl rfl (Nat.le_of_ble_eq_true rfl) rfl rfl dL_law_1486 (fun r w9 hq9 => ?_)
    obtain ⟨b1, hq8, hw9⟩ := hq9
    rcases hq8 with ⟨hc9, hr9, hb9⟩ | ⟨hc9, hb9⟩
    · exact absurd (hcf.symm.trans hc9) (by decide)
    · rw [hcf] at hb9
      subst hw9
      subst hb9
      refine j_w (w' := mW cA qm un ui ul ua 1 ++ (((cF cA q un ui ul ua vc ex wo tp tf kf ++ va_pl L f) ++ [(oa, .inl (cA 4, 1, .inr (.inl g)))]) ++ [(ob, .inl (cA 5, 1, .inr (.inr (.inr (.inl gd)))))])) rfl ?_
      refine j_istore (lv' := [(7, .int r), (6, .int 1), (0, .ref bs), (1, .ref (q 0)), (2, .ref (qm 0)), (3, .ref oa), (4, .ref ob), (5, .int (nI i))]) G dL_law_1489 (by decide) rfl ?_
      refine j_aload_n G dL_law_1491 rfl 4 rfl ?_
      refine jV_i G 7 0 (fw_i (cM_thrown l D cA qm un ui ul ua 1  ) [] (((cF cA q un ui ul ua vc ex wo tp tf kf ++ va_pl L f) ++ [(oa, .inl (cA 4, 1, .inr (.inl g)))]) ++ [(ob, .inl (cA 5, 1, .inr (.inr (.inr (.inl gd)))))]) rfl) gL_122 hd_X7_thrown ⟨Nat.le_of_ble_eq_true rfl, Nat.le_of_ble_eq_true rfl⟩ ⟨by show _ ≤ 603072; omega, by show _ ≤ 7211114; omega⟩ rfl rfl (Nat.le_of_ble_eq_true rfl) rfl rfl dL_law_1492 (fun r w9 hq9 => ?_)
      obtain ⟨b1, hq8, hw9⟩ := hq9
      obtain ⟨hr9, hb9⟩ := hq8
      subst hw9
      subst hb9
      subst hr9
      refine j_w (w' := mW cA qm un ui ul ua 1 ++ (((cF cA q un ui ul ua vc ex wo tp tf kf ++ va_pl L f) ++ [(oa, .inl (cA 4, 1, .inr (.inl g)))]) ++ [(ob, .inl (cA 5, 1, .inr (.inr (.inr (.inl gd)))))])) rfl ?_
      refine j_iload G dL_law_1495 1 rfl ?_
      refine j_icmp_eq (tgt := 1502) G dL_law_1497 (by decide) (fun c1497 => ?_) (fun c1497 => absurd rfl c1497)
      refine j_iload G dL_law_1502 1 rfl ?_
      refine j_if_ne (tgt := 1519) G dL_law_1504 (by decide) (fun _ => ?_) (fun c1504 => absurd c1504 (by decide))
      refine j_goto (tgt := 2045) G dL_law_1519 (by decide) ?_
      refine j_sub (lv' := [(0, .ref bs), (1, .ref (q 0)), (2, .ref (qm 0)), (3, .ref oa), (4, .ref ob), (5, .int (nI i))]) [2, 3, 4, 5, 6, 7] rfl ?_
      refine j_cs (k' := k + 8) (n' := n + 256) (by omega) (by omega) ?_
      refine j_w (w' := mW cA qm un ui ul ua 1 ++ (((cF cA q un ui ul ua vc ex wo tp tf kf ++ va_pl L f) ++ [(oa, .inl (cA 4, 1, .inr (.inl g)))]) ++ [(ob, .inl (cA 5, 1, .inr (.inr (.inr (.inl gd)))))])) rfl ?_
      exact hN un ui ul ua vc ex wo tp tf kf L f ta ga ka 1 g gd hI hPL
set_option maxHeartbeats 4000000 in
set_option maxRecDepth 100000 in
theorem lw_panVolume {p : Program} {l : Launch} {e : Env} {s : State} {m : MethodId} {args : Array Value} {below : List Frame} {meth : Method} {c : Code} {D : va_G} {cA : Nat → ClassId} {A : Nat → Prop} {Q : State → Prop} {k n : Nat} (G : GX p s m args c cL_law 9 RL D cA A) (hfl : l.stackTraces = false) {bs Ls : Nat} {xs : Nat → Int32} (hX : va_X bs Ls xs s s.heap) (hbl : bs < s.heap.size) (hbA : ¬ A bs) (hLs : Ls ≤ 3072) {i : Nat} (hi : i + 5 < Ls) (hk : k + 8 ≤ 603072) (hn9 : n + 256 ≤ 7211114) (q qm : Nat → Nat) (un : Nat → Nat) (ui : Nat → Int32) (ul : Nat → Int64) (ua : Nat → Nat → Int32) (vc ex wo tp : Nat → Int32) (tf kf : Nat → Option Nat) (L : List Nat) (f : Nat → va_E) (ta ga ka : Nat → Nat) (co : Int32) (oa ob : Nat) (g : Nat → Int64) (gd : Nat → UInt64) (hI : INV un ui ua) (hPL : PL cA un ua L f tf kf ta ga ka) (hN : ∀ (un : Nat → Nat) (ui : Nat → Int32) (ul : Nat → Int64) (ua : Nat → Nat → Int32) (vc ex wo tp : Nat → Int32) (tf kf : Nat → Option Nat) (L : List Nat) (f : Nat → va_E) (ta ga ka : Nat → Nat) (co : Int32) (g : Nat → Int64) (gd : Nat → UInt64), INV un ui ua → PL cA un ua L f tf kf ta ga ka → J p l e (RM 2048 94400 603072 7211114) s m args below meth c 9 D A (mW cA qm un ui ul ua co ++ (((cF cA q un ui ul ua vc ex wo tp tf kf ++ va_pl L f) ++ [(oa, .inl (cA 4, 1, .inr (.inl g)))]) ++ [(ob, .inl (cA 5, 1, .inr (.inr (.inr (.inl gd)))))])) (k + 8) (n + 256) Q 2045 [(0, .ref bs), (1, .ref (q 0)), (2, .ref (qm 0)), (3, .ref oa), (4, .ref ob), (5, .int (nI i))] []) : J p l e (RM 2048 94400 603072 7211114) s m args below meth c 9 D A (mW cA qm un ui ul ua co ++ (((cF cA q un ui ul ua vc ex wo tp tf kf ++ va_pl L f) ++ [(oa, .inl (cA 4, 1, .inr (.inl g)))]) ++ [(ob, .inl (cA 5, 1, .inr (.inr (.inr (.inl gd)))))])) k n Q 1522 [(0, .ref bs), (1, .ref (q 0)), (2, .ref (qm 0)), (3, .ref oa), (4, .ref ob), (5, .int (nI i))] [] := by
  refine j_aload_n G dL_law_1522 rfl 1 rfl ?_
  refine jV_i G 6 16 (fw_i (cC_X6_panVolume l D cA q un ui ul ua vc ex wo tp tf kf L f ) (mW cA qm un ui ul ua co) ([(oa, .inl (cA 4, 1, .inr (.inl g)))] ++ [(ob, .inl (cA 5, 1, .inr (.inr (.inr (.inl gd)))))]) (by simp only [List.append_assoc])) gL_195 hd_X6_panVolume ⟨Nat.le_of_ble_eq_true rfl, Nat.le_of_ble_eq_true rfl⟩ ⟨by show _ ≤ 603072; omega, by show _ ≤ 7211114; omega⟩ rfl rfl (Nat.le_of_ble_eq_true rfl) rfl rfl dL_law_1523 (fun r w9 hq9 => ?_)
  obtain ⟨b1, ⟨hr9, hb9⟩, hw9⟩ := hq9
  subst hw9
  subst hb9
  subst hr9
  refine j_w (w' := mW cA qm un ui ul ua co ++ (((cF cA q un ui ul ua vc ex wo tp tf kf ++ va_pl L f) ++ [(oa, .inl (cA 4, 1, .inr (.inl g)))]) ++ [(ob, .inl (cA 5, 1, .inr (.inr (.inr (.inl gd)))))])) (by simp only [List.append_assoc]) ?_
  refine j_aload_n G dL_law_1526 rfl 2 rfl ?_
  refine jV_i G 7 0 (fw_i (cM_panVolume l D cA qm un ui ul ua co  ) [] (((cF cA q un ui ul ua vc ex wo tp tf kf ++ va_pl L f) ++ [(oa, .inl (cA 4, 1, .inr (.inl g)))]) ++ [(ob, .inl (cA 5, 1, .inr (.inr (.inr (.inl gd)))))]) rfl) gL_198 hd_X7_panVolume ⟨Nat.le_of_ble_eq_true rfl, Nat.le_of_ble_eq_true rfl⟩ ⟨by show _ ≤ 603072; omega, by show _ ≤ 7211114; omega⟩ rfl rfl (Nat.le_of_ble_eq_true rfl) rfl rfl dL_law_1527 (fun r w9 hq9 => ?_)
  obtain ⟨b1, hq8, hw9⟩ := hq9
  obtain ⟨hr9, hb9⟩ := hq8
  subst hw9
  subst hb9
  subst hr9
  refine j_w (w' := mW cA qm un ui ul ua 0 ++ (((cF cA q un ui ul ua vc ex wo tp tf kf ++ va_pl L f) ++ [(oa, .inl (cA 4, 1, .inr (.inl g)))]) ++ [(ob, .inl (cA 5, 1, .inr (.inr (.inr (.inl gd)))))])) rfl ?_
  refine j_icmp_eq (tgt := 2045) G dL_law_1530 (by decide) (fun c1530 => ?_) (fun c1530 => absurd rfl c1530)
  refine j_sub (lv' := [(0, .ref bs), (1, .ref (q 0)), (2, .ref (qm 0)), (3, .ref oa), (4, .ref ob), (5, .int (nI i))]) [0, 1, 2, 3, 4, 5] rfl ?_
  refine j_cs (k' := k + 8) (n' := n + 256) (by omega) (by omega) ?_
  refine j_w (w' := mW cA qm un ui ul ua 0 ++ (((cF cA q un ui ul ua vc ex wo tp tf kf ++ va_pl L f) ++ [(oa, .inl (cA 4, 1, .inr (.inl g)))]) ++ [(ob, .inl (cA 5, 1, .inr (.inr (.inr (.inl gd)))))])) rfl ?_
  exact hN un ui ul ua vc ex wo tp tf kf L f ta ga ka 0 g gd hI hPL
