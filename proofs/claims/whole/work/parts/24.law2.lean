/-! THE LAW, case by case, on (printed by gen_law.py) -/
set_option maxHeartbeats 4000000 in
set_option maxRecDepth 100000 in
theorem lw_suspect {p : Program} {l : Launch} {e : Env} {s : State} {m : MethodId} {args : Array Value} {below : List Frame} {meth : Method} {c : Code} {D : va_G} {cA : Nat → ClassId} {A : Nat → Prop} {Q : State → Prop} {k n : Nat} (G : GX p s m args c cL_law 9 RL D cA A) (hfl : l.stackTraces = false) {bs Ls : Nat} {xs : Nat → Int32} (hX : va_X bs Ls xs s s.heap) (hbl : bs < s.heap.size) (hbA : ¬ A bs) (hLs : Ls ≤ 3072) {i : Nat} (hi : i + 5 < Ls) (hk : k + 8 ≤ 603072) (hn9 : n + 256 ≤ 7211114) (q qm : Nat → Nat) (un : Nat → Nat) (ui : Nat → Int32) (ul : Nat → Int64) (ua : Nat → Nat → Int32) (vc ex wo tp : Nat → Int32) (tf kf : Nat → Option Nat) (L : List Nat) (f : Nat → va_E) (ta ga ka : Nat → Nat) (co : Int32) (oa ob : Nat) (g : Nat → Int64) (gd : Nat → UInt64) (hI : INV un ui ua) (hPL : PL cA un ua L f tf kf ta ga ka) (hN : ∀ (un : Nat → Nat) (ui : Nat → Int32) (ul : Nat → Int64) (ua : Nat → Nat → Int32) (vc ex wo tp : Nat → Int32) (tf kf : Nat → Option Nat) (L : List Nat) (f : Nat → va_E) (ta ga ka : Nat → Nat) (co : Int32) (g : Nat → Int64) (gd : Nat → UInt64), INV un ui ua → PL cA un ua L f tf kf ta ga ka → J p l e (RM 2048 94400 603072 7211114) s m args below meth c 9 D A (mW cA qm un ui ul ua co ++ (((cF cA q un ui ul ua vc ex wo tp tf kf ++ va_pl L f) ++ [(oa, .inl (cA 4, 1, .inr (.inl g)))]) ++ [(ob, .inl (cA 5, 1, .inr (.inr (.inr (.inl gd)))))])) (k + 8) (n + 256) Q 2045 [(0, .ref bs), (1, .ref (q 0)), (2, .ref (qm 0)), (3, .ref oa), (4, .ref ob), (5, .int (nI i))] []) : J p l e (RM 2048 94400 603072 7211114) s m args below meth c 9 D A (mW cA qm un ui ul ua co ++ (((cF cA q un ui ul ua vc ex wo tp tf kf ++ va_pl L f) ++ [(oa, .inl (cA 4, 1, .inr (.inl g)))]) ++ [(ob, .inl (cA 5, 1, .inr (.inr (.inr (.inl gd)))))])) k n Q 757 [(0, .ref bs), (1, .ref (q 0)), (2, .ref (qm 0)), (3, .ref oa), (4, .ref ob), (5, .int (nI i))] [] := by
  refine j_aload_n G dL_law_757 rfl 1 rfl ?_
  refine j_aload_n G dL_law_758 rfl 0 rfl ?_
  refine j_iload G dL_law_759 5 rfl ?_
  refine j_iconst (v := 1) G dL_law_761 (by decide) ?_
  refine j_iadd G dL_law_762 ?_
  refine j_rwi (nI_add i 1) ?_
  refine j_sldN (j := i + 1) G hX hbl hbA (by omega) (by omega) dL_law_763 ?_
  refine j_aload_n G dL_law_764 rfl 3 rfl ?_
  refine jSW_i G (fw_W (cW_suspect l D cA (b0 := cF cA q un ui ul ua vc ex wo tp tf kf ++ va_pl L f) rfl (xs (i + 1)) g (cC_X6_suspect l D cA hfl q un ui ul ua vc ex wo tp tf kf L f (xs (i + 1)) hI.1.2.1 hI.1.1 hI.2.1) (fun E8 b8 h8 => congrArg Prod.fst h8.2)) (mW cA qm un ui ul ua co) [(ob, .inl (cA 5, 1, .inr (.inr (.inr (.inl gd)))))] (List.append_assoc _ _ _).symm) (gw_suspect wd_594) hd_L_suspect.2 ⟨Nat.le_of_ble_eq_true rfl, Nat.le_of_ble_eq_true rfl⟩ ⟨by show _ ≤ 603072; omega, by show _ ≤ 7211114; omega⟩ rfl rfl (Nat.le_of_ble_eq_true rfl) dL_law_765 (fun r w9 hq9 => ?_)
  obtain ⟨b1, hq8, hw9⟩ := hq9
  have SI : ∀ j, j < un 0 → ((ndP (rkW (olV (swV (expV (ui 0) (ua 1) (ua 2)) ex (un 0)) (swV (vac (un 0) (ui 0) (ua 1) (ua 2) (ua 7)) vc (un 0)) (ua 1)) wo (un 0)) (un 0) (xs (i + 1))) j ↔ (susP (ownV (un 0) (ui 0) (ua 1) (ua 2) (ua 7)) (un 0) (xs (i + 1))) j) := fun j hj => (sus_iff hj).trans (sus_congr (fun o ho => ol_own hI.2.1 hI.1.2.1 ho) hj)
  rcases hq8 with ⟨v9, b2, hp9, hr9, hb9⟩ | ⟨E9, b2, hp9, hd9, hb9⟩
  · obtain ⟨hok, hv9, hb8⟩ := hp9
    subst hw9
    subst hb9
    subst hr9
    subst hb8
    subst hv9
    have hcf : cfRank (susP (ownV (un 0) (ui 0) (ua 1) (ua 2) (ua 7)) (un 0) (xs (i + 1))) (un 0) = 0 := ((rank_congr SI).symm.trans hok)
    refine j_w (w' := mW cA qm un ui ul ua co ++ (((cF cA q un ui ul ua (swV (vac (un 0) (ui 0) (ua 1) (ua 2) (ua 7)) vc (un 0)) (swV (expV (ui 0) (ua 1) (ua 2)) ex (un 0)) (rkW (olV (swV (expV (ui 0) (ua 1) (ua 2)) ex (un 0)) (swV (vac (un 0) (ui 0) (ua 1) (ua 2) (ua 7)) vc (un 0)) (ua 1)) wo (un 0)) tp tf kf ++ va_pl L f) ++ [(oa, .inl (cA 4, 1, .inr (.inl (vp_updL g 0 (nI (fnd (ndP (rkW (olV (swV (expV (ui 0) (ua 1) (ua 2)) ex (un 0)) (swV (vac (un 0) (ui 0) (ua 1) (ua 2) (ua 7)) vc (un 0)) (ua 1)) wo (un 0)) (un 0) (xs (i + 1))) (un 0))).toInt64))))]) ++ [(ob, .inl (cA 5, 1, .inr (.inr (.inr (.inl gd)))))])) (List.append_assoc _ _ _) ?_
    refine j_istore (lv' := [(6, .int 0), (0, .ref bs), (1, .ref (q 0)), (2, .ref (qm 0)), (3, .ref oa), (4, .ref ob), (5, .int (nI i))]) G dL_law_768 (by decide) rfl ?_
    refine j_aload_n G dL_law_770 rfl 3 rfl ?_
    refine j_aload_n G dL_law_771 rfl 1 rfl ?_
    refine j_iload G dL_law_772 6 rfl ?_
    refine j_iconst (v := 1) G dL_law_774 (by decide) ?_
    refine j_iadd G dL_law_775 ?_
    refine j_rwi (nI_add i 1) ?_
    refine j_sldN (j := i + 1) G hX hbl hbA (by omega) (by omega) dL_law_776 ?_
    refine jV_i G 7 0 (fw_i (cM_suspect l D cA qm un ui ul ua co (xs (i + 1)) hI.1.2.1 hI.2.1) [] (((cF cA q un ui ul ua (swV (vac (un 0) (ui 0) (ua 1) (ua 2) (ua 7)) vc (un 0)) (swV (expV (ui 0) (ua 1) (ua 2)) ex (un 0)) (rkW (olV (swV (expV (ui 0) (ua 1) (ua 2)) ex (un 0)) (swV (vac (un 0) (ui 0) (ua 1) (ua 2) (ua 7)) vc (un 0)) (ua 1)) wo (un 0)) tp tf kf ++ va_pl L f) ++ [(oa, .inl (cA 4, 1, .inr (.inl (vp_updL g 0 (nI (fnd (ndP (rkW (olV (swV (expV (ui 0) (ua 1) (ua 2)) ex (un 0)) (swV (vac (un 0) (ui 0) (ua 1) (ua 2) (ua 7)) vc (un 0)) (ua 1)) wo (un 0)) (un 0) (xs (i + 1))) (un 0))).toInt64))))]) ++ [(ob, .inl (cA 5, 1, .inr (.inr (.inr (.inl gd)))))]) rfl) gL_154 hd_X7_suspect ⟨Nat.le_of_ble_eq_true rfl, Nat.le_of_ble_eq_true rfl⟩ ⟨by show _ ≤ 603072; omega, by show _ ≤ 7211114; omega⟩ rfl rfl (Nat.le_of_ble_eq_true rfl) rfl rfl dL_law_777 (fun r w9 hq9 => ?_)
    obtain ⟨b1, hq8, hw9⟩ := hq9
    rcases hq8 with ⟨hc9, hr9, hb9⟩ | ⟨hc9, hb9⟩
    · subst hw9
      subst hb9
      subst hr9
      refine j_w (w' := mW cA qm un ui ul ua 0 ++ (((cF cA q un ui ul ua (swV (vac (un 0) (ui 0) (ua 1) (ua 2) (ua 7)) vc (un 0)) (swV (expV (ui 0) (ua 1) (ua 2)) ex (un 0)) (rkW (olV (swV (expV (ui 0) (ua 1) (ua 2)) ex (un 0)) (swV (vac (un 0) (ui 0) (ua 1) (ua 2) (ua 7)) vc (un 0)) (ua 1)) wo (un 0)) tp tf kf ++ va_pl L f) ++ [(oa, .inl (cA 4, 1, .inr (.inl (vp_updL g 0 (nI (fnd (ndP (rkW (olV (swV (expV (ui 0) (ua 1) (ua 2)) ex (un 0)) (swV (vac (un 0) (ui 0) (ua 1) (ua 2) (ua 7)) vc (un 0)) (ua 1)) wo (un 0)) (un 0) (xs (i + 1))) (un 0))).toInt64))))]) ++ [(ob, .inl (cA 5, 1, .inr (.inr (.inr (.inl gd)))))])) rfl ?_
      refine j_istore (lv' := [(7, .int (nI (fnd (susP (ownV (un 0) (ui 0) (ua 1) (ua 2) (ua 7)) (un 0) (xs (i + 1))) (un 0)))), (6, .int 0), (0, .ref bs), (1, .ref (q 0)), (2, .ref (qm 0)), (3, .ref oa), (4, .ref ob), (5, .int (nI i))]) G dL_law_780 (by decide) rfl ?_
      refine j_aload_n G dL_law_782 rfl 4 rfl ?_
      refine jV_i G 7 0 (fw_i (cM_thrown l D cA qm un ui ul ua 0  ) [] (((cF cA q un ui ul ua (swV (vac (un 0) (ui 0) (ua 1) (ua 2) (ua 7)) vc (un 0)) (swV (expV (ui 0) (ua 1) (ua 2)) ex (un 0)) (rkW (olV (swV (expV (ui 0) (ua 1) (ua 2)) ex (un 0)) (swV (vac (un 0) (ui 0) (ua 1) (ua 2) (ua 7)) vc (un 0)) (ua 1)) wo (un 0)) tp tf kf ++ va_pl L f) ++ [(oa, .inl (cA 4, 1, .inr (.inl (vp_updL g 0 (nI (fnd (ndP (rkW (olV (swV (expV (ui 0) (ua 1) (ua 2)) ex (un 0)) (swV (vac (un 0) (ui 0) (ua 1) (ua 2) (ua 7)) vc (un 0)) (ua 1)) wo (un 0)) (un 0) (xs (i + 1))) (un 0))).toInt64))))]) ++ [(ob, .inl (cA 5, 1, .inr (.inr (.inr (.inl gd)))))]) rfl) gL_122 hd_X7_thrown ⟨Nat.le_of_ble_eq_true rfl, Nat.le_of_ble_eq_true rfl⟩ ⟨by show _ ≤ 603072; omega, by show _ ≤ 7211114; omega⟩ rfl rfl (Nat.le_of_ble_eq_true rfl) rfl rfl dL_law_783 (fun r w9 hq9 => ?_)
      obtain ⟨b1, hq8, hw9⟩ := hq9
      obtain ⟨hr9, hb9⟩ := hq8
      subst hw9
      subst hb9
      subst hr9
      refine j_w (w' := mW cA qm un ui ul ua 0 ++ (((cF cA q un ui ul ua (swV (vac (un 0) (ui 0) (ua 1) (ua 2) (ua 7)) vc (un 0)) (swV (expV (ui 0) (ua 1) (ua 2)) ex (un 0)) (rkW (olV (swV (expV (ui 0) (ua 1) (ua 2)) ex (un 0)) (swV (vac (un 0) (ui 0) (ua 1) (ua 2) (ua 7)) vc (un 0)) (ua 1)) wo (un 0)) tp tf kf ++ va_pl L f) ++ [(oa, .inl (cA 4, 1, .inr (.inl (vp_updL g 0 (nI (fnd (ndP (rkW (olV (swV (expV (ui 0) (ua 1) (ua 2)) ex (un 0)) (swV (vac (un 0) (ui 0) (ua 1) (ua 2) (ua 7)) vc (un 0)) (ua 1)) wo (un 0)) (un 0) (xs (i + 1))) (un 0))).toInt64))))]) ++ [(ob, .inl (cA 5, 1, .inr (.inr (.inr (.inl gd)))))])) rfl ?_
      refine j_iload G dL_law_786 1 rfl ?_
      refine j_icmp_eq (tgt := 793) G dL_law_788 (by decide) (fun c788 => ?_) (fun c788 => absurd rfl c788)
      refine j_iload G dL_law_793 1 rfl ?_
      refine j_if_ne (tgt := 810) G dL_law_795 (by decide) (fun c795 => absurd c795 (by decide)) (fun _ => ?_)
      refine j_aload_n G dL_law_798 rfl 5 rfl ?_
      refine j_iconst (v := 0) G dL_law_799 (by decide) ?_
      refine j_lald G _ wq_o (show vp_in (nI 0) 1 from vp_in_nI (by decide) (by decide)) dL_law_800 ?_
      refine j_rwl (show _ = (nI (fnd (ndP (rkW (olV (swV (expV (ui 0) (ua 1) (ua 2)) ex (un 0)) (swV (vac (un 0) (ui 0) (ua 1) (ua 2) (ua 7)) vc (un 0)) (ua 1)) wo (un 0)) (un 0) (xs (i + 1))) (un 0))).toInt64 from rfl) ?_
      refine j_iload G dL_law_801 0 rfl ?_
      refine j_i2l G dL_law_803 ?_
      refine j_lcmp G dL_law_804 ?_
      refine j_if_eq (tgt := 810) G dL_law_805 (by decide) (fun c805 => ?_) (fun c805 => absurd (lgz.mpr (congrArg Int32.toInt64 (congrArg nI (fnd_congr SI)))) c805)
      refine j_goto (tgt := 2045) G dL_law_810 (by decide) ?_
      refine j_sub (lv' := [(0, .ref bs), (1, .ref (q 0)), (2, .ref (qm 0)), (3, .ref oa), (4, .ref ob), (5, .int (nI i))]) [2, 3, 4, 5, 6, 7] rfl ?_
      refine j_cs (k' := k + 8) (n' := n + 256) (by omega) (by omega) ?_
      refine j_w (w' := mW cA qm un ui ul ua 0 ++ (((cF cA q un ui ul ua (swV (vac (un 0) (ui 0) (ua 1) (ua 2) (ua 7)) vc (un 0)) (swV (expV (ui 0) (ua 1) (ua 2)) ex (un 0)) (rkW (olV (swV (expV (ui 0) (ua 1) (ua 2)) ex (un 0)) (swV (vac (un 0) (ui 0) (ua 1) (ua 2) (ua 7)) vc (un 0)) (ua 1)) wo (un 0)) tp tf kf ++ va_pl L f) ++ [(oa, .inl (cA 4, 1, .inr (.inl (vp_updL g 0 (nI (fnd (ndP (rkW (olV (swV (expV (ui 0) (ua 1) (ua 2)) ex (un 0)) (swV (vac (un 0) (ui 0) (ua 1) (ua 2) (ua 7)) vc (un 0)) (ua 1)) wo (un 0)) (un 0) (xs (i + 1))) (un 0))).toInt64))))]) ++ [(ob, .inl (cA 5, 1, .inr (.inr (.inr (.inl gd)))))])) rfl ?_
      exact hN un ui ul ua (swV (vac (un 0) (ui 0) (ua 1) (ua 2) (ua 7)) vc (un 0)) (swV (expV (ui 0) (ua 1) (ua 2)) ex (un 0)) (rkW (olV (swV (expV (ui 0) (ua 1) (ua 2)) ex (un 0)) (swV (vac (un 0) (ui 0) (ua 1) (ua 2) (ua 7)) vc (un 0)) (ua 1)) wo (un 0)) tp tf kf L f ta ga ka 0 (vp_updL g 0 (nI (fnd (ndP (rkW (olV (swV (expV (ui 0) (ua 1) (ua 2)) ex (un 0)) (swV (vac (un 0) (ui 0) (ua 1) (ua 2) (ua 7)) vc (un 0)) (ua 1)) wo (un 0)) (un 0) (xs (i + 1))) (un 0))).toInt64) gd hI hPL
    · exact absurd hcf hc9
  · obtain ⟨hc, he⟩ := hp9
    cases he
    have hr9 : r = 1 := hd9.2
    subst hw9
    subst hb9
    subst hr9
    have hcf : cfRank (susP (ownV (un 0) (ui 0) (ua 1) (ua 2) (ua 7)) (un 0) (xs (i + 1))) (un 0) = 1 := ((rank_congr SI).symm.trans hc)
    refine j_w (w' := mW cA qm un ui ul ua co ++ (((cF cA q un ui ul ua (swV (vac (un 0) (ui 0) (ua 1) (ua 2) (ua 7)) vc (un 0)) (swV (expV (ui 0) (ua 1) (ua 2)) ex (un 0)) (rkW (olV (swV (expV (ui 0) (ua 1) (ua 2)) ex (un 0)) (swV (vac (un 0) (ui 0) (ua 1) (ua 2) (ua 7)) vc (un 0)) (ua 1)) wo (un 0)) tp tf kf ++ va_pl L f) ++ [(oa, .inl (cA 4, 1, .inr (.inl g)))]) ++ [(ob, .inl (cA 5, 1, .inr (.inr (.inr (.inl gd)))))])) (List.append_assoc _ _ _) ?_
    refine j_istore (lv' := [(6, .int 1), (0, .ref bs), (1, .ref (q 0)), (2, .ref (qm 0)), (3, .ref oa), (4, .ref ob), (5, .int (nI i))]) G dL_law_768 (by decide) rfl ?_
    refine j_aload_n G dL_law_770 rfl 3 rfl ?_
    refine j_aload_n G dL_law_771 rfl 1 rfl ?_
    refine j_iload G dL_law_772 6 rfl ?_
    refine j_iconst (v := 1) G dL_law_774 (by decide) ?_
    refine j_iadd G dL_law_775 ?_
    refine j_rwi (nI_add i 1) ?_
    refine j_sldN (j := i + 1) G hX hbl hbA (by omega) (by omega) dL_law_776 ?_
    refine jV_i G 7 0 (fw_i (cM_suspect l D cA qm un ui ul ua co (xs (i + 1)) hI.1.2.1 hI.2.1) [] (((cF cA q un ui ul ua (swV (vac (un 0) (ui 0) (ua 1) (ua 2) (ua 7)) vc (un 0)) (swV (expV (ui 0) (ua 1) (ua 2)) ex (un 0)) (rkW (olV (swV (expV (ui 0) (ua 1) (ua 2)) ex (un 0)) (swV (vac (un 0) (ui 0) (ua 1) (ua 2) (ua 7)) vc (un 0)) (ua 1)) wo (un 0)) tp tf kf ++ va_pl L f) ++ [(oa, .inl (cA 4, 1, .inr (.inl g)))]) ++ [(ob, .inl (cA 5, 1, .inr (.inr (.inr (.inl gd)))))]) rfl) gL_154 hd_X7_suspect ⟨Nat.le_of_ble_eq_true rfl, Nat.le_of_ble_eq_true rfl⟩ ⟨by show _ ≤ 603072; omega, by show _ ≤ 7211114; omega⟩ rfl rfl (Nat.le_of_ble_eq_true rfl) rfl rfl dL_law_777 (fun r w9 hq9 => ?_)
    obtain ⟨b1, hq8, hw9⟩ := hq9
    rcases hq8 with ⟨hc9, hr9, hb9⟩ | ⟨hc9, hb9⟩
    · exact absurd (hcf.symm.trans hc9) (by decide)
    · rw [hcf] at hb9
      subst hw9
      subst hb9
      refine j_w (w' := mW cA qm un ui ul ua 1 ++ (((cF cA q un ui ul ua (swV (vac (un 0) (ui 0) (ua 1) (ua 2) (ua 7)) vc (un 0)) (swV (expV (ui 0) (ua 1) (ua 2)) ex (un 0)) (rkW (olV (swV (expV (ui 0) (ua 1) (ua 2)) ex (un 0)) (swV (vac (un 0) (ui 0) (ua 1) (ua 2) (ua 7)) vc (un 0)) (ua 1)) wo (un 0)) tp tf kf ++ va_pl L f) ++ [(oa, .inl (cA 4, 1, .inr (.inl g)))]) ++ [(ob, .inl (cA 5, 1, .inr (.inr (.inr (.inl gd)))))])) rfl ?_
      refine j_istore (lv' := [(7, .int r), (6, .int 1), (0, .ref bs), (1, .ref (q 0)), (2, .ref (qm 0)), (3, .ref oa), (4, .ref ob), (5, .int (nI i))]) G dL_law_780 (by decide) rfl ?_
      refine j_aload_n G dL_law_782 rfl 4 rfl ?_
      refine jV_i G 7 0 (fw_i (cM_thrown l D cA qm un ui ul ua 1  ) [] (((cF cA q un ui ul ua (swV (vac (un 0) (ui 0) (ua 1) (ua 2) (ua 7)) vc (un 0)) (swV (expV (ui 0) (ua 1) (ua 2)) ex (un 0)) (rkW (olV (swV (expV (ui 0) (ua 1) (ua 2)) ex (un 0)) (swV (vac (un 0) (ui 0) (ua 1) (ua 2) (ua 7)) vc (un 0)) (ua 1)) wo (un 0)) tp tf kf ++ va_pl L f) ++ [(oa, .inl (cA 4, 1, .inr (.inl g)))]) ++ [(ob, .inl (cA 5, 1, .inr (.inr (.inr (.inl gd)))))]) rfl) gL_122 hd_X7_thrown ⟨Nat.le_of_ble_eq_true rfl, Nat.le_of_ble_eq_true rfl⟩ ⟨by show _ ≤ 603072; omega, by show _ ≤ 7211114; omega⟩ rfl rfl (Nat.le_of_ble_eq_true rfl) rfl rfl dL_law_783 (fun r w9 hq9 => ?_)
      obtain ⟨b1, hq8, hw9⟩ := hq9
      obtain ⟨hr9, hb9⟩ := hq8
      subst hw9
      subst hb9
      subst hr9
      refine j_w (w' := mW cA qm un ui ul ua 1 ++ (((cF cA q un ui ul ua (swV (vac (un 0) (ui 0) (ua 1) (ua 2) (ua 7)) vc (un 0)) (swV (expV (ui 0) (ua 1) (ua 2)) ex (un 0)) (rkW (olV (swV (expV (ui 0) (ua 1) (ua 2)) ex (un 0)) (swV (vac (un 0) (ui 0) (ua 1) (ua 2) (ua 7)) vc (un 0)) (ua 1)) wo (un 0)) tp tf kf ++ va_pl L f) ++ [(oa, .inl (cA 4, 1, .inr (.inl g)))]) ++ [(ob, .inl (cA 5, 1, .inr (.inr (.inr (.inl gd)))))])) rfl ?_
      refine j_iload G dL_law_786 1 rfl ?_
      refine j_icmp_eq (tgt := 793) G dL_law_788 (by decide) (fun c788 => ?_) (fun c788 => absurd rfl c788)
      refine j_iload G dL_law_793 1 rfl ?_
      refine j_if_ne (tgt := 810) G dL_law_795 (by decide) (fun _ => ?_) (fun c795 => absurd c795 (by decide))
      refine j_goto (tgt := 2045) G dL_law_810 (by decide) ?_
      refine j_sub (lv' := [(0, .ref bs), (1, .ref (q 0)), (2, .ref (qm 0)), (3, .ref oa), (4, .ref ob), (5, .int (nI i))]) [2, 3, 4, 5, 6, 7] rfl ?_
      refine j_cs (k' := k + 8) (n' := n + 256) (by omega) (by omega) ?_
      refine j_w (w' := mW cA qm un ui ul ua 1 ++ (((cF cA q un ui ul ua (swV (vac (un 0) (ui 0) (ua 1) (ua 2) (ua 7)) vc (un 0)) (swV (expV (ui 0) (ua 1) (ua 2)) ex (un 0)) (rkW (olV (swV (expV (ui 0) (ua 1) (ua 2)) ex (un 0)) (swV (vac (un 0) (ui 0) (ua 1) (ua 2) (ua 7)) vc (un 0)) (ua 1)) wo (un 0)) tp tf kf ++ va_pl L f) ++ [(oa, .inl (cA 4, 1, .inr (.inl g)))]) ++ [(ob, .inl (cA 5, 1, .inr (.inr (.inr (.inl gd)))))])) rfl ?_
      exact hN un ui ul ua (swV (vac (un 0) (ui 0) (ua 1) (ua 2) (ua 7)) vc (un 0)) (swV (expV (ui 0) (ua 1) (ua 2)) ex (un 0)) (rkW (olV (swV (expV (ui 0) (ua 1) (ua 2)) ex (un 0)) (swV (vac (un 0) (ui 0) (ua 1) (ua 2) (ua 7)) vc (un 0)) (ua 1)) wo (un 0)) tp tf kf L f ta ga ka 1 g gd hI hPL
set_option maxHeartbeats 4000000 in
set_option maxRecDepth 100000 in
theorem lw_depth {p : Program} {l : Launch} {e : Env} {s : State} {m : MethodId} {args : Array Value} {below : List Frame} {meth : Method} {c : Code} {D : va_G} {cA : Nat → ClassId} {A : Nat → Prop} {Q : State → Prop} {k n : Nat} (G : GX p s m args c cL_law 9 RL D cA A) (hfl : l.stackTraces = false) {bs Ls : Nat} {xs : Nat → Int32} (hX : va_X bs Ls xs s s.heap) (hbl : bs < s.heap.size) (hbA : ¬ A bs) (hLs : Ls ≤ 3072) {i : Nat} (hi : i + 5 < Ls) (hk : k + 8 ≤ 603072) (hn9 : n + 256 ≤ 7211114) (q qm : Nat → Nat) (un : Nat → Nat) (ui : Nat → Int32) (ul : Nat → Int64) (ua : Nat → Nat → Int32) (vc ex wo tp : Nat → Int32) (tf kf : Nat → Option Nat) (L : List Nat) (f : Nat → va_E) (ta ga ka : Nat → Nat) (co : Int32) (oa ob : Nat) (g : Nat → Int64) (gd : Nat → UInt64) (hI : INV un ui ua) (hPL : PL cA un ua L f tf kf ta ga ka) (hN : ∀ (un : Nat → Nat) (ui : Nat → Int32) (ul : Nat → Int64) (ua : Nat → Nat → Int32) (vc ex wo tp : Nat → Int32) (tf kf : Nat → Option Nat) (L : List Nat) (f : Nat → va_E) (ta ga ka : Nat → Nat) (co : Int32) (g : Nat → Int64) (gd : Nat → UInt64), INV un ui ua → PL cA un ua L f tf kf ta ga ka → J p l e (RM 2048 94400 603072 7211114) s m args below meth c 9 D A (mW cA qm un ui ul ua co ++ (((cF cA q un ui ul ua vc ex wo tp tf kf ++ va_pl L f) ++ [(oa, .inl (cA 4, 1, .inr (.inl g)))]) ++ [(ob, .inl (cA 5, 1, .inr (.inr (.inr (.inl gd)))))])) (k + 8) (n + 256) Q 2045 [(0, .ref bs), (1, .ref (q 0)), (2, .ref (qm 0)), (3, .ref oa), (4, .ref ob), (5, .int (nI i))] []) : J p l e (RM 2048 94400 603072 7211114) s m args below meth c 9 D A (mW cA qm un ui ul ua co ++ (((cF cA q un ui ul ua vc ex wo tp tf kf ++ va_pl L f) ++ [(oa, .inl (cA 4, 1, .inr (.inl g)))]) ++ [(ob, .inl (cA 5, 1, .inr (.inr (.inr (.inl gd)))))])) k n Q 813 [(0, .ref bs), (1, .ref (q 0)), (2, .ref (qm 0)), (3, .ref oa), (4, .ref ob), (5, .int (nI i))] [] := by
  refine j_aload_n G dL_law_813 rfl 1 rfl ?_
  refine j_aload_n G dL_law_814 rfl 0 rfl ?_
  refine j_iload G dL_law_815 5 rfl ?_
  refine j_iconst (v := 1) G dL_law_817 (by decide) ?_
  refine j_iadd G dL_law_818 ?_
  refine j_rwi (nI_add i 1) ?_
  refine j_sldN (j := i + 1) G hX hbl hbA (by omega) (by omega) dL_law_819 ?_
  refine j_aload_n G dL_law_820 rfl 3 rfl ?_
  refine jSW_i G (fw_W (cW_depth l D cA (b0 := cF cA q un ui ul ua vc ex wo tp tf kf ++ va_pl L f) rfl (xs (i + 1)) g (cC_X6_depth l D cA hfl q un ui ul ua vc ex wo tp tf kf L f (xs (i + 1)) hI.1.2.1 hI.2.1) (fun E8 b8 h8 => congrArg Prod.fst h8.2)) (mW cA qm un ui ul ua co) [(ob, .inl (cA 5, 1, .inr (.inr (.inr (.inl gd)))))] (List.append_assoc _ _ _).symm) (gw_depth wd_622) hd_L_depth.2 ⟨Nat.le_of_ble_eq_true rfl, Nat.le_of_ble_eq_true rfl⟩ ⟨by show _ ≤ 603072; omega, by show _ ≤ 7211114; omega⟩ rfl rfl (Nat.le_of_ble_eq_true rfl) dL_law_821 (fun r w9 hq9 => ?_)
  obtain ⟨b1, hq8, hw9⟩ := hq9
  rcases hq8 with ⟨v9, b2, hp9, hr9, hb9⟩ | ⟨E9, b2, hp9, hd9, hb9⟩
  · obtain ⟨hok, hv9, hb8⟩ := hp9
    subst hw9
    subst hb9
    subst hr9
    subst hb8
    subst hv9
    have hcf : cfNode (un 0) (xs (i + 1)) = 0 := (if_pos hok)
    refine j_w (w' := mW cA qm un ui ul ua co ++ (((cF cA q un ui ul ua vc ex wo tp tf kf ++ va_pl L f) ++ [(oa, .inl (cA 4, 1, .inr (.inl (vp_updL g 0 (nI (depV (ua 1) (xs (i + 1)).toNatClampNeg)).toInt64))))]) ++ [(ob, .inl (cA 5, 1, .inr (.inr (.inr (.inl gd)))))])) (List.append_assoc _ _ _) ?_
    refine j_istore (lv' := [(6, .int 0), (0, .ref bs), (1, .ref (q 0)), (2, .ref (qm 0)), (3, .ref oa), (4, .ref ob), (5, .int (nI i))]) G dL_law_824 (by decide) rfl ?_
    refine j_aload_n G dL_law_826 rfl 3 rfl ?_
    refine j_aload_n G dL_law_827 rfl 1 rfl ?_
    refine j_iload G dL_law_828 6 rfl ?_
    refine j_iconst (v := 1) G dL_law_830 (by decide) ?_
    refine j_iadd G dL_law_831 ?_
    refine j_rwi (nI_add i 1) ?_
    refine j_sldN (j := i + 1) G hX hbl hbA (by omega) (by omega) dL_law_832 ?_
    refine jV_i G 7 0 (fw_i (cM_depth l D cA qm un ui ul ua co (xs (i + 1)) hI.1.2.1 hI.2.1) [] (((cF cA q un ui ul ua vc ex wo tp tf kf ++ va_pl L f) ++ [(oa, .inl (cA 4, 1, .inr (.inl (vp_updL g 0 (nI (depV (ua 1) (xs (i + 1)).toNatClampNeg)).toInt64))))]) ++ [(ob, .inl (cA 5, 1, .inr (.inr (.inr (.inl gd)))))]) rfl) gL_157 hd_X7_depth ⟨Nat.le_of_ble_eq_true rfl, Nat.le_of_ble_eq_true rfl⟩ ⟨by show _ ≤ 603072; omega, by show _ ≤ 7211114; omega⟩ rfl rfl (Nat.le_of_ble_eq_true rfl) rfl rfl dL_law_833 (fun r w9 hq9 => ?_)
    obtain ⟨b1, hq8, hw9⟩ := hq9
    rcases hq8 with ⟨hc9, hr9, hb9⟩ | ⟨hc9, hb9⟩
    · subst hw9
      subst hb9
      subst hr9
      refine j_w (w' := mW cA qm un ui ul ua 0 ++ (((cF cA q un ui ul ua vc ex wo tp tf kf ++ va_pl L f) ++ [(oa, .inl (cA 4, 1, .inr (.inl (vp_updL g 0 (nI (depV (ua 1) (xs (i + 1)).toNatClampNeg)).toInt64))))]) ++ [(ob, .inl (cA 5, 1, .inr (.inr (.inr (.inl gd)))))])) rfl ?_
      refine j_istore (lv' := [(7, .int (nI (depV (ua 1) (xs (i + 1)).toNatClampNeg))), (6, .int 0), (0, .ref bs), (1, .ref (q 0)), (2, .ref (qm 0)), (3, .ref oa), (4, .ref ob), (5, .int (nI i))]) G dL_law_836 (by decide) rfl ?_
      refine j_aload_n G dL_law_838 rfl 4 rfl ?_
      refine jV_i G 7 0 (fw_i (cM_thrown l D cA qm un ui ul ua 0  ) [] (((cF cA q un ui ul ua vc ex wo tp tf kf ++ va_pl L f) ++ [(oa, .inl (cA 4, 1, .inr (.inl (vp_updL g 0 (nI (depV (ua 1) (xs (i + 1)).toNatClampNeg)).toInt64))))]) ++ [(ob, .inl (cA 5, 1, .inr (.inr (.inr (.inl gd)))))]) rfl) gL_122 hd_X7_thrown ⟨Nat.le_of_ble_eq_true rfl, Nat.le_of_ble_eq_true rfl⟩ ⟨by show _ ≤ 603072; omega, by show _ ≤ 7211114; omega⟩ rfl rfl (Nat.le_of_ble_eq_true rfl) rfl rfl dL_law_839 (fun r w9 hq9 => ?_)
      obtain ⟨b1, hq8, hw9⟩ := hq9
      obtain ⟨hr9, hb9⟩ := hq8
      subst hw9
      subst hb9
      subst hr9
      refine j_w (w' := mW cA qm un ui ul ua 0 ++ (((cF cA q un ui ul ua vc ex wo tp tf kf ++ va_pl L f) ++ [(oa, .inl (cA 4, 1, .inr (.inl (vp_updL g 0 (nI (depV (ua 1) (xs (i + 1)).toNatClampNeg)).toInt64))))]) ++ [(ob, .inl (cA 5, 1, .inr (.inr (.inr (.inl gd)))))])) rfl ?_
      refine j_iload G dL_law_842 1 rfl ?_
      refine j_icmp_eq (tgt := 849) G dL_law_844 (by decide) (fun c844 => ?_) (fun c844 => absurd rfl c844)
      refine j_iload G dL_law_849 1 rfl ?_
      refine j_if_ne (tgt := 866) G dL_law_851 (by decide) (fun c851 => absurd c851 (by decide)) (fun _ => ?_)
      refine j_aload_n G dL_law_854 rfl 5 rfl ?_
      refine j_iconst (v := 0) G dL_law_855 (by decide) ?_
      refine j_lald G _ wq_o (show vp_in (nI 0) 1 from vp_in_nI (by decide) (by decide)) dL_law_856 ?_
      refine j_rwl (show _ = (nI (depV (ua 1) (xs (i + 1)).toNatClampNeg)).toInt64 from rfl) ?_
      refine j_iload G dL_law_857 0 rfl ?_
      refine j_i2l G dL_law_859 ?_
      refine j_lcmp G dL_law_860 ?_
      refine j_if_eq (tgt := 866) G dL_law_861 (by decide) (fun c861 => ?_) (fun c861 => absurd (lgz.mpr rfl) c861)
      refine j_goto (tgt := 2045) G dL_law_866 (by decide) ?_
      refine j_sub (lv' := [(0, .ref bs), (1, .ref (q 0)), (2, .ref (qm 0)), (3, .ref oa), (4, .ref ob), (5, .int (nI i))]) [2, 3, 4, 5, 6, 7] rfl ?_
      refine j_cs (k' := k + 8) (n' := n + 256) (by omega) (by omega) ?_
      refine j_w (w' := mW cA qm un ui ul ua 0 ++ (((cF cA q un ui ul ua vc ex wo tp tf kf ++ va_pl L f) ++ [(oa, .inl (cA 4, 1, .inr (.inl (vp_updL g 0 (nI (depV (ua 1) (xs (i + 1)).toNatClampNeg)).toInt64))))]) ++ [(ob, .inl (cA 5, 1, .inr (.inr (.inr (.inl gd)))))])) rfl ?_
      exact hN un ui ul ua vc ex wo tp tf kf L f ta ga ka 0 (vp_updL g 0 (nI (depV (ua 1) (xs (i + 1)).toNatClampNeg)).toInt64) gd hI hPL
    · exact absurd hcf hc9
  · obtain ⟨hc, he⟩ := hp9
    cases he
    have hr9 : r = 1 := hd9.2
    subst hw9
    subst hb9
    subst hr9
    have hcf : cfNode (un 0) (xs (i + 1)) = 1 := (if_neg hc)
    refine j_w (w' := mW cA qm un ui ul ua co ++ (((cF cA q un ui ul ua vc ex wo tp tf kf ++ va_pl L f) ++ [(oa, .inl (cA 4, 1, .inr (.inl g)))]) ++ [(ob, .inl (cA 5, 1, .inr (.inr (.inr (.inl gd)))))])) (List.append_assoc _ _ _) ?_
    refine j_istore (lv' := [(6, .int 1), (0, .ref bs), (1, .ref (q 0)), (2, .ref (qm 0)), (3, .ref oa), (4, .ref ob), (5, .int (nI i))]) G dL_law_824 (by decide) rfl ?_
    refine j_aload_n G dL_law_826 rfl 3 rfl ?_
    refine j_aload_n G dL_law_827 rfl 1 rfl ?_
    refine j_iload G dL_law_828 6 rfl ?_
    refine j_iconst (v := 1) G dL_law_830 (by decide) ?_
    refine j_iadd G dL_law_831 ?_
    refine j_rwi (nI_add i 1) ?_
    refine j_sldN (j := i + 1) G hX hbl hbA (by omega) (by omega) dL_law_832 ?_
    refine jV_i G 7 0 (fw_i (cM_depth l D cA qm un ui ul ua co (xs (i + 1)) hI.1.2.1 hI.2.1) [] (((cF cA q un ui ul ua vc ex wo tp tf kf ++ va_pl L f) ++ [(oa, .inl (cA 4, 1, .inr (.inl g)))]) ++ [(ob, .inl (cA 5, 1, .inr (.inr (.inr (.inl gd)))))]) rfl) gL_157 hd_X7_depth ⟨Nat.le_of_ble_eq_true rfl, Nat.le_of_ble_eq_true rfl⟩ ⟨by show _ ≤ 603072; omega, by show _ ≤ 7211114; omega⟩ rfl rfl (Nat.le_of_ble_eq_true rfl) rfl rfl dL_law_833 (fun r w9 hq9 => ?_)
    obtain ⟨b1, hq8, hw9⟩ := hq9
    rcases hq8 with ⟨hc9, hr9, hb9⟩ | ⟨hc9, hb9⟩
    · exact absurd (hcf.symm.trans hc9) (by decide)
    · rw [hcf] at hb9
      subst hw9
      subst hb9
      refine j_w (w' := mW cA qm un ui ul ua 1 ++ (((cF cA q un ui ul ua vc ex wo tp tf kf ++ va_pl L f) ++ [(oa, .inl (cA 4, 1, .inr (.inl g)))]) ++ [(ob, .inl (cA 5, 1, .inr (.inr (.inr (.inl gd)))))])) rfl ?_
      refine j_istore (lv' := [(7, .int r), (6, .int 1), (0, .ref bs), (1, .ref (q 0)), (2, .ref (qm 0)), (3, .ref oa), (4, .ref ob), (5, .int (nI i))]) G dL_law_836 (by decide) rfl ?_
      refine j_aload_n G dL_law_838 rfl 4 rfl ?_
      refine jV_i G 7 0 (fw_i (cM_thrown l D cA qm un ui ul ua 1  ) [] (((cF cA q un ui ul ua vc ex wo tp tf kf ++ va_pl L f) ++ [(oa, .inl (cA 4, 1, .inr (.inl g)))]) ++ [(ob, .inl (cA 5, 1, .inr (.inr (.inr (.inl gd)))))]) rfl) gL_122 hd_X7_thrown ⟨Nat.le_of_ble_eq_true rfl, Nat.le_of_ble_eq_true rfl⟩ ⟨by show _ ≤ 603072; omega, by show _ ≤ 7211114; omega⟩ rfl rfl (Nat.le_of_ble_eq_true rfl) rfl rfl dL_law_839 (fun r w9 hq9 => ?_)
      obtain ⟨b1, hq8, hw9⟩ := hq9
      obtain ⟨hr9, hb9⟩ := hq8
      subst hw9
      subst hb9
      subst hr9
      refine j_w (w' := mW cA qm un ui ul ua 1 ++ (((cF cA q un ui ul ua vc ex wo tp tf kf ++ va_pl L f) ++ [(oa, .inl (cA 4, 1, .inr (.inl g)))]) ++ [(ob, .inl (cA 5, 1, .inr (.inr (.inr (.inl gd)))))])) rfl ?_
      refine j_iload G dL_law_842 1 rfl ?_
      refine j_icmp_eq (tgt := 849) G dL_law_844 (by decide) (fun c844 => ?_) (fun c844 => absurd rfl c844)
      refine j_iload G dL_law_849 1 rfl ?_
      refine j_if_ne (tgt := 866) G dL_law_851 (by decide) (fun _ => ?_) (fun c851 => absurd c851 (by decide))
      refine j_goto (tgt := 2045) G dL_law_866 (by decide) ?_
      refine j_sub (lv' := [(0, .ref bs), (1, .ref (q 0)), (2, .ref (qm 0)), (3, .ref oa), (4, .ref ob), (5, .int (nI i))]) [2, 3, 4, 5, 6, 7] rfl ?_
      refine j_cs (k' := k + 8) (n' := n + 256) (by omega) (by omega) ?_
      refine j_w (w' := mW cA qm un ui ul ua 1 ++ (((cF cA q un ui ul ua vc ex wo tp tf kf ++ va_pl L f) ++ [(oa, .inl (cA 4, 1, .inr (.inl g)))]) ++ [(ob, .inl (cA 5, 1, .inr (.inr (.inr (.inl gd)))))])) rfl ?_
      exact hN un ui ul ua vc ex wo tp tf kf L f ta ga ka 1 g gd hI hPL
set_option maxHeartbeats 4000000 in
set_option maxRecDepth 100000 in
theorem lw_pass {p : Program} {l : Launch} {e : Env} {s : State} {m : MethodId} {args : Array Value} {below : List Frame} {meth : Method} {c : Code} {D : va_G} {cA : Nat → ClassId} {A : Nat → Prop} {Q : State → Prop} {k n : Nat} (G : GX p s m args c cL_law 9 RL D cA A) (hfl : l.stackTraces = false) {bs Ls : Nat} {xs : Nat → Int32} (hX : va_X bs Ls xs s s.heap) (hbl : bs < s.heap.size) (hbA : ¬ A bs) (hLs : Ls ≤ 3072) {i : Nat} (hi : i + 5 < Ls) (hk : k + 8 ≤ 603072) (hn9 : n + 256 ≤ 7211114) (q qm : Nat → Nat) (un : Nat → Nat) (ui : Nat → Int32) (ul : Nat → Int64) (ua : Nat → Nat → Int32) (vc ex wo tp : Nat → Int32) (tf kf : Nat → Option Nat) (L : List Nat) (f : Nat → va_E) (ta ga ka : Nat → Nat) (co : Int32) (oa ob : Nat) (g : Nat → Int64) (gd : Nat → UInt64) (hI : INV un ui ua) (hPL : PL cA un ua L f tf kf ta ga ka) (hN : ∀ (un : Nat → Nat) (ui : Nat → Int32) (ul : Nat → Int64) (ua : Nat → Nat → Int32) (vc ex wo tp : Nat → Int32) (tf kf : Nat → Option Nat) (L : List Nat) (f : Nat → va_E) (ta ga ka : Nat → Nat) (co : Int32) (g : Nat → Int64) (gd : Nat → UInt64), INV un ui ua → PL cA un ua L f tf kf ta ga ka → J p l e (RM 2048 94400 603072 7211114) s m args below meth c 9 D A (mW cA qm un ui ul ua co ++ (((cF cA q un ui ul ua vc ex wo tp tf kf ++ va_pl L f) ++ [(oa, .inl (cA 4, 1, .inr (.inl g)))]) ++ [(ob, .inl (cA 5, 1, .inr (.inr (.inr (.inl gd)))))])) (k + 8) (n + 256) Q 2045 [(0, .ref bs), (1, .ref (q 0)), (2, .ref (qm 0)), (3, .ref oa), (4, .ref ob), (5, .int (nI i))] []) : J p l e (RM 2048 94400 603072 7211114) s m args below meth c 9 D A (mW cA qm un ui ul ua co ++ (((cF cA q un ui ul ua vc ex wo tp tf kf ++ va_pl L f) ++ [(oa, .inl (cA 4, 1, .inr (.inl g)))]) ++ [(ob, .inl (cA 5, 1, .inr (.inr (.inr (.inl gd)))))])) k n Q 869 [(0, .ref bs), (1, .ref (q 0)), (2, .ref (qm 0)), (3, .ref oa), (4, .ref ob), (5, .int (nI i))] [] := by
  refine j_aload_n G dL_law_869 rfl 1 rfl ?_
  refine j_aload_n G dL_law_870 rfl 0 rfl ?_
  refine j_iload G dL_law_871 5 rfl ?_
  refine j_iconst (v := 1) G dL_law_873 (by decide) ?_
  refine j_iadd G dL_law_874 ?_
  refine j_rwi (nI_add i 1) ?_
  refine j_sldN (j := i + 1) G hX hbl hbA (by omega) (by omega) dL_law_875 ?_
  refine j_aload_n G dL_law_876 rfl 3 rfl ?_
  refine jSW_i G (fw_W (cW_pass l D cA (b0 := cF cA q un ui ul ua vc ex wo tp tf kf ++ va_pl L f) rfl (xs (i + 1)) g (cC_X6_pass l D cA hfl q un ui ul ua vc ex wo tp tf kf L f ta ga ka (xs (i + 1)) hI hPL) (fun E8 b8 h8 => h8.elim (fun h8 => Or.inl (congrArg Prod.fst h8.2)) (fun h8 => Or.inr ((congrArg Prod.fst h8.2))))) (mW cA qm un ui ul ua co) [(ob, .inl (cA 5, 1, .inr (.inr (.inr (.inl gd)))))] (List.append_assoc _ _ _).symm) (gw_pass wd_633) hd_L_pass.2 ⟨Nat.le_of_ble_eq_true rfl, Nat.le_of_ble_eq_true rfl⟩ ⟨by show _ ≤ 603072; omega, by show _ ≤ 7211114; omega⟩ rfl rfl (Nat.le_of_ble_eq_true rfl) dL_law_877 (fun r w9 hq9 => ?_)
  obtain ⟨b1, hq8, hw9⟩ := hq9
  rcases hq8 with ⟨v9, b2, hp9, hr9, hb9⟩ | ⟨E9, b2, hp9, hd9, hb9⟩
  · obtain ⟨f9, P9, hok, hv9, hb8⟩ := hp9
    subst hw9
    subst hb9
    subst hr9
    subst hb8
    subst hv9
    have hcf : cfPass (un 1) (xs (i + 1)) = 0 := hok
    refine j_w (w' := mW cA qm un ui ul ua co ++ (((cF cA q (up un 1 (un 1 + 1)) (up (up ui 1 (bvV (ui 1) (ui 2) (ui 3))) 4 (bbV (ui 1) (ui 2) (ui 4) (ui 3))) (up (up (up (up (up ul 0 (ul 0 + (hrV (ua 0) (ua 3) (ua 5) (ua 6) (vac (un 0) (ui 0) (ua 1) (ua 2) (ua 7)) (xs (i + 1)) (un 0)).toInt64)) 1 (ul 1 + (hrS (ua 0) (ua 3) (ua 4) (ua 5) (ua 6) (vac (un 0) (ui 0) (ua 1) (ua 2) (ua 7)) (xs (i + 1)) (un 0)).toInt64)) 2 (ul 2 + (ui 1 - bvV (ui 1) (ui 2) (ui 3)).toInt64)) 3 (ul 3 + (prN (ua 9) ((hrV (ua 0) (ua 3) (ua 5) (ua 6) (vac (un 0) (ui 0) (ua 1) (ua 2) (ua 7)) (xs (i + 1)) (un 0)), (hrS (ua 0) (ua 3) (ua 4) (ua 5) (ua 6) (vac (un 0) (ui 0) (ua 1) (ua 2) (ua 7)) (xs (i + 1)) (un 0)), ua 10, ua 11) (un 2)).1.toInt64)) 4 (ul 4 + (prN (ua 9) ((hrV (ua 0) (ua 3) (ua 5) (ua 6) (vac (un 0) (ui 0) (ua 1) (ua 2) (ua 7)) (xs (i + 1)) (un 0)), (hrS (ua 0) (ua 3) (ua 4) (ua 5) (ua 6) (vac (un 0) (ui 0) (ua 1) (ua 2) (ua 7)) (xs (i + 1)) (un 0)), ua 10, ua 11) (un 2)).2.1.toInt64)) ua (swV (vac (un 0) (ui 0) (ua 1) (ua 2) (ua 7)) vc (un 0)) (swV (expV (ui 0) (ua 1) (ua 2)) ex (un 0)) wo tp tf kf ++ va_pl L f9) ++ [(oa, .inl (cA 4, 1, .inr (.inl (vp_updL g 0 (hrV (ua 0) (ua 3) (ua 5) (ua 6) (vac (un 0) (ui 0) (ua 1) (ua 2) (ua 7)) (xs (i + 1)) (un 0)).toInt64))))]) ++ [(ob, .inl (cA 5, 1, .inr (.inr (.inr (.inl gd)))))])) (List.append_assoc _ _ _) ?_
    refine j_istore (lv' := [(6, .int 0), (0, .ref bs), (1, .ref (q 0)), (2, .ref (qm 0)), (3, .ref oa), (4, .ref ob), (5, .int (nI i))]) G dL_law_880 (by decide) rfl ?_
    refine j_aload_n G dL_law_882 rfl 3 rfl ?_
    refine j_aload_n G dL_law_883 rfl 1 rfl ?_
    refine j_iload G dL_law_884 6 rfl ?_
    refine j_iconst (v := 1) G dL_law_886 (by decide) ?_
    refine j_iadd G dL_law_887 ?_
    refine j_rwi (nI_add i 1) ?_
    refine j_sldN (j := i + 1) G hX hbl hbA (by omega) (by omega) dL_law_888 ?_
    refine jV_i G 7 0 (fw_i (cM_pass l D cA qm un ui ul ua co (xs (i + 1)) hI.1.2.1 hI.2.1 hI.1.2.2.1 hI.1.2.2.2.1) [] (((cF cA q (up un 1 (un 1 + 1)) (up (up ui 1 (bvV (ui 1) (ui 2) (ui 3))) 4 (bbV (ui 1) (ui 2) (ui 4) (ui 3))) (up (up (up (up (up ul 0 (ul 0 + (hrV (ua 0) (ua 3) (ua 5) (ua 6) (vac (un 0) (ui 0) (ua 1) (ua 2) (ua 7)) (xs (i + 1)) (un 0)).toInt64)) 1 (ul 1 + (hrS (ua 0) (ua 3) (ua 4) (ua 5) (ua 6) (vac (un 0) (ui 0) (ua 1) (ua 2) (ua 7)) (xs (i + 1)) (un 0)).toInt64)) 2 (ul 2 + (ui 1 - bvV (ui 1) (ui 2) (ui 3)).toInt64)) 3 (ul 3 + (prN (ua 9) ((hrV (ua 0) (ua 3) (ua 5) (ua 6) (vac (un 0) (ui 0) (ua 1) (ua 2) (ua 7)) (xs (i + 1)) (un 0)), (hrS (ua 0) (ua 3) (ua 4) (ua 5) (ua 6) (vac (un 0) (ui 0) (ua 1) (ua 2) (ua 7)) (xs (i + 1)) (un 0)), ua 10, ua 11) (un 2)).1.toInt64)) 4 (ul 4 + (prN (ua 9) ((hrV (ua 0) (ua 3) (ua 5) (ua 6) (vac (un 0) (ui 0) (ua 1) (ua 2) (ua 7)) (xs (i + 1)) (un 0)), (hrS (ua 0) (ua 3) (ua 4) (ua 5) (ua 6) (vac (un 0) (ui 0) (ua 1) (ua 2) (ua 7)) (xs (i + 1)) (un 0)), ua 10, ua 11) (un 2)).2.1.toInt64)) ua (swV (vac (un 0) (ui 0) (ua 1) (ua 2) (ua 7)) vc (un 0)) (swV (expV (ui 0) (ua 1) (ua 2)) ex (un 0)) wo tp tf kf ++ va_pl L f9) ++ [(oa, .inl (cA 4, 1, .inr (.inl (vp_updL g 0 (hrV (ua 0) (ua 3) (ua 5) (ua 6) (vac (un 0) (ui 0) (ua 1) (ua 2) (ua 7)) (xs (i + 1)) (un 0)).toInt64))))]) ++ [(ob, .inl (cA 5, 1, .inr (.inr (.inr (.inl gd)))))]) rfl) gL_160 hd_X7_pass ⟨Nat.le_of_ble_eq_true rfl, Nat.le_of_ble_eq_true rfl⟩ ⟨by show _ ≤ 603072; omega, by show _ ≤ 7211114; omega⟩ rfl rfl (Nat.le_of_ble_eq_true rfl) rfl rfl dL_law_889 (fun r w9 hq9 => ?_)
    obtain ⟨b1, hq8, hw9⟩ := hq9
    rcases hq8 with ⟨hc9, hr9, hb9⟩ | ⟨hc9, hb9⟩
    · subst hw9
      subst hb9
      subst hr9
      refine j_w (w' := mW cA qm (up un 1 (un 1 + 1)) (up (up ui 1 (ui 1 - lessV (ui 1) (ui 2) (ui 3))) 4 (if lessV (ui 1) (ui 2) (ui 3) ≤ 0 then ui 4 else ui 4 + 1)) (up (up (up (up (up ul 0 (ul 0 + (hrV (ua 0) (ua 3) (ua 5) (ua 6) (vac (un 0) (ui 0) (ua 1) (ua 2) (ua 7)) (xs (i + 1)) (un 0)).toInt64)) 1 (ul 1 + (hrS (ua 0) (ua 3) (ua 4) (ua 5) (ua 6) (vac (un 0) (ui 0) (ua 1) (ua 2) (ua 7)) (xs (i + 1)) (un 0)).toInt64)) 2 (ul 2 + (lessV (ui 1) (ui 2) (ui 3)).toInt64)) 3 (ul 3 + (prN (ua 9) ((hrV (ua 0) (ua 3) (ua 5) (ua 6) (vac (un 0) (ui 0) (ua 1) (ua 2) (ua 7)) (xs (i + 1)) (un 0)), (hrS (ua 0) (ua 3) (ua 4) (ua 5) (ua 6) (vac (un 0) (ui 0) (ua 1) (ua 2) (ua 7)) (xs (i + 1)) (un 0)), ua 10, ua 11) (un 2)).1.toInt64)) 4 (ul 4 + (prN (ua 9) ((hrV (ua 0) (ua 3) (ua 5) (ua 6) (vac (un 0) (ui 0) (ua 1) (ua 2) (ua 7)) (xs (i + 1)) (un 0)), (hrS (ua 0) (ua 3) (ua 4) (ua 5) (ua 6) (vac (un 0) (ui 0) (ua 1) (ua 2) (ua 7)) (xs (i + 1)) (un 0)), ua 10, ua 11) (un 2)).2.1.toInt64)) (up (up (up (up ua 6 (hrC (ua 0) (ua 5) (ua 6) (xs (i + 1)) (un 0))) 8 (hrA (ua 0) (ua 3) (ua 5) (ua 6) (vac (un 0) (ui 0) (ua 1) (ua 2) (ua 7)) (xs (i + 1)) (un 1) (ua 8) (un 0))) 10 ((prN (ua 9) ((hrV (ua 0) (ua 3) (ua 5) (ua 6) (vac (un 0) (ui 0) (ua 1) (ua 2) (ua 7)) (xs (i + 1)) (un 0)), (hrS (ua 0) (ua 3) (ua 4) (ua 5) (ua 6) (vac (un 0) (ui 0) (ua 1) (ua 2) (ua 7)) (xs (i + 1)) (un 0)), ua 10, ua 11) (un 2)).2.2.1)) 11 ((prN (ua 9) ((hrV (ua 0) (ua 3) (ua 5) (ua 6) (vac (un 0) (ui 0) (ua 1) (ua 2) (ua 7)) (xs (i + 1)) (un 0)), (hrS (ua 0) (ua 3) (ua 4) (ua 5) (ua 6) (vac (un 0) (ui 0) (ua 1) (ua 2) (ua 7)) (xs (i + 1)) (un 0)), ua 10, ua 11) (un 2)).2.2.2)) 0 ++ (((cF cA q (up un 1 (un 1 + 1)) (up (up ui 1 (bvV (ui 1) (ui 2) (ui 3))) 4 (bbV (ui 1) (ui 2) (ui 4) (ui 3))) (up (up (up (up (up ul 0 (ul 0 + (hrV (ua 0) (ua 3) (ua 5) (ua 6) (vac (un 0) (ui 0) (ua 1) (ua 2) (ua 7)) (xs (i + 1)) (un 0)).toInt64)) 1 (ul 1 + (hrS (ua 0) (ua 3) (ua 4) (ua 5) (ua 6) (vac (un 0) (ui 0) (ua 1) (ua 2) (ua 7)) (xs (i + 1)) (un 0)).toInt64)) 2 (ul 2 + (ui 1 - bvV (ui 1) (ui 2) (ui 3)).toInt64)) 3 (ul 3 + (prN (ua 9) ((hrV (ua 0) (ua 3) (ua 5) (ua 6) (vac (un 0) (ui 0) (ua 1) (ua 2) (ua 7)) (xs (i + 1)) (un 0)), (hrS (ua 0) (ua 3) (ua 4) (ua 5) (ua 6) (vac (un 0) (ui 0) (ua 1) (ua 2) (ua 7)) (xs (i + 1)) (un 0)), ua 10, ua 11) (un 2)).1.toInt64)) 4 (ul 4 + (prN (ua 9) ((hrV (ua 0) (ua 3) (ua 5) (ua 6) (vac (un 0) (ui 0) (ua 1) (ua 2) (ua 7)) (xs (i + 1)) (un 0)), (hrS (ua 0) (ua 3) (ua 4) (ua 5) (ua 6) (vac (un 0) (ui 0) (ua 1) (ua 2) (ua 7)) (xs (i + 1)) (un 0)), ua 10, ua 11) (un 2)).2.1.toInt64)) ua (swV (vac (un 0) (ui 0) (ua 1) (ua 2) (ua 7)) vc (un 0)) (swV (expV (ui 0) (ua 1) (ua 2)) ex (un 0)) wo tp tf kf ++ va_pl L f9) ++ [(oa, .inl (cA 4, 1, .inr (.inl (vp_updL g 0 (hrV (ua 0) (ua 3) (ua 5) (ua 6) (vac (un 0) (ui 0) (ua 1) (ua 2) (ua 7)) (xs (i + 1)) (un 0)).toInt64))))]) ++ [(ob, .inl (cA 5, 1, .inr (.inr (.inr (.inl gd)))))])) rfl ?_
      refine j_istore (lv' := [(7, .int (hrV (ua 0) (ua 3) (ua 5) (ua 6) (vac (un 0) (ui 0) (ua 1) (ua 2) (ua 7)) (xs (i + 1)) (un 0))), (6, .int 0), (0, .ref bs), (1, .ref (q 0)), (2, .ref (qm 0)), (3, .ref oa), (4, .ref ob), (5, .int (nI i))]) G dL_law_892 (by decide) rfl ?_
      refine j_aload_n G dL_law_894 rfl 4 rfl ?_
      refine jV_i G 7 0 (fw_i (cM_thrown l D cA qm (up un 1 (un 1 + 1)) (up (up ui 1 (ui 1 - lessV (ui 1) (ui 2) (ui 3))) 4 (if lessV (ui 1) (ui 2) (ui 3) ≤ 0 then ui 4 else ui 4 + 1)) (up (up (up (up (up ul 0 (ul 0 + (hrV (ua 0) (ua 3) (ua 5) (ua 6) (vac (un 0) (ui 0) (ua 1) (ua 2) (ua 7)) (xs (i + 1)) (un 0)).toInt64)) 1 (ul 1 + (hrS (ua 0) (ua 3) (ua 4) (ua 5) (ua 6) (vac (un 0) (ui 0) (ua 1) (ua 2) (ua 7)) (xs (i + 1)) (un 0)).toInt64)) 2 (ul 2 + (lessV (ui 1) (ui 2) (ui 3)).toInt64)) 3 (ul 3 + (prN (ua 9) ((hrV (ua 0) (ua 3) (ua 5) (ua 6) (vac (un 0) (ui 0) (ua 1) (ua 2) (ua 7)) (xs (i + 1)) (un 0)), (hrS (ua 0) (ua 3) (ua 4) (ua 5) (ua 6) (vac (un 0) (ui 0) (ua 1) (ua 2) (ua 7)) (xs (i + 1)) (un 0)), ua 10, ua 11) (un 2)).1.toInt64)) 4 (ul 4 + (prN (ua 9) ((hrV (ua 0) (ua 3) (ua 5) (ua 6) (vac (un 0) (ui 0) (ua 1) (ua 2) (ua 7)) (xs (i + 1)) (un 0)), (hrS (ua 0) (ua 3) (ua 4) (ua 5) (ua 6) (vac (un 0) (ui 0) (ua 1) (ua 2) (ua 7)) (xs (i + 1)) (un 0)), ua 10, ua 11) (un 2)).2.1.toInt64)) (up (up (up (up ua 6 (hrC (ua 0) (ua 5) (ua 6) (xs (i + 1)) (un 0))) 8 (hrA (ua 0) (ua 3) (ua 5) (ua 6) (vac (un 0) (ui 0) (ua 1) (ua 2) (ua 7)) (xs (i + 1)) (un 1) (ua 8) (un 0))) 10 ((prN (ua 9) ((hrV (ua 0) (ua 3) (ua 5) (ua 6) (vac (un 0) (ui 0) (ua 1) (ua 2) (ua 7)) (xs (i + 1)) (un 0)), (hrS (ua 0) (ua 3) (ua 4) (ua 5) (ua 6) (vac (un 0) (ui 0) (ua 1) (ua 2) (ua 7)) (xs (i + 1)) (un 0)), ua 10, ua 11) (un 2)).2.2.1)) 11 ((prN (ua 9) ((hrV (ua 0) (ua 3) (ua 5) (ua 6) (vac (un 0) (ui 0) (ua 1) (ua 2) (ua 7)) (xs (i + 1)) (un 0)), (hrS (ua 0) (ua 3) (ua 4) (ua 5) (ua 6) (vac (un 0) (ui 0) (ua 1) (ua 2) (ua 7)) (xs (i + 1)) (un 0)), ua 10, ua 11) (un 2)).2.2.2)) 0  ) [] (((cF cA q (up un 1 (un 1 + 1)) (up (up ui 1 (bvV (ui 1) (ui 2) (ui 3))) 4 (bbV (ui 1) (ui 2) (ui 4) (ui 3))) (up (up (up (up (up ul 0 (ul 0 + (hrV (ua 0) (ua 3) (ua 5) (ua 6) (vac (un 0) (ui 0) (ua 1) (ua 2) (ua 7)) (xs (i + 1)) (un 0)).toInt64)) 1 (ul 1 + (hrS (ua 0) (ua 3) (ua 4) (ua 5) (ua 6) (vac (un 0) (ui 0) (ua 1) (ua 2) (ua 7)) (xs (i + 1)) (un 0)).toInt64)) 2 (ul 2 + (ui 1 - bvV (ui 1) (ui 2) (ui 3)).toInt64)) 3 (ul 3 + (prN (ua 9) ((hrV (ua 0) (ua 3) (ua 5) (ua 6) (vac (un 0) (ui 0) (ua 1) (ua 2) (ua 7)) (xs (i + 1)) (un 0)), (hrS (ua 0) (ua 3) (ua 4) (ua 5) (ua 6) (vac (un 0) (ui 0) (ua 1) (ua 2) (ua 7)) (xs (i + 1)) (un 0)), ua 10, ua 11) (un 2)).1.toInt64)) 4 (ul 4 + (prN (ua 9) ((hrV (ua 0) (ua 3) (ua 5) (ua 6) (vac (un 0) (ui 0) (ua 1) (ua 2) (ua 7)) (xs (i + 1)) (un 0)), (hrS (ua 0) (ua 3) (ua 4) (ua 5) (ua 6) (vac (un 0) (ui 0) (ua 1) (ua 2) (ua 7)) (xs (i + 1)) (un 0)), ua 10, ua 11) (un 2)).2.1.toInt64)) ua (swV (vac (un 0) (ui 0) (ua 1) (ua 2) (ua 7)) vc (un 0)) (swV (expV (ui 0) (ua 1) (ua 2)) ex (un 0)) wo tp tf kf ++ va_pl L f9) ++ [(oa, .inl (cA 4, 1, .inr (.inl (vp_updL g 0 (hrV (ua 0) (ua 3) (ua 5) (ua 6) (vac (un 0) (ui 0) (ua 1) (ua 2) (ua 7)) (xs (i + 1)) (un 0)).toInt64))))]) ++ [(ob, .inl (cA 5, 1, .inr (.inr (.inr (.inl gd)))))]) rfl) gL_122 hd_X7_thrown ⟨Nat.le_of_ble_eq_true rfl, Nat.le_of_ble_eq_true rfl⟩ ⟨by show _ ≤ 603072; omega, by show _ ≤ 7211114; omega⟩ rfl rfl (Nat.le_of_ble_eq_true rfl) rfl rfl dL_law_895 (fun r w9 hq9 => ?_)
      obtain ⟨b1, hq8, hw9⟩ := hq9
      obtain ⟨hr9, hb9⟩ := hq8
      subst hw9
      subst hb9
      subst hr9
      refine j_w (w' := mW cA qm (up un 1 (un 1 + 1)) (up (up ui 1 (ui 1 - lessV (ui 1) (ui 2) (ui 3))) 4 (if lessV (ui 1) (ui 2) (ui 3) ≤ 0 then ui 4 else ui 4 + 1)) (up (up (up (up (up ul 0 (ul 0 + (hrV (ua 0) (ua 3) (ua 5) (ua 6) (vac (un 0) (ui 0) (ua 1) (ua 2) (ua 7)) (xs (i + 1)) (un 0)).toInt64)) 1 (ul 1 + (hrS (ua 0) (ua 3) (ua 4) (ua 5) (ua 6) (vac (un 0) (ui 0) (ua 1) (ua 2) (ua 7)) (xs (i + 1)) (un 0)).toInt64)) 2 (ul 2 + (lessV (ui 1) (ui 2) (ui 3)).toInt64)) 3 (ul 3 + (prN (ua 9) ((hrV (ua 0) (ua 3) (ua 5) (ua 6) (vac (un 0) (ui 0) (ua 1) (ua 2) (ua 7)) (xs (i + 1)) (un 0)), (hrS (ua 0) (ua 3) (ua 4) (ua 5) (ua 6) (vac (un 0) (ui 0) (ua 1) (ua 2) (ua 7)) (xs (i + 1)) (un 0)), ua 10, ua 11) (un 2)).1.toInt64)) 4 (ul 4 + (prN (ua 9) ((hrV (ua 0) (ua 3) (ua 5) (ua 6) (vac (un 0) (ui 0) (ua 1) (ua 2) (ua 7)) (xs (i + 1)) (un 0)), (hrS (ua 0) (ua 3) (ua 4) (ua 5) (ua 6) (vac (un 0) (ui 0) (ua 1) (ua 2) (ua 7)) (xs (i + 1)) (un 0)), ua 10, ua 11) (un 2)).2.1.toInt64)) (up (up (up (up ua 6 (hrC (ua 0) (ua 5) (ua 6) (xs (i + 1)) (un 0))) 8 (hrA (ua 0) (ua 3) (ua 5) (ua 6) (vac (un 0) (ui 0) (ua 1) (ua 2) (ua 7)) (xs (i + 1)) (un 1) (ua 8) (un 0))) 10 ((prN (ua 9) ((hrV (ua 0) (ua 3) (ua 5) (ua 6) (vac (un 0) (ui 0) (ua 1) (ua 2) (ua 7)) (xs (i + 1)) (un 0)), (hrS (ua 0) (ua 3) (ua 4) (ua 5) (ua 6) (vac (un 0) (ui 0) (ua 1) (ua 2) (ua 7)) (xs (i + 1)) (un 0)), ua 10, ua 11) (un 2)).2.2.1)) 11 ((prN (ua 9) ((hrV (ua 0) (ua 3) (ua 5) (ua 6) (vac (un 0) (ui 0) (ua 1) (ua 2) (ua 7)) (xs (i + 1)) (un 0)), (hrS (ua 0) (ua 3) (ua 4) (ua 5) (ua 6) (vac (un 0) (ui 0) (ua 1) (ua 2) (ua 7)) (xs (i + 1)) (un 0)), ua 10, ua 11) (un 2)).2.2.2)) 0 ++ (((cF cA q (up un 1 (un 1 + 1)) (up (up ui 1 (bvV (ui 1) (ui 2) (ui 3))) 4 (bbV (ui 1) (ui 2) (ui 4) (ui 3))) (up (up (up (up (up ul 0 (ul 0 + (hrV (ua 0) (ua 3) (ua 5) (ua 6) (vac (un 0) (ui 0) (ua 1) (ua 2) (ua 7)) (xs (i + 1)) (un 0)).toInt64)) 1 (ul 1 + (hrS (ua 0) (ua 3) (ua 4) (ua 5) (ua 6) (vac (un 0) (ui 0) (ua 1) (ua 2) (ua 7)) (xs (i + 1)) (un 0)).toInt64)) 2 (ul 2 + (ui 1 - bvV (ui 1) (ui 2) (ui 3)).toInt64)) 3 (ul 3 + (prN (ua 9) ((hrV (ua 0) (ua 3) (ua 5) (ua 6) (vac (un 0) (ui 0) (ua 1) (ua 2) (ua 7)) (xs (i + 1)) (un 0)), (hrS (ua 0) (ua 3) (ua 4) (ua 5) (ua 6) (vac (un 0) (ui 0) (ua 1) (ua 2) (ua 7)) (xs (i + 1)) (un 0)), ua 10, ua 11) (un 2)).1.toInt64)) 4 (ul 4 + (prN (ua 9) ((hrV (ua 0) (ua 3) (ua 5) (ua 6) (vac (un 0) (ui 0) (ua 1) (ua 2) (ua 7)) (xs (i + 1)) (un 0)), (hrS (ua 0) (ua 3) (ua 4) (ua 5) (ua 6) (vac (un 0) (ui 0) (ua 1) (ua 2) (ua 7)) (xs (i + 1)) (un 0)), ua 10, ua 11) (un 2)).2.1.toInt64)) ua (swV (vac (un 0) (ui 0) (ua 1) (ua 2) (ua 7)) vc (un 0)) (swV (expV (ui 0) (ua 1) (ua 2)) ex (un 0)) wo tp tf kf ++ va_pl L f9) ++ [(oa, .inl (cA 4, 1, .inr (.inl (vp_updL g 0 (hrV (ua 0) (ua 3) (ua 5) (ua 6) (vac (un 0) (ui 0) (ua 1) (ua 2) (ua 7)) (xs (i + 1)) (un 0)).toInt64))))]) ++ [(ob, .inl (cA 5, 1, .inr (.inr (.inr (.inl gd)))))])) rfl ?_
      refine j_iload G dL_law_898 1 rfl ?_
      refine j_icmp_eq (tgt := 905) G dL_law_900 (by decide) (fun c900 => ?_) (fun c900 => absurd rfl c900)
      refine j_iload G dL_law_905 1 rfl ?_
      refine j_if_ne (tgt := 922) G dL_law_907 (by decide) (fun c907 => absurd c907 (by decide)) (fun _ => ?_)
      refine j_aload_n G dL_law_910 rfl 5 rfl ?_
      refine j_iconst (v := 0) G dL_law_911 (by decide) ?_
      refine j_lald G _ wq_o (show vp_in (nI 0) 1 from vp_in_nI (by decide) (by decide)) dL_law_912 ?_
      refine j_rwl (show _ = (hrV (ua 0) (ua 3) (ua 5) (ua 6) (vac (un 0) (ui 0) (ua 1) (ua 2) (ua 7)) (xs (i + 1)) (un 0)).toInt64 from rfl) ?_
      refine j_iload G dL_law_913 0 rfl ?_
      refine j_i2l G dL_law_915 ?_
      refine j_lcmp G dL_law_916 ?_
      refine j_if_eq (tgt := 922) G dL_law_917 (by decide) (fun c917 => ?_) (fun c917 => absurd (lgz.mpr rfl) c917)
      refine j_goto (tgt := 2045) G dL_law_922 (by decide) ?_
      refine j_sub (lv' := [(0, .ref bs), (1, .ref (q 0)), (2, .ref (qm 0)), (3, .ref oa), (4, .ref ob), (5, .int (nI i))]) [2, 3, 4, 5, 6, 7] rfl ?_
      refine j_cs (k' := k + 8) (n' := n + 256) (by omega) (by omega) ?_
      have hb9 := boil_eq hI.2.2.1.2.2 hI.2.2.1.2.1
      refine j_w (w' := mW cA qm (up un 1 (un 1 + 1)) (up (up ui 1 (ui 1 - lessV (ui 1) (ui 2) (ui 3))) 4 (if lessV (ui 1) (ui 2) (ui 3) ≤ 0 then ui 4 else ui 4 + 1)) (up (up (up (up (up ul 0 (ul 0 + (hrV (ua 0) (ua 3) (ua 5) (ua 6) (vac (un 0) (ui 0) (ua 1) (ua 2) (ua 7)) (xs (i + 1)) (un 0)).toInt64)) 1 (ul 1 + (hrS (ua 0) (ua 3) (ua 4) (ua 5) (ua 6) (vac (un 0) (ui 0) (ua 1) (ua 2) (ua 7)) (xs (i + 1)) (un 0)).toInt64)) 2 (ul 2 + (lessV (ui 1) (ui 2) (ui 3)).toInt64)) 3 (ul 3 + (prN (ua 9) ((hrV (ua 0) (ua 3) (ua 5) (ua 6) (vac (un 0) (ui 0) (ua 1) (ua 2) (ua 7)) (xs (i + 1)) (un 0)), (hrS (ua 0) (ua 3) (ua 4) (ua 5) (ua 6) (vac (un 0) (ui 0) (ua 1) (ua 2) (ua 7)) (xs (i + 1)) (un 0)), ua 10, ua 11) (un 2)).1.toInt64)) 4 (ul 4 + (prN (ua 9) ((hrV (ua 0) (ua 3) (ua 5) (ua 6) (vac (un 0) (ui 0) (ua 1) (ua 2) (ua 7)) (xs (i + 1)) (un 0)), (hrS (ua 0) (ua 3) (ua 4) (ua 5) (ua 6) (vac (un 0) (ui 0) (ua 1) (ua 2) (ua 7)) (xs (i + 1)) (un 0)), ua 10, ua 11) (un 2)).2.1.toInt64)) (up (up (up (up ua 6 (hrC (ua 0) (ua 5) (ua 6) (xs (i + 1)) (un 0))) 8 (hrA (ua 0) (ua 3) (ua 5) (ua 6) (vac (un 0) (ui 0) (ua 1) (ua 2) (ua 7)) (xs (i + 1)) (un 1) (ua 8) (un 0))) 10 ((prN (ua 9) ((hrV (ua 0) (ua 3) (ua 5) (ua 6) (vac (un 0) (ui 0) (ua 1) (ua 2) (ua 7)) (xs (i + 1)) (un 0)), (hrS (ua 0) (ua 3) (ua 4) (ua 5) (ua 6) (vac (un 0) (ui 0) (ua 1) (ua 2) (ua 7)) (xs (i + 1)) (un 0)), ua 10, ua 11) (un 2)).2.2.1)) 11 ((prN (ua 9) ((hrV (ua 0) (ua 3) (ua 5) (ua 6) (vac (un 0) (ui 0) (ua 1) (ua 2) (ua 7)) (xs (i + 1)) (un 0)), (hrS (ua 0) (ua 3) (ua 4) (ua 5) (ua 6) (vac (un 0) (ui 0) (ua 1) (ua 2) (ua 7)) (xs (i + 1)) (un 0)), ua 10, ua 11) (un 2)).2.2.2)) 0 ++ (((cF cA q (up un 1 (un 1 + 1)) (up (up ui 1 (ui 1 - lessV (ui 1) (ui 2) (ui 3))) 4 (if lessV (ui 1) (ui 2) (ui 3) ≤ 0 then ui 4 else ui 4 + 1)) (up (up (up (up (up ul 0 (ul 0 + (hrV (ua 0) (ua 3) (ua 5) (ua 6) (vac (un 0) (ui 0) (ua 1) (ua 2) (ua 7)) (xs (i + 1)) (un 0)).toInt64)) 1 (ul 1 + (hrS (ua 0) (ua 3) (ua 4) (ua 5) (ua 6) (vac (un 0) (ui 0) (ua 1) (ua 2) (ua 7)) (xs (i + 1)) (un 0)).toInt64)) 2 (ul 2 + (lessV (ui 1) (ui 2) (ui 3)).toInt64)) 3 (ul 3 + (prN (ua 9) ((hrV (ua 0) (ua 3) (ua 5) (ua 6) (vac (un 0) (ui 0) (ua 1) (ua 2) (ua 7)) (xs (i + 1)) (un 0)), (hrS (ua 0) (ua 3) (ua 4) (ua 5) (ua 6) (vac (un 0) (ui 0) (ua 1) (ua 2) (ua 7)) (xs (i + 1)) (un 0)), ua 10, ua 11) (un 2)).1.toInt64)) 4 (ul 4 + (prN (ua 9) ((hrV (ua 0) (ua 3) (ua 5) (ua 6) (vac (un 0) (ui 0) (ua 1) (ua 2) (ua 7)) (xs (i + 1)) (un 0)), (hrS (ua 0) (ua 3) (ua 4) (ua 5) (ua 6) (vac (un 0) (ui 0) (ua 1) (ua 2) (ua 7)) (xs (i + 1)) (un 0)), ua 10, ua 11) (un 2)).2.1.toInt64)) ua (swV (vac (un 0) (ui 0) (ua 1) (ua 2) (ua 7)) vc (un 0)) (swV (expV (ui 0) (ua 1) (ua 2)) ex (un 0)) wo tp tf kf ++ va_pl L f9) ++ [(oa, .inl (cA 4, 1, .inr (.inl (vp_updL g 0 (hrV (ua 0) (ua 3) (ua 5) (ua 6) (vac (un 0) (ui 0) (ua 1) (ua 2) (ua 7)) (xs (i + 1)) (un 0)).toInt64))))]) ++ [(ob, .inl (cA 5, 1, .inr (.inr (.inr (.inl gd)))))])) (by rw [hb9.2.1, hb9.2.2.1, hb9.1]) ?_
      refine j_w (w' := mW cA qm (up un 1 (un 1 + 1)) (up (up ui 1 (ui 1 - lessV (ui 1) (ui 2) (ui 3))) 4 (if lessV (ui 1) (ui 2) (ui 3) ≤ 0 then ui 4 else ui 4 + 1)) (up (up (up (up (up ul 0 (ul 0 + (hrV (ua 0) (ua 3) (ua 5) (ua 6) (vac (un 0) (ui 0) (ua 1) (ua 2) (ua 7)) (xs (i + 1)) (un 0)).toInt64)) 1 (ul 1 + (hrS (ua 0) (ua 3) (ua 4) (ua 5) (ua 6) (vac (un 0) (ui 0) (ua 1) (ua 2) (ua 7)) (xs (i + 1)) (un 0)).toInt64)) 2 (ul 2 + (lessV (ui 1) (ui 2) (ui 3)).toInt64)) 3 (ul 3 + (prN (ua 9) ((hrV (ua 0) (ua 3) (ua 5) (ua 6) (vac (un 0) (ui 0) (ua 1) (ua 2) (ua 7)) (xs (i + 1)) (un 0)), (hrS (ua 0) (ua 3) (ua 4) (ua 5) (ua 6) (vac (un 0) (ui 0) (ua 1) (ua 2) (ua 7)) (xs (i + 1)) (un 0)), ua 10, ua 11) (un 2)).1.toInt64)) 4 (ul 4 + (prN (ua 9) ((hrV (ua 0) (ua 3) (ua 5) (ua 6) (vac (un 0) (ui 0) (ua 1) (ua 2) (ua 7)) (xs (i + 1)) (un 0)), (hrS (ua 0) (ua 3) (ua 4) (ua 5) (ua 6) (vac (un 0) (ui 0) (ua 1) (ua 2) (ua 7)) (xs (i + 1)) (un 0)), ua 10, ua 11) (un 2)).2.1.toInt64)) (up (up (up (up ua 6 (hrC (ua 0) (ua 5) (ua 6) (xs (i + 1)) (un 0))) 8 (hrA (ua 0) (ua 3) (ua 5) (ua 6) (vac (un 0) (ui 0) (ua 1) (ua 2) (ua 7)) (xs (i + 1)) (un 1) (ua 8) (un 0))) 10 ((prN (ua 9) ((hrV (ua 0) (ua 3) (ua 5) (ua 6) (vac (un 0) (ui 0) (ua 1) (ua 2) (ua 7)) (xs (i + 1)) (un 0)), (hrS (ua 0) (ua 3) (ua 4) (ua 5) (ua 6) (vac (un 0) (ui 0) (ua 1) (ua 2) (ua 7)) (xs (i + 1)) (un 0)), ua 10, ua 11) (un 2)).2.2.1)) 11 ((prN (ua 9) ((hrV (ua 0) (ua 3) (ua 5) (ua 6) (vac (un 0) (ui 0) (ua 1) (ua 2) (ua 7)) (xs (i + 1)) (un 0)), (hrS (ua 0) (ua 3) (ua 4) (ua 5) (ua 6) (vac (un 0) (ui 0) (ua 1) (ua 2) (ua 7)) (xs (i + 1)) (un 0)), ua 10, ua 11) (un 2)).2.2.2)) 0 ++ (((cF cA q (up un 1 (un 1 + 1)) (up (up ui 1 (ui 1 - lessV (ui 1) (ui 2) (ui 3))) 4 (if lessV (ui 1) (ui 2) (ui 3) ≤ 0 then ui 4 else ui 4 + 1)) (up (up (up (up (up ul 0 (ul 0 + (hrV (ua 0) (ua 3) (ua 5) (ua 6) (vac (un 0) (ui 0) (ua 1) (ua 2) (ua 7)) (xs (i + 1)) (un 0)).toInt64)) 1 (ul 1 + (hrS (ua 0) (ua 3) (ua 4) (ua 5) (ua 6) (vac (un 0) (ui 0) (ua 1) (ua 2) (ua 7)) (xs (i + 1)) (un 0)).toInt64)) 2 (ul 2 + (lessV (ui 1) (ui 2) (ui 3)).toInt64)) 3 (ul 3 + (prN (ua 9) ((hrV (ua 0) (ua 3) (ua 5) (ua 6) (vac (un 0) (ui 0) (ua 1) (ua 2) (ua 7)) (xs (i + 1)) (un 0)), (hrS (ua 0) (ua 3) (ua 4) (ua 5) (ua 6) (vac (un 0) (ui 0) (ua 1) (ua 2) (ua 7)) (xs (i + 1)) (un 0)), ua 10, ua 11) (un 2)).1.toInt64)) 4 (ul 4 + (prN (ua 9) ((hrV (ua 0) (ua 3) (ua 5) (ua 6) (vac (un 0) (ui 0) (ua 1) (ua 2) (ua 7)) (xs (i + 1)) (un 0)), (hrS (ua 0) (ua 3) (ua 4) (ua 5) (ua 6) (vac (un 0) (ui 0) (ua 1) (ua 2) (ua 7)) (xs (i + 1)) (un 0)), ua 10, ua 11) (un 2)).2.1.toInt64)) (up (up (up (up ua 6 (hrC (ua 0) (ua 5) (ua 6) (xs (i + 1)) (un 0))) 8 (hrA (ua 0) (ua 3) (ua 5) (ua 6) (vac (un 0) (ui 0) (ua 1) (ua 2) (ua 7)) (xs (i + 1)) (un 1) (ua 8) (un 0))) 10 ((prN (ua 9) ((hrV (ua 0) (ua 3) (ua 5) (ua 6) (vac (un 0) (ui 0) (ua 1) (ua 2) (ua 7)) (xs (i + 1)) (un 0)), (hrS (ua 0) (ua 3) (ua 4) (ua 5) (ua 6) (vac (un 0) (ui 0) (ua 1) (ua 2) (ua 7)) (xs (i + 1)) (un 0)), ua 10, ua 11) (un 2)).2.2.1)) 11 ((prN (ua 9) ((hrV (ua 0) (ua 3) (ua 5) (ua 6) (vac (un 0) (ui 0) (ua 1) (ua 2) (ua 7)) (xs (i + 1)) (un 0)), (hrS (ua 0) (ua 3) (ua 4) (ua 5) (ua 6) (vac (un 0) (ui 0) (ua 1) (ua 2) (ua 7)) (xs (i + 1)) (un 0)), ua 10, ua 11) (un 2)).2.2.2)) (swV (vac (un 0) (ui 0) (ua 1) (ua 2) (ua 7)) vc (un 0)) (swV (expV (ui 0) (ua 1) (ua 2)) ex (un 0)) wo tp tf kf ++ va_pl L f9) ++ [(oa, .inl (cA 4, 1, .inr (.inl (vp_updL g 0 (hrV (ua 0) (ua 3) (ua 5) (ua 6) (vac (un 0) (ui 0) (ua 1) (ua 2) (ua 7)) (xs (i + 1)) (un 0)).toInt64))))]) ++ [(ob, .inl (cA 5, 1, .inr (.inr (.inr (.inl gd)))))])) rfl ?_
      exact hN (up un 1 (un 1 + 1)) (up (up ui 1 (ui 1 - lessV (ui 1) (ui 2) (ui 3))) 4 (if lessV (ui 1) (ui 2) (ui 3) ≤ 0 then ui 4 else ui 4 + 1)) (up (up (up (up (up ul 0 (ul 0 + (hrV (ua 0) (ua 3) (ua 5) (ua 6) (vac (un 0) (ui 0) (ua 1) (ua 2) (ua 7)) (xs (i + 1)) (un 0)).toInt64)) 1 (ul 1 + (hrS (ua 0) (ua 3) (ua 4) (ua 5) (ua 6) (vac (un 0) (ui 0) (ua 1) (ua 2) (ua 7)) (xs (i + 1)) (un 0)).toInt64)) 2 (ul 2 + (lessV (ui 1) (ui 2) (ui 3)).toInt64)) 3 (ul 3 + (prN (ua 9) ((hrV (ua 0) (ua 3) (ua 5) (ua 6) (vac (un 0) (ui 0) (ua 1) (ua 2) (ua 7)) (xs (i + 1)) (un 0)), (hrS (ua 0) (ua 3) (ua 4) (ua 5) (ua 6) (vac (un 0) (ui 0) (ua 1) (ua 2) (ua 7)) (xs (i + 1)) (un 0)), ua 10, ua 11) (un 2)).1.toInt64)) 4 (ul 4 + (prN (ua 9) ((hrV (ua 0) (ua 3) (ua 5) (ua 6) (vac (un 0) (ui 0) (ua 1) (ua 2) (ua 7)) (xs (i + 1)) (un 0)), (hrS (ua 0) (ua 3) (ua 4) (ua 5) (ua 6) (vac (un 0) (ui 0) (ua 1) (ua 2) (ua 7)) (xs (i + 1)) (un 0)), ua 10, ua 11) (un 2)).2.1.toInt64)) (up (up (up (up ua 6 (hrC (ua 0) (ua 5) (ua 6) (xs (i + 1)) (un 0))) 8 (hrA (ua 0) (ua 3) (ua 5) (ua 6) (vac (un 0) (ui 0) (ua 1) (ua 2) (ua 7)) (xs (i + 1)) (un 1) (ua 8) (un 0))) 10 ((prN (ua 9) ((hrV (ua 0) (ua 3) (ua 5) (ua 6) (vac (un 0) (ui 0) (ua 1) (ua 2) (ua 7)) (xs (i + 1)) (un 0)), (hrS (ua 0) (ua 3) (ua 4) (ua 5) (ua 6) (vac (un 0) (ui 0) (ua 1) (ua 2) (ua 7)) (xs (i + 1)) (un 0)), ua 10, ua 11) (un 2)).2.2.1)) 11 ((prN (ua 9) ((hrV (ua 0) (ua 3) (ua 5) (ua 6) (vac (un 0) (ui 0) (ua 1) (ua 2) (ua 7)) (xs (i + 1)) (un 0)), (hrS (ua 0) (ua 3) (ua 4) (ua 5) (ua 6) (vac (un 0) (ui 0) (ua 1) (ua 2) (ua 7)) (xs (i + 1)) (un 0)), ua 10, ua 11) (un 2)).2.2.2)) (swV (vac (un 0) (ui 0) (ua 1) (ua 2) (ua 7)) vc (un 0)) (swV (expV (ui 0) (ua 1) (ua 2)) ex (un 0)) wo tp tf kf L f9 ta ga ka 0 (vp_updL g 0 (hrV (ua 0) (ua 3) (ua 5) (ua 6) (vac (un 0) (ui 0) (ua 1) (ua 2) (ua 7)) (xs (i + 1)) (un 0)).toInt64) gd (hI.hour hok _) (PL_hour hI hok P9)
    · exact absurd hcf hc9
  · rcases hp9 with ⟨hc, he⟩ | ⟨hc, he⟩
    · cases he
      have hr9 : r = 1 := by rcases hd9 with ⟨h8, h7⟩ | ⟨h8, h7⟩ <;> first | exact h7 | exact absurd h8 (by decide)
      subst hw9
      subst hb9
      subst hr9
      have hcf : cfPass (un 1) (xs (i + 1)) = 1 := hc
      refine j_w (w' := mW cA qm un ui ul ua co ++ (((cF cA q un ui ul ua vc ex wo tp tf kf ++ va_pl L f) ++ [(oa, .inl (cA 4, 1, .inr (.inl g)))]) ++ [(ob, .inl (cA 5, 1, .inr (.inr (.inr (.inl gd)))))])) (List.append_assoc _ _ _) ?_
      refine j_istore (lv' := [(6, .int 1), (0, .ref bs), (1, .ref (q 0)), (2, .ref (qm 0)), (3, .ref oa), (4, .ref ob), (5, .int (nI i))]) G dL_law_880 (by decide) rfl ?_
      refine j_aload_n G dL_law_882 rfl 3 rfl ?_
      refine j_aload_n G dL_law_883 rfl 1 rfl ?_
      refine j_iload G dL_law_884 6 rfl ?_
      refine j_iconst (v := 1) G dL_law_886 (by decide) ?_
      refine j_iadd G dL_law_887 ?_
      refine j_rwi (nI_add i 1) ?_
      refine j_sldN (j := i + 1) G hX hbl hbA (by omega) (by omega) dL_law_888 ?_
      refine jV_i G 7 0 (fw_i (cM_pass l D cA qm un ui ul ua co (xs (i + 1)) hI.1.2.1 hI.2.1 hI.1.2.2.1 hI.1.2.2.2.1) [] (((cF cA q un ui ul ua vc ex wo tp tf kf ++ va_pl L f) ++ [(oa, .inl (cA 4, 1, .inr (.inl g)))]) ++ [(ob, .inl (cA 5, 1, .inr (.inr (.inr (.inl gd)))))]) rfl) gL_160 hd_X7_pass ⟨Nat.le_of_ble_eq_true rfl, Nat.le_of_ble_eq_true rfl⟩ ⟨by show _ ≤ 603072; omega, by show _ ≤ 7211114; omega⟩ rfl rfl (Nat.le_of_ble_eq_true rfl) rfl rfl dL_law_889 (fun r w9 hq9 => ?_)
      obtain ⟨b1, hq8, hw9⟩ := hq9
      rcases hq8 with ⟨hc9, hr9, hb9⟩ | ⟨hc9, hb9⟩
      · exact absurd (hcf.symm.trans hc9) (by decide)
      · rw [hcf] at hb9
        subst hw9
        subst hb9
        refine j_w (w' := mW cA qm un ui ul ua 1 ++ (((cF cA q un ui ul ua vc ex wo tp tf kf ++ va_pl L f) ++ [(oa, .inl (cA 4, 1, .inr (.inl g)))]) ++ [(ob, .inl (cA 5, 1, .inr (.inr (.inr (.inl gd)))))])) rfl ?_
        refine j_istore (lv' := [(7, .int r), (6, .int 1), (0, .ref bs), (1, .ref (q 0)), (2, .ref (qm 0)), (3, .ref oa), (4, .ref ob), (5, .int (nI i))]) G dL_law_892 (by decide) rfl ?_
        refine j_aload_n G dL_law_894 rfl 4 rfl ?_
        refine jV_i G 7 0 (fw_i (cM_thrown l D cA qm un ui ul ua 1  ) [] (((cF cA q un ui ul ua vc ex wo tp tf kf ++ va_pl L f) ++ [(oa, .inl (cA 4, 1, .inr (.inl g)))]) ++ [(ob, .inl (cA 5, 1, .inr (.inr (.inr (.inl gd)))))]) rfl) gL_122 hd_X7_thrown ⟨Nat.le_of_ble_eq_true rfl, Nat.le_of_ble_eq_true rfl⟩ ⟨by show _ ≤ 603072; omega, by show _ ≤ 7211114; omega⟩ rfl rfl (Nat.le_of_ble_eq_true rfl) rfl rfl dL_law_895 (fun r w9 hq9 => ?_)
        obtain ⟨b1, hq8, hw9⟩ := hq9
        obtain ⟨hr9, hb9⟩ := hq8
        subst hw9
        subst hb9
        subst hr9
        refine j_w (w' := mW cA qm un ui ul ua 1 ++ (((cF cA q un ui ul ua vc ex wo tp tf kf ++ va_pl L f) ++ [(oa, .inl (cA 4, 1, .inr (.inl g)))]) ++ [(ob, .inl (cA 5, 1, .inr (.inr (.inr (.inl gd)))))])) rfl ?_
        refine j_iload G dL_law_898 1 rfl ?_
        refine j_icmp_eq (tgt := 905) G dL_law_900 (by decide) (fun c900 => ?_) (fun c900 => absurd rfl c900)
        refine j_iload G dL_law_905 1 rfl ?_
        refine j_if_ne (tgt := 922) G dL_law_907 (by decide) (fun _ => ?_) (fun c907 => absurd c907 (by decide))
        refine j_goto (tgt := 2045) G dL_law_922 (by decide) ?_
        refine j_sub (lv' := [(0, .ref bs), (1, .ref (q 0)), (2, .ref (qm 0)), (3, .ref oa), (4, .ref ob), (5, .int (nI i))]) [2, 3, 4, 5, 6, 7] rfl ?_
        refine j_cs (k' := k + 8) (n' := n + 256) (by omega) (by omega) ?_
        refine j_w (w' := mW cA qm un ui ul ua 1 ++ (((cF cA q un ui ul ua vc ex wo tp tf kf ++ va_pl L f) ++ [(oa, .inl (cA 4, 1, .inr (.inl g)))]) ++ [(ob, .inl (cA 5, 1, .inr (.inr (.inr (.inl gd)))))])) rfl ?_
        exact hN un ui ul ua vc ex wo tp tf kf L f ta ga ka 1 g gd hI hPL
    · cases he
      have hr9 : r = 2 := by rcases hd9 with ⟨h8, h7⟩ | ⟨h8, h7⟩ <;> first | exact h7 | exact absurd h8 (by decide)
      subst hw9
      subst hb9
      subst hr9
      have hcf : cfPass (un 1) (xs (i + 1)) = 2 := hc
      refine j_w (w' := mW cA qm un ui ul ua co ++ (((cF cA q un ui ul ua vc ex wo tp tf kf ++ va_pl L f) ++ [(oa, .inl (cA 4, 1, .inr (.inl g)))]) ++ [(ob, .inl (cA 5, 1, .inr (.inr (.inr (.inl gd)))))])) (List.append_assoc _ _ _) ?_
      refine j_istore (lv' := [(6, .int 2), (0, .ref bs), (1, .ref (q 0)), (2, .ref (qm 0)), (3, .ref oa), (4, .ref ob), (5, .int (nI i))]) G dL_law_880 (by decide) rfl ?_
      refine j_aload_n G dL_law_882 rfl 3 rfl ?_
      refine j_aload_n G dL_law_883 rfl 1 rfl ?_
      refine j_iload G dL_law_884 6 rfl ?_
      refine j_iconst (v := 1) G dL_law_886 (by decide) ?_
      refine j_iadd G dL_law_887 ?_
      refine j_rwi (nI_add i 1) ?_
      refine j_sldN (j := i + 1) G hX hbl hbA (by omega) (by omega) dL_law_888 ?_
      refine jV_i G 7 0 (fw_i (cM_pass l D cA qm un ui ul ua co (xs (i + 1)) hI.1.2.1 hI.2.1 hI.1.2.2.1 hI.1.2.2.2.1) [] (((cF cA q un ui ul ua vc ex wo tp tf kf ++ va_pl L f) ++ [(oa, .inl (cA 4, 1, .inr (.inl g)))]) ++ [(ob, .inl (cA 5, 1, .inr (.inr (.inr (.inl gd)))))]) rfl) gL_160 hd_X7_pass ⟨Nat.le_of_ble_eq_true rfl, Nat.le_of_ble_eq_true rfl⟩ ⟨by show _ ≤ 603072; omega, by show _ ≤ 7211114; omega⟩ rfl rfl (Nat.le_of_ble_eq_true rfl) rfl rfl dL_law_889 (fun r w9 hq9 => ?_)
      obtain ⟨b1, hq8, hw9⟩ := hq9
      rcases hq8 with ⟨hc9, hr9, hb9⟩ | ⟨hc9, hb9⟩
      · exact absurd (hcf.symm.trans hc9) (by decide)
      · rw [hcf] at hb9
        subst hw9
        subst hb9
        refine j_w (w' := mW cA qm un ui ul ua 2 ++ (((cF cA q un ui ul ua vc ex wo tp tf kf ++ va_pl L f) ++ [(oa, .inl (cA 4, 1, .inr (.inl g)))]) ++ [(ob, .inl (cA 5, 1, .inr (.inr (.inr (.inl gd)))))])) rfl ?_
        refine j_istore (lv' := [(7, .int r), (6, .int 2), (0, .ref bs), (1, .ref (q 0)), (2, .ref (qm 0)), (3, .ref oa), (4, .ref ob), (5, .int (nI i))]) G dL_law_892 (by decide) rfl ?_
        refine j_aload_n G dL_law_894 rfl 4 rfl ?_
        refine jV_i G 7 0 (fw_i (cM_thrown l D cA qm un ui ul ua 2  ) [] (((cF cA q un ui ul ua vc ex wo tp tf kf ++ va_pl L f) ++ [(oa, .inl (cA 4, 1, .inr (.inl g)))]) ++ [(ob, .inl (cA 5, 1, .inr (.inr (.inr (.inl gd)))))]) rfl) gL_122 hd_X7_thrown ⟨Nat.le_of_ble_eq_true rfl, Nat.le_of_ble_eq_true rfl⟩ ⟨by show _ ≤ 603072; omega, by show _ ≤ 7211114; omega⟩ rfl rfl (Nat.le_of_ble_eq_true rfl) rfl rfl dL_law_895 (fun r w9 hq9 => ?_)
        obtain ⟨b1, hq8, hw9⟩ := hq9
        obtain ⟨hr9, hb9⟩ := hq8
        subst hw9
        subst hb9
        subst hr9
        refine j_w (w' := mW cA qm un ui ul ua 2 ++ (((cF cA q un ui ul ua vc ex wo tp tf kf ++ va_pl L f) ++ [(oa, .inl (cA 4, 1, .inr (.inl g)))]) ++ [(ob, .inl (cA 5, 1, .inr (.inr (.inr (.inl gd)))))])) rfl ?_
        refine j_iload G dL_law_898 1 rfl ?_
        refine j_icmp_eq (tgt := 905) G dL_law_900 (by decide) (fun c900 => ?_) (fun c900 => absurd rfl c900)
        refine j_iload G dL_law_905 1 rfl ?_
        refine j_if_ne (tgt := 922) G dL_law_907 (by decide) (fun _ => ?_) (fun c907 => absurd c907 (by decide))
        refine j_goto (tgt := 2045) G dL_law_922 (by decide) ?_
        refine j_sub (lv' := [(0, .ref bs), (1, .ref (q 0)), (2, .ref (qm 0)), (3, .ref oa), (4, .ref ob), (5, .int (nI i))]) [2, 3, 4, 5, 6, 7] rfl ?_
        refine j_cs (k' := k + 8) (n' := n + 256) (by omega) (by omega) ?_
        refine j_w (w' := mW cA qm un ui ul ua 2 ++ (((cF cA q un ui ul ua vc ex wo tp tf kf ++ va_pl L f) ++ [(oa, .inl (cA 4, 1, .inr (.inl g)))]) ++ [(ob, .inl (cA 5, 1, .inr (.inr (.inr (.inl gd)))))])) rfl ?_
        exact hN un ui ul ua vc ex wo tp tf kf L f ta ga ka 2 g gd hI hPL
set_option maxHeartbeats 4000000 in
set_option maxRecDepth 100000 in
theorem lw_hours {p : Program} {l : Launch} {e : Env} {s : State} {m : MethodId} {args : Array Value} {below : List Frame} {meth : Method} {c : Code} {D : va_G} {cA : Nat → ClassId} {A : Nat → Prop} {Q : State → Prop} {k n : Nat} (G : GX p s m args c cL_law 9 RL D cA A) (hfl : l.stackTraces = false) {bs Ls : Nat} {xs : Nat → Int32} (hX : va_X bs Ls xs s s.heap) (hbl : bs < s.heap.size) (hbA : ¬ A bs) (hLs : Ls ≤ 3072) {i : Nat} (hi : i + 5 < Ls) (hk : k + 8 ≤ 603072) (hn9 : n + 256 ≤ 7211114) (q qm : Nat → Nat) (un : Nat → Nat) (ui : Nat → Int32) (ul : Nat → Int64) (ua : Nat → Nat → Int32) (vc ex wo tp : Nat → Int32) (tf kf : Nat → Option Nat) (L : List Nat) (f : Nat → va_E) (ta ga ka : Nat → Nat) (co : Int32) (oa ob : Nat) (g : Nat → Int64) (gd : Nat → UInt64) (hI : INV un ui ua) (hPL : PL cA un ua L f tf kf ta ga ka) (hN : ∀ (un : Nat → Nat) (ui : Nat → Int32) (ul : Nat → Int64) (ua : Nat → Nat → Int32) (vc ex wo tp : Nat → Int32) (tf kf : Nat → Option Nat) (L : List Nat) (f : Nat → va_E) (ta ga ka : Nat → Nat) (co : Int32) (g : Nat → Int64) (gd : Nat → UInt64), INV un ui ua → PL cA un ua L f tf kf ta ga ka → J p l e (RM 2048 94400 603072 7211114) s m args below meth c 9 D A (mW cA qm un ui ul ua co ++ (((cF cA q un ui ul ua vc ex wo tp tf kf ++ va_pl L f) ++ [(oa, .inl (cA 4, 1, .inr (.inl g)))]) ++ [(ob, .inl (cA 5, 1, .inr (.inr (.inr (.inl gd)))))])) (k + 8) (n + 256) Q 2045 [(0, .ref bs), (1, .ref (q 0)), (2, .ref (qm 0)), (3, .ref oa), (4, .ref ob), (5, .int (nI i))] []) : J p l e (RM 2048 94400 603072 7211114) s m args below meth c 9 D A (mW cA qm un ui ul ua co ++ (((cF cA q un ui ul ua vc ex wo tp tf kf ++ va_pl L f) ++ [(oa, .inl (cA 4, 1, .inr (.inl g)))]) ++ [(ob, .inl (cA 5, 1, .inr (.inr (.inr (.inl gd)))))])) k n Q 925 [(0, .ref bs), (1, .ref (q 0)), (2, .ref (qm 0)), (3, .ref oa), (4, .ref ob), (5, .int (nI i))] [] := by
  refine j_aload_n G dL_law_925 rfl 1 rfl ?_
  refine jV_i G 6 16 (fw_i (cC_X6_hours l D cA q un ui ul ua vc ex wo tp tf kf L f ) (mW cA qm un ui ul ua co) ([(oa, .inl (cA 4, 1, .inr (.inl g)))] ++ [(ob, .inl (cA 5, 1, .inr (.inr (.inr (.inl gd)))))]) (by simp only [List.append_assoc])) gL_161 hd_X6_hours ⟨Nat.le_of_ble_eq_true rfl, Nat.le_of_ble_eq_true rfl⟩ ⟨by show _ ≤ 603072; omega, by show _ ≤ 7211114; omega⟩ rfl rfl (Nat.le_of_ble_eq_true rfl) rfl rfl dL_law_926 (fun r w9 hq9 => ?_)
  obtain ⟨b1, ⟨hr9, hb9⟩, hw9⟩ := hq9
  subst hw9
  subst hb9
  subst hr9
  refine j_w (w' := mW cA qm un ui ul ua co ++ (((cF cA q un ui ul ua vc ex wo tp tf kf ++ va_pl L f) ++ [(oa, .inl (cA 4, 1, .inr (.inl g)))]) ++ [(ob, .inl (cA 5, 1, .inr (.inr (.inr (.inl gd)))))])) (by simp only [List.append_assoc]) ?_
  refine j_aload_n G dL_law_929 rfl 2 rfl ?_
  refine jV_i G 7 0 (fw_i (cM_hours l D cA qm un ui ul ua co  ) [] (((cF cA q un ui ul ua vc ex wo tp tf kf ++ va_pl L f) ++ [(oa, .inl (cA 4, 1, .inr (.inl g)))]) ++ [(ob, .inl (cA 5, 1, .inr (.inr (.inr (.inl gd)))))]) rfl) gL_164 hd_X7_hours ⟨Nat.le_of_ble_eq_true rfl, Nat.le_of_ble_eq_true rfl⟩ ⟨by show _ ≤ 603072; omega, by show _ ≤ 7211114; omega⟩ rfl rfl (Nat.le_of_ble_eq_true rfl) rfl rfl dL_law_930 (fun r w9 hq9 => ?_)
  obtain ⟨b1, hq8, hw9⟩ := hq9
  obtain ⟨hr9, hb9⟩ := hq8
  subst hw9
  subst hb9
  subst hr9
  refine j_w (w' := mW cA qm un ui ul ua 0 ++ (((cF cA q un ui ul ua vc ex wo tp tf kf ++ va_pl L f) ++ [(oa, .inl (cA 4, 1, .inr (.inl g)))]) ++ [(ob, .inl (cA 5, 1, .inr (.inr (.inr (.inl gd)))))])) rfl ?_
  refine j_icmp_eq (tgt := 2045) G dL_law_933 (by decide) (fun c933 => ?_) (fun c933 => absurd rfl c933)
  refine j_sub (lv' := [(0, .ref bs), (1, .ref (q 0)), (2, .ref (qm 0)), (3, .ref oa), (4, .ref ob), (5, .int (nI i))]) [0, 1, 2, 3, 4, 5] rfl ?_
  refine j_cs (k' := k + 8) (n' := n + 256) (by omega) (by omega) ?_
  refine j_w (w' := mW cA qm un ui ul ua 0 ++ (((cF cA q un ui ul ua vc ex wo tp tf kf ++ va_pl L f) ++ [(oa, .inl (cA 4, 1, .inr (.inl g)))]) ++ [(ob, .inl (cA 5, 1, .inr (.inr (.inr (.inl gd)))))])) rfl ?_
  exact hN un ui ul ua vc ex wo tp tf kf L f ta ga ka 0 g gd hI hPL
set_option maxHeartbeats 4000000 in
set_option maxRecDepth 100000 in
theorem lw_charge {p : Program} {l : Launch} {e : Env} {s : State} {m : MethodId} {args : Array Value} {below : List Frame} {meth : Method} {c : Code} {D : va_G} {cA : Nat → ClassId} {A : Nat → Prop} {Q : State → Prop} {k n : Nat} (G : GX p s m args c cL_law 9 RL D cA A) (hfl : l.stackTraces = false) {bs Ls : Nat} {xs : Nat → Int32} (hX : va_X bs Ls xs s s.heap) (hbl : bs < s.heap.size) (hbA : ¬ A bs) (hLs : Ls ≤ 3072) {i : Nat} (hi : i + 5 < Ls) (hk : k + 8 ≤ 603072) (hn9 : n + 256 ≤ 7211114) (q qm : Nat → Nat) (un : Nat → Nat) (ui : Nat → Int32) (ul : Nat → Int64) (ua : Nat → Nat → Int32) (vc ex wo tp : Nat → Int32) (tf kf : Nat → Option Nat) (L : List Nat) (f : Nat → va_E) (ta ga ka : Nat → Nat) (co : Int32) (oa ob : Nat) (g : Nat → Int64) (gd : Nat → UInt64) (hI : INV un ui ua) (hPL : PL cA un ua L f tf kf ta ga ka) (hN : ∀ (un : Nat → Nat) (ui : Nat → Int32) (ul : Nat → Int64) (ua : Nat → Nat → Int32) (vc ex wo tp : Nat → Int32) (tf kf : Nat → Option Nat) (L : List Nat) (f : Nat → va_E) (ta ga ka : Nat → Nat) (co : Int32) (g : Nat → Int64) (gd : Nat → UInt64), INV un ui ua → PL cA un ua L f tf kf ta ga ka → J p l e (RM 2048 94400 603072 7211114) s m args below meth c 9 D A (mW cA qm un ui ul ua co ++ (((cF cA q un ui ul ua vc ex wo tp tf kf ++ va_pl L f) ++ [(oa, .inl (cA 4, 1, .inr (.inl g)))]) ++ [(ob, .inl (cA 5, 1, .inr (.inr (.inr (.inl gd)))))])) (k + 8) (n + 256) Q 2045 [(0, .ref bs), (1, .ref (q 0)), (2, .ref (qm 0)), (3, .ref oa), (4, .ref ob), (5, .int (nI i))] []) : J p l e (RM 2048 94400 603072 7211114) s m args below meth c 9 D A (mW cA qm un ui ul ua co ++ (((cF cA q un ui ul ua vc ex wo tp tf kf ++ va_pl L f) ++ [(oa, .inl (cA 4, 1, .inr (.inl g)))]) ++ [(ob, .inl (cA 5, 1, .inr (.inr (.inr (.inl gd)))))])) k n Q 938 [(0, .ref bs), (1, .ref (q 0)), (2, .ref (qm 0)), (3, .ref oa), (4, .ref ob), (5, .int (nI i))] [] := by
  refine j_aload_n G dL_law_938 rfl 1 rfl ?_
  refine j_aload_n G dL_law_939 rfl 0 rfl ?_
  refine j_iload G dL_law_940 5 rfl ?_
  refine j_iconst (v := 1) G dL_law_942 (by decide) ?_
  refine j_iadd G dL_law_943 ?_
  refine j_rwi (nI_add i 1) ?_
  refine j_sldN (j := i + 1) G hX hbl hbA (by omega) (by omega) dL_law_944 ?_
  refine j_aload_n G dL_law_945 rfl 3 rfl ?_
  refine jSW_i G (fw_W (cW_charge l D cA (b0 := cF cA q un ui ul ua vc ex wo tp tf kf ++ va_pl L f) rfl (xs (i + 1)) g (cC_X6_charge l D cA hfl q un ui ul ua vc ex wo tp tf kf L f ta ga ka (xs (i + 1)) hI.1.2.1 hPL) (fun E8 b8 h8 => h8.elim (fun h8 => Or.inl (congrArg Prod.fst h8.2)) (fun h8 => Or.inr ((congrArg Prod.fst h8.2))))) (mW cA qm un ui ul ua co) [(ob, .inl (cA 5, 1, .inr (.inr (.inr (.inl gd)))))] (List.append_assoc _ _ _).symm) (gw_charge wd_682) hd_L_charge.2 ⟨Nat.le_of_ble_eq_true rfl, Nat.le_of_ble_eq_true rfl⟩ ⟨by show _ ≤ 603072; omega, by show _ ≤ 7211114; omega⟩ rfl rfl (Nat.le_of_ble_eq_true rfl) dL_law_946 (fun r w9 hq9 => ?_)
  obtain ⟨b1, hq8, hw9⟩ := hq9
  rcases hq8 with ⟨v9, b2, hp9, hr9, hb9⟩ | ⟨E9, b2, hp9, hd9, hb9⟩
  · obtain ⟨hok, hv9, hb8⟩ := hp9
    subst hw9
    subst hb9
    subst hr9
    subst hb8
    subst hv9
    have hcf : cfTap (un 0) (ua 0) (xs (i + 1)) = 0 := hok
    refine j_w (w' := mW cA qm un ui ul ua co ++ (((cF cA q un ui ul ua vc ex wo tp tf kf ++ va_pl L f) ++ [(oa, .inl (cA 4, 1, .inr (.inl (vp_updL g 0 (ua 6 (xs (i + 1)).toNatClampNeg).toInt64))))]) ++ [(ob, .inl (cA 5, 1, .inr (.inr (.inr (.inl gd)))))])) (List.append_assoc _ _ _) ?_
    refine j_istore (lv' := [(6, .int 0), (0, .ref bs), (1, .ref (q 0)), (2, .ref (qm 0)), (3, .ref oa), (4, .ref ob), (5, .int (nI i))]) G dL_law_949 (by decide) rfl ?_
    refine j_aload_n G dL_law_951 rfl 3 rfl ?_
    refine j_aload_n G dL_law_952 rfl 1 rfl ?_
    refine j_iload G dL_law_953 6 rfl ?_
    refine j_iconst (v := 1) G dL_law_955 (by decide) ?_
    refine j_iadd G dL_law_956 ?_
    refine j_rwi (nI_add i 1) ?_
    refine j_sldN (j := i + 1) G hX hbl hbA (by omega) (by omega) dL_law_957 ?_
    refine jV_i G 7 0 (fw_i (cM_charge l D cA qm un ui ul ua co (xs (i + 1)) hI.1.2.1) [] (((cF cA q un ui ul ua vc ex wo tp tf kf ++ va_pl L f) ++ [(oa, .inl (cA 4, 1, .inr (.inl (vp_updL g 0 (ua 6 (xs (i + 1)).toNatClampNeg).toInt64))))]) ++ [(ob, .inl (cA 5, 1, .inr (.inr (.inr (.inl gd)))))]) rfl) gL_167 hd_X7_charge ⟨Nat.le_of_ble_eq_true rfl, Nat.le_of_ble_eq_true rfl⟩ ⟨by show _ ≤ 603072; omega, by show _ ≤ 7211114; omega⟩ rfl rfl (Nat.le_of_ble_eq_true rfl) rfl rfl dL_law_958 (fun r w9 hq9 => ?_)
    obtain ⟨b1, hq8, hw9⟩ := hq9
    rcases hq8 with ⟨hc9, hr9, hb9⟩ | ⟨hc9, hb9⟩
    · subst hw9
      subst hb9
      subst hr9
      refine j_w (w' := mW cA qm un ui ul ua 0 ++ (((cF cA q un ui ul ua vc ex wo tp tf kf ++ va_pl L f) ++ [(oa, .inl (cA 4, 1, .inr (.inl (vp_updL g 0 (ua 6 (xs (i + 1)).toNatClampNeg).toInt64))))]) ++ [(ob, .inl (cA 5, 1, .inr (.inr (.inr (.inl gd)))))])) rfl ?_
      refine j_istore (lv' := [(7, .int (ua 6 (xs (i + 1)).toNatClampNeg)), (6, .int 0), (0, .ref bs), (1, .ref (q 0)), (2, .ref (qm 0)), (3, .ref oa), (4, .ref ob), (5, .int (nI i))]) G dL_law_961 (by decide) rfl ?_
      refine j_aload_n G dL_law_963 rfl 4 rfl ?_
      refine jV_i G 7 0 (fw_i (cM_thrown l D cA qm un ui ul ua 0  ) [] (((cF cA q un ui ul ua vc ex wo tp tf kf ++ va_pl L f) ++ [(oa, .inl (cA 4, 1, .inr (.inl (vp_updL g 0 (ua 6 (xs (i + 1)).toNatClampNeg).toInt64))))]) ++ [(ob, .inl (cA 5, 1, .inr (.inr (.inr (.inl gd)))))]) rfl) gL_122 hd_X7_thrown ⟨Nat.le_of_ble_eq_true rfl, Nat.le_of_ble_eq_true rfl⟩ ⟨by show _ ≤ 603072; omega, by show _ ≤ 7211114; omega⟩ rfl rfl (Nat.le_of_ble_eq_true rfl) rfl rfl dL_law_964 (fun r w9 hq9 => ?_)
      obtain ⟨b1, hq8, hw9⟩ := hq9
      obtain ⟨hr9, hb9⟩ := hq8
      subst hw9
      subst hb9
      subst hr9
      refine j_w (w' := mW cA qm un ui ul ua 0 ++ (((cF cA q un ui ul ua vc ex wo tp tf kf ++ va_pl L f) ++ [(oa, .inl (cA 4, 1, .inr (.inl (vp_updL g 0 (ua 6 (xs (i + 1)).toNatClampNeg).toInt64))))]) ++ [(ob, .inl (cA 5, 1, .inr (.inr (.inr (.inl gd)))))])) rfl ?_
      refine j_iload G dL_law_967 1 rfl ?_
      refine j_icmp_eq (tgt := 974) G dL_law_969 (by decide) (fun c969 => ?_) (fun c969 => absurd rfl c969)
      refine j_iload G dL_law_974 1 rfl ?_
      refine j_if_ne (tgt := 991) G dL_law_976 (by decide) (fun c976 => absurd c976 (by decide)) (fun _ => ?_)
      refine j_aload_n G dL_law_979 rfl 5 rfl ?_
      refine j_iconst (v := 0) G dL_law_980 (by decide) ?_
      refine j_lald G _ wq_o (show vp_in (nI 0) 1 from vp_in_nI (by decide) (by decide)) dL_law_981 ?_
      refine j_rwl (show _ = (ua 6 (xs (i + 1)).toNatClampNeg).toInt64 from rfl) ?_
      refine j_iload G dL_law_982 0 rfl ?_
      refine j_i2l G dL_law_984 ?_
      refine j_lcmp G dL_law_985 ?_
      refine j_if_eq (tgt := 991) G dL_law_986 (by decide) (fun c986 => ?_) (fun c986 => absurd (lgz.mpr rfl) c986)
      refine j_goto (tgt := 2045) G dL_law_991 (by decide) ?_
      refine j_sub (lv' := [(0, .ref bs), (1, .ref (q 0)), (2, .ref (qm 0)), (3, .ref oa), (4, .ref ob), (5, .int (nI i))]) [2, 3, 4, 5, 6, 7] rfl ?_
      refine j_cs (k' := k + 8) (n' := n + 256) (by omega) (by omega) ?_
      refine j_w (w' := mW cA qm un ui ul ua 0 ++ (((cF cA q un ui ul ua vc ex wo tp tf kf ++ va_pl L f) ++ [(oa, .inl (cA 4, 1, .inr (.inl (vp_updL g 0 (ua 6 (xs (i + 1)).toNatClampNeg).toInt64))))]) ++ [(ob, .inl (cA 5, 1, .inr (.inr (.inr (.inl gd)))))])) rfl ?_
      exact hN un ui ul ua vc ex wo tp tf kf L f ta ga ka 0 (vp_updL g 0 (ua 6 (xs (i + 1)).toNatClampNeg).toInt64) gd hI hPL
    · exact absurd hcf hc9
  · rcases hp9 with ⟨hc, he⟩ | ⟨hc, he⟩
    · cases he
      have hr9 : r = 1 := by rcases hd9 with ⟨h8, h7⟩ | ⟨h8, h7⟩ <;> first | exact h7 | exact absurd h8 (by decide)
      subst hw9
      subst hb9
      subst hr9
      have hcf : cfTap (un 0) (ua 0) (xs (i + 1)) = 1 := hc
      refine j_w (w' := mW cA qm un ui ul ua co ++ (((cF cA q un ui ul ua vc ex wo tp tf kf ++ va_pl L f) ++ [(oa, .inl (cA 4, 1, .inr (.inl g)))]) ++ [(ob, .inl (cA 5, 1, .inr (.inr (.inr (.inl gd)))))])) (List.append_assoc _ _ _) ?_
      refine j_istore (lv' := [(6, .int 1), (0, .ref bs), (1, .ref (q 0)), (2, .ref (qm 0)), (3, .ref oa), (4, .ref ob), (5, .int (nI i))]) G dL_law_949 (by decide) rfl ?_
      refine j_aload_n G dL_law_951 rfl 3 rfl ?_
      refine j_aload_n G dL_law_952 rfl 1 rfl ?_
      refine j_iload G dL_law_953 6 rfl ?_
      refine j_iconst (v := 1) G dL_law_955 (by decide) ?_
      refine j_iadd G dL_law_956 ?_
      refine j_rwi (nI_add i 1) ?_
      refine j_sldN (j := i + 1) G hX hbl hbA (by omega) (by omega) dL_law_957 ?_
      refine jV_i G 7 0 (fw_i (cM_charge l D cA qm un ui ul ua co (xs (i + 1)) hI.1.2.1) [] (((cF cA q un ui ul ua vc ex wo tp tf kf ++ va_pl L f) ++ [(oa, .inl (cA 4, 1, .inr (.inl g)))]) ++ [(ob, .inl (cA 5, 1, .inr (.inr (.inr (.inl gd)))))]) rfl) gL_167 hd_X7_charge ⟨Nat.le_of_ble_eq_true rfl, Nat.le_of_ble_eq_true rfl⟩ ⟨by show _ ≤ 603072; omega, by show _ ≤ 7211114; omega⟩ rfl rfl (Nat.le_of_ble_eq_true rfl) rfl rfl dL_law_958 (fun r w9 hq9 => ?_)
      obtain ⟨b1, hq8, hw9⟩ := hq9
      rcases hq8 with ⟨hc9, hr9, hb9⟩ | ⟨hc9, hb9⟩
      · exact absurd (hcf.symm.trans hc9) (by decide)
      · rw [hcf] at hb9
        subst hw9
        subst hb9
        refine j_w (w' := mW cA qm un ui ul ua 1 ++ (((cF cA q un ui ul ua vc ex wo tp tf kf ++ va_pl L f) ++ [(oa, .inl (cA 4, 1, .inr (.inl g)))]) ++ [(ob, .inl (cA 5, 1, .inr (.inr (.inr (.inl gd)))))])) rfl ?_
        refine j_istore (lv' := [(7, .int r), (6, .int 1), (0, .ref bs), (1, .ref (q 0)), (2, .ref (qm 0)), (3, .ref oa), (4, .ref ob), (5, .int (nI i))]) G dL_law_961 (by decide) rfl ?_
        refine j_aload_n G dL_law_963 rfl 4 rfl ?_
        refine jV_i G 7 0 (fw_i (cM_thrown l D cA qm un ui ul ua 1  ) [] (((cF cA q un ui ul ua vc ex wo tp tf kf ++ va_pl L f) ++ [(oa, .inl (cA 4, 1, .inr (.inl g)))]) ++ [(ob, .inl (cA 5, 1, .inr (.inr (.inr (.inl gd)))))]) rfl) gL_122 hd_X7_thrown ⟨Nat.le_of_ble_eq_true rfl, Nat.le_of_ble_eq_true rfl⟩ ⟨by show _ ≤ 603072; omega, by show _ ≤ 7211114; omega⟩ rfl rfl (Nat.le_of_ble_eq_true rfl) rfl rfl dL_law_964 (fun r w9 hq9 => ?_)
        obtain ⟨b1, hq8, hw9⟩ := hq9
        obtain ⟨hr9, hb9⟩ := hq8
        subst hw9
        subst hb9
        subst hr9
        refine j_w (w' := mW cA qm un ui ul ua 1 ++ (((cF cA q un ui ul ua vc ex wo tp tf kf ++ va_pl L f) ++ [(oa, .inl (cA 4, 1, .inr (.inl g)))]) ++ [(ob, .inl (cA 5, 1, .inr (.inr (.inr (.inl gd)))))])) rfl ?_
        refine j_iload G dL_law_967 1 rfl ?_
        refine j_icmp_eq (tgt := 974) G dL_law_969 (by decide) (fun c969 => ?_) (fun c969 => absurd rfl c969)
        refine j_iload G dL_law_974 1 rfl ?_
        refine j_if_ne (tgt := 991) G dL_law_976 (by decide) (fun _ => ?_) (fun c976 => absurd c976 (by decide))
        refine j_goto (tgt := 2045) G dL_law_991 (by decide) ?_
        refine j_sub (lv' := [(0, .ref bs), (1, .ref (q 0)), (2, .ref (qm 0)), (3, .ref oa), (4, .ref ob), (5, .int (nI i))]) [2, 3, 4, 5, 6, 7] rfl ?_
        refine j_cs (k' := k + 8) (n' := n + 256) (by omega) (by omega) ?_
        refine j_w (w' := mW cA qm un ui ul ua 1 ++ (((cF cA q un ui ul ua vc ex wo tp tf kf ++ va_pl L f) ++ [(oa, .inl (cA 4, 1, .inr (.inl g)))]) ++ [(ob, .inl (cA 5, 1, .inr (.inr (.inr (.inl gd)))))])) rfl ?_
        exact hN un ui ul ua vc ex wo tp tf kf L f ta ga ka 1 g gd hI hPL
    · cases he
      have hr9 : r = 2 := by rcases hd9 with ⟨h8, h7⟩ | ⟨h8, h7⟩ <;> first | exact h7 | exact absurd h8 (by decide)
      subst hw9
      subst hb9
      subst hr9
      have hcf : cfTap (un 0) (ua 0) (xs (i + 1)) = 2 := hc
      refine j_w (w' := mW cA qm un ui ul ua co ++ (((cF cA q un ui ul ua vc ex wo tp tf kf ++ va_pl L f) ++ [(oa, .inl (cA 4, 1, .inr (.inl g)))]) ++ [(ob, .inl (cA 5, 1, .inr (.inr (.inr (.inl gd)))))])) (List.append_assoc _ _ _) ?_
      refine j_istore (lv' := [(6, .int 2), (0, .ref bs), (1, .ref (q 0)), (2, .ref (qm 0)), (3, .ref oa), (4, .ref ob), (5, .int (nI i))]) G dL_law_949 (by decide) rfl ?_
      refine j_aload_n G dL_law_951 rfl 3 rfl ?_
      refine j_aload_n G dL_law_952 rfl 1 rfl ?_
      refine j_iload G dL_law_953 6 rfl ?_
      refine j_iconst (v := 1) G dL_law_955 (by decide) ?_
      refine j_iadd G dL_law_956 ?_
      refine j_rwi (nI_add i 1) ?_
      refine j_sldN (j := i + 1) G hX hbl hbA (by omega) (by omega) dL_law_957 ?_
      refine jV_i G 7 0 (fw_i (cM_charge l D cA qm un ui ul ua co (xs (i + 1)) hI.1.2.1) [] (((cF cA q un ui ul ua vc ex wo tp tf kf ++ va_pl L f) ++ [(oa, .inl (cA 4, 1, .inr (.inl g)))]) ++ [(ob, .inl (cA 5, 1, .inr (.inr (.inr (.inl gd)))))]) rfl) gL_167 hd_X7_charge ⟨Nat.le_of_ble_eq_true rfl, Nat.le_of_ble_eq_true rfl⟩ ⟨by show _ ≤ 603072; omega, by show _ ≤ 7211114; omega⟩ rfl rfl (Nat.le_of_ble_eq_true rfl) rfl rfl dL_law_958 (fun r w9 hq9 => ?_)
      obtain ⟨b1, hq8, hw9⟩ := hq9
      rcases hq8 with ⟨hc9, hr9, hb9⟩ | ⟨hc9, hb9⟩
      · exact absurd (hcf.symm.trans hc9) (by decide)
      · rw [hcf] at hb9
        subst hw9
        subst hb9
        refine j_w (w' := mW cA qm un ui ul ua 2 ++ (((cF cA q un ui ul ua vc ex wo tp tf kf ++ va_pl L f) ++ [(oa, .inl (cA 4, 1, .inr (.inl g)))]) ++ [(ob, .inl (cA 5, 1, .inr (.inr (.inr (.inl gd)))))])) rfl ?_
        refine j_istore (lv' := [(7, .int r), (6, .int 2), (0, .ref bs), (1, .ref (q 0)), (2, .ref (qm 0)), (3, .ref oa), (4, .ref ob), (5, .int (nI i))]) G dL_law_961 (by decide) rfl ?_
        refine j_aload_n G dL_law_963 rfl 4 rfl ?_
        refine jV_i G 7 0 (fw_i (cM_thrown l D cA qm un ui ul ua 2  ) [] (((cF cA q un ui ul ua vc ex wo tp tf kf ++ va_pl L f) ++ [(oa, .inl (cA 4, 1, .inr (.inl g)))]) ++ [(ob, .inl (cA 5, 1, .inr (.inr (.inr (.inl gd)))))]) rfl) gL_122 hd_X7_thrown ⟨Nat.le_of_ble_eq_true rfl, Nat.le_of_ble_eq_true rfl⟩ ⟨by show _ ≤ 603072; omega, by show _ ≤ 7211114; omega⟩ rfl rfl (Nat.le_of_ble_eq_true rfl) rfl rfl dL_law_964 (fun r w9 hq9 => ?_)
        obtain ⟨b1, hq8, hw9⟩ := hq9
        obtain ⟨hr9, hb9⟩ := hq8
        subst hw9
        subst hb9
        subst hr9
        refine j_w (w' := mW cA qm un ui ul ua 2 ++ (((cF cA q un ui ul ua vc ex wo tp tf kf ++ va_pl L f) ++ [(oa, .inl (cA 4, 1, .inr (.inl g)))]) ++ [(ob, .inl (cA 5, 1, .inr (.inr (.inr (.inl gd)))))])) rfl ?_
        refine j_iload G dL_law_967 1 rfl ?_
        refine j_icmp_eq (tgt := 974) G dL_law_969 (by decide) (fun c969 => ?_) (fun c969 => absurd rfl c969)
        refine j_iload G dL_law_974 1 rfl ?_
        refine j_if_ne (tgt := 991) G dL_law_976 (by decide) (fun _ => ?_) (fun c976 => absurd c976 (by decide))
        refine j_goto (tgt := 2045) G dL_law_991 (by decide) ?_
        refine j_sub (lv' := [(0, .ref bs), (1, .ref (q 0)), (2, .ref (qm 0)), (3, .ref oa), (4, .ref ob), (5, .int (nI i))]) [2, 3, 4, 5, 6, 7] rfl ?_
        refine j_cs (k' := k + 8) (n' := n + 256) (by omega) (by omega) ?_
        refine j_w (w' := mW cA qm un ui ul ua 2 ++ (((cF cA q un ui ul ua vc ex wo tp tf kf ++ va_pl L f) ++ [(oa, .inl (cA 4, 1, .inr (.inl g)))]) ++ [(ob, .inl (cA 5, 1, .inr (.inr (.inr (.inl gd)))))])) rfl ?_
        exact hN un ui ul ua vc ex wo tp tf kf L f ta ga ka 2 g gd hI hPL
set_option maxHeartbeats 4000000 in
set_option maxRecDepth 100000 in
theorem lw_sapOf {p : Program} {l : Launch} {e : Env} {s : State} {m : MethodId} {args : Array Value} {below : List Frame} {meth : Method} {c : Code} {D : va_G} {cA : Nat → ClassId} {A : Nat → Prop} {Q : State → Prop} {k n : Nat} (G : GX p s m args c cL_law 9 RL D cA A) (hfl : l.stackTraces = false) {bs Ls : Nat} {xs : Nat → Int32} (hX : va_X bs Ls xs s s.heap) (hbl : bs < s.heap.size) (hbA : ¬ A bs) (hLs : Ls ≤ 3072) {i : Nat} (hi : i + 5 < Ls) (hk : k + 8 ≤ 603072) (hn9 : n + 256 ≤ 7211114) (q qm : Nat → Nat) (un : Nat → Nat) (ui : Nat → Int32) (ul : Nat → Int64) (ua : Nat → Nat → Int32) (vc ex wo tp : Nat → Int32) (tf kf : Nat → Option Nat) (L : List Nat) (f : Nat → va_E) (ta ga ka : Nat → Nat) (co : Int32) (oa ob : Nat) (g : Nat → Int64) (gd : Nat → UInt64) (hI : INV un ui ua) (hPL : PL cA un ua L f tf kf ta ga ka) (hN : ∀ (un : Nat → Nat) (ui : Nat → Int32) (ul : Nat → Int64) (ua : Nat → Nat → Int32) (vc ex wo tp : Nat → Int32) (tf kf : Nat → Option Nat) (L : List Nat) (f : Nat → va_E) (ta ga ka : Nat → Nat) (co : Int32) (g : Nat → Int64) (gd : Nat → UInt64), INV un ui ua → PL cA un ua L f tf kf ta ga ka → J p l e (RM 2048 94400 603072 7211114) s m args below meth c 9 D A (mW cA qm un ui ul ua co ++ (((cF cA q un ui ul ua vc ex wo tp tf kf ++ va_pl L f) ++ [(oa, .inl (cA 4, 1, .inr (.inl g)))]) ++ [(ob, .inl (cA 5, 1, .inr (.inr (.inr (.inl gd)))))])) (k + 8) (n + 256) Q 2045 [(0, .ref bs), (1, .ref (q 0)), (2, .ref (qm 0)), (3, .ref oa), (4, .ref ob), (5, .int (nI i))] []) : J p l e (RM 2048 94400 603072 7211114) s m args below meth c 9 D A (mW cA qm un ui ul ua co ++ (((cF cA q un ui ul ua vc ex wo tp tf kf ++ va_pl L f) ++ [(oa, .inl (cA 4, 1, .inr (.inl g)))]) ++ [(ob, .inl (cA 5, 1, .inr (.inr (.inr (.inl gd)))))])) k n Q 994 [(0, .ref bs), (1, .ref (q 0)), (2, .ref (qm 0)), (3, .ref oa), (4, .ref ob), (5, .int (nI i))] [] := by
  refine j_aload_n G dL_law_994 rfl 1 rfl ?_
  refine j_aload_n G dL_law_995 rfl 0 rfl ?_
  refine j_iload G dL_law_996 5 rfl ?_
  refine j_iconst (v := 1) G dL_law_998 (by decide) ?_
  refine j_iadd G dL_law_999 ?_
  refine j_rwi (nI_add i 1) ?_
  refine j_sldN (j := i + 1) G hX hbl hbA (by omega) (by omega) dL_law_1000 ?_
  refine j_aload_n G dL_law_1001 rfl 0 rfl ?_
  refine j_iload G dL_law_1002 5 rfl ?_
  refine j_iconst (v := 2) G dL_law_1004 (by decide) ?_
  refine j_iadd G dL_law_1005 ?_
  refine j_rwi (nI_add i 2) ?_
  refine j_sldN (j := i + 2) G hX hbl hbA (by omega) (by omega) dL_law_1006 ?_
  refine j_aload_n G dL_law_1007 rfl 3 rfl ?_
  refine jSW_i G (fw_W (cW_sapOf l D cA (b0 := cF cA q un ui ul ua vc ex wo tp tf kf ++ va_pl L f) rfl (xs (i + 1)) (xs (i + 2)) g (cC_X6_sapOf l D cA hfl q un ui ul ua vc ex wo tp tf kf L f ta ga ka (xs (i + 1)) (xs (i + 2)) hI.1.2.1 hI.1.2.2.1 hPL) (fun E8 b8 h8 => h8.elim (fun h8 => Or.inl (congrArg Prod.fst h8.2)) (fun h8 => h8.elim (fun h8 => Or.inr (Or.inl (congrArg Prod.fst h8.2))) (fun h8 => Or.inr (Or.inr ((congrArg Prod.fst h8.2))))))) (mW cA qm un ui ul ua co) [(ob, .inl (cA 5, 1, .inr (.inr (.inr (.inl gd)))))] (List.append_assoc _ _ _).symm) (gw_sapOf wd_694) hd_L_sapOf.2 ⟨Nat.le_of_ble_eq_true rfl, Nat.le_of_ble_eq_true rfl⟩ ⟨by show _ ≤ 603072; omega, by show _ ≤ 7211114; omega⟩ rfl rfl (Nat.le_of_ble_eq_true rfl) dL_law_1008 (fun r w9 hq9 => ?_)
  obtain ⟨b1, hq8, hw9⟩ := hq9
  rcases hq8 with ⟨v9, b2, hp9, hr9, hb9⟩ | ⟨E9, b2, hp9, hd9, hb9⟩
  · obtain ⟨hok, hv9, hb8⟩ := hp9
    subst hw9
    subst hb9
    subst hr9
    subst hb8
    subst hv9
    have hcf : cfSap (un 0) (ua 0) (xs (i + 1)) (un 1) (xs (i + 2)) = 0 := hok
    refine j_w (w' := mW cA qm un ui ul ua co ++ (((cF cA q un ui ul ua vc ex wo tp tf kf ++ va_pl L f) ++ [(oa, .inl (cA 4, 1, .inr (.inl (vp_updL g 0 (ua 8 (200 * (xs (i + 1)).toNatClampNeg + (xs (i + 2)).toNatClampNeg)).toInt64))))]) ++ [(ob, .inl (cA 5, 1, .inr (.inr (.inr (.inl gd)))))])) (List.append_assoc _ _ _) ?_
    refine j_istore (lv' := [(6, .int 0), (0, .ref bs), (1, .ref (q 0)), (2, .ref (qm 0)), (3, .ref oa), (4, .ref ob), (5, .int (nI i))]) G dL_law_1011 (by decide) rfl ?_
    refine j_aload_n G dL_law_1013 rfl 3 rfl ?_
    refine j_aload_n G dL_law_1014 rfl 1 rfl ?_
    refine j_iload G dL_law_1015 6 rfl ?_
    refine j_iconst (v := 1) G dL_law_1017 (by decide) ?_
    refine j_iadd G dL_law_1018 ?_
    refine j_rwi (nI_add i 1) ?_
    refine j_sldN (j := i + 1) G hX hbl hbA (by omega) (by omega) dL_law_1019 ?_
    refine j_aload_n G dL_law_1020 rfl 1 rfl ?_
    refine j_iload G dL_law_1021 6 rfl ?_
    refine j_iconst (v := 2) G dL_law_1023 (by decide) ?_
    refine j_iadd G dL_law_1024 ?_
    refine j_rwi (nI_add i 2) ?_
    refine j_sldN (j := i + 2) G hX hbl hbA (by omega) (by omega) dL_law_1025 ?_
    refine jV_i G 7 0 (fw_i (cM_sapOf l D cA qm un ui ul ua co (xs (i + 1)) (xs (i + 2)) hI.1.2.1 hI.1.2.2.1) [] (((cF cA q un ui ul ua vc ex wo tp tf kf ++ va_pl L f) ++ [(oa, .inl (cA 4, 1, .inr (.inl (vp_updL g 0 (ua 8 (200 * (xs (i + 1)).toNatClampNeg + (xs (i + 2)).toNatClampNeg)).toInt64))))]) ++ [(ob, .inl (cA 5, 1, .inr (.inr (.inr (.inl gd)))))]) rfl) gL_170 hd_X7_sapOf ⟨Nat.le_of_ble_eq_true rfl, Nat.le_of_ble_eq_true rfl⟩ ⟨by show _ ≤ 603072; omega, by show _ ≤ 7211114; omega⟩ rfl rfl (Nat.le_of_ble_eq_true rfl) rfl rfl dL_law_1026 (fun r w9 hq9 => ?_)
    obtain ⟨b1, hq8, hw9⟩ := hq9
    rcases hq8 with ⟨hc9, hr9, hb9⟩ | ⟨hc9, hb9⟩
    · subst hw9
      subst hb9
      subst hr9
      refine j_w (w' := mW cA qm un ui ul ua 0 ++ (((cF cA q un ui ul ua vc ex wo tp tf kf ++ va_pl L f) ++ [(oa, .inl (cA 4, 1, .inr (.inl (vp_updL g 0 (ua 8 (200 * (xs (i + 1)).toNatClampNeg + (xs (i + 2)).toNatClampNeg)).toInt64))))]) ++ [(ob, .inl (cA 5, 1, .inr (.inr (.inr (.inl gd)))))])) rfl ?_
      refine j_istore (lv' := [(7, .int (ua 8 (200 * (xs (i + 1)).toNatClampNeg + (xs (i + 2)).toNatClampNeg))), (6, .int 0), (0, .ref bs), (1, .ref (q 0)), (2, .ref (qm 0)), (3, .ref oa), (4, .ref ob), (5, .int (nI i))]) G dL_law_1029 (by decide) rfl ?_
      refine j_aload_n G dL_law_1031 rfl 4 rfl ?_
      refine jV_i G 7 0 (fw_i (cM_thrown l D cA qm un ui ul ua 0  ) [] (((cF cA q un ui ul ua vc ex wo tp tf kf ++ va_pl L f) ++ [(oa, .inl (cA 4, 1, .inr (.inl (vp_updL g 0 (ua 8 (200 * (xs (i + 1)).toNatClampNeg + (xs (i + 2)).toNatClampNeg)).toInt64))))]) ++ [(ob, .inl (cA 5, 1, .inr (.inr (.inr (.inl gd)))))]) rfl) gL_122 hd_X7_thrown ⟨Nat.le_of_ble_eq_true rfl, Nat.le_of_ble_eq_true rfl⟩ ⟨by show _ ≤ 603072; omega, by show _ ≤ 7211114; omega⟩ rfl rfl (Nat.le_of_ble_eq_true rfl) rfl rfl dL_law_1032 (fun r w9 hq9 => ?_)
      obtain ⟨b1, hq8, hw9⟩ := hq9
      obtain ⟨hr9, hb9⟩ := hq8
      subst hw9
      subst hb9
      subst hr9
      refine j_w (w' := mW cA qm un ui ul ua 0 ++ (((cF cA q un ui ul ua vc ex wo tp tf kf ++ va_pl L f) ++ [(oa, .inl (cA 4, 1, .inr (.inl (vp_updL g 0 (ua 8 (200 * (xs (i + 1)).toNatClampNeg + (xs (i + 2)).toNatClampNeg)).toInt64))))]) ++ [(ob, .inl (cA 5, 1, .inr (.inr (.inr (.inl gd)))))])) rfl ?_
      refine j_iload G dL_law_1035 1 rfl ?_
      refine j_icmp_eq (tgt := 1042) G dL_law_1037 (by decide) (fun c1037 => ?_) (fun c1037 => absurd rfl c1037)
      refine j_iload G dL_law_1042 1 rfl ?_
      refine j_if_ne (tgt := 1059) G dL_law_1044 (by decide) (fun c1044 => absurd c1044 (by decide)) (fun _ => ?_)
      refine j_aload_n G dL_law_1047 rfl 5 rfl ?_
      refine j_iconst (v := 0) G dL_law_1048 (by decide) ?_
      refine j_lald G _ wq_o (show vp_in (nI 0) 1 from vp_in_nI (by decide) (by decide)) dL_law_1049 ?_
      refine j_rwl (show _ = (ua 8 (200 * (xs (i + 1)).toNatClampNeg + (xs (i + 2)).toNatClampNeg)).toInt64 from rfl) ?_
      refine j_iload G dL_law_1050 0 rfl ?_
      refine j_i2l G dL_law_1052 ?_
      refine j_lcmp G dL_law_1053 ?_
      refine j_if_eq (tgt := 1059) G dL_law_1054 (by decide) (fun c1054 => ?_) (fun c1054 => absurd (lgz.mpr rfl) c1054)
      refine j_goto (tgt := 2045) G dL_law_1059 (by decide) ?_
      refine j_sub (lv' := [(0, .ref bs), (1, .ref (q 0)), (2, .ref (qm 0)), (3, .ref oa), (4, .ref ob), (5, .int (nI i))]) [2, 3, 4, 5, 6, 7] rfl ?_
      refine j_cs (k' := k + 8) (n' := n + 256) (by omega) (by omega) ?_
      refine j_w (w' := mW cA qm un ui ul ua 0 ++ (((cF cA q un ui ul ua vc ex wo tp tf kf ++ va_pl L f) ++ [(oa, .inl (cA 4, 1, .inr (.inl (vp_updL g 0 (ua 8 (200 * (xs (i + 1)).toNatClampNeg + (xs (i + 2)).toNatClampNeg)).toInt64))))]) ++ [(ob, .inl (cA 5, 1, .inr (.inr (.inr (.inl gd)))))])) rfl ?_
      exact hN un ui ul ua vc ex wo tp tf kf L f ta ga ka 0 (vp_updL g 0 (ua 8 (200 * (xs (i + 1)).toNatClampNeg + (xs (i + 2)).toNatClampNeg)).toInt64) gd hI hPL
    · exact absurd hcf hc9
  · rcases hp9 with ⟨hc, he⟩ | ⟨hc, he⟩ | ⟨hc, he⟩
    · cases he
      have hr9 : r = 1 := by rcases hd9 with ⟨h8, h7⟩ | ⟨h8, h7⟩ | ⟨h8, h7⟩ <;> first | exact h7 | exact absurd h8 (by decide)
      subst hw9
      subst hb9
      subst hr9
      have hcf : cfSap (un 0) (ua 0) (xs (i + 1)) (un 1) (xs (i + 2)) = 1 := hc
      refine j_w (w' := mW cA qm un ui ul ua co ++ (((cF cA q un ui ul ua vc ex wo tp tf kf ++ va_pl L f) ++ [(oa, .inl (cA 4, 1, .inr (.inl g)))]) ++ [(ob, .inl (cA 5, 1, .inr (.inr (.inr (.inl gd)))))])) (List.append_assoc _ _ _) ?_
      refine j_istore (lv' := [(6, .int 1), (0, .ref bs), (1, .ref (q 0)), (2, .ref (qm 0)), (3, .ref oa), (4, .ref ob), (5, .int (nI i))]) G dL_law_1011 (by decide) rfl ?_
      refine j_aload_n G dL_law_1013 rfl 3 rfl ?_
      refine j_aload_n G dL_law_1014 rfl 1 rfl ?_
      refine j_iload G dL_law_1015 6 rfl ?_
      refine j_iconst (v := 1) G dL_law_1017 (by decide) ?_
      refine j_iadd G dL_law_1018 ?_
      refine j_rwi (nI_add i 1) ?_
      refine j_sldN (j := i + 1) G hX hbl hbA (by omega) (by omega) dL_law_1019 ?_
      refine j_aload_n G dL_law_1020 rfl 1 rfl ?_
      refine j_iload G dL_law_1021 6 rfl ?_
      refine j_iconst (v := 2) G dL_law_1023 (by decide) ?_
      refine j_iadd G dL_law_1024 ?_
      refine j_rwi (nI_add i 2) ?_
      refine j_sldN (j := i + 2) G hX hbl hbA (by omega) (by omega) dL_law_1025 ?_
      refine jV_i G 7 0 (fw_i (cM_sapOf l D cA qm un ui ul ua co (xs (i + 1)) (xs (i + 2)) hI.1.2.1 hI.1.2.2.1) [] (((cF cA q un ui ul ua vc ex wo tp tf kf ++ va_pl L f) ++ [(oa, .inl (cA 4, 1, .inr (.inl g)))]) ++ [(ob, .inl (cA 5, 1, .inr (.inr (.inr (.inl gd)))))]) rfl) gL_170 hd_X7_sapOf ⟨Nat.le_of_ble_eq_true rfl, Nat.le_of_ble_eq_true rfl⟩ ⟨by show _ ≤ 603072; omega, by show _ ≤ 7211114; omega⟩ rfl rfl (Nat.le_of_ble_eq_true rfl) rfl rfl dL_law_1026 (fun r w9 hq9 => ?_)
      obtain ⟨b1, hq8, hw9⟩ := hq9
      rcases hq8 with ⟨hc9, hr9, hb9⟩ | ⟨hc9, hb9⟩
      · exact absurd (hcf.symm.trans hc9) (by decide)
      · rw [hcf] at hb9
        subst hw9
        subst hb9
        refine j_w (w' := mW cA qm un ui ul ua 1 ++ (((cF cA q un ui ul ua vc ex wo tp tf kf ++ va_pl L f) ++ [(oa, .inl (cA 4, 1, .inr (.inl g)))]) ++ [(ob, .inl (cA 5, 1, .inr (.inr (.inr (.inl gd)))))])) rfl ?_
        refine j_istore (lv' := [(7, .int r), (6, .int 1), (0, .ref bs), (1, .ref (q 0)), (2, .ref (qm 0)), (3, .ref oa), (4, .ref ob), (5, .int (nI i))]) G dL_law_1029 (by decide) rfl ?_
        refine j_aload_n G dL_law_1031 rfl 4 rfl ?_
        refine jV_i G 7 0 (fw_i (cM_thrown l D cA qm un ui ul ua 1  ) [] (((cF cA q un ui ul ua vc ex wo tp tf kf ++ va_pl L f) ++ [(oa, .inl (cA 4, 1, .inr (.inl g)))]) ++ [(ob, .inl (cA 5, 1, .inr (.inr (.inr (.inl gd)))))]) rfl) gL_122 hd_X7_thrown ⟨Nat.le_of_ble_eq_true rfl, Nat.le_of_ble_eq_true rfl⟩ ⟨by show _ ≤ 603072; omega, by show _ ≤ 7211114; omega⟩ rfl rfl (Nat.le_of_ble_eq_true rfl) rfl rfl dL_law_1032 (fun r w9 hq9 => ?_)
        obtain ⟨b1, hq8, hw9⟩ := hq9
        obtain ⟨hr9, hb9⟩ := hq8
        subst hw9
        subst hb9
        subst hr9
        refine j_w (w' := mW cA qm un ui ul ua 1 ++ (((cF cA q un ui ul ua vc ex wo tp tf kf ++ va_pl L f) ++ [(oa, .inl (cA 4, 1, .inr (.inl g)))]) ++ [(ob, .inl (cA 5, 1, .inr (.inr (.inr (.inl gd)))))])) rfl ?_
        refine j_iload G dL_law_1035 1 rfl ?_
        refine j_icmp_eq (tgt := 1042) G dL_law_1037 (by decide) (fun c1037 => ?_) (fun c1037 => absurd rfl c1037)
        refine j_iload G dL_law_1042 1 rfl ?_
        refine j_if_ne (tgt := 1059) G dL_law_1044 (by decide) (fun _ => ?_) (fun c1044 => absurd c1044 (by decide))
        refine j_goto (tgt := 2045) G dL_law_1059 (by decide) ?_
        refine j_sub (lv' := [(0, .ref bs), (1, .ref (q 0)), (2, .ref (qm 0)), (3, .ref oa), (4, .ref ob), (5, .int (nI i))]) [2, 3, 4, 5, 6, 7] rfl ?_
        refine j_cs (k' := k + 8) (n' := n + 256) (by omega) (by omega) ?_
        refine j_w (w' := mW cA qm un ui ul ua 1 ++ (((cF cA q un ui ul ua vc ex wo tp tf kf ++ va_pl L f) ++ [(oa, .inl (cA 4, 1, .inr (.inl g)))]) ++ [(ob, .inl (cA 5, 1, .inr (.inr (.inr (.inl gd)))))])) rfl ?_
        exact hN un ui ul ua vc ex wo tp tf kf L f ta ga ka 1 g gd hI hPL
    · cases he
      have hr9 : r = 2 := by rcases hd9 with ⟨h8, h7⟩ | ⟨h8, h7⟩ | ⟨h8, h7⟩ <;> first | exact h7 | exact absurd h8 (by decide)
      subst hw9
      subst hb9
      subst hr9
      have hcf : cfSap (un 0) (ua 0) (xs (i + 1)) (un 1) (xs (i + 2)) = 2 := hc
      refine j_w (w' := mW cA qm un ui ul ua co ++ (((cF cA q un ui ul ua vc ex wo tp tf kf ++ va_pl L f) ++ [(oa, .inl (cA 4, 1, .inr (.inl g)))]) ++ [(ob, .inl (cA 5, 1, .inr (.inr (.inr (.inl gd)))))])) (List.append_assoc _ _ _) ?_
      refine j_istore (lv' := [(6, .int 2), (0, .ref bs), (1, .ref (q 0)), (2, .ref (qm 0)), (3, .ref oa), (4, .ref ob), (5, .int (nI i))]) G dL_law_1011 (by decide) rfl ?_
      refine j_aload_n G dL_law_1013 rfl 3 rfl ?_
      refine j_aload_n G dL_law_1014 rfl 1 rfl ?_
      refine j_iload G dL_law_1015 6 rfl ?_
      refine j_iconst (v := 1) G dL_law_1017 (by decide) ?_
      refine j_iadd G dL_law_1018 ?_
      refine j_rwi (nI_add i 1) ?_
      refine j_sldN (j := i + 1) G hX hbl hbA (by omega) (by omega) dL_law_1019 ?_
      refine j_aload_n G dL_law_1020 rfl 1 rfl ?_
      refine j_iload G dL_law_1021 6 rfl ?_
      refine j_iconst (v := 2) G dL_law_1023 (by decide) ?_
      refine j_iadd G dL_law_1024 ?_
      refine j_rwi (nI_add i 2) ?_
      refine j_sldN (j := i + 2) G hX hbl hbA (by omega) (by omega) dL_law_1025 ?_
      refine jV_i G 7 0 (fw_i (cM_sapOf l D cA qm un ui ul ua co (xs (i + 1)) (xs (i + 2)) hI.1.2.1 hI.1.2.2.1) [] (((cF cA q un ui ul ua vc ex wo tp tf kf ++ va_pl L f) ++ [(oa, .inl (cA 4, 1, .inr (.inl g)))]) ++ [(ob, .inl (cA 5, 1, .inr (.inr (.inr (.inl gd)))))]) rfl) gL_170 hd_X7_sapOf ⟨Nat.le_of_ble_eq_true rfl, Nat.le_of_ble_eq_true rfl⟩ ⟨by show _ ≤ 603072; omega, by show _ ≤ 7211114; omega⟩ rfl rfl (Nat.le_of_ble_eq_true rfl) rfl rfl dL_law_1026 (fun r w9 hq9 => ?_)
      obtain ⟨b1, hq8, hw9⟩ := hq9
      rcases hq8 with ⟨hc9, hr9, hb9⟩ | ⟨hc9, hb9⟩
      · exact absurd (hcf.symm.trans hc9) (by decide)
      · rw [hcf] at hb9
        subst hw9
        subst hb9
        refine j_w (w' := mW cA qm un ui ul ua 2 ++ (((cF cA q un ui ul ua vc ex wo tp tf kf ++ va_pl L f) ++ [(oa, .inl (cA 4, 1, .inr (.inl g)))]) ++ [(ob, .inl (cA 5, 1, .inr (.inr (.inr (.inl gd)))))])) rfl ?_
        refine j_istore (lv' := [(7, .int r), (6, .int 2), (0, .ref bs), (1, .ref (q 0)), (2, .ref (qm 0)), (3, .ref oa), (4, .ref ob), (5, .int (nI i))]) G dL_law_1029 (by decide) rfl ?_
        refine j_aload_n G dL_law_1031 rfl 4 rfl ?_
        refine jV_i G 7 0 (fw_i (cM_thrown l D cA qm un ui ul ua 2  ) [] (((cF cA q un ui ul ua vc ex wo tp tf kf ++ va_pl L f) ++ [(oa, .inl (cA 4, 1, .inr (.inl g)))]) ++ [(ob, .inl (cA 5, 1, .inr (.inr (.inr (.inl gd)))))]) rfl) gL_122 hd_X7_thrown ⟨Nat.le_of_ble_eq_true rfl, Nat.le_of_ble_eq_true rfl⟩ ⟨by show _ ≤ 603072; omega, by show _ ≤ 7211114; omega⟩ rfl rfl (Nat.le_of_ble_eq_true rfl) rfl rfl dL_law_1032 (fun r w9 hq9 => ?_)
        obtain ⟨b1, hq8, hw9⟩ := hq9
        obtain ⟨hr9, hb9⟩ := hq8
        subst hw9
        subst hb9
        subst hr9
        refine j_w (w' := mW cA qm un ui ul ua 2 ++ (((cF cA q un ui ul ua vc ex wo tp tf kf ++ va_pl L f) ++ [(oa, .inl (cA 4, 1, .inr (.inl g)))]) ++ [(ob, .inl (cA 5, 1, .inr (.inr (.inr (.inl gd)))))])) rfl ?_
        refine j_iload G dL_law_1035 1 rfl ?_
        refine j_icmp_eq (tgt := 1042) G dL_law_1037 (by decide) (fun c1037 => ?_) (fun c1037 => absurd rfl c1037)
        refine j_iload G dL_law_1042 1 rfl ?_
        refine j_if_ne (tgt := 1059) G dL_law_1044 (by decide) (fun _ => ?_) (fun c1044 => absurd c1044 (by decide))
        refine j_goto (tgt := 2045) G dL_law_1059 (by decide) ?_
        refine j_sub (lv' := [(0, .ref bs), (1, .ref (q 0)), (2, .ref (qm 0)), (3, .ref oa), (4, .ref ob), (5, .int (nI i))]) [2, 3, 4, 5, 6, 7] rfl ?_
        refine j_cs (k' := k + 8) (n' := n + 256) (by omega) (by omega) ?_
        refine j_w (w' := mW cA qm un ui ul ua 2 ++ (((cF cA q un ui ul ua vc ex wo tp tf kf ++ va_pl L f) ++ [(oa, .inl (cA 4, 1, .inr (.inl g)))]) ++ [(ob, .inl (cA 5, 1, .inr (.inr (.inr (.inl gd)))))])) rfl ?_
        exact hN un ui ul ua vc ex wo tp tf kf L f ta ga ka 2 g gd hI hPL
    · cases he
      have hr9 : r = 3 := by rcases hd9 with ⟨h8, h7⟩ | ⟨h8, h7⟩ | ⟨h8, h7⟩ <;> first | exact h7 | exact absurd h8 (by decide)
      subst hw9
      subst hb9
      subst hr9
      have hcf : cfSap (un 0) (ua 0) (xs (i + 1)) (un 1) (xs (i + 2)) = 3 := hc
      refine j_w (w' := mW cA qm un ui ul ua co ++ (((cF cA q un ui ul ua vc ex wo tp tf kf ++ va_pl L f) ++ [(oa, .inl (cA 4, 1, .inr (.inl g)))]) ++ [(ob, .inl (cA 5, 1, .inr (.inr (.inr (.inl gd)))))])) (List.append_assoc _ _ _) ?_
      refine j_istore (lv' := [(6, .int 3), (0, .ref bs), (1, .ref (q 0)), (2, .ref (qm 0)), (3, .ref oa), (4, .ref ob), (5, .int (nI i))]) G dL_law_1011 (by decide) rfl ?_
      refine j_aload_n G dL_law_1013 rfl 3 rfl ?_
      refine j_aload_n G dL_law_1014 rfl 1 rfl ?_
      refine j_iload G dL_law_1015 6 rfl ?_
      refine j_iconst (v := 1) G dL_law_1017 (by decide) ?_
      refine j_iadd G dL_law_1018 ?_
      refine j_rwi (nI_add i 1) ?_
      refine j_sldN (j := i + 1) G hX hbl hbA (by omega) (by omega) dL_law_1019 ?_
      refine j_aload_n G dL_law_1020 rfl 1 rfl ?_
      refine j_iload G dL_law_1021 6 rfl ?_
      refine j_iconst (v := 2) G dL_law_1023 (by decide) ?_
      refine j_iadd G dL_law_1024 ?_
      refine j_rwi (nI_add i 2) ?_
      refine j_sldN (j := i + 2) G hX hbl hbA (by omega) (by omega) dL_law_1025 ?_
      refine jV_i G 7 0 (fw_i (cM_sapOf l D cA qm un ui ul ua co (xs (i + 1)) (xs (i + 2)) hI.1.2.1 hI.1.2.2.1) [] (((cF cA q un ui ul ua vc ex wo tp tf kf ++ va_pl L f) ++ [(oa, .inl (cA 4, 1, .inr (.inl g)))]) ++ [(ob, .inl (cA 5, 1, .inr (.inr (.inr (.inl gd)))))]) rfl) gL_170 hd_X7_sapOf ⟨Nat.le_of_ble_eq_true rfl, Nat.le_of_ble_eq_true rfl⟩ ⟨by show _ ≤ 603072; omega, by show _ ≤ 7211114; omega⟩ rfl rfl (Nat.le_of_ble_eq_true rfl) rfl rfl dL_law_1026 (fun r w9 hq9 => ?_)
      obtain ⟨b1, hq8, hw9⟩ := hq9
      rcases hq8 with ⟨hc9, hr9, hb9⟩ | ⟨hc9, hb9⟩
      · exact absurd (hcf.symm.trans hc9) (by decide)
      · rw [hcf] at hb9
        subst hw9
        subst hb9
        refine j_w (w' := mW cA qm un ui ul ua 3 ++ (((cF cA q un ui ul ua vc ex wo tp tf kf ++ va_pl L f) ++ [(oa, .inl (cA 4, 1, .inr (.inl g)))]) ++ [(ob, .inl (cA 5, 1, .inr (.inr (.inr (.inl gd)))))])) rfl ?_
        refine j_istore (lv' := [(7, .int r), (6, .int 3), (0, .ref bs), (1, .ref (q 0)), (2, .ref (qm 0)), (3, .ref oa), (4, .ref ob), (5, .int (nI i))]) G dL_law_1029 (by decide) rfl ?_
        refine j_aload_n G dL_law_1031 rfl 4 rfl ?_
        refine jV_i G 7 0 (fw_i (cM_thrown l D cA qm un ui ul ua 3  ) [] (((cF cA q un ui ul ua vc ex wo tp tf kf ++ va_pl L f) ++ [(oa, .inl (cA 4, 1, .inr (.inl g)))]) ++ [(ob, .inl (cA 5, 1, .inr (.inr (.inr (.inl gd)))))]) rfl) gL_122 hd_X7_thrown ⟨Nat.le_of_ble_eq_true rfl, Nat.le_of_ble_eq_true rfl⟩ ⟨by show _ ≤ 603072; omega, by show _ ≤ 7211114; omega⟩ rfl rfl (Nat.le_of_ble_eq_true rfl) rfl rfl dL_law_1032 (fun r w9 hq9 => ?_)
        obtain ⟨b1, hq8, hw9⟩ := hq9
        obtain ⟨hr9, hb9⟩ := hq8
        subst hw9
        subst hb9
        subst hr9
        refine j_w (w' := mW cA qm un ui ul ua 3 ++ (((cF cA q un ui ul ua vc ex wo tp tf kf ++ va_pl L f) ++ [(oa, .inl (cA 4, 1, .inr (.inl g)))]) ++ [(ob, .inl (cA 5, 1, .inr (.inr (.inr (.inl gd)))))])) rfl ?_
        refine j_iload G dL_law_1035 1 rfl ?_
        refine j_icmp_eq (tgt := 1042) G dL_law_1037 (by decide) (fun c1037 => ?_) (fun c1037 => absurd rfl c1037)
        refine j_iload G dL_law_1042 1 rfl ?_
        refine j_if_ne (tgt := 1059) G dL_law_1044 (by decide) (fun _ => ?_) (fun c1044 => absurd c1044 (by decide))
        refine j_goto (tgt := 2045) G dL_law_1059 (by decide) ?_
        refine j_sub (lv' := [(0, .ref bs), (1, .ref (q 0)), (2, .ref (qm 0)), (3, .ref oa), (4, .ref ob), (5, .int (nI i))]) [2, 3, 4, 5, 6, 7] rfl ?_
        refine j_cs (k' := k + 8) (n' := n + 256) (by omega) (by omega) ?_
        refine j_w (w' := mW cA qm un ui ul ua 3 ++ (((cF cA q un ui ul ua vc ex wo tp tf kf ++ va_pl L f) ++ [(oa, .inl (cA 4, 1, .inr (.inl g)))]) ++ [(ob, .inl (cA 5, 1, .inr (.inr (.inr (.inl gd)))))])) rfl ?_
        exact hN un ui ul ua vc ex wo tp tf kf L f ta ga ka 3 g gd hI hPL
set_option maxHeartbeats 4000000 in
set_option maxRecDepth 100000 in
theorem lw_totalOf {p : Program} {l : Launch} {e : Env} {s : State} {m : MethodId} {args : Array Value} {below : List Frame} {meth : Method} {c : Code} {D : va_G} {cA : Nat → ClassId} {A : Nat → Prop} {Q : State → Prop} {k n : Nat} (G : GX p s m args c cL_law 9 RL D cA A) (hfl : l.stackTraces = false) {bs Ls : Nat} {xs : Nat → Int32} (hX : va_X bs Ls xs s s.heap) (hbl : bs < s.heap.size) (hbA : ¬ A bs) (hLs : Ls ≤ 3072) {i : Nat} (hi : i + 5 < Ls) (hk : k + 8 ≤ 603072) (hn9 : n + 256 ≤ 7211114) (q qm : Nat → Nat) (un : Nat → Nat) (ui : Nat → Int32) (ul : Nat → Int64) (ua : Nat → Nat → Int32) (vc ex wo tp : Nat → Int32) (tf kf : Nat → Option Nat) (L : List Nat) (f : Nat → va_E) (ta ga ka : Nat → Nat) (co : Int32) (oa ob : Nat) (g : Nat → Int64) (gd : Nat → UInt64) (hI : INV un ui ua) (hPL : PL cA un ua L f tf kf ta ga ka) (hN : ∀ (un : Nat → Nat) (ui : Nat → Int32) (ul : Nat → Int64) (ua : Nat → Nat → Int32) (vc ex wo tp : Nat → Int32) (tf kf : Nat → Option Nat) (L : List Nat) (f : Nat → va_E) (ta ga ka : Nat → Nat) (co : Int32) (g : Nat → Int64) (gd : Nat → UInt64), INV un ui ua → PL cA un ua L f tf kf ta ga ka → J p l e (RM 2048 94400 603072 7211114) s m args below meth c 9 D A (mW cA qm un ui ul ua co ++ (((cF cA q un ui ul ua vc ex wo tp tf kf ++ va_pl L f) ++ [(oa, .inl (cA 4, 1, .inr (.inl g)))]) ++ [(ob, .inl (cA 5, 1, .inr (.inr (.inr (.inl gd)))))])) (k + 8) (n + 256) Q 2045 [(0, .ref bs), (1, .ref (q 0)), (2, .ref (qm 0)), (3, .ref oa), (4, .ref ob), (5, .int (nI i))] []) : J p l e (RM 2048 94400 603072 7211114) s m args below meth c 9 D A (mW cA qm un ui ul ua co ++ (((cF cA q un ui ul ua vc ex wo tp tf kf ++ va_pl L f) ++ [(oa, .inl (cA 4, 1, .inr (.inl g)))]) ++ [(ob, .inl (cA 5, 1, .inr (.inr (.inr (.inl gd)))))])) k n Q 1062 [(0, .ref bs), (1, .ref (q 0)), (2, .ref (qm 0)), (3, .ref oa), (4, .ref ob), (5, .int (nI i))] [] := by
  refine j_aload_n G dL_law_1062 rfl 1 rfl ?_
  refine j_aload_n G dL_law_1063 rfl 0 rfl ?_
  refine j_iload G dL_law_1064 5 rfl ?_
  refine j_iconst (v := 1) G dL_law_1066 (by decide) ?_
  refine j_iadd G dL_law_1067 ?_
  refine j_rwi (nI_add i 1) ?_
  refine j_sldN (j := i + 1) G hX hbl hbA (by omega) (by omega) dL_law_1068 ?_
  refine j_aload_n G dL_law_1069 rfl 3 rfl ?_
  refine jSW_i G (fw_W (cW_totalOf l D cA (b0 := cF cA q un ui ul ua vc ex wo tp tf kf ++ va_pl L f) rfl (xs (i + 1)) g (cC_X6_totalOf l D cA hfl q un ui ul ua vc ex wo tp tf kf L f ta ga ka (xs (i + 1)) hI.1.2.1 hPL) (fun E8 b8 h8 => h8.elim (fun h8 => Or.inl (congrArg Prod.fst h8.2)) (fun h8 => Or.inr ((congrArg Prod.fst h8.2))))) (mW cA qm un ui ul ua co) [(ob, .inl (cA 5, 1, .inr (.inr (.inr (.inl gd)))))] (List.append_assoc _ _ _).symm) (gw_totalOf wd_702) hd_L_totalOf.2 ⟨Nat.le_of_ble_eq_true rfl, Nat.le_of_ble_eq_true rfl⟩ ⟨by show _ ≤ 603072; omega, by show _ ≤ 7211114; omega⟩ rfl rfl (Nat.le_of_ble_eq_true rfl) dL_law_1070 (fun r w9 hq9 => ?_)
  obtain ⟨b1, hq8, hw9⟩ := hq9
  rcases hq8 with ⟨v9, b2, hp9, hr9, hb9⟩ | ⟨E9, b2, hp9, hd9, hb9⟩
  · obtain ⟨hok, hv9, hb8⟩ := hp9
    subst hw9
    subst hb9
    subst hr9
    subst hb8
    subst hv9
    have hcf : cfTap (un 0) (ua 0) (xs (i + 1)) = 0 := hok
    refine j_w (w' := mW cA qm un ui ul ua co ++ (((cF cA q un ui ul ua vc ex wo tp tf kf ++ va_pl L f) ++ [(oa, .inl (cA 4, 1, .inr (.inl (vp_updL g 0 (totS (ua 8) (xs (i + 1)).toNatClampNeg (un 1)).toInt64))))]) ++ [(ob, .inl (cA 5, 1, .inr (.inr (.inr (.inl gd)))))])) (List.append_assoc _ _ _) ?_
    refine j_istore (lv' := [(6, .int 0), (0, .ref bs), (1, .ref (q 0)), (2, .ref (qm 0)), (3, .ref oa), (4, .ref ob), (5, .int (nI i))]) G dL_law_1073 (by decide) rfl ?_
    refine j_aload_n G dL_law_1075 rfl 3 rfl ?_
    refine j_aload_n G dL_law_1076 rfl 1 rfl ?_
    refine j_iload G dL_law_1077 6 rfl ?_
    refine j_iconst (v := 1) G dL_law_1079 (by decide) ?_
    refine j_iadd G dL_law_1080 ?_
    refine j_rwi (nI_add i 1) ?_
    refine j_sldN (j := i + 1) G hX hbl hbA (by omega) (by omega) dL_law_1081 ?_
    refine jV_i G 7 0 (fw_i (cM_totalOf l D cA qm un ui ul ua co (xs (i + 1)) hI.1.2.1 hI.1.2.2.1) [] (((cF cA q un ui ul ua vc ex wo tp tf kf ++ va_pl L f) ++ [(oa, .inl (cA 4, 1, .inr (.inl (vp_updL g 0 (totS (ua 8) (xs (i + 1)).toNatClampNeg (un 1)).toInt64))))]) ++ [(ob, .inl (cA 5, 1, .inr (.inr (.inr (.inl gd)))))]) rfl) gL_173 hd_X7_totalOf ⟨Nat.le_of_ble_eq_true rfl, Nat.le_of_ble_eq_true rfl⟩ ⟨by show _ ≤ 603072; omega, by show _ ≤ 7211114; omega⟩ rfl rfl (Nat.le_of_ble_eq_true rfl) rfl rfl dL_law_1082 (fun r w9 hq9 => ?_)
    obtain ⟨b1, hq8, hw9⟩ := hq9
    rcases hq8 with ⟨hc9, hr9, hb9⟩ | ⟨hc9, hb9⟩
    · subst hw9
      subst hb9
      subst hr9
      refine j_w (w' := mW cA qm un ui ul ua 0 ++ (((cF cA q un ui ul ua vc ex wo tp tf kf ++ va_pl L f) ++ [(oa, .inl (cA 4, 1, .inr (.inl (vp_updL g 0 (totS (ua 8) (xs (i + 1)).toNatClampNeg (un 1)).toInt64))))]) ++ [(ob, .inl (cA 5, 1, .inr (.inr (.inr (.inl gd)))))])) rfl ?_
      refine j_istore (lv' := [(7, .int (totS (ua 8) (xs (i + 1)).toNatClampNeg (un 1))), (6, .int 0), (0, .ref bs), (1, .ref (q 0)), (2, .ref (qm 0)), (3, .ref oa), (4, .ref ob), (5, .int (nI i))]) G dL_law_1085 (by decide) rfl ?_
      refine j_aload_n G dL_law_1087 rfl 4 rfl ?_
      refine jV_i G 7 0 (fw_i (cM_thrown l D cA qm un ui ul ua 0  ) [] (((cF cA q un ui ul ua vc ex wo tp tf kf ++ va_pl L f) ++ [(oa, .inl (cA 4, 1, .inr (.inl (vp_updL g 0 (totS (ua 8) (xs (i + 1)).toNatClampNeg (un 1)).toInt64))))]) ++ [(ob, .inl (cA 5, 1, .inr (.inr (.inr (.inl gd)))))]) rfl) gL_122 hd_X7_thrown ⟨Nat.le_of_ble_eq_true rfl, Nat.le_of_ble_eq_true rfl⟩ ⟨by show _ ≤ 603072; omega, by show _ ≤ 7211114; omega⟩ rfl rfl (Nat.le_of_ble_eq_true rfl) rfl rfl dL_law_1088 (fun r w9 hq9 => ?_)
      obtain ⟨b1, hq8, hw9⟩ := hq9
      obtain ⟨hr9, hb9⟩ := hq8
      subst hw9
      subst hb9
      subst hr9
      refine j_w (w' := mW cA qm un ui ul ua 0 ++ (((cF cA q un ui ul ua vc ex wo tp tf kf ++ va_pl L f) ++ [(oa, .inl (cA 4, 1, .inr (.inl (vp_updL g 0 (totS (ua 8) (xs (i + 1)).toNatClampNeg (un 1)).toInt64))))]) ++ [(ob, .inl (cA 5, 1, .inr (.inr (.inr (.inl gd)))))])) rfl ?_
      refine j_iload G dL_law_1091 1 rfl ?_
      refine j_icmp_eq (tgt := 1098) G dL_law_1093 (by decide) (fun c1093 => ?_) (fun c1093 => absurd rfl c1093)
      refine j_iload G dL_law_1098 1 rfl ?_
      refine j_if_ne (tgt := 1115) G dL_law_1100 (by decide) (fun c1100 => absurd c1100 (by decide)) (fun _ => ?_)
      refine j_aload_n G dL_law_1103 rfl 5 rfl ?_
      refine j_iconst (v := 0) G dL_law_1104 (by decide) ?_
      refine j_lald G _ wq_o (show vp_in (nI 0) 1 from vp_in_nI (by decide) (by decide)) dL_law_1105 ?_
      refine j_rwl (show _ = (totS (ua 8) (xs (i + 1)).toNatClampNeg (un 1)).toInt64 from rfl) ?_
      refine j_iload G dL_law_1106 0 rfl ?_
      refine j_i2l G dL_law_1108 ?_
      refine j_lcmp G dL_law_1109 ?_
      refine j_if_eq (tgt := 1115) G dL_law_1110 (by decide) (fun c1110 => ?_) (fun c1110 => absurd (lgz.mpr rfl) c1110)
      refine j_goto (tgt := 2045) G dL_law_1115 (by decide) ?_
      refine j_sub (lv' := [(0, .ref bs), (1, .ref (q 0)), (2, .ref (qm 0)), (3, .ref oa), (4, .ref ob), (5, .int (nI i))]) [2, 3, 4, 5, 6, 7] rfl ?_
      refine j_cs (k' := k + 8) (n' := n + 256) (by omega) (by omega) ?_
      refine j_w (w' := mW cA qm un ui ul ua 0 ++ (((cF cA q un ui ul ua vc ex wo tp tf kf ++ va_pl L f) ++ [(oa, .inl (cA 4, 1, .inr (.inl (vp_updL g 0 (totS (ua 8) (xs (i + 1)).toNatClampNeg (un 1)).toInt64))))]) ++ [(ob, .inl (cA 5, 1, .inr (.inr (.inr (.inl gd)))))])) rfl ?_
      exact hN un ui ul ua vc ex wo tp tf kf L f ta ga ka 0 (vp_updL g 0 (totS (ua 8) (xs (i + 1)).toNatClampNeg (un 1)).toInt64) gd hI hPL
    · exact absurd hcf hc9
  · rcases hp9 with ⟨hc, he⟩ | ⟨hc, he⟩
    · cases he
      have hr9 : r = 1 := by rcases hd9 with ⟨h8, h7⟩ | ⟨h8, h7⟩ <;> first | exact h7 | exact absurd h8 (by decide)
      subst hw9
      subst hb9
      subst hr9
      have hcf : cfTap (un 0) (ua 0) (xs (i + 1)) = 1 := hc
      refine j_w (w' := mW cA qm un ui ul ua co ++ (((cF cA q un ui ul ua vc ex wo tp tf kf ++ va_pl L f) ++ [(oa, .inl (cA 4, 1, .inr (.inl g)))]) ++ [(ob, .inl (cA 5, 1, .inr (.inr (.inr (.inl gd)))))])) (List.append_assoc _ _ _) ?_
      refine j_istore (lv' := [(6, .int 1), (0, .ref bs), (1, .ref (q 0)), (2, .ref (qm 0)), (3, .ref oa), (4, .ref ob), (5, .int (nI i))]) G dL_law_1073 (by decide) rfl ?_
      refine j_aload_n G dL_law_1075 rfl 3 rfl ?_
      refine j_aload_n G dL_law_1076 rfl 1 rfl ?_
      refine j_iload G dL_law_1077 6 rfl ?_
      refine j_iconst (v := 1) G dL_law_1079 (by decide) ?_
      refine j_iadd G dL_law_1080 ?_
      refine j_rwi (nI_add i 1) ?_
      refine j_sldN (j := i + 1) G hX hbl hbA (by omega) (by omega) dL_law_1081 ?_
      refine jV_i G 7 0 (fw_i (cM_totalOf l D cA qm un ui ul ua co (xs (i + 1)) hI.1.2.1 hI.1.2.2.1) [] (((cF cA q un ui ul ua vc ex wo tp tf kf ++ va_pl L f) ++ [(oa, .inl (cA 4, 1, .inr (.inl g)))]) ++ [(ob, .inl (cA 5, 1, .inr (.inr (.inr (.inl gd)))))]) rfl) gL_173 hd_X7_totalOf ⟨Nat.le_of_ble_eq_true rfl, Nat.le_of_ble_eq_true rfl⟩ ⟨by show _ ≤ 603072; omega, by show _ ≤ 7211114; omega⟩ rfl rfl (Nat.le_of_ble_eq_true rfl) rfl rfl dL_law_1082 (fun r w9 hq9 => ?_)
      obtain ⟨b1, hq8, hw9⟩ := hq9
      rcases hq8 with ⟨hc9, hr9, hb9⟩ | ⟨hc9, hb9⟩
      · exact absurd (hcf.symm.trans hc9) (by decide)
      · rw [hcf] at hb9
        subst hw9
        subst hb9
        refine j_w (w' := mW cA qm un ui ul ua 1 ++ (((cF cA q un ui ul ua vc ex wo tp tf kf ++ va_pl L f) ++ [(oa, .inl (cA 4, 1, .inr (.inl g)))]) ++ [(ob, .inl (cA 5, 1, .inr (.inr (.inr (.inl gd)))))])) rfl ?_
        refine j_istore (lv' := [(7, .int r), (6, .int 1), (0, .ref bs), (1, .ref (q 0)), (2, .ref (qm 0)), (3, .ref oa), (4, .ref ob), (5, .int (nI i))]) G dL_law_1085 (by decide) rfl ?_
        refine j_aload_n G dL_law_1087 rfl 4 rfl ?_
        refine jV_i G 7 0 (fw_i (cM_thrown l D cA qm un ui ul ua 1  ) [] (((cF cA q un ui ul ua vc ex wo tp tf kf ++ va_pl L f) ++ [(oa, .inl (cA 4, 1, .inr (.inl g)))]) ++ [(ob, .inl (cA 5, 1, .inr (.inr (.inr (.inl gd)))))]) rfl) gL_122 hd_X7_thrown ⟨Nat.le_of_ble_eq_true rfl, Nat.le_of_ble_eq_true rfl⟩ ⟨by show _ ≤ 603072; omega, by show _ ≤ 7211114; omega⟩ rfl rfl (Nat.le_of_ble_eq_true rfl) rfl rfl dL_law_1088 (fun r w9 hq9 => ?_)
        obtain ⟨b1, hq8, hw9⟩ := hq9
        obtain ⟨hr9, hb9⟩ := hq8
        subst hw9
        subst hb9
        subst hr9
        refine j_w (w' := mW cA qm un ui ul ua 1 ++ (((cF cA q un ui ul ua vc ex wo tp tf kf ++ va_pl L f) ++ [(oa, .inl (cA 4, 1, .inr (.inl g)))]) ++ [(ob, .inl (cA 5, 1, .inr (.inr (.inr (.inl gd)))))])) rfl ?_
        refine j_iload G dL_law_1091 1 rfl ?_
        refine j_icmp_eq (tgt := 1098) G dL_law_1093 (by decide) (fun c1093 => ?_) (fun c1093 => absurd rfl c1093)
        refine j_iload G dL_law_1098 1 rfl ?_
        refine j_if_ne (tgt := 1115) G dL_law_1100 (by decide) (fun _ => ?_) (fun c1100 => absurd c1100 (by decide))
        refine j_goto (tgt := 2045) G dL_law_1115 (by decide) ?_
        refine j_sub (lv' := [(0, .ref bs), (1, .ref (q 0)), (2, .ref (qm 0)), (3, .ref oa), (4, .ref ob), (5, .int (nI i))]) [2, 3, 4, 5, 6, 7] rfl ?_
        refine j_cs (k' := k + 8) (n' := n + 256) (by omega) (by omega) ?_
        refine j_w (w' := mW cA qm un ui ul ua 1 ++ (((cF cA q un ui ul ua vc ex wo tp tf kf ++ va_pl L f) ++ [(oa, .inl (cA 4, 1, .inr (.inl g)))]) ++ [(ob, .inl (cA 5, 1, .inr (.inr (.inr (.inl gd)))))])) rfl ?_
        exact hN un ui ul ua vc ex wo tp tf kf L f ta ga ka 1 g gd hI hPL
    · cases he
      have hr9 : r = 2 := by rcases hd9 with ⟨h8, h7⟩ | ⟨h8, h7⟩ <;> first | exact h7 | exact absurd h8 (by decide)
      subst hw9
      subst hb9
      subst hr9
      have hcf : cfTap (un 0) (ua 0) (xs (i + 1)) = 2 := hc
      refine j_w (w' := mW cA qm un ui ul ua co ++ (((cF cA q un ui ul ua vc ex wo tp tf kf ++ va_pl L f) ++ [(oa, .inl (cA 4, 1, .inr (.inl g)))]) ++ [(ob, .inl (cA 5, 1, .inr (.inr (.inr (.inl gd)))))])) (List.append_assoc _ _ _) ?_
      refine j_istore (lv' := [(6, .int 2), (0, .ref bs), (1, .ref (q 0)), (2, .ref (qm 0)), (3, .ref oa), (4, .ref ob), (5, .int (nI i))]) G dL_law_1073 (by decide) rfl ?_
      refine j_aload_n G dL_law_1075 rfl 3 rfl ?_
      refine j_aload_n G dL_law_1076 rfl 1 rfl ?_
      refine j_iload G dL_law_1077 6 rfl ?_
      refine j_iconst (v := 1) G dL_law_1079 (by decide) ?_
      refine j_iadd G dL_law_1080 ?_
      refine j_rwi (nI_add i 1) ?_
      refine j_sldN (j := i + 1) G hX hbl hbA (by omega) (by omega) dL_law_1081 ?_
      refine jV_i G 7 0 (fw_i (cM_totalOf l D cA qm un ui ul ua co (xs (i + 1)) hI.1.2.1 hI.1.2.2.1) [] (((cF cA q un ui ul ua vc ex wo tp tf kf ++ va_pl L f) ++ [(oa, .inl (cA 4, 1, .inr (.inl g)))]) ++ [(ob, .inl (cA 5, 1, .inr (.inr (.inr (.inl gd)))))]) rfl) gL_173 hd_X7_totalOf ⟨Nat.le_of_ble_eq_true rfl, Nat.le_of_ble_eq_true rfl⟩ ⟨by show _ ≤ 603072; omega, by show _ ≤ 7211114; omega⟩ rfl rfl (Nat.le_of_ble_eq_true rfl) rfl rfl dL_law_1082 (fun r w9 hq9 => ?_)
      obtain ⟨b1, hq8, hw9⟩ := hq9
      rcases hq8 with ⟨hc9, hr9, hb9⟩ | ⟨hc9, hb9⟩
      · exact absurd (hcf.symm.trans hc9) (by decide)
      · rw [hcf] at hb9
        subst hw9
        subst hb9
        refine j_w (w' := mW cA qm un ui ul ua 2 ++ (((cF cA q un ui ul ua vc ex wo tp tf kf ++ va_pl L f) ++ [(oa, .inl (cA 4, 1, .inr (.inl g)))]) ++ [(ob, .inl (cA 5, 1, .inr (.inr (.inr (.inl gd)))))])) rfl ?_
        refine j_istore (lv' := [(7, .int r), (6, .int 2), (0, .ref bs), (1, .ref (q 0)), (2, .ref (qm 0)), (3, .ref oa), (4, .ref ob), (5, .int (nI i))]) G dL_law_1085 (by decide) rfl ?_
        refine j_aload_n G dL_law_1087 rfl 4 rfl ?_
        refine jV_i G 7 0 (fw_i (cM_thrown l D cA qm un ui ul ua 2  ) [] (((cF cA q un ui ul ua vc ex wo tp tf kf ++ va_pl L f) ++ [(oa, .inl (cA 4, 1, .inr (.inl g)))]) ++ [(ob, .inl (cA 5, 1, .inr (.inr (.inr (.inl gd)))))]) rfl) gL_122 hd_X7_thrown ⟨Nat.le_of_ble_eq_true rfl, Nat.le_of_ble_eq_true rfl⟩ ⟨by show _ ≤ 603072; omega, by show _ ≤ 7211114; omega⟩ rfl rfl (Nat.le_of_ble_eq_true rfl) rfl rfl dL_law_1088 (fun r w9 hq9 => ?_)
        obtain ⟨b1, hq8, hw9⟩ := hq9
        obtain ⟨hr9, hb9⟩ := hq8
        subst hw9
        subst hb9
        subst hr9
        refine j_w (w' := mW cA qm un ui ul ua 2 ++ (((cF cA q un ui ul ua vc ex wo tp tf kf ++ va_pl L f) ++ [(oa, .inl (cA 4, 1, .inr (.inl g)))]) ++ [(ob, .inl (cA 5, 1, .inr (.inr (.inr (.inl gd)))))])) rfl ?_
        refine j_iload G dL_law_1091 1 rfl ?_
        refine j_icmp_eq (tgt := 1098) G dL_law_1093 (by decide) (fun c1093 => ?_) (fun c1093 => absurd rfl c1093)
        refine j_iload G dL_law_1098 1 rfl ?_
        refine j_if_ne (tgt := 1115) G dL_law_1100 (by decide) (fun _ => ?_) (fun c1100 => absurd c1100 (by decide))
        refine j_goto (tgt := 2045) G dL_law_1115 (by decide) ?_
        refine j_sub (lv' := [(0, .ref bs), (1, .ref (q 0)), (2, .ref (qm 0)), (3, .ref oa), (4, .ref ob), (5, .int (nI i))]) [2, 3, 4, 5, 6, 7] rfl ?_
        refine j_cs (k' := k + 8) (n' := n + 256) (by omega) (by omega) ?_
        refine j_w (w' := mW cA qm un ui ul ua 2 ++ (((cF cA q un ui ul ua vc ex wo tp tf kf ++ va_pl L f) ++ [(oa, .inl (cA 4, 1, .inr (.inl g)))]) ++ [(ob, .inl (cA 5, 1, .inr (.inr (.inr (.inl gd)))))])) rfl ?_
        exact hN un ui ul ua vc ex wo tp tf kf L f ta ga ka 2 g gd hI hPL
