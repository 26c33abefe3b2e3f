/-! THE LAW, case by case, on (printed by gen_law.py) -/
set_option maxHeartbeats 4000000 in
set_option maxRecDepth 100000 in
theorem lw_panSugar {p : Program} {l : Launch} {e : Env} {s : State} {m : MethodId} {args : Array Value} {below : List Frame} {meth : Method} {c : Code} {D : va_G} {cA : Nat → ClassId} {A : Nat → Prop} {Q : State → Prop} {k n : Nat} (G : GX p s m args c cL_law 9 RL D cA A) (hfl : l.stackTraces = false) {bs Ls : Nat} {xs : Nat → Int32} (hX : va_X bs Ls xs s s.heap) (hbl : bs < s.heap.size) (hbA : ¬ A bs) (hLs : Ls ≤ 3072) {i : Nat} (hi : i + 5 < Ls) (hk : k + 8 ≤ 603072) (hn9 : n + 256 ≤ 7211114) (q qm : Nat → Nat) (un : Nat → Nat) (ui : Nat → Int32) (ul : Nat → Int64) (ua : Nat → Nat → Int32) (vc ex wo tp : Nat → Int32) (tf kf : Nat → Option Nat) (L : List Nat) (f : Nat → va_E) (ta ga ka : Nat → Nat) (co : Int32) (oa ob : Nat) (g : Nat → Int64) (gd : Nat → UInt64) (hI : INV un ui ua) (hPL : PL cA un ua L f tf kf ta ga ka) (hN : ∀ (un : Nat → Nat) (ui : Nat → Int32) (ul : Nat → Int64) (ua : Nat → Nat → Int32) (vc ex wo tp : Nat → Int32) (tf kf : Nat → Option Nat) (L : List Nat) (f : Nat → va_E) (ta ga ka : Nat → Nat) (co : Int32) (g : Nat → Int64) (gd : Nat → UInt64), INV un ui ua → PL cA un ua L f tf kf ta ga ka → J p l e (RM 2048 94400 603072 7211114) s m args below meth c 9 D A (mW cA qm un ui ul ua co ++ (((cF cA q un ui ul ua vc ex wo tp tf kf ++ va_pl L f) ++ [(oa, .inl (cA 4, 1, .inr (.inl g)))]) ++ [(ob, .inl (cA 5, 1, .inr (.inr (.inr (.inl gd)))))])) (k + 8) (n + 256) Q 2045 [(0, .ref bs), (1, .ref (q 0)), (2, .ref (qm 0)), (3, .ref oa), (4, .ref ob), (5, .int (nI i))] []) : J p l e (RM 2048 94400 603072 7211114) s m args below meth c 9 D A (mW cA qm un ui ul ua co ++ (((cF cA q un ui ul ua vc ex wo tp tf kf ++ va_pl L f) ++ [(oa, .inl (cA 4, 1, .inr (.inl g)))]) ++ [(ob, .inl (cA 5, 1, .inr (.inr (.inr (.inl gd)))))])) k n Q 1535 [(0, .ref bs), (1, .ref (q 0)), (2, .ref (qm 0)), (3, .ref oa), (4, .ref ob), (5, .int (nI i))] [] := by
  refine j_aload_n G dL_law_1535 rfl 1 rfl ?_
  refine jV_i G 6 16 (fw_i (cC_X6_panSugar l D cA q un ui ul ua vc ex wo tp tf kf L f ) (mW cA qm un ui ul ua co) ([(oa, .inl (cA 4, 1, .inr (.inl g)))] ++ [(ob, .inl (cA 5, 1, .inr (.inr (.inr (.inl gd)))))]) (by simp only [List.append_assoc])) gL_199 hd_X6_panSugar ⟨Nat.le_of_ble_eq_true rfl, Nat.le_of_ble_eq_true rfl⟩ ⟨by show _ ≤ 603072; omega, by show _ ≤ 7211114; omega⟩ rfl rfl (Nat.le_of_ble_eq_true rfl) rfl rfl dL_law_1536 (fun r w9 hq9 => ?_)
  obtain ⟨b1, ⟨hr9, hb9⟩, hw9⟩ := hq9
  subst hw9
  subst hb9
  subst hr9
  refine j_w (w' := mW cA qm un ui ul ua co ++ (((cF cA q un ui ul ua vc ex wo tp tf kf ++ va_pl L f) ++ [(oa, .inl (cA 4, 1, .inr (.inl g)))]) ++ [(ob, .inl (cA 5, 1, .inr (.inr (.inr (.inl gd)))))])) (by simp only [List.append_assoc]) ?_
  refine j_aload_n G dL_law_1539 rfl 2 rfl ?_
  refine jV_i G 7 0 (fw_i (cM_panSugar l D cA qm un ui ul ua co  ) [] (((cF cA q un ui ul ua vc ex wo tp tf kf ++ va_pl L f) ++ [(oa, .inl (cA 4, 1, .inr (.inl g)))]) ++ [(ob, .inl (cA 5, 1, .inr (.inr (.inr (.inl gd)))))]) rfl) gL_202 hd_X7_panSugar ⟨Nat.le_of_ble_eq_true rfl, Nat.le_of_ble_eq_true rfl⟩ ⟨by show _ ≤ 603072; omega, by show _ ≤ 7211114; omega⟩ rfl rfl (Nat.le_of_ble_eq_true rfl) rfl rfl dL_law_1540 (fun r w9 hq9 => ?_)
  obtain ⟨b1, hq8, hw9⟩ := hq9
  obtain ⟨hr9, hb9⟩ := hq8
  subst hw9
  subst hb9
  subst hr9
  refine j_w (w' := mW cA qm un ui ul ua 0 ++ (((cF cA q un ui ul ua vc ex wo tp tf kf ++ va_pl L f) ++ [(oa, .inl (cA 4, 1, .inr (.inl g)))]) ++ [(ob, .inl (cA 5, 1, .inr (.inr (.inr (.inl gd)))))])) rfl ?_
  refine j_icmp_eq (tgt := 2045) G dL_law_1543 (by decide) (fun c1543 => ?_) (fun c1543 => absurd rfl c1543)
  refine j_sub (lv' := [(0, .ref bs), (1, .ref (q 0)), (2, .ref (qm 0)), (3, .ref oa), (4, .ref ob), (5, .int (nI i))]) [0, 1, 2, 3, 4, 5] rfl ?_
  refine j_cs (k' := k + 8) (n' := n + 256) (by omega) (by omega) ?_
  refine j_w (w' := mW cA qm un ui ul ua 0 ++ (((cF cA q un ui ul ua vc ex wo tp tf kf ++ va_pl L f) ++ [(oa, .inl (cA 4, 1, .inr (.inl g)))]) ++ [(ob, .inl (cA 5, 1, .inr (.inr (.inr (.inl gd)))))])) rfl ?_
  exact hN un ui ul ua vc ex wo tp tf kf L f ta ga ka 0 g gd hI hPL
set_option maxHeartbeats 4000000 in
set_option maxRecDepth 100000 in
theorem lw_isReady {p : Program} {l : Launch} {e : Env} {s : State} {m : MethodId} {args : Array Value} {below : List Frame} {meth : Method} {c : Code} {D : va_G} {cA : Nat → ClassId} {A : Nat → Prop} {Q : State → Prop} {k n : Nat} (G : GX p s m args c cL_law 9 RL D cA A) (hfl : l.stackTraces = false) {bs Ls : Nat} {xs : Nat → Int32} (hX : va_X bs Ls xs s s.heap) (hbl : bs < s.heap.size) (hbA : ¬ A bs) (hLs : Ls ≤ 3072) {i : Nat} (hi : i + 5 < Ls) (hk : k + 8 ≤ 603072) (hn9 : n + 256 ≤ 7211114) (q qm : Nat → Nat) (un : Nat → Nat) (ui : Nat → Int32) (ul : Nat → Int64) (ua : Nat → Nat → Int32) (vc ex wo tp : Nat → Int32) (tf kf : Nat → Option Nat) (L : List Nat) (f : Nat → va_E) (ta ga ka : Nat → Nat) (co : Int32) (oa ob : Nat) (g : Nat → Int64) (gd : Nat → UInt64) (hI : INV un ui ua) (hPL : PL cA un ua L f tf kf ta ga ka) (hN : ∀ (un : Nat → Nat) (ui : Nat → Int32) (ul : Nat → Int64) (ua : Nat → Nat → Int32) (vc ex wo tp : Nat → Int32) (tf kf : Nat → Option Nat) (L : List Nat) (f : Nat → va_E) (ta ga ka : Nat → Nat) (co : Int32) (g : Nat → Int64) (gd : Nat → UInt64), INV un ui ua → PL cA un ua L f tf kf ta ga ka → J p l e (RM 2048 94400 603072 7211114) s m args below meth c 9 D A (mW cA qm un ui ul ua co ++ (((cF cA q un ui ul ua vc ex wo tp tf kf ++ va_pl L f) ++ [(oa, .inl (cA 4, 1, .inr (.inl g)))]) ++ [(ob, .inl (cA 5, 1, .inr (.inr (.inr (.inl gd)))))])) (k + 8) (n + 256) Q 2045 [(0, .ref bs), (1, .ref (q 0)), (2, .ref (qm 0)), (3, .ref oa), (4, .ref ob), (5, .int (nI i))] []) : J p l e (RM 2048 94400 603072 7211114) s m args below meth c 9 D A (mW cA qm un ui ul ua co ++ (((cF cA q un ui ul ua vc ex wo tp tf kf ++ va_pl L f) ++ [(oa, .inl (cA 4, 1, .inr (.inl g)))]) ++ [(ob, .inl (cA 5, 1, .inr (.inr (.inr (.inl gd)))))])) k n Q 1548 [(0, .ref bs), (1, .ref (q 0)), (2, .ref (qm 0)), (3, .ref oa), (4, .ref ob), (5, .int (nI i))] [] := by
  refine j_aload_n G dL_law_1548 rfl 1 rfl ?_
  refine jV_i G 6 16 (fw_i (cC_X6_isReady l D cA q un ui ul ua vc ex wo tp tf kf L f ) (mW cA qm un ui ul ua co) ([(oa, .inl (cA 4, 1, .inr (.inl g)))] ++ [(ob, .inl (cA 5, 1, .inr (.inr (.inr (.inl gd)))))]) (by simp only [List.append_assoc])) gL_203 hd_X6_isReady ⟨Nat.le_of_ble_eq_true rfl, Nat.le_of_ble_eq_true rfl⟩ ⟨by show _ ≤ 603072; omega, by show _ ≤ 7211114; omega⟩ rfl rfl (Nat.le_of_ble_eq_true rfl) rfl rfl dL_law_1549 (fun r w9 hq9 => ?_)
  obtain ⟨b1, ⟨hr9, hb9⟩, hw9⟩ := hq9
  subst hw9
  subst hb9
  subst hr9
  refine j_w (w' := mW cA qm un ui ul ua co ++ (((cF cA q un ui ul ua vc ex wo tp tf kf ++ va_pl L f) ++ [(oa, .inl (cA 4, 1, .inr (.inl g)))]) ++ [(ob, .inl (cA 5, 1, .inr (.inr (.inr (.inl gd)))))])) (by simp only [List.append_assoc]) ?_
  refine j_aload_n G dL_law_1552 rfl 2 rfl ?_
  refine jV_i G 7 0 (fw_i (cM_isReady l D cA qm un ui ul ua co  ) [] (((cF cA q un ui ul ua vc ex wo tp tf kf ++ va_pl L f) ++ [(oa, .inl (cA 4, 1, .inr (.inl g)))]) ++ [(ob, .inl (cA 5, 1, .inr (.inr (.inr (.inl gd)))))]) rfl) gL_207 hd_X7_isReady ⟨Nat.le_of_ble_eq_true rfl, Nat.le_of_ble_eq_true rfl⟩ ⟨by show _ ≤ 603072; omega, by show _ ≤ 7211114; omega⟩ rfl rfl (Nat.le_of_ble_eq_true rfl) rfl rfl dL_law_1553 (fun r w9 hq9 => ?_)
  obtain ⟨b1, hq8, hw9⟩ := hq9
  obtain ⟨hr9, hb9⟩ := hq8
  subst hw9
  subst hb9
  subst hr9
  refine j_w (w' := mW cA qm un ui ul ua 0 ++ (((cF cA q un ui ul ua vc ex wo tp tf kf ++ va_pl L f) ++ [(oa, .inl (cA 4, 1, .inr (.inl g)))]) ++ [(ob, .inl (cA 5, 1, .inr (.inr (.inr (.inl gd)))))])) rfl ?_
  refine j_icmp_eq (tgt := 2045) G dL_law_1556 (by decide) (fun c1556 => ?_) (fun c1556 => absurd rfl c1556)
  refine j_sub (lv' := [(0, .ref bs), (1, .ref (q 0)), (2, .ref (qm 0)), (3, .ref oa), (4, .ref ob), (5, .int (nI i))]) [0, 1, 2, 3, 4, 5] rfl ?_
  refine j_cs (k' := k + 8) (n' := n + 256) (by omega) (by omega) ?_
  refine j_w (w' := mW cA qm un ui ul ua 0 ++ (((cF cA q un ui ul ua vc ex wo tp tf kf ++ va_pl L f) ++ [(oa, .inl (cA 4, 1, .inr (.inl g)))]) ++ [(ob, .inl (cA 5, 1, .inr (.inr (.inr (.inl gd)))))])) rfl ?_
  exact hN un ui ul ua vc ex wo tp tf kf L f ta ga ka 0 g gd hI hPL
set_option maxHeartbeats 4000000 in
set_option maxRecDepth 100000 in
theorem lw_hoursToReady {p : Program} {l : Launch} {e : Env} {s : State} {m : MethodId} {args : Array Value} {below : List Frame} {meth : Method} {c : Code} {D : va_G} {cA : Nat → ClassId} {A : Nat → Prop} {Q : State → Prop} {k n : Nat} (G : GX p s m args c cL_law 9 RL D cA A) (hfl : l.stackTraces = false) {bs Ls : Nat} {xs : Nat → Int32} (hX : va_X bs Ls xs s s.heap) (hbl : bs < s.heap.size) (hbA : ¬ A bs) (hLs : Ls ≤ 3072) {i : Nat} (hi : i + 5 < Ls) (hk : k + 8 ≤ 603072) (hn9 : n + 256 ≤ 7211114) (q qm : Nat → Nat) (un : Nat → Nat) (ui : Nat → Int32) (ul : Nat → Int64) (ua : Nat → Nat → Int32) (vc ex wo tp : Nat → Int32) (tf kf : Nat → Option Nat) (L : List Nat) (f : Nat → va_E) (ta ga ka : Nat → Nat) (co : Int32) (oa ob : Nat) (g : Nat → Int64) (gd : Nat → UInt64) (hI : INV un ui ua) (hPL : PL cA un ua L f tf kf ta ga ka) (hN : ∀ (un : Nat → Nat) (ui : Nat → Int32) (ul : Nat → Int64) (ua : Nat → Nat → Int32) (vc ex wo tp : Nat → Int32) (tf kf : Nat → Option Nat) (L : List Nat) (f : Nat → va_E) (ta ga ka : Nat → Nat) (co : Int32) (g : Nat → Int64) (gd : Nat → UInt64), INV un ui ua → PL cA un ua L f tf kf ta ga ka → J p l e (RM 2048 94400 603072 7211114) s m args below meth c 9 D A (mW cA qm un ui ul ua co ++ (((cF cA q un ui ul ua vc ex wo tp tf kf ++ va_pl L f) ++ [(oa, .inl (cA 4, 1, .inr (.inl g)))]) ++ [(ob, .inl (cA 5, 1, .inr (.inr (.inr (.inl gd)))))])) (k + 8) (n + 256) Q 2045 [(0, .ref bs), (1, .ref (q 0)), (2, .ref (qm 0)), (3, .ref oa), (4, .ref ob), (5, .int (nI i))] []) : J p l e (RM 2048 94400 603072 7211114) s m args below meth c 9 D A (mW cA qm un ui ul ua co ++ (((cF cA q un ui ul ua vc ex wo tp tf kf ++ va_pl L f) ++ [(oa, .inl (cA 4, 1, .inr (.inl g)))]) ++ [(ob, .inl (cA 5, 1, .inr (.inr (.inr (.inl gd)))))])) k n Q 1561 [(0, .ref bs), (1, .ref (q 0)), (2, .ref (qm 0)), (3, .ref oa), (4, .ref ob), (5, .int (nI i))] [] := by
  refine j_aload_n G dL_law_1561 rfl 1 rfl ?_
  refine j_aload_n G dL_law_1562 rfl 3 rfl ?_
  refine jSW_i G (fw_W (cW_hoursToReady l D cA (b0 := cF cA q un ui ul ua vc ex wo tp tf kf ++ va_pl L f) rfl  g (cC_X6_hoursToReady l D cA hfl q un ui ul ua vc ex wo tp tf kf L f  (NB_RG hI.2.2.1.2.1)) (fun E8 b8 h8 => congrArg Prod.fst h8.2)) (mW cA qm un ui ul ua co) [(ob, .inl (cA 5, 1, .inr (.inr (.inr (.inl gd)))))] (List.append_assoc _ _ _).symm) (gw_hoursToReady wd_794) hd_L_hoursToReady.2 ⟨Nat.le_of_ble_eq_true rfl, Nat.le_of_ble_eq_true rfl⟩ ⟨by show _ ≤ 603072; omega, by show _ ≤ 7211114; omega⟩ rfl rfl (Nat.le_of_ble_eq_true rfl) dL_law_1563 (fun r w9 hq9 => ?_)
  obtain ⟨b1, hq8, hw9⟩ := hq9
  rcases hq8 with ⟨v9, b2, hp9, hr9, hb9⟩ | ⟨E9, b2, hp9, hd9, hb9⟩
  · obtain ⟨hok, hv9, hb8⟩ := hp9
    subst hw9
    subst hb9
    subst hr9
    subst hb8
    subst hv9
    have hcf : cfLong (ui 1) (ui 2) (ui 3) = 0 := hok
    refine j_w (w' := mW cA qm un ui ul ua co ++ (((cF cA q un ui ul ua vc ex wo tp tf kf ++ va_pl L f) ++ [(oa, .inl (cA 4, 1, .inr (.inl (vp_updL g 0 (longV (ui 1) (ui 2) (ui 3)).toInt64))))]) ++ [(ob, .inl (cA 5, 1, .inr (.inr (.inr (.inl gd)))))])) (List.append_assoc _ _ _) ?_
    refine j_istore (lv' := [(6, .int 0), (0, .ref bs), (1, .ref (q 0)), (2, .ref (qm 0)), (3, .ref oa), (4, .ref ob), (5, .int (nI i))]) G dL_law_1566 (by decide) rfl ?_
    refine j_aload_n G dL_law_1568 rfl 3 rfl ?_
    refine jV_i G 7 0 (fw_i (cM_hoursToReady l D cA qm un ui ul ua co  (NB_RG hI.2.2.1.2.1)) [] (((cF cA q un ui ul ua vc ex wo tp tf kf ++ va_pl L f) ++ [(oa, .inl (cA 4, 1, .inr (.inl (vp_updL g 0 (longV (ui 1) (ui 2) (ui 3)).toInt64))))]) ++ [(ob, .inl (cA 5, 1, .inr (.inr (.inr (.inl gd)))))]) rfl) gL_211 hd_X7_hoursToReady ⟨Nat.le_of_ble_eq_true rfl, Nat.le_of_ble_eq_true rfl⟩ ⟨by show _ ≤ 603072; omega, by show _ ≤ 7211114; omega⟩ rfl rfl (Nat.le_of_ble_eq_true rfl) rfl rfl dL_law_1569 (fun r w9 hq9 => ?_)
    obtain ⟨b1, hq8, hw9⟩ := hq9
    rcases hq8 with ⟨hc9, hr9, hb9⟩ | ⟨hc9, hb9⟩
    · subst hw9
      subst hb9
      subst hr9
      refine j_w (w' := mW cA qm un ui ul ua 0 ++ (((cF cA q un ui ul ua vc ex wo tp tf kf ++ va_pl L f) ++ [(oa, .inl (cA 4, 1, .inr (.inl (vp_updL g 0 (longV (ui 1) (ui 2) (ui 3)).toInt64))))]) ++ [(ob, .inl (cA 5, 1, .inr (.inr (.inr (.inl gd)))))])) rfl ?_
      refine j_istore (lv' := [(7, .int (longV (ui 1) (ui 2) (ui 3))), (6, .int 0), (0, .ref bs), (1, .ref (q 0)), (2, .ref (qm 0)), (3, .ref oa), (4, .ref ob), (5, .int (nI i))]) G dL_law_1572 (by decide) rfl ?_
      refine j_aload_n G dL_law_1574 rfl 4 rfl ?_
      refine jV_i G 7 0 (fw_i (cM_thrown l D cA qm un ui ul ua 0  ) [] (((cF cA q un ui ul ua vc ex wo tp tf kf ++ va_pl L f) ++ [(oa, .inl (cA 4, 1, .inr (.inl (vp_updL g 0 (longV (ui 1) (ui 2) (ui 3)).toInt64))))]) ++ [(ob, .inl (cA 5, 1, .inr (.inr (.inr (.inl gd)))))]) rfl) gL_122 hd_X7_thrown ⟨Nat.le_of_ble_eq_true rfl, Nat.le_of_ble_eq_true rfl⟩ ⟨by show _ ≤ 603072; omega, by show _ ≤ 7211114; omega⟩ rfl rfl (Nat.le_of_ble_eq_true rfl) rfl rfl dL_law_1575 (fun r w9 hq9 => ?_)
      obtain ⟨b1, hq8, hw9⟩ := hq9
      obtain ⟨hr9, hb9⟩ := hq8
      subst hw9
      subst hb9
      subst hr9
      refine j_w (w' := mW cA qm un ui ul ua 0 ++ (((cF cA q un ui ul ua vc ex wo tp tf kf ++ va_pl L f) ++ [(oa, .inl (cA 4, 1, .inr (.inl (vp_updL g 0 (longV (ui 1) (ui 2) (ui 3)).toInt64))))]) ++ [(ob, .inl (cA 5, 1, .inr (.inr (.inr (.inl gd)))))])) rfl ?_
      refine j_iload G dL_law_1578 1 rfl ?_
      refine j_icmp_eq (tgt := 1585) G dL_law_1580 (by decide) (fun c1580 => ?_) (fun c1580 => absurd rfl c1580)
      refine j_iload G dL_law_1585 1 rfl ?_
      refine j_if_ne (tgt := 1602) G dL_law_1587 (by decide) (fun c1587 => absurd c1587 (by decide)) (fun _ => ?_)
      refine j_aload_n G dL_law_1590 rfl 5 rfl ?_
      refine j_iconst (v := 0) G dL_law_1591 (by decide) ?_
      refine j_lald G _ wq_o (show vp_in (nI 0) 1 from vp_in_nI (by decide) (by decide)) dL_law_1592 ?_
      refine j_rwl (show _ = (longV (ui 1) (ui 2) (ui 3)).toInt64 from rfl) ?_
      refine j_iload G dL_law_1593 0 rfl ?_
      refine j_i2l G dL_law_1595 ?_
      refine j_lcmp G dL_law_1596 ?_
      refine j_if_eq (tgt := 1602) G dL_law_1597 (by decide) (fun c1597 => ?_) (fun c1597 => absurd (lgz.mpr rfl) c1597)
      refine j_goto (tgt := 2045) G dL_law_1602 (by decide) ?_
      refine j_sub (lv' := [(0, .ref bs), (1, .ref (q 0)), (2, .ref (qm 0)), (3, .ref oa), (4, .ref ob), (5, .int (nI i))]) [2, 3, 4, 5, 6, 7] rfl ?_
      refine j_cs (k' := k + 8) (n' := n + 256) (by omega) (by omega) ?_
      refine j_w (w' := mW cA qm un ui ul ua 0 ++ (((cF cA q un ui ul ua vc ex wo tp tf kf ++ va_pl L f) ++ [(oa, .inl (cA 4, 1, .inr (.inl (vp_updL g 0 (longV (ui 1) (ui 2) (ui 3)).toInt64))))]) ++ [(ob, .inl (cA 5, 1, .inr (.inr (.inr (.inl gd)))))])) rfl ?_
      exact hN un ui ul ua vc ex wo tp tf kf L f ta ga ka 0 (vp_updL g 0 (longV (ui 1) (ui 2) (ui 3)).toInt64) gd hI hPL
    · exact absurd hcf hc9
  · obtain ⟨hc, he⟩ := hp9
    cases he
    have hr9 : r = 1 := hd9.2
    subst hw9
    subst hb9
    subst hr9
    have hcf : cfLong (ui 1) (ui 2) (ui 3) = 1 := hc
    refine j_w (w' := mW cA qm un ui ul ua co ++ (((cF cA q un ui ul ua vc ex wo tp tf kf ++ va_pl L f) ++ [(oa, .inl (cA 4, 1, .inr (.inl g)))]) ++ [(ob, .inl (cA 5, 1, .inr (.inr (.inr (.inl gd)))))])) (List.append_assoc _ _ _) ?_
    refine j_istore (lv' := [(6, .int 1), (0, .ref bs), (1, .ref (q 0)), (2, .ref (qm 0)), (3, .ref oa), (4, .ref ob), (5, .int (nI i))]) G dL_law_1566 (by decide) rfl ?_
    refine j_aload_n G dL_law_1568 rfl 3 rfl ?_
    refine jV_i G 7 0 (fw_i (cM_hoursToReady l D cA qm un ui ul ua co  (NB_RG hI.2.2.1.2.1)) [] (((cF cA q un ui ul ua vc ex wo tp tf kf ++ va_pl L f) ++ [(oa, .inl (cA 4, 1, .inr (.inl g)))]) ++ [(ob, .inl (cA 5, 1, .inr (.inr (.inr (.inl gd)))))]) rfl) gL_211 hd_X7_hoursToReady ⟨Nat.le_of_ble_eq_true rfl, Nat.le_of_ble_eq_true rfl⟩ ⟨by show _ ≤ 603072; omega, by show _ ≤ 7211114; omega⟩ rfl rfl (Nat.le_of_ble_eq_true rfl) rfl rfl dL_law_1569 (fun r w9 hq9 => ?_)
    obtain ⟨b1, hq8, hw9⟩ := hq9
    rcases hq8 with ⟨hc9, hr9, hb9⟩ | ⟨hc9, hb9⟩
    · exact absurd (hcf.symm.trans hc9) (by decide)
    · rw [hcf] at hb9
      subst hw9
      subst hb9
      refine j_w (w' := mW cA qm un ui ul ua 1 ++ (((cF cA q un ui ul ua vc ex wo tp tf kf ++ va_pl L f) ++ [(oa, .inl (cA 4, 1, .inr (.inl g)))]) ++ [(ob, .inl (cA 5, 1, .inr (.inr (.inr (.inl gd)))))])) rfl ?_
      refine j_istore (lv' := [(7, .int r), (6, .int 1), (0, .ref bs), (1, .ref (q 0)), (2, .ref (qm 0)), (3, .ref oa), (4, .ref ob), (5, .int (nI i))]) G dL_law_1572 (by decide) rfl ?_
      refine j_aload_n G dL_law_1574 rfl 4 rfl ?_
      refine jV_i G 7 0 (fw_i (cM_thrown l D cA qm un ui ul ua 1  ) [] (((cF cA q un ui ul ua vc ex wo tp tf kf ++ va_pl L f) ++ [(oa, .inl (cA 4, 1, .inr (.inl g)))]) ++ [(ob, .inl (cA 5, 1, .inr (.inr (.inr (.inl gd)))))]) rfl) gL_122 hd_X7_thrown ⟨Nat.le_of_ble_eq_true rfl, Nat.le_of_ble_eq_true rfl⟩ ⟨by show _ ≤ 603072; omega, by show _ ≤ 7211114; omega⟩ rfl rfl (Nat.le_of_ble_eq_true rfl) rfl rfl dL_law_1575 (fun r w9 hq9 => ?_)
      obtain ⟨b1, hq8, hw9⟩ := hq9
      obtain ⟨hr9, hb9⟩ := hq8
      subst hw9
      subst hb9
      subst hr9
      refine j_w (w' := mW cA qm un ui ul ua 1 ++ (((cF cA q un ui ul ua vc ex wo tp tf kf ++ va_pl L f) ++ [(oa, .inl (cA 4, 1, .inr (.inl g)))]) ++ [(ob, .inl (cA 5, 1, .inr (.inr (.inr (.inl gd)))))])) rfl ?_
      refine j_iload G dL_law_1578 1 rfl ?_
      refine j_icmp_eq (tgt := 1585) G dL_law_1580 (by decide) (fun c1580 => ?_) (fun c1580 => absurd rfl c1580)
      refine j_iload G dL_law_1585 1 rfl ?_
      refine j_if_ne (tgt := 1602) G dL_law_1587 (by decide) (fun _ => ?_) (fun c1587 => absurd c1587 (by decide))
      refine j_goto (tgt := 2045) G dL_law_1602 (by decide) ?_
      refine j_sub (lv' := [(0, .ref bs), (1, .ref (q 0)), (2, .ref (qm 0)), (3, .ref oa), (4, .ref ob), (5, .int (nI i))]) [2, 3, 4, 5, 6, 7] rfl ?_
      refine j_cs (k' := k + 8) (n' := n + 256) (by omega) (by omega) ?_
      refine j_w (w' := mW cA qm un ui ul ua 1 ++ (((cF cA q un ui ul ua vc ex wo tp tf kf ++ va_pl L f) ++ [(oa, .inl (cA 4, 1, .inr (.inl g)))]) ++ [(ob, .inl (cA 5, 1, .inr (.inr (.inr (.inl gd)))))])) rfl ?_
      exact hN un ui ul ua vc ex wo tp tf kf L f ta ga ka 1 g gd hI hPL
set_option maxHeartbeats 4000000 in
set_option maxRecDepth 100000 in
theorem lw_hoursByBoiling {p : Program} {l : Launch} {e : Env} {s : State} {m : MethodId} {args : Array Value} {below : List Frame} {meth : Method} {c : Code} {D : va_G} {cA : Nat → ClassId} {A : Nat → Prop} {Q : State → Prop} {k n : Nat} (G : GX p s m args c cL_law 9 RL D cA A) (hfl : l.stackTraces = false) {bs Ls : Nat} {xs : Nat → Int32} (hX : va_X bs Ls xs s s.heap) (hbl : bs < s.heap.size) (hbA : ¬ A bs) (hLs : Ls ≤ 3072) {i : Nat} (hi : i + 5 < Ls) (hk : k + 8 ≤ 603072) (hn9 : n + 256 ≤ 7211114) (q qm : Nat → Nat) (un : Nat → Nat) (ui : Nat → Int32) (ul : Nat → Int64) (ua : Nat → Nat → Int32) (vc ex wo tp : Nat → Int32) (tf kf : Nat → Option Nat) (L : List Nat) (f : Nat → va_E) (ta ga ka : Nat → Nat) (co : Int32) (oa ob : Nat) (g : Nat → Int64) (gd : Nat → UInt64) (hI : INV un ui ua) (hPL : PL cA un ua L f tf kf ta ga ka) (hN : ∀ (un : Nat → Nat) (ui : Nat → Int32) (ul : Nat → Int64) (ua : Nat → Nat → Int32) (vc ex wo tp : Nat → Int32) (tf kf : Nat → Option Nat) (L : List Nat) (f : Nat → va_E) (ta ga ka : Nat → Nat) (co : Int32) (g : Nat → Int64) (gd : Nat → UInt64), INV un ui ua → PL cA un ua L f tf kf ta ga ka → J p l e (RM 2048 94400 603072 7211114) s m args below meth c 9 D A (mW cA qm un ui ul ua co ++ (((cF cA q un ui ul ua vc ex wo tp tf kf ++ va_pl L f) ++ [(oa, .inl (cA 4, 1, .inr (.inl g)))]) ++ [(ob, .inl (cA 5, 1, .inr (.inr (.inr (.inl gd)))))])) (k + 8) (n + 256) Q 2045 [(0, .ref bs), (1, .ref (q 0)), (2, .ref (qm 0)), (3, .ref oa), (4, .ref ob), (5, .int (nI i))] []) : J p l e (RM 2048 94400 603072 7211114) s m args below meth c 9 D A (mW cA qm un ui ul ua co ++ (((cF cA q un ui ul ua vc ex wo tp tf kf ++ va_pl L f) ++ [(oa, .inl (cA 4, 1, .inr (.inl g)))]) ++ [(ob, .inl (cA 5, 1, .inr (.inr (.inr (.inl gd)))))])) k n Q 1605 [(0, .ref bs), (1, .ref (q 0)), (2, .ref (qm 0)), (3, .ref oa), (4, .ref ob), (5, .int (nI i))] [] := by
  refine j_aload_n G dL_law_1605 rfl 1 rfl ?_
  refine j_aload_n G dL_law_1606 rfl 3 rfl ?_
  refine jSW_i G (fw_W (cW_hoursByBoiling l D cA (b0 := cF cA q un ui ul ua vc ex wo tp tf kf ++ va_pl L f) rfl  g (cC_X6_hoursByBoiling l D cA hfl q un ui ul ua vc ex wo tp tf kf L f  ) (fun E8 b8 h8 => congrArg Prod.fst h8.2)) (mW cA qm un ui ul ua co) [(ob, .inl (cA 5, 1, .inr (.inr (.inr (.inl gd)))))] (List.append_assoc _ _ _).symm) (gw_hoursByBoiling wd_808) hd_L_hoursByBoiling.2 ⟨Nat.le_of_ble_eq_true rfl, Nat.le_of_ble_eq_true rfl⟩ ⟨by show _ ≤ 603072; omega, by show _ ≤ 7211114; omega⟩ rfl rfl (Nat.le_of_ble_eq_true rfl) dL_law_1607 (fun r w9 hq9 => ?_)
  obtain ⟨b1, hq8, hw9⟩ := hq9
  rcases hq8 with ⟨v9, b2, hp9, hr9, hb9⟩ | ⟨E9, b2, hp9, hd9, hb9⟩
  · obtain ⟨hok, hv9, hb8⟩ := hp9
    subst hw9
    subst hb9
    subst hr9
    subst hb8
    subst hv9
    have hcf : cfLong (ui 1) (ui 2) (ui 3) = 0 := hok
    refine j_w (w' := mW cA qm un ui ul ua co ++ (((cF cA q un ui ul ua vc ex wo (up (up (up tp 0 (bvI (ui 1) (ui 2) (ui 3) (fnd (fun j => dnP (bvI (ui 1) (ui 2) (ui 3) j) (ui 2)) 500))) 1 (ui 2)) 2 (bbI (ui 1) (ui 2) (ui 4) (ui 3) (fnd (fun j => dnP (bvI (ui 1) (ui 2) (ui 3) j) (ui 2)) 500))) tf kf ++ va_pl L f) ++ [(oa, .inl (cA 4, 1, .inr (.inl (vp_updL g 0 (nI (fnd (fun j => dnP (bvI (ui 1) (ui 2) (ui 3) j) (ui 2)) 500)).toInt64))))]) ++ [(ob, .inl (cA 5, 1, .inr (.inr (.inr (.inl gd)))))])) (List.append_assoc _ _ _) ?_
    refine j_istore (lv' := [(6, .int 0), (0, .ref bs), (1, .ref (q 0)), (2, .ref (qm 0)), (3, .ref oa), (4, .ref ob), (5, .int (nI i))]) G dL_law_1610 (by decide) rfl ?_
    refine j_aload_n G dL_law_1612 rfl 3 rfl ?_
    refine jV_i G 7 0 (fw_i (cM_hoursByBoiling l D cA qm un ui ul ua co  (NB_RG hI.2.2.1.2.1)) [] (((cF cA q un ui ul ua vc ex wo (up (up (up tp 0 (bvI (ui 1) (ui 2) (ui 3) (fnd (fun j => dnP (bvI (ui 1) (ui 2) (ui 3) j) (ui 2)) 500))) 1 (ui 2)) 2 (bbI (ui 1) (ui 2) (ui 4) (ui 3) (fnd (fun j => dnP (bvI (ui 1) (ui 2) (ui 3) j) (ui 2)) 500))) tf kf ++ va_pl L f) ++ [(oa, .inl (cA 4, 1, .inr (.inl (vp_updL g 0 (nI (fnd (fun j => dnP (bvI (ui 1) (ui 2) (ui 3) j) (ui 2)) 500)).toInt64))))]) ++ [(ob, .inl (cA 5, 1, .inr (.inr (.inr (.inl gd)))))]) rfl) gL_214 hd_X7_hoursByBoiling ⟨Nat.le_of_ble_eq_true rfl, Nat.le_of_ble_eq_true rfl⟩ ⟨by show _ ≤ 603072; omega, by show _ ≤ 7211114; omega⟩ rfl rfl (Nat.le_of_ble_eq_true rfl) rfl rfl dL_law_1613 (fun r w9 hq9 => ?_)
    obtain ⟨b1, hq8, hw9⟩ := hq9
    rcases hq8 with ⟨hc9, hr9, hb9⟩ | ⟨hc9, hb9⟩
    · subst hw9
      subst hb9
      subst hr9
      refine j_w (w' := mW cA qm un ui ul ua 0 ++ (((cF cA q un ui ul ua vc ex wo (up (up (up tp 0 (bvI (ui 1) (ui 2) (ui 3) (fnd (fun j => dnP (bvI (ui 1) (ui 2) (ui 3) j) (ui 2)) 500))) 1 (ui 2)) 2 (bbI (ui 1) (ui 2) (ui 4) (ui 3) (fnd (fun j => dnP (bvI (ui 1) (ui 2) (ui 3) j) (ui 2)) 500))) tf kf ++ va_pl L f) ++ [(oa, .inl (cA 4, 1, .inr (.inl (vp_updL g 0 (nI (fnd (fun j => dnP (bvI (ui 1) (ui 2) (ui 3) j) (ui 2)) 500)).toInt64))))]) ++ [(ob, .inl (cA 5, 1, .inr (.inr (.inr (.inl gd)))))])) rfl ?_
      refine j_istore (lv' := [(7, .int (longV (ui 1) (ui 2) (ui 3))), (6, .int 0), (0, .ref bs), (1, .ref (q 0)), (2, .ref (qm 0)), (3, .ref oa), (4, .ref ob), (5, .int (nI i))]) G dL_law_1616 (by decide) rfl ?_
      refine j_aload_n G dL_law_1618 rfl 4 rfl ?_
      refine jV_i G 7 0 (fw_i (cM_thrown l D cA qm un ui ul ua 0  ) [] (((cF cA q un ui ul ua vc ex wo (up (up (up tp 0 (bvI (ui 1) (ui 2) (ui 3) (fnd (fun j => dnP (bvI (ui 1) (ui 2) (ui 3) j) (ui 2)) 500))) 1 (ui 2)) 2 (bbI (ui 1) (ui 2) (ui 4) (ui 3) (fnd (fun j => dnP (bvI (ui 1) (ui 2) (ui 3) j) (ui 2)) 500))) tf kf ++ va_pl L f) ++ [(oa, .inl (cA 4, 1, .inr (.inl (vp_updL g 0 (nI (fnd (fun j => dnP (bvI (ui 1) (ui 2) (ui 3) j) (ui 2)) 500)).toInt64))))]) ++ [(ob, .inl (cA 5, 1, .inr (.inr (.inr (.inl gd)))))]) rfl) gL_122 hd_X7_thrown ⟨Nat.le_of_ble_eq_true rfl, Nat.le_of_ble_eq_true rfl⟩ ⟨by show _ ≤ 603072; omega, by show _ ≤ 7211114; omega⟩ rfl rfl (Nat.le_of_ble_eq_true rfl) rfl rfl dL_law_1619 (fun r w9 hq9 => ?_)
      obtain ⟨b1, hq8, hw9⟩ := hq9
      obtain ⟨hr9, hb9⟩ := hq8
      subst hw9
      subst hb9
      subst hr9
      refine j_w (w' := mW cA qm un ui ul ua 0 ++ (((cF cA q un ui ul ua vc ex wo (up (up (up tp 0 (bvI (ui 1) (ui 2) (ui 3) (fnd (fun j => dnP (bvI (ui 1) (ui 2) (ui 3) j) (ui 2)) 500))) 1 (ui 2)) 2 (bbI (ui 1) (ui 2) (ui 4) (ui 3) (fnd (fun j => dnP (bvI (ui 1) (ui 2) (ui 3) j) (ui 2)) 500))) tf kf ++ va_pl L f) ++ [(oa, .inl (cA 4, 1, .inr (.inl (vp_updL g 0 (nI (fnd (fun j => dnP (bvI (ui 1) (ui 2) (ui 3) j) (ui 2)) 500)).toInt64))))]) ++ [(ob, .inl (cA 5, 1, .inr (.inr (.inr (.inl gd)))))])) rfl ?_
      refine j_iload G dL_law_1622 1 rfl ?_
      refine j_icmp_eq (tgt := 1629) G dL_law_1624 (by decide) (fun c1624 => ?_) (fun c1624 => absurd rfl c1624)
      refine j_iload G dL_law_1629 1 rfl ?_
      refine j_if_ne (tgt := 1646) G dL_law_1631 (by decide) (fun c1631 => absurd c1631 (by decide)) (fun _ => ?_)
      refine j_aload_n G dL_law_1634 rfl 5 rfl ?_
      refine j_iconst (v := 0) G dL_law_1635 (by decide) ?_
      refine j_lald G _ wq_o (show vp_in (nI 0) 1 from vp_in_nI (by decide) (by decide)) dL_law_1636 ?_
      refine j_rwl (show _ = (nI (fnd (fun j => dnP (bvI (ui 1) (ui 2) (ui 3) j) (ui 2)) 500)).toInt64 from rfl) ?_
      refine j_iload G dL_law_1637 0 rfl ?_
      refine j_i2l G dL_law_1639 ?_
      refine j_lcmp G dL_law_1640 ?_
      refine j_if_eq (tgt := 1646) G dL_law_1641 (by decide) (fun c1641 => ?_) (fun c1641 => absurd (lgz.mpr (congrArg Int32.toInt64 (fnd_long hI.2.2.1.2.2 hI.2.2.1.2.1 hok))) c1641)
      refine j_goto (tgt := 2045) G dL_law_1646 (by decide) ?_
      refine j_sub (lv' := [(0, .ref bs), (1, .ref (q 0)), (2, .ref (qm 0)), (3, .ref oa), (4, .ref ob), (5, .int (nI i))]) [2, 3, 4, 5, 6, 7] rfl ?_
      refine j_cs (k' := k + 8) (n' := n + 256) (by omega) (by omega) ?_
      refine j_w (w' := mW cA qm un ui ul ua 0 ++ (((cF cA q un ui ul ua vc ex wo (up (up (up tp 0 (bvI (ui 1) (ui 2) (ui 3) (fnd (fun j => dnP (bvI (ui 1) (ui 2) (ui 3) j) (ui 2)) 500))) 1 (ui 2)) 2 (bbI (ui 1) (ui 2) (ui 4) (ui 3) (fnd (fun j => dnP (bvI (ui 1) (ui 2) (ui 3) j) (ui 2)) 500))) tf kf ++ va_pl L f) ++ [(oa, .inl (cA 4, 1, .inr (.inl (vp_updL g 0 (nI (fnd (fun j => dnP (bvI (ui 1) (ui 2) (ui 3) j) (ui 2)) 500)).toInt64))))]) ++ [(ob, .inl (cA 5, 1, .inr (.inr (.inr (.inl gd)))))])) rfl ?_
      exact hN un ui ul ua vc ex wo (up (up (up tp 0 (bvI (ui 1) (ui 2) (ui 3) (fnd (fun j => dnP (bvI (ui 1) (ui 2) (ui 3) j) (ui 2)) 500))) 1 (ui 2)) 2 (bbI (ui 1) (ui 2) (ui 4) (ui 3) (fnd (fun j => dnP (bvI (ui 1) (ui 2) (ui 3) j) (ui 2)) 500))) tf kf L f ta ga ka 0 (vp_updL g 0 (nI (fnd (fun j => dnP (bvI (ui 1) (ui 2) (ui 3) j) (ui 2)) 500)).toInt64) gd hI hPL
    · exact absurd hcf hc9
  · obtain ⟨hc, he⟩ := hp9
    cases he
    have hr9 : r = 1 := hd9.2
    subst hw9
    subst hb9
    subst hr9
    have hcf : cfLong (ui 1) (ui 2) (ui 3) = 1 := hc
    refine j_w (w' := mW cA qm un ui ul ua co ++ (((cF cA q un ui ul ua vc ex wo tp tf kf ++ va_pl L f) ++ [(oa, .inl (cA 4, 1, .inr (.inl g)))]) ++ [(ob, .inl (cA 5, 1, .inr (.inr (.inr (.inl gd)))))])) (List.append_assoc _ _ _) ?_
    refine j_istore (lv' := [(6, .int 1), (0, .ref bs), (1, .ref (q 0)), (2, .ref (qm 0)), (3, .ref oa), (4, .ref ob), (5, .int (nI i))]) G dL_law_1610 (by decide) rfl ?_
    refine j_aload_n G dL_law_1612 rfl 3 rfl ?_
    refine jV_i G 7 0 (fw_i (cM_hoursByBoiling l D cA qm un ui ul ua co  (NB_RG hI.2.2.1.2.1)) [] (((cF cA q un ui ul ua vc ex wo tp tf kf ++ va_pl L f) ++ [(oa, .inl (cA 4, 1, .inr (.inl g)))]) ++ [(ob, .inl (cA 5, 1, .inr (.inr (.inr (.inl gd)))))]) rfl) gL_214 hd_X7_hoursByBoiling ⟨Nat.le_of_ble_eq_true rfl, Nat.le_of_ble_eq_true rfl⟩ ⟨by show _ ≤ 603072; omega, by show _ ≤ 7211114; omega⟩ rfl rfl (Nat.le_of_ble_eq_true rfl) rfl rfl dL_law_1613 (fun r w9 hq9 => ?_)
    obtain ⟨b1, hq8, hw9⟩ := hq9
    rcases hq8 with ⟨hc9, hr9, hb9⟩ | ⟨hc9, hb9⟩
    · exact absurd (hcf.symm.trans hc9) (by decide)
    · rw [hcf] at hb9
      subst hw9
      subst hb9
      refine j_w (w' := mW cA qm un ui ul ua 1 ++ (((cF cA q un ui ul ua vc ex wo tp tf kf ++ va_pl L f) ++ [(oa, .inl (cA 4, 1, .inr (.inl g)))]) ++ [(ob, .inl (cA 5, 1, .inr (.inr (.inr (.inl gd)))))])) rfl ?_
      refine j_istore (lv' := [(7, .int r), (6, .int 1), (0, .ref bs), (1, .ref (q 0)), (2, .ref (qm 0)), (3, .ref oa), (4, .ref ob), (5, .int (nI i))]) G dL_law_1616 (by decide) rfl ?_
      refine j_aload_n G dL_law_1618 rfl 4 rfl ?_
      refine jV_i G 7 0 (fw_i (cM_thrown l D cA qm un ui ul ua 1  ) [] (((cF cA q un ui ul ua vc ex wo tp tf kf ++ va_pl L f) ++ [(oa, .inl (cA 4, 1, .inr (.inl g)))]) ++ [(ob, .inl (cA 5, 1, .inr (.inr (.inr (.inl gd)))))]) rfl) gL_122 hd_X7_thrown ⟨Nat.le_of_ble_eq_true rfl, Nat.le_of_ble_eq_true rfl⟩ ⟨by show _ ≤ 603072; omega, by show _ ≤ 7211114; omega⟩ rfl rfl (Nat.le_of_ble_eq_true rfl) rfl rfl dL_law_1619 (fun r w9 hq9 => ?_)
      obtain ⟨b1, hq8, hw9⟩ := hq9
      obtain ⟨hr9, hb9⟩ := hq8
      subst hw9
      subst hb9
      subst hr9
      refine j_w (w' := mW cA qm un ui ul ua 1 ++ (((cF cA q un ui ul ua vc ex wo tp tf kf ++ va_pl L f) ++ [(oa, .inl (cA 4, 1, .inr (.inl g)))]) ++ [(ob, .inl (cA 5, 1, .inr (.inr (.inr (.inl gd)))))])) rfl ?_
      refine j_iload G dL_law_1622 1 rfl ?_
      refine j_icmp_eq (tgt := 1629) G dL_law_1624 (by decide) (fun c1624 => ?_) (fun c1624 => absurd rfl c1624)
      refine j_iload G dL_law_1629 1 rfl ?_
      refine j_if_ne (tgt := 1646) G dL_law_1631 (by decide) (fun _ => ?_) (fun c1631 => absurd c1631 (by decide))
      refine j_goto (tgt := 2045) G dL_law_1646 (by decide) ?_
      refine j_sub (lv' := [(0, .ref bs), (1, .ref (q 0)), (2, .ref (qm 0)), (3, .ref oa), (4, .ref ob), (5, .int (nI i))]) [2, 3, 4, 5, 6, 7] rfl ?_
      refine j_cs (k' := k + 8) (n' := n + 256) (by omega) (by omega) ?_
      refine j_w (w' := mW cA qm un ui ul ua 1 ++ (((cF cA q un ui ul ua vc ex wo tp tf kf ++ va_pl L f) ++ [(oa, .inl (cA 4, 1, .inr (.inl g)))]) ++ [(ob, .inl (cA 5, 1, .inr (.inr (.inr (.inl gd)))))])) rfl ?_
      exact hN un ui ul ua vc ex wo tp tf kf L f ta ga ka 1 g gd hI hPL
set_option maxHeartbeats 4000000 in
set_option maxRecDepth 100000 in
theorem lw_draw {p : Program} {l : Launch} {e : Env} {s : State} {m : MethodId} {args : Array Value} {below : List Frame} {meth : Method} {c : Code} {D : va_G} {cA : Nat → ClassId} {A : Nat → Prop} {Q : State → Prop} {k n : Nat} (G : GX p s m args c cL_law 9 RL D cA A) (hfl : l.stackTraces = false) {bs Ls : Nat} {xs : Nat → Int32} (hX : va_X bs Ls xs s s.heap) (hbl : bs < s.heap.size) (hbA : ¬ A bs) (hLs : Ls ≤ 3072) {i : Nat} (hi : i + 5 < Ls) (hk : k + 8 ≤ 603072) (hn9 : n + 256 ≤ 7211114) (q qm : Nat → Nat) (un : Nat → Nat) (ui : Nat → Int32) (ul : Nat → Int64) (ua : Nat → Nat → Int32) (vc ex wo tp : Nat → Int32) (tf kf : Nat → Option Nat) (L : List Nat) (f : Nat → va_E) (ta ga ka : Nat → Nat) (co : Int32) (oa ob : Nat) (g : Nat → Int64) (gd : Nat → UInt64) (hI : INV un ui ua) (hPL : PL cA un ua L f tf kf ta ga ka) (hN : ∀ (un : Nat → Nat) (ui : Nat → Int32) (ul : Nat → Int64) (ua : Nat → Nat → Int32) (vc ex wo tp : Nat → Int32) (tf kf : Nat → Option Nat) (L : List Nat) (f : Nat → va_E) (ta ga ka : Nat → Nat) (co : Int32) (g : Nat → Int64) (gd : Nat → UInt64), INV un ui ua → PL cA un ua L f tf kf ta ga ka → J p l e (RM 2048 94400 603072 7211114) s m args below meth c 9 D A (mW cA qm un ui ul ua co ++ (((cF cA q un ui ul ua vc ex wo tp tf kf ++ va_pl L f) ++ [(oa, .inl (cA 4, 1, .inr (.inl g)))]) ++ [(ob, .inl (cA 5, 1, .inr (.inr (.inr (.inl gd)))))])) (k + 8) (n + 256) Q 2045 [(0, .ref bs), (1, .ref (q 0)), (2, .ref (qm 0)), (3, .ref oa), (4, .ref ob), (5, .int (nI i))] []) : J p l e (RM 2048 94400 603072 7211114) s m args below meth c 9 D A (mW cA qm un ui ul ua co ++ (((cF cA q un ui ul ua vc ex wo tp tf kf ++ va_pl L f) ++ [(oa, .inl (cA 4, 1, .inr (.inl g)))]) ++ [(ob, .inl (cA 5, 1, .inr (.inr (.inr (.inl gd)))))])) k n Q 1649 [(0, .ref bs), (1, .ref (q 0)), (2, .ref (qm 0)), (3, .ref oa), (4, .ref ob), (5, .int (nI i))] [] := by
  refine j_aload_n G dL_law_1649 rfl 1 rfl ?_
  refine j_aload_n G dL_law_1650 rfl 3 rfl ?_
  refine jSW_i G (fw_W (cW_draw l D cA (b0 := cF cA q un ui ul ua vc ex wo tp tf kf ++ va_pl L f) rfl  g (cC_X6_draw l D cA hfl q un ui ul ua vc ex wo tp tf kf L f  hI.1.2.2.2.2) (fun E8 b8 h8 => h8.elim (fun h8 => Or.inl (congrArg Prod.fst h8.2)) (fun h8 => Or.inr ((congrArg Prod.fst h8.2))))) (mW cA qm un ui ul ua co) [(ob, .inl (cA 5, 1, .inr (.inr (.inr (.inl gd)))))] (List.append_assoc _ _ _).symm) (gw_draw wd_819) hd_L_draw.2 ⟨Nat.le_of_ble_eq_true rfl, Nat.le_of_ble_eq_true rfl⟩ ⟨by show _ ≤ 603072; omega, by show _ ≤ 7211114; omega⟩ rfl rfl (Nat.le_of_ble_eq_true rfl) dL_law_1651 (fun r w9 hq9 => ?_)
  obtain ⟨b1, hq8, hw9⟩ := hq9
  rcases hq8 with ⟨v9, b2, hp9, hr9, hb9⟩ | ⟨E9, b2, hp9, hd9, hb9⟩
  · obtain ⟨hok, hv9, hb8⟩ := hp9
    subst hw9
    subst hb9
    subst hr9
    subst hb8
    subst hv9
    have hcf : cfDraw (ui 1) (ui 2) (un 3) = 0 := hok
    refine j_w (w' := mW cA qm un ui ul ua co ++ (((cF cA q (up un 3 (un 3 + 1)) (up (up (up ui 1 0) 2 0) 4 0) ul (up (up (up ua 12 (upd (ua 12) (un 3) (ui 1))) 13 (upd (ua 13) (un 3) (ui 2))) 14 (upd (ua 14) (un 3) (gradeV (ui 4)))) vc ex wo tp tf kf ++ va_pl L f) ++ [(oa, .inl (cA 4, 1, .inr (.inl (vp_updL g 0 (nI (un 3)).toInt64))))]) ++ [(ob, .inl (cA 5, 1, .inr (.inr (.inr (.inl gd)))))])) (List.append_assoc _ _ _) ?_
    refine j_istore (lv' := [(6, .int 0), (0, .ref bs), (1, .ref (q 0)), (2, .ref (qm 0)), (3, .ref oa), (4, .ref ob), (5, .int (nI i))]) G dL_law_1654 (by decide) rfl ?_
    refine j_aload_n G dL_law_1656 rfl 3 rfl ?_
    refine jV_i G 7 0 (fw_i (cM_draw l D cA qm un ui ul ua co  hI.1.2.2.2.2) [] (((cF cA q (up un 3 (un 3 + 1)) (up (up (up ui 1 0) 2 0) 4 0) ul (up (up (up ua 12 (upd (ua 12) (un 3) (ui 1))) 13 (upd (ua 13) (un 3) (ui 2))) 14 (upd (ua 14) (un 3) (gradeV (ui 4)))) vc ex wo tp tf kf ++ va_pl L f) ++ [(oa, .inl (cA 4, 1, .inr (.inl (vp_updL g 0 (nI (un 3)).toInt64))))]) ++ [(ob, .inl (cA 5, 1, .inr (.inr (.inr (.inl gd)))))]) rfl) gL_217 hd_X7_draw ⟨Nat.le_of_ble_eq_true rfl, Nat.le_of_ble_eq_true rfl⟩ ⟨by show _ ≤ 603072; omega, by show _ ≤ 7211114; omega⟩ rfl rfl (Nat.le_of_ble_eq_true rfl) rfl rfl dL_law_1657 (fun r w9 hq9 => ?_)
    obtain ⟨b1, hq8, hw9⟩ := hq9
    rcases hq8 with ⟨hc9, hr9, hb9⟩ | ⟨hc9, hb9⟩
    · subst hw9
      subst hb9
      subst hr9
      refine j_w (w' := mW cA qm (up un 3 (un 3 + 1)) (up (up (up ui 1 0) 2 0) 4 0) ul (up (up (up ua 12 (upd (ua 12) (un 3) (ui 1))) 13 (upd (ua 13) (un 3) (ui 2))) 14 (upd (ua 14) (un 3) (gradeV (ui 4)))) 0 ++ (((cF cA q (up un 3 (un 3 + 1)) (up (up (up ui 1 0) 2 0) 4 0) ul (up (up (up ua 12 (upd (ua 12) (un 3) (ui 1))) 13 (upd (ua 13) (un 3) (ui 2))) 14 (upd (ua 14) (un 3) (gradeV (ui 4)))) vc ex wo tp tf kf ++ va_pl L f) ++ [(oa, .inl (cA 4, 1, .inr (.inl (vp_updL g 0 (nI (un 3)).toInt64))))]) ++ [(ob, .inl (cA 5, 1, .inr (.inr (.inr (.inl gd)))))])) rfl ?_
      refine j_istore (lv' := [(7, .int (nI (un 3))), (6, .int 0), (0, .ref bs), (1, .ref (q 0)), (2, .ref (qm 0)), (3, .ref oa), (4, .ref ob), (5, .int (nI i))]) G dL_law_1660 (by decide) rfl ?_
      refine j_aload_n G dL_law_1662 rfl 4 rfl ?_
      refine jV_i G 7 0 (fw_i (cM_thrown l D cA qm (up un 3 (un 3 + 1)) (up (up (up ui 1 0) 2 0) 4 0) ul (up (up (up ua 12 (upd (ua 12) (un 3) (ui 1))) 13 (upd (ua 13) (un 3) (ui 2))) 14 (upd (ua 14) (un 3) (gradeV (ui 4)))) 0  ) [] (((cF cA q (up un 3 (un 3 + 1)) (up (up (up ui 1 0) 2 0) 4 0) ul (up (up (up ua 12 (upd (ua 12) (un 3) (ui 1))) 13 (upd (ua 13) (un 3) (ui 2))) 14 (upd (ua 14) (un 3) (gradeV (ui 4)))) vc ex wo tp tf kf ++ va_pl L f) ++ [(oa, .inl (cA 4, 1, .inr (.inl (vp_updL g 0 (nI (un 3)).toInt64))))]) ++ [(ob, .inl (cA 5, 1, .inr (.inr (.inr (.inl gd)))))]) rfl) gL_122 hd_X7_thrown ⟨Nat.le_of_ble_eq_true rfl, Nat.le_of_ble_eq_true rfl⟩ ⟨by show _ ≤ 603072; omega, by show _ ≤ 7211114; omega⟩ rfl rfl (Nat.le_of_ble_eq_true rfl) rfl rfl dL_law_1663 (fun r w9 hq9 => ?_)
      obtain ⟨b1, hq8, hw9⟩ := hq9
      obtain ⟨hr9, hb9⟩ := hq8
      subst hw9
      subst hb9
      subst hr9
      refine j_w (w' := mW cA qm (up un 3 (un 3 + 1)) (up (up (up ui 1 0) 2 0) 4 0) ul (up (up (up ua 12 (upd (ua 12) (un 3) (ui 1))) 13 (upd (ua 13) (un 3) (ui 2))) 14 (upd (ua 14) (un 3) (gradeV (ui 4)))) 0 ++ (((cF cA q (up un 3 (un 3 + 1)) (up (up (up ui 1 0) 2 0) 4 0) ul (up (up (up ua 12 (upd (ua 12) (un 3) (ui 1))) 13 (upd (ua 13) (un 3) (ui 2))) 14 (upd (ua 14) (un 3) (gradeV (ui 4)))) vc ex wo tp tf kf ++ va_pl L f) ++ [(oa, .inl (cA 4, 1, .inr (.inl (vp_updL g 0 (nI (un 3)).toInt64))))]) ++ [(ob, .inl (cA 5, 1, .inr (.inr (.inr (.inl gd)))))])) rfl ?_
      refine j_iload G dL_law_1666 1 rfl ?_
      refine j_icmp_eq (tgt := 1673) G dL_law_1668 (by decide) (fun c1668 => ?_) (fun c1668 => absurd rfl c1668)
      refine j_iload G dL_law_1673 1 rfl ?_
      refine j_if_ne (tgt := 1690) G dL_law_1675 (by decide) (fun c1675 => absurd c1675 (by decide)) (fun _ => ?_)
      refine j_aload_n G dL_law_1678 rfl 5 rfl ?_
      refine j_iconst (v := 0) G dL_law_1679 (by decide) ?_
      refine j_lald G _ wq_o (show vp_in (nI 0) 1 from vp_in_nI (by decide) (by decide)) dL_law_1680 ?_
      refine j_rwl (show _ = (nI (un 3)).toInt64 from rfl) ?_
      refine j_iload G dL_law_1681 0 rfl ?_
      refine j_i2l G dL_law_1683 ?_
      refine j_lcmp G dL_law_1684 ?_
      refine j_if_eq (tgt := 1690) G dL_law_1685 (by decide) (fun c1685 => ?_) (fun c1685 => absurd (lgz.mpr rfl) c1685)
      refine j_goto (tgt := 2045) G dL_law_1690 (by decide) ?_
      refine j_sub (lv' := [(0, .ref bs), (1, .ref (q 0)), (2, .ref (qm 0)), (3, .ref oa), (4, .ref ob), (5, .int (nI i))]) [2, 3, 4, 5, 6, 7] rfl ?_
      refine j_cs (k' := k + 8) (n' := n + 256) (by omega) (by omega) ?_
      refine j_w (w' := mW cA qm (up un 3 (un 3 + 1)) (up (up (up ui 1 0) 2 0) 4 0) ul (up (up (up ua 12 (upd (ua 12) (un 3) (ui 1))) 13 (upd (ua 13) (un 3) (ui 2))) 14 (upd (ua 14) (un 3) (gradeV (ui 4)))) 0 ++ (((cF cA q (up un 3 (un 3 + 1)) (up (up (up ui 1 0) 2 0) 4 0) ul (up (up (up ua 12 (upd (ua 12) (un 3) (ui 1))) 13 (upd (ua 13) (un 3) (ui 2))) 14 (upd (ua 14) (un 3) (gradeV (ui 4)))) vc ex wo tp tf kf ++ va_pl L f) ++ [(oa, .inl (cA 4, 1, .inr (.inl (vp_updL g 0 (nI (un 3)).toInt64))))]) ++ [(ob, .inl (cA 5, 1, .inr (.inr (.inr (.inl gd)))))])) rfl ?_
      exact hN (up un 3 (un 3 + 1)) (up (up (up ui 1 0) 2 0) 4 0) ul (up (up (up ua 12 (upd (ua 12) (un 3) (ui 1))) 13 (upd (ua 13) (un 3) (ui 2))) 14 (upd (ua 14) (un 3) (gradeV (ui 4)))) vc ex wo tp tf kf L f ta ga ka 0 (vp_updL g 0 (nI (un 3)).toInt64) gd (hI.drawn (cfDraw_ok hI.1.2.2.2.2 hok)) hPL
    · exact absurd hcf hc9
  · rcases hp9 with ⟨hc, he⟩ | ⟨hc, he⟩
    · cases he
      have hr9 : r = 1 := by rcases hd9 with ⟨h8, h7⟩ | ⟨h8, h7⟩ <;> first | exact h7 | exact absurd h8 (by decide)
      subst hw9
      subst hb9
      subst hr9
      have hcf : cfDraw (ui 1) (ui 2) (un 3) = 1 := hc
      refine j_w (w' := mW cA qm un ui ul ua co ++ (((cF cA q un ui ul ua vc ex wo tp tf kf ++ va_pl L f) ++ [(oa, .inl (cA 4, 1, .inr (.inl g)))]) ++ [(ob, .inl (cA 5, 1, .inr (.inr (.inr (.inl gd)))))])) (List.append_assoc _ _ _) ?_
      refine j_istore (lv' := [(6, .int 1), (0, .ref bs), (1, .ref (q 0)), (2, .ref (qm 0)), (3, .ref oa), (4, .ref ob), (5, .int (nI i))]) G dL_law_1654 (by decide) rfl ?_
      refine j_aload_n G dL_law_1656 rfl 3 rfl ?_
      refine jV_i G 7 0 (fw_i (cM_draw l D cA qm un ui ul ua co  hI.1.2.2.2.2) [] (((cF cA q un ui ul ua vc ex wo tp tf kf ++ va_pl L f) ++ [(oa, .inl (cA 4, 1, .inr (.inl g)))]) ++ [(ob, .inl (cA 5, 1, .inr (.inr (.inr (.inl gd)))))]) rfl) gL_217 hd_X7_draw ⟨Nat.le_of_ble_eq_true rfl, Nat.le_of_ble_eq_true rfl⟩ ⟨by show _ ≤ 603072; omega, by show _ ≤ 7211114; omega⟩ rfl rfl (Nat.le_of_ble_eq_true rfl) rfl rfl dL_law_1657 (fun r w9 hq9 => ?_)
      obtain ⟨b1, hq8, hw9⟩ := hq9
      rcases hq8 with ⟨hc9, hr9, hb9⟩ | ⟨hc9, hb9⟩
      · exact absurd (hcf.symm.trans hc9) (by decide)
      · rw [hcf] at hb9
        subst hw9
        subst hb9
        refine j_w (w' := mW cA qm un ui ul ua 1 ++ (((cF cA q un ui ul ua vc ex wo tp tf kf ++ va_pl L f) ++ [(oa, .inl (cA 4, 1, .inr (.inl g)))]) ++ [(ob, .inl (cA 5, 1, .inr (.inr (.inr (.inl gd)))))])) rfl ?_
        refine j_istore (lv' := [(7, .int r), (6, .int 1), (0, .ref bs), (1, .ref (q 0)), (2, .ref (qm 0)), (3, .ref oa), (4, .ref ob), (5, .int (nI i))]) G dL_law_1660 (by decide) rfl ?_
        refine j_aload_n G dL_law_1662 rfl 4 rfl ?_
        refine jV_i G 7 0 (fw_i (cM_thrown l D cA qm un ui ul ua 1  ) [] (((cF cA q un ui ul ua vc ex wo tp tf kf ++ va_pl L f) ++ [(oa, .inl (cA 4, 1, .inr (.inl g)))]) ++ [(ob, .inl (cA 5, 1, .inr (.inr (.inr (.inl gd)))))]) rfl) gL_122 hd_X7_thrown ⟨Nat.le_of_ble_eq_true rfl, Nat.le_of_ble_eq_true rfl⟩ ⟨by show _ ≤ 603072; omega, by show _ ≤ 7211114; omega⟩ rfl rfl (Nat.le_of_ble_eq_true rfl) rfl rfl dL_law_1663 (fun r w9 hq9 => ?_)
        obtain ⟨b1, hq8, hw9⟩ := hq9
        obtain ⟨hr9, hb9⟩ := hq8
        subst hw9
        subst hb9
        subst hr9
        refine j_w (w' := mW cA qm un ui ul ua 1 ++ (((cF cA q un ui ul ua vc ex wo tp tf kf ++ va_pl L f) ++ [(oa, .inl (cA 4, 1, .inr (.inl g)))]) ++ [(ob, .inl (cA 5, 1, .inr (.inr (.inr (.inl gd)))))])) rfl ?_
        refine j_iload G dL_law_1666 1 rfl ?_
        refine j_icmp_eq (tgt := 1673) G dL_law_1668 (by decide) (fun c1668 => ?_) (fun c1668 => absurd rfl c1668)
        refine j_iload G dL_law_1673 1 rfl ?_
        refine j_if_ne (tgt := 1690) G dL_law_1675 (by decide) (fun _ => ?_) (fun c1675 => absurd c1675 (by decide))
        refine j_goto (tgt := 2045) G dL_law_1690 (by decide) ?_
        refine j_sub (lv' := [(0, .ref bs), (1, .ref (q 0)), (2, .ref (qm 0)), (3, .ref oa), (4, .ref ob), (5, .int (nI i))]) [2, 3, 4, 5, 6, 7] rfl ?_
        refine j_cs (k' := k + 8) (n' := n + 256) (by omega) (by omega) ?_
        refine j_w (w' := mW cA qm un ui ul ua 1 ++ (((cF cA q un ui ul ua vc ex wo tp tf kf ++ va_pl L f) ++ [(oa, .inl (cA 4, 1, .inr (.inl g)))]) ++ [(ob, .inl (cA 5, 1, .inr (.inr (.inr (.inl gd)))))])) rfl ?_
        exact hN un ui ul ua vc ex wo tp tf kf L f ta ga ka 1 g gd hI hPL
    · cases he
      have hr9 : r = 2 := by rcases hd9 with ⟨h8, h7⟩ | ⟨h8, h7⟩ <;> first | exact h7 | exact absurd h8 (by decide)
      subst hw9
      subst hb9
      subst hr9
      have hcf : cfDraw (ui 1) (ui 2) (un 3) = 2 := hc
      refine j_w (w' := mW cA qm un ui ul ua co ++ (((cF cA q un ui ul ua vc ex wo tp tf kf ++ va_pl L f) ++ [(oa, .inl (cA 4, 1, .inr (.inl g)))]) ++ [(ob, .inl (cA 5, 1, .inr (.inr (.inr (.inl gd)))))])) (List.append_assoc _ _ _) ?_
      refine j_istore (lv' := [(6, .int 2), (0, .ref bs), (1, .ref (q 0)), (2, .ref (qm 0)), (3, .ref oa), (4, .ref ob), (5, .int (nI i))]) G dL_law_1654 (by decide) rfl ?_
      refine j_aload_n G dL_law_1656 rfl 3 rfl ?_
      refine jV_i G 7 0 (fw_i (cM_draw l D cA qm un ui ul ua co  hI.1.2.2.2.2) [] (((cF cA q un ui ul ua vc ex wo tp tf kf ++ va_pl L f) ++ [(oa, .inl (cA 4, 1, .inr (.inl g)))]) ++ [(ob, .inl (cA 5, 1, .inr (.inr (.inr (.inl gd)))))]) rfl) gL_217 hd_X7_draw ⟨Nat.le_of_ble_eq_true rfl, Nat.le_of_ble_eq_true rfl⟩ ⟨by show _ ≤ 603072; omega, by show _ ≤ 7211114; omega⟩ rfl rfl (Nat.le_of_ble_eq_true rfl) rfl rfl dL_law_1657 (fun r w9 hq9 => ?_)
      obtain ⟨b1, hq8, hw9⟩ := hq9
      rcases hq8 with ⟨hc9, hr9, hb9⟩ | ⟨hc9, hb9⟩
      · exact absurd (hcf.symm.trans hc9) (by decide)
      · rw [hcf] at hb9
        subst hw9
        subst hb9
        refine j_w (w' := mW cA qm un ui ul ua 2 ++ (((cF cA q un ui ul ua vc ex wo tp tf kf ++ va_pl L f) ++ [(oa, .inl (cA 4, 1, .inr (.inl g)))]) ++ [(ob, .inl (cA 5, 1, .inr (.inr (.inr (.inl gd)))))])) rfl ?_
        refine j_istore (lv' := [(7, .int r), (6, .int 2), (0, .ref bs), (1, .ref (q 0)), (2, .ref (qm 0)), (3, .ref oa), (4, .ref ob), (5, .int (nI i))]) G dL_law_1660 (by decide) rfl ?_
        refine j_aload_n G dL_law_1662 rfl 4 rfl ?_
        refine jV_i G 7 0 (fw_i (cM_thrown l D cA qm un ui ul ua 2  ) [] (((cF cA q un ui ul ua vc ex wo tp tf kf ++ va_pl L f) ++ [(oa, .inl (cA 4, 1, .inr (.inl g)))]) ++ [(ob, .inl (cA 5, 1, .inr (.inr (.inr (.inl gd)))))]) rfl) gL_122 hd_X7_thrown ⟨Nat.le_of_ble_eq_true rfl, Nat.le_of_ble_eq_true rfl⟩ ⟨by show _ ≤ 603072; omega, by show _ ≤ 7211114; omega⟩ rfl rfl (Nat.le_of_ble_eq_true rfl) rfl rfl dL_law_1663 (fun r w9 hq9 => ?_)
        obtain ⟨b1, hq8, hw9⟩ := hq9
        obtain ⟨hr9, hb9⟩ := hq8
        subst hw9
        subst hb9
        subst hr9
        refine j_w (w' := mW cA qm un ui ul ua 2 ++ (((cF cA q un ui ul ua vc ex wo tp tf kf ++ va_pl L f) ++ [(oa, .inl (cA 4, 1, .inr (.inl g)))]) ++ [(ob, .inl (cA 5, 1, .inr (.inr (.inr (.inl gd)))))])) rfl ?_
        refine j_iload G dL_law_1666 1 rfl ?_
        refine j_icmp_eq (tgt := 1673) G dL_law_1668 (by decide) (fun c1668 => ?_) (fun c1668 => absurd rfl c1668)
        refine j_iload G dL_law_1673 1 rfl ?_
        refine j_if_ne (tgt := 1690) G dL_law_1675 (by decide) (fun _ => ?_) (fun c1675 => absurd c1675 (by decide))
        refine j_goto (tgt := 2045) G dL_law_1690 (by decide) ?_
        refine j_sub (lv' := [(0, .ref bs), (1, .ref (q 0)), (2, .ref (qm 0)), (3, .ref oa), (4, .ref ob), (5, .int (nI i))]) [2, 3, 4, 5, 6, 7] rfl ?_
        refine j_cs (k' := k + 8) (n' := n + 256) (by omega) (by omega) ?_
        refine j_w (w' := mW cA qm un ui ul ua 2 ++ (((cF cA q un ui ul ua vc ex wo tp tf kf ++ va_pl L f) ++ [(oa, .inl (cA 4, 1, .inr (.inl g)))]) ++ [(ob, .inl (cA 5, 1, .inr (.inr (.inr (.inl gd)))))])) rfl ?_
        exact hN un ui ul ua vc ex wo tp tf kf L f ta ga ka 2 g gd hI hPL
set_option maxHeartbeats 4000000 in
set_option maxRecDepth 100000 in
theorem lw_dump {p : Program} {l : Launch} {e : Env} {s : State} {m : MethodId} {args : Array Value} {below : List Frame} {meth : Method} {c : Code} {D : va_G} {cA : Nat → ClassId} {A : Nat → Prop} {Q : State → Prop} {k n : Nat} (G : GX p s m args c cL_law 9 RL D cA A) (hfl : l.stackTraces = false) {bs Ls : Nat} {xs : Nat → Int32} (hX : va_X bs Ls xs s s.heap) (hbl : bs < s.heap.size) (hbA : ¬ A bs) (hLs : Ls ≤ 3072) {i : Nat} (hi : i + 5 < Ls) (hk : k + 8 ≤ 603072) (hn9 : n + 256 ≤ 7211114) (q qm : Nat → Nat) (un : Nat → Nat) (ui : Nat → Int32) (ul : Nat → Int64) (ua : Nat → Nat → Int32) (vc ex wo tp : Nat → Int32) (tf kf : Nat → Option Nat) (L : List Nat) (f : Nat → va_E) (ta ga ka : Nat → Nat) (co : Int32) (oa ob : Nat) (g : Nat → Int64) (gd : Nat → UInt64) (hI : INV un ui ua) (hPL : PL cA un ua L f tf kf ta ga ka) (hN : ∀ (un : Nat → Nat) (ui : Nat → Int32) (ul : Nat → Int64) (ua : Nat → Nat → Int32) (vc ex wo tp : Nat → Int32) (tf kf : Nat → Option Nat) (L : List Nat) (f : Nat → va_E) (ta ga ka : Nat → Nat) (co : Int32) (g : Nat → Int64) (gd : Nat → UInt64), INV un ui ua → PL cA un ua L f tf kf ta ga ka → J p l e (RM 2048 94400 603072 7211114) s m args below meth c 9 D A (mW cA qm un ui ul ua co ++ (((cF cA q un ui ul ua vc ex wo tp tf kf ++ va_pl L f) ++ [(oa, .inl (cA 4, 1, .inr (.inl g)))]) ++ [(ob, .inl (cA 5, 1, .inr (.inr (.inr (.inl gd)))))])) (k + 8) (n + 256) Q 2045 [(0, .ref bs), (1, .ref (q 0)), (2, .ref (qm 0)), (3, .ref oa), (4, .ref ob), (5, .int (nI i))] []) : J p l e (RM 2048 94400 603072 7211114) s m args below meth c 9 D A (mW cA qm un ui ul ua co ++ (((cF cA q un ui ul ua vc ex wo tp tf kf ++ va_pl L f) ++ [(oa, .inl (cA 4, 1, .inr (.inl g)))]) ++ [(ob, .inl (cA 5, 1, .inr (.inr (.inr (.inl gd)))))])) k n Q 1693 [(0, .ref bs), (1, .ref (q 0)), (2, .ref (qm 0)), (3, .ref oa), (4, .ref ob), (5, .int (nI i))] [] := by
  refine j_aload_n G dL_law_1693 rfl 1 rfl ?_
  refine jV_i G 6 16 (fw_i (cC_X6_dump l D cA q un ui ul ua vc ex wo tp tf kf L f ) (mW cA qm un ui ul ua co) ([(oa, .inl (cA 4, 1, .inr (.inl g)))] ++ [(ob, .inl (cA 5, 1, .inr (.inr (.inr (.inl gd)))))]) (by simp only [List.append_assoc])) gL_218 hd_X6_dump ⟨Nat.le_of_ble_eq_true rfl, Nat.le_of_ble_eq_true rfl⟩ ⟨by show _ ≤ 603072; omega, by show _ ≤ 7211114; omega⟩ rfl rfl (Nat.le_of_ble_eq_true rfl) rfl rfl dL_law_1694 (fun r w9 hq9 => ?_)
  obtain ⟨b1, ⟨hr9, hb9⟩, hw9⟩ := hq9
  subst hw9
  subst hb9
  subst hr9
  refine j_w (w' := mW cA qm un ui ul ua co ++ (((cF cA q un (up (up (up ui 1 0) 2 0) 4 0) (up (up ul 3 (ul 3 + (ui 1).toInt64)) 4 (ul 4 + (ui 2).toInt64)) ua vc ex wo tp tf kf ++ va_pl L f) ++ [(oa, .inl (cA 4, 1, .inr (.inl g)))]) ++ [(ob, .inl (cA 5, 1, .inr (.inr (.inr (.inl gd)))))])) (by simp only [List.append_assoc]) ?_
  refine j_aload_n G dL_law_1697 rfl 2 rfl ?_
  refine jV_i G 7 0 (fw_i (cM_dump l D cA qm un ui ul ua co  ) [] (((cF cA q un (up (up (up ui 1 0) 2 0) 4 0) (up (up ul 3 (ul 3 + (ui 1).toInt64)) 4 (ul 4 + (ui 2).toInt64)) ua vc ex wo tp tf kf ++ va_pl L f) ++ [(oa, .inl (cA 4, 1, .inr (.inl g)))]) ++ [(ob, .inl (cA 5, 1, .inr (.inr (.inr (.inl gd)))))]) rfl) gL_221 hd_X7_dump ⟨Nat.le_of_ble_eq_true rfl, Nat.le_of_ble_eq_true rfl⟩ ⟨by show _ ≤ 603072; omega, by show _ ≤ 7211114; omega⟩ rfl rfl (Nat.le_of_ble_eq_true rfl) rfl rfl dL_law_1698 (fun r w9 hq9 => ?_)
  obtain ⟨b1, hq8, hw9⟩ := hq9
  obtain ⟨hr9, hb9⟩ := hq8
  subst hw9
  subst hb9
  subst hr9
  refine j_w (w' := mW cA qm un (up (up (up ui 1 0) 2 0) 4 0) (up (up ul 3 (ul 3 + (ui 1).toInt64)) 4 (ul 4 + (ui 2).toInt64)) ua 0 ++ (((cF cA q un (up (up (up ui 1 0) 2 0) 4 0) (up (up ul 3 (ul 3 + (ui 1).toInt64)) 4 (ul 4 + (ui 2).toInt64)) ua vc ex wo tp tf kf ++ va_pl L f) ++ [(oa, .inl (cA 4, 1, .inr (.inl g)))]) ++ [(ob, .inl (cA 5, 1, .inr (.inr (.inr (.inl gd)))))])) rfl ?_
  refine j_icmp_eq (tgt := 2045) G dL_law_1701 (by decide) (fun c1701 => ?_) (fun c1701 => absurd rfl c1701)
  refine j_sub (lv' := [(0, .ref bs), (1, .ref (q 0)), (2, .ref (qm 0)), (3, .ref oa), (4, .ref ob), (5, .int (nI i))]) [0, 1, 2, 3, 4, 5] rfl ?_
  refine j_cs (k' := k + 8) (n' := n + 256) (by omega) (by omega) ?_
  refine j_w (w' := mW cA qm un (up (up (up ui 1 0) 2 0) 4 0) (up (up ul 3 (ul 3 + (ui 1).toInt64)) 4 (ul 4 + (ui 2).toInt64)) ua 0 ++ (((cF cA q un (up (up (up ui 1 0) 2 0) 4 0) (up (up ul 3 (ul 3 + (ui 1).toInt64)) 4 (ul 4 + (ui 2).toInt64)) ua vc ex wo tp tf kf ++ va_pl L f) ++ [(oa, .inl (cA 4, 1, .inr (.inl g)))]) ++ [(ob, .inl (cA 5, 1, .inr (.inr (.inr (.inl gd)))))])) rfl ?_
  exact hN un (up (up (up ui 1 0) 2 0) 4 0) (up (up ul 3 (ul 3 + (ui 1).toInt64)) 4 (ul 4 + (ui 2).toInt64)) ua vc ex wo tp tf kf L f ta ga ka 0 g gd hI.emptied hPL
set_option maxHeartbeats 4000000 in
set_option maxRecDepth 100000 in
theorem lw_batches {p : Program} {l : Launch} {e : Env} {s : State} {m : MethodId} {args : Array Value} {below : List Frame} {meth : Method} {c : Code} {D : va_G} {cA : Nat → ClassId} {A : Nat → Prop} {Q : State → Prop} {k n : Nat} (G : GX p s m args c cL_law 9 RL D cA A) (hfl : l.stackTraces = false) {bs Ls : Nat} {xs : Nat → Int32} (hX : va_X bs Ls xs s s.heap) (hbl : bs < s.heap.size) (hbA : ¬ A bs) (hLs : Ls ≤ 3072) {i : Nat} (hi : i + 5 < Ls) (hk : k + 8 ≤ 603072) (hn9 : n + 256 ≤ 7211114) (q qm : Nat → Nat) (un : Nat → Nat) (ui : Nat → Int32) (ul : Nat → Int64) (ua : Nat → Nat → Int32) (vc ex wo tp : Nat → Int32) (tf kf : Nat → Option Nat) (L : List Nat) (f : Nat → va_E) (ta ga ka : Nat → Nat) (co : Int32) (oa ob : Nat) (g : Nat → Int64) (gd : Nat → UInt64) (hI : INV un ui ua) (hPL : PL cA un ua L f tf kf ta ga ka) (hN : ∀ (un : Nat → Nat) (ui : Nat → Int32) (ul : Nat → Int64) (ua : Nat → Nat → Int32) (vc ex wo tp : Nat → Int32) (tf kf : Nat → Option Nat) (L : List Nat) (f : Nat → va_E) (ta ga ka : Nat → Nat) (co : Int32) (g : Nat → Int64) (gd : Nat → UInt64), INV un ui ua → PL cA un ua L f tf kf ta ga ka → J p l e (RM 2048 94400 603072 7211114) s m args below meth c 9 D A (mW cA qm un ui ul ua co ++ (((cF cA q un ui ul ua vc ex wo tp tf kf ++ va_pl L f) ++ [(oa, .inl (cA 4, 1, .inr (.inl g)))]) ++ [(ob, .inl (cA 5, 1, .inr (.inr (.inr (.inl gd)))))])) (k + 8) (n + 256) Q 2045 [(0, .ref bs), (1, .ref (q 0)), (2, .ref (qm 0)), (3, .ref oa), (4, .ref ob), (5, .int (nI i))] []) : J p l e (RM 2048 94400 603072 7211114) s m args below meth c 9 D A (mW cA qm un ui ul ua co ++ (((cF cA q un ui ul ua vc ex wo tp tf kf ++ va_pl L f) ++ [(oa, .inl (cA 4, 1, .inr (.inl g)))]) ++ [(ob, .inl (cA 5, 1, .inr (.inr (.inr (.inl gd)))))])) k n Q 1706 [(0, .ref bs), (1, .ref (q 0)), (2, .ref (qm 0)), (3, .ref oa), (4, .ref ob), (5, .int (nI i))] [] := by
  refine j_aload_n G dL_law_1706 rfl 1 rfl ?_
  refine jV_i G 6 16 (fw_i (cC_X6_batches l D cA q un ui ul ua vc ex wo tp tf kf L f ) (mW cA qm un ui ul ua co) ([(oa, .inl (cA 4, 1, .inr (.inl g)))] ++ [(ob, .inl (cA 5, 1, .inr (.inr (.inr (.inl gd)))))]) (by simp only [List.append_assoc])) gL_222 hd_X6_batches ⟨Nat.le_of_ble_eq_true rfl, Nat.le_of_ble_eq_true rfl⟩ ⟨by show _ ≤ 603072; omega, by show _ ≤ 7211114; omega⟩ rfl rfl (Nat.le_of_ble_eq_true rfl) rfl rfl dL_law_1707 (fun r w9 hq9 => ?_)
  obtain ⟨b1, ⟨hr9, hb9⟩, hw9⟩ := hq9
  subst hw9
  subst hb9
  subst hr9
  refine j_w (w' := mW cA qm un ui ul ua co ++ (((cF cA q un ui ul ua vc ex wo tp tf kf ++ va_pl L f) ++ [(oa, .inl (cA 4, 1, .inr (.inl g)))]) ++ [(ob, .inl (cA 5, 1, .inr (.inr (.inr (.inl gd)))))])) (by simp only [List.append_assoc]) ?_
  refine j_aload_n G dL_law_1710 rfl 2 rfl ?_
  refine jV_i G 7 0 (fw_i (cM_batches l D cA qm un ui ul ua co  ) [] (((cF cA q un ui ul ua vc ex wo tp tf kf ++ va_pl L f) ++ [(oa, .inl (cA 4, 1, .inr (.inl g)))]) ++ [(ob, .inl (cA 5, 1, .inr (.inr (.inr (.inl gd)))))]) rfl) gL_225 hd_X7_batches ⟨Nat.le_of_ble_eq_true rfl, Nat.le_of_ble_eq_true rfl⟩ ⟨by show _ ≤ 603072; omega, by show _ ≤ 7211114; omega⟩ rfl rfl (Nat.le_of_ble_eq_true rfl) rfl rfl dL_law_1711 (fun r w9 hq9 => ?_)
  obtain ⟨b1, hq8, hw9⟩ := hq9
  obtain ⟨hr9, hb9⟩ := hq8
  subst hw9
  subst hb9
  subst hr9
  refine j_w (w' := mW cA qm un ui ul ua 0 ++ (((cF cA q un ui ul ua vc ex wo tp tf kf ++ va_pl L f) ++ [(oa, .inl (cA 4, 1, .inr (.inl g)))]) ++ [(ob, .inl (cA 5, 1, .inr (.inr (.inr (.inl gd)))))])) rfl ?_
  refine j_icmp_eq (tgt := 2045) G dL_law_1714 (by decide) (fun c1714 => ?_) (fun c1714 => absurd rfl c1714)
  refine j_sub (lv' := [(0, .ref bs), (1, .ref (q 0)), (2, .ref (qm 0)), (3, .ref oa), (4, .ref ob), (5, .int (nI i))]) [0, 1, 2, 3, 4, 5] rfl ?_
  refine j_cs (k' := k + 8) (n' := n + 256) (by omega) (by omega) ?_
  refine j_w (w' := mW cA qm un ui ul ua 0 ++ (((cF cA q un ui ul ua vc ex wo tp tf kf ++ va_pl L f) ++ [(oa, .inl (cA 4, 1, .inr (.inl g)))]) ++ [(ob, .inl (cA 5, 1, .inr (.inr (.inr (.inl gd)))))])) rfl ?_
  exact hN un ui ul ua vc ex wo tp tf kf L f ta ga ka 0 g gd hI hPL
set_option maxHeartbeats 4000000 in
set_option maxRecDepth 100000 in
theorem lw_batchVolume {p : Program} {l : Launch} {e : Env} {s : State} {m : MethodId} {args : Array Value} {below : List Frame} {meth : Method} {c : Code} {D : va_G} {cA : Nat → ClassId} {A : Nat → Prop} {Q : State → Prop} {k n : Nat} (G : GX p s m args c cL_law 9 RL D cA A) (hfl : l.stackTraces = false) {bs Ls : Nat} {xs : Nat → Int32} (hX : va_X bs Ls xs s s.heap) (hbl : bs < s.heap.size) (hbA : ¬ A bs) (hLs : Ls ≤ 3072) {i : Nat} (hi : i + 5 < Ls) (hk : k + 8 ≤ 603072) (hn9 : n + 256 ≤ 7211114) (q qm : Nat → Nat) (un : Nat → Nat) (ui : Nat → Int32) (ul : Nat → Int64) (ua : Nat → Nat → Int32) (vc ex wo tp : Nat → Int32) (tf kf : Nat → Option Nat) (L : List Nat) (f : Nat → va_E) (ta ga ka : Nat → Nat) (co : Int32) (oa ob : Nat) (g : Nat → Int64) (gd : Nat → UInt64) (hI : INV un ui ua) (hPL : PL cA un ua L f tf kf ta ga ka) (hN : ∀ (un : Nat → Nat) (ui : Nat → Int32) (ul : Nat → Int64) (ua : Nat → Nat → Int32) (vc ex wo tp : Nat → Int32) (tf kf : Nat → Option Nat) (L : List Nat) (f : Nat → va_E) (ta ga ka : Nat → Nat) (co : Int32) (g : Nat → Int64) (gd : Nat → UInt64), INV un ui ua → PL cA un ua L f tf kf ta ga ka → J p l e (RM 2048 94400 603072 7211114) s m args below meth c 9 D A (mW cA qm un ui ul ua co ++ (((cF cA q un ui ul ua vc ex wo tp tf kf ++ va_pl L f) ++ [(oa, .inl (cA 4, 1, .inr (.inl g)))]) ++ [(ob, .inl (cA 5, 1, .inr (.inr (.inr (.inl gd)))))])) (k + 8) (n + 256) Q 2045 [(0, .ref bs), (1, .ref (q 0)), (2, .ref (qm 0)), (3, .ref oa), (4, .ref ob), (5, .int (nI i))] []) : J p l e (RM 2048 94400 603072 7211114) s m args below meth c 9 D A (mW cA qm un ui ul ua co ++ (((cF cA q un ui ul ua vc ex wo tp tf kf ++ va_pl L f) ++ [(oa, .inl (cA 4, 1, .inr (.inl g)))]) ++ [(ob, .inl (cA 5, 1, .inr (.inr (.inr (.inl gd)))))])) k n Q 1719 [(0, .ref bs), (1, .ref (q 0)), (2, .ref (qm 0)), (3, .ref oa), (4, .ref ob), (5, .int (nI i))] [] := by
  refine j_aload_n G dL_law_1719 rfl 1 rfl ?_
  refine j_aload_n G dL_law_1720 rfl 0 rfl ?_
  refine j_iload G dL_law_1721 5 rfl ?_
  refine j_iconst (v := 1) G dL_law_1723 (by decide) ?_
  refine j_iadd G dL_law_1724 ?_
  refine j_rwi (nI_add i 1) ?_
  refine j_sldN (j := i + 1) G hX hbl hbA (by omega) (by omega) dL_law_1725 ?_
  refine j_aload_n G dL_law_1726 rfl 3 rfl ?_
  refine jSW_i G (fw_W (cW_batchVolume l D cA (b0 := cF cA q un ui ul ua vc ex wo tp tf kf ++ va_pl L f) rfl (xs (i + 1)) g (cC_X6_batchVolume l D cA hfl q un ui ul ua vc ex wo tp tf kf L f (xs (i + 1)) hI.1.2.2.2.2) (fun E8 b8 h8 => congrArg Prod.fst h8.2)) (mW cA qm un ui ul ua co) [(ob, .inl (cA 5, 1, .inr (.inr (.inr (.inl gd)))))] (List.append_assoc _ _ _).symm) (gw_batchVolume wd_839) hd_L_batchVolume.2 ⟨Nat.le_of_ble_eq_true rfl, Nat.le_of_ble_eq_true rfl⟩ ⟨by show _ ≤ 603072; omega, by show _ ≤ 7211114; omega⟩ rfl rfl (Nat.le_of_ble_eq_true rfl) dL_law_1727 (fun r w9 hq9 => ?_)
  obtain ⟨b1, hq8, hw9⟩ := hq9
  rcases hq8 with ⟨v9, b2, hp9, hr9, hb9⟩ | ⟨E9, b2, hp9, hd9, hb9⟩
  · obtain ⟨hok, hv9, hb8⟩ := hp9
    subst hw9
    subst hb9
    subst hr9
    subst hb8
    subst hv9
    have hcf : cfTank (un 3) (xs (i + 1)) = 0 := (if_pos hok)
    refine j_w (w' := mW cA qm un ui ul ua co ++ (((cF cA q un ui ul ua vc ex wo tp tf kf ++ va_pl L f) ++ [(oa, .inl (cA 4, 1, .inr (.inl (vp_updL g 0 (ua 12 (xs (i + 1)).toNatClampNeg).toInt64))))]) ++ [(ob, .inl (cA 5, 1, .inr (.inr (.inr (.inl gd)))))])) (List.append_assoc _ _ _) ?_
    refine j_istore (lv' := [(6, .int 0), (0, .ref bs), (1, .ref (q 0)), (2, .ref (qm 0)), (3, .ref oa), (4, .ref ob), (5, .int (nI i))]) G dL_law_1730 (by decide) rfl ?_
    refine j_aload_n G dL_law_1732 rfl 3 rfl ?_
    refine j_aload_n G dL_law_1733 rfl 1 rfl ?_
    refine j_iload G dL_law_1734 6 rfl ?_
    refine j_iconst (v := 1) G dL_law_1736 (by decide) ?_
    refine j_iadd G dL_law_1737 ?_
    refine j_rwi (nI_add i 1) ?_
    refine j_sldN (j := i + 1) G hX hbl hbA (by omega) (by omega) dL_law_1738 ?_
    refine jV_i G 7 0 (fw_i (cM_batchVolume l D cA qm un ui ul ua co (xs (i + 1)) hI.1.2.2.2.2) [] (((cF cA q un ui ul ua vc ex wo tp tf kf ++ va_pl L f) ++ [(oa, .inl (cA 4, 1, .inr (.inl (vp_updL g 0 (ua 12 (xs (i + 1)).toNatClampNeg).toInt64))))]) ++ [(ob, .inl (cA 5, 1, .inr (.inr (.inr (.inl gd)))))]) rfl) gL_228 hd_X7_batchVolume ⟨Nat.le_of_ble_eq_true rfl, Nat.le_of_ble_eq_true rfl⟩ ⟨by show _ ≤ 603072; omega, by show _ ≤ 7211114; omega⟩ rfl rfl (Nat.le_of_ble_eq_true rfl) rfl rfl dL_law_1739 (fun r w9 hq9 => ?_)
    obtain ⟨b1, hq8, hw9⟩ := hq9
    rcases hq8 with ⟨hc9, hr9, hb9⟩ | ⟨hc9, hb9⟩
    · subst hw9
      subst hb9
      subst hr9
      refine j_w (w' := mW cA qm un ui ul ua 0 ++ (((cF cA q un ui ul ua vc ex wo tp tf kf ++ va_pl L f) ++ [(oa, .inl (cA 4, 1, .inr (.inl (vp_updL g 0 (ua 12 (xs (i + 1)).toNatClampNeg).toInt64))))]) ++ [(ob, .inl (cA 5, 1, .inr (.inr (.inr (.inl gd)))))])) rfl ?_
      refine j_istore (lv' := [(7, .int (ua 12 (xs (i + 1)).toNatClampNeg)), (6, .int 0), (0, .ref bs), (1, .ref (q 0)), (2, .ref (qm 0)), (3, .ref oa), (4, .ref ob), (5, .int (nI i))]) G dL_law_1742 (by decide) rfl ?_
      refine j_aload_n G dL_law_1744 rfl 4 rfl ?_
      refine jV_i G 7 0 (fw_i (cM_thrown l D cA qm un ui ul ua 0  ) [] (((cF cA q un ui ul ua vc ex wo tp tf kf ++ va_pl L f) ++ [(oa, .inl (cA 4, 1, .inr (.inl (vp_updL g 0 (ua 12 (xs (i + 1)).toNatClampNeg).toInt64))))]) ++ [(ob, .inl (cA 5, 1, .inr (.inr (.inr (.inl gd)))))]) rfl) gL_122 hd_X7_thrown ⟨Nat.le_of_ble_eq_true rfl, Nat.le_of_ble_eq_true rfl⟩ ⟨by show _ ≤ 603072; omega, by show _ ≤ 7211114; omega⟩ rfl rfl (Nat.le_of_ble_eq_true rfl) rfl rfl dL_law_1745 (fun r w9 hq9 => ?_)
      obtain ⟨b1, hq8, hw9⟩ := hq9
      obtain ⟨hr9, hb9⟩ := hq8
      subst hw9
      subst hb9
      subst hr9
      refine j_w (w' := mW cA qm un ui ul ua 0 ++ (((cF cA q un ui ul ua vc ex wo tp tf kf ++ va_pl L f) ++ [(oa, .inl (cA 4, 1, .inr (.inl (vp_updL g 0 (ua 12 (xs (i + 1)).toNatClampNeg).toInt64))))]) ++ [(ob, .inl (cA 5, 1, .inr (.inr (.inr (.inl gd)))))])) rfl ?_
      refine j_iload G dL_law_1748 1 rfl ?_
      refine j_icmp_eq (tgt := 1755) G dL_law_1750 (by decide) (fun c1750 => ?_) (fun c1750 => absurd rfl c1750)
      refine j_iload G dL_law_1755 1 rfl ?_
      refine j_if_ne (tgt := 1772) G dL_law_1757 (by decide) (fun c1757 => absurd c1757 (by decide)) (fun _ => ?_)
      refine j_aload_n G dL_law_1760 rfl 5 rfl ?_
      refine j_iconst (v := 0) G dL_law_1761 (by decide) ?_
      refine j_lald G _ wq_o (show vp_in (nI 0) 1 from vp_in_nI (by decide) (by decide)) dL_law_1762 ?_
      refine j_rwl (show _ = (ua 12 (xs (i + 1)).toNatClampNeg).toInt64 from rfl) ?_
      refine j_iload G dL_law_1763 0 rfl ?_
      refine j_i2l G dL_law_1765 ?_
      refine j_lcmp G dL_law_1766 ?_
      refine j_if_eq (tgt := 1772) G dL_law_1767 (by decide) (fun c1767 => ?_) (fun c1767 => absurd (lgz.mpr rfl) c1767)
      refine j_goto (tgt := 2045) G dL_law_1772 (by decide) ?_
      refine j_sub (lv' := [(0, .ref bs), (1, .ref (q 0)), (2, .ref (qm 0)), (3, .ref oa), (4, .ref ob), (5, .int (nI i))]) [2, 3, 4, 5, 6, 7] rfl ?_
      refine j_cs (k' := k + 8) (n' := n + 256) (by omega) (by omega) ?_
      refine j_w (w' := mW cA qm un ui ul ua 0 ++ (((cF cA q un ui ul ua vc ex wo tp tf kf ++ va_pl L f) ++ [(oa, .inl (cA 4, 1, .inr (.inl (vp_updL g 0 (ua 12 (xs (i + 1)).toNatClampNeg).toInt64))))]) ++ [(ob, .inl (cA 5, 1, .inr (.inr (.inr (.inl gd)))))])) rfl ?_
      exact hN un ui ul ua vc ex wo tp tf kf L f ta ga ka 0 (vp_updL g 0 (ua 12 (xs (i + 1)).toNatClampNeg).toInt64) gd hI hPL
    · exact absurd hcf hc9
  · obtain ⟨hc, he⟩ := hp9
    cases he
    have hr9 : r = 1 := hd9.2
    subst hw9
    subst hb9
    subst hr9
    have hcf : cfTank (un 3) (xs (i + 1)) = 1 := (if_neg hc)
    refine j_w (w' := mW cA qm un ui ul ua co ++ (((cF cA q un ui ul ua vc ex wo tp tf kf ++ va_pl L f) ++ [(oa, .inl (cA 4, 1, .inr (.inl g)))]) ++ [(ob, .inl (cA 5, 1, .inr (.inr (.inr (.inl gd)))))])) (List.append_assoc _ _ _) ?_
    refine j_istore (lv' := [(6, .int 1), (0, .ref bs), (1, .ref (q 0)), (2, .ref (qm 0)), (3, .ref oa), (4, .ref ob), (5, .int (nI i))]) G dL_law_1730 (by decide) rfl ?_
    refine j_aload_n G dL_law_1732 rfl 3 rfl ?_
    refine j_aload_n G dL_law_1733 rfl 1 rfl ?_
    refine j_iload G dL_law_1734 6 rfl ?_
    refine j_iconst (v := 1) G dL_law_1736 (by decide) ?_
    refine j_iadd G dL_law_1737 ?_
    refine j_rwi (nI_add i 1) ?_
    refine j_sldN (j := i + 1) G hX hbl hbA (by omega) (by omega) dL_law_1738 ?_
    refine jV_i G 7 0 (fw_i (cM_batchVolume l D cA qm un ui ul ua co (xs (i + 1)) hI.1.2.2.2.2) [] (((cF cA q un ui ul ua vc ex wo tp tf kf ++ va_pl L f) ++ [(oa, .inl (cA 4, 1, .inr (.inl g)))]) ++ [(ob, .inl (cA 5, 1, .inr (.inr (.inr (.inl gd)))))]) rfl) gL_228 hd_X7_batchVolume ⟨Nat.le_of_ble_eq_true rfl, Nat.le_of_ble_eq_true rfl⟩ ⟨by show _ ≤ 603072; omega, by show _ ≤ 7211114; omega⟩ rfl rfl (Nat.le_of_ble_eq_true rfl) rfl rfl dL_law_1739 (fun r w9 hq9 => ?_)
    obtain ⟨b1, hq8, hw9⟩ := hq9
    rcases hq8 with ⟨hc9, hr9, hb9⟩ | ⟨hc9, hb9⟩
    · exact absurd (hcf.symm.trans hc9) (by decide)
    · rw [hcf] at hb9
      subst hw9
      subst hb9
      refine j_w (w' := mW cA qm un ui ul ua 1 ++ (((cF cA q un ui ul ua vc ex wo tp tf kf ++ va_pl L f) ++ [(oa, .inl (cA 4, 1, .inr (.inl g)))]) ++ [(ob, .inl (cA 5, 1, .inr (.inr (.inr (.inl gd)))))])) rfl ?_
      refine j_istore (lv' := [(7, .int r), (6, .int 1), (0, .ref bs), (1, .ref (q 0)), (2, .ref (qm 0)), (3, .ref oa), (4, .ref ob), (5, .int (nI i))]) G dL_law_1742 (by decide) rfl ?_
      refine j_aload_n G dL_law_1744 rfl 4 rfl ?_
      refine jV_i G 7 0 (fw_i (cM_thrown l D cA qm un ui ul ua 1  ) [] (((cF cA q un ui ul ua vc ex wo tp tf kf ++ va_pl L f) ++ [(oa, .inl (cA 4, 1, .inr (.inl g)))]) ++ [(ob, .inl (cA 5, 1, .inr (.inr (.inr (.inl gd)))))]) rfl) gL_122 hd_X7_thrown ⟨Nat.le_of_ble_eq_true rfl, Nat.le_of_ble_eq_true rfl⟩ ⟨by show _ ≤ 603072; omega, by show _ ≤ 7211114; omega⟩ rfl rfl (Nat.le_of_ble_eq_true rfl) rfl rfl dL_law_1745 (fun r w9 hq9 => ?_)
      obtain ⟨b1, hq8, hw9⟩ := hq9
      obtain ⟨hr9, hb9⟩ := hq8
      subst hw9
      subst hb9
      subst hr9
      refine j_w (w' := mW cA qm un ui ul ua 1 ++ (((cF cA q un ui ul ua vc ex wo tp tf kf ++ va_pl L f) ++ [(oa, .inl (cA 4, 1, .inr (.inl g)))]) ++ [(ob, .inl (cA 5, 1, .inr (.inr (.inr (.inl gd)))))])) rfl ?_
      refine j_iload G dL_law_1748 1 rfl ?_
      refine j_icmp_eq (tgt := 1755) G dL_law_1750 (by decide) (fun c1750 => ?_) (fun c1750 => absurd rfl c1750)
      refine j_iload G dL_law_1755 1 rfl ?_
      refine j_if_ne (tgt := 1772) G dL_law_1757 (by decide) (fun _ => ?_) (fun c1757 => absurd c1757 (by decide))
      refine j_goto (tgt := 2045) G dL_law_1772 (by decide) ?_
      refine j_sub (lv' := [(0, .ref bs), (1, .ref (q 0)), (2, .ref (qm 0)), (3, .ref oa), (4, .ref ob), (5, .int (nI i))]) [2, 3, 4, 5, 6, 7] rfl ?_
      refine j_cs (k' := k + 8) (n' := n + 256) (by omega) (by omega) ?_
      refine j_w (w' := mW cA qm un ui ul ua 1 ++ (((cF cA q un ui ul ua vc ex wo tp tf kf ++ va_pl L f) ++ [(oa, .inl (cA 4, 1, .inr (.inl g)))]) ++ [(ob, .inl (cA 5, 1, .inr (.inr (.inr (.inl gd)))))])) rfl ?_
      exact hN un ui ul ua vc ex wo tp tf kf L f ta ga ka 1 g gd hI hPL
