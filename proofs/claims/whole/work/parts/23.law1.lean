/-! THE LAW, case by case (printed by gen_law.py) -/
theorem PL_addJ {cA : Nat → ClassId} {un : Nat → Nat} {ui : Nat → Int32} {ua : Nat → Nat → Int32} {L : List Nat} {f : Nat → va_E} {tf kf : Nat → Option Nat} {ta ga ka : Nat → Nat} {pr dp : Int32} (hI : INV un ui ua) (hok : cfAdd (un 0) (ua 0) pr (RG 0 20 dp) = 0) (h : PL cA un ua L f tf kf ta ga ka) : PL cA (up un 0 (un 0 + 1)) (up (up (up ua 0 (upd (ua 0) (un 0) 1)) 1 (upd (ua 1) (un 0) pr)) 2 (upd (ua 2) (un 0) dp)) L f tf kf ta ga ka := by
  refine PL_g.mpr ((PL_g.mp h).re (fun j hj => ?_) (fun _ _ _ => ⟨rfl, rfl, rfl, rfl, rfl, fun _ _ => rfl⟩) (fun _ _ => ⟨rfl, rfl, rfl⟩))
  show upd (ua 0) (un 0) 1 j = 2 ↔ ua 0 j = 2
  by_cases e : j = un 0
  · rw [e, pk_us]
    exact ⟨fun z => absurd z (by decide), fun z => absurd z (hI.2.2.2.2.2.1 (un 0) (Nat.le_refl _)).1⟩
  · rw [pk_un e]
theorem PL_drain {cA : Nat → ClassId} {un : Nat → Nat} {ua : Nat → Nat → Int32} {L : List Nat} {f : Nat → va_E} {tf kf : Nat → Option Nat} {ta ga ka : Nat → Nat} {t : Nat} (h : PL cA un ua L f tf kf ta ga ka) (ht : t < un 2) : PL cA un (up (up ua 10 (upd (ua 10) t 0)) 11 (upd (ua 11) t 0)) L (va_up f (ka t) (.inr (3, [.int (ua 9 t), .int (ua 10 t - ua 10 t), .int (ua 11 t - ua 11 t)]))) tf kf ta ga ka := by
  rw [Int32.sub_self, Int32.sub_self]
  exact PL_g.mpr ((PL_g.mp h).tank ht 0 0)
section LJ
variable {p : Program} {l : Launch} {e : Env} {R : Room} {s : State} {m : MethodId} {args : Array Value} {below : List Frame} {meth : Method} {c : Code} {D : va_G} {cA : Nat → ClassId} {A : Nat → Prop} {nL : Nat}
variable {w : va_W} {k n : Nat} {Q : State → Prop} {pc : Nat} {lv : List (Nat × Value)} {st : List Value} {cc : ByteArray} {own : String}
theorem j_sldN (G : GX p s m args c cc nL own D cA A) {b L : Nat} {xs : Nat → Int32} (hX : va_X b L xs s s.heap) (hbl : b < s.heap.size) (hbA : ¬ A b) {j : Nat} (hj : j < L) (hL : L < 2 ^ 31) (hdg : decode cc pc = .ok (.iaload, 1)) (K : J p l e R s m args below meth c nL D A w k n Q (pc + 1) lv (.int (xs j) :: st)) : J p l e R s m args below meth c nL D A w k n Q pc lv (.int (nI j) :: .ref b :: st) :=
  fun H locs ls hP hD hS hls => va_sld G.1 G.2.1 hX hbl hbA hS (vp_in_nI hj hL) hdg (by rw [nI_clamp (Nat.lt_trans hj hL)]; exact K H locs ls hP hD hS hls)
end LJ
/-- where the row of longs lies -/
theorem wq_o {a b c : va_W} {x : Nat × va_E} : (a ++ ((b ++ [x]) ++ c))[a.length + b.length]? = some x := by
  rw [List.getElem?_append_right (Nat.le_add_right _ _), Nat.add_sub_cancel_left, List.append_assoc, List.getElem?_append_right (Nat.le_refl _), Nat.sub_self]
  rfl
set_option maxHeartbeats 4000000 in
set_option maxRecDepth 100000 in
theorem lw_addJunction {p : Program} {l : Launch} {e : Env} {s : State} {m : MethodId} {args : Array Value} {below : List Frame} {meth : Method} {c : Code} {D : va_G} {cA : Nat → ClassId} {A : Nat → Prop} {Q : State → Prop} {k n : Nat} (G : GX p s m args c cL_law 9 RL D cA A) (hfl : l.stackTraces = false) {bs Ls : Nat} {xs : Nat → Int32} (hX : va_X bs Ls xs s s.heap) (hbl : bs < s.heap.size) (hbA : ¬ A bs) (hLs : Ls ≤ 3072) {i : Nat} (hi : i + 5 < Ls) (hk : k + 8 ≤ 603072) (hn9 : n + 256 ≤ 7211114) (q qm : Nat → Nat) (un : Nat → Nat) (ui : Nat → Int32) (ul : Nat → Int64) (ua : Nat → Nat → Int32) (vc ex wo tp : Nat → Int32) (tf kf : Nat → Option Nat) (L : List Nat) (f : Nat → va_E) (ta ga ka : Nat → Nat) (co : Int32) (oa ob : Nat) (g : Nat → Int64) (gd : Nat → UInt64) (hI : INV un ui ua) (hPL : PL cA un ua L f tf kf ta ga ka) (hN : ∀ (un : Nat → Nat) (ui : Nat → Int32) (ul : Nat → Int64) (ua : Nat → Nat → Int32) (vc ex wo tp : Nat → Int32) (tf kf : Nat → Option Nat) (L : List Nat) (f : Nat → va_E) (ta ga ka : Nat → Nat) (co : Int32) (g : Nat → Int64) (gd : Nat → UInt64), INV un ui ua → PL cA un ua L f tf kf ta ga ka → J p l e (RM 2048 94400 603072 7211114) s m args below meth c 9 D A (mW cA qm un ui ul ua co ++ (((cF cA q un ui ul ua vc ex wo tp tf kf ++ va_pl L f) ++ [(oa, .inl (cA 4, 1, .inr (.inl g)))]) ++ [(ob, .inl (cA 5, 1, .inr (.inr (.inr (.inl gd)))))])) (k + 8) (n + 256) Q 2045 [(0, .ref bs), (1, .ref (q 0)), (2, .ref (qm 0)), (3, .ref oa), (4, .ref ob), (5, .int (nI i))] []) : J p l e (RM 2048 94400 603072 7211114) s m args below meth c 9 D A (mW cA qm un ui ul ua co ++ (((cF cA q un ui ul ua vc ex wo tp tf kf ++ va_pl L f) ++ [(oa, .inl (cA 4, 1, .inr (.inl g)))]) ++ [(ob, .inl (cA 5, 1, .inr (.inr (.inr (.inl gd)))))])) k n Q 224 [(0, .ref bs), (1, .ref (q 0)), (2, .ref (qm 0)), (3, .ref oa), (4, .ref ob), (5, .int (nI i))] [] := by
  refine j_aload_n G dL_law_224 rfl 1 rfl ?_
  refine j_aload_n G dL_law_225 rfl 0 rfl ?_
  refine j_iload G dL_law_226 5 rfl ?_
  refine j_iconst (v := 1) G dL_law_228 (by decide) ?_
  refine j_iadd G dL_law_229 ?_
  refine j_rwi (nI_add i 1) ?_
  refine j_sldN (j := i + 1) G hX hbl hbA (by omega) (by omega) dL_law_230 ?_
  refine j_aload_n G dL_law_231 rfl 0 rfl ?_
  refine j_iload G dL_law_232 5 rfl ?_
  refine j_iconst (v := 2) G dL_law_234 (by decide) ?_
  refine j_iadd G dL_law_235 ?_
  refine j_rwi (nI_add i 2) ?_
  refine j_sldN (j := i + 2) G hX hbl hbA (by omega) (by omega) dL_law_236 ?_
  refine j_aload_n G dL_law_237 rfl 3 rfl ?_
  refine jSW_i G (fw_W (cW_addJunction l D cA (b0 := cF cA q un ui ul ua vc ex wo tp tf kf ++ va_pl L f) rfl (xs (i + 1)) (xs (i + 2)) g (cC_X6_addJunction l D cA hfl q un ui ul ua vc ex wo tp tf kf L f ta ga ka (xs (i + 1)) (xs (i + 2)) hI.1.2.1 hPL) (fun E8 b8 h8 => h8.elim (fun h8 => Or.inl (congrArg Prod.fst h8.2)) (fun h8 => h8.elim (fun h8 => Or.inr (Or.inl (congrArg Prod.fst h8.2))) (fun h8 => h8.elim (fun h8 => Or.inr (Or.inr (Or.inl (congrArg Prod.fst h8.2)))) (fun h8 => Or.inr (Or.inr (Or.inr ((congrArg Prod.fst h8.2))))))))) (mW cA qm un ui ul ua co) [(ob, .inl (cA 5, 1, .inr (.inr (.inr (.inl gd)))))] (List.append_assoc _ _ _).symm) (gw_addJunction wd_296) hd_L_addJunction.2 ⟨Nat.le_of_ble_eq_true rfl, Nat.le_of_ble_eq_true rfl⟩ ⟨by show _ ≤ 603072; omega, by show _ ≤ 7211114; omega⟩ rfl rfl (Nat.le_of_ble_eq_true rfl) dL_law_238 (fun r w9 hq9 => ?_)
  obtain ⟨b1, hq8, hw9⟩ := hq9
  rcases hq8 with ⟨v9, b2, hp9, hr9, hb9⟩ | ⟨E9, b2, hp9, hd9, hb9⟩
  · obtain ⟨hok, hv9, hb8⟩ := hp9
    subst hw9
    subst hb9
    subst hr9
    subst hb8
    subst hv9
    have hcf : cfAdd (un 0) (ua 0) (xs (i + 1)) (RG 0 20 (xs (i + 2))) = 0 := hok
    refine j_w (w' := mW cA qm un ui ul ua co ++ (((cF cA q (up un 0 (un 0 + 1)) ui ul (up (up ua 1 (upd (ua 1) (un 0) (xs (i + 1)))) 2 (upd (ua 2) (un 0) (xs (i + 2)))) vc ex wo tp tf kf ++ va_pl L f) ++ [(oa, .inl (cA 4, 1, .inr (.inl (vp_updL g 0 (nI (un 0)).toInt64))))]) ++ [(ob, .inl (cA 5, 1, .inr (.inr (.inr (.inl gd)))))])) (List.append_assoc _ _ _) ?_
    refine j_istore (lv' := [(6, .int 0), (0, .ref bs), (1, .ref (q 0)), (2, .ref (qm 0)), (3, .ref oa), (4, .ref ob), (5, .int (nI i))]) G dL_law_241 (by decide) rfl ?_
    refine j_aload_n G dL_law_243 rfl 3 rfl ?_
    refine j_aload_n G dL_law_244 rfl 1 rfl ?_
    refine j_iload G dL_law_245 6 rfl ?_
    refine j_iconst (v := 1) G dL_law_247 (by decide) ?_
    refine j_iadd G dL_law_248 ?_
    refine j_rwi (nI_add i 1) ?_
    refine j_sldN (j := i + 1) G hX hbl hbA (by omega) (by omega) dL_law_249 ?_
    refine j_aload_n G dL_law_250 rfl 1 rfl ?_
    refine j_iload G dL_law_251 6 rfl ?_
    refine j_iconst (v := 2) G dL_law_253 (by decide) ?_
    refine j_iadd G dL_law_254 ?_
    refine j_rwi (nI_add i 2) ?_
    refine j_sldN (j := i + 2) G hX hbl hbA (by omega) (by omega) dL_law_255 ?_
    refine jV_i G 7 0 (fw_i (cM_addJunction l D cA qm un ui ul ua co (xs (i + 1)) (xs (i + 2)) hI.1.2.1) [] (((cF cA q (up un 0 (un 0 + 1)) ui ul (up (up ua 1 (upd (ua 1) (un 0) (xs (i + 1)))) 2 (upd (ua 2) (un 0) (xs (i + 2)))) vc ex wo tp tf kf ++ va_pl L f) ++ [(oa, .inl (cA 4, 1, .inr (.inl (vp_updL g 0 (nI (un 0)).toInt64))))]) ++ [(ob, .inl (cA 5, 1, .inr (.inr (.inr (.inl gd)))))]) rfl) gL_121 hd_X7_addJunction ⟨Nat.le_of_ble_eq_true rfl, Nat.le_of_ble_eq_true rfl⟩ ⟨by show _ ≤ 603072; omega, by show _ ≤ 7211114; omega⟩ rfl rfl (Nat.le_of_ble_eq_true rfl) rfl rfl dL_law_256 (fun r w9 hq9 => ?_)
    obtain ⟨b1, hq8, hw9⟩ := hq9
    rcases hq8 with ⟨hc9, hr9, hb9⟩ | ⟨hc9, hb9⟩
    · subst hw9
      subst hb9
      subst hr9
      refine j_w (w' := mW cA qm (up un 0 (un 0 + 1)) ui ul (up (up (up ua 0 (upd (ua 0) (un 0) 1)) 1 (upd (ua 1) (un 0) (xs (i + 1)))) 2 (upd (ua 2) (un 0) (xs (i + 2)))) 0 ++ (((cF cA q (up un 0 (un 0 + 1)) ui ul (up (up ua 1 (upd (ua 1) (un 0) (xs (i + 1)))) 2 (upd (ua 2) (un 0) (xs (i + 2)))) vc ex wo tp tf kf ++ va_pl L f) ++ [(oa, .inl (cA 4, 1, .inr (.inl (vp_updL g 0 (nI (un 0)).toInt64))))]) ++ [(ob, .inl (cA 5, 1, .inr (.inr (.inr (.inl gd)))))])) rfl ?_
      refine j_istore (lv' := [(7, .int (nI (un 0))), (6, .int 0), (0, .ref bs), (1, .ref (q 0)), (2, .ref (qm 0)), (3, .ref oa), (4, .ref ob), (5, .int (nI i))]) G dL_law_259 (by decide) rfl ?_
      refine j_aload_n G dL_law_261 rfl 4 rfl ?_
      refine jV_i G 7 0 (fw_i (cM_thrown l D cA qm (up un 0 (un 0 + 1)) ui ul (up (up (up ua 0 (upd (ua 0) (un 0) 1)) 1 (upd (ua 1) (un 0) (xs (i + 1)))) 2 (upd (ua 2) (un 0) (xs (i + 2)))) 0  ) [] (((cF cA q (up un 0 (un 0 + 1)) ui ul (up (up ua 1 (upd (ua 1) (un 0) (xs (i + 1)))) 2 (upd (ua 2) (un 0) (xs (i + 2)))) vc ex wo tp tf kf ++ va_pl L f) ++ [(oa, .inl (cA 4, 1, .inr (.inl (vp_updL g 0 (nI (un 0)).toInt64))))]) ++ [(ob, .inl (cA 5, 1, .inr (.inr (.inr (.inl gd)))))]) rfl) gL_122 hd_X7_thrown ⟨Nat.le_of_ble_eq_true rfl, Nat.le_of_ble_eq_true rfl⟩ ⟨by show _ ≤ 603072; omega, by show _ ≤ 7211114; omega⟩ rfl rfl (Nat.le_of_ble_eq_true rfl) rfl rfl dL_law_262 (fun r w9 hq9 => ?_)
      obtain ⟨b1, hq8, hw9⟩ := hq9
      obtain ⟨hr9, hb9⟩ := hq8
      subst hw9
      subst hb9
      subst hr9
      refine j_w (w' := mW cA qm (up un 0 (un 0 + 1)) ui ul (up (up (up ua 0 (upd (ua 0) (un 0) 1)) 1 (upd (ua 1) (un 0) (xs (i + 1)))) 2 (upd (ua 2) (un 0) (xs (i + 2)))) 0 ++ (((cF cA q (up un 0 (un 0 + 1)) ui ul (up (up ua 1 (upd (ua 1) (un 0) (xs (i + 1)))) 2 (upd (ua 2) (un 0) (xs (i + 2)))) vc ex wo tp tf kf ++ va_pl L f) ++ [(oa, .inl (cA 4, 1, .inr (.inl (vp_updL g 0 (nI (un 0)).toInt64))))]) ++ [(ob, .inl (cA 5, 1, .inr (.inr (.inr (.inl gd)))))])) rfl ?_
      refine j_iload G dL_law_265 1 rfl ?_
      refine j_icmp_eq (tgt := 272) G dL_law_267 (by decide) (fun c267 => ?_) (fun c267 => absurd rfl c267)
      refine j_iload G dL_law_272 1 rfl ?_
      refine j_if_ne (tgt := 289) G dL_law_274 (by decide) (fun c274 => absurd c274 (by decide)) (fun _ => ?_)
      refine j_aload_n G dL_law_277 rfl 5 rfl ?_
      refine j_iconst (v := 0) G dL_law_278 (by decide) ?_
      refine j_lald G _ wq_o (show vp_in (nI 0) 1 from vp_in_nI (by decide) (by decide)) dL_law_279 ?_
      refine j_rwl (show _ = (nI (un 0)).toInt64 from rfl) ?_
      refine j_iload G dL_law_280 0 rfl ?_
      refine j_i2l G dL_law_282 ?_
      refine j_lcmp G dL_law_283 ?_
      refine j_if_eq (tgt := 289) G dL_law_284 (by decide) (fun c284 => ?_) (fun c284 => absurd (lgz.mpr rfl) c284)
      refine j_goto (tgt := 2045) G dL_law_289 (by decide) ?_
      refine j_sub (lv' := [(0, .ref bs), (1, .ref (q 0)), (2, .ref (qm 0)), (3, .ref oa), (4, .ref ob), (5, .int (nI i))]) [2, 3, 4, 5, 6, 7] rfl ?_
      refine j_cs (k' := k + 8) (n' := n + 256) (by omega) (by omega) ?_
      refine j_w (w' := mW cA qm (up un 0 (un 0 + 1)) ui ul (up (up (up ua 0 (upd (ua 0) (un 0) 1)) 1 (upd (ua 1) (un 0) (xs (i + 1)))) 2 (upd (ua 2) (un 0) (xs (i + 2)))) 0 ++ (((cF cA q (up un 0 (un 0 + 1)) ui ul (up (up (up ua 0 (upd (ua 0) (un 0) 1)) 1 (upd (ua 1) (un 0) (xs (i + 1)))) 2 (upd (ua 2) (un 0) (xs (i + 2)))) vc ex wo tp tf kf ++ va_pl L f) ++ [(oa, .inl (cA 4, 1, .inr (.inl (vp_updL g 0 (nI (un 0)).toInt64))))]) ++ [(ob, .inl (cA 5, 1, .inr (.inr (.inr (.inl gd)))))])) rfl ?_
      exact hN (up un 0 (un 0 + 1)) ui ul (up (up (up ua 0 (upd (ua 0) (un 0) 1)) 1 (upd (ua 1) (un 0) (xs (i + 1)))) 2 (upd (ua 2) (un 0) (xs (i + 2)))) vc ex wo tp tf kf L f ta ga ka 0 (vp_updL g 0 (nI (un 0)).toInt64) gd (hI.addJ hok) (PL_addJ hI hok hPL)
    · exact absurd hcf hc9
  · rcases hp9 with ⟨hc, he⟩ | ⟨hc, he⟩ | ⟨hc, he⟩ | ⟨hc, he⟩
    · cases he
      have hr9 : r = 1 := by rcases hd9 with ⟨h8, h7⟩ | ⟨h8, h7⟩ | ⟨h8, h7⟩ | ⟨h8, h7⟩ <;> first | exact h7 | exact absurd h8 (by decide)
      subst hw9
      subst hb9
      subst hr9
      have hcf : cfAdd (un 0) (ua 0) (xs (i + 1)) (RG 0 20 (xs (i + 2))) = 1 := hc
      refine j_w (w' := mW cA qm un ui ul ua co ++ (((cF cA q un ui ul ua vc ex wo tp tf kf ++ va_pl L f) ++ [(oa, .inl (cA 4, 1, .inr (.inl g)))]) ++ [(ob, .inl (cA 5, 1, .inr (.inr (.inr (.inl gd)))))])) (List.append_assoc _ _ _) ?_
      refine j_istore (lv' := [(6, .int 1), (0, .ref bs), (1, .ref (q 0)), (2, .ref (qm 0)), (3, .ref oa), (4, .ref ob), (5, .int (nI i))]) G dL_law_241 (by decide) rfl ?_
      refine j_aload_n G dL_law_243 rfl 3 rfl ?_
      refine j_aload_n G dL_law_244 rfl 1 rfl ?_
      refine j_iload G dL_law_245 6 rfl ?_
      refine j_iconst (v := 1) G dL_law_247 (by decide) ?_
      refine j_iadd G dL_law_248 ?_
      refine j_rwi (nI_add i 1) ?_
      refine j_sldN (j := i + 1) G hX hbl hbA (by omega) (by omega) dL_law_249 ?_
      refine j_aload_n G dL_law_250 rfl 1 rfl ?_
      refine j_iload G dL_law_251 6 rfl ?_
      refine j_iconst (v := 2) G dL_law_253 (by decide) ?_
      refine j_iadd G dL_law_254 ?_
      refine j_rwi (nI_add i 2) ?_
      refine j_sldN (j := i + 2) G hX hbl hbA (by omega) (by omega) dL_law_255 ?_
      refine jV_i G 7 0 (fw_i (cM_addJunction l D cA qm un ui ul ua co (xs (i + 1)) (xs (i + 2)) hI.1.2.1) [] (((cF cA q un ui ul ua vc ex wo tp tf kf ++ va_pl L f) ++ [(oa, .inl (cA 4, 1, .inr (.inl g)))]) ++ [(ob, .inl (cA 5, 1, .inr (.inr (.inr (.inl gd)))))]) rfl) gL_121 hd_X7_addJunction ⟨Nat.le_of_ble_eq_true rfl, Nat.le_of_ble_eq_true rfl⟩ ⟨by show _ ≤ 603072; omega, by show _ ≤ 7211114; omega⟩ rfl rfl (Nat.le_of_ble_eq_true rfl) rfl rfl dL_law_256 (fun r w9 hq9 => ?_)
      obtain ⟨b1, hq8, hw9⟩ := hq9
      rcases hq8 with ⟨hc9, hr9, hb9⟩ | ⟨hc9, hb9⟩
      · exact absurd (hcf.symm.trans hc9) (by decide)
      · rw [hcf] at hb9
        subst hw9
        subst hb9
        refine j_w (w' := mW cA qm un ui ul ua 1 ++ (((cF cA q un ui ul ua vc ex wo tp tf kf ++ va_pl L f) ++ [(oa, .inl (cA 4, 1, .inr (.inl g)))]) ++ [(ob, .inl (cA 5, 1, .inr (.inr (.inr (.inl gd)))))])) rfl ?_
        refine j_istore (lv' := [(7, .int r), (6, .int 1), (0, .ref bs), (1, .ref (q 0)), (2, .ref (qm 0)), (3, .ref oa), (4, .ref ob), (5, .int (nI i))]) G dL_law_259 (by decide) rfl ?_
        refine j_aload_n G dL_law_261 rfl 4 rfl ?_
        refine jV_i G 7 0 (fw_i (cM_thrown l D cA qm un ui ul ua 1  ) [] (((cF cA q un ui ul ua vc ex wo tp tf kf ++ va_pl L f) ++ [(oa, .inl (cA 4, 1, .inr (.inl g)))]) ++ [(ob, .inl (cA 5, 1, .inr (.inr (.inr (.inl gd)))))]) rfl) gL_122 hd_X7_thrown ⟨Nat.le_of_ble_eq_true rfl, Nat.le_of_ble_eq_true rfl⟩ ⟨by show _ ≤ 603072; omega, by show _ ≤ 7211114; omega⟩ rfl rfl (Nat.le_of_ble_eq_true rfl) rfl rfl dL_law_262 (fun r w9 hq9 => ?_)
        obtain ⟨b1, hq8, hw9⟩ := hq9
        obtain ⟨hr9, hb9⟩ := hq8
        subst hw9
        subst hb9
        subst hr9
        refine j_w (w' := mW cA qm un ui ul ua 1 ++ (((cF cA q un ui ul ua vc ex wo tp tf kf ++ va_pl L f) ++ [(oa, .inl (cA 4, 1, .inr (.inl g)))]) ++ [(ob, .inl (cA 5, 1, .inr (.inr (.inr (.inl gd)))))])) rfl ?_
        refine j_iload G dL_law_265 1 rfl ?_
        refine j_icmp_eq (tgt := 272) G dL_law_267 (by decide) (fun c267 => ?_) (fun c267 => absurd rfl c267)
        refine j_iload G dL_law_272 1 rfl ?_
        refine j_if_ne (tgt := 289) G dL_law_274 (by decide) (fun _ => ?_) (fun c274 => absurd c274 (by decide))
        refine j_goto (tgt := 2045) G dL_law_289 (by decide) ?_
        refine j_sub (lv' := [(0, .ref bs), (1, .ref (q 0)), (2, .ref (qm 0)), (3, .ref oa), (4, .ref ob), (5, .int (nI i))]) [2, 3, 4, 5, 6, 7] rfl ?_
        refine j_cs (k' := k + 8) (n' := n + 256) (by omega) (by omega) ?_
        refine j_w (w' := mW cA qm un ui ul ua 1 ++ (((cF cA q un ui ul ua vc ex wo tp tf kf ++ va_pl L f) ++ [(oa, .inl (cA 4, 1, .inr (.inl g)))]) ++ [(ob, .inl (cA 5, 1, .inr (.inr (.inr (.inl gd)))))])) rfl ?_
        exact hN un ui ul ua vc ex wo tp tf kf L f ta ga ka 1 g gd hI hPL
    · cases he
      have hr9 : r = 2 := by rcases hd9 with ⟨h8, h7⟩ | ⟨h8, h7⟩ | ⟨h8, h7⟩ | ⟨h8, h7⟩ <;> first | exact h7 | exact absurd h8 (by decide)
      subst hw9
      subst hb9
      subst hr9
      have hcf : cfAdd (un 0) (ua 0) (xs (i + 1)) (RG 0 20 (xs (i + 2))) = 2 := hc
      refine j_w (w' := mW cA qm un ui ul ua co ++ (((cF cA q un ui ul ua vc ex wo tp tf kf ++ va_pl L f) ++ [(oa, .inl (cA 4, 1, .inr (.inl g)))]) ++ [(ob, .inl (cA 5, 1, .inr (.inr (.inr (.inl gd)))))])) (List.append_assoc _ _ _) ?_
      refine j_istore (lv' := [(6, .int 2), (0, .ref bs), (1, .ref (q 0)), (2, .ref (qm 0)), (3, .ref oa), (4, .ref ob), (5, .int (nI i))]) G dL_law_241 (by decide) rfl ?_
      refine j_aload_n G dL_law_243 rfl 3 rfl ?_
      refine j_aload_n G dL_law_244 rfl 1 rfl ?_
      refine j_iload G dL_law_245 6 rfl ?_
      refine j_iconst (v := 1) G dL_law_247 (by decide) ?_
      refine j_iadd G dL_law_248 ?_
      refine j_rwi (nI_add i 1) ?_
      refine j_sldN (j := i + 1) G hX hbl hbA (by omega) (by omega) dL_law_249 ?_
      refine j_aload_n G dL_law_250 rfl 1 rfl ?_
      refine j_iload G dL_law_251 6 rfl ?_
      refine j_iconst (v := 2) G dL_law_253 (by decide) ?_
      refine j_iadd G dL_law_254 ?_
      refine j_rwi (nI_add i 2) ?_
      refine j_sldN (j := i + 2) G hX hbl hbA (by omega) (by omega) dL_law_255 ?_
      refine jV_i G 7 0 (fw_i (cM_addJunction l D cA qm un ui ul ua co (xs (i + 1)) (xs (i + 2)) hI.1.2.1) [] (((cF cA q un ui ul ua vc ex wo tp tf kf ++ va_pl L f) ++ [(oa, .inl (cA 4, 1, .inr (.inl g)))]) ++ [(ob, .inl (cA 5, 1, .inr (.inr (.inr (.inl gd)))))]) rfl) gL_121 hd_X7_addJunction ⟨Nat.le_of_ble_eq_true rfl, Nat.le_of_ble_eq_true rfl⟩ ⟨by show _ ≤ 603072; omega, by show _ ≤ 7211114; omega⟩ rfl rfl (Nat.le_of_ble_eq_true rfl) rfl rfl dL_law_256 (fun r w9 hq9 => ?_)
      obtain ⟨b1, hq8, hw9⟩ := hq9
      rcases hq8 with ⟨hc9, hr9, hb9⟩ | ⟨hc9, hb9⟩
      · exact absurd (hcf.symm.trans hc9) (by decide)
      · rw [hcf] at hb9
        subst hw9
        subst hb9
        refine j_w (w' := mW cA qm un ui ul ua 2 ++ (((cF cA q un ui ul ua vc ex wo tp tf kf ++ va_pl L f) ++ [(oa, .inl (cA 4, 1, .inr (.inl g)))]) ++ [(ob, .inl (cA 5, 1, .inr (.inr (.inr (.inl gd)))))])) rfl ?_
        refine j_istore (lv' := [(7, .int r), (6, .int 2), (0, .ref bs), (1, .ref (q 0)), (2, .ref (qm 0)), (3, .ref oa), (4, .ref ob), (5, .int (nI i))]) G dL_law_259 (by decide) rfl ?_
        refine j_aload_n G dL_law_261 rfl 4 rfl ?_
        refine jV_i G 7 0 (fw_i (cM_thrown l D cA qm un ui ul ua 2  ) [] (((cF cA q un ui ul ua vc ex wo tp tf kf ++ va_pl L f) ++ [(oa, .inl (cA 4, 1, .inr (.inl g)))]) ++ [(ob, .inl (cA 5, 1, .inr (.inr (.inr (.inl gd)))))]) rfl) gL_122 hd_X7_thrown ⟨Nat.le_of_ble_eq_true rfl, Nat.le_of_ble_eq_true rfl⟩ ⟨by show _ ≤ 603072; omega, by show _ ≤ 7211114; omega⟩ rfl rfl (Nat.le_of_ble_eq_true rfl) rfl rfl dL_law_262 (fun r w9 hq9 => ?_)
        obtain ⟨b1, hq8, hw9⟩ := hq9
        obtain ⟨hr9, hb9⟩ := hq8
        subst hw9
        subst hb9
        subst hr9
        refine j_w (w' := mW cA qm un ui ul ua 2 ++ (((cF cA q un ui ul ua vc ex wo tp tf kf ++ va_pl L f) ++ [(oa, .inl (cA 4, 1, .inr (.inl g)))]) ++ [(ob, .inl (cA 5, 1, .inr (.inr (.inr (.inl gd)))))])) rfl ?_
        refine j_iload G dL_law_265 1 rfl ?_
        refine j_icmp_eq (tgt := 272) G dL_law_267 (by decide) (fun c267 => ?_) (fun c267 => absurd rfl c267)
        refine j_iload G dL_law_272 1 rfl ?_
        refine j_if_ne (tgt := 289) G dL_law_274 (by decide) (fun _ => ?_) (fun c274 => absurd c274 (by decide))
        refine j_goto (tgt := 2045) G dL_law_289 (by decide) ?_
        refine j_sub (lv' := [(0, .ref bs), (1, .ref (q 0)), (2, .ref (qm 0)), (3, .ref oa), (4, .ref ob), (5, .int (nI i))]) [2, 3, 4, 5, 6, 7] rfl ?_
        refine j_cs (k' := k + 8) (n' := n + 256) (by omega) (by omega) ?_
        refine j_w (w' := mW cA qm un ui ul ua 2 ++ (((cF cA q un ui ul ua vc ex wo tp tf kf ++ va_pl L f) ++ [(oa, .inl (cA 4, 1, .inr (.inl g)))]) ++ [(ob, .inl (cA 5, 1, .inr (.inr (.inr (.inl gd)))))])) rfl ?_
        exact hN un ui ul ua vc ex wo tp tf kf L f ta ga ka 2 g gd hI hPL
    · cases he
      have hr9 : r = 3 := by rcases hd9 with ⟨h8, h7⟩ | ⟨h8, h7⟩ | ⟨h8, h7⟩ | ⟨h8, h7⟩ <;> first | exact h7 | exact absurd h8 (by decide)
      subst hw9
      subst hb9
      subst hr9
      have hcf : cfAdd (un 0) (ua 0) (xs (i + 1)) (RG 0 20 (xs (i + 2))) = 3 := hc
      refine j_w (w' := mW cA qm un ui ul ua co ++ (((cF cA q un ui ul ua vc ex wo tp tf kf ++ va_pl L f) ++ [(oa, .inl (cA 4, 1, .inr (.inl g)))]) ++ [(ob, .inl (cA 5, 1, .inr (.inr (.inr (.inl gd)))))])) (List.append_assoc _ _ _) ?_
      refine j_istore (lv' := [(6, .int 3), (0, .ref bs), (1, .ref (q 0)), (2, .ref (qm 0)), (3, .ref oa), (4, .ref ob), (5, .int (nI i))]) G dL_law_241 (by decide) rfl ?_
      refine j_aload_n G dL_law_243 rfl 3 rfl ?_
      refine j_aload_n G dL_law_244 rfl 1 rfl ?_
      refine j_iload G dL_law_245 6 rfl ?_
      refine j_iconst (v := 1) G dL_law_247 (by decide) ?_
      refine j_iadd G dL_law_248 ?_
      refine j_rwi (nI_add i 1) ?_
      refine j_sldN (j := i + 1) G hX hbl hbA (by omega) (by omega) dL_law_249 ?_
      refine j_aload_n G dL_law_250 rfl 1 rfl ?_
      refine j_iload G dL_law_251 6 rfl ?_
      refine j_iconst (v := 2) G dL_law_253 (by decide) ?_
      refine j_iadd G dL_law_254 ?_
      refine j_rwi (nI_add i 2) ?_
      refine j_sldN (j := i + 2) G hX hbl hbA (by omega) (by omega) dL_law_255 ?_
      refine jV_i G 7 0 (fw_i (cM_addJunction l D cA qm un ui ul ua co (xs (i + 1)) (xs (i + 2)) hI.1.2.1) [] (((cF cA q un ui ul ua vc ex wo tp tf kf ++ va_pl L f) ++ [(oa, .inl (cA 4, 1, .inr (.inl g)))]) ++ [(ob, .inl (cA 5, 1, .inr (.inr (.inr (.inl gd)))))]) rfl) gL_121 hd_X7_addJunction ⟨Nat.le_of_ble_eq_true rfl, Nat.le_of_ble_eq_true rfl⟩ ⟨by show _ ≤ 603072; omega, by show _ ≤ 7211114; omega⟩ rfl rfl (Nat.le_of_ble_eq_true rfl) rfl rfl dL_law_256 (fun r w9 hq9 => ?_)
      obtain ⟨b1, hq8, hw9⟩ := hq9
      rcases hq8 with ⟨hc9, hr9, hb9⟩ | ⟨hc9, hb9⟩
      · exact absurd (hcf.symm.trans hc9) (by decide)
      · rw [hcf] at hb9
        subst hw9
        subst hb9
        refine j_w (w' := mW cA qm un ui ul ua 3 ++ (((cF cA q un ui ul ua vc ex wo tp tf kf ++ va_pl L f) ++ [(oa, .inl (cA 4, 1, .inr (.inl g)))]) ++ [(ob, .inl (cA 5, 1, .inr (.inr (.inr (.inl gd)))))])) rfl ?_
        refine j_istore (lv' := [(7, .int r), (6, .int 3), (0, .ref bs), (1, .ref (q 0)), (2, .ref (qm 0)), (3, .ref oa), (4, .ref ob), (5, .int (nI i))]) G dL_law_259 (by decide) rfl ?_
        refine j_aload_n G dL_law_261 rfl 4 rfl ?_
        refine jV_i G 7 0 (fw_i (cM_thrown l D cA qm un ui ul ua 3  ) [] (((cF cA q un ui ul ua vc ex wo tp tf kf ++ va_pl L f) ++ [(oa, .inl (cA 4, 1, .inr (.inl g)))]) ++ [(ob, .inl (cA 5, 1, .inr (.inr (.inr (.inl gd)))))]) rfl) gL_122 hd_X7_thrown ⟨Nat.le_of_ble_eq_true rfl, Nat.le_of_ble_eq_true rfl⟩ ⟨by show _ ≤ 603072; omega, by show _ ≤ 7211114; omega⟩ rfl rfl (Nat.le_of_ble_eq_true rfl) rfl rfl dL_law_262 (fun r w9 hq9 => ?_)
        obtain ⟨b1, hq8, hw9⟩ := hq9
        obtain ⟨hr9, hb9⟩ := hq8
        subst hw9
        subst hb9
        subst hr9
        refine j_w (w' := mW cA qm un ui ul ua 3 ++ (((cF cA q un ui ul ua vc ex wo tp tf kf ++ va_pl L f) ++ [(oa, .inl (cA 4, 1, .inr (.inl g)))]) ++ [(ob, .inl (cA 5, 1, .inr (.inr (.inr (.inl gd)))))])) rfl ?_
        refine j_iload G dL_law_265 1 rfl ?_
        refine j_icmp_eq (tgt := 272) G dL_law_267 (by decide) (fun c267 => ?_) (fun c267 => absurd rfl c267)
        refine j_iload G dL_law_272 1 rfl ?_
        refine j_if_ne (tgt := 289) G dL_law_274 (by decide) (fun _ => ?_) (fun c274 => absurd c274 (by decide))
        refine j_goto (tgt := 2045) G dL_law_289 (by decide) ?_
        refine j_sub (lv' := [(0, .ref bs), (1, .ref (q 0)), (2, .ref (qm 0)), (3, .ref oa), (4, .ref ob), (5, .int (nI i))]) [2, 3, 4, 5, 6, 7] rfl ?_
        refine j_cs (k' := k + 8) (n' := n + 256) (by omega) (by omega) ?_
        refine j_w (w' := mW cA qm un ui ul ua 3 ++ (((cF cA q un ui ul ua vc ex wo tp tf kf ++ va_pl L f) ++ [(oa, .inl (cA 4, 1, .inr (.inl g)))]) ++ [(ob, .inl (cA 5, 1, .inr (.inr (.inr (.inl gd)))))])) rfl ?_
        exact hN un ui ul ua vc ex wo tp tf kf L f ta ga ka 3 g gd hI hPL
    · cases he
      have hr9 : r = 4 := by rcases hd9 with ⟨h8, h7⟩ | ⟨h8, h7⟩ | ⟨h8, h7⟩ | ⟨h8, h7⟩ <;> first | exact h7 | exact absurd h8 (by decide)
      subst hw9
      subst hb9
      subst hr9
      have hcf : cfAdd (un 0) (ua 0) (xs (i + 1)) (RG 0 20 (xs (i + 2))) = 4 := hc
      refine j_w (w' := mW cA qm un ui ul ua co ++ (((cF cA q un ui ul ua vc ex wo tp tf kf ++ va_pl L f) ++ [(oa, .inl (cA 4, 1, .inr (.inl g)))]) ++ [(ob, .inl (cA 5, 1, .inr (.inr (.inr (.inl gd)))))])) (List.append_assoc _ _ _) ?_
      refine j_istore (lv' := [(6, .int 4), (0, .ref bs), (1, .ref (q 0)), (2, .ref (qm 0)), (3, .ref oa), (4, .ref ob), (5, .int (nI i))]) G dL_law_241 (by decide) rfl ?_
      refine j_aload_n G dL_law_243 rfl 3 rfl ?_
      refine j_aload_n G dL_law_244 rfl 1 rfl ?_
      refine j_iload G dL_law_245 6 rfl ?_
      refine j_iconst (v := 1) G dL_law_247 (by decide) ?_
      refine j_iadd G dL_law_248 ?_
      refine j_rwi (nI_add i 1) ?_
      refine j_sldN (j := i + 1) G hX hbl hbA (by omega) (by omega) dL_law_249 ?_
      refine j_aload_n G dL_law_250 rfl 1 rfl ?_
      refine j_iload G dL_law_251 6 rfl ?_
      refine j_iconst (v := 2) G dL_law_253 (by decide) ?_
      refine j_iadd G dL_law_254 ?_
      refine j_rwi (nI_add i 2) ?_
      refine j_sldN (j := i + 2) G hX hbl hbA (by omega) (by omega) dL_law_255 ?_
      refine jV_i G 7 0 (fw_i (cM_addJunction l D cA qm un ui ul ua co (xs (i + 1)) (xs (i + 2)) hI.1.2.1) [] (((cF cA q un ui ul ua vc ex wo tp tf kf ++ va_pl L f) ++ [(oa, .inl (cA 4, 1, .inr (.inl g)))]) ++ [(ob, .inl (cA 5, 1, .inr (.inr (.inr (.inl gd)))))]) rfl) gL_121 hd_X7_addJunction ⟨Nat.le_of_ble_eq_true rfl, Nat.le_of_ble_eq_true rfl⟩ ⟨by show _ ≤ 603072; omega, by show _ ≤ 7211114; omega⟩ rfl rfl (Nat.le_of_ble_eq_true rfl) rfl rfl dL_law_256 (fun r w9 hq9 => ?_)
      obtain ⟨b1, hq8, hw9⟩ := hq9
      rcases hq8 with ⟨hc9, hr9, hb9⟩ | ⟨hc9, hb9⟩
      · exact absurd (hcf.symm.trans hc9) (by decide)
      · rw [hcf] at hb9
        subst hw9
        subst hb9
        refine j_w (w' := mW cA qm un ui ul ua 4 ++ (((cF cA q un ui ul ua vc ex wo tp tf kf ++ va_pl L f) ++ [(oa, .inl (cA 4, 1, .inr (.inl g)))]) ++ [(ob, .inl (cA 5, 1, .inr (.inr (.inr (.inl gd)))))])) rfl ?_
        refine j_istore (lv' := [(7, .int r), (6, .int 4), (0, .ref bs), (1, .ref (q 0)), (2, .ref (qm 0)), (3, .ref oa), (4, .ref ob), (5, .int (nI i))]) G dL_law_259 (by decide) rfl ?_
        refine j_aload_n G dL_law_261 rfl 4 rfl ?_
        refine jV_i G 7 0 (fw_i (cM_thrown l D cA qm un ui ul ua 4  ) [] (((cF cA q un ui ul ua vc ex wo tp tf kf ++ va_pl L f) ++ [(oa, .inl (cA 4, 1, .inr (.inl g)))]) ++ [(ob, .inl (cA 5, 1, .inr (.inr (.inr (.inl gd)))))]) rfl) gL_122 hd_X7_thrown ⟨Nat.le_of_ble_eq_true rfl, Nat.le_of_ble_eq_true rfl⟩ ⟨by show _ ≤ 603072; omega, by show _ ≤ 7211114; omega⟩ rfl rfl (Nat.le_of_ble_eq_true rfl) rfl rfl dL_law_262 (fun r w9 hq9 => ?_)
        obtain ⟨b1, hq8, hw9⟩ := hq9
        obtain ⟨hr9, hb9⟩ := hq8
        subst hw9
        subst hb9
        subst hr9
        refine j_w (w' := mW cA qm un ui ul ua 4 ++ (((cF cA q un ui ul ua vc ex wo tp tf kf ++ va_pl L f) ++ [(oa, .inl (cA 4, 1, .inr (.inl g)))]) ++ [(ob, .inl (cA 5, 1, .inr (.inr (.inr (.inl gd)))))])) rfl ?_
        refine j_iload G dL_law_265 1 rfl ?_
        refine j_icmp_eq (tgt := 272) G dL_law_267 (by decide) (fun c267 => ?_) (fun c267 => absurd rfl c267)
        refine j_iload G dL_law_272 1 rfl ?_
        refine j_if_ne (tgt := 289) G dL_law_274 (by decide) (fun _ => ?_) (fun c274 => absurd c274 (by decide))
        refine j_goto (tgt := 2045) G dL_law_289 (by decide) ?_
        refine j_sub (lv' := [(0, .ref bs), (1, .ref (q 0)), (2, .ref (qm 0)), (3, .ref oa), (4, .ref ob), (5, .int (nI i))]) [2, 3, 4, 5, 6, 7] rfl ?_
        refine j_cs (k' := k + 8) (n' := n + 256) (by omega) (by omega) ?_
        refine j_w (w' := mW cA qm un ui ul ua 4 ++ (((cF cA q un ui ul ua vc ex wo tp tf kf ++ va_pl L f) ++ [(oa, .inl (cA 4, 1, .inr (.inl g)))]) ++ [(ob, .inl (cA 5, 1, .inr (.inr (.inr (.inl gd)))))])) rfl ?_
        exact hN un ui ul ua vc ex wo tp tf kf L f ta ga ka 4 g gd hI hPL
set_option maxHeartbeats 4000000 in
set_option maxRecDepth 100000 in
theorem lw_addTap {p : Program} {l : Launch} {e : Env} {s : State} {m : MethodId} {args : Array Value} {below : List Frame} {meth : Method} {c : Code} {D : va_G} {cA : Nat → ClassId} {A : Nat → Prop} {Q : State → Prop} {k n : Nat} (G : GX p s m args c cL_law 9 RL D cA A) (hfl : l.stackTraces = false) {bs Ls : Nat} {xs : Nat → Int32} (hX : va_X bs Ls xs s s.heap) (hbl : bs < s.heap.size) (hbA : ¬ A bs) (hLs : Ls ≤ 3072) {i : Nat} (hi : i + 5 < Ls) (hk : k + 8 ≤ 603072) (hn9 : n + 256 ≤ 7211114) (q qm : Nat → Nat) (un : Nat → Nat) (ui : Nat → Int32) (ul : Nat → Int64) (ua : Nat → Nat → Int32) (vc ex wo tp : Nat → Int32) (tf kf : Nat → Option Nat) (L : List Nat) (f : Nat → va_E) (ta ga ka : Nat → Nat) (co : Int32) (oa ob : Nat) (g : Nat → Int64) (gd : Nat → UInt64) (hI : INV un ui ua) (hPL : PL cA un ua L f tf kf ta ga ka) (hN : ∀ (un : Nat → Nat) (ui : Nat → Int32) (ul : Nat → Int64) (ua : Nat → Nat → Int32) (vc ex wo tp : Nat → Int32) (tf kf : Nat → Option Nat) (L : List Nat) (f : Nat → va_E) (ta ga ka : Nat → Nat) (co : Int32) (g : Nat → Int64) (gd : Nat → UInt64), INV un ui ua → PL cA un ua L f tf kf ta ga ka → J p l e (RM 2048 94400 603072 7211114) s m args below meth c 9 D A (mW cA qm un ui ul ua co ++ (((cF cA q un ui ul ua vc ex wo tp tf kf ++ va_pl L f) ++ [(oa, .inl (cA 4, 1, .inr (.inl g)))]) ++ [(ob, .inl (cA 5, 1, .inr (.inr (.inr (.inl gd)))))])) (k + 8) (n + 256) Q 2045 [(0, .ref bs), (1, .ref (q 0)), (2, .ref (qm 0)), (3, .ref oa), (4, .ref ob), (5, .int (nI i))] []) : J p l e (RM 2048 94400 603072 7211114) s m args below meth c 9 D A (mW cA qm un ui ul ua co ++ (((cF cA q un ui ul ua vc ex wo tp tf kf ++ va_pl L f) ++ [(oa, .inl (cA 4, 1, .inr (.inl g)))]) ++ [(ob, .inl (cA 5, 1, .inr (.inr (.inr (.inl gd)))))])) k n Q 292 [(0, .ref bs), (1, .ref (q 0)), (2, .ref (qm 0)), (3, .ref oa), (4, .ref ob), (5, .int (nI i))] [] := by
  refine j_aload_n G dL_law_292 rfl 1 rfl ?_
  refine j_aload_n G dL_law_293 rfl 0 rfl ?_
  refine j_iload G dL_law_294 5 rfl ?_
  refine j_iconst (v := 1) G dL_law_296 (by decide) ?_
  refine j_iadd G dL_law_297 ?_
  refine j_rwi (nI_add i 1) ?_
  refine j_sldN (j := i + 1) G hX hbl hbA (by omega) (by omega) dL_law_298 ?_
  refine j_aload_n G dL_law_299 rfl 0 rfl ?_
  refine j_iload G dL_law_300 5 rfl ?_
  refine j_iconst (v := 2) G dL_law_302 (by decide) ?_
  refine j_iadd G dL_law_303 ?_
  refine j_rwi (nI_add i 2) ?_
  refine j_sldN (j := i + 2) G hX hbl hbA (by omega) (by omega) dL_law_304 ?_
  refine j_aload_n G dL_law_305 rfl 0 rfl ?_
  refine j_iload G dL_law_306 5 rfl ?_
  refine j_iconst (v := 3) G dL_law_308 (by decide) ?_
  refine j_iadd G dL_law_309 ?_
  refine j_rwi (nI_add i 3) ?_
  refine j_sldN (j := i + 3) G hX hbl hbA (by omega) (by omega) dL_law_310 ?_
  refine j_aload_n G dL_law_311 rfl 0 rfl ?_
  refine j_iload G dL_law_312 5 rfl ?_
  refine j_iconst (v := 4) G dL_law_314 (by decide) ?_
  refine j_iadd G dL_law_315 ?_
  refine j_rwi (nI_add i 4) ?_
  refine j_sldN (j := i + 4) G hX hbl hbA (by omega) (by omega) dL_law_316 ?_
  refine j_aload_n G dL_law_317 rfl 0 rfl ?_
  refine j_iload G dL_law_318 5 rfl ?_
  refine j_iconst (v := 5) G dL_law_320 (by decide) ?_
  refine j_iadd G dL_law_321 ?_
  refine j_rwi (nI_add i 5) ?_
  refine j_sldN (j := i + 5) G hX hbl hbA (by omega) (by omega) dL_law_322 ?_
  refine j_aload_n G dL_law_323 rfl 3 rfl ?_
  refine jSW_i G (fw_W (cW_addTap l D cA (b0 := cF cA q un ui ul ua vc ex wo tp tf kf ++ va_pl L f) rfl (xs (i + 1)) (xs (i + 2)) (xs (i + 3)) (xs (i + 4)) (xs (i + 5)) g (cC_X6_addTap l D cA hfl q un ui ul ua vc ex wo tp tf kf L f ta ga ka (xs (i + 1)) (xs (i + 2)) (xs (i + 3)) (xs (i + 4)) (xs (i + 5)) hI hPL) (fun E8 b8 h8 => h8.elim (fun h8 => Or.inl (congrArg Prod.fst h8.2)) (fun h8 => h8.elim (fun h8 => Or.inr (Or.inl (congrArg Prod.fst h8.2))) (fun h8 => h8.elim (fun h8 => Or.inr (Or.inr (Or.inl (congrArg Prod.fst h8.2)))) (fun h8 => Or.inr (Or.inr (Or.inr ((congrArg Prod.fst h8.2))))))))) (mW cA qm un ui ul ua co) [(ob, .inl (cA 5, 1, .inr (.inr (.inr (.inl gd)))))] (List.append_assoc _ _ _).symm) (gw_addTap wd_470) hd_L_addTap.2 ⟨Nat.le_of_ble_eq_true rfl, Nat.le_of_ble_eq_true rfl⟩ ⟨by show _ ≤ 603072; omega, by show _ ≤ 7211114; omega⟩ rfl rfl (Nat.le_of_ble_eq_true rfl) dL_law_324 (fun r w9 hq9 => ?_)
  obtain ⟨b1, hq8, hw9⟩ := hq9
  rcases hq8 with ⟨v9, b2, hp9, hr9, hb9⟩ | ⟨E9, b2, hp9, hd9, hb9⟩
  · obtain ⟨L9, f9, tf9, ta9, ga9, P9, hok, hv9, hb8⟩ := hp9
    subst hw9
    subst hb9
    subst hr9
    subst hb8
    subst hv9
    have hcf : cfAdd (un 0) (ua 0) (xs (i + 1)) (okTap (xs (i + 2)) (xs (i + 3)) (xs (i + 4)) (xs (i + 5))) = 0 := hok
    refine j_w (w' := mW cA qm un ui ul ua co ++ (((cF cA q (up un 0 (un 0 + 1)) ui ul (up (up ua 1 (upd (ua 1) (un 0) (xs (i + 1)))) 2 (upd (ua 2) (un 0) (xs (i + 2)))) vc ex wo tp tf9 kf ++ va_pl L9 f9) ++ [(oa, .inl (cA 4, 1, .inr (.inl (vp_updL g 0 (nI (un 0)).toInt64))))]) ++ [(ob, .inl (cA 5, 1, .inr (.inr (.inr (.inl gd)))))])) (List.append_assoc _ _ _) ?_
    refine j_istore (lv' := [(6, .int 0), (0, .ref bs), (1, .ref (q 0)), (2, .ref (qm 0)), (3, .ref oa), (4, .ref ob), (5, .int (nI i))]) G dL_law_327 (by decide) rfl ?_
    refine j_aload_n G dL_law_329 rfl 3 rfl ?_
    refine j_aload_n G dL_law_330 rfl 1 rfl ?_
    refine j_iload G dL_law_331 6 rfl ?_
    refine j_iconst (v := 1) G dL_law_333 (by decide) ?_
    refine j_iadd G dL_law_334 ?_
    refine j_rwi (nI_add i 1) ?_
    refine j_sldN (j := i + 1) G hX hbl hbA (by omega) (by omega) dL_law_335 ?_
    refine j_aload_n G dL_law_336 rfl 1 rfl ?_
    refine j_iload G dL_law_337 6 rfl ?_
    refine j_iconst (v := 2) G dL_law_339 (by decide) ?_
    refine j_iadd G dL_law_340 ?_
    refine j_rwi (nI_add i 2) ?_
    refine j_sldN (j := i + 2) G hX hbl hbA (by omega) (by omega) dL_law_341 ?_
    refine j_aload_n G dL_law_342 rfl 1 rfl ?_
    refine j_iload G dL_law_343 6 rfl ?_
    refine j_iconst (v := 3) G dL_law_345 (by decide) ?_
    refine j_iadd G dL_law_346 ?_
    refine j_rwi (nI_add i 3) ?_
    refine j_sldN (j := i + 3) G hX hbl hbA (by omega) (by omega) dL_law_347 ?_
    refine j_aload_n G dL_law_348 rfl 1 rfl ?_
    refine j_iload G dL_law_349 6 rfl ?_
    refine j_iconst (v := 4) G dL_law_351 (by decide) ?_
    refine j_iadd G dL_law_352 ?_
    refine j_rwi (nI_add i 4) ?_
    refine j_sldN (j := i + 4) G hX hbl hbA (by omega) (by omega) dL_law_353 ?_
    refine j_aload_n G dL_law_354 rfl 1 rfl ?_
    refine j_iload G dL_law_355 6 rfl ?_
    refine j_iconst (v := 5) G dL_law_357 (by decide) ?_
    refine j_iadd G dL_law_358 ?_
    refine j_rwi (nI_add i 5) ?_
    refine j_sldN (j := i + 5) G hX hbl hbA (by omega) (by omega) dL_law_359 ?_
    refine jV_i G 7 0 (fw_i (cM_addTap l D cA qm un ui ul ua co (xs (i + 1)) (xs (i + 2)) (xs (i + 3)) (xs (i + 4)) (xs (i + 5)) hI.1.2.1) [] (((cF cA q (up un 0 (un 0 + 1)) ui ul (up (up ua 1 (upd (ua 1) (un 0) (xs (i + 1)))) 2 (upd (ua 2) (un 0) (xs (i + 2)))) vc ex wo tp tf9 kf ++ va_pl L9 f9) ++ [(oa, .inl (cA 4, 1, .inr (.inl (vp_updL g 0 (nI (un 0)).toInt64))))]) ++ [(ob, .inl (cA 5, 1, .inr (.inr (.inr (.inl gd)))))]) rfl) gL_128 hd_X7_addTap ⟨Nat.le_of_ble_eq_true rfl, Nat.le_of_ble_eq_true rfl⟩ ⟨by show _ ≤ 603072; omega, by show _ ≤ 7211114; omega⟩ rfl rfl (Nat.le_of_ble_eq_true rfl) rfl rfl dL_law_360 (fun r w9 hq9 => ?_)
    obtain ⟨b1, hq8, hw9⟩ := hq9
    rcases hq8 with ⟨hc9, hr9, hb9⟩ | ⟨hc9, hb9⟩
    · subst hw9
      subst hb9
      subst hr9
      refine j_w (w' := mW cA qm (up un 0 (un 0 + 1)) ui ul (up (up (up (up (up (up ua 0 (upd (ua 0) (un 0) 2)) 1 (upd (ua 1) (un 0) (xs (i + 1)))) 2 (upd (ua 2) (un 0) (xs (i + 2)))) 3 (upd (ua 3) (un 0) (xs (i + 3)))) 4 (upd (ua 4) (un 0) (xs (i + 4)))) 5 (upd (ua 5) (un 0) (xs (i + 5)))) 0 ++ (((cF cA q (up un 0 (un 0 + 1)) ui ul (up (up ua 1 (upd (ua 1) (un 0) (xs (i + 1)))) 2 (upd (ua 2) (un 0) (xs (i + 2)))) vc ex wo tp tf9 kf ++ va_pl L9 f9) ++ [(oa, .inl (cA 4, 1, .inr (.inl (vp_updL g 0 (nI (un 0)).toInt64))))]) ++ [(ob, .inl (cA 5, 1, .inr (.inr (.inr (.inl gd)))))])) rfl ?_
      refine j_istore (lv' := [(7, .int (nI (un 0))), (6, .int 0), (0, .ref bs), (1, .ref (q 0)), (2, .ref (qm 0)), (3, .ref oa), (4, .ref ob), (5, .int (nI i))]) G dL_law_363 (by decide) rfl ?_
      refine j_aload_n G dL_law_365 rfl 4 rfl ?_
      refine jV_i G 7 0 (fw_i (cM_thrown l D cA qm (up un 0 (un 0 + 1)) ui ul (up (up (up (up (up (up ua 0 (upd (ua 0) (un 0) 2)) 1 (upd (ua 1) (un 0) (xs (i + 1)))) 2 (upd (ua 2) (un 0) (xs (i + 2)))) 3 (upd (ua 3) (un 0) (xs (i + 3)))) 4 (upd (ua 4) (un 0) (xs (i + 4)))) 5 (upd (ua 5) (un 0) (xs (i + 5)))) 0  ) [] (((cF cA q (up un 0 (un 0 + 1)) ui ul (up (up ua 1 (upd (ua 1) (un 0) (xs (i + 1)))) 2 (upd (ua 2) (un 0) (xs (i + 2)))) vc ex wo tp tf9 kf ++ va_pl L9 f9) ++ [(oa, .inl (cA 4, 1, .inr (.inl (vp_updL g 0 (nI (un 0)).toInt64))))]) ++ [(ob, .inl (cA 5, 1, .inr (.inr (.inr (.inl gd)))))]) rfl) gL_122 hd_X7_thrown ⟨Nat.le_of_ble_eq_true rfl, Nat.le_of_ble_eq_true rfl⟩ ⟨by show _ ≤ 603072; omega, by show _ ≤ 7211114; omega⟩ rfl rfl (Nat.le_of_ble_eq_true rfl) rfl rfl dL_law_366 (fun r w9 hq9 => ?_)
      obtain ⟨b1, hq8, hw9⟩ := hq9
      obtain ⟨hr9, hb9⟩ := hq8
      subst hw9
      subst hb9
      subst hr9
      refine j_w (w' := mW cA qm (up un 0 (un 0 + 1)) ui ul (up (up (up (up (up (up ua 0 (upd (ua 0) (un 0) 2)) 1 (upd (ua 1) (un 0) (xs (i + 1)))) 2 (upd (ua 2) (un 0) (xs (i + 2)))) 3 (upd (ua 3) (un 0) (xs (i + 3)))) 4 (upd (ua 4) (un 0) (xs (i + 4)))) 5 (upd (ua 5) (un 0) (xs (i + 5)))) 0 ++ (((cF cA q (up un 0 (un 0 + 1)) ui ul (up (up ua 1 (upd (ua 1) (un 0) (xs (i + 1)))) 2 (upd (ua 2) (un 0) (xs (i + 2)))) vc ex wo tp tf9 kf ++ va_pl L9 f9) ++ [(oa, .inl (cA 4, 1, .inr (.inl (vp_updL g 0 (nI (un 0)).toInt64))))]) ++ [(ob, .inl (cA 5, 1, .inr (.inr (.inr (.inl gd)))))])) rfl ?_
      refine j_iload G dL_law_369 1 rfl ?_
      refine j_icmp_eq (tgt := 376) G dL_law_371 (by decide) (fun c371 => ?_) (fun c371 => absurd rfl c371)
      refine j_iload G dL_law_376 1 rfl ?_
      refine j_if_ne (tgt := 393) G dL_law_378 (by decide) (fun c378 => absurd c378 (by decide)) (fun _ => ?_)
      refine j_aload_n G dL_law_381 rfl 5 rfl ?_
      refine j_iconst (v := 0) G dL_law_382 (by decide) ?_
      refine j_lald G _ wq_o (show vp_in (nI 0) 1 from vp_in_nI (by decide) (by decide)) dL_law_383 ?_
      refine j_rwl (show _ = (nI (un 0)).toInt64 from rfl) ?_
      refine j_iload G dL_law_384 0 rfl ?_
      refine j_i2l G dL_law_386 ?_
      refine j_lcmp G dL_law_387 ?_
      refine j_if_eq (tgt := 393) G dL_law_388 (by decide) (fun c388 => ?_) (fun c388 => absurd (lgz.mpr rfl) c388)
      refine j_goto (tgt := 2045) G dL_law_393 (by decide) ?_
      refine j_sub (lv' := [(0, .ref bs), (1, .ref (q 0)), (2, .ref (qm 0)), (3, .ref oa), (4, .ref ob), (5, .int (nI i))]) [2, 3, 4, 5, 6, 7] rfl ?_
      refine j_cs (k' := k + 8) (n' := n + 256) (by omega) (by omega) ?_
      refine j_w (w' := mW cA qm (up un 0 (un 0 + 1)) ui ul (up (up (up (up (up (up ua 0 (upd (ua 0) (un 0) 2)) 1 (upd (ua 1) (un 0) (xs (i + 1)))) 2 (upd (ua 2) (un 0) (xs (i + 2)))) 3 (upd (ua 3) (un 0) (xs (i + 3)))) 4 (upd (ua 4) (un 0) (xs (i + 4)))) 5 (upd (ua 5) (un 0) (xs (i + 5)))) 0 ++ (((cF cA q (up un 0 (un 0 + 1)) ui ul (up (up (up (up (up (up ua 0 (upd (ua 0) (un 0) 2)) 1 (upd (ua 1) (un 0) (xs (i + 1)))) 2 (upd (ua 2) (un 0) (xs (i + 2)))) 3 (upd (ua 3) (un 0) (xs (i + 3)))) 4 (upd (ua 4) (un 0) (xs (i + 4)))) 5 (upd (ua 5) (un 0) (xs (i + 5)))) vc ex wo tp tf9 kf ++ va_pl L9 f9) ++ [(oa, .inl (cA 4, 1, .inr (.inl (vp_updL g 0 (nI (un 0)).toInt64))))]) ++ [(ob, .inl (cA 5, 1, .inr (.inr (.inr (.inl gd)))))])) rfl ?_
      exact hN (up un 0 (un 0 + 1)) ui ul (up (up (up (up (up (up ua 0 (upd (ua 0) (un 0) 2)) 1 (upd (ua 1) (un 0) (xs (i + 1)))) 2 (upd (ua 2) (un 0) (xs (i + 2)))) 3 (upd (ua 3) (un 0) (xs (i + 3)))) 4 (upd (ua 4) (un 0) (xs (i + 4)))) 5 (upd (ua 5) (un 0) (xs (i + 5)))) vc ex wo tp tf9 kf L9 f9 ta9 ga9 ka 0 (vp_updL g 0 (nI (un 0)).toInt64) gd (hI.addT hok) (PL_g.mpr P9)
    · exact absurd hcf hc9
  · rcases hp9 with ⟨hc, he⟩ | ⟨hc, he⟩ | ⟨hc, he⟩ | ⟨hc, he⟩
    · cases he
      have hr9 : r = 1 := by rcases hd9 with ⟨h8, h7⟩ | ⟨h8, h7⟩ | ⟨h8, h7⟩ | ⟨h8, h7⟩ <;> first | exact h7 | exact absurd h8 (by decide)
      subst hw9
      subst hb9
      subst hr9
      have hcf : cfAdd (un 0) (ua 0) (xs (i + 1)) (okTap (xs (i + 2)) (xs (i + 3)) (xs (i + 4)) (xs (i + 5))) = 1 := hc
      refine j_w (w' := mW cA qm un ui ul ua co ++ (((cF cA q un ui ul ua vc ex wo tp tf kf ++ va_pl L f) ++ [(oa, .inl (cA 4, 1, .inr (.inl g)))]) ++ [(ob, .inl (cA 5, 1, .inr (.inr (.inr (.inl gd)))))])) (List.append_assoc _ _ _) ?_
      refine j_istore (lv' := [(6, .int 1), (0, .ref bs), (1, .ref (q 0)), (2, .ref (qm 0)), (3, .ref oa), (4, .ref ob), (5, .int (nI i))]) G dL_law_327 (by decide) rfl ?_
      refine j_aload_n G dL_law_329 rfl 3 rfl ?_
      refine j_aload_n G dL_law_330 rfl 1 rfl ?_
      refine j_iload G dL_law_331 6 rfl ?_
      refine j_iconst (v := 1) G dL_law_333 (by decide) ?_
      refine j_iadd G dL_law_334 ?_
      refine j_rwi (nI_add i 1) ?_
      refine j_sldN (j := i + 1) G hX hbl hbA (by omega) (by omega) dL_law_335 ?_
      refine j_aload_n G dL_law_336 rfl 1 rfl ?_
      refine j_iload G dL_law_337 6 rfl ?_
      refine j_iconst (v := 2) G dL_law_339 (by decide) ?_
      refine j_iadd G dL_law_340 ?_
      refine j_rwi (nI_add i 2) ?_
      refine j_sldN (j := i + 2) G hX hbl hbA (by omega) (by omega) dL_law_341 ?_
      refine j_aload_n G dL_law_342 rfl 1 rfl ?_
      refine j_iload G dL_law_343 6 rfl ?_
      refine j_iconst (v := 3) G dL_law_345 (by decide) ?_
      refine j_iadd G dL_law_346 ?_
      refine j_rwi (nI_add i 3) ?_
      refine j_sldN (j := i + 3) G hX hbl hbA (by omega) (by omega) dL_law_347 ?_
      refine j_aload_n G dL_law_348 rfl 1 rfl ?_
      refine j_iload G dL_law_349 6 rfl ?_
      refine j_iconst (v := 4) G dL_law_351 (by decide) ?_
      refine j_iadd G dL_law_352 ?_
      refine j_rwi (nI_add i 4) ?_
      refine j_sldN (j := i + 4) G hX hbl hbA (by omega) (by omega) dL_law_353 ?_
      refine j_aload_n G dL_law_354 rfl 1 rfl ?_
      refine j_iload G dL_law_355 6 rfl ?_
      refine j_iconst (v := 5) G dL_law_357 (by decide) ?_
      refine j_iadd G dL_law_358 ?_
      refine j_rwi (nI_add i 5) ?_
      refine j_sldN (j := i + 5) G hX hbl hbA (by omega) (by omega) dL_law_359 ?_
      refine jV_i G 7 0 (fw_i (cM_addTap l D cA qm un ui ul ua co (xs (i + 1)) (xs (i + 2)) (xs (i + 3)) (xs (i + 4)) (xs (i + 5)) hI.1.2.1) [] (((cF cA q un ui ul ua vc ex wo tp tf kf ++ va_pl L f) ++ [(oa, .inl (cA 4, 1, .inr (.inl g)))]) ++ [(ob, .inl (cA 5, 1, .inr (.inr (.inr (.inl gd)))))]) rfl) gL_128 hd_X7_addTap ⟨Nat.le_of_ble_eq_true rfl, Nat.le_of_ble_eq_true rfl⟩ ⟨by show _ ≤ 603072; omega, by show _ ≤ 7211114; omega⟩ rfl rfl (Nat.le_of_ble_eq_true rfl) rfl rfl dL_law_360 (fun r w9 hq9 => ?_)
      obtain ⟨b1, hq8, hw9⟩ := hq9
      rcases hq8 with ⟨hc9, hr9, hb9⟩ | ⟨hc9, hb9⟩
      · exact absurd (hcf.symm.trans hc9) (by decide)
      · rw [hcf] at hb9
        subst hw9
        subst hb9
        refine j_w (w' := mW cA qm un ui ul ua 1 ++ (((cF cA q un ui ul ua vc ex wo tp tf kf ++ va_pl L f) ++ [(oa, .inl (cA 4, 1, .inr (.inl g)))]) ++ [(ob, .inl (cA 5, 1, .inr (.inr (.inr (.inl gd)))))])) rfl ?_
        refine j_istore (lv' := [(7, .int r), (6, .int 1), (0, .ref bs), (1, .ref (q 0)), (2, .ref (qm 0)), (3, .ref oa), (4, .ref ob), (5, .int (nI i))]) G dL_law_363 (by decide) rfl ?_
        refine j_aload_n G dL_law_365 rfl 4 rfl ?_
        refine jV_i G 7 0 (fw_i (cM_thrown l D cA qm un ui ul ua 1  ) [] (((cF cA q un ui ul ua vc ex wo tp tf kf ++ va_pl L f) ++ [(oa, .inl (cA 4, 1, .inr (.inl g)))]) ++ [(ob, .inl (cA 5, 1, .inr (.inr (.inr (.inl gd)))))]) rfl) gL_122 hd_X7_thrown ⟨Nat.le_of_ble_eq_true rfl, Nat.le_of_ble_eq_true rfl⟩ ⟨by show _ ≤ 603072; omega, by show _ ≤ 7211114; omega⟩ rfl rfl (Nat.le_of_ble_eq_true rfl) rfl rfl dL_law_366 (fun r w9 hq9 => ?_)
        obtain ⟨b1, hq8, hw9⟩ := hq9
        obtain ⟨hr9, hb9⟩ := hq8
        subst hw9
        subst hb9
        subst hr9
        refine j_w (w' := mW cA qm un ui ul ua 1 ++ (((cF cA q un ui ul ua vc ex wo tp tf kf ++ va_pl L f) ++ [(oa, .inl (cA 4, 1, .inr (.inl g)))]) ++ [(ob, .inl (cA 5, 1, .inr (.inr (.inr (.inl gd)))))])) rfl ?_
        refine j_iload G dL_law_369 1 rfl ?_
        refine j_icmp_eq (tgt := 376) G dL_law_371 (by decide) (fun c371 => ?_) (fun c371 => absurd rfl c371)
        refine j_iload G dL_law_376 1 rfl ?_
        refine j_if_ne (tgt := 393) G dL_law_378 (by decide) (fun _ => ?_) (fun c378 => absurd c378 (by decide))
        refine j_goto (tgt := 2045) G dL_law_393 (by decide) ?_
        refine j_sub (lv' := [(0, .ref bs), (1, .ref (q 0)), (2, .ref (qm 0)), (3, .ref oa), (4, .ref ob), (5, .int (nI i))]) [2, 3, 4, 5, 6, 7] rfl ?_
        refine j_cs (k' := k + 8) (n' := n + 256) (by omega) (by omega) ?_
        refine j_w (w' := mW cA qm un ui ul ua 1 ++ (((cF cA q un ui ul ua vc ex wo tp tf kf ++ va_pl L f) ++ [(oa, .inl (cA 4, 1, .inr (.inl g)))]) ++ [(ob, .inl (cA 5, 1, .inr (.inr (.inr (.inl gd)))))])) rfl ?_
        exact hN un ui ul ua vc ex wo tp tf kf L f ta ga ka 1 g gd hI hPL
    · cases he
      have hr9 : r = 2 := by rcases hd9 with ⟨h8, h7⟩ | ⟨h8, h7⟩ | ⟨h8, h7⟩ | ⟨h8, h7⟩ <;> first | exact h7 | exact absurd h8 (by decide)
      subst hw9
      subst hb9
      subst hr9
      have hcf : cfAdd (un 0) (ua 0) (xs (i + 1)) (okTap (xs (i + 2)) (xs (i + 3)) (xs (i + 4)) (xs (i + 5))) = 2 := hc
      refine j_w (w' := mW cA qm un ui ul ua co ++ (((cF cA q un ui ul ua vc ex wo tp tf kf ++ va_pl L f) ++ [(oa, .inl (cA 4, 1, .inr (.inl g)))]) ++ [(ob, .inl (cA 5, 1, .inr (.inr (.inr (.inl gd)))))])) (List.append_assoc _ _ _) ?_
      refine j_istore (lv' := [(6, .int 2), (0, .ref bs), (1, .ref (q 0)), (2, .ref (qm 0)), (3, .ref oa), (4, .ref ob), (5, .int (nI i))]) G dL_law_327 (by decide) rfl ?_
      refine j_aload_n G dL_law_329 rfl 3 rfl ?_
      refine j_aload_n G dL_law_330 rfl 1 rfl ?_
      refine j_iload G dL_law_331 6 rfl ?_
      refine j_iconst (v := 1) G dL_law_333 (by decide) ?_
      refine j_iadd G dL_law_334 ?_
      refine j_rwi (nI_add i 1) ?_
      refine j_sldN (j := i + 1) G hX hbl hbA (by omega) (by omega) dL_law_335 ?_
      refine j_aload_n G dL_law_336 rfl 1 rfl ?_
      refine j_iload G dL_law_337 6 rfl ?_
      refine j_iconst (v := 2) G dL_law_339 (by decide) ?_
      refine j_iadd G dL_law_340 ?_
      refine j_rwi (nI_add i 2) ?_
      refine j_sldN (j := i + 2) G hX hbl hbA (by omega) (by omega) dL_law_341 ?_
      refine j_aload_n G dL_law_342 rfl 1 rfl ?_
      refine j_iload G dL_law_343 6 rfl ?_
      refine j_iconst (v := 3) G dL_law_345 (by decide) ?_
      refine j_iadd G dL_law_346 ?_
      refine j_rwi (nI_add i 3) ?_
      refine j_sldN (j := i + 3) G hX hbl hbA (by omega) (by omega) dL_law_347 ?_
      refine j_aload_n G dL_law_348 rfl 1 rfl ?_
      refine j_iload G dL_law_349 6 rfl ?_
      refine j_iconst (v := 4) G dL_law_351 (by decide) ?_
      refine j_iadd G dL_law_352 ?_
      refine j_rwi (nI_add i 4) ?_
      refine j_sldN (j := i + 4) G hX hbl hbA (by omega) (by omega) dL_law_353 ?_
      refine j_aload_n G dL_law_354 rfl 1 rfl ?_
      refine j_iload G dL_law_355 6 rfl ?_
      refine j_iconst (v := 5) G dL_law_357 (by decide) ?_
      refine j_iadd G dL_law_358 ?_
      refine j_rwi (nI_add i 5) ?_
      refine j_sldN (j := i + 5) G hX hbl hbA (by omega) (by omega) dL_law_359 ?_
      refine jV_i G 7 0 (fw_i (cM_addTap l D cA qm un ui ul ua co (xs (i + 1)) (xs (i + 2)) (xs (i + 3)) (xs (i + 4)) (xs (i + 5)) hI.1.2.1) [] (((cF cA q un ui ul ua vc ex wo tp tf kf ++ va_pl L f) ++ [(oa, .inl (cA 4, 1, .inr (.inl g)))]) ++ [(ob, .inl (cA 5, 1, .inr (.inr (.inr (.inl gd)))))]) rfl) gL_128 hd_X7_addTap ⟨Nat.le_of_ble_eq_true rfl, Nat.le_of_ble_eq_true rfl⟩ ⟨by show _ ≤ 603072; omega, by show _ ≤ 7211114; omega⟩ rfl rfl (Nat.le_of_ble_eq_true rfl) rfl rfl dL_law_360 (fun r w9 hq9 => ?_)
      obtain ⟨b1, hq8, hw9⟩ := hq9
      rcases hq8 with ⟨hc9, hr9, hb9⟩ | ⟨hc9, hb9⟩
      · exact absurd (hcf.symm.trans hc9) (by decide)
      · rw [hcf] at hb9
        subst hw9
        subst hb9
        refine j_w (w' := mW cA qm un ui ul ua 2 ++ (((cF cA q un ui ul ua vc ex wo tp tf kf ++ va_pl L f) ++ [(oa, .inl (cA 4, 1, .inr (.inl g)))]) ++ [(ob, .inl (cA 5, 1, .inr (.inr (.inr (.inl gd)))))])) rfl ?_
        refine j_istore (lv' := [(7, .int r), (6, .int 2), (0, .ref bs), (1, .ref (q 0)), (2, .ref (qm 0)), (3, .ref oa), (4, .ref ob), (5, .int (nI i))]) G dL_law_363 (by decide) rfl ?_
        refine j_aload_n G dL_law_365 rfl 4 rfl ?_
        refine jV_i G 7 0 (fw_i (cM_thrown l D cA qm un ui ul ua 2  ) [] (((cF cA q un ui ul ua vc ex wo tp tf kf ++ va_pl L f) ++ [(oa, .inl (cA 4, 1, .inr (.inl g)))]) ++ [(ob, .inl (cA 5, 1, .inr (.inr (.inr (.inl gd)))))]) rfl) gL_122 hd_X7_thrown ⟨Nat.le_of_ble_eq_true rfl, Nat.le_of_ble_eq_true rfl⟩ ⟨by show _ ≤ 603072; omega, by show _ ≤ 7211114; omega⟩ rfl rfl (Nat.le_of_ble_eq_true rfl) rfl rfl dL_law_366 (fun r w9 hq9 => ?_)
        obtain ⟨b1, hq8, hw9⟩ := hq9
        obtain ⟨hr9, hb9⟩ := hq8
        subst hw9
        subst hb9
        subst hr9
        refine j_w (w' := mW cA qm un ui ul ua 2 ++ (((cF cA q un ui ul ua vc ex wo tp tf kf ++ va_pl L f) ++ [(oa, .inl (cA 4, 1, .inr (.inl g)))]) ++ [(ob, .inl (cA 5, 1, .inr (.inr (.inr (.inl gd)))))])) rfl ?_
        refine j_iload G dL_law_369 1 rfl ?_
        refine j_icmp_eq (tgt := 376) G dL_law_371 (by decide) (fun c371 => ?_) (fun c371 => absurd rfl c371)
        refine j_iload G dL_law_376 1 rfl ?_
        refine j_if_ne (tgt := 393) G dL_law_378 (by decide) (fun _ => ?_) (fun c378 => absurd c378 (by decide))
        refine j_goto (tgt := 2045) G dL_law_393 (by decide) ?_
        refine j_sub (lv' := [(0, .ref bs), (1, .ref (q 0)), (2, .ref (qm 0)), (3, .ref oa), (4, .ref ob), (5, .int (nI i))]) [2, 3, 4, 5, 6, 7] rfl ?_
        refine j_cs (k' := k + 8) (n' := n + 256) (by omega) (by omega) ?_
        refine j_w (w' := mW cA qm un ui ul ua 2 ++ (((cF cA q un ui ul ua vc ex wo tp tf kf ++ va_pl L f) ++ [(oa, .inl (cA 4, 1, .inr (.inl g)))]) ++ [(ob, .inl (cA 5, 1, .inr (.inr (.inr (.inl gd)))))])) rfl ?_
        exact hN un ui ul ua vc ex wo tp tf kf L f ta ga ka 2 g gd hI hPL
    · cases he
      have hr9 : r = 3 := by rcases hd9 with ⟨h8, h7⟩ | ⟨h8, h7⟩ | ⟨h8, h7⟩ | ⟨h8, h7⟩ <;> first | exact h7 | exact absurd h8 (by decide)
      subst hw9
      subst hb9
      subst hr9
      have hcf : cfAdd (un 0) (ua 0) (xs (i + 1)) (okTap (xs (i + 2)) (xs (i + 3)) (xs (i + 4)) (xs (i + 5))) = 3 := hc
      refine j_w (w' := mW cA qm un ui ul ua co ++ (((cF cA q un ui ul ua vc ex wo tp tf kf ++ va_pl L f) ++ [(oa, .inl (cA 4, 1, .inr (.inl g)))]) ++ [(ob, .inl (cA 5, 1, .inr (.inr (.inr (.inl gd)))))])) (List.append_assoc _ _ _) ?_
      refine j_istore (lv' := [(6, .int 3), (0, .ref bs), (1, .ref (q 0)), (2, .ref (qm 0)), (3, .ref oa), (4, .ref ob), (5, .int (nI i))]) G dL_law_327 (by decide) rfl ?_
      refine j_aload_n G dL_law_329 rfl 3 rfl ?_
      refine j_aload_n G dL_law_330 rfl 1 rfl ?_
      refine j_iload G dL_law_331 6 rfl ?_
      refine j_iconst (v := 1) G dL_law_333 (by decide) ?_
      refine j_iadd G dL_law_334 ?_
      refine j_rwi (nI_add i 1) ?_
      refine j_sldN (j := i + 1) G hX hbl hbA (by omega) (by omega) dL_law_335 ?_
      refine j_aload_n G dL_law_336 rfl 1 rfl ?_
      refine j_iload G dL_law_337 6 rfl ?_
      refine j_iconst (v := 2) G dL_law_339 (by decide) ?_
      refine j_iadd G dL_law_340 ?_
      refine j_rwi (nI_add i 2) ?_
      refine j_sldN (j := i + 2) G hX hbl hbA (by omega) (by omega) dL_law_341 ?_
      refine j_aload_n G dL_law_342 rfl 1 rfl ?_
      refine j_iload G dL_law_343 6 rfl ?_
      refine j_iconst (v := 3) G dL_law_345 (by decide) ?_
      refine j_iadd G dL_law_346 ?_
      refine j_rwi (nI_add i 3) ?_
      refine j_sldN (j := i + 3) G hX hbl hbA (by omega) (by omega) dL_law_347 ?_
      refine j_aload_n G dL_law_348 rfl 1 rfl ?_
      refine j_iload G dL_law_349 6 rfl ?_
      refine j_iconst (v := 4) G dL_law_351 (by decide) ?_
      refine j_iadd G dL_law_352 ?_
      refine j_rwi (nI_add i 4) ?_
      refine j_sldN (j := i + 4) G hX hbl hbA (by omega) (by omega) dL_law_353 ?_
      refine j_aload_n G dL_law_354 rfl 1 rfl ?_
      refine j_iload G dL_law_355 6 rfl ?_
      refine j_iconst (v := 5) G dL_law_357 (by decide) ?_
      refine j_iadd G dL_law_358 ?_
      refine j_rwi (nI_add i 5) ?_
      refine j_sldN (j := i + 5) G hX hbl hbA (by omega) (by omega) dL_law_359 ?_
      refine jV_i G 7 0 (fw_i (cM_addTap l D cA qm un ui ul ua co (xs (i + 1)) (xs (i + 2)) (xs (i + 3)) (xs (i + 4)) (xs (i + 5)) hI.1.2.1) [] (((cF cA q un ui ul ua vc ex wo tp tf kf ++ va_pl L f) ++ [(oa, .inl (cA 4, 1, .inr (.inl g)))]) ++ [(ob, .inl (cA 5, 1, .inr (.inr (.inr (.inl gd)))))]) rfl) gL_128 hd_X7_addTap ⟨Nat.le_of_ble_eq_true rfl, Nat.le_of_ble_eq_true rfl⟩ ⟨by show _ ≤ 603072; omega, by show _ ≤ 7211114; omega⟩ rfl rfl (Nat.le_of_ble_eq_true rfl) rfl rfl dL_law_360 (fun r w9 hq9 => ?_)
      obtain ⟨b1, hq8, hw9⟩ := hq9
      rcases hq8 with ⟨hc9, hr9, hb9⟩ | ⟨hc9, hb9⟩
      · exact absurd (hcf.symm.trans hc9) (by decide)
      · rw [hcf] at hb9
        subst hw9
        subst hb9
        refine j_w (w' := mW cA qm un ui ul ua 3 ++ (((cF cA q un ui ul ua vc ex wo tp tf kf ++ va_pl L f) ++ [(oa, .inl (cA 4, 1, .inr (.inl g)))]) ++ [(ob, .inl (cA 5, 1, .inr (.inr (.inr (.inl gd)))))])) rfl ?_
        refine j_istore (lv' := [(7, .int r), (6, .int 3), (0, .ref bs), (1, .ref (q 0)), (2, .ref (qm 0)), (3, .ref oa), (4, .ref ob), (5, .int (nI i))]) G dL_law_363 (by decide) rfl ?_
        refine j_aload_n G dL_law_365 rfl 4 rfl ?_
        refine jV_i G 7 0 (fw_i (cM_thrown l D cA qm un ui ul ua 3  ) [] (((cF cA q un ui ul ua vc ex wo tp tf kf ++ va_pl L f) ++ [(oa, .inl (cA 4, 1, .inr (.inl g)))]) ++ [(ob, .inl (cA 5, 1, .inr (.inr (.inr (.inl gd)))))]) rfl) gL_122 hd_X7_thrown ⟨Nat.le_of_ble_eq_true rfl, Nat.le_of_ble_eq_true rfl⟩ ⟨by show _ ≤ 603072; omega, by show _ ≤ 7211114; omega⟩ rfl rfl (Nat.le_of_ble_eq_true rfl) rfl rfl dL_law_366 (fun r w9 hq9 => ?_)
        obtain ⟨b1, hq8, hw9⟩ := hq9
        obtain ⟨hr9, hb9⟩ := hq8
        subst hw9
        subst hb9
        subst hr9
        refine j_w (w' := mW cA qm un ui ul ua 3 ++ (((cF cA q un ui ul ua vc ex wo tp tf kf ++ va_pl L f) ++ [(oa, .inl (cA 4, 1, .inr (.inl g)))]) ++ [(ob, .inl (cA 5, 1, .inr (.inr (.inr (.inl gd)))))])) rfl ?_
        refine j_iload G dL_law_369 1 rfl ?_
        refine j_icmp_eq (tgt := 376) G dL_law_371 (by decide) (fun c371 => ?_) (fun c371 => absurd rfl c371)
        refine j_iload G dL_law_376 1 rfl ?_
        refine j_if_ne (tgt := 393) G dL_law_378 (by decide) (fun _ => ?_) (fun c378 => absurd c378 (by decide))
        refine j_goto (tgt := 2045) G dL_law_393 (by decide) ?_
        refine j_sub (lv' := [(0, .ref bs), (1, .ref (q 0)), (2, .ref (qm 0)), (3, .ref oa), (4, .ref ob), (5, .int (nI i))]) [2, 3, 4, 5, 6, 7] rfl ?_
        refine j_cs (k' := k + 8) (n' := n + 256) (by omega) (by omega) ?_
        refine j_w (w' := mW cA qm un ui ul ua 3 ++ (((cF cA q un ui ul ua vc ex wo tp tf kf ++ va_pl L f) ++ [(oa, .inl (cA 4, 1, .inr (.inl g)))]) ++ [(ob, .inl (cA 5, 1, .inr (.inr (.inr (.inl gd)))))])) rfl ?_
        exact hN un ui ul ua vc ex wo tp tf kf L f ta ga ka 3 g gd hI hPL
    · cases he
      have hr9 : r = 4 := by rcases hd9 with ⟨h8, h7⟩ | ⟨h8, h7⟩ | ⟨h8, h7⟩ | ⟨h8, h7⟩ <;> first | exact h7 | exact absurd h8 (by decide)
      subst hw9
      subst hb9
      subst hr9
      have hcf : cfAdd (un 0) (ua 0) (xs (i + 1)) (okTap (xs (i + 2)) (xs (i + 3)) (xs (i + 4)) (xs (i + 5))) = 4 := hc
      refine j_w (w' := mW cA qm un ui ul ua co ++ (((cF cA q un ui ul ua vc ex wo tp tf kf ++ va_pl L f) ++ [(oa, .inl (cA 4, 1, .inr (.inl g)))]) ++ [(ob, .inl (cA 5, 1, .inr (.inr (.inr (.inl gd)))))])) (List.append_assoc _ _ _) ?_
      refine j_istore (lv' := [(6, .int 4), (0, .ref bs), (1, .ref (q 0)), (2, .ref (qm 0)), (3, .ref oa), (4, .ref ob), (5, .int (nI i))]) G dL_law_327 (by decide) rfl ?_
      refine j_aload_n G dL_law_329 rfl 3 rfl ?_
      refine j_aload_n G dL_law_330 rfl 1 rfl ?_
      refine j_iload G dL_law_331 6 rfl ?_
      refine j_iconst (v := 1) G dL_law_333 (by decide) ?_
      refine j_iadd G dL_law_334 ?_
      refine j_rwi (nI_add i 1) ?_
      refine j_sldN (j := i + 1) G hX hbl hbA (by omega) (by omega) dL_law_335 ?_
      refine j_aload_n G dL_law_336 rfl 1 rfl ?_
      refine j_iload G dL_law_337 6 rfl ?_
      refine j_iconst (v := 2) G dL_law_339 (by decide) ?_
      refine j_iadd G dL_law_340 ?_
      refine j_rwi (nI_add i 2) ?_
      refine j_sldN (j := i + 2) G hX hbl hbA (by omega) (by omega) dL_law_341 ?_
      refine j_aload_n G dL_law_342 rfl 1 rfl ?_
      refine j_iload G dL_law_343 6 rfl ?_
      refine j_iconst (v := 3) G dL_law_345 (by decide) ?_
      refine j_iadd G dL_law_346 ?_
      refine j_rwi (nI_add i 3) ?_
      refine j_sldN (j := i + 3) G hX hbl hbA (by omega) (by omega) dL_law_347 ?_
      refine j_aload_n G dL_law_348 rfl 1 rfl ?_
      refine j_iload G dL_law_349 6 rfl ?_
      refine j_iconst (v := 4) G dL_law_351 (by decide) ?_
      refine j_iadd G dL_law_352 ?_
      refine j_rwi (nI_add i 4) ?_
      refine j_sldN (j := i + 4) G hX hbl hbA (by omega) (by omega) dL_law_353 ?_
      refine j_aload_n G dL_law_354 rfl 1 rfl ?_
      refine j_iload G dL_law_355 6 rfl ?_
      refine j_iconst (v := 5) G dL_law_357 (by decide) ?_
      refine j_iadd G dL_law_358 ?_
      refine j_rwi (nI_add i 5) ?_
      refine j_sldN (j := i + 5) G hX hbl hbA (by omega) (by omega) dL_law_359 ?_
      refine jV_i G 7 0 (fw_i (cM_addTap l D cA qm un ui ul ua co (xs (i + 1)) (xs (i + 2)) (xs (i + 3)) (xs (i + 4)) (xs (i + 5)) hI.1.2.1) [] (((cF cA q un ui ul ua vc ex wo tp tf kf ++ va_pl L f) ++ [(oa, .inl (cA 4, 1, .inr (.inl g)))]) ++ [(ob, .inl (cA 5, 1, .inr (.inr (.inr (.inl gd)))))]) rfl) gL_128 hd_X7_addTap ⟨Nat.le_of_ble_eq_true rfl, Nat.le_of_ble_eq_true rfl⟩ ⟨by show _ ≤ 603072; omega, by show _ ≤ 7211114; omega⟩ rfl rfl (Nat.le_of_ble_eq_true rfl) rfl rfl dL_law_360 (fun r w9 hq9 => ?_)
      obtain ⟨b1, hq8, hw9⟩ := hq9
      rcases hq8 with ⟨hc9, hr9, hb9⟩ | ⟨hc9, hb9⟩
      · exact absurd (hcf.symm.trans hc9) (by decide)
      · rw [hcf] at hb9
        subst hw9
        subst hb9
        refine j_w (w' := mW cA qm un ui ul ua 4 ++ (((cF cA q un ui ul ua vc ex wo tp tf kf ++ va_pl L f) ++ [(oa, .inl (cA 4, 1, .inr (.inl g)))]) ++ [(ob, .inl (cA 5, 1, .inr (.inr (.inr (.inl gd)))))])) rfl ?_
        refine j_istore (lv' := [(7, .int r), (6, .int 4), (0, .ref bs), (1, .ref (q 0)), (2, .ref (qm 0)), (3, .ref oa), (4, .ref ob), (5, .int (nI i))]) G dL_law_363 (by decide) rfl ?_
        refine j_aload_n G dL_law_365 rfl 4 rfl ?_
        refine jV_i G 7 0 (fw_i (cM_thrown l D cA qm un ui ul ua 4  ) [] (((cF cA q un ui ul ua vc ex wo tp tf kf ++ va_pl L f) ++ [(oa, .inl (cA 4, 1, .inr (.inl g)))]) ++ [(ob, .inl (cA 5, 1, .inr (.inr (.inr (.inl gd)))))]) rfl) gL_122 hd_X7_thrown ⟨Nat.le_of_ble_eq_true rfl, Nat.le_of_ble_eq_true rfl⟩ ⟨by show _ ≤ 603072; omega, by show _ ≤ 7211114; omega⟩ rfl rfl (Nat.le_of_ble_eq_true rfl) rfl rfl dL_law_366 (fun r w9 hq9 => ?_)
        obtain ⟨b1, hq8, hw9⟩ := hq9
        obtain ⟨hr9, hb9⟩ := hq8
        subst hw9
        subst hb9
        subst hr9
        refine j_w (w' := mW cA qm un ui ul ua 4 ++ (((cF cA q un ui ul ua vc ex wo tp tf kf ++ va_pl L f) ++ [(oa, .inl (cA 4, 1, .inr (.inl g)))]) ++ [(ob, .inl (cA 5, 1, .inr (.inr (.inr (.inl gd)))))])) rfl ?_
        refine j_iload G dL_law_369 1 rfl ?_
        refine j_icmp_eq (tgt := 376) G dL_law_371 (by decide) (fun c371 => ?_) (fun c371 => absurd rfl c371)
        refine j_iload G dL_law_376 1 rfl ?_
        refine j_if_ne (tgt := 393) G dL_law_378 (by decide) (fun _ => ?_) (fun c378 => absurd c378 (by decide))
        refine j_goto (tgt := 2045) G dL_law_393 (by decide) ?_
        refine j_sub (lv' := [(0, .ref bs), (1, .ref (q 0)), (2, .ref (qm 0)), (3, .ref oa), (4, .ref ob), (5, .int (nI i))]) [2, 3, 4, 5, 6, 7] rfl ?_
        refine j_cs (k' := k + 8) (n' := n + 256) (by omega) (by omega) ?_
        refine j_w (w' := mW cA qm un ui ul ua 4 ++ (((cF cA q un ui ul ua vc ex wo tp tf kf ++ va_pl L f) ++ [(oa, .inl (cA 4, 1, .inr (.inl g)))]) ++ [(ob, .inl (cA 5, 1, .inr (.inr (.inr (.inl gd)))))])) rfl ?_
        exact hN un ui ul ua vc ex wo tp tf kf L f ta ga ka 4 g gd hI hPL
set_option maxHeartbeats 4000000 in
set_option maxRecDepth 100000 in
theorem lw_setPump {p : Program} {l : Launch} {e : Env} {s : State} {m : MethodId} {args : Array Value} {below : List Frame} {meth : Method} {c : Code} {D : va_G} {cA : Nat → ClassId} {A : Nat → Prop} {Q : State → Prop} {k n : Nat} (G : GX p s m args c cL_law 9 RL D cA A) (hfl : l.stackTraces = false) {bs Ls : Nat} {xs : Nat → Int32} (hX : va_X bs Ls xs s s.heap) (hbl : bs < s.heap.size) (hbA : ¬ A bs) (hLs : Ls ≤ 3072) {i : Nat} (hi : i + 5 < Ls) (hk : k + 8 ≤ 603072) (hn9 : n + 256 ≤ 7211114) (q qm : Nat → Nat) (un : Nat → Nat) (ui : Nat → Int32) (ul : Nat → Int64) (ua : Nat → Nat → Int32) (vc ex wo tp : Nat → Int32) (tf kf : Nat → Option Nat) (L : List Nat) (f : Nat → va_E) (ta ga ka : Nat → Nat) (co : Int32) (oa ob : Nat) (g : Nat → Int64) (gd : Nat → UInt64) (hI : INV un ui ua) (hPL : PL cA un ua L f tf kf ta ga ka) (hN : ∀ (un : Nat → Nat) (ui : Nat → Int32) (ul : Nat → Int64) (ua : Nat → Nat → Int32) (vc ex wo tp : Nat → Int32) (tf kf : Nat → Option Nat) (L : List Nat) (f : Nat → va_E) (ta ga ka : Nat → Nat) (co : Int32) (g : Nat → Int64) (gd : Nat → UInt64), INV un ui ua → PL cA un ua L f tf kf ta ga ka → J p l e (RM 2048 94400 603072 7211114) s m args below meth c 9 D A (mW cA qm un ui ul ua co ++ (((cF cA q un ui ul ua vc ex wo tp tf kf ++ va_pl L f) ++ [(oa, .inl (cA 4, 1, .inr (.inl g)))]) ++ [(ob, .inl (cA 5, 1, .inr (.inr (.inr (.inl gd)))))])) (k + 8) (n + 256) Q 2045 [(0, .ref bs), (1, .ref (q 0)), (2, .ref (qm 0)), (3, .ref oa), (4, .ref ob), (5, .int (nI i))] []) : J p l e (RM 2048 94400 603072 7211114) s m args below meth c 9 D A (mW cA qm un ui ul ua co ++ (((cF cA q un ui ul ua vc ex wo tp tf kf ++ va_pl L f) ++ [(oa, .inl (cA 4, 1, .inr (.inl g)))]) ++ [(ob, .inl (cA 5, 1, .inr (.inr (.inr (.inl gd)))))])) k n Q 396 [(0, .ref bs), (1, .ref (q 0)), (2, .ref (qm 0)), (3, .ref oa), (4, .ref ob), (5, .int (nI i))] [] := by
  refine j_aload_n G dL_law_396 rfl 1 rfl ?_
  refine j_aload_n G dL_law_397 rfl 0 rfl ?_
  refine j_iload G dL_law_398 5 rfl ?_
  refine j_iconst (v := 1) G dL_law_400 (by decide) ?_
  refine j_iadd G dL_law_401 ?_
  refine j_rwi (nI_add i 1) ?_
  refine j_sldN (j := i + 1) G hX hbl hbA (by omega) (by omega) dL_law_402 ?_
  refine j_aload_n G dL_law_403 rfl 3 rfl ?_
  refine jSW_i G (fw_W (cW_setPump l D cA (b0 := cF cA q un ui ul ua vc ex wo tp tf kf ++ va_pl L f) rfl (xs (i + 1)) g (cC_X6_setPump l D cA hfl q un ui ul ua vc ex wo tp tf kf L f (xs (i + 1)) ) (fun E8 b8 h8 => congrArg Prod.fst h8.2)) (mW cA qm un ui ul ua co) [(ob, .inl (cA 5, 1, .inr (.inr (.inr (.inl gd)))))] (List.append_assoc _ _ _).symm) (gw_setPump wd_506) hd_L_setPump.2 ⟨Nat.le_of_ble_eq_true rfl, Nat.le_of_ble_eq_true rfl⟩ ⟨by show _ ≤ 603072; omega, by show _ ≤ 7211114; omega⟩ rfl rfl (Nat.le_of_ble_eq_true rfl) dL_law_404 (fun r w9 hq9 => ?_)
  obtain ⟨b1, hq8, hw9⟩ := hq9
  rcases hq8 with ⟨v9, b2, hp9, hr9, hb9⟩ | ⟨E9, b2, hp9, hd9, hb9⟩
  · obtain ⟨hok, hv9, hb8⟩ := hp9
    subst hw9
    subst hb9
    subst hr9
    subst hb8
    subst hv9
    have hcf : cfPump (xs (i + 1)) = 0 := hok
    refine j_w (w' := mW cA qm un ui ul ua co ++ (((cF cA q un (up ui 0 (xs (i + 1))) ul ua vc ex wo tp tf kf ++ va_pl L f) ++ [(oa, .inl (cA 4, 1, .inr (.inl (vp_updL g 0 (ui 0).toInt64))))]) ++ [(ob, .inl (cA 5, 1, .inr (.inr (.inr (.inl gd)))))])) (List.append_assoc _ _ _) ?_
    refine j_istore (lv' := [(6, .int 0), (0, .ref bs), (1, .ref (q 0)), (2, .ref (qm 0)), (3, .ref oa), (4, .ref ob), (5, .int (nI i))]) G dL_law_407 (by decide) rfl ?_
    refine j_aload_n G dL_law_409 rfl 3 rfl ?_
    refine j_aload_n G dL_law_410 rfl 1 rfl ?_
    refine j_iload G dL_law_411 6 rfl ?_
    refine j_iconst (v := 1) G dL_law_413 (by decide) ?_
    refine j_iadd G dL_law_414 ?_
    refine j_rwi (nI_add i 1) ?_
    refine j_sldN (j := i + 1) G hX hbl hbA (by omega) (by omega) dL_law_415 ?_
    refine jV_i G 7 0 (fw_i (cM_setPump l D cA qm un ui ul ua co (xs (i + 1)) ) [] (((cF cA q un (up ui 0 (xs (i + 1))) ul ua vc ex wo tp tf kf ++ va_pl L f) ++ [(oa, .inl (cA 4, 1, .inr (.inl (vp_updL g 0 (ui 0).toInt64))))]) ++ [(ob, .inl (cA 5, 1, .inr (.inr (.inr (.inl gd)))))]) rfl) gL_132 hd_X7_setPump ⟨Nat.le_of_ble_eq_true rfl, Nat.le_of_ble_eq_true rfl⟩ ⟨by show _ ≤ 603072; omega, by show _ ≤ 7211114; omega⟩ rfl rfl (Nat.le_of_ble_eq_true rfl) rfl rfl dL_law_416 (fun r w9 hq9 => ?_)
    obtain ⟨b1, hq8, hw9⟩ := hq9
    rcases hq8 with ⟨hc9, hr9, hb9⟩ | ⟨hc9, hb9⟩
    · subst hw9
      subst hb9
      subst hr9
      refine j_w (w' := mW cA qm un (up ui 0 (xs (i + 1))) ul ua 0 ++ (((cF cA q un (up ui 0 (xs (i + 1))) ul ua vc ex wo tp tf kf ++ va_pl L f) ++ [(oa, .inl (cA 4, 1, .inr (.inl (vp_updL g 0 (ui 0).toInt64))))]) ++ [(ob, .inl (cA 5, 1, .inr (.inr (.inr (.inl gd)))))])) rfl ?_
      refine j_istore (lv' := [(7, .int (ui 0)), (6, .int 0), (0, .ref bs), (1, .ref (q 0)), (2, .ref (qm 0)), (3, .ref oa), (4, .ref ob), (5, .int (nI i))]) G dL_law_419 (by decide) rfl ?_
      refine j_aload_n G dL_law_421 rfl 4 rfl ?_
      refine jV_i G 7 0 (fw_i (cM_thrown l D cA qm un (up ui 0 (xs (i + 1))) ul ua 0  ) [] (((cF cA q un (up ui 0 (xs (i + 1))) ul ua vc ex wo tp tf kf ++ va_pl L f) ++ [(oa, .inl (cA 4, 1, .inr (.inl (vp_updL g 0 (ui 0).toInt64))))]) ++ [(ob, .inl (cA 5, 1, .inr (.inr (.inr (.inl gd)))))]) rfl) gL_122 hd_X7_thrown ⟨Nat.le_of_ble_eq_true rfl, Nat.le_of_ble_eq_true rfl⟩ ⟨by show _ ≤ 603072; omega, by show _ ≤ 7211114; omega⟩ rfl rfl (Nat.le_of_ble_eq_true rfl) rfl rfl dL_law_422 (fun r w9 hq9 => ?_)
      obtain ⟨b1, hq8, hw9⟩ := hq9
      obtain ⟨hr9, hb9⟩ := hq8
      subst hw9
      subst hb9
      subst hr9
      refine j_w (w' := mW cA qm un (up ui 0 (xs (i + 1))) ul ua 0 ++ (((cF cA q un (up ui 0 (xs (i + 1))) ul ua vc ex wo tp tf kf ++ va_pl L f) ++ [(oa, .inl (cA 4, 1, .inr (.inl (vp_updL g 0 (ui 0).toInt64))))]) ++ [(ob, .inl (cA 5, 1, .inr (.inr (.inr (.inl gd)))))])) rfl ?_
      refine j_iload G dL_law_425 1 rfl ?_
      refine j_icmp_eq (tgt := 432) G dL_law_427 (by decide) (fun c427 => ?_) (fun c427 => absurd rfl c427)
      refine j_iload G dL_law_432 1 rfl ?_
      refine j_if_ne (tgt := 449) G dL_law_434 (by decide) (fun c434 => absurd c434 (by decide)) (fun _ => ?_)
      refine j_aload_n G dL_law_437 rfl 5 rfl ?_
      refine j_iconst (v := 0) G dL_law_438 (by decide) ?_
      refine j_lald G _ wq_o (show vp_in (nI 0) 1 from vp_in_nI (by decide) (by decide)) dL_law_439 ?_
      refine j_rwl (show _ = (ui 0).toInt64 from rfl) ?_
      refine j_iload G dL_law_440 0 rfl ?_
      refine j_i2l G dL_law_442 ?_
      refine j_lcmp G dL_law_443 ?_
      refine j_if_eq (tgt := 449) G dL_law_444 (by decide) (fun c444 => ?_) (fun c444 => absurd (lgz.mpr rfl) c444)
      refine j_goto (tgt := 2045) G dL_law_449 (by decide) ?_
      refine j_sub (lv' := [(0, .ref bs), (1, .ref (q 0)), (2, .ref (qm 0)), (3, .ref oa), (4, .ref ob), (5, .int (nI i))]) [2, 3, 4, 5, 6, 7] rfl ?_
      refine j_cs (k' := k + 8) (n' := n + 256) (by omega) (by omega) ?_
      refine j_w (w' := mW cA qm un (up ui 0 (xs (i + 1))) ul ua 0 ++ (((cF cA q un (up ui 0 (xs (i + 1))) ul ua vc ex wo tp tf kf ++ va_pl L f) ++ [(oa, .inl (cA 4, 1, .inr (.inl (vp_updL g 0 (ui 0).toInt64))))]) ++ [(ob, .inl (cA 5, 1, .inr (.inr (.inr (.inl gd)))))])) rfl ?_
      exact hN un (up ui 0 (xs (i + 1))) ul ua vc ex wo tp tf kf L f ta ga ka 0 (vp_updL g 0 (ui 0).toInt64) gd (hI.pump hok) hPL
    · exact absurd hcf hc9
  · obtain ⟨hc, he⟩ := hp9
    cases he
    have hr9 : r = 1 := hd9.2
    subst hw9
    subst hb9
    subst hr9
    have hcf : cfPump (xs (i + 1)) = 1 := hc
    refine j_w (w' := mW cA qm un ui ul ua co ++ (((cF cA q un ui ul ua vc ex wo tp tf kf ++ va_pl L f) ++ [(oa, .inl (cA 4, 1, .inr (.inl g)))]) ++ [(ob, .inl (cA 5, 1, .inr (.inr (.inr (.inl gd)))))])) (List.append_assoc _ _ _) ?_
    refine j_istore (lv' := [(6, .int 1), (0, .ref bs), (1, .ref (q 0)), (2, .ref (qm 0)), (3, .ref oa), (4, .ref ob), (5, .int (nI i))]) G dL_law_407 (by decide) rfl ?_
    refine j_aload_n G dL_law_409 rfl 3 rfl ?_
    refine j_aload_n G dL_law_410 rfl 1 rfl ?_
    refine j_iload G dL_law_411 6 rfl ?_
    refine j_iconst (v := 1) G dL_law_413 (by decide) ?_
    refine j_iadd G dL_law_414 ?_
    refine j_rwi (nI_add i 1) ?_
    refine j_sldN (j := i + 1) G hX hbl hbA (by omega) (by omega) dL_law_415 ?_
    refine jV_i G 7 0 (fw_i (cM_setPump l D cA qm un ui ul ua co (xs (i + 1)) ) [] (((cF cA q un ui ul ua vc ex wo tp tf kf ++ va_pl L f) ++ [(oa, .inl (cA 4, 1, .inr (.inl g)))]) ++ [(ob, .inl (cA 5, 1, .inr (.inr (.inr (.inl gd)))))]) rfl) gL_132 hd_X7_setPump ⟨Nat.le_of_ble_eq_true rfl, Nat.le_of_ble_eq_true rfl⟩ ⟨by show _ ≤ 603072; omega, by show _ ≤ 7211114; omega⟩ rfl rfl (Nat.le_of_ble_eq_true rfl) rfl rfl dL_law_416 (fun r w9 hq9 => ?_)
    obtain ⟨b1, hq8, hw9⟩ := hq9
    rcases hq8 with ⟨hc9, hr9, hb9⟩ | ⟨hc9, hb9⟩
    · exact absurd (hcf.symm.trans hc9) (by decide)
    · rw [hcf] at hb9
      subst hw9
      subst hb9
      refine j_w (w' := mW cA qm un ui ul ua 1 ++ (((cF cA q un ui ul ua vc ex wo tp tf kf ++ va_pl L f) ++ [(oa, .inl (cA 4, 1, .inr (.inl g)))]) ++ [(ob, .inl (cA 5, 1, .inr (.inr (.inr (.inl gd)))))])) rfl ?_
      refine j_istore (lv' := [(7, .int r), (6, .int 1), (0, .ref bs), (1, .ref (q 0)), (2, .ref (qm 0)), (3, .ref oa), (4, .ref ob), (5, .int (nI i))]) G dL_law_419 (by decide) rfl ?_
      refine j_aload_n G dL_law_421 rfl 4 rfl ?_
      refine jV_i G 7 0 (fw_i (cM_thrown l D cA qm un ui ul ua 1  ) [] (((cF cA q un ui ul ua vc ex wo tp tf kf ++ va_pl L f) ++ [(oa, .inl (cA 4, 1, .inr (.inl g)))]) ++ [(ob, .inl (cA 5, 1, .inr (.inr (.inr (.inl gd)))))]) rfl) gL_122 hd_X7_thrown ⟨Nat.le_of_ble_eq_true rfl, Nat.le_of_ble_eq_true rfl⟩ ⟨by show _ ≤ 603072; omega, by show _ ≤ 7211114; omega⟩ rfl rfl (Nat.le_of_ble_eq_true rfl) rfl rfl dL_law_422 (fun r w9 hq9 => ?_)
      obtain ⟨b1, hq8, hw9⟩ := hq9
      obtain ⟨hr9, hb9⟩ := hq8
      subst hw9
      subst hb9
      subst hr9
      refine j_w (w' := mW cA qm un ui ul ua 1 ++ (((cF cA q un ui ul ua vc ex wo tp tf kf ++ va_pl L f) ++ [(oa, .inl (cA 4, 1, .inr (.inl g)))]) ++ [(ob, .inl (cA 5, 1, .inr (.inr (.inr (.inl gd)))))])) rfl ?_
      refine j_iload G dL_law_425 1 rfl ?_
      refine j_icmp_eq (tgt := 432) G dL_law_427 (by decide) (fun c427 => ?_) (fun c427 => absurd rfl c427)
      refine j_iload G dL_law_432 1 rfl ?_
      refine j_if_ne (tgt := 449) G dL_law_434 (by decide) (fun _ => ?_) (fun c434 => absurd c434 (by decide))
      refine j_goto (tgt := 2045) G dL_law_449 (by decide) ?_
      refine j_sub (lv' := [(0, .ref bs), (1, .ref (q 0)), (2, .ref (qm 0)), (3, .ref oa), (4, .ref ob), (5, .int (nI i))]) [2, 3, 4, 5, 6, 7] rfl ?_
      refine j_cs (k' := k + 8) (n' := n + 256) (by omega) (by omega) ?_
      refine j_w (w' := mW cA qm un ui ul ua 1 ++ (((cF cA q un ui ul ua vc ex wo tp tf kf ++ va_pl L f) ++ [(oa, .inl (cA 4, 1, .inr (.inl g)))]) ++ [(ob, .inl (cA 5, 1, .inr (.inr (.inr (.inl gd)))))])) rfl ?_
      exact hN un ui ul ua vc ex wo tp tf kf L f ta ga ka 1 g gd hI hPL
set_option maxHeartbeats 4000000 in
set_option maxRecDepth 100000 in
theorem lw_addLeak {p : Program} {l : Launch} {e : Env} {s : State} {m : MethodId} {args : Array Value} {below : List Frame} {meth : Method} {c : Code} {D : va_G} {cA : Nat → ClassId} {A : Nat → Prop} {Q : State → Prop} {k n : Nat} (G : GX p s m args c cL_law 9 RL D cA A) (hfl : l.stackTraces = false) {bs Ls : Nat} {xs : Nat → Int32} (hX : va_X bs Ls xs s s.heap) (hbl : bs < s.heap.size) (hbA : ¬ A bs) (hLs : Ls ≤ 3072) {i : Nat} (hi : i + 5 < Ls) (hk : k + 8 ≤ 603072) (hn9 : n + 256 ≤ 7211114) (q qm : Nat → Nat) (un : Nat → Nat) (ui : Nat → Int32) (ul : Nat → Int64) (ua : Nat → Nat → Int32) (vc ex wo tp : Nat → Int32) (tf kf : Nat → Option Nat) (L : List Nat) (f : Nat → va_E) (ta ga ka : Nat → Nat) (co : Int32) (oa ob : Nat) (g : Nat → Int64) (gd : Nat → UInt64) (hI : INV un ui ua) (hPL : PL cA un ua L f tf kf ta ga ka) (hN : ∀ (un : Nat → Nat) (ui : Nat → Int32) (ul : Nat → Int64) (ua : Nat → Nat → Int32) (vc ex wo tp : Nat → Int32) (tf kf : Nat → Option Nat) (L : List Nat) (f : Nat → va_E) (ta ga ka : Nat → Nat) (co : Int32) (g : Nat → Int64) (gd : Nat → UInt64), INV un ui ua → PL cA un ua L f tf kf ta ga ka → J p l e (RM 2048 94400 603072 7211114) s m args below meth c 9 D A (mW cA qm un ui ul ua co ++ (((cF cA q un ui ul ua vc ex wo tp tf kf ++ va_pl L f) ++ [(oa, .inl (cA 4, 1, .inr (.inl g)))]) ++ [(ob, .inl (cA 5, 1, .inr (.inr (.inr (.inl gd)))))])) (k + 8) (n + 256) Q 2045 [(0, .ref bs), (1, .ref (q 0)), (2, .ref (qm 0)), (3, .ref oa), (4, .ref ob), (5, .int (nI i))] []) : J p l e (RM 2048 94400 603072 7211114) s m args below meth c 9 D A (mW cA qm un ui ul ua co ++ (((cF cA q un ui ul ua vc ex wo tp tf kf ++ va_pl L f) ++ [(oa, .inl (cA 4, 1, .inr (.inl g)))]) ++ [(ob, .inl (cA 5, 1, .inr (.inr (.inr (.inl gd)))))])) k n Q 452 [(0, .ref bs), (1, .ref (q 0)), (2, .ref (qm 0)), (3, .ref oa), (4, .ref ob), (5, .int (nI i))] [] := by
  refine j_aload_n G dL_law_452 rfl 1 rfl ?_
  refine j_aload_n G dL_law_453 rfl 0 rfl ?_
  refine j_iload G dL_law_454 5 rfl ?_
  refine j_iconst (v := 1) G dL_law_456 (by decide) ?_
  refine j_iadd G dL_law_457 ?_
  refine j_rwi (nI_add i 1) ?_
  refine j_sldN (j := i + 1) G hX hbl hbA (by omega) (by omega) dL_law_458 ?_
  refine j_aload_n G dL_law_459 rfl 0 rfl ?_
  refine j_iload G dL_law_460 5 rfl ?_
  refine j_iconst (v := 2) G dL_law_462 (by decide) ?_
  refine j_iadd G dL_law_463 ?_
  refine j_rwi (nI_add i 2) ?_
  refine j_sldN (j := i + 2) G hX hbl hbA (by omega) (by omega) dL_law_464 ?_
  refine j_aload_n G dL_law_465 rfl 3 rfl ?_
  refine jSW_i G (fw_W (cW_addLeak l D cA (b0 := cF cA q un ui ul ua vc ex wo tp tf kf ++ va_pl L f) rfl (xs (i + 1)) (xs (i + 2)) g (cC_X6_addLeak l D cA hfl q un ui ul ua vc ex wo tp tf kf L f (xs (i + 1)) (xs (i + 2)) hI.1.2.1) (fun E8 b8 h8 => h8.elim (fun h8 => Or.inl (congrArg Prod.fst h8.2)) (fun h8 => Or.inr ((congrArg Prod.fst h8.2))))) (mW cA qm un ui ul ua co) [(ob, .inl (cA 5, 1, .inr (.inr (.inr (.inl gd)))))] (List.append_assoc _ _ _).symm) (gw_addLeak wd_518) hd_L_addLeak.2 ⟨Nat.le_of_ble_eq_true rfl, Nat.le_of_ble_eq_true rfl⟩ ⟨by show _ ≤ 603072; omega, by show _ ≤ 7211114; omega⟩ rfl rfl (Nat.le_of_ble_eq_true rfl) dL_law_466 (fun r w9 hq9 => ?_)
  obtain ⟨b1, hq8, hw9⟩ := hq9
  rcases hq8 with ⟨v9, b2, hp9, hr9, hb9⟩ | ⟨E9, b2, hp9, hd9, hb9⟩
  · obtain ⟨hok, hv9, hb8⟩ := hp9
    subst hw9
    subst hb9
    subst hr9
    subst hb8
    subst hv9
    have hcf : cfLeak (un 0) (xs (i + 1)) (xs (i + 2)) = 0 := hok
    refine j_w (w' := mW cA qm un ui ul ua co ++ (((cF cA q un ui ul (up ua 7 (upd (ua 7) (xs (i + 1)).toNatClampNeg (xs (i + 2)))) vc ex wo tp tf kf ++ va_pl L f) ++ [(oa, .inl (cA 4, 1, .inr (.inl (vp_updL g 0 (ua 7 (xs (i + 1)).toNatClampNeg).toInt64))))]) ++ [(ob, .inl (cA 5, 1, .inr (.inr (.inr (.inl gd)))))])) (List.append_assoc _ _ _) ?_
    refine j_istore (lv' := [(6, .int 0), (0, .ref bs), (1, .ref (q 0)), (2, .ref (qm 0)), (3, .ref oa), (4, .ref ob), (5, .int (nI i))]) G dL_law_469 (by decide) rfl ?_
    refine j_aload_n G dL_law_471 rfl 3 rfl ?_
    refine j_aload_n G dL_law_472 rfl 1 rfl ?_
    refine j_iload G dL_law_473 6 rfl ?_
    refine j_iconst (v := 1) G dL_law_475 (by decide) ?_
    refine j_iadd G dL_law_476 ?_
    refine j_rwi (nI_add i 1) ?_
    refine j_sldN (j := i + 1) G hX hbl hbA (by omega) (by omega) dL_law_477 ?_
    refine j_aload_n G dL_law_478 rfl 1 rfl ?_
    refine j_iload G dL_law_479 6 rfl ?_
    refine j_iconst (v := 2) G dL_law_481 (by decide) ?_
    refine j_iadd G dL_law_482 ?_
    refine j_rwi (nI_add i 2) ?_
    refine j_sldN (j := i + 2) G hX hbl hbA (by omega) (by omega) dL_law_483 ?_
    refine jV_i G 7 0 (fw_i (cM_addLeak l D cA qm un ui ul ua co (xs (i + 1)) (xs (i + 2)) hI.1.2.1) [] (((cF cA q un ui ul (up ua 7 (upd (ua 7) (xs (i + 1)).toNatClampNeg (xs (i + 2)))) vc ex wo tp tf kf ++ va_pl L f) ++ [(oa, .inl (cA 4, 1, .inr (.inl (vp_updL g 0 (ua 7 (xs (i + 1)).toNatClampNeg).toInt64))))]) ++ [(ob, .inl (cA 5, 1, .inr (.inr (.inr (.inl gd)))))]) rfl) gL_135 hd_X7_addLeak ⟨Nat.le_of_ble_eq_true rfl, Nat.le_of_ble_eq_true rfl⟩ ⟨by show _ ≤ 603072; omega, by show _ ≤ 7211114; omega⟩ rfl rfl (Nat.le_of_ble_eq_true rfl) rfl rfl dL_law_484 (fun r w9 hq9 => ?_)
    obtain ⟨b1, hq8, hw9⟩ := hq9
    rcases hq8 with ⟨hc9, hr9, hb9⟩ | ⟨hc9, hb9⟩
    · subst hw9
      subst hb9
      subst hr9
      refine j_w (w' := mW cA qm un ui ul (up ua 7 (upd (ua 7) (xs (i + 1)).toNatClampNeg (xs (i + 2)))) 0 ++ (((cF cA q un ui ul (up ua 7 (upd (ua 7) (xs (i + 1)).toNatClampNeg (xs (i + 2)))) vc ex wo tp tf kf ++ va_pl L f) ++ [(oa, .inl (cA 4, 1, .inr (.inl (vp_updL g 0 (ua 7 (xs (i + 1)).toNatClampNeg).toInt64))))]) ++ [(ob, .inl (cA 5, 1, .inr (.inr (.inr (.inl gd)))))])) rfl ?_
      refine j_istore (lv' := [(7, .int (ua 7 (xs (i + 1)).toNatClampNeg)), (6, .int 0), (0, .ref bs), (1, .ref (q 0)), (2, .ref (qm 0)), (3, .ref oa), (4, .ref ob), (5, .int (nI i))]) G dL_law_487 (by decide) rfl ?_
      refine j_aload_n G dL_law_489 rfl 4 rfl ?_
      refine jV_i G 7 0 (fw_i (cM_thrown l D cA qm un ui ul (up ua 7 (upd (ua 7) (xs (i + 1)).toNatClampNeg (xs (i + 2)))) 0  ) [] (((cF cA q un ui ul (up ua 7 (upd (ua 7) (xs (i + 1)).toNatClampNeg (xs (i + 2)))) vc ex wo tp tf kf ++ va_pl L f) ++ [(oa, .inl (cA 4, 1, .inr (.inl (vp_updL g 0 (ua 7 (xs (i + 1)).toNatClampNeg).toInt64))))]) ++ [(ob, .inl (cA 5, 1, .inr (.inr (.inr (.inl gd)))))]) rfl) gL_122 hd_X7_thrown ⟨Nat.le_of_ble_eq_true rfl, Nat.le_of_ble_eq_true rfl⟩ ⟨by show _ ≤ 603072; omega, by show _ ≤ 7211114; omega⟩ rfl rfl (Nat.le_of_ble_eq_true rfl) rfl rfl dL_law_490 (fun r w9 hq9 => ?_)
      obtain ⟨b1, hq8, hw9⟩ := hq9
      obtain ⟨hr9, hb9⟩ := hq8
      subst hw9
      subst hb9
      subst hr9
      refine j_w (w' := mW cA qm un ui ul (up ua 7 (upd (ua 7) (xs (i + 1)).toNatClampNeg (xs (i + 2)))) 0 ++ (((cF cA q un ui ul (up ua 7 (upd (ua 7) (xs (i + 1)).toNatClampNeg (xs (i + 2)))) vc ex wo tp tf kf ++ va_pl L f) ++ [(oa, .inl (cA 4, 1, .inr (.inl (vp_updL g 0 (ua 7 (xs (i + 1)).toNatClampNeg).toInt64))))]) ++ [(ob, .inl (cA 5, 1, .inr (.inr (.inr (.inl gd)))))])) rfl ?_
      refine j_iload G dL_law_493 1 rfl ?_
      refine j_icmp_eq (tgt := 500) G dL_law_495 (by decide) (fun c495 => ?_) (fun c495 => absurd rfl c495)
      refine j_iload G dL_law_500 1 rfl ?_
      refine j_if_ne (tgt := 517) G dL_law_502 (by decide) (fun c502 => absurd c502 (by decide)) (fun _ => ?_)
      refine j_aload_n G dL_law_505 rfl 5 rfl ?_
      refine j_iconst (v := 0) G dL_law_506 (by decide) ?_
      refine j_lald G _ wq_o (show vp_in (nI 0) 1 from vp_in_nI (by decide) (by decide)) dL_law_507 ?_
      refine j_rwl (show _ = (ua 7 (xs (i + 1)).toNatClampNeg).toInt64 from rfl) ?_
      refine j_iload G dL_law_508 0 rfl ?_
      refine j_i2l G dL_law_510 ?_
      refine j_lcmp G dL_law_511 ?_
      refine j_if_eq (tgt := 517) G dL_law_512 (by decide) (fun c512 => ?_) (fun c512 => absurd (lgz.mpr rfl) c512)
      refine j_goto (tgt := 2045) G dL_law_517 (by decide) ?_
      refine j_sub (lv' := [(0, .ref bs), (1, .ref (q 0)), (2, .ref (qm 0)), (3, .ref oa), (4, .ref ob), (5, .int (nI i))]) [2, 3, 4, 5, 6, 7] rfl ?_
      refine j_cs (k' := k + 8) (n' := n + 256) (by omega) (by omega) ?_
      refine j_w (w' := mW cA qm un ui ul (up ua 7 (upd (ua 7) (xs (i + 1)).toNatClampNeg (xs (i + 2)))) 0 ++ (((cF cA q un ui ul (up ua 7 (upd (ua 7) (xs (i + 1)).toNatClampNeg (xs (i + 2)))) vc ex wo tp tf kf ++ va_pl L f) ++ [(oa, .inl (cA 4, 1, .inr (.inl (vp_updL g 0 (ua 7 (xs (i + 1)).toNatClampNeg).toInt64))))]) ++ [(ob, .inl (cA 5, 1, .inr (.inr (.inr (.inl gd)))))])) rfl ?_
      exact hN un ui ul (up ua 7 (upd (ua 7) (xs (i + 1)).toNatClampNeg (xs (i + 2)))) vc ex wo tp tf kf L f ta ga ka 0 (vp_updL g 0 (ua 7 (xs (i + 1)).toNatClampNeg).toInt64) gd (hI.leak _ (cfLeak_ok hok).2) hPL
    · exact absurd hcf hc9
  · rcases hp9 with ⟨hc, he⟩ | ⟨hc, he⟩
    · cases he
      have hr9 : r = 1 := by rcases hd9 with ⟨h8, h7⟩ | ⟨h8, h7⟩ <;> first | exact h7 | exact absurd h8 (by decide)
      subst hw9
      subst hb9
      subst hr9
      have hcf : cfLeak (un 0) (xs (i + 1)) (xs (i + 2)) = 1 := hc
      refine j_w (w' := mW cA qm un ui ul ua co ++ (((cF cA q un ui ul ua vc ex wo tp tf kf ++ va_pl L f) ++ [(oa, .inl (cA 4, 1, .inr (.inl g)))]) ++ [(ob, .inl (cA 5, 1, .inr (.inr (.inr (.inl gd)))))])) (List.append_assoc _ _ _) ?_
      refine j_istore (lv' := [(6, .int 1), (0, .ref bs), (1, .ref (q 0)), (2, .ref (qm 0)), (3, .ref oa), (4, .ref ob), (5, .int (nI i))]) G dL_law_469 (by decide) rfl ?_
      refine j_aload_n G dL_law_471 rfl 3 rfl ?_
      refine j_aload_n G dL_law_472 rfl 1 rfl ?_
      refine j_iload G dL_law_473 6 rfl ?_
      refine j_iconst (v := 1) G dL_law_475 (by decide) ?_
      refine j_iadd G dL_law_476 ?_
      refine j_rwi (nI_add i 1) ?_
      refine j_sldN (j := i + 1) G hX hbl hbA (by omega) (by omega) dL_law_477 ?_
      refine j_aload_n G dL_law_478 rfl 1 rfl ?_
      refine j_iload G dL_law_479 6 rfl ?_
      refine j_iconst (v := 2) G dL_law_481 (by decide) ?_
      refine j_iadd G dL_law_482 ?_
      refine j_rwi (nI_add i 2) ?_
      refine j_sldN (j := i + 2) G hX hbl hbA (by omega) (by omega) dL_law_483 ?_
      refine jV_i G 7 0 (fw_i (cM_addLeak l D cA qm un ui ul ua co (xs (i + 1)) (xs (i + 2)) hI.1.2.1) [] (((cF cA q un ui ul ua vc ex wo tp tf kf ++ va_pl L f) ++ [(oa, .inl (cA 4, 1, .inr (.inl g)))]) ++ [(ob, .inl (cA 5, 1, .inr (.inr (.inr (.inl gd)))))]) rfl) gL_135 hd_X7_addLeak ⟨Nat.le_of_ble_eq_true rfl, Nat.le_of_ble_eq_true rfl⟩ ⟨by show _ ≤ 603072; omega, by show _ ≤ 7211114; omega⟩ rfl rfl (Nat.le_of_ble_eq_true rfl) rfl rfl dL_law_484 (fun r w9 hq9 => ?_)
      obtain ⟨b1, hq8, hw9⟩ := hq9
      rcases hq8 with ⟨hc9, hr9, hb9⟩ | ⟨hc9, hb9⟩
      · exact absurd (hcf.symm.trans hc9) (by decide)
      · rw [hcf] at hb9
        subst hw9
        subst hb9
        refine j_w (w' := mW cA qm un ui ul ua 1 ++ (((cF cA q un ui ul ua vc ex wo tp tf kf ++ va_pl L f) ++ [(oa, .inl (cA 4, 1, .inr (.inl g)))]) ++ [(ob, .inl (cA 5, 1, .inr (.inr (.inr (.inl gd)))))])) rfl ?_
        refine j_istore (lv' := [(7, .int r), (6, .int 1), (0, .ref bs), (1, .ref (q 0)), (2, .ref (qm 0)), (3, .ref oa), (4, .ref ob), (5, .int (nI i))]) G dL_law_487 (by decide) rfl ?_
        refine j_aload_n G dL_law_489 rfl 4 rfl ?_
        refine jV_i G 7 0 (fw_i (cM_thrown l D cA qm un ui ul ua 1  ) [] (((cF cA q un ui ul ua vc ex wo tp tf kf ++ va_pl L f) ++ [(oa, .inl (cA 4, 1, .inr (.inl g)))]) ++ [(ob, .inl (cA 5, 1, .inr (.inr (.inr (.inl gd)))))]) rfl) gL_122 hd_X7_thrown ⟨Nat.le_of_ble_eq_true rfl, Nat.le_of_ble_eq_true rfl⟩ ⟨by show _ ≤ 603072; omega, by show _ ≤ 7211114; omega⟩ rfl rfl (Nat.le_of_ble_eq_true rfl) rfl rfl dL_law_490 (fun r w9 hq9 => ?_)
        obtain ⟨b1, hq8, hw9⟩ := hq9
        obtain ⟨hr9, hb9⟩ := hq8
        subst hw9
        subst hb9
        subst hr9
        refine j_w (w' := mW cA qm un ui ul ua 1 ++ (((cF cA q un ui ul ua vc ex wo tp tf kf ++ va_pl L f) ++ [(oa, .inl (cA 4, 1, .inr (.inl g)))]) ++ [(ob, .inl (cA 5, 1, .inr (.inr (.inr (.inl gd)))))])) rfl ?_
        refine j_iload G dL_law_493 1 rfl ?_
        refine j_icmp_eq (tgt := 500) G dL_law_495 (by decide) (fun c495 => ?_) (fun c495 => absurd rfl c495)
        refine j_iload G dL_law_500 1 rfl ?_
        refine j_if_ne (tgt := 517) G dL_law_502 (by decide) (fun _ => ?_) (fun c502 => absurd c502 (by decide))
        refine j_goto (tgt := 2045) G dL_law_517 (by decide) ?_
        refine j_sub (lv' := [(0, .ref bs), (1, .ref (q 0)), (2, .ref (qm 0)), (3, .ref oa), (4, .ref ob), (5, .int (nI i))]) [2, 3, 4, 5, 6, 7] rfl ?_
        refine j_cs (k' := k + 8) (n' := n + 256) (by omega) (by omega) ?_
        refine j_w (w' := mW cA qm un ui ul ua 1 ++ (((cF cA q un ui ul ua vc ex wo tp tf kf ++ va_pl L f) ++ [(oa, .inl (cA 4, 1, .inr (.inl g)))]) ++ [(ob, .inl (cA 5, 1, .inr (.inr (.inr (.inl gd)))))])) rfl ?_
        exact hN un ui ul ua vc ex wo tp tf kf L f ta ga ka 1 g gd hI hPL
    · cases he
      have hr9 : r = 2 := by rcases hd9 with ⟨h8, h7⟩ | ⟨h8, h7⟩ <;> first | exact h7 | exact absurd h8 (by decide)
      subst hw9
      subst hb9
      subst hr9
      have hcf : cfLeak (un 0) (xs (i + 1)) (xs (i + 2)) = 2 := hc
      refine j_w (w' := mW cA qm un ui ul ua co ++ (((cF cA q un ui ul ua vc ex wo tp tf kf ++ va_pl L f) ++ [(oa, .inl (cA 4, 1, .inr (.inl g)))]) ++ [(ob, .inl (cA 5, 1, .inr (.inr (.inr (.inl gd)))))])) (List.append_assoc _ _ _) ?_
      refine j_istore (lv' := [(6, .int 2), (0, .ref bs), (1, .ref (q 0)), (2, .ref (qm 0)), (3, .ref oa), (4, .ref ob), (5, .int (nI i))]) G dL_law_469 (by decide) rfl ?_
      refine j_aload_n G dL_law_471 rfl 3 rfl ?_
      refine j_aload_n G dL_law_472 rfl 1 rfl ?_
      refine j_iload G dL_law_473 6 rfl ?_
      refine j_iconst (v := 1) G dL_law_475 (by decide) ?_
      refine j_iadd G dL_law_476 ?_
      refine j_rwi (nI_add i 1) ?_
      refine j_sldN (j := i + 1) G hX hbl hbA (by omega) (by omega) dL_law_477 ?_
      refine j_aload_n G dL_law_478 rfl 1 rfl ?_
      refine j_iload G dL_law_479 6 rfl ?_
      refine j_iconst (v := 2) G dL_law_481 (by decide) ?_
      refine j_iadd G dL_law_482 ?_
      refine j_rwi (nI_add i 2) ?_
      refine j_sldN (j := i + 2) G hX hbl hbA (by omega) (by omega) dL_law_483 ?_
      refine jV_i G 7 0 (fw_i (cM_addLeak l D cA qm un ui ul ua co (xs (i + 1)) (xs (i + 2)) hI.1.2.1) [] (((cF cA q un ui ul ua vc ex wo tp tf kf ++ va_pl L f) ++ [(oa, .inl (cA 4, 1, .inr (.inl g)))]) ++ [(ob, .inl (cA 5, 1, .inr (.inr (.inr (.inl gd)))))]) rfl) gL_135 hd_X7_addLeak ⟨Nat.le_of_ble_eq_true rfl, Nat.le_of_ble_eq_true rfl⟩ ⟨by show _ ≤ 603072; omega, by show _ ≤ 7211114; omega⟩ rfl rfl (Nat.le_of_ble_eq_true rfl) rfl rfl dL_law_484 (fun r w9 hq9 => ?_)
      obtain ⟨b1, hq8, hw9⟩ := hq9
      rcases hq8 with ⟨hc9, hr9, hb9⟩ | ⟨hc9, hb9⟩
      · exact absurd (hcf.symm.trans hc9) (by decide)
      · rw [hcf] at hb9
        subst hw9
        subst hb9
        refine j_w (w' := mW cA qm un ui ul ua 2 ++ (((cF cA q un ui ul ua vc ex wo tp tf kf ++ va_pl L f) ++ [(oa, .inl (cA 4, 1, .inr (.inl g)))]) ++ [(ob, .inl (cA 5, 1, .inr (.inr (.inr (.inl gd)))))])) rfl ?_
        refine j_istore (lv' := [(7, .int r), (6, .int 2), (0, .ref bs), (1, .ref (q 0)), (2, .ref (qm 0)), (3, .ref oa), (4, .ref ob), (5, .int (nI i))]) G dL_law_487 (by decide) rfl ?_
        refine j_aload_n G dL_law_489 rfl 4 rfl ?_
        refine jV_i G 7 0 (fw_i (cM_thrown l D cA qm un ui ul ua 2  ) [] (((cF cA q un ui ul ua vc ex wo tp tf kf ++ va_pl L f) ++ [(oa, .inl (cA 4, 1, .inr (.inl g)))]) ++ [(ob, .inl (cA 5, 1, .inr (.inr (.inr (.inl gd)))))]) rfl) gL_122 hd_X7_thrown ⟨Nat.le_of_ble_eq_true rfl, Nat.le_of_ble_eq_true rfl⟩ ⟨by show _ ≤ 603072; omega, by show _ ≤ 7211114; omega⟩ rfl rfl (Nat.le_of_ble_eq_true rfl) rfl rfl dL_law_490 (fun r w9 hq9 => ?_)
        obtain ⟨b1, hq8, hw9⟩ := hq9
        obtain ⟨hr9, hb9⟩ := hq8
        subst hw9
        subst hb9
        subst hr9
        refine j_w (w' := mW cA qm un ui ul ua 2 ++ (((cF cA q un ui ul ua vc ex wo tp tf kf ++ va_pl L f) ++ [(oa, .inl (cA 4, 1, .inr (.inl g)))]) ++ [(ob, .inl (cA 5, 1, .inr (.inr (.inr (.inl gd)))))])) rfl ?_
        refine j_iload G dL_law_493 1 rfl ?_
        refine j_icmp_eq (tgt := 500) G dL_law_495 (by decide) (fun c495 => ?_) (fun c495 => absurd rfl c495)
        refine j_iload G dL_law_500 1 rfl ?_
        refine j_if_ne (tgt := 517) G dL_law_502 (by decide) (fun _ => ?_) (fun c502 => absurd c502 (by decide))
        refine j_goto (tgt := 2045) G dL_law_517 (by decide) ?_
        refine j_sub (lv' := [(0, .ref bs), (1, .ref (q 0)), (2, .ref (qm 0)), (3, .ref oa), (4, .ref ob), (5, .int (nI i))]) [2, 3, 4, 5, 6, 7] rfl ?_
        refine j_cs (k' := k + 8) (n' := n + 256) (by omega) (by omega) ?_
        refine j_w (w' := mW cA qm un ui ul ua 2 ++ (((cF cA q un ui ul ua vc ex wo tp tf kf ++ va_pl L f) ++ [(oa, .inl (cA 4, 1, .inr (.inl g)))]) ++ [(ob, .inl (cA 5, 1, .inr (.inr (.inr (.inl gd)))))])) rfl ?_
        exact hN un ui ul ua vc ex wo tp tf kf L f ta ga ka 2 g gd hI hPL
set_option maxHeartbeats 4000000 in
set_option maxRecDepth 100000 in
theorem lw_repair {p : Program} {l : Launch} {e : Env} {s : State} {m : MethodId} {args : Array Value} {below : List Frame} {meth : Method} {c : Code} {D : va_G} {cA : Nat → ClassId} {A : Nat → Prop} {Q : State → Prop} {k n : Nat} (G : GX p s m args c cL_law 9 RL D cA A) (hfl : l.stackTraces = false) {bs Ls : Nat} {xs : Nat → Int32} (hX : va_X bs Ls xs s s.heap) (hbl : bs < s.heap.size) (hbA : ¬ A bs) (hLs : Ls ≤ 3072) {i : Nat} (hi : i + 5 < Ls) (hk : k + 8 ≤ 603072) (hn9 : n + 256 ≤ 7211114) (q qm : Nat → Nat) (un : Nat → Nat) (ui : Nat → Int32) (ul : Nat → Int64) (ua : Nat → Nat → Int32) (vc ex wo tp : Nat → Int32) (tf kf : Nat → Option Nat) (L : List Nat) (f : Nat → va_E) (ta ga ka : Nat → Nat) (co : Int32) (oa ob : Nat) (g : Nat → Int64) (gd : Nat → UInt64) (hI : INV un ui ua) (hPL : PL cA un ua L f tf kf ta ga ka) (hN : ∀ (un : Nat → Nat) (ui : Nat → Int32) (ul : Nat → Int64) (ua : Nat → Nat → Int32) (vc ex wo tp : Nat → Int32) (tf kf : Nat → Option Nat) (L : List Nat) (f : Nat → va_E) (ta ga ka : Nat → Nat) (co : Int32) (g : Nat → Int64) (gd : Nat → UInt64), INV un ui ua → PL cA un ua L f tf kf ta ga ka → J p l e (RM 2048 94400 603072 7211114) s m args below meth c 9 D A (mW cA qm un ui ul ua co ++ (((cF cA q un ui ul ua vc ex wo tp tf kf ++ va_pl L f) ++ [(oa, .inl (cA 4, 1, .inr (.inl g)))]) ++ [(ob, .inl (cA 5, 1, .inr (.inr (.inr (.inl gd)))))])) (k + 8) (n + 256) Q 2045 [(0, .ref bs), (1, .ref (q 0)), (2, .ref (qm 0)), (3, .ref oa), (4, .ref ob), (5, .int (nI i))] []) : J p l e (RM 2048 94400 603072 7211114) s m args below meth c 9 D A (mW cA qm un ui ul ua co ++ (((cF cA q un ui ul ua vc ex wo tp tf kf ++ va_pl L f) ++ [(oa, .inl (cA 4, 1, .inr (.inl g)))]) ++ [(ob, .inl (cA 5, 1, .inr (.inr (.inr (.inl gd)))))])) k n Q 520 [(0, .ref bs), (1, .ref (q 0)), (2, .ref (qm 0)), (3, .ref oa), (4, .ref ob), (5, .int (nI i))] [] := by
  refine j_aload_n G dL_law_520 rfl 1 rfl ?_
  refine j_aload_n G dL_law_521 rfl 0 rfl ?_
  refine j_iload G dL_law_522 5 rfl ?_
  refine j_iconst (v := 1) G dL_law_524 (by decide) ?_
  refine j_iadd G dL_law_525 ?_
  refine j_rwi (nI_add i 1) ?_
  refine j_sldN (j := i + 1) G hX hbl hbA (by omega) (by omega) dL_law_526 ?_
  refine j_aload_n G dL_law_527 rfl 3 rfl ?_
  refine jSW_i G (fw_W (cW_repair l D cA (b0 := cF cA q un ui ul ua vc ex wo tp tf kf ++ va_pl L f) rfl (xs (i + 1)) g (cC_X6_repair l D cA hfl q un ui ul ua vc ex wo tp tf kf L f (xs (i + 1)) hI.1.2.1 (fun j => (hI.2.2.2.1.2.2.2.2.1 j).ge0 (by omega))) (fun E8 b8 h8 => h8.elim (fun h8 => Or.inl (congrArg Prod.fst h8.2)) (fun h8 => Or.inr ((congrArg Prod.fst h8.2))))) (mW cA qm un ui ul ua co) [(ob, .inl (cA 5, 1, .inr (.inr (.inr (.inl gd)))))] (List.append_assoc _ _ _).symm) (gw_repair wd_530) hd_L_repair.2 ⟨Nat.le_of_ble_eq_true rfl, Nat.le_of_ble_eq_true rfl⟩ ⟨by show _ ≤ 603072; omega, by show _ ≤ 7211114; omega⟩ rfl rfl (Nat.le_of_ble_eq_true rfl) dL_law_528 (fun r w9 hq9 => ?_)
  obtain ⟨b1, hq8, hw9⟩ := hq9
  rcases hq8 with ⟨v9, b2, hp9, hr9, hb9⟩ | ⟨E9, b2, hp9, hd9, hb9⟩
  · obtain ⟨hok, hv9, hb8⟩ := hp9
    subst hw9
    subst hb9
    subst hr9
    subst hb8
    subst hv9
    have hcf : cfRepair (un 0) (xs (i + 1)) (ua 7) = 0 := hok
    refine j_w (w' := mW cA qm un ui ul ua co ++ (((cF cA q un ui ul (up ua 7 (upd (ua 7) (xs (i + 1)).toNatClampNeg 0)) vc ex wo tp tf kf ++ va_pl L f) ++ [(oa, .inl (cA 4, 1, .inr (.inl (vp_updL g 0 (ua 7 (xs (i + 1)).toNatClampNeg).toInt64))))]) ++ [(ob, .inl (cA 5, 1, .inr (.inr (.inr (.inl gd)))))])) (List.append_assoc _ _ _) ?_
    refine j_istore (lv' := [(6, .int 0), (0, .ref bs), (1, .ref (q 0)), (2, .ref (qm 0)), (3, .ref oa), (4, .ref ob), (5, .int (nI i))]) G dL_law_531 (by decide) rfl ?_
    refine j_aload_n G dL_law_533 rfl 3 rfl ?_
    refine j_aload_n G dL_law_534 rfl 1 rfl ?_
    refine j_iload G dL_law_535 6 rfl ?_
    refine j_iconst (v := 1) G dL_law_537 (by decide) ?_
    refine j_iadd G dL_law_538 ?_
    refine j_rwi (nI_add i 1) ?_
    refine j_sldN (j := i + 1) G hX hbl hbA (by omega) (by omega) dL_law_539 ?_
    refine jV_i G 7 0 (fw_i (cM_repair l D cA qm un ui ul ua co (xs (i + 1)) hI.1.2.1) [] (((cF cA q un ui ul (up ua 7 (upd (ua 7) (xs (i + 1)).toNatClampNeg 0)) vc ex wo tp tf kf ++ va_pl L f) ++ [(oa, .inl (cA 4, 1, .inr (.inl (vp_updL g 0 (ua 7 (xs (i + 1)).toNatClampNeg).toInt64))))]) ++ [(ob, .inl (cA 5, 1, .inr (.inr (.inr (.inl gd)))))]) rfl) gL_138 hd_X7_repair ⟨Nat.le_of_ble_eq_true rfl, Nat.le_of_ble_eq_true rfl⟩ ⟨by show _ ≤ 603072; omega, by show _ ≤ 7211114; omega⟩ rfl rfl (Nat.le_of_ble_eq_true rfl) rfl rfl dL_law_540 (fun r w9 hq9 => ?_)
    obtain ⟨b1, hq8, hw9⟩ := hq9
    rcases hq8 with ⟨hc9, hr9, hb9⟩ | ⟨hc9, hb9⟩
    · subst hw9
      subst hb9
      subst hr9
      refine j_w (w' := mW cA qm un ui ul (up ua 7 (upd (ua 7) (xs (i + 1)).toNatClampNeg 0)) 0 ++ (((cF cA q un ui ul (up ua 7 (upd (ua 7) (xs (i + 1)).toNatClampNeg 0)) vc ex wo tp tf kf ++ va_pl L f) ++ [(oa, .inl (cA 4, 1, .inr (.inl (vp_updL g 0 (ua 7 (xs (i + 1)).toNatClampNeg).toInt64))))]) ++ [(ob, .inl (cA 5, 1, .inr (.inr (.inr (.inl gd)))))])) rfl ?_
      refine j_istore (lv' := [(7, .int (ua 7 (xs (i + 1)).toNatClampNeg)), (6, .int 0), (0, .ref bs), (1, .ref (q 0)), (2, .ref (qm 0)), (3, .ref oa), (4, .ref ob), (5, .int (nI i))]) G dL_law_543 (by decide) rfl ?_
      refine j_aload_n G dL_law_545 rfl 4 rfl ?_
      refine jV_i G 7 0 (fw_i (cM_thrown l D cA qm un ui ul (up ua 7 (upd (ua 7) (xs (i + 1)).toNatClampNeg 0)) 0  ) [] (((cF cA q un ui ul (up ua 7 (upd (ua 7) (xs (i + 1)).toNatClampNeg 0)) vc ex wo tp tf kf ++ va_pl L f) ++ [(oa, .inl (cA 4, 1, .inr (.inl (vp_updL g 0 (ua 7 (xs (i + 1)).toNatClampNeg).toInt64))))]) ++ [(ob, .inl (cA 5, 1, .inr (.inr (.inr (.inl gd)))))]) rfl) gL_122 hd_X7_thrown ⟨Nat.le_of_ble_eq_true rfl, Nat.le_of_ble_eq_true rfl⟩ ⟨by show _ ≤ 603072; omega, by show _ ≤ 7211114; omega⟩ rfl rfl (Nat.le_of_ble_eq_true rfl) rfl rfl dL_law_546 (fun r w9 hq9 => ?_)
      obtain ⟨b1, hq8, hw9⟩ := hq9
      obtain ⟨hr9, hb9⟩ := hq8
      subst hw9
      subst hb9
      subst hr9
      refine j_w (w' := mW cA qm un ui ul (up ua 7 (upd (ua 7) (xs (i + 1)).toNatClampNeg 0)) 0 ++ (((cF cA q un ui ul (up ua 7 (upd (ua 7) (xs (i + 1)).toNatClampNeg 0)) vc ex wo tp tf kf ++ va_pl L f) ++ [(oa, .inl (cA 4, 1, .inr (.inl (vp_updL g 0 (ua 7 (xs (i + 1)).toNatClampNeg).toInt64))))]) ++ [(ob, .inl (cA 5, 1, .inr (.inr (.inr (.inl gd)))))])) rfl ?_
      refine j_iload G dL_law_549 1 rfl ?_
      refine j_icmp_eq (tgt := 556) G dL_law_551 (by decide) (fun c551 => ?_) (fun c551 => absurd rfl c551)
      refine j_iload G dL_law_556 1 rfl ?_
      refine j_if_ne (tgt := 573) G dL_law_558 (by decide) (fun c558 => absurd c558 (by decide)) (fun _ => ?_)
      refine j_aload_n G dL_law_561 rfl 5 rfl ?_
      refine j_iconst (v := 0) G dL_law_562 (by decide) ?_
      refine j_lald G _ wq_o (show vp_in (nI 0) 1 from vp_in_nI (by decide) (by decide)) dL_law_563 ?_
      refine j_rwl (show _ = (ua 7 (xs (i + 1)).toNatClampNeg).toInt64 from rfl) ?_
      refine j_iload G dL_law_564 0 rfl ?_
      refine j_i2l G dL_law_566 ?_
      refine j_lcmp G dL_law_567 ?_
      refine j_if_eq (tgt := 573) G dL_law_568 (by decide) (fun c568 => ?_) (fun c568 => absurd (lgz.mpr rfl) c568)
      refine j_goto (tgt := 2045) G dL_law_573 (by decide) ?_
      refine j_sub (lv' := [(0, .ref bs), (1, .ref (q 0)), (2, .ref (qm 0)), (3, .ref oa), (4, .ref ob), (5, .int (nI i))]) [2, 3, 4, 5, 6, 7] rfl ?_
      refine j_cs (k' := k + 8) (n' := n + 256) (by omega) (by omega) ?_
      refine j_w (w' := mW cA qm un ui ul (up ua 7 (upd (ua 7) (xs (i + 1)).toNatClampNeg 0)) 0 ++ (((cF cA q un ui ul (up ua 7 (upd (ua 7) (xs (i + 1)).toNatClampNeg 0)) vc ex wo tp tf kf ++ va_pl L f) ++ [(oa, .inl (cA 4, 1, .inr (.inl (vp_updL g 0 (ua 7 (xs (i + 1)).toNatClampNeg).toInt64))))]) ++ [(ob, .inl (cA 5, 1, .inr (.inr (.inr (.inl gd)))))])) rfl ?_
      exact hN un ui ul (up ua 7 (upd (ua 7) (xs (i + 1)).toNatClampNeg 0)) vc ex wo tp tf kf L f ta ga ka 0 (vp_updL g 0 (ua 7 (xs (i + 1)).toNatClampNeg).toInt64) gd (hI.leak _ NB.z) hPL
    · exact absurd hcf hc9
  · rcases hp9 with ⟨hc, he⟩ | ⟨hc, he⟩
    · cases he
      have hr9 : r = 1 := by rcases hd9 with ⟨h8, h7⟩ | ⟨h8, h7⟩ <;> first | exact h7 | exact absurd h8 (by decide)
      subst hw9
      subst hb9
      subst hr9
      have hcf : cfRepair (un 0) (xs (i + 1)) (ua 7) = 1 := hc
      refine j_w (w' := mW cA qm un ui ul ua co ++ (((cF cA q un ui ul ua vc ex wo tp tf kf ++ va_pl L f) ++ [(oa, .inl (cA 4, 1, .inr (.inl g)))]) ++ [(ob, .inl (cA 5, 1, .inr (.inr (.inr (.inl gd)))))])) (List.append_assoc _ _ _) ?_
      refine j_istore (lv' := [(6, .int 1), (0, .ref bs), (1, .ref (q 0)), (2, .ref (qm 0)), (3, .ref oa), (4, .ref ob), (5, .int (nI i))]) G dL_law_531 (by decide) rfl ?_
      refine j_aload_n G dL_law_533 rfl 3 rfl ?_
      refine j_aload_n G dL_law_534 rfl 1 rfl ?_
      refine j_iload G dL_law_535 6 rfl ?_
      refine j_iconst (v := 1) G dL_law_537 (by decide) ?_
      refine j_iadd G dL_law_538 ?_
      refine j_rwi (nI_add i 1) ?_
      refine j_sldN (j := i + 1) G hX hbl hbA (by omega) (by omega) dL_law_539 ?_
      refine jV_i G 7 0 (fw_i (cM_repair l D cA qm un ui ul ua co (xs (i + 1)) hI.1.2.1) [] (((cF cA q un ui ul ua vc ex wo tp tf kf ++ va_pl L f) ++ [(oa, .inl (cA 4, 1, .inr (.inl g)))]) ++ [(ob, .inl (cA 5, 1, .inr (.inr (.inr (.inl gd)))))]) rfl) gL_138 hd_X7_repair ⟨Nat.le_of_ble_eq_true rfl, Nat.le_of_ble_eq_true rfl⟩ ⟨by show _ ≤ 603072; omega, by show _ ≤ 7211114; omega⟩ rfl rfl (Nat.le_of_ble_eq_true rfl) rfl rfl dL_law_540 (fun r w9 hq9 => ?_)
      obtain ⟨b1, hq8, hw9⟩ := hq9
      rcases hq8 with ⟨hc9, hr9, hb9⟩ | ⟨hc9, hb9⟩
      · exact absurd (hcf.symm.trans hc9) (by decide)
      · rw [hcf] at hb9
        subst hw9
        subst hb9
        refine j_w (w' := mW cA qm un ui ul ua 1 ++ (((cF cA q un ui ul ua vc ex wo tp tf kf ++ va_pl L f) ++ [(oa, .inl (cA 4, 1, .inr (.inl g)))]) ++ [(ob, .inl (cA 5, 1, .inr (.inr (.inr (.inl gd)))))])) rfl ?_
        refine j_istore (lv' := [(7, .int r), (6, .int 1), (0, .ref bs), (1, .ref (q 0)), (2, .ref (qm 0)), (3, .ref oa), (4, .ref ob), (5, .int (nI i))]) G dL_law_543 (by decide) rfl ?_
        refine j_aload_n G dL_law_545 rfl 4 rfl ?_
        refine jV_i G 7 0 (fw_i (cM_thrown l D cA qm un ui ul ua 1  ) [] (((cF cA q un ui ul ua vc ex wo tp tf kf ++ va_pl L f) ++ [(oa, .inl (cA 4, 1, .inr (.inl g)))]) ++ [(ob, .inl (cA 5, 1, .inr (.inr (.inr (.inl gd)))))]) rfl) gL_122 hd_X7_thrown ⟨Nat.le_of_ble_eq_true rfl, Nat.le_of_ble_eq_true rfl⟩ ⟨by show _ ≤ 603072; omega, by show _ ≤ 7211114; omega⟩ rfl rfl (Nat.le_of_ble_eq_true rfl) rfl rfl dL_law_546 (fun r w9 hq9 => ?_)
        obtain ⟨b1, hq8, hw9⟩ := hq9
        obtain ⟨hr9, hb9⟩ := hq8
        subst hw9
        subst hb9
        subst hr9
        refine j_w (w' := mW cA qm un ui ul ua 1 ++ (((cF cA q un ui ul ua vc ex wo tp tf kf ++ va_pl L f) ++ [(oa, .inl (cA 4, 1, .inr (.inl g)))]) ++ [(ob, .inl (cA 5, 1, .inr (.inr (.inr (.inl gd)))))])) rfl ?_
        refine j_iload G dL_law_549 1 rfl ?_
        refine j_icmp_eq (tgt := 556) G dL_law_551 (by decide) (fun c551 => ?_) (fun c551 => absurd rfl c551)
        refine j_iload G dL_law_556 1 rfl ?_
        refine j_if_ne (tgt := 573) G dL_law_558 (by decide) (fun _ => ?_) (fun c558 => absurd c558 (by decide))
        refine j_goto (tgt := 2045) G dL_law_573 (by decide) ?_
        refine j_sub (lv' := [(0, .ref bs), (1, .ref (q 0)), (2, .ref (qm 0)), (3, .ref oa), (4, .ref ob), (5, .int (nI i))]) [2, 3, 4, 5, 6, 7] rfl ?_
        refine j_cs (k' := k + 8) (n' := n + 256) (by omega) (by omega) ?_
        refine j_w (w' := mW cA qm un ui ul ua 1 ++ (((cF cA q un ui ul ua vc ex wo tp tf kf ++ va_pl L f) ++ [(oa, .inl (cA 4, 1, .inr (.inl g)))]) ++ [(ob, .inl (cA 5, 1, .inr (.inr (.inr (.inl gd)))))])) rfl ?_
        exact hN un ui ul ua vc ex wo tp tf kf L f ta ga ka 1 g gd hI hPL
    · cases he
      have hr9 : r = 2 := by rcases hd9 with ⟨h8, h7⟩ | ⟨h8, h7⟩ <;> first | exact h7 | exact absurd h8 (by decide)
      subst hw9
      subst hb9
      subst hr9
      have hcf : cfRepair (un 0) (xs (i + 1)) (ua 7) = 2 := hc
      refine j_w (w' := mW cA qm un ui ul ua co ++ (((cF cA q un ui ul ua vc ex wo tp tf kf ++ va_pl L f) ++ [(oa, .inl (cA 4, 1, .inr (.inl g)))]) ++ [(ob, .inl (cA 5, 1, .inr (.inr (.inr (.inl gd)))))])) (List.append_assoc _ _ _) ?_
      refine j_istore (lv' := [(6, .int 2), (0, .ref bs), (1, .ref (q 0)), (2, .ref (qm 0)), (3, .ref oa), (4, .ref ob), (5, .int (nI i))]) G dL_law_531 (by decide) rfl ?_
      refine j_aload_n G dL_law_533 rfl 3 rfl ?_
      refine j_aload_n G dL_law_534 rfl 1 rfl ?_
      refine j_iload G dL_law_535 6 rfl ?_
      refine j_iconst (v := 1) G dL_law_537 (by decide) ?_
      refine j_iadd G dL_law_538 ?_
      refine j_rwi (nI_add i 1) ?_
      refine j_sldN (j := i + 1) G hX hbl hbA (by omega) (by omega) dL_law_539 ?_
      refine jV_i G 7 0 (fw_i (cM_repair l D cA qm un ui ul ua co (xs (i + 1)) hI.1.2.1) [] (((cF cA q un ui ul ua vc ex wo tp tf kf ++ va_pl L f) ++ [(oa, .inl (cA 4, 1, .inr (.inl g)))]) ++ [(ob, .inl (cA 5, 1, .inr (.inr (.inr (.inl gd)))))]) rfl) gL_138 hd_X7_repair ⟨Nat.le_of_ble_eq_true rfl, Nat.le_of_ble_eq_true rfl⟩ ⟨by show _ ≤ 603072; omega, by show _ ≤ 7211114; omega⟩ rfl rfl (Nat.le_of_ble_eq_true rfl) rfl rfl dL_law_540 (fun r w9 hq9 => ?_)
      obtain ⟨b1, hq8, hw9⟩ := hq9
      rcases hq8 with ⟨hc9, hr9, hb9⟩ | ⟨hc9, hb9⟩
      · exact absurd (hcf.symm.trans hc9) (by decide)
      · rw [hcf] at hb9
        subst hw9
        subst hb9
        refine j_w (w' := mW cA qm un ui ul ua 2 ++ (((cF cA q un ui ul ua vc ex wo tp tf kf ++ va_pl L f) ++ [(oa, .inl (cA 4, 1, .inr (.inl g)))]) ++ [(ob, .inl (cA 5, 1, .inr (.inr (.inr (.inl gd)))))])) rfl ?_
        refine j_istore (lv' := [(7, .int r), (6, .int 2), (0, .ref bs), (1, .ref (q 0)), (2, .ref (qm 0)), (3, .ref oa), (4, .ref ob), (5, .int (nI i))]) G dL_law_543 (by decide) rfl ?_
        refine j_aload_n G dL_law_545 rfl 4 rfl ?_
        refine jV_i G 7 0 (fw_i (cM_thrown l D cA qm un ui ul ua 2  ) [] (((cF cA q un ui ul ua vc ex wo tp tf kf ++ va_pl L f) ++ [(oa, .inl (cA 4, 1, .inr (.inl g)))]) ++ [(ob, .inl (cA 5, 1, .inr (.inr (.inr (.inl gd)))))]) rfl) gL_122 hd_X7_thrown ⟨Nat.le_of_ble_eq_true rfl, Nat.le_of_ble_eq_true rfl⟩ ⟨by show _ ≤ 603072; omega, by show _ ≤ 7211114; omega⟩ rfl rfl (Nat.le_of_ble_eq_true rfl) rfl rfl dL_law_546 (fun r w9 hq9 => ?_)
        obtain ⟨b1, hq8, hw9⟩ := hq9
        obtain ⟨hr9, hb9⟩ := hq8
        subst hw9
        subst hb9
        subst hr9
        refine j_w (w' := mW cA qm un ui ul ua 2 ++ (((cF cA q un ui ul ua vc ex wo tp tf kf ++ va_pl L f) ++ [(oa, .inl (cA 4, 1, .inr (.inl g)))]) ++ [(ob, .inl (cA 5, 1, .inr (.inr (.inr (.inl gd)))))])) rfl ?_
        refine j_iload G dL_law_549 1 rfl ?_
        refine j_icmp_eq (tgt := 556) G dL_law_551 (by decide) (fun c551 => ?_) (fun c551 => absurd rfl c551)
        refine j_iload G dL_law_556 1 rfl ?_
        refine j_if_ne (tgt := 573) G dL_law_558 (by decide) (fun _ => ?_) (fun c558 => absurd c558 (by decide))
        refine j_goto (tgt := 2045) G dL_law_573 (by decide) ?_
        refine j_sub (lv' := [(0, .ref bs), (1, .ref (q 0)), (2, .ref (qm 0)), (3, .ref oa), (4, .ref ob), (5, .int (nI i))]) [2, 3, 4, 5, 6, 7] rfl ?_
        refine j_cs (k' := k + 8) (n' := n + 256) (by omega) (by omega) ?_
        refine j_w (w' := mW cA qm un ui ul ua 2 ++ (((cF cA q un ui ul ua vc ex wo tp tf kf ++ va_pl L f) ++ [(oa, .inl (cA 4, 1, .inr (.inl g)))]) ++ [(ob, .inl (cA 5, 1, .inr (.inr (.inr (.inl gd)))))])) rfl ?_
        exact hN un ui ul ua vc ex wo tp tf kf L f ta ga ka 2 g gd hI hPL
set_option maxHeartbeats 4000000 in
set_option maxRecDepth 100000 in
theorem lw_nodes {p : Program} {l : Launch} {e : Env} {s : State} {m : MethodId} {args : Array Value} {below : List Frame} {meth : Method} {c : Code} {D : va_G} {cA : Nat → ClassId} {A : Nat → Prop} {Q : State → Prop} {k n : Nat} (G : GX p s m args c cL_law 9 RL D cA A) (hfl : l.stackTraces = false) {bs Ls : Nat} {xs : Nat → Int32} (hX : va_X bs Ls xs s s.heap) (hbl : bs < s.heap.size) (hbA : ¬ A bs) (hLs : Ls ≤ 3072) {i : Nat} (hi : i + 5 < Ls) (hk : k + 8 ≤ 603072) (hn9 : n + 256 ≤ 7211114) (q qm : Nat → Nat) (un : Nat → Nat) (ui : Nat → Int32) (ul : Nat → Int64) (ua : Nat → Nat → Int32) (vc ex wo tp : Nat → Int32) (tf kf : Nat → Option Nat) (L : List Nat) (f : Nat → va_E) (ta ga ka : Nat → Nat) (co : Int32) (oa ob : Nat) (g : Nat → Int64) (gd : Nat → UInt64) (hI : INV un ui ua) (hPL : PL cA un ua L f tf kf ta ga ka) (hN : ∀ (un : Nat → Nat) (ui : Nat → Int32) (ul : Nat → Int64) (ua : Nat → Nat → Int32) (vc ex wo tp : Nat → Int32) (tf kf : Nat → Option Nat) (L : List Nat) (f : Nat → va_E) (ta ga ka : Nat → Nat) (co : Int32) (g : Nat → Int64) (gd : Nat → UInt64), INV un ui ua → PL cA un ua L f tf kf ta ga ka → J p l e (RM 2048 94400 603072 7211114) s m args below meth c 9 D A (mW cA qm un ui ul ua co ++ (((cF cA q un ui ul ua vc ex wo tp tf kf ++ va_pl L f) ++ [(oa, .inl (cA 4, 1, .inr (.inl g)))]) ++ [(ob, .inl (cA 5, 1, .inr (.inr (.inr (.inl gd)))))])) (k + 8) (n + 256) Q 2045 [(0, .ref bs), (1, .ref (q 0)), (2, .ref (qm 0)), (3, .ref oa), (4, .ref ob), (5, .int (nI i))] []) : J p l e (RM 2048 94400 603072 7211114) s m args below meth c 9 D A (mW cA qm un ui ul ua co ++ (((cF cA q un ui ul ua vc ex wo tp tf kf ++ va_pl L f) ++ [(oa, .inl (cA 4, 1, .inr (.inl g)))]) ++ [(ob, .inl (cA 5, 1, .inr (.inr (.inr (.inl gd)))))])) k n Q 576 [(0, .ref bs), (1, .ref (q 0)), (2, .ref (qm 0)), (3, .ref oa), (4, .ref ob), (5, .int (nI i))] [] := by
  refine j_aload_n G dL_law_576 rfl 1 rfl ?_
  refine jV_i G 6 16 (fw_i (cC_X6_nodes l D cA q un ui ul ua vc ex wo tp tf kf L f ) (mW cA qm un ui ul ua co) ([(oa, .inl (cA 4, 1, .inr (.inl g)))] ++ [(ob, .inl (cA 5, 1, .inr (.inr (.inr (.inl gd)))))]) (by simp only [List.append_assoc])) gL_139 hd_X6_nodes ⟨Nat.le_of_ble_eq_true rfl, Nat.le_of_ble_eq_true rfl⟩ ⟨by show _ ≤ 603072; omega, by show _ ≤ 7211114; omega⟩ rfl rfl (Nat.le_of_ble_eq_true rfl) rfl rfl dL_law_577 (fun r w9 hq9 => ?_)
  obtain ⟨b1, ⟨hr9, hb9⟩, hw9⟩ := hq9
  subst hw9
  subst hb9
  subst hr9
  refine j_w (w' := mW cA qm un ui ul ua co ++ (((cF cA q un ui ul ua vc ex wo tp tf kf ++ va_pl L f) ++ [(oa, .inl (cA 4, 1, .inr (.inl g)))]) ++ [(ob, .inl (cA 5, 1, .inr (.inr (.inr (.inl gd)))))])) (by simp only [List.append_assoc]) ?_
  refine j_aload_n G dL_law_580 rfl 2 rfl ?_
  refine jV_i G 7 0 (fw_i (cM_nodes l D cA qm un ui ul ua co  ) [] (((cF cA q un ui ul ua vc ex wo tp tf kf ++ va_pl L f) ++ [(oa, .inl (cA 4, 1, .inr (.inl g)))]) ++ [(ob, .inl (cA 5, 1, .inr (.inr (.inr (.inl gd)))))]) rfl) gL_142 hd_X7_nodes ⟨Nat.le_of_ble_eq_true rfl, Nat.le_of_ble_eq_true rfl⟩ ⟨by show _ ≤ 603072; omega, by show _ ≤ 7211114; omega⟩ rfl rfl (Nat.le_of_ble_eq_true rfl) rfl rfl dL_law_581 (fun r w9 hq9 => ?_)
  obtain ⟨b1, hq8, hw9⟩ := hq9
  obtain ⟨hr9, hb9⟩ := hq8
  subst hw9
  subst hb9
  subst hr9
  refine j_w (w' := mW cA qm un ui ul ua 0 ++ (((cF cA q un ui ul ua vc ex wo tp tf kf ++ va_pl L f) ++ [(oa, .inl (cA 4, 1, .inr (.inl g)))]) ++ [(ob, .inl (cA 5, 1, .inr (.inr (.inr (.inl gd)))))])) rfl ?_
  refine j_icmp_eq (tgt := 2045) G dL_law_584 (by decide) (fun c584 => ?_) (fun c584 => absurd rfl c584)
  refine j_sub (lv' := [(0, .ref bs), (1, .ref (q 0)), (2, .ref (qm 0)), (3, .ref oa), (4, .ref ob), (5, .int (nI i))]) [0, 1, 2, 3, 4, 5] rfl ?_
  refine j_cs (k' := k + 8) (n' := n + 256) (by omega) (by omega) ?_
  refine j_w (w' := mW cA qm un ui ul ua 0 ++ (((cF cA q un ui ul ua vc ex wo tp tf kf ++ va_pl L f) ++ [(oa, .inl (cA 4, 1, .inr (.inl g)))]) ++ [(ob, .inl (cA 5, 1, .inr (.inr (.inr (.inl gd)))))])) rfl ?_
  exact hN un ui ul ua vc ex wo tp tf kf L f ta ga ka 0 g gd hI hPL
set_option maxHeartbeats 4000000 in
set_option maxRecDepth 100000 in
theorem lw_vacuum {p : Program} {l : Launch} {e : Env} {s : State} {m : MethodId} {args : Array Value} {below : List Frame} {meth : Method} {c : Code} {D : va_G} {cA : Nat → ClassId} {A : Nat → Prop} {Q : State → Prop} {k n : Nat} (G : GX p s m args c cL_law 9 RL D cA A) (hfl : l.stackTraces = false) {bs Ls : Nat} {xs : Nat → Int32} (hX : va_X bs Ls xs s s.heap) (hbl : bs < s.heap.size) (hbA : ¬ A bs) (hLs : Ls ≤ 3072) {i : Nat} (hi : i + 5 < Ls) (hk : k + 8 ≤ 603072) (hn9 : n + 256 ≤ 7211114) (q qm : Nat → Nat) (un : Nat → Nat) (ui : Nat → Int32) (ul : Nat → Int64) (ua : Nat → Nat → Int32) (vc ex wo tp : Nat → Int32) (tf kf : Nat → Option Nat) (L : List Nat) (f : Nat → va_E) (ta ga ka : Nat → Nat) (co : Int32) (oa ob : Nat) (g : Nat → Int64) (gd : Nat → UInt64) (hI : INV un ui ua) (hPL : PL cA un ua L f tf kf ta ga ka) (hN : ∀ (un : Nat → Nat) (ui : Nat → Int32) (ul : Nat → Int64) (ua : Nat → Nat → Int32) (vc ex wo tp : Nat → Int32) (tf kf : Nat → Option Nat) (L : List Nat) (f : Nat → va_E) (ta ga ka : Nat → Nat) (co : Int32) (g : Nat → Int64) (gd : Nat → UInt64), INV un ui ua → PL cA un ua L f tf kf ta ga ka → J p l e (RM 2048 94400 603072 7211114) s m args below meth c 9 D A (mW cA qm un ui ul ua co ++ (((cF cA q un ui ul ua vc ex wo tp tf kf ++ va_pl L f) ++ [(oa, .inl (cA 4, 1, .inr (.inl g)))]) ++ [(ob, .inl (cA 5, 1, .inr (.inr (.inr (.inl gd)))))])) (k + 8) (n + 256) Q 2045 [(0, .ref bs), (1, .ref (q 0)), (2, .ref (qm 0)), (3, .ref oa), (4, .ref ob), (5, .int (nI i))] []) : J p l e (RM 2048 94400 603072 7211114) s m args below meth c 9 D A (mW cA qm un ui ul ua co ++ (((cF cA q un ui ul ua vc ex wo tp tf kf ++ va_pl L f) ++ [(oa, .inl (cA 4, 1, .inr (.inl g)))]) ++ [(ob, .inl (cA 5, 1, .inr (.inr (.inr (.inl gd)))))])) k n Q 589 [(0, .ref bs), (1, .ref (q 0)), (2, .ref (qm 0)), (3, .ref oa), (4, .ref ob), (5, .int (nI i))] [] := by
  refine j_aload_n G dL_law_589 rfl 1 rfl ?_
  refine j_aload_n G dL_law_590 rfl 0 rfl ?_
  refine j_iload G dL_law_591 5 rfl ?_
  refine j_iconst (v := 1) G dL_law_593 (by decide) ?_
  refine j_iadd G dL_law_594 ?_
  refine j_rwi (nI_add i 1) ?_
  refine j_sldN (j := i + 1) G hX hbl hbA (by omega) (by omega) dL_law_595 ?_
  refine j_aload_n G dL_law_596 rfl 3 rfl ?_
  refine jSW_i G (fw_W (cW_vacuum l D cA (b0 := cF cA q un ui ul ua vc ex wo tp tf kf ++ va_pl L f) rfl (xs (i + 1)) g (cC_X6_vacuum l D cA hfl q un ui ul ua vc ex wo tp tf kf L f (xs (i + 1)) hI.1.2.1 hI.2.1) (fun E8 b8 h8 => congrArg Prod.fst h8.2)) (mW cA qm un ui ul ua co) [(ob, .inl (cA 5, 1, .inr (.inr (.inr (.inl gd)))))] (List.append_assoc _ _ _).symm) (gw_vacuum wd_558) hd_L_vacuum.2 ⟨Nat.le_of_ble_eq_true rfl, Nat.le_of_ble_eq_true rfl⟩ ⟨by show _ ≤ 603072; omega, by show _ ≤ 7211114; omega⟩ rfl rfl (Nat.le_of_ble_eq_true rfl) dL_law_597 (fun r w9 hq9 => ?_)
  obtain ⟨b1, hq8, hw9⟩ := hq9
  rcases hq8 with ⟨v9, b2, hp9, hr9, hb9⟩ | ⟨E9, b2, hp9, hd9, hb9⟩
  · obtain ⟨hok, hv9, hb8⟩ := hp9
    subst hw9
    subst hb9
    subst hr9
    subst hb8
    subst hv9
    have hcf : cfNode (un 0) (xs (i + 1)) = 0 := (if_pos hok)
    refine j_w (w' := mW cA qm un ui ul ua co ++ (((cF cA q un ui ul ua vc ex wo tp tf kf ++ va_pl L f) ++ [(oa, .inl (cA 4, 1, .inr (.inl (vp_updL g 0 (vac (un 0) (ui 0) (ua 1) (ua 2) (ua 7) (xs (i + 1)).toNatClampNeg).toInt64))))]) ++ [(ob, .inl (cA 5, 1, .inr (.inr (.inr (.inl gd)))))])) (List.append_assoc _ _ _) ?_
    refine j_istore (lv' := [(6, .int 0), (0, .ref bs), (1, .ref (q 0)), (2, .ref (qm 0)), (3, .ref oa), (4, .ref ob), (5, .int (nI i))]) G dL_law_600 (by decide) rfl ?_
    refine j_aload_n G dL_law_602 rfl 3 rfl ?_
    refine j_aload_n G dL_law_603 rfl 1 rfl ?_
    refine j_iload G dL_law_604 6 rfl ?_
    refine j_iconst (v := 1) G dL_law_606 (by decide) ?_
    refine j_iadd G dL_law_607 ?_
    refine j_rwi (nI_add i 1) ?_
    refine j_sldN (j := i + 1) G hX hbl hbA (by omega) (by omega) dL_law_608 ?_
    refine jV_i G 7 0 (fw_i (cM_vacuum l D cA qm un ui ul ua co (xs (i + 1)) hI.1.2.1 hI.2.1) [] (((cF cA q un ui ul ua vc ex wo tp tf kf ++ va_pl L f) ++ [(oa, .inl (cA 4, 1, .inr (.inl (vp_updL g 0 (vac (un 0) (ui 0) (ua 1) (ua 2) (ua 7) (xs (i + 1)).toNatClampNeg).toInt64))))]) ++ [(ob, .inl (cA 5, 1, .inr (.inr (.inr (.inl gd)))))]) rfl) gL_145 hd_X7_vacuum ⟨Nat.le_of_ble_eq_true rfl, Nat.le_of_ble_eq_true rfl⟩ ⟨by show _ ≤ 603072; omega, by show _ ≤ 7211114; omega⟩ rfl rfl (Nat.le_of_ble_eq_true rfl) rfl rfl dL_law_609 (fun r w9 hq9 => ?_)
    obtain ⟨b1, hq8, hw9⟩ := hq9
    rcases hq8 with ⟨hc9, hr9, hb9⟩ | ⟨hc9, hb9⟩
    · subst hw9
      subst hb9
      subst hr9
      refine j_w (w' := mW cA qm un ui ul ua 0 ++ (((cF cA q un ui ul ua vc ex wo tp tf kf ++ va_pl L f) ++ [(oa, .inl (cA 4, 1, .inr (.inl (vp_updL g 0 (vac (un 0) (ui 0) (ua 1) (ua 2) (ua 7) (xs (i + 1)).toNatClampNeg).toInt64))))]) ++ [(ob, .inl (cA 5, 1, .inr (.inr (.inr (.inl gd)))))])) rfl ?_
      refine j_istore (lv' := [(7, .int (vac (un 0) (ui 0) (ua 1) (ua 2) (ua 7) (xs (i + 1)).toNatClampNeg)), (6, .int 0), (0, .ref bs), (1, .ref (q 0)), (2, .ref (qm 0)), (3, .ref oa), (4, .ref ob), (5, .int (nI i))]) G dL_law_612 (by decide) rfl ?_
      refine j_aload_n G dL_law_614 rfl 4 rfl ?_
      refine jV_i G 7 0 (fw_i (cM_thrown l D cA qm un ui ul ua 0  ) [] (((cF cA q un ui ul ua vc ex wo tp tf kf ++ va_pl L f) ++ [(oa, .inl (cA 4, 1, .inr (.inl (vp_updL g 0 (vac (un 0) (ui 0) (ua 1) (ua 2) (ua 7) (xs (i + 1)).toNatClampNeg).toInt64))))]) ++ [(ob, .inl (cA 5, 1, .inr (.inr (.inr (.inl gd)))))]) rfl) gL_122 hd_X7_thrown ⟨Nat.le_of_ble_eq_true rfl, Nat.le_of_ble_eq_true rfl⟩ ⟨by show _ ≤ 603072; omega, by show _ ≤ 7211114; omega⟩ rfl rfl (Nat.le_of_ble_eq_true rfl) rfl rfl dL_law_615 (fun r w9 hq9 => ?_)
      obtain ⟨b1, hq8, hw9⟩ := hq9
      obtain ⟨hr9, hb9⟩ := hq8
      subst hw9
      subst hb9
      subst hr9
      refine j_w (w' := mW cA qm un ui ul ua 0 ++ (((cF cA q un ui ul ua vc ex wo tp tf kf ++ va_pl L f) ++ [(oa, .inl (cA 4, 1, .inr (.inl (vp_updL g 0 (vac (un 0) (ui 0) (ua 1) (ua 2) (ua 7) (xs (i + 1)).toNatClampNeg).toInt64))))]) ++ [(ob, .inl (cA 5, 1, .inr (.inr (.inr (.inl gd)))))])) rfl ?_
      refine j_iload G dL_law_618 1 rfl ?_
      refine j_icmp_eq (tgt := 625) G dL_law_620 (by decide) (fun c620 => ?_) (fun c620 => absurd rfl c620)
      refine j_iload G dL_law_625 1 rfl ?_
      refine j_if_ne (tgt := 642) G dL_law_627 (by decide) (fun c627 => absurd c627 (by decide)) (fun _ => ?_)
      refine j_aload_n G dL_law_630 rfl 5 rfl ?_
      refine j_iconst (v := 0) G dL_law_631 (by decide) ?_
      refine j_lald G _ wq_o (show vp_in (nI 0) 1 from vp_in_nI (by decide) (by decide)) dL_law_632 ?_
      refine j_rwl (show _ = (vac (un 0) (ui 0) (ua 1) (ua 2) (ua 7) (xs (i + 1)).toNatClampNeg).toInt64 from rfl) ?_
      refine j_iload G dL_law_633 0 rfl ?_
      refine j_i2l G dL_law_635 ?_
      refine j_lcmp G dL_law_636 ?_
      refine j_if_eq (tgt := 642) G dL_law_637 (by decide) (fun c637 => ?_) (fun c637 => absurd (lgz.mpr rfl) c637)
      refine j_goto (tgt := 2045) G dL_law_642 (by decide) ?_
      refine j_sub (lv' := [(0, .ref bs), (1, .ref (q 0)), (2, .ref (qm 0)), (3, .ref oa), (4, .ref ob), (5, .int (nI i))]) [2, 3, 4, 5, 6, 7] rfl ?_
      refine j_cs (k' := k + 8) (n' := n + 256) (by omega) (by omega) ?_
      refine j_w (w' := mW cA qm un ui ul ua 0 ++ (((cF cA q un ui ul ua vc ex wo tp tf kf ++ va_pl L f) ++ [(oa, .inl (cA 4, 1, .inr (.inl (vp_updL g 0 (vac (un 0) (ui 0) (ua 1) (ua 2) (ua 7) (xs (i + 1)).toNatClampNeg).toInt64))))]) ++ [(ob, .inl (cA 5, 1, .inr (.inr (.inr (.inl gd)))))])) rfl ?_
      exact hN un ui ul ua vc ex wo tp tf kf L f ta ga ka 0 (vp_updL g 0 (vac (un 0) (ui 0) (ua 1) (ua 2) (ua 7) (xs (i + 1)).toNatClampNeg).toInt64) gd hI hPL
    · exact absurd hcf hc9
  · obtain ⟨hc, he⟩ := hp9
    cases he
    have hr9 : r = 1 := hd9.2
    subst hw9
    subst hb9
    subst hr9
    have hcf : cfNode (un 0) (xs (i + 1)) = 1 := (if_neg hc)
    refine j_w (w' := mW cA qm un ui ul ua co ++ (((cF cA q un ui ul ua vc ex wo tp tf kf ++ va_pl L f) ++ [(oa, .inl (cA 4, 1, .inr (.inl g)))]) ++ [(ob, .inl (cA 5, 1, .inr (.inr (.inr (.inl gd)))))])) (List.append_assoc _ _ _) ?_
    refine j_istore (lv' := [(6, .int 1), (0, .ref bs), (1, .ref (q 0)), (2, .ref (qm 0)), (3, .ref oa), (4, .ref ob), (5, .int (nI i))]) G dL_law_600 (by decide) rfl ?_
    refine j_aload_n G dL_law_602 rfl 3 rfl ?_
    refine j_aload_n G dL_law_603 rfl 1 rfl ?_
    refine j_iload G dL_law_604 6 rfl ?_
    refine j_iconst (v := 1) G dL_law_606 (by decide) ?_
    refine j_iadd G dL_law_607 ?_
    refine j_rwi (nI_add i 1) ?_
    refine j_sldN (j := i + 1) G hX hbl hbA (by omega) (by omega) dL_law_608 ?_
    refine jV_i G 7 0 (fw_i (cM_vacuum l D cA qm un ui ul ua co (xs (i + 1)) hI.1.2.1 hI.2.1) [] (((cF cA q un ui ul ua vc ex wo tp tf kf ++ va_pl L f) ++ [(oa, .inl (cA 4, 1, .inr (.inl g)))]) ++ [(ob, .inl (cA 5, 1, .inr (.inr (.inr (.inl gd)))))]) rfl) gL_145 hd_X7_vacuum ⟨Nat.le_of_ble_eq_true rfl, Nat.le_of_ble_eq_true rfl⟩ ⟨by show _ ≤ 603072; omega, by show _ ≤ 7211114; omega⟩ rfl rfl (Nat.le_of_ble_eq_true rfl) rfl rfl dL_law_609 (fun r w9 hq9 => ?_)
    obtain ⟨b1, hq8, hw9⟩ := hq9
    rcases hq8 with ⟨hc9, hr9, hb9⟩ | ⟨hc9, hb9⟩
    · exact absurd (hcf.symm.trans hc9) (by decide)
    · rw [hcf] at hb9
      subst hw9
      subst hb9
      refine j_w (w' := mW cA qm un ui ul ua 1 ++ (((cF cA q un ui ul ua vc ex wo tp tf kf ++ va_pl L f) ++ [(oa, .inl (cA 4, 1, .inr (.inl g)))]) ++ [(ob, .inl (cA 5, 1, .inr (.inr (.inr (.inl gd)))))])) rfl ?_
      refine j_istore (lv' := [(7, .int r), (6, .int 1), (0, .ref bs), (1, .ref (q 0)), (2, .ref (qm 0)), (3, .ref oa), (4, .ref ob), (5, .int (nI i))]) G dL_law_612 (by decide) rfl ?_
      refine j_aload_n G dL_law_614 rfl 4 rfl ?_
      refine jV_i G 7 0 (fw_i (cM_thrown l D cA qm un ui ul ua 1  ) [] (((cF cA q un ui ul ua vc ex wo tp tf kf ++ va_pl L f) ++ [(oa, .inl (cA 4, 1, .inr (.inl g)))]) ++ [(ob, .inl (cA 5, 1, .inr (.inr (.inr (.inl gd)))))]) rfl) gL_122 hd_X7_thrown ⟨Nat.le_of_ble_eq_true rfl, Nat.le_of_ble_eq_true rfl⟩ ⟨by show _ ≤ 603072; omega, by show _ ≤ 7211114; omega⟩ rfl rfl (Nat.le_of_ble_eq_true rfl) rfl rfl dL_law_615 (fun r w9 hq9 => ?_)
      obtain ⟨b1, hq8, hw9⟩ := hq9
      obtain ⟨hr9, hb9⟩ := hq8
      subst hw9
      subst hb9
      subst hr9
      refine j_w (w' := mW cA qm un ui ul ua 1 ++ (((cF cA q un ui ul ua vc ex wo tp tf kf ++ va_pl L f) ++ [(oa, .inl (cA 4, 1, .inr (.inl g)))]) ++ [(ob, .inl (cA 5, 1, .inr (.inr (.inr (.inl gd)))))])) rfl ?_
      refine j_iload G dL_law_618 1 rfl ?_
      refine j_icmp_eq (tgt := 625) G dL_law_620 (by decide) (fun c620 => ?_) (fun c620 => absurd rfl c620)
      refine j_iload G dL_law_625 1 rfl ?_
      refine j_if_ne (tgt := 642) G dL_law_627 (by decide) (fun _ => ?_) (fun c627 => absurd c627 (by decide))
      refine j_goto (tgt := 2045) G dL_law_642 (by decide) ?_
      refine j_sub (lv' := [(0, .ref bs), (1, .ref (q 0)), (2, .ref (qm 0)), (3, .ref oa), (4, .ref ob), (5, .int (nI i))]) [2, 3, 4, 5, 6, 7] rfl ?_
      refine j_cs (k' := k + 8) (n' := n + 256) (by omega) (by omega) ?_
      refine j_w (w' := mW cA qm un ui ul ua 1 ++ (((cF cA q un ui ul ua vc ex wo tp tf kf ++ va_pl L f) ++ [(oa, .inl (cA 4, 1, .inr (.inl g)))]) ++ [(ob, .inl (cA 5, 1, .inr (.inr (.inr (.inl gd)))))])) rfl ?_
      exact hN un ui ul ua vc ex wo tp tf kf L f ta ga ka 1 g gd hI hPL
set_option maxHeartbeats 4000000 in
set_option maxRecDepth 100000 in
theorem lw_vacuumBySweep {p : Program} {l : Launch} {e : Env} {s : State} {m : MethodId} {args : Array Value} {below : List Frame} {meth : Method} {c : Code} {D : va_G} {cA : Nat → ClassId} {A : Nat → Prop} {Q : State → Prop} {k n : Nat} (G : GX p s m args c cL_law 9 RL D cA A) (hfl : l.stackTraces = false) {bs Ls : Nat} {xs : Nat → Int32} (hX : va_X bs Ls xs s s.heap) (hbl : bs < s.heap.size) (hbA : ¬ A bs) (hLs : Ls ≤ 3072) {i : Nat} (hi : i + 5 < Ls) (hk : k + 8 ≤ 603072) (hn9 : n + 256 ≤ 7211114) (q qm : Nat → Nat) (un : Nat → Nat) (ui : Nat → Int32) (ul : Nat → Int64) (ua : Nat → Nat → Int32) (vc ex wo tp : Nat → Int32) (tf kf : Nat → Option Nat) (L : List Nat) (f : Nat → va_E) (ta ga ka : Nat → Nat) (co : Int32) (oa ob : Nat) (g : Nat → Int64) (gd : Nat → UInt64) (hI : INV un ui ua) (hPL : PL cA un ua L f tf kf ta ga ka) (hN : ∀ (un : Nat → Nat) (ui : Nat → Int32) (ul : Nat → Int64) (ua : Nat → Nat → Int32) (vc ex wo tp : Nat → Int32) (tf kf : Nat → Option Nat) (L : List Nat) (f : Nat → va_E) (ta ga ka : Nat → Nat) (co : Int32) (g : Nat → Int64) (gd : Nat → UInt64), INV un ui ua → PL cA un ua L f tf kf ta ga ka → J p l e (RM 2048 94400 603072 7211114) s m args below meth c 9 D A (mW cA qm un ui ul ua co ++ (((cF cA q un ui ul ua vc ex wo tp tf kf ++ va_pl L f) ++ [(oa, .inl (cA 4, 1, .inr (.inl g)))]) ++ [(ob, .inl (cA 5, 1, .inr (.inr (.inr (.inl gd)))))])) (k + 8) (n + 256) Q 2045 [(0, .ref bs), (1, .ref (q 0)), (2, .ref (qm 0)), (3, .ref oa), (4, .ref ob), (5, .int (nI i))] []) : J p l e (RM 2048 94400 603072 7211114) s m args below meth c 9 D A (mW cA qm un ui ul ua co ++ (((cF cA q un ui ul ua vc ex wo tp tf kf ++ va_pl L f) ++ [(oa, .inl (cA 4, 1, .inr (.inl g)))]) ++ [(ob, .inl (cA 5, 1, .inr (.inr (.inr (.inl gd)))))])) k n Q 645 [(0, .ref bs), (1, .ref (q 0)), (2, .ref (qm 0)), (3, .ref oa), (4, .ref ob), (5, .int (nI i))] [] := by
  refine j_aload_n G dL_law_645 rfl 1 rfl ?_
  refine j_aload_n G dL_law_646 rfl 0 rfl ?_
  refine j_iload G dL_law_647 5 rfl ?_
  refine j_iconst (v := 1) G dL_law_649 (by decide) ?_
  refine j_iadd G dL_law_650 ?_
  refine j_rwi (nI_add i 1) ?_
  refine j_sldN (j := i + 1) G hX hbl hbA (by omega) (by omega) dL_law_651 ?_
  refine j_aload_n G dL_law_652 rfl 3 rfl ?_
  refine jSW_i G (fw_W (cW_vacuumBySweep l D cA (b0 := cF cA q un ui ul ua vc ex wo tp tf kf ++ va_pl L f) rfl (xs (i + 1)) g (cC_X6_vacuumBySweep l D cA hfl q un ui ul ua vc ex wo tp tf kf L f (xs (i + 1)) hI.1.2.1 hI.1.1 hI.2.1) (fun E8 b8 h8 => congrArg Prod.fst h8.2)) (mW cA qm un ui ul ua co) [(ob, .inl (cA 5, 1, .inr (.inr (.inr (.inl gd)))))] (List.append_assoc _ _ _).symm) (gw_vacuumBySweep wd_576) hd_L_vacuumBySweep.2 ⟨Nat.le_of_ble_eq_true rfl, Nat.le_of_ble_eq_true rfl⟩ ⟨by show _ ≤ 603072; omega, by show _ ≤ 7211114; omega⟩ rfl rfl (Nat.le_of_ble_eq_true rfl) dL_law_653 (fun r w9 hq9 => ?_)
  obtain ⟨b1, hq8, hw9⟩ := hq9
  rcases hq8 with ⟨v9, b2, hp9, hr9, hb9⟩ | ⟨E9, b2, hp9, hd9, hb9⟩
  · obtain ⟨hok, hv9, hb8⟩ := hp9
    subst hw9
    subst hb9
    subst hr9
    subst hb8
    subst hv9
    have hcf : cfNode (un 0) (xs (i + 1)) = 0 := (if_pos hok)
    refine j_w (w' := mW cA qm un ui ul ua co ++ (((cF cA q un ui ul ua (swV (vac (un 0) (ui 0) (ua 1) (ua 2) (ua 7)) vc (un 0)) (swV (expV (ui 0) (ua 1) (ua 2)) ex (un 0)) wo tp tf kf ++ va_pl L f) ++ [(oa, .inl (cA 4, 1, .inr (.inl (vp_updL g 0 (vac (un 0) (ui 0) (ua 1) (ua 2) (ua 7) (xs (i + 1)).toNatClampNeg).toInt64))))]) ++ [(ob, .inl (cA 5, 1, .inr (.inr (.inr (.inl gd)))))])) (List.append_assoc _ _ _) ?_
    refine j_istore (lv' := [(6, .int 0), (0, .ref bs), (1, .ref (q 0)), (2, .ref (qm 0)), (3, .ref oa), (4, .ref ob), (5, .int (nI i))]) G dL_law_656 (by decide) rfl ?_
    refine j_aload_n G dL_law_658 rfl 3 rfl ?_
    refine j_aload_n G dL_law_659 rfl 1 rfl ?_
    refine j_iload G dL_law_660 6 rfl ?_
    refine j_iconst (v := 1) G dL_law_662 (by decide) ?_
    refine j_iadd G dL_law_663 ?_
    refine j_rwi (nI_add i 1) ?_
    refine j_sldN (j := i + 1) G hX hbl hbA (by omega) (by omega) dL_law_664 ?_
    refine jV_i G 7 0 (fw_i (cM_vacuumBySweep l D cA qm un ui ul ua co (xs (i + 1)) hI.1.2.1 hI.2.1) [] (((cF cA q un ui ul ua (swV (vac (un 0) (ui 0) (ua 1) (ua 2) (ua 7)) vc (un 0)) (swV (expV (ui 0) (ua 1) (ua 2)) ex (un 0)) wo tp tf kf ++ va_pl L f) ++ [(oa, .inl (cA 4, 1, .inr (.inl (vp_updL g 0 (vac (un 0) (ui 0) (ua 1) (ua 2) (ua 7) (xs (i + 1)).toNatClampNeg).toInt64))))]) ++ [(ob, .inl (cA 5, 1, .inr (.inr (.inr (.inl gd)))))]) rfl) gL_148 hd_X7_vacuumBySweep ⟨Nat.le_of_ble_eq_true rfl, Nat.le_of_ble_eq_true rfl⟩ ⟨by show _ ≤ 603072; omega, by show _ ≤ 7211114; omega⟩ rfl rfl (Nat.le_of_ble_eq_true rfl) rfl rfl dL_law_665 (fun r w9 hq9 => ?_)
    obtain ⟨b1, hq8, hw9⟩ := hq9
    rcases hq8 with ⟨hc9, hr9, hb9⟩ | ⟨hc9, hb9⟩
    · subst hw9
      subst hb9
      subst hr9
      refine j_w (w' := mW cA qm un ui ul ua 0 ++ (((cF cA q un ui ul ua (swV (vac (un 0) (ui 0) (ua 1) (ua 2) (ua 7)) vc (un 0)) (swV (expV (ui 0) (ua 1) (ua 2)) ex (un 0)) wo tp tf kf ++ va_pl L f) ++ [(oa, .inl (cA 4, 1, .inr (.inl (vp_updL g 0 (vac (un 0) (ui 0) (ua 1) (ua 2) (ua 7) (xs (i + 1)).toNatClampNeg).toInt64))))]) ++ [(ob, .inl (cA 5, 1, .inr (.inr (.inr (.inl gd)))))])) rfl ?_
      refine j_istore (lv' := [(7, .int (vac (un 0) (ui 0) (ua 1) (ua 2) (ua 7) (xs (i + 1)).toNatClampNeg)), (6, .int 0), (0, .ref bs), (1, .ref (q 0)), (2, .ref (qm 0)), (3, .ref oa), (4, .ref ob), (5, .int (nI i))]) G dL_law_668 (by decide) rfl ?_
      refine j_aload_n G dL_law_670 rfl 4 rfl ?_
      refine jV_i G 7 0 (fw_i (cM_thrown l D cA qm un ui ul ua 0  ) [] (((cF cA q un ui ul ua (swV (vac (un 0) (ui 0) (ua 1) (ua 2) (ua 7)) vc (un 0)) (swV (expV (ui 0) (ua 1) (ua 2)) ex (un 0)) wo tp tf kf ++ va_pl L f) ++ [(oa, .inl (cA 4, 1, .inr (.inl (vp_updL g 0 (vac (un 0) (ui 0) (ua 1) (ua 2) (ua 7) (xs (i + 1)).toNatClampNeg).toInt64))))]) ++ [(ob, .inl (cA 5, 1, .inr (.inr (.inr (.inl gd)))))]) rfl) gL_122 hd_X7_thrown ⟨Nat.le_of_ble_eq_true rfl, Nat.le_of_ble_eq_true rfl⟩ ⟨by show _ ≤ 603072; omega, by show _ ≤ 7211114; omega⟩ rfl rfl (Nat.le_of_ble_eq_true rfl) rfl rfl dL_law_671 (fun r w9 hq9 => ?_)
      obtain ⟨b1, hq8, hw9⟩ := hq9
      obtain ⟨hr9, hb9⟩ := hq8
      subst hw9
      subst hb9
      subst hr9
      refine j_w (w' := mW cA qm un ui ul ua 0 ++ (((cF cA q un ui ul ua (swV (vac (un 0) (ui 0) (ua 1) (ua 2) (ua 7)) vc (un 0)) (swV (expV (ui 0) (ua 1) (ua 2)) ex (un 0)) wo tp tf kf ++ va_pl L f) ++ [(oa, .inl (cA 4, 1, .inr (.inl (vp_updL g 0 (vac (un 0) (ui 0) (ua 1) (ua 2) (ua 7) (xs (i + 1)).toNatClampNeg).toInt64))))]) ++ [(ob, .inl (cA 5, 1, .inr (.inr (.inr (.inl gd)))))])) rfl ?_
      refine j_iload G dL_law_674 1 rfl ?_
      refine j_icmp_eq (tgt := 681) G dL_law_676 (by decide) (fun c676 => ?_) (fun c676 => absurd rfl c676)
      refine j_iload G dL_law_681 1 rfl ?_
      refine j_if_ne (tgt := 698) G dL_law_683 (by decide) (fun c683 => absurd c683 (by decide)) (fun _ => ?_)
      refine j_aload_n G dL_law_686 rfl 5 rfl ?_
      refine j_iconst (v := 0) G dL_law_687 (by decide) ?_
      refine j_lald G _ wq_o (show vp_in (nI 0) 1 from vp_in_nI (by decide) (by decide)) dL_law_688 ?_
      refine j_rwl (show _ = (vac (un 0) (ui 0) (ua 1) (ua 2) (ua 7) (xs (i + 1)).toNatClampNeg).toInt64 from rfl) ?_
      refine j_iload G dL_law_689 0 rfl ?_
      refine j_i2l G dL_law_691 ?_
      refine j_lcmp G dL_law_692 ?_
      refine j_if_eq (tgt := 698) G dL_law_693 (by decide) (fun c693 => ?_) (fun c693 => absurd (lgz.mpr rfl) c693)
      refine j_goto (tgt := 2045) G dL_law_698 (by decide) ?_
      refine j_sub (lv' := [(0, .ref bs), (1, .ref (q 0)), (2, .ref (qm 0)), (3, .ref oa), (4, .ref ob), (5, .int (nI i))]) [2, 3, 4, 5, 6, 7] rfl ?_
      refine j_cs (k' := k + 8) (n' := n + 256) (by omega) (by omega) ?_
      refine j_w (w' := mW cA qm un ui ul ua 0 ++ (((cF cA q un ui ul ua (swV (vac (un 0) (ui 0) (ua 1) (ua 2) (ua 7)) vc (un 0)) (swV (expV (ui 0) (ua 1) (ua 2)) ex (un 0)) wo tp tf kf ++ va_pl L f) ++ [(oa, .inl (cA 4, 1, .inr (.inl (vp_updL g 0 (vac (un 0) (ui 0) (ua 1) (ua 2) (ua 7) (xs (i + 1)).toNatClampNeg).toInt64))))]) ++ [(ob, .inl (cA 5, 1, .inr (.inr (.inr (.inl gd)))))])) rfl ?_
      exact hN un ui ul ua (swV (vac (un 0) (ui 0) (ua 1) (ua 2) (ua 7)) vc (un 0)) (swV (expV (ui 0) (ua 1) (ua 2)) ex (un 0)) wo tp tf kf L f ta ga ka 0 (vp_updL g 0 (vac (un 0) (ui 0) (ua 1) (ua 2) (ua 7) (xs (i + 1)).toNatClampNeg).toInt64) gd hI hPL
    · exact absurd hcf hc9
  · obtain ⟨hc, he⟩ := hp9
    cases he
    have hr9 : r = 1 := hd9.2
    subst hw9
    subst hb9
    subst hr9
    have hcf : cfNode (un 0) (xs (i + 1)) = 1 := (if_neg hc)
    refine j_w (w' := mW cA qm un ui ul ua co ++ (((cF cA q un ui ul ua vc ex wo tp tf kf ++ va_pl L f) ++ [(oa, .inl (cA 4, 1, .inr (.inl g)))]) ++ [(ob, .inl (cA 5, 1, .inr (.inr (.inr (.inl gd)))))])) (List.append_assoc _ _ _) ?_
    refine j_istore (lv' := [(6, .int 1), (0, .ref bs), (1, .ref (q 0)), (2, .ref (qm 0)), (3, .ref oa), (4, .ref ob), (5, .int (nI i))]) G dL_law_656 (by decide) rfl ?_
    refine j_aload_n G dL_law_658 rfl 3 rfl ?_
    refine j_aload_n G dL_law_659 rfl 1 rfl ?_
    refine j_iload G dL_law_660 6 rfl ?_
    refine j_iconst (v := 1) G dL_law_662 (by decide) ?_
    refine j_iadd G dL_law_663 ?_
    refine j_rwi (nI_add i 1) ?_
    refine j_sldN (j := i + 1) G hX hbl hbA (by omega) (by omega) dL_law_664 ?_
    refine jV_i G 7 0 (fw_i (cM_vacuumBySweep l D cA qm un ui ul ua co (xs (i + 1)) hI.1.2.1 hI.2.1) [] (((cF cA q un ui ul ua vc ex wo tp tf kf ++ va_pl L f) ++ [(oa, .inl (cA 4, 1, .inr (.inl g)))]) ++ [(ob, .inl (cA 5, 1, .inr (.inr (.inr (.inl gd)))))]) rfl) gL_148 hd_X7_vacuumBySweep ⟨Nat.le_of_ble_eq_true rfl, Nat.le_of_ble_eq_true rfl⟩ ⟨by show _ ≤ 603072; omega, by show _ ≤ 7211114; omega⟩ rfl rfl (Nat.le_of_ble_eq_true rfl) rfl rfl dL_law_665 (fun r w9 hq9 => ?_)
    obtain ⟨b1, hq8, hw9⟩ := hq9
    rcases hq8 with ⟨hc9, hr9, hb9⟩ | ⟨hc9, hb9⟩
    · exact absurd (hcf.symm.trans hc9) (by decide)
    · rw [hcf] at hb9
      subst hw9
      subst hb9
      refine j_w (w' := mW cA qm un ui ul ua 1 ++ (((cF cA q un ui ul ua vc ex wo tp tf kf ++ va_pl L f) ++ [(oa, .inl (cA 4, 1, .inr (.inl g)))]) ++ [(ob, .inl (cA 5, 1, .inr (.inr (.inr (.inl gd)))))])) rfl ?_
      refine j_istore (lv' := [(7, .int r), (6, .int 1), (0, .ref bs), (1, .ref (q 0)), (2, .ref (qm 0)), (3, .ref oa), (4, .ref ob), (5, .int (nI i))]) G dL_law_668 (by decide) rfl ?_
      refine j_aload_n G dL_law_670 rfl 4 rfl ?_
      refine jV_i G 7 0 (fw_i (cM_thrown l D cA qm un ui ul ua 1  ) [] (((cF cA q un ui ul ua vc ex wo tp tf kf ++ va_pl L f) ++ [(oa, .inl (cA 4, 1, .inr (.inl g)))]) ++ [(ob, .inl (cA 5, 1, .inr (.inr (.inr (.inl gd)))))]) rfl) gL_122 hd_X7_thrown ⟨Nat.le_of_ble_eq_true rfl, Nat.le_of_ble_eq_true rfl⟩ ⟨by show _ ≤ 603072; omega, by show _ ≤ 7211114; omega⟩ rfl rfl (Nat.le_of_ble_eq_true rfl) rfl rfl dL_law_671 (fun r w9 hq9 => ?_)
      obtain ⟨b1, hq8, hw9⟩ := hq9
      obtain ⟨hr9, hb9⟩ := hq8
      subst hw9
      subst hb9
      subst hr9
      refine j_w (w' := mW cA qm un ui ul ua 1 ++ (((cF cA q un ui ul ua vc ex wo tp tf kf ++ va_pl L f) ++ [(oa, .inl (cA 4, 1, .inr (.inl g)))]) ++ [(ob, .inl (cA 5, 1, .inr (.inr (.inr (.inl gd)))))])) rfl ?_
      refine j_iload G dL_law_674 1 rfl ?_
      refine j_icmp_eq (tgt := 681) G dL_law_676 (by decide) (fun c676 => ?_) (fun c676 => absurd rfl c676)
      refine j_iload G dL_law_681 1 rfl ?_
      refine j_if_ne (tgt := 698) G dL_law_683 (by decide) (fun _ => ?_) (fun c683 => absurd c683 (by decide))
      refine j_goto (tgt := 2045) G dL_law_698 (by decide) ?_
      refine j_sub (lv' := [(0, .ref bs), (1, .ref (q 0)), (2, .ref (qm 0)), (3, .ref oa), (4, .ref ob), (5, .int (nI i))]) [2, 3, 4, 5, 6, 7] rfl ?_
      refine j_cs (k' := k + 8) (n' := n + 256) (by omega) (by omega) ?_
      refine j_w (w' := mW cA qm un ui ul ua 1 ++ (((cF cA q un ui ul ua vc ex wo tp tf kf ++ va_pl L f) ++ [(oa, .inl (cA 4, 1, .inr (.inl g)))]) ++ [(ob, .inl (cA 5, 1, .inr (.inr (.inr (.inl gd)))))])) rfl ?_
      exact hN un ui ul ua vc ex wo tp tf kf L f ta ga ka 1 g gd hI hPL
set_option maxHeartbeats 4000000 in
set_option maxRecDepth 100000 in
theorem lw_expectedVacuum {p : Program} {l : Launch} {e : Env} {s : State} {m : MethodId} {args : Array Value} {below : List Frame} {meth : Method} {c : Code} {D : va_G} {cA : Nat → ClassId} {A : Nat → Prop} {Q : State → Prop} {k n : Nat} (G : GX p s m args c cL_law 9 RL D cA A) (hfl : l.stackTraces = false) {bs Ls : Nat} {xs : Nat → Int32} (hX : va_X bs Ls xs s s.heap) (hbl : bs < s.heap.size) (hbA : ¬ A bs) (hLs : Ls ≤ 3072) {i : Nat} (hi : i + 5 < Ls) (hk : k + 8 ≤ 603072) (hn9 : n + 256 ≤ 7211114) (q qm : Nat → Nat) (un : Nat → Nat) (ui : Nat → Int32) (ul : Nat → Int64) (ua : Nat → Nat → Int32) (vc ex wo tp : Nat → Int32) (tf kf : Nat → Option Nat) (L : List Nat) (f : Nat → va_E) (ta ga ka : Nat → Nat) (co : Int32) (oa ob : Nat) (g : Nat → Int64) (gd : Nat → UInt64) (hI : INV un ui ua) (hPL : PL cA un ua L f tf kf ta ga ka) (hN : ∀ (un : Nat → Nat) (ui : Nat → Int32) (ul : Nat → Int64) (ua : Nat → Nat → Int32) (vc ex wo tp : Nat → Int32) (tf kf : Nat → Option Nat) (L : List Nat) (f : Nat → va_E) (ta ga ka : Nat → Nat) (co : Int32) (g : Nat → Int64) (gd : Nat → UInt64), INV un ui ua → PL cA un ua L f tf kf ta ga ka → J p l e (RM 2048 94400 603072 7211114) s m args below meth c 9 D A (mW cA qm un ui ul ua co ++ (((cF cA q un ui ul ua vc ex wo tp tf kf ++ va_pl L f) ++ [(oa, .inl (cA 4, 1, .inr (.inl g)))]) ++ [(ob, .inl (cA 5, 1, .inr (.inr (.inr (.inl gd)))))])) (k + 8) (n + 256) Q 2045 [(0, .ref bs), (1, .ref (q 0)), (2, .ref (qm 0)), (3, .ref oa), (4, .ref ob), (5, .int (nI i))] []) : J p l e (RM 2048 94400 603072 7211114) s m args below meth c 9 D A (mW cA qm un ui ul ua co ++ (((cF cA q un ui ul ua vc ex wo tp tf kf ++ va_pl L f) ++ [(oa, .inl (cA 4, 1, .inr (.inl g)))]) ++ [(ob, .inl (cA 5, 1, .inr (.inr (.inr (.inl gd)))))])) k n Q 701 [(0, .ref bs), (1, .ref (q 0)), (2, .ref (qm 0)), (3, .ref oa), (4, .ref ob), (5, .int (nI i))] [] := by
  refine j_aload_n G dL_law_701 rfl 1 rfl ?_
  refine j_aload_n G dL_law_702 rfl 0 rfl ?_
  refine j_iload G dL_law_703 5 rfl ?_
  refine j_iconst (v := 1) G dL_law_705 (by decide) ?_
  refine j_iadd G dL_law_706 ?_
  refine j_rwi (nI_add i 1) ?_
  refine j_sldN (j := i + 1) G hX hbl hbA (by omega) (by omega) dL_law_707 ?_
  refine j_aload_n G dL_law_708 rfl 3 rfl ?_
  refine jSW_i G (fw_W (cW_expectedVacuum l D cA (b0 := cF cA q un ui ul ua vc ex wo tp tf kf ++ va_pl L f) rfl (xs (i + 1)) g (cC_X6_expectedVacuum l D cA hfl q un ui ul ua vc ex wo tp tf kf L f (xs (i + 1)) hI.1.2.1 hI.1.1 hI.2.1) (fun E8 b8 h8 => congrArg Prod.fst h8.2)) (mW cA qm un ui ul ua co) [(ob, .inl (cA 5, 1, .inr (.inr (.inr (.inl gd)))))] (List.append_assoc _ _ _).symm) (gw_expectedVacuum wd_587) hd_L_expectedVacuum.2 ⟨Nat.le_of_ble_eq_true rfl, Nat.le_of_ble_eq_true rfl⟩ ⟨by show _ ≤ 603072; omega, by show _ ≤ 7211114; omega⟩ rfl rfl (Nat.le_of_ble_eq_true rfl) dL_law_709 (fun r w9 hq9 => ?_)
  obtain ⟨b1, hq8, hw9⟩ := hq9
  rcases hq8 with ⟨v9, b2, hp9, hr9, hb9⟩ | ⟨E9, b2, hp9, hd9, hb9⟩
  · obtain ⟨hok, hv9, hb8⟩ := hp9
    subst hw9
    subst hb9
    subst hr9
    subst hb8
    subst hv9
    have hcf : cfNode (un 0) (xs (i + 1)) = 0 := (if_pos hok)
    refine j_w (w' := mW cA qm un ui ul ua co ++ (((cF cA q un ui ul ua (swV (vac (un 0) (ui 0) (ua 1) (ua 2) (ua 7)) vc (un 0)) (swV (expV (ui 0) (ua 1) (ua 2)) ex (un 0)) wo tp tf kf ++ va_pl L f) ++ [(oa, .inl (cA 4, 1, .inr (.inl (vp_updL g 0 (expV (ui 0) (ua 1) (ua 2) (xs (i + 1)).toNatClampNeg).toInt64))))]) ++ [(ob, .inl (cA 5, 1, .inr (.inr (.inr (.inl gd)))))])) (List.append_assoc _ _ _) ?_
    refine j_istore (lv' := [(6, .int 0), (0, .ref bs), (1, .ref (q 0)), (2, .ref (qm 0)), (3, .ref oa), (4, .ref ob), (5, .int (nI i))]) G dL_law_712 (by decide) rfl ?_
    refine j_aload_n G dL_law_714 rfl 3 rfl ?_
    refine j_aload_n G dL_law_715 rfl 1 rfl ?_
    refine j_iload G dL_law_716 6 rfl ?_
    refine j_iconst (v := 1) G dL_law_718 (by decide) ?_
    refine j_iadd G dL_law_719 ?_
    refine j_rwi (nI_add i 1) ?_
    refine j_sldN (j := i + 1) G hX hbl hbA (by omega) (by omega) dL_law_720 ?_
    refine jV_i G 7 0 (fw_i (cM_expectedVacuum l D cA qm un ui ul ua co (xs (i + 1)) hI.1.2.1 hI.2.1) [] (((cF cA q un ui ul ua (swV (vac (un 0) (ui 0) (ua 1) (ua 2) (ua 7)) vc (un 0)) (swV (expV (ui 0) (ua 1) (ua 2)) ex (un 0)) wo tp tf kf ++ va_pl L f) ++ [(oa, .inl (cA 4, 1, .inr (.inl (vp_updL g 0 (expV (ui 0) (ua 1) (ua 2) (xs (i + 1)).toNatClampNeg).toInt64))))]) ++ [(ob, .inl (cA 5, 1, .inr (.inr (.inr (.inl gd)))))]) rfl) gL_151 hd_X7_expectedVacuum ⟨Nat.le_of_ble_eq_true rfl, Nat.le_of_ble_eq_true rfl⟩ ⟨by show _ ≤ 603072; omega, by show _ ≤ 7211114; omega⟩ rfl rfl (Nat.le_of_ble_eq_true rfl) rfl rfl dL_law_721 (fun r w9 hq9 => ?_)
    obtain ⟨b1, hq8, hw9⟩ := hq9
    rcases hq8 with ⟨hc9, hr9, hb9⟩ | ⟨hc9, hb9⟩
    · subst hw9
      subst hb9
      subst hr9
      refine j_w (w' := mW cA qm un ui ul ua 0 ++ (((cF cA q un ui ul ua (swV (vac (un 0) (ui 0) (ua 1) (ua 2) (ua 7)) vc (un 0)) (swV (expV (ui 0) (ua 1) (ua 2)) ex (un 0)) wo tp tf kf ++ va_pl L f) ++ [(oa, .inl (cA 4, 1, .inr (.inl (vp_updL g 0 (expV (ui 0) (ua 1) (ua 2) (xs (i + 1)).toNatClampNeg).toInt64))))]) ++ [(ob, .inl (cA 5, 1, .inr (.inr (.inr (.inl gd)))))])) rfl ?_
      refine j_istore (lv' := [(7, .int (expV (ui 0) (ua 1) (ua 2) (xs (i + 1)).toNatClampNeg)), (6, .int 0), (0, .ref bs), (1, .ref (q 0)), (2, .ref (qm 0)), (3, .ref oa), (4, .ref ob), (5, .int (nI i))]) G dL_law_724 (by decide) rfl ?_
      refine j_aload_n G dL_law_726 rfl 4 rfl ?_
      refine jV_i G 7 0 (fw_i (cM_thrown l D cA qm un ui ul ua 0  ) [] (((cF cA q un ui ul ua (swV (vac (un 0) (ui 0) (ua 1) (ua 2) (ua 7)) vc (un 0)) (swV (expV (ui 0) (ua 1) (ua 2)) ex (un 0)) wo tp tf kf ++ va_pl L f) ++ [(oa, .inl (cA 4, 1, .inr (.inl (vp_updL g 0 (expV (ui 0) (ua 1) (ua 2) (xs (i + 1)).toNatClampNeg).toInt64))))]) ++ [(ob, .inl (cA 5, 1, .inr (.inr (.inr (.inl gd)))))]) rfl) gL_122 hd_X7_thrown ⟨Nat.le_of_ble_eq_true rfl, Nat.le_of_ble_eq_true rfl⟩ ⟨by show _ ≤ 603072; omega, by show _ ≤ 7211114; omega⟩ rfl rfl (Nat.le_of_ble_eq_true rfl) rfl rfl dL_law_727 (fun r w9 hq9 => ?_)
      obtain ⟨b1, hq8, hw9⟩ := hq9
      obtain ⟨hr9, hb9⟩ := hq8
      subst hw9
      subst hb9
      subst hr9
      refine j_w (w' := mW cA qm un ui ul ua 0 ++ (((cF cA q un ui ul ua (swV (vac (un 0) (ui 0) (ua 1) (ua 2) (ua 7)) vc (un 0)) (swV (expV (ui 0) (ua 1) (ua 2)) ex (un 0)) wo tp tf kf ++ va_pl L f) ++ [(oa, .inl (cA 4, 1, .inr (.inl (vp_updL g 0 (expV (ui 0) (ua 1) (ua 2) (xs (i + 1)).toNatClampNeg).toInt64))))]) ++ [(ob, .inl (cA 5, 1, .inr (.inr (.inr (.inl gd)))))])) rfl ?_
      refine j_iload G dL_law_730 1 rfl ?_
      refine j_icmp_eq (tgt := 737) G dL_law_732 (by decide) (fun c732 => ?_) (fun c732 => absurd rfl c732)
      refine j_iload G dL_law_737 1 rfl ?_
      refine j_if_ne (tgt := 754) G dL_law_739 (by decide) (fun c739 => absurd c739 (by decide)) (fun _ => ?_)
      refine j_aload_n G dL_law_742 rfl 5 rfl ?_
      refine j_iconst (v := 0) G dL_law_743 (by decide) ?_
      refine j_lald G _ wq_o (show vp_in (nI 0) 1 from vp_in_nI (by decide) (by decide)) dL_law_744 ?_
      refine j_rwl (show _ = (expV (ui 0) (ua 1) (ua 2) (xs (i + 1)).toNatClampNeg).toInt64 from rfl) ?_
      refine j_iload G dL_law_745 0 rfl ?_
      refine j_i2l G dL_law_747 ?_
      refine j_lcmp G dL_law_748 ?_
      refine j_if_eq (tgt := 754) G dL_law_749 (by decide) (fun c749 => ?_) (fun c749 => absurd (lgz.mpr rfl) c749)
      refine j_goto (tgt := 2045) G dL_law_754 (by decide) ?_
      refine j_sub (lv' := [(0, .ref bs), (1, .ref (q 0)), (2, .ref (qm 0)), (3, .ref oa), (4, .ref ob), (5, .int (nI i))]) [2, 3, 4, 5, 6, 7] rfl ?_
      refine j_cs (k' := k + 8) (n' := n + 256) (by omega) (by omega) ?_
      refine j_w (w' := mW cA qm un ui ul ua 0 ++ (((cF cA q un ui ul ua (swV (vac (un 0) (ui 0) (ua 1) (ua 2) (ua 7)) vc (un 0)) (swV (expV (ui 0) (ua 1) (ua 2)) ex (un 0)) wo tp tf kf ++ va_pl L f) ++ [(oa, .inl (cA 4, 1, .inr (.inl (vp_updL g 0 (expV (ui 0) (ua 1) (ua 2) (xs (i + 1)).toNatClampNeg).toInt64))))]) ++ [(ob, .inl (cA 5, 1, .inr (.inr (.inr (.inl gd)))))])) rfl ?_
      exact hN un ui ul ua (swV (vac (un 0) (ui 0) (ua 1) (ua 2) (ua 7)) vc (un 0)) (swV (expV (ui 0) (ua 1) (ua 2)) ex (un 0)) wo tp tf kf L f ta ga ka 0 (vp_updL g 0 (expV (ui 0) (ua 1) (ua 2) (xs (i + 1)).toNatClampNeg).toInt64) gd hI hPL
    · exact absurd hcf hc9
  · obtain ⟨hc, he⟩ := hp9
    cases he
    have hr9 : r = 1 := hd9.2
    subst hw9
    subst hb9
    subst hr9
    have hcf : cfNode (un 0) (xs (i + 1)) = 1 := (if_neg hc)
    refine j_w (w' := mW cA qm un ui ul ua co ++ (((cF cA q un ui ul ua vc ex wo tp tf kf ++ va_pl L f) ++ [(oa, .inl (cA 4, 1, .inr (.inl g)))]) ++ [(ob, .inl (cA 5, 1, .inr (.inr (.inr (.inl gd)))))])) (List.append_assoc _ _ _) ?_
    refine j_istore (lv' := [(6, .int 1), (0, .ref bs), (1, .ref (q 0)), (2, .ref (qm 0)), (3, .ref oa), (4, .ref ob), (5, .int (nI i))]) G dL_law_712 (by decide) rfl ?_
    refine j_aload_n G dL_law_714 rfl 3 rfl ?_
    refine j_aload_n G dL_law_715 rfl 1 rfl ?_
    refine j_iload G dL_law_716 6 rfl ?_
    refine j_iconst (v := 1) G dL_law_718 (by decide) ?_
    refine j_iadd G dL_law_719 ?_
    refine j_rwi (nI_add i 1) ?_
    refine j_sldN (j := i + 1) G hX hbl hbA (by omega) (by omega) dL_law_720 ?_
    refine jV_i G 7 0 (fw_i (cM_expectedVacuum l D cA qm un ui ul ua co (xs (i + 1)) hI.1.2.1 hI.2.1) [] (((cF cA q un ui ul ua vc ex wo tp tf kf ++ va_pl L f) ++ [(oa, .inl (cA 4, 1, .inr (.inl g)))]) ++ [(ob, .inl (cA 5, 1, .inr (.inr (.inr (.inl gd)))))]) rfl) gL_151 hd_X7_expectedVacuum ⟨Nat.le_of_ble_eq_true rfl, Nat.le_of_ble_eq_true rfl⟩ ⟨by show _ ≤ 603072; omega, by show _ ≤ 7211114; omega⟩ rfl rfl (Nat.le_of_ble_eq_true rfl) rfl rfl dL_law_721 (fun r w9 hq9 => ?_)
    obtain ⟨b1, hq8, hw9⟩ := hq9
    rcases hq8 with ⟨hc9, hr9, hb9⟩ | ⟨hc9, hb9⟩
    · exact absurd (hcf.symm.trans hc9) (by decide)
    · rw [hcf] at hb9
      subst hw9
      subst hb9
      refine j_w (w' := mW cA qm un ui ul ua 1 ++ (((cF cA q un ui ul ua vc ex wo tp tf kf ++ va_pl L f) ++ [(oa, .inl (cA 4, 1, .inr (.inl g)))]) ++ [(ob, .inl (cA 5, 1, .inr (.inr (.inr (.inl gd)))))])) rfl ?_
      refine j_istore (lv' := [(7, .int r), (6, .int 1), (0, .ref bs), (1, .ref (q 0)), (2, .ref (qm 0)), (3, .ref oa), (4, .ref ob), (5, .int (nI i))]) G dL_law_724 (by decide) rfl ?_
      refine j_aload_n G dL_law_726 rfl 4 rfl ?_
      refine jV_i G 7 0 (fw_i (cM_thrown l D cA qm un ui ul ua 1  ) [] (((cF cA q un ui ul ua vc ex wo tp tf kf ++ va_pl L f) ++ [(oa, .inl (cA 4, 1, .inr (.inl g)))]) ++ [(ob, .inl (cA 5, 1, .inr (.inr (.inr (.inl gd)))))]) rfl) gL_122 hd_X7_thrown ⟨Nat.le_of_ble_eq_true rfl, Nat.le_of_ble_eq_true rfl⟩ ⟨by show _ ≤ 603072; omega, by show _ ≤ 7211114; omega⟩ rfl rfl (Nat.le_of_ble_eq_true rfl) rfl rfl dL_law_727 (fun r w9 hq9 => ?_)
      obtain ⟨b1, hq8, hw9⟩ := hq9
      obtain ⟨hr9, hb9⟩ := hq8
      subst hw9
      subst hb9
      subst hr9
      refine j_w (w' := mW cA qm un ui ul ua 1 ++ (((cF cA q un ui ul ua vc ex wo tp tf kf ++ va_pl L f) ++ [(oa, .inl (cA 4, 1, .inr (.inl g)))]) ++ [(ob, .inl (cA 5, 1, .inr (.inr (.inr (.inl gd)))))])) rfl ?_
      refine j_iload G dL_law_730 1 rfl ?_
      refine j_icmp_eq (tgt := 737) G dL_law_732 (by decide) (fun c732 => ?_) (fun c732 => absurd rfl c732)
      refine j_iload G dL_law_737 1 rfl ?_
      refine j_if_ne (tgt := 754) G dL_law_739 (by decide) (fun _ => ?_) (fun c739 => absurd c739 (by decide))
      refine j_goto (tgt := 2045) G dL_law_754 (by decide) ?_
      refine j_sub (lv' := [(0, .ref bs), (1, .ref (q 0)), (2, .ref (qm 0)), (3, .ref oa), (4, .ref ob), (5, .int (nI i))]) [2, 3, 4, 5, 6, 7] rfl ?_
      refine j_cs (k' := k + 8) (n' := n + 256) (by omega) (by omega) ?_
      refine j_w (w' := mW cA qm un ui ul ua 1 ++ (((cF cA q un ui ul ua vc ex wo tp tf kf ++ va_pl L f) ++ [(oa, .inl (cA 4, 1, .inr (.inl g)))]) ++ [(ob, .inl (cA 5, 1, .inr (.inr (.inr (.inl gd)))))])) rfl ?_
      exact hN un ui ul ua vc ex wo tp tf kf L f ta ga ka 1 g gd hI hPL
