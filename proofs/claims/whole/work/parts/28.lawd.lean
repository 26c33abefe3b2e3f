/-! THE LAW, the two cases with a double (printed by gen_lawd.py) -/
section LJD
variable {p : Program} {l : Launch} {e : Env} {R : Room} {s : State} {m : MethodId} {args : Array Value} {below : List Frame} {meth : Method} {c : Code} {D : va_G} {A : Nat → Prop} {nL : Nat}
variable {w : va_W} {k n : Nat} {Q : State → Prop} {pc : Nat} {lv : List (Nat × Value)} {st : List Value}
theorem j_rwd {x y : UInt64} (h : x = y) (K : J p l e R s m args below meth c nL D A w k n Q pc lv (.double y :: st)) : J p l e R s m args below meth c nL D A w k n Q pc lv (.double x :: st) := h ▸ K
end LJD
/-- where the row of doubles lies -/
theorem wq_d {a b : va_W} {x : Nat × va_E} : (a ++ (b ++ [x]))[a.length + b.length]? = some x := by
  rw [List.getElem?_append_right (Nat.le_add_right _ _), Nat.add_sub_cancel_left, List.getElem?_append_right (Nat.le_refl _), Nat.sub_self]
  rfl
set_option maxHeartbeats 4000000 in
set_option maxRecDepth 100000 in
theorem lw_lossShare {p : Program} {l : Launch} {e : Env} {s : State} {m : MethodId} {args : Array Value} {below : List Frame} {meth : Method} {c : Code} {D : va_G} {cA : Nat → ClassId} {A : Nat → Prop} {Q : State → Prop} {k n : Nat} (G : GX p s m args c cL_law 9 RL D cA A) (hfl : l.stackTraces = false) {bs Ls : Nat} {xs : Nat → Int32} (hX : va_X bs Ls xs s s.heap) (hbl : bs < s.heap.size) (hbA : ¬ A bs) (hLs : Ls ≤ 3072) {i : Nat} (hi : i + 5 < Ls) (hk : k + 8 ≤ 603072) (hn9 : n + 256 ≤ 7211114) (q qm : Nat → Nat) (un : Nat → Nat) (ui : Nat → Int32) (ul : Nat → Int64) (ua : Nat → Nat → Int32) (vc ex wo tp : Nat → Int32) (tf kf : Nat → Option Nat) (L : List Nat) (f : Nat → va_E) (ta ga ka : Nat → Nat) (co : Int32) (oa ob : Nat) (g : Nat → Int64) (gd : Nat → UInt64) (hI : INV un ui ua) (hPL : PL cA un ua L f tf kf ta ga ka) (hN : ∀ (un : Nat → Nat) (ui : Nat → Int32) (ul : Nat → Int64) (ua : Nat → Nat → Int32) (vc ex wo tp : Nat → Int32) (tf kf : Nat → Option Nat) (L : List Nat) (f : Nat → va_E) (ta ga ka : Nat → Nat) (co : Int32) (g : Nat → Int64) (gd : Nat → UInt64), INV un ui ua → PL cA un ua L f tf kf ta ga ka → J p l e (RM 2048 94400 603072 7211114) s m args below meth c 9 D A (mW cA qm un ui ul ua co ++ (((cF cA q un ui ul ua vc ex wo tp tf kf ++ va_pl L f) ++ [(oa, .inl (cA 4, 1, .inr (.inl g)))]) ++ [(ob, .inl (cA 5, 1, .inr (.inr (.inr (.inl gd)))))])) (k + 8) (n + 256) Q 2045 [(0, .ref bs), (1, .ref (q 0)), (2, .ref (qm 0)), (3, .ref oa), (4, .ref ob), (5, .int (nI i))] []) : J p l e (RM 2048 94400 603072 7211114) s m args below meth c 9 D A (mW cA qm un ui ul ua co ++ (((cF cA q un ui ul ua vc ex wo tp tf kf ++ va_pl L f) ++ [(oa, .inl (cA 4, 1, .inr (.inl g)))]) ++ [(ob, .inl (cA 5, 1, .inr (.inr (.inr (.inl gd)))))])) k n Q 1914 [(0, .ref bs), (1, .ref (q 0)), (2, .ref (qm 0)), (3, .ref oa), (4, .ref ob), (5, .int (nI i))] [] := by
  refine j_aload_n G dL_law_1914 rfl 1 rfl ?_
  refine j_aload G dL_law_1915 4 rfl ?_
  refine jSW_i G (fw_W (cW_lossShare l D cA (b0 := (cF cA q un ui ul ua vc ex wo tp tf kf ++ va_pl L f) ++ [(oa, .inl (cA 4, 1, .inr (.inl g)))]) rfl gd (fw_Xf (cC_X6_lossShare l D cA hfl q un ui ul ua vc ex wo tp tf kf L f) [] ([(oa, .inl (cA 4, 1, .inr (.inl g)))]) rfl) (fun E8 b8 ⟨b7, h8, _⟩ => congrArg Prod.fst h8.2) (fun v b8 ⟨b7, ⟨h0, hv, _⟩, _⟩ => by rw [hv]; exact nn64 (fq_d h0))) (mW cA qm un ui ul ua co) [] (List.append_nil _).symm) (gw_lossShare wd_862) hd_L_lossShare.2 ⟨Nat.le_of_ble_eq_true rfl, Nat.le_of_ble_eq_true rfl⟩ ⟨by show _ ≤ 603072; omega, by show _ ≤ 7211114; omega⟩ rfl rfl (Nat.le_of_ble_eq_true rfl) dL_law_1917 (fun r w9 hq9 => ?_)
  obtain ⟨b1, hq8, hw9⟩ := hq9
  rcases hq8 with ⟨v9, b2, ⟨b3, ⟨hok, hv9, hb3⟩, hb2⟩, hr9, hb9⟩ | ⟨E9, b2, ⟨b3, ⟨hc, he⟩, hb2⟩, ⟨_, hr9⟩, hb9⟩
  · subst hw9
    subst hb9
    subst hb2
    subst hb3
    subst hv9
    subst hr9
    refine j_w (w' := mW cA qm un ui ul ua co ++ (((cF cA q un ui ul ua vc ex wo tp tf kf ++ va_pl L f) ++ [(oa, .inl (cA 4, 1, .inr (.inl g)))]) ++ [(ob, .inl (cA 5, 1, .inr (.inr (.inr (.inl (vf_upd gd 0 (FP.f2d (FP.fdiv (FP.l2f (ul 3)) (FP.l2f (ul 0))))))))))])) (List.append_nil _) ?_
    refine j_istore (lv' := [(6, .int 0), (0, .ref bs), (1, .ref (q 0)), (2, .ref (qm 0)), (3, .ref oa), (4, .ref ob), (5, .int (nI i))]) G dL_law_1920 (by decide) rfl ?_
    refine j_aload_n G dL_law_1922 rfl 3 rfl ?_
    refine jV_f G 7 0 (fw_f (cM_lossShare l D cA qm un ui ul ua co) [] (((cF cA q un ui ul ua vc ex wo tp tf kf ++ va_pl L f) ++ [(oa, .inl (cA 4, 1, .inr (.inl g)))]) ++ [(ob, .inl (cA 5, 1, .inr (.inr (.inr (.inl (vf_upd gd 0 (FP.f2d (FP.fdiv (FP.l2f (ul 3)) (FP.l2f (ul 0))))))))))]) rfl) gL_260 hd_X7_lossShare ⟨Nat.le_of_ble_eq_true rfl, Nat.le_of_ble_eq_true rfl⟩ ⟨by show _ ≤ 603072; omega, by show _ ≤ 7211114; omega⟩ rfl rfl (Nat.le_of_ble_eq_true rfl) rfl rfl dL_law_1923 (fun r w9 hq9 => ?_)
    obtain ⟨b1, hq8, hw9⟩ := hq9
    rcases hq8 with ⟨hc9, hr9, hb9⟩ | ⟨hc9, hb9⟩
    · subst hw9
      subst hb9
      subst hr9
      refine j_w (w' := mW cA qm un ui ul ua 0 ++ (((cF cA q un ui ul ua vc ex wo tp tf kf ++ va_pl L f) ++ [(oa, .inl (cA 4, 1, .inr (.inl g)))]) ++ [(ob, .inl (cA 5, 1, .inr (.inr (.inr (.inl (vf_upd gd 0 (FP.f2d (FP.fdiv (FP.l2f (ul 3)) (FP.l2f (ul 0))))))))))])) rfl ?_
      refine j_fstore (lv' := [(7, .float (FP.fdiv (FP.l2f (ul 3)) (FP.l2f (ul 0)))), (6, .int 0), (0, .ref bs), (1, .ref (q 0)), (2, .ref (qm 0)), (3, .ref oa), (4, .ref ob), (5, .int (nI i))]) G dL_law_1926 (by decide) rfl ?_
      refine j_aload_n G dL_law_1928 rfl 4 rfl ?_
      refine jV_i G 7 0 (fw_i (cM_thrown l D cA qm un ui ul ua 0) [] (((cF cA q un ui ul ua vc ex wo tp tf kf ++ va_pl L f) ++ [(oa, .inl (cA 4, 1, .inr (.inl g)))]) ++ [(ob, .inl (cA 5, 1, .inr (.inr (.inr (.inl (vf_upd gd 0 (FP.f2d (FP.fdiv (FP.l2f (ul 3)) (FP.l2f (ul 0))))))))))]) rfl) gL_122 hd_X7_thrown ⟨Nat.le_of_ble_eq_true rfl, Nat.le_of_ble_eq_true rfl⟩ ⟨by show _ ≤ 603072; omega, by show _ ≤ 7211114; omega⟩ rfl rfl (Nat.le_of_ble_eq_true rfl) rfl rfl dL_law_1929 (fun r9 w9 hq9 => ?_)
      obtain ⟨b1, hq8, hw9⟩ := hq9
      obtain ⟨hr9, hb9⟩ := hq8
      subst hw9
      subst hb9
      subst hr9
      refine j_w (w' := mW cA qm un ui ul ua 0 ++ (((cF cA q un ui ul ua vc ex wo tp tf kf ++ va_pl L f) ++ [(oa, .inl (cA 4, 1, .inr (.inl g)))]) ++ [(ob, .inl (cA 5, 1, .inr (.inr (.inr (.inl (vf_upd gd 0 (FP.f2d (FP.fdiv (FP.l2f (ul 3)) (FP.l2f (ul 0))))))))))])) rfl ?_
      refine j_iload G dL_law_1932 1 rfl ?_
      refine j_icmp_eq (tgt := 1939) G dL_law_1934 (by decide) (fun _ => ?_) (fun h => absurd rfl h)
      refine j_iload G dL_law_1939 1 rfl ?_
      refine j_if_ne (tgt := 1977) G dL_law_1941 (by decide) (fun h => absurd rfl h) (fun _ => ?_)
      refine j_aload G dL_law_1944 6 rfl ?_
      refine j_iconst (v := 0) G dL_law_1946 (by decide) ?_
      refine j_dald G _ wq_d (show vp_in (nI 0) 1 from vp_in_nI (by decide) (by decide)) dL_law_1947 ?_
      refine j_rwd (show _ = FP.f2d (FP.fdiv (FP.l2f (ul 3)) (FP.l2f (ul 0))) from rfl) ?_
      refine j_fload G dL_law_1948 0 rfl ?_
      refine j_f2d G dL_law_1950 (nn64 (fq_d hok)) ?_
      refine j_dcmp G dL_law_1951 ?_
      refine j_rwi (dc_self (fq_d hok) _) ?_
      refine j_if_eq (tgt := 1977) G dL_law_1952 (by decide) (fun _ => ?_) (fun h => absurd rfl h)
      refine j_goto (tgt := 2045) G dL_law_1977 (by decide) ?_
      refine j_sub (lv' := [(0, .ref bs), (1, .ref (q 0)), (2, .ref (qm 0)), (3, .ref oa), (4, .ref ob), (5, .int (nI i))]) [2, 3, 4, 5, 6, 7] rfl ?_
      refine j_cs (k' := k + 8) (n' := n + 256) (by omega) (by omega) ?_
      exact hN un ui ul ua vc ex wo tp tf kf L f ta ga ka 0 g (vf_upd gd 0 (FP.f2d (FP.fdiv (FP.l2f (ul 3)) (FP.l2f (ul 0))))) hI hPL
    · exact absurd hc9 hok
  · have hb3 : b3 = cF cA q un ui ul ua vc ex wo tp tf kf ++ va_pl L f := congrArg Prod.snd he
    clear he
    subst hw9
    subst hb9
    subst hb2
    subst hb3
    subst hr9
    refine j_w (w' := mW cA qm un ui ul ua co ++ (((cF cA q un ui ul ua vc ex wo tp tf kf ++ va_pl L f) ++ [(oa, .inl (cA 4, 1, .inr (.inl g)))]) ++ [(ob, .inl (cA 5, 1, .inr (.inr (.inr (.inl gd)))))])) (List.append_nil _) ?_
    refine j_istore (lv' := [(6, .int 1), (0, .ref bs), (1, .ref (q 0)), (2, .ref (qm 0)), (3, .ref oa), (4, .ref ob), (5, .int (nI i))]) G dL_law_1920 (by decide) rfl ?_
    refine j_aload_n G dL_law_1922 rfl 3 rfl ?_
    refine jV_f G 7 0 (fw_f (cM_lossShare l D cA qm un ui ul ua co) [] (((cF cA q un ui ul ua vc ex wo tp tf kf ++ va_pl L f) ++ [(oa, .inl (cA 4, 1, .inr (.inl g)))]) ++ [(ob, .inl (cA 5, 1, .inr (.inr (.inr (.inl gd)))))]) rfl) gL_260 hd_X7_lossShare ⟨Nat.le_of_ble_eq_true rfl, Nat.le_of_ble_eq_true rfl⟩ ⟨by show _ ≤ 603072; omega, by show _ ≤ 7211114; omega⟩ rfl rfl (Nat.le_of_ble_eq_true rfl) rfl rfl dL_law_1923 (fun r w9 hq9 => ?_)
    obtain ⟨b1, hq8, hw9⟩ := hq9
    rcases hq8 with ⟨hc9, hr9, hb9⟩ | ⟨hc9, hb9⟩
    · exact absurd hc hc9
    · subst hw9
      subst hb9
      refine j_w (w' := mW cA qm un ui ul ua 1 ++ (((cF cA q un ui ul ua vc ex wo tp tf kf ++ va_pl L f) ++ [(oa, .inl (cA 4, 1, .inr (.inl g)))]) ++ [(ob, .inl (cA 5, 1, .inr (.inr (.inr (.inl gd)))))])) rfl ?_
      refine j_fstore (lv' := [(7, .float r), (6, .int 1), (0, .ref bs), (1, .ref (q 0)), (2, .ref (qm 0)), (3, .ref oa), (4, .ref ob), (5, .int (nI i))]) G dL_law_1926 (by decide) rfl ?_
      refine j_aload_n G dL_law_1928 rfl 4 rfl ?_
      refine jV_i G 7 0 (fw_i (cM_thrown l D cA qm un ui ul ua 1) [] (((cF cA q un ui ul ua vc ex wo tp tf kf ++ va_pl L f) ++ [(oa, .inl (cA 4, 1, .inr (.inl g)))]) ++ [(ob, .inl (cA 5, 1, .inr (.inr (.inr (.inl gd)))))]) rfl) gL_122 hd_X7_thrown ⟨Nat.le_of_ble_eq_true rfl, Nat.le_of_ble_eq_true rfl⟩ ⟨by show _ ≤ 603072; omega, by show _ ≤ 7211114; omega⟩ rfl rfl (Nat.le_of_ble_eq_true rfl) rfl rfl dL_law_1929 (fun r9 w9 hq9 => ?_)
      obtain ⟨b1, hq8, hw9⟩ := hq9
      obtain ⟨hr9, hb9⟩ := hq8
      subst hw9
      subst hb9
      subst hr9
      refine j_w (w' := mW cA qm un ui ul ua 1 ++ (((cF cA q un ui ul ua vc ex wo tp tf kf ++ va_pl L f) ++ [(oa, .inl (cA 4, 1, .inr (.inl g)))]) ++ [(ob, .inl (cA 5, 1, .inr (.inr (.inr (.inl gd)))))])) rfl ?_
      refine j_iload G dL_law_1932 1 rfl ?_
      refine j_icmp_eq (tgt := 1939) G dL_law_1934 (by decide) (fun _ => ?_) (fun h => absurd rfl h)
      refine j_iload G dL_law_1939 1 rfl ?_
      refine j_if_ne (tgt := 1977) G dL_law_1941 (by decide) (fun _ => ?_) (fun h => absurd h (by decide))
      refine j_goto (tgt := 2045) G dL_law_1977 (by decide) ?_
      refine j_sub (lv' := [(0, .ref bs), (1, .ref (q 0)), (2, .ref (qm 0)), (3, .ref oa), (4, .ref ob), (5, .int (nI i))]) [2, 3, 4, 5, 6, 7] rfl ?_
      refine j_cs (k' := k + 8) (n' := n + 256) (by omega) (by omega) ?_
      exact hN un ui ul ua vc ex wo tp tf kf L f ta ga ka 1 g gd hI hPL
set_option maxHeartbeats 4000000 in
set_option maxRecDepth 100000 in
theorem lw_meanSweetness {p : Program} {l : Launch} {e : Env} {s : State} {m : MethodId} {args : Array Value} {below : List Frame} {meth : Method} {c : Code} {D : va_G} {cA : Nat → ClassId} {A : Nat → Prop} {Q : State → Prop} {k n : Nat} (G : GX p s m args c cL_law 9 RL D cA A) (hfl : l.stackTraces = false) {bs Ls : Nat} {xs : Nat → Int32} (hX : va_X bs Ls xs s s.heap) (hbl : bs < s.heap.size) (hbA : ¬ A bs) (hLs : Ls ≤ 3072) {i : Nat} (hi : i + 5 < Ls) (hk : k + 8 ≤ 603072) (hn9 : n + 256 ≤ 7211114) (q qm : Nat → Nat) (un : Nat → Nat) (ui : Nat → Int32) (ul : Nat → Int64) (ua : Nat → Nat → Int32) (vc ex wo tp : Nat → Int32) (tf kf : Nat → Option Nat) (L : List Nat) (f : Nat → va_E) (ta ga ka : Nat → Nat) (co : Int32) (oa ob : Nat) (g : Nat → Int64) (gd : Nat → UInt64) (hI : INV un ui ua) (hPL : PL cA un ua L f tf kf ta ga ka) (hN : ∀ (un : Nat → Nat) (ui : Nat → Int32) (ul : Nat → Int64) (ua : Nat → Nat → Int32) (vc ex wo tp : Nat → Int32) (tf kf : Nat → Option Nat) (L : List Nat) (f : Nat → va_E) (ta ga ka : Nat → Nat) (co : Int32) (g : Nat → Int64) (gd : Nat → UInt64), INV un ui ua → PL cA un ua L f tf kf ta ga ka → J p l e (RM 2048 94400 603072 7211114) s m args below meth c 9 D A (mW cA qm un ui ul ua co ++ (((cF cA q un ui ul ua vc ex wo tp tf kf ++ va_pl L f) ++ [(oa, .inl (cA 4, 1, .inr (.inl g)))]) ++ [(ob, .inl (cA 5, 1, .inr (.inr (.inr (.inl gd)))))])) (k + 8) (n + 256) Q 2045 [(0, .ref bs), (1, .ref (q 0)), (2, .ref (qm 0)), (3, .ref oa), (4, .ref ob), (5, .int (nI i))] []) : J p l e (RM 2048 94400 603072 7211114) s m args below meth c 9 D A (mW cA qm un ui ul ua co ++ (((cF cA q un ui ul ua vc ex wo tp tf kf ++ va_pl L f) ++ [(oa, .inl (cA 4, 1, .inr (.inl g)))]) ++ [(ob, .inl (cA 5, 1, .inr (.inr (.inr (.inl gd)))))])) k n Q 1980 [(0, .ref bs), (1, .ref (q 0)), (2, .ref (qm 0)), (3, .ref oa), (4, .ref ob), (5, .int (nI i))] [] := by
  refine j_aload_n G dL_law_1980 rfl 1 rfl ?_
  refine j_aload G dL_law_1981 4 rfl ?_
  refine jSW_i G (fw_W (cW_meanSweetness l D cA (b0 := (cF cA q un ui ul ua vc ex wo tp tf kf ++ va_pl L f) ++ [(oa, .inl (cA 4, 1, .inr (.inl g)))]) rfl gd (fw_Xd (cC_X6_meanSweetness l D cA hfl q un ui ul ua vc ex wo tp tf kf L f) [] ([(oa, .inl (cA 4, 1, .inr (.inl g)))]) rfl) (fun E8 b8 ⟨b7, h8, _⟩ => congrArg Prod.fst h8.2)) (mW cA qm un ui ul ua co) [] (List.append_nil _).symm) (gw_meanSweetness wd_890) hd_L_meanSweetness.2 ⟨Nat.le_of_ble_eq_true rfl, Nat.le_of_ble_eq_true rfl⟩ ⟨by show _ ≤ 603072; omega, by show _ ≤ 7211114; omega⟩ rfl rfl (Nat.le_of_ble_eq_true rfl) dL_law_1983 (fun r w9 hq9 => ?_)
  obtain ⟨b1, hq8, hw9⟩ := hq9
  rcases hq8 with ⟨v9, b2, ⟨b3, ⟨hok, hv9, hb3⟩, hb2⟩, hr9, hb9⟩ | ⟨E9, b2, ⟨b3, ⟨hc, he⟩, hb2⟩, ⟨_, hr9⟩, hb9⟩
  · subst hw9
    subst hb9
    subst hb2
    subst hb3
    subst hv9
    subst hr9
    refine j_w (w' := mW cA qm un ui ul ua co ++ (((cF cA q un ui ul ua vc ex wo tp tf kf ++ va_pl L f) ++ [(oa, .inl (cA 4, 1, .inr (.inl g)))]) ++ [(ob, .inl (cA 5, 1, .inr (.inr (.inr (.inl (vf_upd gd 0 (FP.ddiv (FP.l2d (ul 1)) (FP.l2d (ul 0)))))))))])) (List.append_nil _) ?_
    refine j_istore (lv' := [(6, .int 0), (0, .ref bs), (1, .ref (q 0)), (2, .ref (qm 0)), (3, .ref oa), (4, .ref ob), (5, .int (nI i))]) G dL_law_1986 (by decide) rfl ?_
    refine j_aload_n G dL_law_1988 rfl 3 rfl ?_
    refine jV_d G 7 0 (fw_d (cM_meanSweetness l D cA qm un ui ul ua co) [] (((cF cA q un ui ul ua vc ex wo tp tf kf ++ va_pl L f) ++ [(oa, .inl (cA 4, 1, .inr (.inl g)))]) ++ [(ob, .inl (cA 5, 1, .inr (.inr (.inr (.inl (vf_upd gd 0 (FP.ddiv (FP.l2d (ul 1)) (FP.l2d (ul 0)))))))))]) rfl) gL_263 hd_X7_meanSweetness ⟨Nat.le_of_ble_eq_true rfl, Nat.le_of_ble_eq_true rfl⟩ ⟨by show _ ≤ 603072; omega, by show _ ≤ 7211114; omega⟩ rfl rfl (Nat.le_of_ble_eq_true rfl) rfl rfl dL_law_1989 (fun r w9 hq9 => ?_)
    obtain ⟨b1, hq8, hw9⟩ := hq9
    rcases hq8 with ⟨hc9, hr9, hb9⟩ | ⟨hc9, hb9⟩
    · subst hw9
      subst hb9
      subst hr9
      refine j_w (w' := mW cA qm un ui ul ua 0 ++ (((cF cA q un ui ul ua vc ex wo tp tf kf ++ va_pl L f) ++ [(oa, .inl (cA 4, 1, .inr (.inl g)))]) ++ [(ob, .inl (cA 5, 1, .inr (.inr (.inr (.inl (vf_upd gd 0 (FP.ddiv (FP.l2d (ul 1)) (FP.l2d (ul 0)))))))))])) rfl ?_
      refine j_dstore (lv' := [(7, .double (FP.ddiv (FP.l2d (ul 1)) (FP.l2d (ul 0)))), (6, .int 0), (0, .ref bs), (1, .ref (q 0)), (2, .ref (qm 0)), (3, .ref oa), (4, .ref ob), (5, .int (nI i))]) G dL_law_1992 (by decide) rfl ?_
      refine j_aload_n G dL_law_1994 rfl 4 rfl ?_
      refine jV_i G 7 0 (fw_i (cM_thrown l D cA qm un ui ul ua 0) [] (((cF cA q un ui ul ua vc ex wo tp tf kf ++ va_pl L f) ++ [(oa, .inl (cA 4, 1, .inr (.inl g)))]) ++ [(ob, .inl (cA 5, 1, .inr (.inr (.inr (.inl (vf_upd gd 0 (FP.ddiv (FP.l2d (ul 1)) (FP.l2d (ul 0)))))))))]) rfl) gL_122 hd_X7_thrown ⟨Nat.le_of_ble_eq_true rfl, Nat.le_of_ble_eq_true rfl⟩ ⟨by show _ ≤ 603072; omega, by show _ ≤ 7211114; omega⟩ rfl rfl (Nat.le_of_ble_eq_true rfl) rfl rfl dL_law_1995 (fun r9 w9 hq9 => ?_)
      obtain ⟨b1, hq8, hw9⟩ := hq9
      obtain ⟨hr9, hb9⟩ := hq8
      subst hw9
      subst hb9
      subst hr9
      refine j_w (w' := mW cA qm un ui ul ua 0 ++ (((cF cA q un ui ul ua vc ex wo tp tf kf ++ va_pl L f) ++ [(oa, .inl (cA 4, 1, .inr (.inl g)))]) ++ [(ob, .inl (cA 5, 1, .inr (.inr (.inr (.inl (vf_upd gd 0 (FP.ddiv (FP.l2d (ul 1)) (FP.l2d (ul 0)))))))))])) rfl ?_
      refine j_iload G dL_law_1998 1 rfl ?_
      refine j_icmp_eq (tgt := 2005) G dL_law_2000 (by decide) (fun _ => ?_) (fun h => absurd rfl h)
      refine j_iload G dL_law_2005 1 rfl ?_
      refine j_if_ne (tgt := 2042) G dL_law_2007 (by decide) (fun h => absurd rfl h) (fun _ => ?_)
      refine j_aload G dL_law_2010 6 rfl ?_
      refine j_iconst (v := 0) G dL_law_2012 (by decide) ?_
      refine j_dald G _ wq_d (show vp_in (nI 0) 1 from vp_in_nI (by decide) (by decide)) dL_law_2013 ?_
      refine j_rwd (show _ = FP.ddiv (FP.l2d (ul 1)) (FP.l2d (ul 0)) from rfl) ?_
      refine j_dload G dL_law_2014 0 rfl ?_
      refine j_dcmp G dL_law_2016 ?_
      refine j_rwi (dc_self (dq_n hok) _) ?_
      refine j_if_eq (tgt := 2042) G dL_law_2017 (by decide) (fun _ => ?_) (fun h => absurd rfl h)
      refine j_goto (tgt := 2045) G dL_law_2042 (by decide) ?_
      refine j_sub (lv' := [(0, .ref bs), (1, .ref (q 0)), (2, .ref (qm 0)), (3, .ref oa), (4, .ref ob), (5, .int (nI i))]) [2, 3, 4, 5, 6, 7] rfl ?_
      refine j_cs (k' := k + 8) (n' := n + 256) (by omega) (by omega) ?_
      exact hN un ui ul ua vc ex wo tp tf kf L f ta ga ka 0 g (vf_upd gd 0 (FP.ddiv (FP.l2d (ul 1)) (FP.l2d (ul 0)))) hI hPL
    · exact absurd hc9 hok
  · have hb3 : b3 = cF cA q un ui ul ua vc ex wo tp tf kf ++ va_pl L f := congrArg Prod.snd he
    clear he
    subst hw9
    subst hb9
    subst hb2
    subst hb3
    subst hr9
    refine j_w (w' := mW cA qm un ui ul ua co ++ (((cF cA q un ui ul ua vc ex wo tp tf kf ++ va_pl L f) ++ [(oa, .inl (cA 4, 1, .inr (.inl g)))]) ++ [(ob, .inl (cA 5, 1, .inr (.inr (.inr (.inl gd)))))])) (List.append_nil _) ?_
    refine j_istore (lv' := [(6, .int 1), (0, .ref bs), (1, .ref (q 0)), (2, .ref (qm 0)), (3, .ref oa), (4, .ref ob), (5, .int (nI i))]) G dL_law_1986 (by decide) rfl ?_
    refine j_aload_n G dL_law_1988 rfl 3 rfl ?_
    refine jV_d G 7 0 (fw_d (cM_meanSweetness l D cA qm un ui ul ua co) [] (((cF cA q un ui ul ua vc ex wo tp tf kf ++ va_pl L f) ++ [(oa, .inl (cA 4, 1, .inr (.inl g)))]) ++ [(ob, .inl (cA 5, 1, .inr (.inr (.inr (.inl gd)))))]) rfl) gL_263 hd_X7_meanSweetness ⟨Nat.le_of_ble_eq_true rfl, Nat.le_of_ble_eq_true rfl⟩ ⟨by show _ ≤ 603072; omega, by show _ ≤ 7211114; omega⟩ rfl rfl (Nat.le_of_ble_eq_true rfl) rfl rfl dL_law_1989 (fun r w9 hq9 => ?_)
    obtain ⟨b1, hq8, hw9⟩ := hq9
    rcases hq8 with ⟨hc9, hr9, hb9⟩ | ⟨hc9, hb9⟩
    · exact absurd hc hc9
    · subst hw9
      subst hb9
      refine j_w (w' := mW cA qm un ui ul ua 1 ++ (((cF cA q un ui ul ua vc ex wo tp tf kf ++ va_pl L f) ++ [(oa, .inl (cA 4, 1, .inr (.inl g)))]) ++ [(ob, .inl (cA 5, 1, .inr (.inr (.inr (.inl gd)))))])) rfl ?_
      refine j_dstore (lv' := [(7, .double r), (6, .int 1), (0, .ref bs), (1, .ref (q 0)), (2, .ref (qm 0)), (3, .ref oa), (4, .ref ob), (5, .int (nI i))]) G dL_law_1992 (by decide) rfl ?_
      refine j_aload_n G dL_law_1994 rfl 4 rfl ?_
      refine jV_i G 7 0 (fw_i (cM_thrown l D cA qm un ui ul ua 1) [] (((cF cA q un ui ul ua vc ex wo tp tf kf ++ va_pl L f) ++ [(oa, .inl (cA 4, 1, .inr (.inl g)))]) ++ [(ob, .inl (cA 5, 1, .inr (.inr (.inr (.inl gd)))))]) rfl) gL_122 hd_X7_thrown ⟨Nat.le_of_ble_eq_true rfl, Nat.le_of_ble_eq_true rfl⟩ ⟨by show _ ≤ 603072; omega, by show _ ≤ 7211114; omega⟩ rfl rfl (Nat.le_of_ble_eq_true rfl) rfl rfl dL_law_1995 (fun r9 w9 hq9 => ?_)
      obtain ⟨b1, hq8, hw9⟩ := hq9
      obtain ⟨hr9, hb9⟩ := hq8
      subst hw9
      subst hb9
      subst hr9
      refine j_w (w' := mW cA qm un ui ul ua 1 ++ (((cF cA q un ui ul ua vc ex wo tp tf kf ++ va_pl L f) ++ [(oa, .inl (cA 4, 1, .inr (.inl g)))]) ++ [(ob, .inl (cA 5, 1, .inr (.inr (.inr (.inl gd)))))])) rfl ?_
      refine j_iload G dL_law_1998 1 rfl ?_
      refine j_icmp_eq (tgt := 2005) G dL_law_2000 (by decide) (fun _ => ?_) (fun h => absurd rfl h)
      refine j_iload G dL_law_2005 1 rfl ?_
      refine j_if_ne (tgt := 2042) G dL_law_2007 (by decide) (fun _ => ?_) (fun h => absurd h (by decide))
      refine j_goto (tgt := 2045) G dL_law_2042 (by decide) ?_
      refine j_sub (lv' := [(0, .ref bs), (1, .ref (q 0)), (2, .ref (qm 0)), (3, .ref oa), (4, .ref ob), (5, .int (nI i))]) [2, 3, 4, 5, 6, 7] rfl ?_
      refine j_cs (k' := k + 8) (n' := n + 256) (by omega) (by omega) ?_
      exact hN un ui ul ua vc ex wo tp tf kf L f ta ga ka 1 g gd hI hPL
