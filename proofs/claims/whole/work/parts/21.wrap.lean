/-! THE LAW'S METHODS WITH HANDLERS, each over any contract of the class's method (printed by gen_wrap.py) -/
set_option maxHeartbeats 4000000 in
set_option maxRecDepth 100000 in
theorem cW_addJunction (l : Launch) (D : va_G) (cA : Nat → ClassId) {b0 : va_W} {q0 o : Nat} {fs : List Value} (hb : b0[0]? = some (q0, .inr (6, fs))) (a1 a2 : Int32) (g : Nat → Int64) {f lo mc ms : Nat} {post : Int32 → va_W → Prop} {px : String × va_W → Prop} (hM : Xi l yX6_addJunction cX6_addJunction 3 .int f lo mc ms D cA [.ref q0, .int a1, .int a2] b0 post px) (hpx : ∀ E b', px (E, b') → E = "java/lang/IndexOutOfBoundsException" ∨ E = "java/lang/IllegalArgumentException" ∨ E = "java/lang/UnsupportedOperationException" ∨ E = "java/lang/IllegalStateException") : KW l yL_addJunction cL_addJunction 5 [(0, 10, 13, 13), (0, 10, 17, 15), (0, 10, 21, 17), (0, 10, 25, 19)] (f + 1) (8 + (3 + 11) + lo) mc ms D cA [.ref q0, .int a1, .int a2, .ref o] (b0 ++ [(o, .inl (cA 4, 1, .inr (.inl g)))]) (fun r w' => (∃ v b', post v b' ∧ r = 0 ∧ w' = b' ++ [(o, .inl (cA 4, 1, .inr (.inl (vp_updL g 0 v.toInt64))))]) ∨ (∃ E b', px (E, b') ∧ ((E = "java/lang/IndexOutOfBoundsException" ∧ r = 1) ∨ (E = "java/lang/IllegalArgumentException" ∧ r = 2) ∨ (E = "java/lang/UnsupportedOperationException" ∧ r = 3) ∨ (E = "java/lang/IllegalStateException" ∧ r = 4)) ∧ w' = b' ++ [(o, .inl (cA 4, 1, .inr (.inl g)))])) := by
  refine ent_W (own := RL) (lv0 := [(0, .ref q0), (1, .int a1), (2, .int a2), (3, .ref o)]) (by decide) rfl (Nat.le_of_ble_eq_true rfl) rfl ?_
  intro p e s m args below meth c A Q G htab ret
  refine j_aload_n G dL_addJunction_0 rfl 3 rfl ?_
  refine j_iconst (v := 0) G dL_addJunction_1 (by decide) ?_
  refine j_aload_n G dL_addJunction_2 rfl 0 rfl ?_
  refine j_iload_n G dL_addJunction_3 rfl 1 rfl ?_
  refine j_iload_n G dL_addJunction_4 rfl 2 rfl ?_
  refine jXV_i G 6 0 (fw_Xi hM [] [(o, .inl (cA 4, 1, .inr (.inl g)))] rfl) gL_7 hd_X6_addJunction ⟨Nat.le_refl _, Nat.le_refl _⟩ ⟨by show 0 + mc ≤ mc; omega, by show 0 + ms ≤ ms; omega⟩ rfl rfl (Nat.le_of_ble_eq_true rfl) rfl (wl_ hb) dL_addJunction_5 (fun E9 w9 hq9 => ?_) (fun r w' hq9 => ?_)
  · obtain ⟨b9, h9, hw9⟩ := hq9
    obtain rfl : w9 = b9 ++ [(o, .inl (cA 4, 1, .inr (.inl g)))] := hw9
    rcases hpx E9 b9 h9 with rfl | rfl | rfl | rfl
    · refine j_catch G (name := "java/lang/IndexOutOfBoundsException") [] ⟨0, 10, 13, 13⟩ [⟨0, 10, 17, 15⟩, ⟨0, 10, 21, 17⟩, ⟨0, 10, 25, 19⟩] (htab.trans rfl) (fun _ h8 => absurd h8 List.not_mem_nil) (by decide) (by decide) wd_299 nw_22 (fun q9 => ?_)
      refine j_astore (lv' := [(4, .ref q9), (0, .ref q0), (1, .int a1), (2, .int a2), (3, .ref o)]) G dL_addJunction_13 (by decide) rfl ?_
      refine j_iconst (v := 1) G dL_addJunction_15 (by decide) ?_
      refine j_cs (k' := mc) (n' := ms) (by omega) (by omega) ?_
      exact ret _ _ _ _ dL_addJunction_16 (Or.inr ⟨_, b9, h9, Or.inl ⟨rfl, rfl⟩, rfl⟩)
    · refine j_catch G (name := "java/lang/IllegalArgumentException") [⟨0, 10, 13, 13⟩] ⟨0, 10, 17, 15⟩ [⟨0, 10, 21, 17⟩, ⟨0, 10, 25, 19⟩] (htab.trans rfl) (List.forall_mem_cons.mpr ⟨Or.inr ⟨by decide, "java/lang/IndexOutOfBoundsException", wd_299, nc_0⟩, (fun _ h8 => absurd h8 List.not_mem_nil)⟩) (by decide) (by decide) wd_379 nw_23 (fun q9 => ?_)
      refine j_astore (lv' := [(4, .ref q9), (0, .ref q0), (1, .int a1), (2, .int a2), (3, .ref o)]) G dL_addJunction_17 (by decide) rfl ?_
      refine j_iconst (v := 2) G dL_addJunction_19 (by decide) ?_
      refine j_cs (k' := mc) (n' := ms) (by omega) (by omega) ?_
      exact ret _ _ _ _ dL_addJunction_20 (Or.inr ⟨_, b9, h9, Or.inr (Or.inl ⟨rfl, rfl⟩), rfl⟩)
    · refine j_catch G (name := "java/lang/UnsupportedOperationException") [⟨0, 10, 13, 13⟩, ⟨0, 10, 17, 15⟩] ⟨0, 10, 21, 17⟩ [⟨0, 10, 25, 19⟩] (htab.trans rfl) (List.forall_mem_cons.mpr ⟨Or.inr ⟨by decide, "java/lang/IndexOutOfBoundsException", wd_299, nc_1⟩, (List.forall_mem_cons.mpr ⟨Or.inr ⟨by decide, "java/lang/IllegalArgumentException", wd_379, nc_6⟩, (fun _ h8 => absurd h8 List.not_mem_nil)⟩)⟩) (by decide) (by decide) wd_380 nw_24 (fun q9 => ?_)
      refine j_astore (lv' := [(4, .ref q9), (0, .ref q0), (1, .int a1), (2, .int a2), (3, .ref o)]) G dL_addJunction_21 (by decide) rfl ?_
      refine j_iconst (v := 3) G dL_addJunction_23 (by decide) ?_
      refine j_cs (k' := mc) (n' := ms) (by omega) (by omega) ?_
      exact ret _ _ _ _ dL_addJunction_24 (Or.inr ⟨_, b9, h9, Or.inr (Or.inr (Or.inl ⟨rfl, rfl⟩)), rfl⟩)
    · refine j_catch G (name := "java/lang/IllegalStateException") [⟨0, 10, 13, 13⟩, ⟨0, 10, 17, 15⟩, ⟨0, 10, 21, 17⟩] ⟨0, 10, 25, 19⟩ [] (htab.trans rfl) (List.forall_mem_cons.mpr ⟨Or.inr ⟨by decide, "java/lang/IndexOutOfBoundsException", wd_299, nc_2⟩, (List.forall_mem_cons.mpr ⟨Or.inr ⟨by decide, "java/lang/IllegalArgumentException", wd_379, nc_7⟩, (List.forall_mem_cons.mpr ⟨Or.inr ⟨by decide, "java/lang/UnsupportedOperationException", wd_380, nc_12⟩, (fun _ h8 => absurd h8 List.not_mem_nil)⟩)⟩)⟩) (by decide) (by decide) wd_381 nw_25 (fun q9 => ?_)
      refine j_astore (lv' := [(4, .ref q9), (0, .ref q0), (1, .int a1), (2, .int a2), (3, .ref o)]) G dL_addJunction_25 (by decide) rfl ?_
      refine j_iconst (v := 4) G dL_addJunction_27 (by decide) ?_
      refine j_cs (k' := mc) (n' := ms) (by omega) (by omega) ?_
      exact ret _ _ _ _ dL_addJunction_28 (Or.inr ⟨_, b9, h9, Or.inr (Or.inr (Or.inr (⟨rfl, rfl⟩))), rfl⟩)
  obtain ⟨b9, h9, hw9⟩ := hq9
  obtain rfl : w' = b9 ++ [(o, .inl (cA 4, 1, .inr (.inl g)))] := hw9
  refine j_i2l G dL_addJunction_8 ?_
  refine j_last (w' := b9 ++ [(o, .inl (cA 4, 1, .inr (.inl (vp_updL g 0 r.toInt64))))]) G _ (wr_ (k := 0) (b := [(o, .inl (cA 4, 1, .inr (.inl g)))]) rfl) (show vp_in (nI 0) 1 from vp_in_nI (by decide) (by decide)) dL_addJunction_9 set_apr ?_
  refine j_goto (tgt := 29) G dL_addJunction_10 (by decide) ?_
  refine j_iconst (v := 0) G dL_addJunction_29 (by decide) ?_
  refine j_cs (k' := mc) (n' := ms) (by omega) (by omega) ?_
  exact ret _ _ _ _ dL_addJunction_30 (Or.inl ⟨r, b9, h9, rfl, rfl⟩)
theorem gw_addJunction {idx : Nat} (h : Cond.methodLink RL idx yL_addJunction ∈ WS) : GoodIn WS (va_wsS RL idx yL_addJunction (wzW yL_addJunction cL_addJunction 5 (some .int) [(0, 10, 13, 13), (0, 10, 17, 15), (0, 10, 21, 17), (0, 10, 25, 19)])) := gSW h wd_297 (show Cond.initialized yL_addJunction.cls ∈ WS from wd_39) wd_298
set_option maxHeartbeats 4000000 in
set_option maxRecDepth 100000 in
theorem cW_addTap (l : Launch) (D : va_G) (cA : Nat → ClassId) {b0 : va_W} {q0 o : Nat} {fs : List Value} (hb : b0[0]? = some (q0, .inr (6, fs))) (a1 a2 a3 a4 a5 : Int32) (g : Nat → Int64) {f lo mc ms : Nat} {post : Int32 → va_W → Prop} {px : String × va_W → Prop} (hM : Xi l yX6_addTap cX6_addTap 7 .int f lo mc ms D cA [.ref q0, .int a1, .int a2, .int a3, .int a4, .int a5] b0 post px) (hpx : ∀ E b', px (E, b') → E = "java/lang/IndexOutOfBoundsException" ∨ E = "java/lang/IllegalArgumentException" ∨ E = "java/lang/UnsupportedOperationException" ∨ E = "java/lang/IllegalStateException") : KW l yL_addTap cL_addTap 8 [(0, 16, 19, 13), (0, 16, 23, 15), (0, 16, 27, 17), (0, 16, 31, 19)] (f + 1) (8 + (7 + 11) + lo) mc ms D cA [.ref q0, .int a1, .int a2, .int a3, .int a4, .int a5, .ref o] (b0 ++ [(o, .inl (cA 4, 1, .inr (.inl g)))]) (fun r w' => (∃ v b', post v b' ∧ r = 0 ∧ w' = b' ++ [(o, .inl (cA 4, 1, .inr (.inl (vp_updL g 0 v.toInt64))))]) ∨ (∃ E b', px (E, b') ∧ ((E = "java/lang/IndexOutOfBoundsException" ∧ r = 1) ∨ (E = "java/lang/IllegalArgumentException" ∧ r = 2) ∨ (E = "java/lang/UnsupportedOperationException" ∧ r = 3) ∨ (E = "java/lang/IllegalStateException" ∧ r = 4)) ∧ w' = b' ++ [(o, .inl (cA 4, 1, .inr (.inl g)))])) := by
  refine ent_W (own := RL) (lv0 := [(0, .ref q0), (1, .int a1), (2, .int a2), (3, .int a3), (4, .int a4), (5, .int a5), (6, .ref o)]) (by decide) rfl (Nat.le_of_ble_eq_true rfl) rfl ?_
  intro p e s m args below meth c A Q G htab ret
  refine j_aload G dL_addTap_0 6 rfl ?_
  refine j_iconst (v := 0) G dL_addTap_2 (by decide) ?_
  refine j_aload_n G dL_addTap_3 rfl 0 rfl ?_
  refine j_iload_n G dL_addTap_4 rfl 1 rfl ?_
  refine j_iload_n G dL_addTap_5 rfl 2 rfl ?_
  refine j_iload_n G dL_addTap_6 rfl 3 rfl ?_
  refine j_iload G dL_addTap_7 4 rfl ?_
  refine j_iload G dL_addTap_9 5 rfl ?_
  refine jXV_i G 6 0 (fw_Xi hM [] [(o, .inl (cA 4, 1, .inr (.inl g)))] rfl) gL_21 hd_X6_addTap ⟨Nat.le_refl _, Nat.le_refl _⟩ ⟨by show 0 + mc ≤ mc; omega, by show 0 + ms ≤ ms; omega⟩ rfl rfl (Nat.le_of_ble_eq_true rfl) rfl (wl_ hb) dL_addTap_11 (fun E9 w9 hq9 => ?_) (fun r w' hq9 => ?_)
  · obtain ⟨b9, h9, hw9⟩ := hq9
    obtain rfl : w9 = b9 ++ [(o, .inl (cA 4, 1, .inr (.inl g)))] := hw9
    rcases hpx E9 b9 h9 with rfl | rfl | rfl | rfl
    · refine j_catch G (name := "java/lang/IndexOutOfBoundsException") [] ⟨0, 16, 19, 13⟩ [⟨0, 16, 23, 15⟩, ⟨0, 16, 27, 17⟩, ⟨0, 16, 31, 19⟩] (htab.trans rfl) (fun _ h8 => absurd h8 List.not_mem_nil) (by decide) (by decide) wd_299 nw_22 (fun q9 => ?_)
      refine j_astore (lv' := [(7, .ref q9), (0, .ref q0), (1, .int a1), (2, .int a2), (3, .int a3), (4, .int a4), (5, .int a5), (6, .ref o)]) G dL_addTap_19 (by decide) rfl ?_
      refine j_iconst (v := 1) G dL_addTap_21 (by decide) ?_
      refine j_cs (k' := mc) (n' := ms) (by omega) (by omega) ?_
      exact ret _ _ _ _ dL_addTap_22 (Or.inr ⟨_, b9, h9, Or.inl ⟨rfl, rfl⟩, rfl⟩)
    · refine j_catch G (name := "java/lang/IllegalArgumentException") [⟨0, 16, 19, 13⟩] ⟨0, 16, 23, 15⟩ [⟨0, 16, 27, 17⟩, ⟨0, 16, 31, 19⟩] (htab.trans rfl) (List.forall_mem_cons.mpr ⟨Or.inr ⟨by decide, "java/lang/IndexOutOfBoundsException", wd_299, nc_0⟩, (fun _ h8 => absurd h8 List.not_mem_nil)⟩) (by decide) (by decide) wd_379 nw_23 (fun q9 => ?_)
      refine j_astore (lv' := [(7, .ref q9), (0, .ref q0), (1, .int a1), (2, .int a2), (3, .int a3), (4, .int a4), (5, .int a5), (6, .ref o)]) G dL_addTap_23 (by decide) rfl ?_
      refine j_iconst (v := 2) G dL_addTap_25 (by decide) ?_
      refine j_cs (k' := mc) (n' := ms) (by omega) (by omega) ?_
      exact ret _ _ _ _ dL_addTap_26 (Or.inr ⟨_, b9, h9, Or.inr (Or.inl ⟨rfl, rfl⟩), rfl⟩)
    · refine j_catch G (name := "java/lang/UnsupportedOperationException") [⟨0, 16, 19, 13⟩, ⟨0, 16, 23, 15⟩] ⟨0, 16, 27, 17⟩ [⟨0, 16, 31, 19⟩] (htab.trans rfl) (List.forall_mem_cons.mpr ⟨Or.inr ⟨by decide, "java/lang/IndexOutOfBoundsException", wd_299, nc_1⟩, (List.forall_mem_cons.mpr ⟨Or.inr ⟨by decide, "java/lang/IllegalArgumentException", wd_379, nc_6⟩, (fun _ h8 => absurd h8 List.not_mem_nil)⟩)⟩) (by decide) (by decide) wd_380 nw_24 (fun q9 => ?_)
      refine j_astore (lv' := [(7, .ref q9), (0, .ref q0), (1, .int a1), (2, .int a2), (3, .int a3), (4, .int a4), (5, .int a5), (6, .ref o)]) G dL_addTap_27 (by decide) rfl ?_
      refine j_iconst (v := 3) G dL_addTap_29 (by decide) ?_
      refine j_cs (k' := mc) (n' := ms) (by omega) (by omega) ?_
      exact ret _ _ _ _ dL_addTap_30 (Or.inr ⟨_, b9, h9, Or.inr (Or.inr (Or.inl ⟨rfl, rfl⟩)), rfl⟩)
    · refine j_catch G (name := "java/lang/IllegalStateException") [⟨0, 16, 19, 13⟩, ⟨0, 16, 23, 15⟩, ⟨0, 16, 27, 17⟩] ⟨0, 16, 31, 19⟩ [] (htab.trans rfl) (List.forall_mem_cons.mpr ⟨Or.inr ⟨by decide, "java/lang/IndexOutOfBoundsException", wd_299, nc_2⟩, (List.forall_mem_cons.mpr ⟨Or.inr ⟨by decide, "java/lang/IllegalArgumentException", wd_379, nc_7⟩, (List.forall_mem_cons.mpr ⟨Or.inr ⟨by decide, "java/lang/UnsupportedOperationException", wd_380, nc_12⟩, (fun _ h8 => absurd h8 List.not_mem_nil)⟩)⟩)⟩) (by decide) (by decide) wd_381 nw_25 (fun q9 => ?_)
      refine j_astore (lv' := [(7, .ref q9), (0, .ref q0), (1, .int a1), (2, .int a2), (3, .int a3), (4, .int a4), (5, .int a5), (6, .ref o)]) G dL_addTap_31 (by decide) rfl ?_
      refine j_iconst (v := 4) G dL_addTap_33 (by decide) ?_
      refine j_cs (k' := mc) (n' := ms) (by omega) (by omega) ?_
      exact ret _ _ _ _ dL_addTap_34 (Or.inr ⟨_, b9, h9, Or.inr (Or.inr (Or.inr (⟨rfl, rfl⟩))), rfl⟩)
  obtain ⟨b9, h9, hw9⟩ := hq9
  obtain rfl : w' = b9 ++ [(o, .inl (cA 4, 1, .inr (.inl g)))] := hw9
  refine j_i2l G dL_addTap_14 ?_
  refine j_last (w' := b9 ++ [(o, .inl (cA 4, 1, .inr (.inl (vp_updL g 0 r.toInt64))))]) G _ (wr_ (k := 0) (b := [(o, .inl (cA 4, 1, .inr (.inl g)))]) rfl) (show vp_in (nI 0) 1 from vp_in_nI (by decide) (by decide)) dL_addTap_15 set_apr ?_
  refine j_goto (tgt := 35) G dL_addTap_16 (by decide) ?_
  refine j_iconst (v := 0) G dL_addTap_35 (by decide) ?_
  refine j_cs (k' := mc) (n' := ms) (by omega) (by omega) ?_
  exact ret _ _ _ _ dL_addTap_36 (Or.inl ⟨r, b9, h9, rfl, rfl⟩)
theorem gw_addTap {idx : Nat} (h : Cond.methodLink RL idx yL_addTap ∈ WS) : GoodIn WS (va_wsS RL idx yL_addTap (wzW yL_addTap cL_addTap 8 (some .int) [(0, 16, 19, 13), (0, 16, 23, 15), (0, 16, 27, 17), (0, 16, 31, 19)])) := gSW h wd_471 (show Cond.initialized yL_addTap.cls ∈ WS from wd_39) wd_472
set_option maxHeartbeats 4000000 in
set_option maxRecDepth 100000 in
theorem cW_setPump (l : Launch) (D : va_G) (cA : Nat → ClassId) {b0 : va_W} {q0 o : Nat} {fs : List Value} (hb : b0[0]? = some (q0, .inr (6, fs))) (a1 : Int32) (g : Nat → Int64) {f lo mc ms : Nat} {post : Int32 → va_W → Prop} {px : String × va_W → Prop} (hM : Xi l yX6_setPump cX6_setPump 2 .int f lo mc ms D cA [.ref q0, .int a1] b0 post px) (hpx : ∀ E b', px (E, b') → E = "java/lang/IllegalArgumentException") : KW l yL_setPump cL_setPump 4 [(0, 9, 12, 15)] (f + 1) (8 + (2 + 11) + lo) mc ms D cA [.ref q0, .int a1, .ref o] (b0 ++ [(o, .inl (cA 4, 1, .inr (.inl g)))]) (fun r w' => (∃ v b', post v b' ∧ r = 0 ∧ w' = b' ++ [(o, .inl (cA 4, 1, .inr (.inl (vp_updL g 0 v.toInt64))))]) ∨ (∃ E b', px (E, b') ∧ ((E = "java/lang/IllegalArgumentException" ∧ r = 1)) ∧ w' = b' ++ [(o, .inl (cA 4, 1, .inr (.inl g)))])) := by
  refine ent_W (own := RL) (lv0 := [(0, .ref q0), (1, .int a1), (2, .ref o)]) (by decide) rfl (Nat.le_of_ble_eq_true rfl) rfl ?_
  intro p e s m args below meth c A Q G htab ret
  refine j_aload_n G dL_setPump_0 rfl 2 rfl ?_
  refine j_iconst (v := 0) G dL_setPump_1 (by decide) ?_
  refine j_aload_n G dL_setPump_2 rfl 0 rfl ?_
  refine j_iload_n G dL_setPump_3 rfl 1 rfl ?_
  refine jXV_i G 6 0 (fw_Xi hM [] [(o, .inl (cA 4, 1, .inr (.inl g)))] rfl) gL_25 hd_X6_setPump ⟨Nat.le_refl _, Nat.le_refl _⟩ ⟨by show 0 + mc ≤ mc; omega, by show 0 + ms ≤ ms; omega⟩ rfl rfl (Nat.le_of_ble_eq_true rfl) rfl (wl_ hb) dL_setPump_4 (fun E9 w9 hq9 => ?_) (fun r w' hq9 => ?_)
  · obtain ⟨b9, h9, hw9⟩ := hq9
    obtain rfl : w9 = b9 ++ [(o, .inl (cA 4, 1, .inr (.inl g)))] := hw9
    obtain rfl := hpx E9 b9 h9
    refine j_catch G (name := "java/lang/IllegalArgumentException") [] ⟨0, 9, 12, 15⟩ [] (htab.trans rfl) (fun _ h8 => absurd h8 List.not_mem_nil) (by decide) (by decide) wd_379 nw_23 (fun q9 => ?_)
    refine j_astore_n (lv' := [(3, .ref q9), (0, .ref q0), (1, .int a1), (2, .ref o)]) G dL_setPump_12 rfl (by decide) rfl ?_
    refine j_iconst (v := 1) G dL_setPump_13 (by decide) ?_
    refine j_cs (k' := mc) (n' := ms) (by omega) (by omega) ?_
    exact ret _ _ _ _ dL_setPump_14 (Or.inr ⟨_, b9, h9, ⟨rfl, rfl⟩, rfl⟩)
  obtain ⟨b9, h9, hw9⟩ := hq9
  obtain rfl : w' = b9 ++ [(o, .inl (cA 4, 1, .inr (.inl g)))] := hw9
  refine j_i2l G dL_setPump_7 ?_
  refine j_last (w' := b9 ++ [(o, .inl (cA 4, 1, .inr (.inl (vp_updL g 0 r.toInt64))))]) G _ (wr_ (k := 0) (b := [(o, .inl (cA 4, 1, .inr (.inl g)))]) rfl) (show vp_in (nI 0) 1 from vp_in_nI (by decide) (by decide)) dL_setPump_8 set_apr ?_
  refine j_goto (tgt := 15) G dL_setPump_9 (by decide) ?_
  refine j_iconst (v := 0) G dL_setPump_15 (by decide) ?_
  refine j_cs (k' := mc) (n' := ms) (by omega) (by omega) ?_
  exact ret _ _ _ _ dL_setPump_16 (Or.inl ⟨r, b9, h9, rfl, rfl⟩)
theorem gw_setPump {idx : Nat} (h : Cond.methodLink RL idx yL_setPump ∈ WS) : GoodIn WS (va_wsS RL idx yL_setPump (wzW yL_setPump cL_setPump 4 (some .int) [(0, 9, 12, 15)])) := gSW h wd_507 (show Cond.initialized yL_setPump.cls ∈ WS from wd_39) wd_508
set_option maxHeartbeats 4000000 in
set_option maxRecDepth 100000 in
theorem cW_addLeak (l : Launch) (D : va_G) (cA : Nat → ClassId) {b0 : va_W} {q0 o : Nat} {fs : List Value} (hb : b0[0]? = some (q0, .inr (6, fs))) (a1 a2 : Int32) (g : Nat → Int64) {f lo mc ms : Nat} {post : Int32 → va_W → Prop} {px : String × va_W → Prop} (hM : Xi l yX6_addLeak cX6_addLeak 3 .int f lo mc ms D cA [.ref q0, .int a1, .int a2] b0 post px) (hpx : ∀ E b', px (E, b') → E = "java/lang/IndexOutOfBoundsException" ∨ E = "java/lang/IllegalArgumentException") : KW l yL_addLeak cL_addLeak 5 [(0, 10, 13, 13), (0, 10, 17, 15)] (f + 1) (8 + (3 + 11) + lo) mc ms D cA [.ref q0, .int a1, .int a2, .ref o] (b0 ++ [(o, .inl (cA 4, 1, .inr (.inl g)))]) (fun r w' => (∃ v b', post v b' ∧ r = 0 ∧ w' = b' ++ [(o, .inl (cA 4, 1, .inr (.inl (vp_updL g 0 v.toInt64))))]) ∨ (∃ E b', px (E, b') ∧ ((E = "java/lang/IndexOutOfBoundsException" ∧ r = 1) ∨ (E = "java/lang/IllegalArgumentException" ∧ r = 2)) ∧ w' = b' ++ [(o, .inl (cA 4, 1, .inr (.inl g)))])) := by
  refine ent_W (own := RL) (lv0 := [(0, .ref q0), (1, .int a1), (2, .int a2), (3, .ref o)]) (by decide) rfl (Nat.le_of_ble_eq_true rfl) rfl ?_
  intro p e s m args below meth c A Q G htab ret
  refine j_aload_n G dL_addLeak_0 rfl 3 rfl ?_
  refine j_iconst (v := 0) G dL_addLeak_1 (by decide) ?_
  refine j_aload_n G dL_addLeak_2 rfl 0 rfl ?_
  refine j_iload_n G dL_addLeak_3 rfl 1 rfl ?_
  refine j_iload_n G dL_addLeak_4 rfl 2 rfl ?_
  refine jXV_i G 6 0 (fw_Xi hM [] [(o, .inl (cA 4, 1, .inr (.inl g)))] rfl) gL_29 hd_X6_addLeak ⟨Nat.le_refl _, Nat.le_refl _⟩ ⟨by show 0 + mc ≤ mc; omega, by show 0 + ms ≤ ms; omega⟩ rfl rfl (Nat.le_of_ble_eq_true rfl) rfl (wl_ hb) dL_addLeak_5 (fun E9 w9 hq9 => ?_) (fun r w' hq9 => ?_)
  · obtain ⟨b9, h9, hw9⟩ := hq9
    obtain rfl : w9 = b9 ++ [(o, .inl (cA 4, 1, .inr (.inl g)))] := hw9
    rcases hpx E9 b9 h9 with rfl | rfl
    · refine j_catch G (name := "java/lang/IndexOutOfBoundsException") [] ⟨0, 10, 13, 13⟩ [⟨0, 10, 17, 15⟩] (htab.trans rfl) (fun _ h8 => absurd h8 List.not_mem_nil) (by decide) (by decide) wd_299 nw_22 (fun q9 => ?_)
      refine j_astore (lv' := [(4, .ref q9), (0, .ref q0), (1, .int a1), (2, .int a2), (3, .ref o)]) G dL_addLeak_13 (by decide) rfl ?_
      refine j_iconst (v := 1) G dL_addLeak_15 (by decide) ?_
      refine j_cs (k' := mc) (n' := ms) (by omega) (by omega) ?_
      exact ret _ _ _ _ dL_addLeak_16 (Or.inr ⟨_, b9, h9, Or.inl ⟨rfl, rfl⟩, rfl⟩)
    · refine j_catch G (name := "java/lang/IllegalArgumentException") [⟨0, 10, 13, 13⟩] ⟨0, 10, 17, 15⟩ [] (htab.trans rfl) (List.forall_mem_cons.mpr ⟨Or.inr ⟨by decide, "java/lang/IndexOutOfBoundsException", wd_299, nc_0⟩, (fun _ h8 => absurd h8 List.not_mem_nil)⟩) (by decide) (by decide) wd_379 nw_23 (fun q9 => ?_)
      refine j_astore (lv' := [(4, .ref q9), (0, .ref q0), (1, .int a1), (2, .int a2), (3, .ref o)]) G dL_addLeak_17 (by decide) rfl ?_
      refine j_iconst (v := 2) G dL_addLeak_19 (by decide) ?_
      refine j_cs (k' := mc) (n' := ms) (by omega) (by omega) ?_
      exact ret _ _ _ _ dL_addLeak_20 (Or.inr ⟨_, b9, h9, Or.inr (⟨rfl, rfl⟩), rfl⟩)
  obtain ⟨b9, h9, hw9⟩ := hq9
  obtain rfl : w' = b9 ++ [(o, .inl (cA 4, 1, .inr (.inl g)))] := hw9
  refine j_i2l G dL_addLeak_8 ?_
  refine j_last (w' := b9 ++ [(o, .inl (cA 4, 1, .inr (.inl (vp_updL g 0 r.toInt64))))]) G _ (wr_ (k := 0) (b := [(o, .inl (cA 4, 1, .inr (.inl g)))]) rfl) (show vp_in (nI 0) 1 from vp_in_nI (by decide) (by decide)) dL_addLeak_9 set_apr ?_
  refine j_goto (tgt := 21) G dL_addLeak_10 (by decide) ?_
  refine j_iconst (v := 0) G dL_addLeak_21 (by decide) ?_
  refine j_cs (k' := mc) (n' := ms) (by omega) (by omega) ?_
  exact ret _ _ _ _ dL_addLeak_22 (Or.inl ⟨r, b9, h9, rfl, rfl⟩)
theorem gw_addLeak {idx : Nat} (h : Cond.methodLink RL idx yL_addLeak ∈ WS) : GoodIn WS (va_wsS RL idx yL_addLeak (wzW yL_addLeak cL_addLeak 5 (some .int) [(0, 10, 13, 13), (0, 10, 17, 15)])) := gSW h wd_519 (show Cond.initialized yL_addLeak.cls ∈ WS from wd_39) wd_520
set_option maxHeartbeats 4000000 in
set_option maxRecDepth 100000 in
theorem cW_repair (l : Launch) (D : va_G) (cA : Nat → ClassId) {b0 : va_W} {q0 o : Nat} {fs : List Value} (hb : b0[0]? = some (q0, .inr (6, fs))) (a1 : Int32) (g : Nat → Int64) {f lo mc ms : Nat} {post : Int32 → va_W → Prop} {px : String × va_W → Prop} (hM : Xi l yX6_repair cX6_repair 2 .int f lo mc ms D cA [.ref q0, .int a1] b0 post px) (hpx : ∀ E b', px (E, b') → E = "java/lang/IndexOutOfBoundsException" ∨ E = "java/util/NoSuchElementException") : KW l yL_repair cL_repair 4 [(0, 9, 12, 13), (0, 9, 15, 35)] (f + 1) (8 + (2 + 11) + lo) mc ms D cA [.ref q0, .int a1, .ref o] (b0 ++ [(o, .inl (cA 4, 1, .inr (.inl g)))]) (fun r w' => (∃ v b', post v b' ∧ r = 0 ∧ w' = b' ++ [(o, .inl (cA 4, 1, .inr (.inl (vp_updL g 0 v.toInt64))))]) ∨ (∃ E b', px (E, b') ∧ ((E = "java/lang/IndexOutOfBoundsException" ∧ r = 1) ∨ (E = "java/util/NoSuchElementException" ∧ r = 2)) ∧ w' = b' ++ [(o, .inl (cA 4, 1, .inr (.inl g)))])) := by
  refine ent_W (own := RL) (lv0 := [(0, .ref q0), (1, .int a1), (2, .ref o)]) (by decide) rfl (Nat.le_of_ble_eq_true rfl) rfl ?_
  intro p e s m args below meth c A Q G htab ret
  refine j_aload_n G dL_repair_0 rfl 2 rfl ?_
  refine j_iconst (v := 0) G dL_repair_1 (by decide) ?_
  refine j_aload_n G dL_repair_2 rfl 0 rfl ?_
  refine j_iload_n G dL_repair_3 rfl 1 rfl ?_
  refine jXV_i G 6 0 (fw_Xi hM [] [(o, .inl (cA 4, 1, .inr (.inl g)))] rfl) gL_32 hd_X6_repair ⟨Nat.le_refl _, Nat.le_refl _⟩ ⟨by show 0 + mc ≤ mc; omega, by show 0 + ms ≤ ms; omega⟩ rfl rfl (Nat.le_of_ble_eq_true rfl) rfl (wl_ hb) dL_repair_4 (fun E9 w9 hq9 => ?_) (fun r w' hq9 => ?_)
  · obtain ⟨b9, h9, hw9⟩ := hq9
    obtain rfl : w9 = b9 ++ [(o, .inl (cA 4, 1, .inr (.inl g)))] := hw9
    rcases hpx E9 b9 h9 with rfl | rfl
    · refine j_catch G (name := "java/lang/IndexOutOfBoundsException") [] ⟨0, 9, 12, 13⟩ [⟨0, 9, 15, 35⟩] (htab.trans rfl) (fun _ h8 => absurd h8 List.not_mem_nil) (by decide) (by decide) wd_299 nw_22 (fun q9 => ?_)
      refine j_astore_n (lv' := [(3, .ref q9), (0, .ref q0), (1, .int a1), (2, .ref o)]) G dL_repair_12 rfl (by decide) rfl ?_
      refine j_iconst (v := 1) G dL_repair_13 (by decide) ?_
      refine j_cs (k' := mc) (n' := ms) (by omega) (by omega) ?_
      exact ret _ _ _ _ dL_repair_14 (Or.inr ⟨_, b9, h9, Or.inl ⟨rfl, rfl⟩, rfl⟩)
    · refine j_catch G (name := "java/util/NoSuchElementException") [⟨0, 9, 12, 13⟩] ⟨0, 9, 15, 35⟩ [] (htab.trans rfl) (List.forall_mem_cons.mpr ⟨Or.inr ⟨by decide, "java/lang/IndexOutOfBoundsException", wd_299, nc_3⟩, (fun _ h8 => absurd h8 List.not_mem_nil)⟩) (by decide) (by decide) wd_533 nw_26 (fun q9 => ?_)
      refine j_astore_n (lv' := [(3, .ref q9), (0, .ref q0), (1, .int a1), (2, .ref o)]) G dL_repair_15 rfl (by decide) rfl ?_
      refine j_iconst (v := 2) G dL_repair_16 (by decide) ?_
      refine j_cs (k' := mc) (n' := ms) (by omega) (by omega) ?_
      exact ret _ _ _ _ dL_repair_17 (Or.inr ⟨_, b9, h9, Or.inr (⟨rfl, rfl⟩), rfl⟩)
  obtain ⟨b9, h9, hw9⟩ := hq9
  obtain rfl : w' = b9 ++ [(o, .inl (cA 4, 1, .inr (.inl g)))] := hw9
  refine j_i2l G dL_repair_7 ?_
  refine j_last (w' := b9 ++ [(o, .inl (cA 4, 1, .inr (.inl (vp_updL g 0 r.toInt64))))]) G _ (wr_ (k := 0) (b := [(o, .inl (cA 4, 1, .inr (.inl g)))]) rfl) (show vp_in (nI 0) 1 from vp_in_nI (by decide) (by decide)) dL_repair_8 set_apr ?_
  refine j_goto (tgt := 18) G dL_repair_9 (by decide) ?_
  refine j_iconst (v := 0) G dL_repair_18 (by decide) ?_
  refine j_cs (k' := mc) (n' := ms) (by omega) (by omega) ?_
  exact ret _ _ _ _ dL_repair_19 (Or.inl ⟨r, b9, h9, rfl, rfl⟩)
theorem gw_repair {idx : Nat} (h : Cond.methodLink RL idx yL_repair ∈ WS) : GoodIn WS (va_wsS RL idx yL_repair (wzW yL_repair cL_repair 4 (some .int) [(0, 9, 12, 13), (0, 9, 15, 35)])) := gSW h wd_531 (show Cond.initialized yL_repair.cls ∈ WS from wd_39) wd_532
set_option maxHeartbeats 4000000 in
set_option maxRecDepth 100000 in
theorem cW_vacuum (l : Launch) (D : va_G) (cA : Nat → ClassId) {b0 : va_W} {q0 o : Nat} {fs : List Value} (hb : b0[0]? = some (q0, .inr (6, fs))) (a1 : Int32) (g : Nat → Int64) {f lo mc ms : Nat} {post : Int32 → va_W → Prop} {px : String × va_W → Prop} (hM : Xi l yX6_vacuum cX6_vacuum 2 .int f lo mc ms D cA [.ref q0, .int a1] b0 post px) (hpx : ∀ E b', px (E, b') → E = "java/lang/IndexOutOfBoundsException") : KW l yL_vacuum cL_vacuum 4 [(0, 9, 12, 13)] (f + 1) (8 + (2 + 11) + lo) mc ms D cA [.ref q0, .int a1, .ref o] (b0 ++ [(o, .inl (cA 4, 1, .inr (.inl g)))]) (fun r w' => (∃ v b', post v b' ∧ r = 0 ∧ w' = b' ++ [(o, .inl (cA 4, 1, .inr (.inl (vp_updL g 0 v.toInt64))))]) ∨ (∃ E b', px (E, b') ∧ ((E = "java/lang/IndexOutOfBoundsException" ∧ r = 1)) ∧ w' = b' ++ [(o, .inl (cA 4, 1, .inr (.inl g)))])) := by
  refine ent_W (own := RL) (lv0 := [(0, .ref q0), (1, .int a1), (2, .ref o)]) (by decide) rfl (Nat.le_of_ble_eq_true rfl) rfl ?_
  intro p e s m args below meth c A Q G htab ret
  refine j_aload_n G dL_vacuum_0 rfl 2 rfl ?_
  refine j_iconst (v := 0) G dL_vacuum_1 (by decide) ?_
  refine j_aload_n G dL_vacuum_2 rfl 0 rfl ?_
  refine j_iload_n G dL_vacuum_3 rfl 1 rfl ?_
  refine jXV_i G 6 0 (fw_Xi hM [] [(o, .inl (cA 4, 1, .inr (.inl g)))] rfl) gL_37 hd_X6_vacuum ⟨Nat.le_refl _, Nat.le_refl _⟩ ⟨by show 0 + mc ≤ mc; omega, by show 0 + ms ≤ ms; omega⟩ rfl rfl (Nat.le_of_ble_eq_true rfl) rfl (wl_ hb) dL_vacuum_4 (fun E9 w9 hq9 => ?_) (fun r w' hq9 => ?_)
  · obtain ⟨b9, h9, hw9⟩ := hq9
    obtain rfl : w9 = b9 ++ [(o, .inl (cA 4, 1, .inr (.inl g)))] := hw9
    obtain rfl := hpx E9 b9 h9
    refine j_catch G (name := "java/lang/IndexOutOfBoundsException") [] ⟨0, 9, 12, 13⟩ [] (htab.trans rfl) (fun _ h8 => absurd h8 List.not_mem_nil) (by decide) (by decide) wd_299 nw_22 (fun q9 => ?_)
    refine j_astore_n (lv' := [(3, .ref q9), (0, .ref q0), (1, .int a1), (2, .ref o)]) G dL_vacuum_12 rfl (by decide) rfl ?_
    refine j_iconst (v := 1) G dL_vacuum_13 (by decide) ?_
    refine j_cs (k' := mc) (n' := ms) (by omega) (by omega) ?_
    exact ret _ _ _ _ dL_vacuum_14 (Or.inr ⟨_, b9, h9, ⟨rfl, rfl⟩, rfl⟩)
  obtain ⟨b9, h9, hw9⟩ := hq9
  obtain rfl : w' = b9 ++ [(o, .inl (cA 4, 1, .inr (.inl g)))] := hw9
  refine j_i2l G dL_vacuum_7 ?_
  refine j_last (w' := b9 ++ [(o, .inl (cA 4, 1, .inr (.inl (vp_updL g 0 r.toInt64))))]) G _ (wr_ (k := 0) (b := [(o, .inl (cA 4, 1, .inr (.inl g)))]) rfl) (show vp_in (nI 0) 1 from vp_in_nI (by decide) (by decide)) dL_vacuum_8 set_apr ?_
  refine j_goto (tgt := 15) G dL_vacuum_9 (by decide) ?_
  refine j_iconst (v := 0) G dL_vacuum_15 (by decide) ?_
  refine j_cs (k' := mc) (n' := ms) (by omega) (by omega) ?_
  exact ret _ _ _ _ dL_vacuum_16 (Or.inl ⟨r, b9, h9, rfl, rfl⟩)
theorem gw_vacuum {idx : Nat} (h : Cond.methodLink RL idx yL_vacuum ∈ WS) : GoodIn WS (va_wsS RL idx yL_vacuum (wzW yL_vacuum cL_vacuum 4 (some .int) [(0, 9, 12, 13)])) := gSW h wd_559 (show Cond.initialized yL_vacuum.cls ∈ WS from wd_39) wd_560
set_option maxHeartbeats 4000000 in
set_option maxRecDepth 100000 in
theorem cW_vacuumBySweep (l : Launch) (D : va_G) (cA : Nat → ClassId) {b0 : va_W} {q0 o : Nat} {fs : List Value} (hb : b0[0]? = some (q0, .inr (6, fs))) (a1 : Int32) (g : Nat → Int64) {f lo mc ms : Nat} {post : Int32 → va_W → Prop} {px : String × va_W → Prop} (hM : Xi l yX6_vacuumBySweep cX6_vacuumBySweep 2 .int f lo mc ms D cA [.ref q0, .int a1] b0 post px) (hpx : ∀ E b', px (E, b') → E = "java/lang/IndexOutOfBoundsException") : KW l yL_vacuumBySweep cL_vacuumBySweep 4 [(0, 9, 12, 13)] (f + 1) (8 + (2 + 11) + lo) mc ms D cA [.ref q0, .int a1, .ref o] (b0 ++ [(o, .inl (cA 4, 1, .inr (.inl g)))]) (fun r w' => (∃ v b', post v b' ∧ r = 0 ∧ w' = b' ++ [(o, .inl (cA 4, 1, .inr (.inl (vp_updL g 0 v.toInt64))))]) ∨ (∃ E b', px (E, b') ∧ ((E = "java/lang/IndexOutOfBoundsException" ∧ r = 1)) ∧ w' = b' ++ [(o, .inl (cA 4, 1, .inr (.inl g)))])) := by
  refine ent_W (own := RL) (lv0 := [(0, .ref q0), (1, .int a1), (2, .ref o)]) (by decide) rfl (Nat.le_of_ble_eq_true rfl) rfl ?_
  intro p e s m args below meth c A Q G htab ret
  refine j_aload_n G dL_vacuumBySweep_0 rfl 2 rfl ?_
  refine j_iconst (v := 0) G dL_vacuumBySweep_1 (by decide) ?_
  refine j_aload_n G dL_vacuumBySweep_2 rfl 0 rfl ?_
  refine j_iload_n G dL_vacuumBySweep_3 rfl 1 rfl ?_
  refine jXV_i G 6 0 (fw_Xi hM [] [(o, .inl (cA 4, 1, .inr (.inl g)))] rfl) gL_40 hd_X6_vacuumBySweep ⟨Nat.le_refl _, Nat.le_refl _⟩ ⟨by show 0 + mc ≤ mc; omega, by show 0 + ms ≤ ms; omega⟩ rfl rfl (Nat.le_of_ble_eq_true rfl) rfl (wl_ hb) dL_vacuumBySweep_4 (fun E9 w9 hq9 => ?_) (fun r w' hq9 => ?_)
  · obtain ⟨b9, h9, hw9⟩ := hq9
    obtain rfl : w9 = b9 ++ [(o, .inl (cA 4, 1, .inr (.inl g)))] := hw9
    obtain rfl := hpx E9 b9 h9
    refine j_catch G (name := "java/lang/IndexOutOfBoundsException") [] ⟨0, 9, 12, 13⟩ [] (htab.trans rfl) (fun _ h8 => absurd h8 List.not_mem_nil) (by decide) (by decide) wd_299 nw_22 (fun q9 => ?_)
    refine j_astore_n (lv' := [(3, .ref q9), (0, .ref q0), (1, .int a1), (2, .ref o)]) G dL_vacuumBySweep_12 rfl (by decide) rfl ?_
    refine j_iconst (v := 1) G dL_vacuumBySweep_13 (by decide) ?_
    refine j_cs (k' := mc) (n' := ms) (by omega) (by omega) ?_
    exact ret _ _ _ _ dL_vacuumBySweep_14 (Or.inr ⟨_, b9, h9, ⟨rfl, rfl⟩, rfl⟩)
  obtain ⟨b9, h9, hw9⟩ := hq9
  obtain rfl : w' = b9 ++ [(o, .inl (cA 4, 1, .inr (.inl g)))] := hw9
  refine j_i2l G dL_vacuumBySweep_7 ?_
  refine j_last (w' := b9 ++ [(o, .inl (cA 4, 1, .inr (.inl (vp_updL g 0 r.toInt64))))]) G _ (wr_ (k := 0) (b := [(o, .inl (cA 4, 1, .inr (.inl g)))]) rfl) (show vp_in (nI 0) 1 from vp_in_nI (by decide) (by decide)) dL_vacuumBySweep_8 set_apr ?_
  refine j_goto (tgt := 15) G dL_vacuumBySweep_9 (by decide) ?_
  refine j_iconst (v := 0) G dL_vacuumBySweep_15 (by decide) ?_
  refine j_cs (k' := mc) (n' := ms) (by omega) (by omega) ?_
  exact ret _ _ _ _ dL_vacuumBySweep_16 (Or.inl ⟨r, b9, h9, rfl, rfl⟩)
theorem gw_vacuumBySweep {idx : Nat} (h : Cond.methodLink RL idx yL_vacuumBySweep ∈ WS) : GoodIn WS (va_wsS RL idx yL_vacuumBySweep (wzW yL_vacuumBySweep cL_vacuumBySweep 4 (some .int) [(0, 9, 12, 13)])) := gSW h wd_577 (show Cond.initialized yL_vacuumBySweep.cls ∈ WS from wd_39) wd_578
set_option maxHeartbeats 4000000 in
set_option maxRecDepth 100000 in
theorem cW_expectedVacuum (l : Launch) (D : va_G) (cA : Nat → ClassId) {b0 : va_W} {q0 o : Nat} {fs : List Value} (hb : b0[0]? = some (q0, .inr (6, fs))) (a1 : Int32) (g : Nat → Int64) {f lo mc ms : Nat} {post : Int32 → va_W → Prop} {px : String × va_W → Prop} (hM : Xi l yX6_expectedVacuum cX6_expectedVacuum 2 .int f lo mc ms D cA [.ref q0, .int a1] b0 post px) (hpx : ∀ E b', px (E, b') → E = "java/lang/IndexOutOfBoundsException") : KW l yL_expectedVacuum cL_expectedVacuum 4 [(0, 9, 12, 13)] (f + 1) (8 + (2 + 11) + lo) mc ms D cA [.ref q0, .int a1, .ref o] (b0 ++ [(o, .inl (cA 4, 1, .inr (.inl g)))]) (fun r w' => (∃ v b', post v b' ∧ r = 0 ∧ w' = b' ++ [(o, .inl (cA 4, 1, .inr (.inl (vp_updL g 0 v.toInt64))))]) ∨ (∃ E b', px (E, b') ∧ ((E = "java/lang/IndexOutOfBoundsException" ∧ r = 1)) ∧ w' = b' ++ [(o, .inl (cA 4, 1, .inr (.inl g)))])) := by
  refine ent_W (own := RL) (lv0 := [(0, .ref q0), (1, .int a1), (2, .ref o)]) (by decide) rfl (Nat.le_of_ble_eq_true rfl) rfl ?_
  intro p e s m args below meth c A Q G htab ret
  refine j_aload_n G dL_expectedVacuum_0 rfl 2 rfl ?_
  refine j_iconst (v := 0) G dL_expectedVacuum_1 (by decide) ?_
  refine j_aload_n G dL_expectedVacuum_2 rfl 0 rfl ?_
  refine j_iload_n G dL_expectedVacuum_3 rfl 1 rfl ?_
  refine jXV_i G 6 0 (fw_Xi hM [] [(o, .inl (cA 4, 1, .inr (.inl g)))] rfl) gL_43 hd_X6_expectedVacuum ⟨Nat.le_refl _, Nat.le_refl _⟩ ⟨by show 0 + mc ≤ mc; omega, by show 0 + ms ≤ ms; omega⟩ rfl rfl (Nat.le_of_ble_eq_true rfl) rfl (wl_ hb) dL_expectedVacuum_4 (fun E9 w9 hq9 => ?_) (fun r w' hq9 => ?_)
  · obtain ⟨b9, h9, hw9⟩ := hq9
    obtain rfl : w9 = b9 ++ [(o, .inl (cA 4, 1, .inr (.inl g)))] := hw9
    obtain rfl := hpx E9 b9 h9
    refine j_catch G (name := "java/lang/IndexOutOfBoundsException") [] ⟨0, 9, 12, 13⟩ [] (htab.trans rfl) (fun _ h8 => absurd h8 List.not_mem_nil) (by decide) (by decide) wd_299 nw_22 (fun q9 => ?_)
    refine j_astore_n (lv' := [(3, .ref q9), (0, .ref q0), (1, .int a1), (2, .ref o)]) G dL_expectedVacuum_12 rfl (by decide) rfl ?_
    refine j_iconst (v := 1) G dL_expectedVacuum_13 (by decide) ?_
    refine j_cs (k' := mc) (n' := ms) (by omega) (by omega) ?_
    exact ret _ _ _ _ dL_expectedVacuum_14 (Or.inr ⟨_, b9, h9, ⟨rfl, rfl⟩, rfl⟩)
  obtain ⟨b9, h9, hw9⟩ := hq9
  obtain rfl : w' = b9 ++ [(o, .inl (cA 4, 1, .inr (.inl g)))] := hw9
  refine j_i2l G dL_expectedVacuum_7 ?_
  refine j_last (w' := b9 ++ [(o, .inl (cA 4, 1, .inr (.inl (vp_updL g 0 r.toInt64))))]) G _ (wr_ (k := 0) (b := [(o, .inl (cA 4, 1, .inr (.inl g)))]) rfl) (show vp_in (nI 0) 1 from vp_in_nI (by decide) (by decide)) dL_expectedVacuum_8 set_apr ?_
  refine j_goto (tgt := 15) G dL_expectedVacuum_9 (by decide) ?_
  refine j_iconst (v := 0) G dL_expectedVacuum_15 (by decide) ?_
  refine j_cs (k' := mc) (n' := ms) (by omega) (by omega) ?_
  exact ret _ _ _ _ dL_expectedVacuum_16 (Or.inl ⟨r, b9, h9, rfl, rfl⟩)
theorem gw_expectedVacuum {idx : Nat} (h : Cond.methodLink RL idx yL_expectedVacuum ∈ WS) : GoodIn WS (va_wsS RL idx yL_expectedVacuum (wzW yL_expectedVacuum cL_expectedVacuum 4 (some .int) [(0, 9, 12, 13)])) := gSW h wd_588 (show Cond.initialized yL_expectedVacuum.cls ∈ WS from wd_39) wd_589
set_option maxHeartbeats 4000000 in
set_option maxRecDepth 100000 in
theorem cW_suspect (l : Launch) (D : va_G) (cA : Nat → ClassId) {b0 : va_W} {q0 o : Nat} {fs : List Value} (hb : b0[0]? = some (q0, .inr (6, fs))) (a1 : Int32) (g : Nat → Int64) {f lo mc ms : Nat} {post : Int32 → va_W → Prop} {px : String × va_W → Prop} (hM : Xi l yX6_suspect cX6_suspect 4 .int f lo mc ms D cA [.ref q0, .int a1] b0 post px) (hpx : ∀ E b', px (E, b') → E = "java/util/NoSuchElementException") : KW l yL_suspect cL_suspect 4 [(0, 9, 12, 35)] (f + 1) (8 + (4 + 11) + lo) mc ms D cA [.ref q0, .int a1, .ref o] (b0 ++ [(o, .inl (cA 4, 1, .inr (.inl g)))]) (fun r w' => (∃ v b', post v b' ∧ r = 0 ∧ w' = b' ++ [(o, .inl (cA 4, 1, .inr (.inl (vp_updL g 0 v.toInt64))))]) ∨ (∃ E b', px (E, b') ∧ ((E = "java/util/NoSuchElementException" ∧ r = 1)) ∧ w' = b' ++ [(o, .inl (cA 4, 1, .inr (.inl g)))])) := by
  refine ent_W (own := RL) (lv0 := [(0, .ref q0), (1, .int a1), (2, .ref o)]) (by decide) rfl (Nat.le_of_ble_eq_true rfl) rfl ?_
  intro p e s m args below meth c A Q G htab ret
  refine j_aload_n G dL_suspect_0 rfl 2 rfl ?_
  refine j_iconst (v := 0) G dL_suspect_1 (by decide) ?_
  refine j_aload_n G dL_suspect_2 rfl 0 rfl ?_
  refine j_iload_n G dL_suspect_3 rfl 1 rfl ?_
  refine jXV_i G 6 0 (fw_Xi hM [] [(o, .inl (cA 4, 1, .inr (.inl g)))] rfl) gL_46 hd_X6_suspect ⟨Nat.le_refl _, Nat.le_refl _⟩ ⟨by show 0 + mc ≤ mc; omega, by show 0 + ms ≤ ms; omega⟩ rfl rfl (Nat.le_of_ble_eq_true rfl) rfl (wl_ hb) dL_suspect_4 (fun E9 w9 hq9 => ?_) (fun r w' hq9 => ?_)
  · obtain ⟨b9, h9, hw9⟩ := hq9
    obtain rfl : w9 = b9 ++ [(o, .inl (cA 4, 1, .inr (.inl g)))] := hw9
    obtain rfl := hpx E9 b9 h9
    refine j_catch G (name := "java/util/NoSuchElementException") [] ⟨0, 9, 12, 35⟩ [] (htab.trans rfl) (fun _ h8 => absurd h8 List.not_mem_nil) (by decide) (by decide) wd_533 nw_26 (fun q9 => ?_)
    refine j_astore_n (lv' := [(3, .ref q9), (0, .ref q0), (1, .int a1), (2, .ref o)]) G dL_suspect_12 rfl (by decide) rfl ?_
    refine j_iconst (v := 1) G dL_suspect_13 (by decide) ?_
    refine j_cs (k' := mc) (n' := ms) (by omega) (by omega) ?_
    exact ret _ _ _ _ dL_suspect_14 (Or.inr ⟨_, b9, h9, ⟨rfl, rfl⟩, rfl⟩)
  obtain ⟨b9, h9, hw9⟩ := hq9
  obtain rfl : w' = b9 ++ [(o, .inl (cA 4, 1, .inr (.inl g)))] := hw9
  refine j_i2l G dL_suspect_7 ?_
  refine j_last (w' := b9 ++ [(o, .inl (cA 4, 1, .inr (.inl (vp_updL g 0 r.toInt64))))]) G _ (wr_ (k := 0) (b := [(o, .inl (cA 4, 1, .inr (.inl g)))]) rfl) (show vp_in (nI 0) 1 from vp_in_nI (by decide) (by decide)) dL_suspect_8 set_apr ?_
  refine j_goto (tgt := 15) G dL_suspect_9 (by decide) ?_
  refine j_iconst (v := 0) G dL_suspect_15 (by decide) ?_
  refine j_cs (k' := mc) (n' := ms) (by omega) (by omega) ?_
  exact ret _ _ _ _ dL_suspect_16 (Or.inl ⟨r, b9, h9, rfl, rfl⟩)
theorem gw_suspect {idx : Nat} (h : Cond.methodLink RL idx yL_suspect ∈ WS) : GoodIn WS (va_wsS RL idx yL_suspect (wzW yL_suspect cL_suspect 4 (some .int) [(0, 9, 12, 35)])) := gSW h wd_595 (show Cond.initialized yL_suspect.cls ∈ WS from wd_39) wd_596
set_option maxHeartbeats 4000000 in
set_option maxRecDepth 100000 in
theorem cW_depth (l : Launch) (D : va_G) (cA : Nat → ClassId) {b0 : va_W} {q0 o : Nat} {fs : List Value} (hb : b0[0]? = some (q0, .inr (6, fs))) (a1 : Int32) (g : Nat → Int64) {f lo mc ms : Nat} {post : Int32 → va_W → Prop} {px : String × va_W → Prop} (hM : Xi l yX6_depth cX6_depth 2 .int f lo mc ms D cA [.ref q0, .int a1] b0 post px) (hpx : ∀ E b', px (E, b') → E = "java/lang/IndexOutOfBoundsException") : KW l yL_depth cL_depth 4 [(0, 9, 12, 13)] (f + 1) (8 + (2 + 11) + lo) mc ms D cA [.ref q0, .int a1, .ref o] (b0 ++ [(o, .inl (cA 4, 1, .inr (.inl g)))]) (fun r w' => (∃ v b', post v b' ∧ r = 0 ∧ w' = b' ++ [(o, .inl (cA 4, 1, .inr (.inl (vp_updL g 0 v.toInt64))))]) ∨ (∃ E b', px (E, b') ∧ ((E = "java/lang/IndexOutOfBoundsException" ∧ r = 1)) ∧ w' = b' ++ [(o, .inl (cA 4, 1, .inr (.inl g)))])) := by
  refine ent_W (own := RL) (lv0 := [(0, .ref q0), (1, .int a1), (2, .ref o)]) (by decide) rfl (Nat.le_of_ble_eq_true rfl) rfl ?_
  intro p e s m args below meth c A Q G htab ret
  refine j_aload_n G dL_depth_0 rfl 2 rfl ?_
  refine j_iconst (v := 0) G dL_depth_1 (by decide) ?_
  refine j_aload_n G dL_depth_2 rfl 0 rfl ?_
  refine j_iload_n G dL_depth_3 rfl 1 rfl ?_
  refine jXV_i G 6 0 (fw_Xi hM [] [(o, .inl (cA 4, 1, .inr (.inl g)))] rfl) gL_49 hd_X6_depth ⟨Nat.le_refl _, Nat.le_refl _⟩ ⟨by show 0 + mc ≤ mc; omega, by show 0 + ms ≤ ms; omega⟩ rfl rfl (Nat.le_of_ble_eq_true rfl) rfl (wl_ hb) dL_depth_4 (fun E9 w9 hq9 => ?_) (fun r w' hq9 => ?_)
  · obtain ⟨b9, h9, hw9⟩ := hq9
    obtain rfl : w9 = b9 ++ [(o, .inl (cA 4, 1, .inr (.inl g)))] := hw9
    obtain rfl := hpx E9 b9 h9
    refine j_catch G (name := "java/lang/IndexOutOfBoundsException") [] ⟨0, 9, 12, 13⟩ [] (htab.trans rfl) (fun _ h8 => absurd h8 List.not_mem_nil) (by decide) (by decide) wd_299 nw_22 (fun q9 => ?_)
    refine j_astore_n (lv' := [(3, .ref q9), (0, .ref q0), (1, .int a1), (2, .ref o)]) G dL_depth_12 rfl (by decide) rfl ?_
    refine j_iconst (v := 1) G dL_depth_13 (by decide) ?_
    refine j_cs (k' := mc) (n' := ms) (by omega) (by omega) ?_
    exact ret _ _ _ _ dL_depth_14 (Or.inr ⟨_, b9, h9, ⟨rfl, rfl⟩, rfl⟩)
  obtain ⟨b9, h9, hw9⟩ := hq9
  obtain rfl : w' = b9 ++ [(o, .inl (cA 4, 1, .inr (.inl g)))] := hw9
  refine j_i2l G dL_depth_7 ?_
  refine j_last (w' := b9 ++ [(o, .inl (cA 4, 1, .inr (.inl (vp_updL g 0 r.toInt64))))]) G _ (wr_ (k := 0) (b := [(o, .inl (cA 4, 1, .inr (.inl g)))]) rfl) (show vp_in (nI 0) 1 from vp_in_nI (by decide) (by decide)) dL_depth_8 set_apr ?_
  refine j_goto (tgt := 15) G dL_depth_9 (by decide) ?_
  refine j_iconst (v := 0) G dL_depth_15 (by decide) ?_
  refine j_cs (k' := mc) (n' := ms) (by omega) (by omega) ?_
  exact ret _ _ _ _ dL_depth_16 (Or.inl ⟨r, b9, h9, rfl, rfl⟩)
theorem gw_depth {idx : Nat} (h : Cond.methodLink RL idx yL_depth ∈ WS) : GoodIn WS (va_wsS RL idx yL_depth (wzW yL_depth cL_depth 4 (some .int) [(0, 9, 12, 13)])) := gSW h wd_623 (show Cond.initialized yL_depth.cls ∈ WS from wd_39) wd_624
set_option maxHeartbeats 4000000 in
set_option maxRecDepth 100000 in
theorem cW_pass (l : Launch) (D : va_G) (cA : Nat → ClassId) {b0 : va_W} {q0 o : Nat} {fs : List Value} (hb : b0[0]? = some (q0, .inr (6, fs))) (a1 : Int32) (g : Nat → Int64) {f lo mc ms : Nat} {post : Int32 → va_W → Prop} {px : String × va_W → Prop} (hM : Xi l yX6_pass cX6_pass 3 .int f lo mc ms D cA [.ref q0, .int a1] b0 post px) (hpx : ∀ E b', px (E, b') → E = "java/lang/IllegalArgumentException" ∨ E = "java/lang/IllegalStateException") : KW l yL_pass cL_pass 4 [(0, 9, 12, 15), (0, 9, 15, 19)] (f + 1) (8 + (3 + 11) + lo) mc ms D cA [.ref q0, .int a1, .ref o] (b0 ++ [(o, .inl (cA 4, 1, .inr (.inl g)))]) (fun r w' => (∃ v b', post v b' ∧ r = 0 ∧ w' = b' ++ [(o, .inl (cA 4, 1, .inr (.inl (vp_updL g 0 v.toInt64))))]) ∨ (∃ E b', px (E, b') ∧ ((E = "java/lang/IllegalArgumentException" ∧ r = 1) ∨ (E = "java/lang/IllegalStateException" ∧ r = 2)) ∧ w' = b' ++ [(o, .inl (cA 4, 1, .inr (.inl g)))])) := by
  refine ent_W (own := RL) (lv0 := [(0, .ref q0), (1, .int a1), (2, .ref o)]) (by decide) rfl (Nat.le_of_ble_eq_true rfl) rfl ?_
  intro p e s m args below meth c A Q G htab ret
  refine j_aload_n G dL_pass_0 rfl 2 rfl ?_
  refine j_iconst (v := 0) G dL_pass_1 (by decide) ?_
  refine j_aload_n G dL_pass_2 rfl 0 rfl ?_
  refine j_iload_n G dL_pass_3 rfl 1 rfl ?_
  refine jXV_i G 6 0 (fw_Xi hM [] [(o, .inl (cA 4, 1, .inr (.inl g)))] rfl) gL_52 hd_X6_pass ⟨Nat.le_refl _, Nat.le_refl _⟩ ⟨by show 0 + mc ≤ mc; omega, by show 0 + ms ≤ ms; omega⟩ rfl rfl (Nat.le_of_ble_eq_true rfl) rfl (wl_ hb) dL_pass_4 (fun E9 w9 hq9 => ?_) (fun r w' hq9 => ?_)
  · obtain ⟨b9, h9, hw9⟩ := hq9
    obtain rfl : w9 = b9 ++ [(o, .inl (cA 4, 1, .inr (.inl g)))] := hw9
    rcases hpx E9 b9 h9 with rfl | rfl
    · refine j_catch G (name := "java/lang/IllegalArgumentException") [] ⟨0, 9, 12, 15⟩ [⟨0, 9, 15, 19⟩] (htab.trans rfl) (fun _ h8 => absurd h8 List.not_mem_nil) (by decide) (by decide) wd_379 nw_23 (fun q9 => ?_)
      refine j_astore_n (lv' := [(3, .ref q9), (0, .ref q0), (1, .int a1), (2, .ref o)]) G dL_pass_12 rfl (by decide) rfl ?_
      refine j_iconst (v := 1) G dL_pass_13 (by decide) ?_
      refine j_cs (k' := mc) (n' := ms) (by omega) (by omega) ?_
      exact ret _ _ _ _ dL_pass_14 (Or.inr ⟨_, b9, h9, Or.inl ⟨rfl, rfl⟩, rfl⟩)
    · refine j_catch G (name := "java/lang/IllegalStateException") [⟨0, 9, 12, 15⟩] ⟨0, 9, 15, 19⟩ [] (htab.trans rfl) (List.forall_mem_cons.mpr ⟨Or.inr ⟨by decide, "java/lang/IllegalArgumentException", wd_379, nc_7⟩, (fun _ h8 => absurd h8 List.not_mem_nil)⟩) (by decide) (by decide) wd_381 nw_25 (fun q9 => ?_)
      refine j_astore_n (lv' := [(3, .ref q9), (0, .ref q0), (1, .int a1), (2, .ref o)]) G dL_pass_15 rfl (by decide) rfl ?_
      refine j_iconst (v := 2) G dL_pass_16 (by decide) ?_
      refine j_cs (k' := mc) (n' := ms) (by omega) (by omega) ?_
      exact ret _ _ _ _ dL_pass_17 (Or.inr ⟨_, b9, h9, Or.inr (⟨rfl, rfl⟩), rfl⟩)
  obtain ⟨b9, h9, hw9⟩ := hq9
  obtain rfl : w' = b9 ++ [(o, .inl (cA 4, 1, .inr (.inl g)))] := hw9
  refine j_i2l G dL_pass_7 ?_
  refine j_last (w' := b9 ++ [(o, .inl (cA 4, 1, .inr (.inl (vp_updL g 0 r.toInt64))))]) G _ (wr_ (k := 0) (b := [(o, .inl (cA 4, 1, .inr (.inl g)))]) rfl) (show vp_in (nI 0) 1 from vp_in_nI (by decide) (by decide)) dL_pass_8 set_apr ?_
  refine j_goto (tgt := 18) G dL_pass_9 (by decide) ?_
  refine j_iconst (v := 0) G dL_pass_18 (by decide) ?_
  refine j_cs (k' := mc) (n' := ms) (by omega) (by omega) ?_
  exact ret _ _ _ _ dL_pass_19 (Or.inl ⟨r, b9, h9, rfl, rfl⟩)
theorem gw_pass {idx : Nat} (h : Cond.methodLink RL idx yL_pass ∈ WS) : GoodIn WS (va_wsS RL idx yL_pass (wzW yL_pass cL_pass 4 (some .int) [(0, 9, 12, 15), (0, 9, 15, 19)])) := gSW h wd_634 (show Cond.initialized yL_pass.cls ∈ WS from wd_39) wd_635
set_option maxHeartbeats 4000000 in
set_option maxRecDepth 100000 in
theorem cW_charge (l : Launch) (D : va_G) (cA : Nat → ClassId) {b0 : va_W} {q0 o : Nat} {fs : List Value} (hb : b0[0]? = some (q0, .inr (6, fs))) (a1 : Int32) (g : Nat → Int64) {f lo mc ms : Nat} {post : Int32 → va_W → Prop} {px : String × va_W → Prop} (hM : Xi l yX6_charge cX6_charge 2 .int f lo mc ms D cA [.ref q0, .int a1] b0 post px) (hpx : ∀ E b', px (E, b') → E = "java/lang/IndexOutOfBoundsException" ∨ E = "java/lang/UnsupportedOperationException") : KW l yL_charge cL_charge 4 [(0, 9, 12, 13), (0, 9, 15, 17)] (f + 1) (8 + (2 + 11) + lo) mc ms D cA [.ref q0, .int a1, .ref o] (b0 ++ [(o, .inl (cA 4, 1, .inr (.inl g)))]) (fun r w' => (∃ v b', post v b' ∧ r = 0 ∧ w' = b' ++ [(o, .inl (cA 4, 1, .inr (.inl (vp_updL g 0 v.toInt64))))]) ∨ (∃ E b', px (E, b') ∧ ((E = "java/lang/IndexOutOfBoundsException" ∧ r = 1) ∨ (E = "java/lang/UnsupportedOperationException" ∧ r = 2)) ∧ w' = b' ++ [(o, .inl (cA 4, 1, .inr (.inl g)))])) := by
  refine ent_W (own := RL) (lv0 := [(0, .ref q0), (1, .int a1), (2, .ref o)]) (by decide) rfl (Nat.le_of_ble_eq_true rfl) rfl ?_
  intro p e s m args below meth c A Q G htab ret
  refine j_aload_n G dL_charge_0 rfl 2 rfl ?_
  refine j_iconst (v := 0) G dL_charge_1 (by decide) ?_
  refine j_aload_n G dL_charge_2 rfl 0 rfl ?_
  refine j_iload_n G dL_charge_3 rfl 1 rfl ?_
  refine jXV_i G 6 0 (fw_Xi hM [] [(o, .inl (cA 4, 1, .inr (.inl g)))] rfl) gL_55 hd_X6_charge ⟨Nat.le_refl _, Nat.le_refl _⟩ ⟨by show 0 + mc ≤ mc; omega, by show 0 + ms ≤ ms; omega⟩ rfl rfl (Nat.le_of_ble_eq_true rfl) rfl (wl_ hb) dL_charge_4 (fun E9 w9 hq9 => ?_) (fun r w' hq9 => ?_)
  · obtain ⟨b9, h9, hw9⟩ := hq9
    obtain rfl : w9 = b9 ++ [(o, .inl (cA 4, 1, .inr (.inl g)))] := hw9
    rcases hpx E9 b9 h9 with rfl | rfl
    · refine j_catch G (name := "java/lang/IndexOutOfBoundsException") [] ⟨0, 9, 12, 13⟩ [⟨0, 9, 15, 17⟩] (htab.trans rfl) (fun _ h8 => absurd h8 List.not_mem_nil) (by decide) (by decide) wd_299 nw_22 (fun q9 => ?_)
      refine j_astore_n (lv' := [(3, .ref q9), (0, .ref q0), (1, .int a1), (2, .ref o)]) G dL_charge_12 rfl (by decide) rfl ?_
      refine j_iconst (v := 1) G dL_charge_13 (by decide) ?_
      refine j_cs (k' := mc) (n' := ms) (by omega) (by omega) ?_
      exact ret _ _ _ _ dL_charge_14 (Or.inr ⟨_, b9, h9, Or.inl ⟨rfl, rfl⟩, rfl⟩)
    · refine j_catch G (name := "java/lang/UnsupportedOperationException") [⟨0, 9, 12, 13⟩] ⟨0, 9, 15, 17⟩ [] (htab.trans rfl) (List.forall_mem_cons.mpr ⟨Or.inr ⟨by decide, "java/lang/IndexOutOfBoundsException", wd_299, nc_1⟩, (fun _ h8 => absurd h8 List.not_mem_nil)⟩) (by decide) (by decide) wd_380 nw_24 (fun q9 => ?_)
      refine j_astore_n (lv' := [(3, .ref q9), (0, .ref q0), (1, .int a1), (2, .ref o)]) G dL_charge_15 rfl (by decide) rfl ?_
      refine j_iconst (v := 2) G dL_charge_16 (by decide) ?_
      refine j_cs (k' := mc) (n' := ms) (by omega) (by omega) ?_
      exact ret _ _ _ _ dL_charge_17 (Or.inr ⟨_, b9, h9, Or.inr (⟨rfl, rfl⟩), rfl⟩)
  obtain ⟨b9, h9, hw9⟩ := hq9
  obtain rfl : w' = b9 ++ [(o, .inl (cA 4, 1, .inr (.inl g)))] := hw9
  refine j_i2l G dL_charge_7 ?_
  refine j_last (w' := b9 ++ [(o, .inl (cA 4, 1, .inr (.inl (vp_updL g 0 r.toInt64))))]) G _ (wr_ (k := 0) (b := [(o, .inl (cA 4, 1, .inr (.inl g)))]) rfl) (show vp_in (nI 0) 1 from vp_in_nI (by decide) (by decide)) dL_charge_8 set_apr ?_
  refine j_goto (tgt := 18) G dL_charge_9 (by decide) ?_
  refine j_iconst (v := 0) G dL_charge_18 (by decide) ?_
  refine j_cs (k' := mc) (n' := ms) (by omega) (by omega) ?_
  exact ret _ _ _ _ dL_charge_19 (Or.inl ⟨r, b9, h9, rfl, rfl⟩)
theorem gw_charge {idx : Nat} (h : Cond.methodLink RL idx yL_charge ∈ WS) : GoodIn WS (va_wsS RL idx yL_charge (wzW yL_charge cL_charge 4 (some .int) [(0, 9, 12, 13), (0, 9, 15, 17)])) := gSW h wd_683 (show Cond.initialized yL_charge.cls ∈ WS from wd_39) wd_684
set_option maxHeartbeats 4000000 in
set_option maxRecDepth 100000 in
theorem cW_sapOf (l : Launch) (D : va_G) (cA : Nat → ClassId) {b0 : va_W} {q0 o : Nat} {fs : List Value} (hb : b0[0]? = some (q0, .inr (6, fs))) (a1 a2 : Int32) (g : Nat → Int64) {f lo mc ms : Nat} {post : Int32 → va_W → Prop} {px : String × va_W → Prop} (hM : Xi l yX6_sapOf cX6_sapOf 4 .int f lo mc ms D cA [.ref q0, .int a1, .int a2] b0 post px) (hpx : ∀ E b', px (E, b') → E = "java/lang/IndexOutOfBoundsException" ∨ E = "java/lang/UnsupportedOperationException" ∨ E = "java/util/NoSuchElementException") : KW l yL_sapOf cL_sapOf 5 [(0, 10, 13, 13), (0, 10, 17, 17), (0, 10, 21, 35)] (f + 1) (8 + (4 + 11) + lo) mc ms D cA [.ref q0, .int a1, .int a2, .ref o] (b0 ++ [(o, .inl (cA 4, 1, .inr (.inl g)))]) (fun r w' => (∃ v b', post v b' ∧ r = 0 ∧ w' = b' ++ [(o, .inl (cA 4, 1, .inr (.inl (vp_updL g 0 v.toInt64))))]) ∨ (∃ E b', px (E, b') ∧ ((E = "java/lang/IndexOutOfBoundsException" ∧ r = 1) ∨ (E = "java/lang/UnsupportedOperationException" ∧ r = 2) ∨ (E = "java/util/NoSuchElementException" ∧ r = 3)) ∧ w' = b' ++ [(o, .inl (cA 4, 1, .inr (.inl g)))])) := by
  refine ent_W (own := RL) (lv0 := [(0, .ref q0), (1, .int a1), (2, .int a2), (3, .ref o)]) (by decide) rfl (Nat.le_of_ble_eq_true rfl) rfl ?_
  intro p e s m args below meth c A Q G htab ret
  refine j_aload_n G dL_sapOf_0 rfl 3 rfl ?_
  refine j_iconst (v := 0) G dL_sapOf_1 (by decide) ?_
  refine j_aload_n G dL_sapOf_2 rfl 0 rfl ?_
  refine j_iload_n G dL_sapOf_3 rfl 1 rfl ?_
  refine j_iload_n G dL_sapOf_4 rfl 2 rfl ?_
  refine jXV_i G 6 0 (fw_Xi hM [] [(o, .inl (cA 4, 1, .inr (.inl g)))] rfl) gL_58 hd_X6_sapOf ⟨Nat.le_refl _, Nat.le_refl _⟩ ⟨by show 0 + mc ≤ mc; omega, by show 0 + ms ≤ ms; omega⟩ rfl rfl (Nat.le_of_ble_eq_true rfl) rfl (wl_ hb) dL_sapOf_5 (fun E9 w9 hq9 => ?_) (fun r w' hq9 => ?_)
  · obtain ⟨b9, h9, hw9⟩ := hq9
    obtain rfl : w9 = b9 ++ [(o, .inl (cA 4, 1, .inr (.inl g)))] := hw9
    rcases hpx E9 b9 h9 with rfl | rfl | rfl
    · refine j_catch G (name := "java/lang/IndexOutOfBoundsException") [] ⟨0, 10, 13, 13⟩ [⟨0, 10, 17, 17⟩, ⟨0, 10, 21, 35⟩] (htab.trans rfl) (fun _ h8 => absurd h8 List.not_mem_nil) (by decide) (by decide) wd_299 nw_22 (fun q9 => ?_)
      refine j_astore (lv' := [(4, .ref q9), (0, .ref q0), (1, .int a1), (2, .int a2), (3, .ref o)]) G dL_sapOf_13 (by decide) rfl ?_
      refine j_iconst (v := 1) G dL_sapOf_15 (by decide) ?_
      refine j_cs (k' := mc) (n' := ms) (by omega) (by omega) ?_
      exact ret _ _ _ _ dL_sapOf_16 (Or.inr ⟨_, b9, h9, Or.inl ⟨rfl, rfl⟩, rfl⟩)
    · refine j_catch G (name := "java/lang/UnsupportedOperationException") [⟨0, 10, 13, 13⟩] ⟨0, 10, 17, 17⟩ [⟨0, 10, 21, 35⟩] (htab.trans rfl) (List.forall_mem_cons.mpr ⟨Or.inr ⟨by decide, "java/lang/IndexOutOfBoundsException", wd_299, nc_1⟩, (fun _ h8 => absurd h8 List.not_mem_nil)⟩) (by decide) (by decide) wd_380 nw_24 (fun q9 => ?_)
      refine j_astore (lv' := [(4, .ref q9), (0, .ref q0), (1, .int a1), (2, .int a2), (3, .ref o)]) G dL_sapOf_17 (by decide) rfl ?_
      refine j_iconst (v := 2) G dL_sapOf_19 (by decide) ?_
      refine j_cs (k' := mc) (n' := ms) (by omega) (by omega) ?_
      exact ret _ _ _ _ dL_sapOf_20 (Or.inr ⟨_, b9, h9, Or.inr (Or.inl ⟨rfl, rfl⟩), rfl⟩)
    · refine j_catch G (name := "java/util/NoSuchElementException") [⟨0, 10, 13, 13⟩, ⟨0, 10, 17, 17⟩] ⟨0, 10, 21, 35⟩ [] (htab.trans rfl) (List.forall_mem_cons.mpr ⟨Or.inr ⟨by decide, "java/lang/IndexOutOfBoundsException", wd_299, nc_3⟩, (List.forall_mem_cons.mpr ⟨Or.inr ⟨by decide, "java/lang/UnsupportedOperationException", wd_380, nc_13⟩, (fun _ h8 => absurd h8 List.not_mem_nil)⟩)⟩) (by decide) (by decide) wd_533 nw_26 (fun q9 => ?_)
      refine j_astore (lv' := [(4, .ref q9), (0, .ref q0), (1, .int a1), (2, .int a2), (3, .ref o)]) G dL_sapOf_21 (by decide) rfl ?_
      refine j_iconst (v := 3) G dL_sapOf_23 (by decide) ?_
      refine j_cs (k' := mc) (n' := ms) (by omega) (by omega) ?_
      exact ret _ _ _ _ dL_sapOf_24 (Or.inr ⟨_, b9, h9, Or.inr (Or.inr (⟨rfl, rfl⟩)), rfl⟩)
  obtain ⟨b9, h9, hw9⟩ := hq9
  obtain rfl : w' = b9 ++ [(o, .inl (cA 4, 1, .inr (.inl g)))] := hw9
  refine j_i2l G dL_sapOf_8 ?_
  refine j_last (w' := b9 ++ [(o, .inl (cA 4, 1, .inr (.inl (vp_updL g 0 r.toInt64))))]) G _ (wr_ (k := 0) (b := [(o, .inl (cA 4, 1, .inr (.inl g)))]) rfl) (show vp_in (nI 0) 1 from vp_in_nI (by decide) (by decide)) dL_sapOf_9 set_apr ?_
  refine j_goto (tgt := 25) G dL_sapOf_10 (by decide) ?_
  refine j_iconst (v := 0) G dL_sapOf_25 (by decide) ?_
  refine j_cs (k' := mc) (n' := ms) (by omega) (by omega) ?_
  exact ret _ _ _ _ dL_sapOf_26 (Or.inl ⟨r, b9, h9, rfl, rfl⟩)
theorem gw_sapOf {idx : Nat} (h : Cond.methodLink RL idx yL_sapOf ∈ WS) : GoodIn WS (va_wsS RL idx yL_sapOf (wzW yL_sapOf cL_sapOf 5 (some .int) [(0, 10, 13, 13), (0, 10, 17, 17), (0, 10, 21, 35)])) := gSW h wd_695 (show Cond.initialized yL_sapOf.cls ∈ WS from wd_39) wd_696
set_option maxHeartbeats 4000000 in
set_option maxRecDepth 100000 in
theorem cW_totalOf (l : Launch) (D : va_G) (cA : Nat → ClassId) {b0 : va_W} {q0 o : Nat} {fs : List Value} (hb : b0[0]? = some (q0, .inr (6, fs))) (a1 : Int32) (g : Nat → Int64) {f lo mc ms : Nat} {post : Int32 → va_W → Prop} {px : String × va_W → Prop} (hM : Xi l yX6_totalOf cX6_totalOf 2 .int f lo mc ms D cA [.ref q0, .int a1] b0 post px) (hpx : ∀ E b', px (E, b') → E = "java/lang/IndexOutOfBoundsException" ∨ E = "java/lang/UnsupportedOperationException") : KW l yL_totalOf cL_totalOf 4 [(0, 9, 12, 13), (0, 9, 15, 17)] (f + 1) (8 + (2 + 11) + lo) mc ms D cA [.ref q0, .int a1, .ref o] (b0 ++ [(o, .inl (cA 4, 1, .inr (.inl g)))]) (fun r w' => (∃ v b', post v b' ∧ r = 0 ∧ w' = b' ++ [(o, .inl (cA 4, 1, .inr (.inl (vp_updL g 0 v.toInt64))))]) ∨ (∃ E b', px (E, b') ∧ ((E = "java/lang/IndexOutOfBoundsException" ∧ r = 1) ∨ (E = "java/lang/UnsupportedOperationException" ∧ r = 2)) ∧ w' = b' ++ [(o, .inl (cA 4, 1, .inr (.inl g)))])) := by
  refine ent_W (own := RL) (lv0 := [(0, .ref q0), (1, .int a1), (2, .ref o)]) (by decide) rfl (Nat.le_of_ble_eq_true rfl) rfl ?_
  intro p e s m args below meth c A Q G htab ret
  refine j_aload_n G dL_totalOf_0 rfl 2 rfl ?_
  refine j_iconst (v := 0) G dL_totalOf_1 (by decide) ?_
  refine j_aload_n G dL_totalOf_2 rfl 0 rfl ?_
  refine j_iload_n G dL_totalOf_3 rfl 1 rfl ?_
  refine jXV_i G 6 0 (fw_Xi hM [] [(o, .inl (cA 4, 1, .inr (.inl g)))] rfl) gL_61 hd_X6_totalOf ⟨Nat.le_refl _, Nat.le_refl _⟩ ⟨by show 0 + mc ≤ mc; omega, by show 0 + ms ≤ ms; omega⟩ rfl rfl (Nat.le_of_ble_eq_true rfl) rfl (wl_ hb) dL_totalOf_4 (fun E9 w9 hq9 => ?_) (fun r w' hq9 => ?_)
  · obtain ⟨b9, h9, hw9⟩ := hq9
    obtain rfl : w9 = b9 ++ [(o, .inl (cA 4, 1, .inr (.inl g)))] := hw9
    rcases hpx E9 b9 h9 with rfl | rfl
    · refine j_catch G (name := "java/lang/IndexOutOfBoundsException") [] ⟨0, 9, 12, 13⟩ [⟨0, 9, 15, 17⟩] (htab.trans rfl) (fun _ h8 => absurd h8 List.not_mem_nil) (by decide) (by decide) wd_299 nw_22 (fun q9 => ?_)
      refine j_astore_n (lv' := [(3, .ref q9), (0, .ref q0), (1, .int a1), (2, .ref o)]) G dL_totalOf_12 rfl (by decide) rfl ?_
      refine j_iconst (v := 1) G dL_totalOf_13 (by decide) ?_
      refine j_cs (k' := mc) (n' := ms) (by omega) (by omega) ?_
      exact ret _ _ _ _ dL_totalOf_14 (Or.inr ⟨_, b9, h9, Or.inl ⟨rfl, rfl⟩, rfl⟩)
    · refine j_catch G (name := "java/lang/UnsupportedOperationException") [⟨0, 9, 12, 13⟩] ⟨0, 9, 15, 17⟩ [] (htab.trans rfl) (List.forall_mem_cons.mpr ⟨Or.inr ⟨by decide, "java/lang/IndexOutOfBoundsException", wd_299, nc_1⟩, (fun _ h8 => absurd h8 List.not_mem_nil)⟩) (by decide) (by decide) wd_380 nw_24 (fun q9 => ?_)
      refine j_astore_n (lv' := [(3, .ref q9), (0, .ref q0), (1, .int a1), (2, .ref o)]) G dL_totalOf_15 rfl (by decide) rfl ?_
      refine j_iconst (v := 2) G dL_totalOf_16 (by decide) ?_
      refine j_cs (k' := mc) (n' := ms) (by omega) (by omega) ?_
      exact ret _ _ _ _ dL_totalOf_17 (Or.inr ⟨_, b9, h9, Or.inr (⟨rfl, rfl⟩), rfl⟩)
  obtain ⟨b9, h9, hw9⟩ := hq9
  obtain rfl : w' = b9 ++ [(o, .inl (cA 4, 1, .inr (.inl g)))] := hw9
  refine j_i2l G dL_totalOf_7 ?_
  refine j_last (w' := b9 ++ [(o, .inl (cA 4, 1, .inr (.inl (vp_updL g 0 r.toInt64))))]) G _ (wr_ (k := 0) (b := [(o, .inl (cA 4, 1, .inr (.inl g)))]) rfl) (show vp_in (nI 0) 1 from vp_in_nI (by decide) (by decide)) dL_totalOf_8 set_apr ?_
  refine j_goto (tgt := 18) G dL_totalOf_9 (by decide) ?_
  refine j_iconst (v := 0) G dL_totalOf_18 (by decide) ?_
  refine j_cs (k' := mc) (n' := ms) (by omega) (by omega) ?_
  exact ret _ _ _ _ dL_totalOf_19 (Or.inl ⟨r, b9, h9, rfl, rfl⟩)
theorem gw_totalOf {idx : Nat} (h : Cond.methodLink RL idx yL_totalOf ∈ WS) : GoodIn WS (va_wsS RL idx yL_totalOf (wzW yL_totalOf cL_totalOf 4 (some .int) [(0, 9, 12, 13), (0, 9, 15, 17)])) := gSW h wd_703 (show Cond.initialized yL_totalOf.cls ∈ WS from wd_39) wd_704
set_option maxHeartbeats 4000000 in
set_option maxRecDepth 100000 in
theorem cW_tapByYield (l : Launch) (D : va_G) (cA : Nat → ClassId) {b0 : va_W} {q0 o : Nat} {fs : List Value} (hb : b0[0]? = some (q0, .inr (6, fs))) (a1 : Int32) (g : Nat → Int64) {f lo mc ms : Nat} {post : Int32 → va_W → Prop} {px : String × va_W → Prop} (hM : Xi l yX6_tapByYield cX6_tapByYield 4 .int f lo mc ms D cA [.ref q0, .int a1] b0 post px) (hpx : ∀ E b', px (E, b') → E = "java/util/NoSuchElementException") : KW l yL_tapByYield cL_tapByYield 4 [(0, 9, 12, 35)] (f + 1) (8 + (4 + 11) + lo) mc ms D cA [.ref q0, .int a1, .ref o] (b0 ++ [(o, .inl (cA 4, 1, .inr (.inl g)))]) (fun r w' => (∃ v b', post v b' ∧ r = 0 ∧ w' = b' ++ [(o, .inl (cA 4, 1, .inr (.inl (vp_updL g 0 v.toInt64))))]) ∨ (∃ E b', px (E, b') ∧ ((E = "java/util/NoSuchElementException" ∧ r = 1)) ∧ w' = b' ++ [(o, .inl (cA 4, 1, .inr (.inl g)))])) := by
  refine ent_W (own := RL) (lv0 := [(0, .ref q0), (1, .int a1), (2, .ref o)]) (by decide) rfl (Nat.le_of_ble_eq_true rfl) rfl ?_
  intro p e s m args below meth c A Q G htab ret
  refine j_aload_n G dL_tapByYield_0 rfl 2 rfl ?_
  refine j_iconst (v := 0) G dL_tapByYield_1 (by decide) ?_
  refine j_aload_n G dL_tapByYield_2 rfl 0 rfl ?_
  refine j_iload_n G dL_tapByYield_3 rfl 1 rfl ?_
  refine jXV_i G 6 0 (fw_Xi hM [] [(o, .inl (cA 4, 1, .inr (.inl g)))] rfl) gL_64 hd_X6_tapByYield ⟨Nat.le_refl _, Nat.le_refl _⟩ ⟨by show 0 + mc ≤ mc; omega, by show 0 + ms ≤ ms; omega⟩ rfl rfl (Nat.le_of_ble_eq_true rfl) rfl (wl_ hb) dL_tapByYield_4 (fun E9 w9 hq9 => ?_) (fun r w' hq9 => ?_)
  · obtain ⟨b9, h9, hw9⟩ := hq9
    obtain rfl : w9 = b9 ++ [(o, .inl (cA 4, 1, .inr (.inl g)))] := hw9
    obtain rfl := hpx E9 b9 h9
    refine j_catch G (name := "java/util/NoSuchElementException") [] ⟨0, 9, 12, 35⟩ [] (htab.trans rfl) (fun _ h8 => absurd h8 List.not_mem_nil) (by decide) (by decide) wd_533 nw_26 (fun q9 => ?_)
    refine j_astore_n (lv' := [(3, .ref q9), (0, .ref q0), (1, .int a1), (2, .ref o)]) G dL_tapByYield_12 rfl (by decide) rfl ?_
    refine j_iconst (v := 1) G dL_tapByYield_13 (by decide) ?_
    refine j_cs (k' := mc) (n' := ms) (by omega) (by omega) ?_
    exact ret _ _ _ _ dL_tapByYield_14 (Or.inr ⟨_, b9, h9, ⟨rfl, rfl⟩, rfl⟩)
  obtain ⟨b9, h9, hw9⟩ := hq9
  obtain rfl : w' = b9 ++ [(o, .inl (cA 4, 1, .inr (.inl g)))] := hw9
  refine j_i2l G dL_tapByYield_7 ?_
  refine j_last (w' := b9 ++ [(o, .inl (cA 4, 1, .inr (.inl (vp_updL g 0 r.toInt64))))]) G _ (wr_ (k := 0) (b := [(o, .inl (cA 4, 1, .inr (.inl g)))]) rfl) (show vp_in (nI 0) 1 from vp_in_nI (by decide) (by decide)) dL_tapByYield_8 set_apr ?_
  refine j_goto (tgt := 15) G dL_tapByYield_9 (by decide) ?_
  refine j_iconst (v := 0) G dL_tapByYield_15 (by decide) ?_
  refine j_cs (k' := mc) (n' := ms) (by omega) (by omega) ?_
  exact ret _ _ _ _ dL_tapByYield_16 (Or.inl ⟨r, b9, h9, rfl, rfl⟩)
theorem gw_tapByYield {idx : Nat} (h : Cond.methodLink RL idx yL_tapByYield ∈ WS) : GoodIn WS (va_wsS RL idx yL_tapByYield (wzW yL_tapByYield cL_tapByYield 4 (some .int) [(0, 9, 12, 35)])) := gSW h wd_710 (show Cond.initialized yL_tapByYield.cls ∈ WS from wd_39) wd_711
set_option maxHeartbeats 4000000 in
set_option maxRecDepth 100000 in
theorem cW_addTank (l : Launch) (D : va_G) (cA : Nat → ClassId) {b0 : va_W} {q0 o : Nat} {fs : List Value} (hb : b0[0]? = some (q0, .inr (6, fs))) (a1 : Int32) (g : Nat → Int64) {f lo mc ms : Nat} {post : Int32 → va_W → Prop} {px : String × va_W → Prop} (hM : Xi l yX6_addTank cX6_addTank 3 .int f lo mc ms D cA [.ref q0, .int a1] b0 post px) (hpx : ∀ E b', px (E, b') → E = "java/lang/IllegalArgumentException" ∨ E = "java/lang/IllegalStateException") : KW l yL_addTank cL_addTank 4 [(0, 9, 12, 15), (0, 9, 15, 19)] (f + 1) (8 + (3 + 11) + lo) mc ms D cA [.ref q0, .int a1, .ref o] (b0 ++ [(o, .inl (cA 4, 1, .inr (.inl g)))]) (fun r w' => (∃ v b', post v b' ∧ r = 0 ∧ w' = b' ++ [(o, .inl (cA 4, 1, .inr (.inl (vp_updL g 0 v.toInt64))))]) ∨ (∃ E b', px (E, b') ∧ ((E = "java/lang/IllegalArgumentException" ∧ r = 1) ∨ (E = "java/lang/IllegalStateException" ∧ r = 2)) ∧ w' = b' ++ [(o, .inl (cA 4, 1, .inr (.inl g)))])) := by
  refine ent_W (own := RL) (lv0 := [(0, .ref q0), (1, .int a1), (2, .ref o)]) (by decide) rfl (Nat.le_of_ble_eq_true rfl) rfl ?_
  intro p e s m args below meth c A Q G htab ret
  refine j_aload_n G dL_addTank_0 rfl 2 rfl ?_
  refine j_iconst (v := 0) G dL_addTank_1 (by decide) ?_
  refine j_aload_n G dL_addTank_2 rfl 0 rfl ?_
  refine j_iload_n G dL_addTank_3 rfl 1 rfl ?_
  refine jXV_i G 6 0 (fw_Xi hM [] [(o, .inl (cA 4, 1, .inr (.inl g)))] rfl) gL_67 hd_X6_addTank ⟨Nat.le_refl _, Nat.le_refl _⟩ ⟨by show 0 + mc ≤ mc; omega, by show 0 + ms ≤ ms; omega⟩ rfl rfl (Nat.le_of_ble_eq_true rfl) rfl (wl_ hb) dL_addTank_4 (fun E9 w9 hq9 => ?_) (fun r w' hq9 => ?_)
  · obtain ⟨b9, h9, hw9⟩ := hq9
    obtain rfl : w9 = b9 ++ [(o, .inl (cA 4, 1, .inr (.inl g)))] := hw9
    rcases hpx E9 b9 h9 with rfl | rfl
    · refine j_catch G (name := "java/lang/IllegalArgumentException") [] ⟨0, 9, 12, 15⟩ [⟨0, 9, 15, 19⟩] (htab.trans rfl) (fun _ h8 => absurd h8 List.not_mem_nil) (by decide) (by decide) wd_379 nw_23 (fun q9 => ?_)
      refine j_astore_n (lv' := [(3, .ref q9), (0, .ref q0), (1, .int a1), (2, .ref o)]) G dL_addTank_12 rfl (by decide) rfl ?_
      refine j_iconst (v := 1) G dL_addTank_13 (by decide) ?_
      refine j_cs (k' := mc) (n' := ms) (by omega) (by omega) ?_
      exact ret _ _ _ _ dL_addTank_14 (Or.inr ⟨_, b9, h9, Or.inl ⟨rfl, rfl⟩, rfl⟩)
    · refine j_catch G (name := "java/lang/IllegalStateException") [⟨0, 9, 12, 15⟩] ⟨0, 9, 15, 19⟩ [] (htab.trans rfl) (List.forall_mem_cons.mpr ⟨Or.inr ⟨by decide, "java/lang/IllegalArgumentException", wd_379, nc_7⟩, (fun _ h8 => absurd h8 List.not_mem_nil)⟩) (by decide) (by decide) wd_381 nw_25 (fun q9 => ?_)
      refine j_astore_n (lv' := [(3, .ref q9), (0, .ref q0), (1, .int a1), (2, .ref o)]) G dL_addTank_15 rfl (by decide) rfl ?_
      refine j_iconst (v := 2) G dL_addTank_16 (by decide) ?_
      refine j_cs (k' := mc) (n' := ms) (by omega) (by omega) ?_
      exact ret _ _ _ _ dL_addTank_17 (Or.inr ⟨_, b9, h9, Or.inr (⟨rfl, rfl⟩), rfl⟩)
  obtain ⟨b9, h9, hw9⟩ := hq9
  obtain rfl : w' = b9 ++ [(o, .inl (cA 4, 1, .inr (.inl g)))] := hw9
  refine j_i2l G dL_addTank_7 ?_
  refine j_last (w' := b9 ++ [(o, .inl (cA 4, 1, .inr (.inl (vp_updL g 0 r.toInt64))))]) G _ (wr_ (k := 0) (b := [(o, .inl (cA 4, 1, .inr (.inl g)))]) rfl) (show vp_in (nI 0) 1 from vp_in_nI (by decide) (by decide)) dL_addTank_8 set_apr ?_
  refine j_goto (tgt := 18) G dL_addTank_9 (by decide) ?_
  refine j_iconst (v := 0) G dL_addTank_18 (by decide) ?_
  refine j_cs (k' := mc) (n' := ms) (by omega) (by omega) ?_
  exact ret _ _ _ _ dL_addTank_19 (Or.inl ⟨r, b9, h9, rfl, rfl⟩)
theorem gw_addTank {idx : Nat} (h : Cond.methodLink RL idx yL_addTank ∈ WS) : GoodIn WS (va_wsS RL idx yL_addTank (wzW yL_addTank cL_addTank 4 (some .int) [(0, 9, 12, 15), (0, 9, 15, 19)])) := gSW h wd_717 (show Cond.initialized yL_addTank.cls ∈ WS from wd_39) wd_718
set_option maxHeartbeats 4000000 in
set_option maxRecDepth 100000 in
theorem cW_drain (l : Launch) (D : va_G) (cA : Nat → ClassId) {b0 : va_W} {q0 o : Nat} {fs : List Value} (hb : b0[0]? = some (q0, .inr (6, fs))) (a1 : Int32) (g : Nat → Int64) {f lo mc ms : Nat} {post : Int32 → va_W → Prop} {px : String × va_W → Prop} (hM : Xi l yX6_drain cX6_drain 5 .int f lo mc ms D cA [.ref q0, .int a1] b0 post px) (hpx : ∀ E b', px (E, b') → E = "java/lang/IndexOutOfBoundsException") : KW l yL_drain cL_drain 4 [(0, 9, 12, 13)] (f + 1) (8 + (5 + 11) + lo) mc ms D cA [.ref q0, .int a1, .ref o] (b0 ++ [(o, .inl (cA 4, 1, .inr (.inl g)))]) (fun r w' => (∃ v b', post v b' ∧ r = 0 ∧ w' = b' ++ [(o, .inl (cA 4, 1, .inr (.inl (vp_updL g 0 v.toInt64))))]) ∨ (∃ E b', px (E, b') ∧ ((E = "java/lang/IndexOutOfBoundsException" ∧ r = 1)) ∧ w' = b' ++ [(o, .inl (cA 4, 1, .inr (.inl g)))])) := by
  refine ent_W (own := RL) (lv0 := [(0, .ref q0), (1, .int a1), (2, .ref o)]) (by decide) rfl (Nat.le_of_ble_eq_true rfl) rfl ?_
  intro p e s m args below meth c A Q G htab ret
  refine j_aload_n G dL_drain_0 rfl 2 rfl ?_
  refine j_iconst (v := 0) G dL_drain_1 (by decide) ?_
  refine j_aload_n G dL_drain_2 rfl 0 rfl ?_
  refine j_iload_n G dL_drain_3 rfl 1 rfl ?_
  refine jXV_i G 6 0 (fw_Xi hM [] [(o, .inl (cA 4, 1, .inr (.inl g)))] rfl) gL_70 hd_X6_drain ⟨Nat.le_refl _, Nat.le_refl _⟩ ⟨by show 0 + mc ≤ mc; omega, by show 0 + ms ≤ ms; omega⟩ rfl rfl (Nat.le_of_ble_eq_true rfl) rfl (wl_ hb) dL_drain_4 (fun E9 w9 hq9 => ?_) (fun r w' hq9 => ?_)
  · obtain ⟨b9, h9, hw9⟩ := hq9
    obtain rfl : w9 = b9 ++ [(o, .inl (cA 4, 1, .inr (.inl g)))] := hw9
    obtain rfl := hpx E9 b9 h9
    refine j_catch G (name := "java/lang/IndexOutOfBoundsException") [] ⟨0, 9, 12, 13⟩ [] (htab.trans rfl) (fun _ h8 => absurd h8 List.not_mem_nil) (by decide) (by decide) wd_299 nw_22 (fun q9 => ?_)
    refine j_astore_n (lv' := [(3, .ref q9), (0, .ref q0), (1, .int a1), (2, .ref o)]) G dL_drain_12 rfl (by decide) rfl ?_
    refine j_iconst (v := 1) G dL_drain_13 (by decide) ?_
    refine j_cs (k' := mc) (n' := ms) (by omega) (by omega) ?_
    exact ret _ _ _ _ dL_drain_14 (Or.inr ⟨_, b9, h9, ⟨rfl, rfl⟩, rfl⟩)
  obtain ⟨b9, h9, hw9⟩ := hq9
  obtain rfl : w' = b9 ++ [(o, .inl (cA 4, 1, .inr (.inl g)))] := hw9
  refine j_i2l G dL_drain_7 ?_
  refine j_last (w' := b9 ++ [(o, .inl (cA 4, 1, .inr (.inl (vp_updL g 0 r.toInt64))))]) G _ (wr_ (k := 0) (b := [(o, .inl (cA 4, 1, .inr (.inl g)))]) rfl) (show vp_in (nI 0) 1 from vp_in_nI (by decide) (by decide)) dL_drain_8 set_apr ?_
  refine j_goto (tgt := 15) G dL_drain_9 (by decide) ?_
  refine j_iconst (v := 0) G dL_drain_15 (by decide) ?_
  refine j_cs (k' := mc) (n' := ms) (by omega) (by omega) ?_
  exact ret _ _ _ _ dL_drain_16 (Or.inl ⟨r, b9, h9, rfl, rfl⟩)
theorem gw_drain {idx : Nat} (h : Cond.methodLink RL idx yL_drain ∈ WS) : GoodIn WS (va_wsS RL idx yL_drain (wzW yL_drain cL_drain 4 (some .int) [(0, 9, 12, 13)])) := gSW h wd_743 (show Cond.initialized yL_drain.cls ∈ WS from wd_39) wd_744
set_option maxHeartbeats 4000000 in
set_option maxRecDepth 100000 in
theorem cW_tankVolume (l : Launch) (D : va_G) (cA : Nat → ClassId) {b0 : va_W} {q0 o : Nat} {fs : List Value} (hb : b0[0]? = some (q0, .inr (6, fs))) (a1 : Int32) (g : Nat → Int64) {f lo mc ms : Nat} {post : Int32 → va_W → Prop} {px : String × va_W → Prop} (hM : Xi l yX6_tankVolume cX6_tankVolume 2 .int f lo mc ms D cA [.ref q0, .int a1] b0 post px) (hpx : ∀ E b', px (E, b') → E = "java/lang/IndexOutOfBoundsException") : KW l yL_tankVolume cL_tankVolume 4 [(0, 9, 12, 13)] (f + 1) (8 + (2 + 11) + lo) mc ms D cA [.ref q0, .int a1, .ref o] (b0 ++ [(o, .inl (cA 4, 1, .inr (.inl g)))]) (fun r w' => (∃ v b', post v b' ∧ r = 0 ∧ w' = b' ++ [(o, .inl (cA 4, 1, .inr (.inl (vp_updL g 0 v.toInt64))))]) ∨ (∃ E b', px (E, b') ∧ ((E = "java/lang/IndexOutOfBoundsException" ∧ r = 1)) ∧ w' = b' ++ [(o, .inl (cA 4, 1, .inr (.inl g)))])) := by
  refine ent_W (own := RL) (lv0 := [(0, .ref q0), (1, .int a1), (2, .ref o)]) (by decide) rfl (Nat.le_of_ble_eq_true rfl) rfl ?_
  intro p e s m args below meth c A Q G htab ret
  refine j_aload_n G dL_tankVolume_0 rfl 2 rfl ?_
  refine j_iconst (v := 0) G dL_tankVolume_1 (by decide) ?_
  refine j_aload_n G dL_tankVolume_2 rfl 0 rfl ?_
  refine j_iload_n G dL_tankVolume_3 rfl 1 rfl ?_
  refine jXV_i G 6 0 (fw_Xi hM [] [(o, .inl (cA 4, 1, .inr (.inl g)))] rfl) gL_73 hd_X6_tankVolume ⟨Nat.le_refl _, Nat.le_refl _⟩ ⟨by show 0 + mc ≤ mc; omega, by show 0 + ms ≤ ms; omega⟩ rfl rfl (Nat.le_of_ble_eq_true rfl) rfl (wl_ hb) dL_tankVolume_4 (fun E9 w9 hq9 => ?_) (fun r w' hq9 => ?_)
  · obtain ⟨b9, h9, hw9⟩ := hq9
    obtain rfl : w9 = b9 ++ [(o, .inl (cA 4, 1, .inr (.inl g)))] := hw9
    obtain rfl := hpx E9 b9 h9
    refine j_catch G (name := "java/lang/IndexOutOfBoundsException") [] ⟨0, 9, 12, 13⟩ [] (htab.trans rfl) (fun _ h8 => absurd h8 List.not_mem_nil) (by decide) (by decide) wd_299 nw_22 (fun q9 => ?_)
    refine j_astore_n (lv' := [(3, .ref q9), (0, .ref q0), (1, .int a1), (2, .ref o)]) G dL_tankVolume_12 rfl (by decide) rfl ?_
    refine j_iconst (v := 1) G dL_tankVolume_13 (by decide) ?_
    refine j_cs (k' := mc) (n' := ms) (by omega) (by omega) ?_
    exact ret _ _ _ _ dL_tankVolume_14 (Or.inr ⟨_, b9, h9, ⟨rfl, rfl⟩, rfl⟩)
  obtain ⟨b9, h9, hw9⟩ := hq9
  obtain rfl : w' = b9 ++ [(o, .inl (cA 4, 1, .inr (.inl g)))] := hw9
  refine j_i2l G dL_tankVolume_7 ?_
  refine j_last (w' := b9 ++ [(o, .inl (cA 4, 1, .inr (.inl (vp_updL g 0 r.toInt64))))]) G _ (wr_ (k := 0) (b := [(o, .inl (cA 4, 1, .inr (.inl g)))]) rfl) (show vp_in (nI 0) 1 from vp_in_nI (by decide) (by decide)) dL_tankVolume_8 set_apr ?_
  refine j_goto (tgt := 15) G dL_tankVolume_9 (by decide) ?_
  refine j_iconst (v := 0) G dL_tankVolume_15 (by decide) ?_
  refine j_cs (k' := mc) (n' := ms) (by omega) (by omega) ?_
  exact ret _ _ _ _ dL_tankVolume_16 (Or.inl ⟨r, b9, h9, rfl, rfl⟩)
theorem gw_tankVolume {idx : Nat} (h : Cond.methodLink RL idx yL_tankVolume ∈ WS) : GoodIn WS (va_wsS RL idx yL_tankVolume (wzW yL_tankVolume cL_tankVolume 4 (some .int) [(0, 9, 12, 13)])) := gSW h wd_759 (show Cond.initialized yL_tankVolume.cls ∈ WS from wd_39) wd_760
set_option maxHeartbeats 4000000 in
set_option maxRecDepth 100000 in
theorem cW_tankSugar (l : Launch) (D : va_G) (cA : Nat → ClassId) {b0 : va_W} {q0 o : Nat} {fs : List Value} (hb : b0[0]? = some (q0, .inr (6, fs))) (a1 : Int32) (g : Nat → Int64) {f lo mc ms : Nat} {post : Int32 → va_W → Prop} {px : String × va_W → Prop} (hM : Xi l yX6_tankSugar cX6_tankSugar 2 .int f lo mc ms D cA [.ref q0, .int a1] b0 post px) (hpx : ∀ E b', px (E, b') → E = "java/lang/IndexOutOfBoundsException") : KW l yL_tankSugar cL_tankSugar 4 [(0, 9, 12, 13)] (f + 1) (8 + (2 + 11) + lo) mc ms D cA [.ref q0, .int a1, .ref o] (b0 ++ [(o, .inl (cA 4, 1, .inr (.inl g)))]) (fun r w' => (∃ v b', post v b' ∧ r = 0 ∧ w' = b' ++ [(o, .inl (cA 4, 1, .inr (.inl (vp_updL g 0 v.toInt64))))]) ∨ (∃ E b', px (E, b') ∧ ((E = "java/lang/IndexOutOfBoundsException" ∧ r = 1)) ∧ w' = b' ++ [(o, .inl (cA 4, 1, .inr (.inl g)))])) := by
  refine ent_W (own := RL) (lv0 := [(0, .ref q0), (1, .int a1), (2, .ref o)]) (by decide) rfl (Nat.le_of_ble_eq_true rfl) rfl ?_
  intro p e s m args below meth c A Q G htab ret
  refine j_aload_n G dL_tankSugar_0 rfl 2 rfl ?_
  refine j_iconst (v := 0) G dL_tankSugar_1 (by decide) ?_
  refine j_aload_n G dL_tankSugar_2 rfl 0 rfl ?_
  refine j_iload_n G dL_tankSugar_3 rfl 1 rfl ?_
  refine jXV_i G 6 0 (fw_Xi hM [] [(o, .inl (cA 4, 1, .inr (.inl g)))] rfl) gL_76 hd_X6_tankSugar ⟨Nat.le_refl _, Nat.le_refl _⟩ ⟨by show 0 + mc ≤ mc; omega, by show 0 + ms ≤ ms; omega⟩ rfl rfl (Nat.le_of_ble_eq_true rfl) rfl (wl_ hb) dL_tankSugar_4 (fun E9 w9 hq9 => ?_) (fun r w' hq9 => ?_)
  · obtain ⟨b9, h9, hw9⟩ := hq9
    obtain rfl : w9 = b9 ++ [(o, .inl (cA 4, 1, .inr (.inl g)))] := hw9
    obtain rfl := hpx E9 b9 h9
    refine j_catch G (name := "java/lang/IndexOutOfBoundsException") [] ⟨0, 9, 12, 13⟩ [] (htab.trans rfl) (fun _ h8 => absurd h8 List.not_mem_nil) (by decide) (by decide) wd_299 nw_22 (fun q9 => ?_)
    refine j_astore_n (lv' := [(3, .ref q9), (0, .ref q0), (1, .int a1), (2, .ref o)]) G dL_tankSugar_12 rfl (by decide) rfl ?_
    refine j_iconst (v := 1) G dL_tankSugar_13 (by decide) ?_
    refine j_cs (k' := mc) (n' := ms) (by omega) (by omega) ?_
    exact ret _ _ _ _ dL_tankSugar_14 (Or.inr ⟨_, b9, h9, ⟨rfl, rfl⟩, rfl⟩)
  obtain ⟨b9, h9, hw9⟩ := hq9
  obtain rfl : w' = b9 ++ [(o, .inl (cA 4, 1, .inr (.inl g)))] := hw9
  refine j_i2l G dL_tankSugar_7 ?_
  refine j_last (w' := b9 ++ [(o, .inl (cA 4, 1, .inr (.inl (vp_updL g 0 r.toInt64))))]) G _ (wr_ (k := 0) (b := [(o, .inl (cA 4, 1, .inr (.inl g)))]) rfl) (show vp_in (nI 0) 1 from vp_in_nI (by decide) (by decide)) dL_tankSugar_8 set_apr ?_
  refine j_goto (tgt := 15) G dL_tankSugar_9 (by decide) ?_
  refine j_iconst (v := 0) G dL_tankSugar_15 (by decide) ?_
  refine j_cs (k' := mc) (n' := ms) (by omega) (by omega) ?_
  exact ret _ _ _ _ dL_tankSugar_16 (Or.inl ⟨r, b9, h9, rfl, rfl⟩)
theorem gw_tankSugar {idx : Nat} (h : Cond.methodLink RL idx yL_tankSugar ∈ WS) : GoodIn WS (va_wsS RL idx yL_tankSugar (wzW yL_tankSugar cL_tankSugar 4 (some .int) [(0, 9, 12, 13)])) := gSW h wd_766 (show Cond.initialized yL_tankSugar.cls ∈ WS from wd_39) wd_767
set_option maxHeartbeats 4000000 in
set_option maxRecDepth 100000 in
theorem cW_load (l : Launch) (D : va_G) (cA : Nat → ClassId) {b0 : va_W} {q0 o : Nat} {fs : List Value} (hb : b0[0]? = some (q0, .inr (6, fs))) (a1 a2 : Int32) (g : Nat → Int64) {f lo mc ms : Nat} {post : Int32 → va_W → Prop} {px : String × va_W → Prop} (hM : Xi l yX6_load cX6_load 5 .int f lo mc ms D cA [.ref q0, .int a1, .int a2] b0 post px) (hpx : ∀ E b', px (E, b') → E = "java/lang/IndexOutOfBoundsException" ∨ E = "java/lang/IllegalArgumentException" ∨ E = "java/lang/UnsupportedOperationException" ∨ E = "java/lang/IllegalStateException") : KW l yL_load cL_load 5 [(0, 10, 13, 13), (0, 10, 17, 15), (0, 10, 21, 17), (0, 10, 25, 19)] (f + 1) (8 + (5 + 11) + lo) mc ms D cA [.ref q0, .int a1, .int a2, .ref o] (b0 ++ [(o, .inl (cA 4, 1, .inr (.inl g)))]) (fun r w' => (∃ v b', post v b' ∧ r = 0 ∧ w' = b' ++ [(o, .inl (cA 4, 1, .inr (.inl (vp_updL g 0 v.toInt64))))]) ∨ (∃ E b', px (E, b') ∧ ((E = "java/lang/IndexOutOfBoundsException" ∧ r = 1) ∨ (E = "java/lang/IllegalArgumentException" ∧ r = 2) ∨ (E = "java/lang/UnsupportedOperationException" ∧ r = 3) ∨ (E = "java/lang/IllegalStateException" ∧ r = 4)) ∧ w' = b' ++ [(o, .inl (cA 4, 1, .inr (.inl g)))])) := by
  refine ent_W (own := RL) (lv0 := [(0, .ref q0), (1, .int a1), (2, .int a2), (3, .ref o)]) (by decide) rfl (Nat.le_of_ble_eq_true rfl) rfl ?_
  intro p e s m args below meth c A Q G htab ret
  refine j_aload_n G dL_load_0 rfl 3 rfl ?_
  refine j_iconst (v := 0) G dL_load_1 (by decide) ?_
  refine j_aload_n G dL_load_2 rfl 0 rfl ?_
  refine j_iload_n G dL_load_3 rfl 1 rfl ?_
  refine j_iload_n G dL_load_4 rfl 2 rfl ?_
  refine jXV_i G 6 0 (fw_Xi hM [] [(o, .inl (cA 4, 1, .inr (.inl g)))] rfl) gL_79 hd_X6_load ⟨Nat.le_refl _, Nat.le_refl _⟩ ⟨by show 0 + mc ≤ mc; omega, by show 0 + ms ≤ ms; omega⟩ rfl rfl (Nat.le_of_ble_eq_true rfl) rfl (wl_ hb) dL_load_5 (fun E9 w9 hq9 => ?_) (fun r w' hq9 => ?_)
  · obtain ⟨b9, h9, hw9⟩ := hq9
    obtain rfl : w9 = b9 ++ [(o, .inl (cA 4, 1, .inr (.inl g)))] := hw9
    rcases hpx E9 b9 h9 with rfl | rfl | rfl | rfl
    · refine j_catch G (name := "java/lang/IndexOutOfBoundsException") [] ⟨0, 10, 13, 13⟩ [⟨0, 10, 17, 15⟩, ⟨0, 10, 21, 17⟩, ⟨0, 10, 25, 19⟩] (htab.trans rfl) (fun _ h8 => absurd h8 List.not_mem_nil) (by decide) (by decide) wd_299 nw_22 (fun q9 => ?_)
      refine j_astore (lv' := [(4, .ref q9), (0, .ref q0), (1, .int a1), (2, .int a2), (3, .ref o)]) G dL_load_13 (by decide) rfl ?_
      refine j_iconst (v := 1) G dL_load_15 (by decide) ?_
      refine j_cs (k' := mc) (n' := ms) (by omega) (by omega) ?_
      exact ret _ _ _ _ dL_load_16 (Or.inr ⟨_, b9, h9, Or.inl ⟨rfl, rfl⟩, rfl⟩)
    · refine j_catch G (name := "java/lang/IllegalArgumentException") [⟨0, 10, 13, 13⟩] ⟨0, 10, 17, 15⟩ [⟨0, 10, 21, 17⟩, ⟨0, 10, 25, 19⟩] (htab.trans rfl) (List.forall_mem_cons.mpr ⟨Or.inr ⟨by decide, "java/lang/IndexOutOfBoundsException", wd_299, nc_0⟩, (fun _ h8 => absurd h8 List.not_mem_nil)⟩) (by decide) (by decide) wd_379 nw_23 (fun q9 => ?_)
      refine j_astore (lv' := [(4, .ref q9), (0, .ref q0), (1, .int a1), (2, .int a2), (3, .ref o)]) G dL_load_17 (by decide) rfl ?_
      refine j_iconst (v := 2) G dL_load_19 (by decide) ?_
      refine j_cs (k' := mc) (n' := ms) (by omega) (by omega) ?_
      exact ret _ _ _ _ dL_load_20 (Or.inr ⟨_, b9, h9, Or.inr (Or.inl ⟨rfl, rfl⟩), rfl⟩)
    · refine j_catch G (name := "java/lang/UnsupportedOperationException") [⟨0, 10, 13, 13⟩, ⟨0, 10, 17, 15⟩] ⟨0, 10, 21, 17⟩ [⟨0, 10, 25, 19⟩] (htab.trans rfl) (List.forall_mem_cons.mpr ⟨Or.inr ⟨by decide, "java/lang/IndexOutOfBoundsException", wd_299, nc_1⟩, (List.forall_mem_cons.mpr ⟨Or.inr ⟨by decide, "java/lang/IllegalArgumentException", wd_379, nc_6⟩, (fun _ h8 => absurd h8 List.not_mem_nil)⟩)⟩) (by decide) (by decide) wd_380 nw_24 (fun q9 => ?_)
      refine j_astore (lv' := [(4, .ref q9), (0, .ref q0), (1, .int a1), (2, .int a2), (3, .ref o)]) G dL_load_21 (by decide) rfl ?_
      refine j_iconst (v := 3) G dL_load_23 (by decide) ?_
      refine j_cs (k' := mc) (n' := ms) (by omega) (by omega) ?_
      exact ret _ _ _ _ dL_load_24 (Or.inr ⟨_, b9, h9, Or.inr (Or.inr (Or.inl ⟨rfl, rfl⟩)), rfl⟩)
    · refine j_catch G (name := "java/lang/IllegalStateException") [⟨0, 10, 13, 13⟩, ⟨0, 10, 17, 15⟩, ⟨0, 10, 21, 17⟩] ⟨0, 10, 25, 19⟩ [] (htab.trans rfl) (List.forall_mem_cons.mpr ⟨Or.inr ⟨by decide, "java/lang/IndexOutOfBoundsException", wd_299, nc_2⟩, (List.forall_mem_cons.mpr ⟨Or.inr ⟨by decide, "java/lang/IllegalArgumentException", wd_379, nc_7⟩, (List.forall_mem_cons.mpr ⟨Or.inr ⟨by decide, "java/lang/UnsupportedOperationException", wd_380, nc_12⟩, (fun _ h8 => absurd h8 List.not_mem_nil)⟩)⟩)⟩) (by decide) (by decide) wd_381 nw_25 (fun q9 => ?_)
      refine j_astore (lv' := [(4, .ref q9), (0, .ref q0), (1, .int a1), (2, .int a2), (3, .ref o)]) G dL_load_25 (by decide) rfl ?_
      refine j_iconst (v := 4) G dL_load_27 (by decide) ?_
      refine j_cs (k' := mc) (n' := ms) (by omega) (by omega) ?_
      exact ret _ _ _ _ dL_load_28 (Or.inr ⟨_, b9, h9, Or.inr (Or.inr (Or.inr (⟨rfl, rfl⟩))), rfl⟩)
  obtain ⟨b9, h9, hw9⟩ := hq9
  obtain rfl : w' = b9 ++ [(o, .inl (cA 4, 1, .inr (.inl g)))] := hw9
  refine j_i2l G dL_load_8 ?_
  refine j_last (w' := b9 ++ [(o, .inl (cA 4, 1, .inr (.inl (vp_updL g 0 r.toInt64))))]) G _ (wr_ (k := 0) (b := [(o, .inl (cA 4, 1, .inr (.inl g)))]) rfl) (show vp_in (nI 0) 1 from vp_in_nI (by decide) (by decide)) dL_load_9 set_apr ?_
  refine j_goto (tgt := 29) G dL_load_10 (by decide) ?_
  refine j_iconst (v := 0) G dL_load_29 (by decide) ?_
  refine j_cs (k' := mc) (n' := ms) (by omega) (by omega) ?_
  exact ret _ _ _ _ dL_load_30 (Or.inl ⟨r, b9, h9, rfl, rfl⟩)
theorem gw_load {idx : Nat} (h : Cond.methodLink RL idx yL_load ∈ WS) : GoodIn WS (va_wsS RL idx yL_load (wzW yL_load cL_load 5 (some .int) [(0, 10, 13, 13), (0, 10, 17, 15), (0, 10, 21, 17), (0, 10, 25, 19)])) := gSW h wd_773 (show Cond.initialized yL_load.cls ∈ WS from wd_39) wd_774
set_option maxHeartbeats 4000000 in
set_option maxRecDepth 100000 in
theorem cW_setFire (l : Launch) (D : va_G) (cA : Nat → ClassId) {b0 : va_W} {q0 o : Nat} {fs : List Value} (hb : b0[0]? = some (q0, .inr (6, fs))) (a1 : Int32) (g : Nat → Int64) {f lo mc ms : Nat} {post : Int32 → va_W → Prop} {px : String × va_W → Prop} (hM : Xi l yX6_setFire cX6_setFire 3 .int f lo mc ms D cA [.ref q0, .int a1] b0 post px) (hpx : ∀ E b', px (E, b') → E = "java/lang/IllegalArgumentException") : KW l yL_setFire cL_setFire 4 [(0, 9, 12, 15)] (f + 1) (8 + (3 + 11) + lo) mc ms D cA [.ref q0, .int a1, .ref o] (b0 ++ [(o, .inl (cA 4, 1, .inr (.inl g)))]) (fun r w' => (∃ v b', post v b' ∧ r = 0 ∧ w' = b' ++ [(o, .inl (cA 4, 1, .inr (.inl (vp_updL g 0 v.toInt64))))]) ∨ (∃ E b', px (E, b') ∧ ((E = "java/lang/IllegalArgumentException" ∧ r = 1)) ∧ w' = b' ++ [(o, .inl (cA 4, 1, .inr (.inl g)))])) := by
  refine ent_W (own := RL) (lv0 := [(0, .ref q0), (1, .int a1), (2, .ref o)]) (by decide) rfl (Nat.le_of_ble_eq_true rfl) rfl ?_
  intro p e s m args below meth c A Q G htab ret
  refine j_aload_n G dL_setFire_0 rfl 2 rfl ?_
  refine j_iconst (v := 0) G dL_setFire_1 (by decide) ?_
  refine j_aload_n G dL_setFire_2 rfl 0 rfl ?_
  refine j_iload_n G dL_setFire_3 rfl 1 rfl ?_
  refine jXV_i G 6 0 (fw_Xi hM [] [(o, .inl (cA 4, 1, .inr (.inl g)))] rfl) gL_82 hd_X6_setFire ⟨Nat.le_refl _, Nat.le_refl _⟩ ⟨by show 0 + mc ≤ mc; omega, by show 0 + ms ≤ ms; omega⟩ rfl rfl (Nat.le_of_ble_eq_true rfl) rfl (wl_ hb) dL_setFire_4 (fun E9 w9 hq9 => ?_) (fun r w' hq9 => ?_)
  · obtain ⟨b9, h9, hw9⟩ := hq9
    obtain rfl : w9 = b9 ++ [(o, .inl (cA 4, 1, .inr (.inl g)))] := hw9
    obtain rfl := hpx E9 b9 h9
    refine j_catch G (name := "java/lang/IllegalArgumentException") [] ⟨0, 9, 12, 15⟩ [] (htab.trans rfl) (fun _ h8 => absurd h8 List.not_mem_nil) (by decide) (by decide) wd_379 nw_23 (fun q9 => ?_)
    refine j_astore_n (lv' := [(3, .ref q9), (0, .ref q0), (1, .int a1), (2, .ref o)]) G dL_setFire_12 rfl (by decide) rfl ?_
    refine j_iconst (v := 1) G dL_setFire_13 (by decide) ?_
    refine j_cs (k' := mc) (n' := ms) (by omega) (by omega) ?_
    exact ret _ _ _ _ dL_setFire_14 (Or.inr ⟨_, b9, h9, ⟨rfl, rfl⟩, rfl⟩)
  obtain ⟨b9, h9, hw9⟩ := hq9
  obtain rfl : w' = b9 ++ [(o, .inl (cA 4, 1, .inr (.inl g)))] := hw9
  refine j_i2l G dL_setFire_7 ?_
  refine j_last (w' := b9 ++ [(o, .inl (cA 4, 1, .inr (.inl (vp_updL g 0 r.toInt64))))]) G _ (wr_ (k := 0) (b := [(o, .inl (cA 4, 1, .inr (.inl g)))]) rfl) (show vp_in (nI 0) 1 from vp_in_nI (by decide) (by decide)) dL_setFire_8 set_apr ?_
  refine j_goto (tgt := 15) G dL_setFire_9 (by decide) ?_
  refine j_iconst (v := 0) G dL_setFire_15 (by decide) ?_
  refine j_cs (k' := mc) (n' := ms) (by omega) (by omega) ?_
  exact ret _ _ _ _ dL_setFire_16 (Or.inl ⟨r, b9, h9, rfl, rfl⟩)
theorem gw_setFire {idx : Nat} (h : Cond.methodLink RL idx yL_setFire ∈ WS) : GoodIn WS (va_wsS RL idx yL_setFire (wzW yL_setFire cL_setFire 4 (some .int) [(0, 9, 12, 15)])) := gSW h wd_787 (show Cond.initialized yL_setFire.cls ∈ WS from wd_39) wd_788
set_option maxHeartbeats 4000000 in
set_option maxRecDepth 100000 in
theorem cW_hoursToReady (l : Launch) (D : va_G) (cA : Nat → ClassId) {b0 : va_W} {q0 o : Nat} {fs : List Value} (hb : b0[0]? = some (q0, .inr (6, fs))) (g : Nat → Int64) {f lo mc ms : Nat} {post : Int32 → va_W → Prop} {px : String × va_W → Prop} (hM : Xi l yX6_hoursToReady cX6_hoursToReady 3 .int f lo mc ms D cA [.ref q0] b0 post px) (hpx : ∀ E b', px (E, b') → E = "java/util/NoSuchElementException") : KW l yL_hoursToReady cL_hoursToReady 3 [(0, 8, 11, 35)] (f + 1) (8 + (3 + 11) + lo) mc ms D cA [.ref q0, .ref o] (b0 ++ [(o, .inl (cA 4, 1, .inr (.inl g)))]) (fun r w' => (∃ v b', post v b' ∧ r = 0 ∧ w' = b' ++ [(o, .inl (cA 4, 1, .inr (.inl (vp_updL g 0 v.toInt64))))]) ∨ (∃ E b', px (E, b') ∧ ((E = "java/util/NoSuchElementException" ∧ r = 1)) ∧ w' = b' ++ [(o, .inl (cA 4, 1, .inr (.inl g)))])) := by
  refine ent_W (own := RL) (lv0 := [(0, .ref q0), (1, .ref o)]) (by decide) rfl (Nat.le_of_ble_eq_true rfl) rfl ?_
  intro p e s m args below meth c A Q G htab ret
  refine j_aload_n G dL_hoursToReady_0 rfl 1 rfl ?_
  refine j_iconst (v := 0) G dL_hoursToReady_1 (by decide) ?_
  refine j_aload_n G dL_hoursToReady_2 rfl 0 rfl ?_
  refine jXV_i G 6 0 (fw_Xi hM [] [(o, .inl (cA 4, 1, .inr (.inl g)))] rfl) gL_85 hd_X6_hoursToReady ⟨Nat.le_refl _, Nat.le_refl _⟩ ⟨by show 0 + mc ≤ mc; omega, by show 0 + ms ≤ ms; omega⟩ rfl rfl (Nat.le_of_ble_eq_true rfl) rfl (wl_ hb) dL_hoursToReady_3 (fun E9 w9 hq9 => ?_) (fun r w' hq9 => ?_)
  · obtain ⟨b9, h9, hw9⟩ := hq9
    obtain rfl : w9 = b9 ++ [(o, .inl (cA 4, 1, .inr (.inl g)))] := hw9
    obtain rfl := hpx E9 b9 h9
    refine j_catch G (name := "java/util/NoSuchElementException") [] ⟨0, 8, 11, 35⟩ [] (htab.trans rfl) (fun _ h8 => absurd h8 List.not_mem_nil) (by decide) (by decide) wd_533 nw_26 (fun q9 => ?_)
    refine j_astore_n (lv' := [(2, .ref q9), (0, .ref q0), (1, .ref o)]) G dL_hoursToReady_11 rfl (by decide) rfl ?_
    refine j_iconst (v := 1) G dL_hoursToReady_12 (by decide) ?_
    refine j_cs (k' := mc) (n' := ms) (by omega) (by omega) ?_
    exact ret _ _ _ _ dL_hoursToReady_13 (Or.inr ⟨_, b9, h9, ⟨rfl, rfl⟩, rfl⟩)
  obtain ⟨b9, h9, hw9⟩ := hq9
  obtain rfl : w' = b9 ++ [(o, .inl (cA 4, 1, .inr (.inl g)))] := hw9
  refine j_i2l G dL_hoursToReady_6 ?_
  refine j_last (w' := b9 ++ [(o, .inl (cA 4, 1, .inr (.inl (vp_updL g 0 r.toInt64))))]) G _ (wr_ (k := 0) (b := [(o, .inl (cA 4, 1, .inr (.inl g)))]) rfl) (show vp_in (nI 0) 1 from vp_in_nI (by decide) (by decide)) dL_hoursToReady_7 set_apr ?_
  refine j_goto (tgt := 14) G dL_hoursToReady_8 (by decide) ?_
  refine j_iconst (v := 0) G dL_hoursToReady_14 (by decide) ?_
  refine j_cs (k' := mc) (n' := ms) (by omega) (by omega) ?_
  exact ret _ _ _ _ dL_hoursToReady_15 (Or.inl ⟨r, b9, h9, rfl, rfl⟩)
theorem gw_hoursToReady {idx : Nat} (h : Cond.methodLink RL idx yL_hoursToReady ∈ WS) : GoodIn WS (va_wsS RL idx yL_hoursToReady (wzW yL_hoursToReady cL_hoursToReady 3 (some .int) [(0, 8, 11, 35)])) := gSW h wd_795 (show Cond.initialized yL_hoursToReady.cls ∈ WS from wd_39) wd_796
set_option maxHeartbeats 4000000 in
set_option maxRecDepth 100000 in
theorem cW_hoursByBoiling (l : Launch) (D : va_G) (cA : Nat → ClassId) {b0 : va_W} {q0 o : Nat} {fs : List Value} (hb : b0[0]? = some (q0, .inr (6, fs))) (g : Nat → Int64) {f lo mc ms : Nat} {post : Int32 → va_W → Prop} {px : String × va_W → Prop} (hM : Xi l yX6_hoursByBoiling cX6_hoursByBoiling 2 .int f lo mc ms D cA [.ref q0] b0 post px) (hpx : ∀ E b', px (E, b') → E = "java/util/NoSuchElementException") : KW l yL_hoursByBoiling cL_hoursByBoiling 3 [(0, 8, 11, 35)] (f + 1) (8 + (2 + 11) + lo) mc ms D cA [.ref q0, .ref o] (b0 ++ [(o, .inl (cA 4, 1, .inr (.inl g)))]) (fun r w' => (∃ v b', post v b' ∧ r = 0 ∧ w' = b' ++ [(o, .inl (cA 4, 1, .inr (.inl (vp_updL g 0 v.toInt64))))]) ∨ (∃ E b', px (E, b') ∧ ((E = "java/util/NoSuchElementException" ∧ r = 1)) ∧ w' = b' ++ [(o, .inl (cA 4, 1, .inr (.inl g)))])) := by
  refine ent_W (own := RL) (lv0 := [(0, .ref q0), (1, .ref o)]) (by decide) rfl (Nat.le_of_ble_eq_true rfl) rfl ?_
  intro p e s m args below meth c A Q G htab ret
  refine j_aload_n G dL_hoursByBoiling_0 rfl 1 rfl ?_
  refine j_iconst (v := 0) G dL_hoursByBoiling_1 (by decide) ?_
  refine j_aload_n G dL_hoursByBoiling_2 rfl 0 rfl ?_
  refine jXV_i G 6 0 (fw_Xi hM [] [(o, .inl (cA 4, 1, .inr (.inl g)))] rfl) gL_89 hd_X6_hoursByBoiling ⟨Nat.le_refl _, Nat.le_refl _⟩ ⟨by show 0 + mc ≤ mc; omega, by show 0 + ms ≤ ms; omega⟩ rfl rfl (Nat.le_of_ble_eq_true rfl) rfl (wl_ hb) dL_hoursByBoiling_3 (fun E9 w9 hq9 => ?_) (fun r w' hq9 => ?_)
  · obtain ⟨b9, h9, hw9⟩ := hq9
    obtain rfl : w9 = b9 ++ [(o, .inl (cA 4, 1, .inr (.inl g)))] := hw9
    obtain rfl := hpx E9 b9 h9
    refine j_catch G (name := "java/util/NoSuchElementException") [] ⟨0, 8, 11, 35⟩ [] (htab.trans rfl) (fun _ h8 => absurd h8 List.not_mem_nil) (by decide) (by decide) wd_533 nw_26 (fun q9 => ?_)
    refine j_astore_n (lv' := [(2, .ref q9), (0, .ref q0), (1, .ref o)]) G dL_hoursByBoiling_11 rfl (by decide) rfl ?_
    refine j_iconst (v := 1) G dL_hoursByBoiling_12 (by decide) ?_
    refine j_cs (k' := mc) (n' := ms) (by omega) (by omega) ?_
    exact ret _ _ _ _ dL_hoursByBoiling_13 (Or.inr ⟨_, b9, h9, ⟨rfl, rfl⟩, rfl⟩)
  obtain ⟨b9, h9, hw9⟩ := hq9
  obtain rfl : w' = b9 ++ [(o, .inl (cA 4, 1, .inr (.inl g)))] := hw9
  refine j_i2l G dL_hoursByBoiling_6 ?_
  refine j_last (w' := b9 ++ [(o, .inl (cA 4, 1, .inr (.inl (vp_updL g 0 r.toInt64))))]) G _ (wr_ (k := 0) (b := [(o, .inl (cA 4, 1, .inr (.inl g)))]) rfl) (show vp_in (nI 0) 1 from vp_in_nI (by decide) (by decide)) dL_hoursByBoiling_7 set_apr ?_
  refine j_goto (tgt := 14) G dL_hoursByBoiling_8 (by decide) ?_
  refine j_iconst (v := 0) G dL_hoursByBoiling_14 (by decide) ?_
  refine j_cs (k' := mc) (n' := ms) (by omega) (by omega) ?_
  exact ret _ _ _ _ dL_hoursByBoiling_15 (Or.inl ⟨r, b9, h9, rfl, rfl⟩)
theorem gw_hoursByBoiling {idx : Nat} (h : Cond.methodLink RL idx yL_hoursByBoiling ∈ WS) : GoodIn WS (va_wsS RL idx yL_hoursByBoiling (wzW yL_hoursByBoiling cL_hoursByBoiling 3 (some .int) [(0, 8, 11, 35)])) := gSW h wd_809 (show Cond.initialized yL_hoursByBoiling.cls ∈ WS from wd_39) wd_810
set_option maxHeartbeats 4000000 in
set_option maxRecDepth 100000 in
theorem cW_draw (l : Launch) (D : va_G) (cA : Nat → ClassId) {b0 : va_W} {q0 o : Nat} {fs : List Value} (hb : b0[0]? = some (q0, .inr (6, fs))) (g : Nat → Int64) {f lo mc ms : Nat} {post : Int32 → va_W → Prop} {px : String × va_W → Prop} (hM : Xi l yX6_draw cX6_draw 2 .int f lo mc ms D cA [.ref q0] b0 post px) (hpx : ∀ E b', px (E, b') → E = "java/lang/UnsupportedOperationException" ∨ E = "java/lang/IllegalStateException") : KW l yL_draw cL_draw 3 [(0, 8, 11, 17), (0, 8, 14, 19)] (f + 1) (8 + (2 + 11) + lo) mc ms D cA [.ref q0, .ref o] (b0 ++ [(o, .inl (cA 4, 1, .inr (.inl g)))]) (fun r w' => (∃ v b', post v b' ∧ r = 0 ∧ w' = b' ++ [(o, .inl (cA 4, 1, .inr (.inl (vp_updL g 0 v.toInt64))))]) ∨ (∃ E b', px (E, b') ∧ ((E = "java/lang/UnsupportedOperationException" ∧ r = 1) ∨ (E = "java/lang/IllegalStateException" ∧ r = 2)) ∧ w' = b' ++ [(o, .inl (cA 4, 1, .inr (.inl g)))])) := by
  refine ent_W (own := RL) (lv0 := [(0, .ref q0), (1, .ref o)]) (by decide) rfl (Nat.le_of_ble_eq_true rfl) rfl ?_
  intro p e s m args below meth c A Q G htab ret
  refine j_aload_n G dL_draw_0 rfl 1 rfl ?_
  refine j_iconst (v := 0) G dL_draw_1 (by decide) ?_
  refine j_aload_n G dL_draw_2 rfl 0 rfl ?_
  refine jXV_i G 6 0 (fw_Xi hM [] [(o, .inl (cA 4, 1, .inr (.inl g)))] rfl) gL_92 hd_X6_draw ⟨Nat.le_refl _, Nat.le_refl _⟩ ⟨by show 0 + mc ≤ mc; omega, by show 0 + ms ≤ ms; omega⟩ rfl rfl (Nat.le_of_ble_eq_true rfl) rfl (wl_ hb) dL_draw_3 (fun E9 w9 hq9 => ?_) (fun r w' hq9 => ?_)
  · obtain ⟨b9, h9, hw9⟩ := hq9
    obtain rfl : w9 = b9 ++ [(o, .inl (cA 4, 1, .inr (.inl g)))] := hw9
    rcases hpx E9 b9 h9 with rfl | rfl
    · refine j_catch G (name := "java/lang/UnsupportedOperationException") [] ⟨0, 8, 11, 17⟩ [⟨0, 8, 14, 19⟩] (htab.trans rfl) (fun _ h8 => absurd h8 List.not_mem_nil) (by decide) (by decide) wd_380 nw_24 (fun q9 => ?_)
      refine j_astore_n (lv' := [(2, .ref q9), (0, .ref q0), (1, .ref o)]) G dL_draw_11 rfl (by decide) rfl ?_
      refine j_iconst (v := 1) G dL_draw_12 (by decide) ?_
      refine j_cs (k' := mc) (n' := ms) (by omega) (by omega) ?_
      exact ret _ _ _ _ dL_draw_13 (Or.inr ⟨_, b9, h9, Or.inl ⟨rfl, rfl⟩, rfl⟩)
    · refine j_catch G (name := "java/lang/IllegalStateException") [⟨0, 8, 11, 17⟩] ⟨0, 8, 14, 19⟩ [] (htab.trans rfl) (List.forall_mem_cons.mpr ⟨Or.inr ⟨by decide, "java/lang/UnsupportedOperationException", wd_380, nc_12⟩, (fun _ h8 => absurd h8 List.not_mem_nil)⟩) (by decide) (by decide) wd_381 nw_25 (fun q9 => ?_)
      refine j_astore_n (lv' := [(2, .ref q9), (0, .ref q0), (1, .ref o)]) G dL_draw_14 rfl (by decide) rfl ?_
      refine j_iconst (v := 2) G dL_draw_15 (by decide) ?_
      refine j_cs (k' := mc) (n' := ms) (by omega) (by omega) ?_
      exact ret _ _ _ _ dL_draw_16 (Or.inr ⟨_, b9, h9, Or.inr (⟨rfl, rfl⟩), rfl⟩)
  obtain ⟨b9, h9, hw9⟩ := hq9
  obtain rfl : w' = b9 ++ [(o, .inl (cA 4, 1, .inr (.inl g)))] := hw9
  refine j_i2l G dL_draw_6 ?_
  refine j_last (w' := b9 ++ [(o, .inl (cA 4, 1, .inr (.inl (vp_updL g 0 r.toInt64))))]) G _ (wr_ (k := 0) (b := [(o, .inl (cA 4, 1, .inr (.inl g)))]) rfl) (show vp_in (nI 0) 1 from vp_in_nI (by decide) (by decide)) dL_draw_7 set_apr ?_
  refine j_goto (tgt := 17) G dL_draw_8 (by decide) ?_
  refine j_iconst (v := 0) G dL_draw_17 (by decide) ?_
  refine j_cs (k' := mc) (n' := ms) (by omega) (by omega) ?_
  exact ret _ _ _ _ dL_draw_18 (Or.inl ⟨r, b9, h9, rfl, rfl⟩)
theorem gw_draw {idx : Nat} (h : Cond.methodLink RL idx yL_draw ∈ WS) : GoodIn WS (va_wsS RL idx yL_draw (wzW yL_draw cL_draw 3 (some .int) [(0, 8, 11, 17), (0, 8, 14, 19)])) := gSW h wd_820 (show Cond.initialized yL_draw.cls ∈ WS from wd_39) wd_821
set_option maxHeartbeats 4000000 in
set_option maxRecDepth 100000 in
theorem cW_batchVolume (l : Launch) (D : va_G) (cA : Nat → ClassId) {b0 : va_W} {q0 o : Nat} {fs : List Value} (hb : b0[0]? = some (q0, .inr (6, fs))) (a1 : Int32) (g : Nat → Int64) {f lo mc ms : Nat} {post : Int32 → va_W → Prop} {px : String × va_W → Prop} (hM : Xi l yX6_batchVolume cX6_batchVolume 2 .int f lo mc ms D cA [.ref q0, .int a1] b0 post px) (hpx : ∀ E b', px (E, b') → E = "java/lang/IndexOutOfBoundsException") : KW l yL_batchVolume cL_batchVolume 4 [(0, 9, 12, 13)] (f + 1) (8 + (2 + 11) + lo) mc ms D cA [.ref q0, .int a1, .ref o] (b0 ++ [(o, .inl (cA 4, 1, .inr (.inl g)))]) (fun r w' => (∃ v b', post v b' ∧ r = 0 ∧ w' = b' ++ [(o, .inl (cA 4, 1, .inr (.inl (vp_updL g 0 v.toInt64))))]) ∨ (∃ E b', px (E, b') ∧ ((E = "java/lang/IndexOutOfBoundsException" ∧ r = 1)) ∧ w' = b' ++ [(o, .inl (cA 4, 1, .inr (.inl g)))])) := by
  refine ent_W (own := RL) (lv0 := [(0, .ref q0), (1, .int a1), (2, .ref o)]) (by decide) rfl (Nat.le_of_ble_eq_true rfl) rfl ?_
  intro p e s m args below meth c A Q G htab ret
  refine j_aload_n G dL_batchVolume_0 rfl 2 rfl ?_
  refine j_iconst (v := 0) G dL_batchVolume_1 (by decide) ?_
  refine j_aload_n G dL_batchVolume_2 rfl 0 rfl ?_
  refine j_iload_n G dL_batchVolume_3 rfl 1 rfl ?_
  refine jXV_i G 6 0 (fw_Xi hM [] [(o, .inl (cA 4, 1, .inr (.inl g)))] rfl) gL_95 hd_X6_batchVolume ⟨Nat.le_refl _, Nat.le_refl _⟩ ⟨by show 0 + mc ≤ mc; omega, by show 0 + ms ≤ ms; omega⟩ rfl rfl (Nat.le_of_ble_eq_true rfl) rfl (wl_ hb) dL_batchVolume_4 (fun E9 w9 hq9 => ?_) (fun r w' hq9 => ?_)
  · obtain ⟨b9, h9, hw9⟩ := hq9
    obtain rfl : w9 = b9 ++ [(o, .inl (cA 4, 1, .inr (.inl g)))] := hw9
    obtain rfl := hpx E9 b9 h9
    refine j_catch G (name := "java/lang/IndexOutOfBoundsException") [] ⟨0, 9, 12, 13⟩ [] (htab.trans rfl) (fun _ h8 => absurd h8 List.not_mem_nil) (by decide) (by decide) wd_299 nw_22 (fun q9 => ?_)
    refine j_astore_n (lv' := [(3, .ref q9), (0, .ref q0), (1, .int a1), (2, .ref o)]) G dL_batchVolume_12 rfl (by decide) rfl ?_
    refine j_iconst (v := 1) G dL_batchVolume_13 (by decide) ?_
    refine j_cs (k' := mc) (n' := ms) (by omega) (by omega) ?_
    exact ret _ _ _ _ dL_batchVolume_14 (Or.inr ⟨_, b9, h9, ⟨rfl, rfl⟩, rfl⟩)
  obtain ⟨b9, h9, hw9⟩ := hq9
  obtain rfl : w' = b9 ++ [(o, .inl (cA 4, 1, .inr (.inl g)))] := hw9
  refine j_i2l G dL_batchVolume_7 ?_
  refine j_last (w' := b9 ++ [(o, .inl (cA 4, 1, .inr (.inl (vp_updL g 0 r.toInt64))))]) G _ (wr_ (k := 0) (b := [(o, .inl (cA 4, 1, .inr (.inl g)))]) rfl) (show vp_in (nI 0) 1 from vp_in_nI (by decide) (by decide)) dL_batchVolume_8 set_apr ?_
  refine j_goto (tgt := 15) G dL_batchVolume_9 (by decide) ?_
  refine j_iconst (v := 0) G dL_batchVolume_15 (by decide) ?_
  refine j_cs (k' := mc) (n' := ms) (by omega) (by omega) ?_
  exact ret _ _ _ _ dL_batchVolume_16 (Or.inl ⟨r, b9, h9, rfl, rfl⟩)
theorem gw_batchVolume {idx : Nat} (h : Cond.methodLink RL idx yL_batchVolume ∈ WS) : GoodIn WS (va_wsS RL idx yL_batchVolume (wzW yL_batchVolume cL_batchVolume 4 (some .int) [(0, 9, 12, 13)])) := gSW h wd_840 (show Cond.initialized yL_batchVolume.cls ∈ WS from wd_39) wd_841
set_option maxHeartbeats 4000000 in
set_option maxRecDepth 100000 in
theorem cW_gradeOf (l : Launch) (D : va_G) (cA : Nat → ClassId) {b0 : va_W} {q0 o : Nat} {fs : List Value} (hb : b0[0]? = some (q0, .inr (6, fs))) (a1 : Int32) (g : Nat → Int64) {f lo mc ms : Nat} {post : Int32 → va_W → Prop} {px : String × va_W → Prop} (hM : Xi l yX6_gradeOf cX6_gradeOf 2 .char f lo mc ms D cA [.ref q0, .int a1] b0 post px) (hpx : ∀ E b', px (E, b') → E = "java/lang/IndexOutOfBoundsException") : KW l yL_gradeOf cL_gradeOf 4 [(0, 9, 12, 13)] (f + 1) (8 + (2 + 11) + lo) mc ms D cA [.ref q0, .int a1, .ref o] (b0 ++ [(o, .inl (cA 4, 1, .inr (.inl g)))]) (fun r w' => (∃ v b', post v b' ∧ r = 0 ∧ w' = b' ++ [(o, .inl (cA 4, 1, .inr (.inl (vp_updL g 0 v.toInt64))))]) ∨ (∃ E b', px (E, b') ∧ ((E = "java/lang/IndexOutOfBoundsException" ∧ r = 1)) ∧ w' = b' ++ [(o, .inl (cA 4, 1, .inr (.inl g)))])) := by
  refine ent_W (own := RL) (lv0 := [(0, .ref q0), (1, .int a1), (2, .ref o)]) (by decide) rfl (Nat.le_of_ble_eq_true rfl) rfl ?_
  intro p e s m args below meth c A Q G htab ret
  refine j_aload_n G dL_gradeOf_0 rfl 2 rfl ?_
  refine j_iconst (v := 0) G dL_gradeOf_1 (by decide) ?_
  refine j_aload_n G dL_gradeOf_2 rfl 0 rfl ?_
  refine j_iload_n G dL_gradeOf_3 rfl 1 rfl ?_
  refine jXV_i G 6 0 (fw_Xi hM [] [(o, .inl (cA 4, 1, .inr (.inl g)))] rfl) gL_98 hd_X6_gradeOf ⟨Nat.le_refl _, Nat.le_refl _⟩ ⟨by show 0 + mc ≤ mc; omega, by show 0 + ms ≤ ms; omega⟩ rfl rfl (Nat.le_of_ble_eq_true rfl) rfl (wl_ hb) dL_gradeOf_4 (fun E9 w9 hq9 => ?_) (fun r w' hq9 => ?_)
  · obtain ⟨b9, h9, hw9⟩ := hq9
    obtain rfl : w9 = b9 ++ [(o, .inl (cA 4, 1, .inr (.inl g)))] := hw9
    obtain rfl := hpx E9 b9 h9
    refine j_catch G (name := "java/lang/IndexOutOfBoundsException") [] ⟨0, 9, 12, 13⟩ [] (htab.trans rfl) (fun _ h8 => absurd h8 List.not_mem_nil) (by decide) (by decide) wd_299 nw_22 (fun q9 => ?_)
    refine j_astore_n (lv' := [(3, .ref q9), (0, .ref q0), (1, .int a1), (2, .ref o)]) G dL_gradeOf_12 rfl (by decide) rfl ?_
    refine j_iconst (v := 1) G dL_gradeOf_13 (by decide) ?_
    refine j_cs (k' := mc) (n' := ms) (by omega) (by omega) ?_
    exact ret _ _ _ _ dL_gradeOf_14 (Or.inr ⟨_, b9, h9, ⟨rfl, rfl⟩, rfl⟩)
  obtain ⟨b9, h9, hw9⟩ := hq9
  obtain rfl : w' = b9 ++ [(o, .inl (cA 4, 1, .inr (.inl g)))] := hw9
  refine j_i2l G dL_gradeOf_7 ?_
  refine j_last (w' := b9 ++ [(o, .inl (cA 4, 1, .inr (.inl (vp_updL g 0 r.toInt64))))]) G _ (wr_ (k := 0) (b := [(o, .inl (cA 4, 1, .inr (.inl g)))]) rfl) (show vp_in (nI 0) 1 from vp_in_nI (by decide) (by decide)) dL_gradeOf_8 set_apr ?_
  refine j_goto (tgt := 15) G dL_gradeOf_9 (by decide) ?_
  refine j_iconst (v := 0) G dL_gradeOf_15 (by decide) ?_
  refine j_cs (k' := mc) (n' := ms) (by omega) (by omega) ?_
  exact ret _ _ _ _ dL_gradeOf_16 (Or.inl ⟨r, b9, h9, rfl, rfl⟩)
theorem gw_gradeOf {idx : Nat} (h : Cond.methodLink RL idx yL_gradeOf ∈ WS) : GoodIn WS (va_wsS RL idx yL_gradeOf (wzW yL_gradeOf cL_gradeOf 4 (some .int) [(0, 9, 12, 13)])) := gSW h wd_856 (show Cond.initialized yL_gradeOf.cls ∈ WS from wd_39) wd_857
set_option maxHeartbeats 4000000 in
set_option maxRecDepth 100000 in
theorem cW_lossShare (l : Launch) (D : va_G) (cA : Nat → ClassId) {b0 : va_W} {q0 o : Nat} {fs : List Value} (hb : b0[0]? = some (q0, .inr (6, fs))) (g : Nat → UInt64) {f lo mc ms : Nat} {post : UInt32 → va_W → Prop} {px : String × va_W → Prop} (hM : Xf l yX6_lossShare cX6_lossShare 1 f lo mc ms D cA [.ref q0] b0 post px) (hpx : ∀ E b', px (E, b') → E = "java/lang/ArithmeticException") (hnn : ∀ v b', post v b' → vf_n64 (FP.f2d v)) : KW l yL_lossShare cL_lossShare 3 [(0, 8, 11, 106)] (f + 1) (8 + (1 + 11) + lo) mc ms D cA [.ref q0, .ref o] (b0 ++ [(o, .inl (cA 5, 1, .inr (.inr (.inr (.inl g)))))]) (fun r w' => (∃ v b', post v b' ∧ r = 0 ∧ w' = b' ++ [(o, .inl (cA 5, 1, .inr (.inr (.inr (.inl (vf_upd g 0 (FP.f2d v)))))))]) ∨ (∃ E b', px (E, b') ∧ ((E = "java/lang/ArithmeticException" ∧ r = 1)) ∧ w' = b' ++ [(o, .inl (cA 5, 1, .inr (.inr (.inr (.inl g)))))])) := by
  refine ent_W (own := RL) (lv0 := [(0, .ref q0), (1, .ref o)]) (by decide) rfl (Nat.le_of_ble_eq_true rfl) rfl ?_
  intro p e s m args below meth c A Q G htab ret
  refine j_aload_n G dL_lossShare_0 rfl 1 rfl ?_
  refine j_iconst (v := 0) G dL_lossShare_1 (by decide) ?_
  refine j_aload_n G dL_lossShare_2 rfl 0 rfl ?_
  refine jXV_f G 6 0 (fw_Xf hM [] [(o, .inl (cA 5, 1, .inr (.inr (.inr (.inl g)))))] rfl) gL_102 hd_X6_lossShare ⟨Nat.le_refl _, Nat.le_refl _⟩ ⟨by show 0 + mc ≤ mc; omega, by show 0 + ms ≤ ms; omega⟩ rfl rfl (Nat.le_of_ble_eq_true rfl) rfl (wl_ hb) dL_lossShare_3 (fun E9 w9 hq9 => ?_) (fun r w' hq9 => ?_)
  · obtain ⟨b9, h9, hw9⟩ := hq9
    obtain rfl : w9 = b9 ++ [(o, .inl (cA 5, 1, .inr (.inr (.inr (.inl g)))))] := hw9
    obtain rfl := hpx E9 b9 h9
    refine j_catch G (name := "java/lang/ArithmeticException") [] ⟨0, 8, 11, 106⟩ [] (htab.trans rfl) (fun _ h8 => absurd h8 List.not_mem_nil) (by decide) (by decide) wd_865 nw_27 (fun q9 => ?_)
    refine j_astore_n (lv' := [(2, .ref q9), (0, .ref q0), (1, .ref o)]) G dL_lossShare_11 rfl (by decide) rfl ?_
    refine j_iconst (v := 1) G dL_lossShare_12 (by decide) ?_
    refine j_cs (k' := mc) (n' := ms) (by omega) (by omega) ?_
    exact ret _ _ _ _ dL_lossShare_13 (Or.inr ⟨_, b9, h9, ⟨rfl, rfl⟩, rfl⟩)
  obtain ⟨b9, h9, hw9⟩ := hq9
  obtain rfl : w' = b9 ++ [(o, .inl (cA 5, 1, .inr (.inr (.inr (.inl g)))))] := hw9
  refine j_f2d G dL_lossShare_6 (hnn r b9 h9) ?_
  refine j_dast (w' := b9 ++ [(o, .inl (cA 5, 1, .inr (.inr (.inr (.inl (vf_upd g 0 (FP.f2d r)))))))]) G _ (wr_ (k := 0) (b := [(o, .inl (cA 5, 1, .inr (.inr (.inr (.inl g)))))]) rfl) (show vp_in (nI 0) 1 from vp_in_nI (by decide) (by decide)) dL_lossShare_7 set_apr ?_
  refine j_goto (tgt := 14) G dL_lossShare_8 (by decide) ?_
  refine j_iconst (v := 0) G dL_lossShare_14 (by decide) ?_
  refine j_cs (k' := mc) (n' := ms) (by omega) (by omega) ?_
  exact ret _ _ _ _ dL_lossShare_15 (Or.inl ⟨r, b9, h9, rfl, rfl⟩)
theorem gw_lossShare {idx : Nat} (h : Cond.methodLink RL idx yL_lossShare ∈ WS) : GoodIn WS (va_wsS RL idx yL_lossShare (wzW yL_lossShare cL_lossShare 3 (some .int) [(0, 8, 11, 106)])) := gSW h wd_863 (show Cond.initialized yL_lossShare.cls ∈ WS from wd_39) wd_864
set_option maxHeartbeats 4000000 in
set_option maxRecDepth 100000 in
theorem cW_meanSweetness (l : Launch) (D : va_G) (cA : Nat → ClassId) {b0 : va_W} {q0 o : Nat} {fs : List Value} (hb : b0[0]? = some (q0, .inr (6, fs))) (g : Nat → UInt64) {f lo mc ms : Nat} {post : UInt64 → va_W → Prop} {px : String × va_W → Prop} (hM : Xd l yX6_meanSweetness cX6_meanSweetness 1 f lo mc ms D cA [.ref q0] b0 post px) (hpx : ∀ E b', px (E, b') → E = "java/lang/ArithmeticException") : KW l yL_meanSweetness cL_meanSweetness 3 [(0, 7, 10, 106)] (f + 1) (8 + (1 + 11) + lo) mc ms D cA [.ref q0, .ref o] (b0 ++ [(o, .inl (cA 5, 1, .inr (.inr (.inr (.inl g)))))]) (fun r w' => (∃ v b', post v b' ∧ r = 0 ∧ w' = b' ++ [(o, .inl (cA 5, 1, .inr (.inr (.inr (.inl (vf_upd g 0 v))))))]) ∨ (∃ E b', px (E, b') ∧ ((E = "java/lang/ArithmeticException" ∧ r = 1)) ∧ w' = b' ++ [(o, .inl (cA 5, 1, .inr (.inr (.inr (.inl g)))))])) := by
  refine ent_W (own := RL) (lv0 := [(0, .ref q0), (1, .ref o)]) (by decide) rfl (Nat.le_of_ble_eq_true rfl) rfl ?_
  intro p e s m args below meth c A Q G htab ret
  refine j_aload_n G dL_meanSweetness_0 rfl 1 rfl ?_
  refine j_iconst (v := 0) G dL_meanSweetness_1 (by decide) ?_
  refine j_aload_n G dL_meanSweetness_2 rfl 0 rfl ?_
  refine jXV_d G 6 0 (fw_Xd hM [] [(o, .inl (cA 5, 1, .inr (.inr (.inr (.inl g)))))] rfl) gL_108 hd_X6_meanSweetness ⟨Nat.le_refl _, Nat.le_refl _⟩ ⟨by show 0 + mc ≤ mc; omega, by show 0 + ms ≤ ms; omega⟩ rfl rfl (Nat.le_of_ble_eq_true rfl) rfl (wl_ hb) dL_meanSweetness_3 (fun E9 w9 hq9 => ?_) (fun r w' hq9 => ?_)
  · obtain ⟨b9, h9, hw9⟩ := hq9
    obtain rfl : w9 = b9 ++ [(o, .inl (cA 5, 1, .inr (.inr (.inr (.inl g)))))] := hw9
    obtain rfl := hpx E9 b9 h9
    refine j_catch G (name := "java/lang/ArithmeticException") [] ⟨0, 7, 10, 106⟩ [] (htab.trans rfl) (fun _ h8 => absurd h8 List.not_mem_nil) (by decide) (by decide) wd_865 nw_27 (fun q9 => ?_)
    refine j_astore_n (lv' := [(2, .ref q9), (0, .ref q0), (1, .ref o)]) G dL_meanSweetness_10 rfl (by decide) rfl ?_
    refine j_iconst (v := 1) G dL_meanSweetness_11 (by decide) ?_
    refine j_cs (k' := mc) (n' := ms) (by omega) (by omega) ?_
    exact ret _ _ _ _ dL_meanSweetness_12 (Or.inr ⟨_, b9, h9, ⟨rfl, rfl⟩, rfl⟩)
  obtain ⟨b9, h9, hw9⟩ := hq9
  obtain rfl : w' = b9 ++ [(o, .inl (cA 5, 1, .inr (.inr (.inr (.inl g)))))] := hw9
  refine j_dast (w' := b9 ++ [(o, .inl (cA 5, 1, .inr (.inr (.inr (.inl (vf_upd g 0 r))))))]) G _ (wr_ (k := 0) (b := [(o, .inl (cA 5, 1, .inr (.inr (.inr (.inl g)))))]) rfl) (show vp_in (nI 0) 1 from vp_in_nI (by decide) (by decide)) dL_meanSweetness_6 set_apr ?_
  refine j_goto (tgt := 13) G dL_meanSweetness_7 (by decide) ?_
  refine j_iconst (v := 0) G dL_meanSweetness_13 (by decide) ?_
  refine j_cs (k' := mc) (n' := ms) (by omega) (by omega) ?_
  exact ret _ _ _ _ dL_meanSweetness_14 (Or.inl ⟨r, b9, h9, rfl, rfl⟩)
theorem gw_meanSweetness {idx : Nat} (h : Cond.methodLink RL idx yL_meanSweetness ∈ WS) : GoodIn WS (va_wsS RL idx yL_meanSweetness (wzW yL_meanSweetness cL_meanSweetness 3 (some .int) [(0, 7, 10, 106)])) := gSW h wd_891 (show Cond.initialized yL_meanSweetness.cls ∈ WS from wd_39) wd_892
