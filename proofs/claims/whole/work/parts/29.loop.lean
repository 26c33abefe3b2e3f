/-! THE LAW'S LOOP (printed by gen_loop.py) -/
section LJE
variable {p : Program} {l : Launch} {e : Env} {R : Room} {s : State} {m : MethodId} {args : Array Value} {below : List Frame} {meth : Method} {c : Code} {D : va_G} {cA : Nat → ClassId} {A : Nat → Prop} {nL : Nat}
variable {w : va_W} {k n : Nat} {Q : State → Prop} {pc : Nat} {lv : List (Nat × Value)} {st : List Value} {cc : ByteArray} {own : String}
theorem j_slen (G : GX p s m args c cc nL own D cA A) {b L : Nat} {xs : Nat → Int32} (hX : va_X b L xs s s.heap) (hbl : b < s.heap.size) (hbA : ¬ A b) (hdg : decode cc pc = .ok (.arraylength, 1)) (K : J p l e R s m args below meth c nL D A w k n Q (pc + 1) lv (.int (nI L) :: st)) : J p l e R s m args below meth c nL D A w k n Q pc lv (.ref b :: st) :=
  fun H locs ls hP hD hS hls => va_slen G.1 G.2.1 hX hbl hbA hS hdg (K H locs ls hP hD hS hls)
theorem j_tabIn (G : GX p s m args c cc nL own D cA A) {dflt lo hi : Int} {offs : Array Int} {len : Nat} {x : Int32} {off : Int} {tgt : Nat} (hdg : decode cc pc = .ok (.tableswitch dflt lo hi offs, len)) (h1 : ¬ x.toInt < lo) (h2 : ¬ hi < x.toInt) (ho : offs[(x.toInt - lo).toNat]? = some off) (ht : (pc : Int) + off = (tgt : Int)) (K : J p l e R s m args below meth c nL D A w k n Q tgt lv st) : J p l e R s m args below meth c nL D A w k n Q pc lv (.int x :: st) :=
  fun H locs ls hP hD hS hls => lv_tableIn G.1 G.2.1 hdg h1 h2 ho ht (K H locs ls hP hD hS hls)
theorem j_tabOut (G : GX p s m args c cc nL own D cA A) {dflt lo hi : Int} {offs : Array Int} {len : Nat} {x : Int32} {tgt : Nat} (hdg : decode cc pc = .ok (.tableswitch dflt lo hi offs, len)) (h : x.toInt < lo ∨ hi < x.toInt) (ht : (pc : Int) + dflt = (tgt : Int)) (K : J p l e R s m args below meth c nL D A w k n Q tgt lv st) : J p l e R s m args below meth c nL D A w k n Q pc lv (.int x :: st) :=
  fun H locs ls hP hD hS hls => lv_tableOut G.1 G.2.1 hdg h ht (K H locs ls hP hD hS hls)
end LJE
set_option maxHeartbeats 4000000 in
set_option maxRecDepth 100000 in
theorem law_body {p : Program} {l : Launch} {e : Env} {s : State} {m : MethodId} {args : Array Value} {below : List Frame} {meth : Method} {c : Code} {D : va_G} {cA : Nat → ClassId} {A : Nat → Prop} {Q : State → Prop} (G : GX p s m args c cL_law 9 RL D cA A) (hfl : l.stackTraces = false) {bs Ls : Nat} {xs : Nat → Int32} (hX : va_X bs Ls xs s s.heap) (hbl : bs < s.heap.size) (hbA : ¬ A bs) (hLs : Ls ≤ 3072) (q qm : Nat → Nat) (oa ob : Nat) (hE : ∀ (un : Nat → Nat) (ui : Nat → Int32) (ul : Nat → Int64) (ua : Nat → Nat → Int32) (vc ex wo tp : Nat → Int32) (tf kf : Nat → Option Nat) (L : List Nat) (f : Nat → va_E) (ta ga ka : Nat → Nat) (co : Int32) (g : Nat → Int64) (gd : Nat → UInt64) (i k n : Nat), k ≤ 603072 → n ≤ 7211114 → J p l e (RM 2048 94400 603072 7211114) s m args below meth c 9 D A (mW cA qm un ui ul ua co ++ (((cF cA q un ui ul ua vc ex wo tp tf kf ++ va_pl L f) ++ [(oa, .inl (cA 4, 1, .inr (.inl g)))]) ++ [(ob, .inl (cA 5, 1, .inr (.inr (.inr (.inl gd)))))])) k n Q 2051 [(0, .ref bs), (1, .ref (q 0)), (2, .ref (qm 0)), (3, .ref oa), (4, .ref ob), (5, .int (nI i))] []) {i k n : Nat} (hi9 : i ≤ Ls) (hk : k + 8 ≤ 603072) (hn9 : n + 256 ≤ 7211114) (un : Nat → Nat) (ui : Nat → Int32) (ul : Nat → Int64) (ua : Nat → Nat → Int32) (vc ex wo tp : Nat → Int32) (tf kf : Nat → Option Nat) (L : List Nat) (f : Nat → va_E) (ta ga ka : Nat → Nat) (co : Int32) (g : Nat → Int64) (gd : Nat → UInt64) (hI : INV un ui ua) (hPL : PL cA un ua L f tf kf ta ga ka) (hX9 : i + 5 < Ls → ∀ (un : Nat → Nat) (ui : Nat → Int32) (ul : Nat → Int64) (ua : Nat → Nat → Int32) (vc ex wo tp : Nat → Int32) (tf kf : Nat → Option Nat) (L : List Nat) (f : Nat → va_E) (ta ga ka : Nat → Nat) (co : Int32) (g : Nat → Int64) (gd : Nat → UInt64), INV un ui ua → PL cA un ua L f tf kf ta ga ka → J p l e (RM 2048 94400 603072 7211114) s m args below meth c 9 D A (mW cA qm un ui ul ua co ++ (((cF cA q un ui ul ua vc ex wo tp tf kf ++ va_pl L f) ++ [(oa, .inl (cA 4, 1, .inr (.inl g)))]) ++ [(ob, .inl (cA 5, 1, .inr (.inr (.inr (.inl gd)))))])) (k + 8) (n + 256) Q 28 [(0, .ref bs), (1, .ref (q 0)), (2, .ref (qm 0)), (3, .ref oa), (4, .ref ob), (5, .int (nI (i + 6)))] []) : J p l e (RM 2048 94400 603072 7211114) s m args below meth c 9 D A (mW cA qm un ui ul ua co ++ (((cF cA q un ui ul ua vc ex wo tp tf kf ++ va_pl L f) ++ [(oa, .inl (cA 4, 1, .inr (.inl g)))]) ++ [(ob, .inl (cA 5, 1, .inr (.inr (.inr (.inl gd)))))])) k n Q 28 [(0, .ref bs), (1, .ref (q 0)), (2, .ref (qm 0)), (3, .ref oa), (4, .ref ob), (5, .int (nI i))] [] := by
  refine j_iload G dL_law_28 5 rfl ?_
  refine j_aload_n G dL_law_30 rfl 0 rfl ?_
  refine j_slen G hX hbl hbA dL_law_31 ?_
  refine j_bipush (v := nI 6) G dL_law_32 (by decide) ?_
  refine j_isub G dL_law_34 ?_
  have t1 : (nI Ls - nI 6).toInt = (Ls : Int) - 6 := pk_sub_toInt (by omega) (by omega)
  have t2 : (nI i).toInt = (i : Int) := nI_toInt (by omega)
  refine j_icmp_gt (tgt := 2051) G dL_law_35 (by decide) (fun _ => ?_) (fun h9 => ?_)
  · exact hE un ui ul ua vc ex wo tp tf kf L f ta ga ka co g gd i k n (by omega) (by omega)
  have hi : i + 5 < Ls := by
    have h8 : ¬ ((Ls : Int) - 6 < (i : Int)) := fun z => h9 (Int32.lt_iff_toInt_lt.mpr (by rw [t1, t2]; exact z))
    omega
  have hN : ∀ (un : Nat → Nat) (ui : Nat → Int32) (ul : Nat → Int64) (ua : Nat → Nat → Int32) (vc ex wo tp : Nat → Int32) (tf kf : Nat → Option Nat) (L : List Nat) (f : Nat → va_E) (ta ga ka : Nat → Nat) (co : Int32) (g : Nat → Int64) (gd : Nat → UInt64), INV un ui ua → PL cA un ua L f tf kf ta ga ka → J p l e (RM 2048 94400 603072 7211114) s m args below meth c 9 D A (mW cA qm un ui ul ua co ++ (((cF cA q un ui ul ua vc ex wo tp tf kf ++ va_pl L f) ++ [(oa, .inl (cA 4, 1, .inr (.inl g)))]) ++ [(ob, .inl (cA 5, 1, .inr (.inr (.inr (.inl gd)))))])) (k + 8) (n + 256) Q 2045 [(0, .ref bs), (1, .ref (q 0)), (2, .ref (qm 0)), (3, .ref oa), (4, .ref ob), (5, .int (nI i))] [] := by
    intro un ui ul ua vc ex wo tp tf kf L f ta ga ka co g gd hI hPL
    refine j_iinc (v := nI (i + 6)) (lv' := [(5, .int (nI (i + 6))), (0, .ref bs), (1, .ref (q 0)), (2, .ref (qm 0)), (3, .ref oa), (4, .ref ob)]) G dL_law_2045 5 rfl (show nI i + nI 6 = nI (i + 6) from nI_add i 6) (by decide) rfl ?_
    refine j_goto (tgt := 28) G dL_law_2048 (by decide) ?_
    refine j_sub (lv' := [(0, .ref bs), (1, .ref (q 0)), (2, .ref (qm 0)), (3, .ref oa), (4, .ref ob), (5, .int (nI (i + 6)))]) [1, 2, 3, 4, 5, 0] rfl ?_
    exact hX9 hi un ui ul ua vc ex wo tp tf kf L f ta ga ka co g gd hI hPL
  refine j_aload_n G dL_law_38 rfl 0 rfl ?_
  refine j_iload G dL_law_39 5 rfl ?_
  refine j_sldN (j := i) G hX hbl hbA (by omega) (by omega) dL_law_41 ?_
  refine j_bipush (v := 63) G dL_law_42 (by decide) ?_
  refine j_iand G dL_law_44 ?_
  obtain ⟨j, hj, ej⟩ := pk_andE (xs i) (m := 63) 6 (by decide)
  refine j_rwi ej ?_
  clear ej
  by_cases h9 : 40 < j
  · refine j_tabOut (tgt := 2045) G dL_law_45 (Or.inr (by rw [nI_toInt (by omega)]; omega)) (by decide) ?_
    refine j_cs (k' := k + 8) (n' := n + 256) (by omega) (by omega) ?_
    exact hN un ui ul ua vc ex wo tp tf kf L f ta ga ka co g gd hI hPL
  obtain rfl | rfl | rfl | rfl | rfl | rfl | rfl | rfl | rfl | rfl | rfl | rfl | rfl | rfl | rfl | rfl | rfl | rfl | rfl | rfl | rfl | rfl | rfl | rfl | rfl | rfl | rfl | rfl | rfl | rfl | rfl | rfl | rfl | rfl | rfl | rfl | rfl | rfl | rfl | rfl | rfl := (show j = 0 ∨ j = 1 ∨ j = 2 ∨ j = 3 ∨ j = 4 ∨ j = 5 ∨ j = 6 ∨ j = 7 ∨ j = 8 ∨ j = 9 ∨ j = 10 ∨ j = 11 ∨ j = 12 ∨ j = 13 ∨ j = 14 ∨ j = 15 ∨ j = 16 ∨ j = 17 ∨ j = 18 ∨ j = 19 ∨ j = 20 ∨ j = 21 ∨ j = 22 ∨ j = 23 ∨ j = 24 ∨ j = 25 ∨ j = 26 ∨ j = 27 ∨ j = 28 ∨ j = 29 ∨ j = 30 ∨ j = 31 ∨ j = 32 ∨ j = 33 ∨ j = 34 ∨ j = 35 ∨ j = 36 ∨ j = 37 ∨ j = 38 ∨ j = 39 ∨ j = 40 by omega)
  · refine j_tabIn (off := 179) (tgt := 224) G dL_law_45 (by decide) (by decide) rfl (by decide) ?_
    exact lw_addJunction G hfl hX hbl hbA hLs hi hk hn9 q qm un ui ul ua vc ex wo tp tf kf L f ta ga ka co oa ob g gd hI hPL hN
  · refine j_tabIn (off := 247) (tgt := 292) G dL_law_45 (by decide) (by decide) rfl (by decide) ?_
    exact lw_addTap G hfl hX hbl hbA hLs hi hk hn9 q qm un ui ul ua vc ex wo tp tf kf L f ta ga ka co oa ob g gd hI hPL hN
  · refine j_tabIn (off := 351) (tgt := 396) G dL_law_45 (by decide) (by decide) rfl (by decide) ?_
    exact lw_setPump G hfl hX hbl hbA hLs hi hk hn9 q qm un ui ul ua vc ex wo tp tf kf L f ta ga ka co oa ob g gd hI hPL hN
  · refine j_tabIn (off := 407) (tgt := 452) G dL_law_45 (by decide) (by decide) rfl (by decide) ?_
    exact lw_addLeak G hfl hX hbl hbA hLs hi hk hn9 q qm un ui ul ua vc ex wo tp tf kf L f ta ga ka co oa ob g gd hI hPL hN
  · refine j_tabIn (off := 475) (tgt := 520) G dL_law_45 (by decide) (by decide) rfl (by decide) ?_
    exact lw_repair G hfl hX hbl hbA hLs hi hk hn9 q qm un ui ul ua vc ex wo tp tf kf L f ta ga ka co oa ob g gd hI hPL hN
  · refine j_tabIn (off := 531) (tgt := 576) G dL_law_45 (by decide) (by decide) rfl (by decide) ?_
    exact lw_nodes G hfl hX hbl hbA hLs hi hk hn9 q qm un ui ul ua vc ex wo tp tf kf L f ta ga ka co oa ob g gd hI hPL hN
  · refine j_tabIn (off := 544) (tgt := 589) G dL_law_45 (by decide) (by decide) rfl (by decide) ?_
    exact lw_vacuum G hfl hX hbl hbA hLs hi hk hn9 q qm un ui ul ua vc ex wo tp tf kf L f ta ga ka co oa ob g gd hI hPL hN
  · refine j_tabIn (off := 600) (tgt := 645) G dL_law_45 (by decide) (by decide) rfl (by decide) ?_
    exact lw_vacuumBySweep G hfl hX hbl hbA hLs hi hk hn9 q qm un ui ul ua vc ex wo tp tf kf L f ta ga ka co oa ob g gd hI hPL hN
  · refine j_tabIn (off := 656) (tgt := 701) G dL_law_45 (by decide) (by decide) rfl (by decide) ?_
    exact lw_expectedVacuum G hfl hX hbl hbA hLs hi hk hn9 q qm un ui ul ua vc ex wo tp tf kf L f ta ga ka co oa ob g gd hI hPL hN
  · refine j_tabIn (off := 712) (tgt := 757) G dL_law_45 (by decide) (by decide) rfl (by decide) ?_
    exact lw_suspect G hfl hX hbl hbA hLs hi hk hn9 q qm un ui ul ua vc ex wo tp tf kf L f ta ga ka co oa ob g gd hI hPL hN
  · refine j_tabIn (off := 768) (tgt := 813) G dL_law_45 (by decide) (by decide) rfl (by decide) ?_
    exact lw_depth G hfl hX hbl hbA hLs hi hk hn9 q qm un ui ul ua vc ex wo tp tf kf L f ta ga ka co oa ob g gd hI hPL hN
  · refine j_tabIn (off := 824) (tgt := 869) G dL_law_45 (by decide) (by decide) rfl (by decide) ?_
    exact lw_pass G hfl hX hbl hbA hLs hi hk hn9 q qm un ui ul ua vc ex wo tp tf kf L f ta ga ka co oa ob g gd hI hPL hN
  · refine j_tabIn (off := 880) (tgt := 925) G dL_law_45 (by decide) (by decide) rfl (by decide) ?_
    exact lw_hours G hfl hX hbl hbA hLs hi hk hn9 q qm un ui ul ua vc ex wo tp tf kf L f ta ga ka co oa ob g gd hI hPL hN
  · refine j_tabIn (off := 893) (tgt := 938) G dL_law_45 (by decide) (by decide) rfl (by decide) ?_
    exact lw_charge G hfl hX hbl hbA hLs hi hk hn9 q qm un ui ul ua vc ex wo tp tf kf L f ta ga ka co oa ob g gd hI hPL hN
  · refine j_tabIn (off := 949) (tgt := 994) G dL_law_45 (by decide) (by decide) rfl (by decide) ?_
    exact lw_sapOf G hfl hX hbl hbA hLs hi hk hn9 q qm un ui ul ua vc ex wo tp tf kf L f ta ga ka co oa ob g gd hI hPL hN
  · refine j_tabIn (off := 1017) (tgt := 1062) G dL_law_45 (by decide) (by decide) rfl (by decide) ?_
    exact lw_totalOf G hfl hX hbl hbA hLs hi hk hn9 q qm un ui ul ua vc ex wo tp tf kf L f ta ga ka co oa ob g gd hI hPL hN
  · refine j_tabIn (off := 1073) (tgt := 1118) G dL_law_45 (by decide) (by decide) rfl (by decide) ?_
    exact lw_tapByYield G hfl hX hbl hbA hLs hi hk hn9 q qm un ui ul ua vc ex wo tp tf kf L f ta ga ka co oa ob g gd hI hPL hN
  · refine j_tabIn (off := 1129) (tgt := 1174) G dL_law_45 (by decide) (by decide) rfl (by decide) ?_
    exact lw_addTank G hfl hX hbl hbA hLs hi hk hn9 q qm un ui ul ua vc ex wo tp tf kf L f ta ga ka co oa ob g gd hI hPL hN
  · refine j_tabIn (off := 1185) (tgt := 1230) G dL_law_45 (by decide) (by decide) rfl (by decide) ?_
    exact lw_drain G hfl hX hbl hbA hLs hi hk hn9 q qm un ui ul ua vc ex wo tp tf kf L f ta ga ka co oa ob g gd hI hPL hN
  · refine j_tabIn (off := 1241) (tgt := 1286) G dL_law_45 (by decide) (by decide) rfl (by decide) ?_
    exact lw_tankVolume G hfl hX hbl hbA hLs hi hk hn9 q qm un ui ul ua vc ex wo tp tf kf L f ta ga ka co oa ob g gd hI hPL hN
  · refine j_tabIn (off := 1297) (tgt := 1342) G dL_law_45 (by decide) (by decide) rfl (by decide) ?_
    exact lw_tankSugar G hfl hX hbl hbA hLs hi hk hn9 q qm un ui ul ua vc ex wo tp tf kf L f ta ga ka co oa ob g gd hI hPL hN
  · refine j_tabIn (off := 1353) (tgt := 1398) G dL_law_45 (by decide) (by decide) rfl (by decide) ?_
    exact lw_load G hfl hX hbl hbA hLs hi hk hn9 q qm un ui ul ua vc ex wo tp tf kf L f ta ga ka co oa ob g gd hI hPL hN
  · refine j_tabIn (off := 1421) (tgt := 1466) G dL_law_45 (by decide) (by decide) rfl (by decide) ?_
    exact lw_setFire G hfl hX hbl hbA hLs hi hk hn9 q qm un ui ul ua vc ex wo tp tf kf L f ta ga ka co oa ob g gd hI hPL hN
  · refine j_tabIn (off := 1477) (tgt := 1522) G dL_law_45 (by decide) (by decide) rfl (by decide) ?_
    exact lw_panVolume G hfl hX hbl hbA hLs hi hk hn9 q qm un ui ul ua vc ex wo tp tf kf L f ta ga ka co oa ob g gd hI hPL hN
  · refine j_tabIn (off := 1490) (tgt := 1535) G dL_law_45 (by decide) (by decide) rfl (by decide) ?_
    exact lw_panSugar G hfl hX hbl hbA hLs hi hk hn9 q qm un ui ul ua vc ex wo tp tf kf L f ta ga ka co oa ob g gd hI hPL hN
  · refine j_tabIn (off := 1503) (tgt := 1548) G dL_law_45 (by decide) (by decide) rfl (by decide) ?_
    exact lw_isReady G hfl hX hbl hbA hLs hi hk hn9 q qm un ui ul ua vc ex wo tp tf kf L f ta ga ka co oa ob g gd hI hPL hN
  · refine j_tabIn (off := 1516) (tgt := 1561) G dL_law_45 (by decide) (by decide) rfl (by decide) ?_
    exact lw_hoursToReady G hfl hX hbl hbA hLs hi hk hn9 q qm un ui ul ua vc ex wo tp tf kf L f ta ga ka co oa ob g gd hI hPL hN
  · refine j_tabIn (off := 1560) (tgt := 1605) G dL_law_45 (by decide) (by decide) rfl (by decide) ?_
    exact lw_hoursByBoiling G hfl hX hbl hbA hLs hi hk hn9 q qm un ui ul ua vc ex wo tp tf kf L f ta ga ka co oa ob g gd hI hPL hN
  · refine j_tabIn (off := 1604) (tgt := 1649) G dL_law_45 (by decide) (by decide) rfl (by decide) ?_
    exact lw_draw G hfl hX hbl hbA hLs hi hk hn9 q qm un ui ul ua vc ex wo tp tf kf L f ta ga ka co oa ob g gd hI hPL hN
  · refine j_tabIn (off := 1648) (tgt := 1693) G dL_law_45 (by decide) (by decide) rfl (by decide) ?_
    exact lw_dump G hfl hX hbl hbA hLs hi hk hn9 q qm un ui ul ua vc ex wo tp tf kf L f ta ga ka co oa ob g gd hI hPL hN
  · refine j_tabIn (off := 1661) (tgt := 1706) G dL_law_45 (by decide) (by decide) rfl (by decide) ?_
    exact lw_batches G hfl hX hbl hbA hLs hi hk hn9 q qm un ui ul ua vc ex wo tp tf kf L f ta ga ka co oa ob g gd hI hPL hN
  · refine j_tabIn (off := 1674) (tgt := 1719) G dL_law_45 (by decide) (by decide) rfl (by decide) ?_
    exact lw_batchVolume G hfl hX hbl hbA hLs hi hk hn9 q qm un ui ul ua vc ex wo tp tf kf L f ta ga ka co oa ob g gd hI hPL hN
  · refine j_tabIn (off := 1730) (tgt := 1775) G dL_law_45 (by decide) (by decide) rfl (by decide) ?_
    exact lw_gradeOf G hfl hX hbl hbA hLs hi hk hn9 q qm un ui ul ua vc ex wo tp tf kf L f ta ga ka co oa ob g gd hI hPL hN
  · refine j_tabIn (off := 1786) (tgt := 1831) G dL_law_45 (by decide) (by decide) rfl (by decide) ?_
    exact lw_totalSap G hfl hX hbl hbA hLs hi hk hn9 q qm un ui ul ua vc ex wo tp tf kf L f ta ga ka co oa ob g gd hI hPL hN
  · refine j_tabIn (off := 1800) (tgt := 1845) G dL_law_45 (by decide) (by decide) rfl (by decide) ?_
    exact lw_steam G hfl hX hbl hbA hLs hi hk hn9 q qm un ui ul ua vc ex wo tp tf kf L f ta ga ka co oa ob g gd hI hPL hN
  · refine j_tabIn (off := 1814) (tgt := 1859) G dL_law_45 (by decide) (by decide) rfl (by decide) ?_
    exact lw_loss G hfl hX hbl hbA hLs hi hk hn9 q qm un ui ul ua vc ex wo tp tf kf L f ta ga ka co oa ob g gd hI hPL hN
  · refine j_tabIn (off := 1828) (tgt := 1873) G dL_law_45 (by decide) (by decide) rfl (by decide) ?_
    exact lw_lossByBalance G hfl hX hbl hbA hLs hi hk hn9 q qm un ui ul ua vc ex wo tp tf kf L f ta ga ka co oa ob g gd hI hPL hN
  · refine j_tabIn (off := 1842) (tgt := 1887) G dL_law_45 (by decide) (by decide) rfl (by decide) ?_
    exact lw_lostSugar G hfl hX hbl hbA hLs hi hk hn9 q qm un ui ul ua vc ex wo tp tf kf L f ta ga ka co oa ob g gd hI hPL hN
  · refine j_tabIn (off := 1856) (tgt := 1901) G dL_law_45 (by decide) (by decide) rfl (by decide) ?_
    exact lw_isBalanced G hfl hX hbl hbA hLs hi hk hn9 q qm un ui ul ua vc ex wo tp tf kf L f ta ga ka co oa ob g gd hI hPL hN
  · refine j_tabIn (off := 1869) (tgt := 1914) G dL_law_45 (by decide) (by decide) rfl (by decide) ?_
    exact lw_lossShare G hfl hX hbl hbA hLs hi hk hn9 q qm un ui ul ua vc ex wo tp tf kf L f ta ga ka co oa ob g gd hI hPL hN
  · refine j_tabIn (off := 1935) (tgt := 1980) G dL_law_45 (by decide) (by decide) rfl (by decide) ?_
    exact lw_meanSweetness G hfl hX hbl hbA hLs hi hk hn9 q qm un ui ul ua vc ex wo tp tf kf L f ta ga ka co oa ob g gd hI hPL hN
set_option maxHeartbeats 4000000 in
set_option maxRecDepth 100000 in
theorem law_loop {p : Program} {l : Launch} {e : Env} {s : State} {m : MethodId} {args : Array Value} {below : List Frame} {meth : Method} {c : Code} {D : va_G} {cA : Nat → ClassId} {A : Nat → Prop} {Q : State → Prop} (G : GX p s m args c cL_law 9 RL D cA A) (hfl : l.stackTraces = false) {bs Ls : Nat} {xs : Nat → Int32} (hX : va_X bs Ls xs s s.heap) (hbl : bs < s.heap.size) (hbA : ¬ A bs) (hLs : Ls ≤ 3072) (q qm : Nat → Nat) (oa ob : Nat) (hE : ∀ (un : Nat → Nat) (ui : Nat → Int32) (ul : Nat → Int64) (ua : Nat → Nat → Int32) (vc ex wo tp : Nat → Int32) (tf kf : Nat → Option Nat) (L : List Nat) (f : Nat → va_E) (ta ga ka : Nat → Nat) (co : Int32) (g : Nat → Int64) (gd : Nat → UInt64) (i k n : Nat), k ≤ 603072 → n ≤ 7211114 → J p l e (RM 2048 94400 603072 7211114) s m args below meth c 9 D A (mW cA qm un ui ul ua co ++ (((cF cA q un ui ul ua vc ex wo tp tf kf ++ va_pl L f) ++ [(oa, .inl (cA 4, 1, .inr (.inl g)))]) ++ [(ob, .inl (cA 5, 1, .inr (.inr (.inr (.inl gd)))))])) k n Q 2051 [(0, .ref bs), (1, .ref (q 0)), (2, .ref (qm 0)), (3, .ref oa), (4, .ref ob), (5, .int (nI i))] []) : ∀ (fu i k n : Nat), i ≤ Ls → Ls + 1 ≤ i + fu → k ≤ 1000 + 2 * i → n ≤ 20000 + 50 * i → ∀ (un : Nat → Nat) (ui : Nat → Int32) (ul : Nat → Int64) (ua : Nat → Nat → Int32) (vc ex wo tp : Nat → Int32) (tf kf : Nat → Option Nat) (L : List Nat) (f : Nat → va_E) (ta ga ka : Nat → Nat) (co : Int32) (g : Nat → Int64) (gd : Nat → UInt64), INV un ui ua → PL cA un ua L f tf kf ta ga ka → J p l e (RM 2048 94400 603072 7211114) s m args below meth c 9 D A (mW cA qm un ui ul ua co ++ (((cF cA q un ui ul ua vc ex wo tp tf kf ++ va_pl L f) ++ [(oa, .inl (cA 4, 1, .inr (.inl g)))]) ++ [(ob, .inl (cA 5, 1, .inr (.inr (.inr (.inl gd)))))])) k n Q 28 [(0, .ref bs), (1, .ref (q 0)), (2, .ref (qm 0)), (3, .ref oa), (4, .ref ob), (5, .int (nI i))] [] := by
  intro fu
  induction fu with
  | zero =>
    intro i k n h1 h2
    exact absurd h2 (by omega)
  | succ fu ih =>
    intro i k n h1 h2 h3 h4 un ui ul ua vc ex wo tp tf kf L f ta ga ka co g gd hI hPL
    exact law_body G hfl hX hbl hbA hLs q qm oa ob hE h1 (by omega) (by omega) un ui ul ua vc ex wo tp tf kf L f ta ga ka co g gd hI hPL (fun hi un ui ul ua vc ex wo tp tf kf L f ta ga ka co g gd hI hPL => ih (i + 6) (k + 8) (n + 256) (by omega) (by omega) (by omega) (by omega) un ui ul ua vc ex wo tp tf kf L f ta ga ka co g gd hI hPL)
