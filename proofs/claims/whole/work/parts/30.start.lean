/-! THE CLAIM OUT OF ONE WALK OF THE LAW'S BODY. Your part is whole_start (and what it stands on); all else here is the same for every law, but numbers. -/
def R_law : String := "SapNetworkLaw"
def lw_P (b : Addr) (xs : List Int32) (args : Array Value) (s : State) : Prop := args = #[.ref b] ∧ s.IntsAt b xs ∧ xs.length ≤ 3072 ∧ (Jvm.Cond.and given_1 narrow_1).before args s = true
/-- what a walk over the start with the record d0 says of its end, said of the start itself -/
theorem lw_closed {s t : State} {o : Outcome} {d0 : Drawn} {L : List Loc} {k n : Nat} (hd0 : s.drawn.sameBut d0 lw_cs) (hv : ∃ v, o = .returned v) (hW : (s.setDrawn d0).WarmedH t.vm) (hs : (s.setDrawn d0).sameButNew ({ t with vm := s.vm } : State) L k n) : State.butDraws s t lw_cs (fun t1 => Framed s o t1 L k n) := by
  have h2 : t.drawn = d0 := congrArg State.drawn hs.1
  refine ⟨⟨hv, hW, State.sameButNew.setDrawn hs s.drawn⟩, ?_, by decide⟩
  rw [h2]
  exact hd0
def lw_Q (_ : Array Value) (s : State) (o : Outcome) (t : State) : Prop := o = .returned (some (.int 1)) ∧ State.butDraws s t lw_cs (fun t1 => Framed s o t1 [] 603072 7211114)
def lw_Z (below : List Frame) (a : Array Value) (s : State) : State → Prop := fun t => ∃ o, t.status = .running ∧ Ended t below o ∧ lw_Q a s o t
/-- the law's own end, with 1 on the stack, nothing written that was there before, its room as the claim has it; d0: the record of draws at this point (at the entry s.drawn: begin with 'refine W.base ?_' and 'have hd0 := Drawn.sameBut.refl s.drawn lw_cs') -/
theorem lw_ret {p : Program} {l : Launch} {e : Env} {s : State} {m : MethodId} {below : List Frame} {meth : Method} {c : Code} {b : Nat} {d0 : Drawn} (hd0 : s.drawn.sameBut d0 lw_cs) (hx : p.tables.exec = Jvm.exec) (hb : c.code = code) (hr : meth.sig.returnType = ret) (hlocks : meth.locks = false) {pc : Nat} {H : Heap} {ls : Array Slot} (hdg : decode code pc = .ok (.ireturn, 1)) : W p l e room_1 (s.setDrawn d0) m #[Value.ref b] below meth c H [] 603072 7211114 (lw_Z below #[Value.ref b] s) (F0 m pc ls [.int 1]) := by
  intro T hT X
  obtain ⟨fs, hret, hrun, hended, hW, hframe⟩ := X.leave (v := some (.int 1)) (hlocks := hlocks) (fun h => by rw [hr] at h; cases h)
  have hmeth' : T.vm.method? m = some meth := X.method'
  refine ⟨T.setFrames fs, ?_, .returned (some (.int 1)), hrun, hended, rfl, lw_closed hd0 ⟨_, rfl⟩ hW hframe⟩
  jvm_step X.here [X.here.top, hx, hb, hdg, hmeth', hr, ret, narrow_b1]
  (try refine ⟨rfl, ?_⟩); (try refine ⟨rfl, ?_⟩)
  first | (intro acts; rw [hret _ acts rfl rfl rfl]) | rw [hret _ _ rfl rfl rfl]
  exact Steps.refl _
/-- what holds at the law's entry: the machine, the code, the tables' words (any of lw_tbl by 'hts w (by decide +kernel)'), the script of L ints xs at the cell b, what the Statement gives of the start (any of its parts by flat_of_before) -/
def lw_At (p : Program) (s : State) (m : MethodId) (meth : Method) (c : Code) (b L : Nat) (xs : Nat → Int32) : Prop :=
  p.tables.exec = Jvm.exec ∧ c.code = code ∧ meth.sig.returnType = ret ∧ c.maxLocals = 9 ∧ s.vm.findClass R_law = some m.cls ∧ (∀ w ∈ lw_tbl, w.before #[Value.ref b] s = true) ∧ va_X b L xs s s.heap ∧ b < s.heap.size ∧ meth.locks = false ∧ (Jvm.Cond.and given_1 narrow_1).before #[Value.ref b] s = true
/-! THE START: what the tables say, as GX has it (printed by gen_start.py) -/
theorem wt_all {ws : List Cond} (ps : List Nat) (hp : ws.map some = ps.map (fun i => lw_tbl[i]?)) : ∀ w ∈ ws, w ∈ lw_tbl := by
  intro w hw
  have h1 : some w ∈ ws.map some := List.mem_map.mpr ⟨w, hw, rfl⟩
  rw [hp] at h1
  obtain ⟨i, -, hi⟩ := List.mem_map.mp h1
  exact List.mem_of_getElem? hi
theorem NWL_in : ∀ w ∈ NWL, w ∈ lw_tbl := wt_all [78, 80, 105, 110, 112, 114, 129, 131, 134, 147, 152, 154, 156, 158, 160, 485, 488, 490, 492, 565, 732, 734, 396, 412, 432, 452, 544, 877] (by decide +kernel)
theorem STRL_in : ∀ w ∈ STRL.map (fun q => Cond.stringRef RX6 q.1 q.2), w ∈ lw_tbl := wt_all [403, 419, 439, 459, 477, 513, 525, 551, 621, 640, 641, 693, 701, 723, 724, 753, 779, 780, 781, 793, 805, 806, 826, 831, 854, 888] (by decide +kernel)
theorem NCL_in : ∀ q ∈ NCL, Cond.not (.castable q.1 q.2) ∈ flatC (Jvm.Cond.and given_1 narrow_1) := by decide +kernel
theorem wt_RX4 : Cond.arrayOver (.object RX4) ∈ lw_tbl := List.mem_of_getElem? (i := 100) (by decide +kernel)
theorem wt_RX3 : Cond.arrayOver (.object RX3) ∈ lw_tbl := List.mem_of_getElem? (i := 102) (by decide +kernel)
theorem wt_us : Cond.laysStatic Bundle.tN "UNASSIGNED_STACK" Bundle.steD ∈ lw_tbl := List.mem_of_getElem? (i := 317) (by decide +kernel)
theorem wt_ss : Cond.laysStatic Bundle.tN "SUPPRESSED_SENTINEL" Bundle.listD ∈ lw_tbl := List.mem_of_getElem? (i := 319) (by decide +kernel)
theorem wg_us : Cond.isRef (.static Bundle.tN "UNASSIGNED_STACK" Bundle.steD) ∈ flatC (Jvm.Cond.and given_1 narrow_1) := by decide +kernel
theorem wg_ss : Cond.isRef (.static Bundle.tN "SUPPRESSED_SENTINEL" Bundle.listD) ∈ flatC (Jvm.Cond.and given_1 narrow_1) := by decide +kernel
theorem arr_p {args : Array Value} {s : State} {t : FieldType} (h : (Cond.arrayClass t).before args s = true) : ∃ c : ClassId, ArrOfT s c t ∧ s.vm.findClass ("[" ++ t.toString) = some c := by
  obtain ⟨c, k, comp, h1, h2, h3⟩ := Cond.arrayClass_spec h
  exact ⟨c, fun n z => ⟨fun k h => (by cases h), k, h2, comp, h3⟩, h1⟩
theorem arr_o {args : Array Value} {s : State} {C : String} (h : (Cond.arrayOver (.object C)).before args s = true) : ∃ c : ClassId, ArrOfT s c (.object C) ∧ va_RA s c (.object C) := by
  obtain ⟨comp, c, k, f1, f2, f3, f4, f5⟩ := Cond.arrayOver_spec h
  exact ⟨c, fun n z => ⟨fun k h => (by cases h), k, f3, comp, f4⟩, k, comp, f3, f4, f1, f5⟩
theorem GX_start {p : Program} {s : State} {m : MethodId} {meth : Method} {c : Code} {b L : Nat} {xs : Nat → Int32} (C0 : lw_At p s m meth c b L xs) : ∃ (D : va_G) (cA : Nat → ClassId), GX p s m #[Value.ref b] c cL_law 9 RL D cA (fun q : Nat => s.heap.size ≤ q) := by
  obtain ⟨hx, hb, hr, hml, hown, hts, hX, hbl, hlocks, hgv⟩ := C0
  have hwS : ∀ w ∈ WS, w.before #[Value.ref b] s = true := fun w h => hts w (WS_in w h)
  have hfl := flat_of_before _ hgv
  obtain ⟨c0, i0, k0⟩ := u_known (C := RX0) (T := TX0) (N := 5) (n := 5) hwS inX0 (hwS _ wd_146)
  obtain ⟨c1, i1, k1⟩ := u_known (C := RX1) (T := TX1) (N := 3) (n := 3) hwS inX1 (hwS _ wd_104)
  obtain ⟨c2, i2, k2⟩ := u_known (C := RX2) (T := TX2) (N := 4) (n := 4) hwS inX2 (hwS _ wd_123)
  obtain ⟨c3, i3, k3⟩ := u_known (C := RX3) (T := TX3) (N := 3) (n := 3) hwS inX3 (hwS _ wd_725)
  obtain ⟨c4, i4, k4⟩ := u_known (C := RX4) (T := TX4) (N := 6) (n := 6) hwS inX4 (hwS _ wd_478)
  obtain ⟨c5, i5, k5⟩ := u_known (C := RX5) (T := TX5) (N := 7) (n := 7) hwS inX5 (hwS _ wd_69)
  obtain ⟨c6, i6, k6⟩ := u_known (C := RX6) (T := TX6) (N := 11) (n := 11) hwS inX6 (hwS _ wd_61)
  obtain ⟨c7, i7, k7⟩ := u_known (C := RX7) (T := TX7) (N := 30) (n := 30) hwS inX7 (hwS _ wd_898)
  obtain ⟨a0, r0, n0⟩ := arr_p (t := .int) (hwS _ wd_98)
  obtain ⟨a1, r1, n1⟩ := arr_p (t := .char) (hwS _ wd_144)
  obtain ⟨a2, r2, n2⟩ := arr_o (C := RX4) (hts _ wt_RX4)
  obtain ⟨a3, r3, n3⟩ := arr_o (C := RX3) (hts _ wt_RX3)
  obtain ⟨a4, r4, n4⟩ := arr_p (t := .long) (hwS _ wd_1266)
  obtain ⟨a5, r5, n5⟩ := arr_p (t := .double) (hwS _ wd_1267)
  have hK1 : ∀ (k : Nat) (q : vw_C), CL[k]? = some q → u_Kn s q.1 q.2.1 q.2.2 (([c0, c1, c2, c3, c4, c5, c6, c7] : List ClassId).getD k c0) (([i0, i1, i2, i3, i4, i5, i6, i7] : List (Nat → Nat)).getD k i0) := by
    intro k q hq
    match k, hq with
    | 0, hq => cases hq; exact k0
    | 1, hq => cases hq; exact k1
    | 2, hq => cases hq; exact k2
    | 3, hq => cases hq; exact k3
    | 4, hq => cases hq; exact k4
    | 5, hq => cases hq; exact k5
    | 6, hq => cases hq; exact k6
    | 7, hq => cases hq; exact k7
    | k + 8, hq => simp [CL] at hq
  have hK2 : ∀ (k : Nat) (q : ClassId × FieldType), (TY (fun k => ([a0, a1, a2, a3, a4, a5] : List ClassId).getD k a0))[k]? = some q → ArrOfT s q.1 q.2 ∧ va_RA s q.1 q.2 := by
    intro k q hq
    match k, hq with
    | 0, hq => cases hq; exact ⟨r0, n0⟩
    | 1, hq => cases hq; exact ⟨r1, n1⟩
    | 2, hq => cases hq; exact ⟨r2, n2⟩
    | 3, hq => cases hq; exact ⟨r3, n3⟩
    | 4, hq => cases hq; exact ⟨r4, n4⟩
    | 5, hq => cases hq; exact ⟨r5, n5⟩
    | k + 6, hq => simp [TY] at hq
  have hlt : ∀ a : Nat, a < s.heap.size → ¬ s.heap.size ≤ a := fun a h => Nat.not_le.mpr h
  have hini : (Cond.initialized Bundle.tN).before #[Value.ref b] s = true := hwS _ (show Cond.initialized Bundle.tN ∈ WS from wd_46)
  have hS : ∀ q ∈ STRL, ∃ a, vk_R RX6 q.1 q.2 a s := by
    intro q hq
    have h := hts _ (STRL_in _ (List.mem_map.mpr ⟨q, hq, rfl⟩))
    obtain ⟨k, cf, i, a, h1, h2, h3, h4, h5, h6⟩ := Cond.stringRef_spec k6.2.1 h
    exact ⟨a, vk_R.of h h6⟩
  refine ⟨(fun k => ([c0, c1, c2, c3, c4, c5, c6, c7] : List ClassId).getD k c0, fun k => ([i0, i1, i2, i3, i4, i5, i6, i7] : List (Nat → Nat)).getD k i0), fun k => ([a0, a1, a2, a3, a4, a5] : List ClassId).getD k a0, hx, hb, hml, hown, hwS, ⟨hK1, hK2⟩, fun _ h => h, ?_⟩
  exact ⟨fun w hw => va_Nw.of (nest_ot (NWL_ok w hw)) (hts w (NWL_in w hw)), hS, fun q hq => va_Nc.of (hfl _ (NCL_in q hq)), va_AO.of (hts _ wt_RX4), va_AO.of (hts _ wt_RX3), vx_Zqof (hts _ wt_us) hini (hfl _ wg_us) hlt, vx_Zqof (hts _ wt_ss) hini (hfl _ wg_ss) hlt⟩
theorem z02 : ¬ (0 : Int32) = 2 := by decide
theorem INV_0 : INV un0 ui0 ua0 :=
  ⟨⟨Nat.le_refl 1, by decide, by decide, by decide, by decide⟩, fun j h1 h2 => absurd h2 (by show ¬ j < 1; omega), ⟨NB.z, NB.z, ⟨0, 0, rfl, rfl, Nat.zero_le _, Nat.le_refl _, Nat.le_refl _⟩⟩,
    ⟨fun _ => NB.z, fun _ => NB.z, fun _ => NB.z, fun _ => NB.z, fun _ => NB.z, fun _ => NB.z⟩, fun _ h => absurd h z02, fun _ _ => ⟨z02, rfl, fun _ _ => rfl⟩, fun t h => absurd h (Nat.not_lt_zero t), fun _ _ => ⟨rfl, rfl⟩, fun _ => rfl⟩
theorem PL_0 (cA : Nat → ClassId) : PL cA un0 ua0 [] (fun _ => .inr (0, [])) (fun _ => none) (fun _ => none) (fun _ => 0) (fun _ => 0) (fun _ => 0) :=
  ⟨fun _ _ => (if_neg z02).symm, fun _ _ h => absurd h z02, fun _ _ _ _ h => absurd h z02, fun _ _ _ _ h => absurd h z02, fun t _ => (if_neg (Nat.not_lt_zero t)).symm, fun t h => absurd h (Nat.not_lt_zero t), fun i _ h => absurd h (Nat.not_lt_zero i)⟩
section LJS
variable {p : Program} {l : Launch} {e : Env} {R : Room} {s : State} {m : MethodId} {args : Array Value} {below : List Frame} {meth : Method} {c : Code} {D : va_G} {A : Nat → Prop} {nL : Nat}
variable {w : va_W} {k n : Nat} {Q : State → Prop} {pc : Nat} {lv : List (Nat × Value)} {st : List Value}
theorem j_swap {a b : va_W} (K : J p l e R s m args below meth c nL D A (b ++ a) k n Q pc lv st) : J p l e R s m args below meth c nL D A (a ++ b) k n Q pc lv st :=
  fun H locs ls hP hD hS hl => K H locs ls (va_P.swap (a := []) hP) (va_D.swap (a := []) hD) hS hl
end LJS
set_option maxHeartbeats 4000000 in
set_option maxRecDepth 100000 in
/-- THE LAW, from its entry -/
theorem whole_start {p : Program} {e : Env} {s : State} {m : MethodId} {below : List Frame} {meth : Method} {c : Code} (l : Launch) (hflags : l.flags = flags0) {b L : Nat} {xs : Nat → Int32} (hL : L ≤ 3072) (C0 : lw_At p s m meth c b L xs) : W p l e room_1 s m #[Value.ref b] below meth c s.heap [] 0 0 (lw_Z below #[Value.ref b] s) (entryFrame m ([Value.ref b] : List Value).toArray 9) := by
  obtain ⟨D, cA, G⟩ := GX_start C0
  obtain ⟨hx, hb, hr, hml, hown, hts, hX, hbl, hlocks, hgv⟩ := C0
  have hfl : l.stackTraces = false := by unfold Launch.stackTraces; rw [hflags]; decide
  have hbA : ¬ (fun q : Nat => s.heap.size ≤ q) b := Nat.not_le.mpr hbl
  have hJ : J p l e (RM 2048 94400 603072 7211114) s m #[Value.ref b] below meth c 9 D (fun q : Nat => s.heap.size ≤ q) ([]) 0 0 (lw_Z below #[Value.ref b] s) 0 [(0, .ref b)] [] := ?_
  · rw [lg_entry_eq]
    exact hJ s.heap [] _ (fun k q h => by simp at h) ⟨fun i j p q h => by simp at h, fun k q h => by simp at h⟩ va_S.rf (lv_entry ([.ref b]) (n := 9) (Nat.le_of_ble_eq_true rfl))
  refine j_new (T := TX6) (N := 11) (ci := 6) (fs := [.null, .null, .null, .null, .null, .null, .null, .null, .int 0, .int 0, .int 0]) G inX6 rfl tyX6 tyX6_ok wd_60 wd_61 wd_40 (fun j hj => by rcases (show j = 0 ∨ j = 1 ∨ j = 2 ∨ j = 3 ∨ j = 4 ∨ j = 5 ∨ j = 6 ∨ j = 7 ∨ j = 8 ∨ j = 9 ∨ j = 10 by omega) with rfl | rfl | rfl | rfl | rfl | rfl | rfl | rfl | rfl | rfl | rfl <;> rfl) ⟨Nat.le_of_ble_eq_true rfl, Nat.le_of_ble_eq_true rfl⟩ dL_law_0 (fun q0 => ?_)
  refine j_w (w' := [(q0, .inr (6, [.null, .null, .null, .null, .null, .null, .null, .null, .int 0, .int 0, .int 0]))]) rfl ?_
  refine j_dup G dL_law_3 rfl ?_
  refine jI_v G (cC_X6_init l D cA q0) wd_62 wd_63 (show Cond.initialized yX6_init.cls ∈ WS from wd_40) wd_64 rfl hd_X6_init.2 ⟨Nat.le_of_ble_eq_true rfl, Nat.le_of_ble_eq_true rfl⟩ ⟨Nat.le_of_ble_eq_true rfl, Nat.le_of_ble_eq_true rfl⟩ rfl rfl (Nat.le_of_ble_eq_true rfl) dL_law_4 (fun w' hq9 => ?_)
  obtain ⟨q, e0, hw9⟩ := hq9
  subst e0
  subst hw9
  refine j_astore_n (lv' := [(1, .ref (q 0)), (0, .ref b)]) G dL_law_7 rfl (by decide) rfl ?_
  refine j_new (T := TX7) (N := 30) (ci := 7) (fs := [.int 0, .null, .null, .null, .null, .null, .null, .null, .null, .int 0, .int 0, .null, .int 0, .null, .null, .null, .int 0, .int 0, .int 0, .int 0, .int 0, .null, .null, .null, .long 0, .long 0, .long 0, .long 0, .long 0, .int 0]) G inX7 rfl tyX7 tyX7_ok wd_897 wd_898 wd_45 (fun j hj => by rcases (show j = 0 ∨ j = 1 ∨ j = 2 ∨ j = 3 ∨ j = 4 ∨ j = 5 ∨ j = 6 ∨ j = 7 ∨ j = 8 ∨ j = 9 ∨ j = 10 ∨ j = 11 ∨ j = 12 ∨ j = 13 ∨ j = 14 ∨ j = 15 ∨ j = 16 ∨ j = 17 ∨ j = 18 ∨ j = 19 ∨ j = 20 ∨ j = 21 ∨ j = 22 ∨ j = 23 ∨ j = 24 ∨ j = 25 ∨ j = 26 ∨ j = 27 ∨ j = 28 ∨ j = 29 by omega) with rfl | rfl | rfl | rfl | rfl | rfl | rfl | rfl | rfl | rfl | rfl | rfl | rfl | rfl | rfl | rfl | rfl | rfl | rfl | rfl | rfl | rfl | rfl | rfl | rfl | rfl | rfl | rfl | rfl | rfl <;> rfl) ⟨Nat.le_of_ble_eq_true rfl, Nat.le_of_ble_eq_true rfl⟩ dL_law_8 (fun m0 => ?_)
  refine j_dup G dL_law_11 rfl ?_
  refine jI_v G (fw_v (cM_init l D cA m0) (cF cA q un0 ui0 ul0 ua0 (fun _ => 0) (fun _ => 0) (fun _ => 0) (fun _ => 0) (fun _ => none) (fun _ => none)) [] (List.append_nil _).symm) wd_899 wd_900 (show Cond.initialized yX7_init.cls ∈ WS from wd_45) wd_901 rfl hd_X7_init.2 ⟨Nat.le_of_ble_eq_true rfl, Nat.le_of_ble_eq_true rfl⟩ ⟨Nat.le_of_ble_eq_true rfl, Nat.le_of_ble_eq_true rfl⟩ rfl rfl (Nat.le_of_ble_eq_true rfl) dL_law_12 (fun w' hq9 => ?_)
  obtain ⟨b1, ⟨qm, e0, hb9⟩, hw9⟩ := hq9
  subst e0
  subst hw9
  subst hb9
  refine j_w (w' := cF cA q un0 ui0 ul0 ua0 (fun _ => 0) (fun _ => 0) (fun _ => 0) (fun _ => 0) (fun _ => none) (fun _ => none) ++ mW cA qm un0 ui0 ul0 ua0 0) (List.append_nil _) ?_
  refine j_swap ?_
  refine j_astore_n (lv' := [(2, .ref (qm 0)), (1, .ref (q 0)), (0, .ref b)]) G dL_law_15 rfl (by decide) rfl ?_
  refine j_iconst (v := 1) G dL_law_16 (by decide) ?_
  refine j_newa_l G 1 (by decide) (by decide) (Nat.le_of_ble_eq_true rfl) ⟨Nat.le_of_ble_eq_true rfl, Nat.le_of_ble_eq_true rfl⟩ dL_law_17 (fun oa => ?_)
  refine j_astore_n (lv' := [(3, .ref oa), (2, .ref (qm 0)), (1, .ref (q 0)), (0, .ref b)]) G dL_law_19 rfl (by decide) rfl ?_
  refine j_iconst (v := 1) G dL_law_20 (by decide) ?_
  refine j_newa_d G 1 (by decide) (by decide) (Nat.le_of_ble_eq_true rfl) ⟨Nat.le_of_ble_eq_true rfl, Nat.le_of_ble_eq_true rfl⟩ dL_law_21 (fun ob => ?_)
  refine j_astore (lv' := [(4, .ref ob), (3, .ref oa), (2, .ref (qm 0)), (1, .ref (q 0)), (0, .ref b)]) G dL_law_23 (by decide) rfl ?_
  refine j_iconst (v := 0) G dL_law_25 (by decide) ?_
  refine j_istore (lv' := [(5, .int 0), (4, .ref ob), (3, .ref oa), (2, .ref (qm 0)), (1, .ref (q 0)), (0, .ref b)]) G dL_law_26 (by decide) rfl ?_
  refine j_sub (lv' := [(0, .ref b), (1, .ref (q 0)), (2, .ref (qm 0)), (3, .ref oa), (4, .ref ob), (5, .int (nI 0))]) [5, 4, 3, 2, 1, 0] rfl ?_
  refine j_w (w' := mW cA qm un0 ui0 ul0 ua0 0 ++ (((cF cA q un0 ui0 ul0 ua0 (fun _ => 0) (fun _ => 0) (fun _ => 0) (fun _ => 0) (fun _ => none) (fun _ => none) ++ va_pl [] (fun _ => .inr (0, []))) ++ [(oa, .inl (cA 4, 1, .inr (.inl (fun _ => 0))))]) ++ [(ob, .inl (cA 5, 1, .inr (.inr (.inr (.inl (fun _ => 0))))))])) (by rw [show va_pl [] (fun _ => .inr (0, [])) = [] from rfl, List.append_nil, List.append_assoc, List.append_assoc, List.append_assoc]) ?_
  refine j_cs (k' := 1000) (n' := 20000) (Nat.le_of_ble_eq_true rfl) (Nat.le_of_ble_eq_true rfl) ?_
  refine law_loop G hfl hX hbl hbA hL q qm oa ob (fun un ui ul ua vc ex wo tp tf kf L f ta ga ka co g gd i k n hk hn => ?_) (L + 1) 0 1000 20000 (Nat.zero_le L) (by omega) (by omega) (by omega) un0 ui0 ul0 ua0 (fun _ => 0) (fun _ => 0) (fun _ => 0) (fun _ => 0) (fun _ => none) (fun _ => none) [] (fun _ => .inr (0, [])) (fun _ => 0) (fun _ => 0) (fun _ => 0) 0 (fun _ => 0) (fun _ => 0) INV_0 (PL_0 cA)
  refine j_iconst (v := 1) G dL_law_2051 (by decide) ?_
  refine j_cs hk hn ?_
  intro H locs ls hP hD hS hl
  refine va_forget (fun q hq => hS.2.2 q hq) ?_
  exact lw_ret (d0 := s.drawn) (Drawn.sameBut.refl s.drawn lw_cs) hx hb hr hlocks dL_law_2052
