/-! THE CLASS: its throws, its cells -/
def DCL : List (MethodName × ByteArray) := [(⟨"java/lang/RuntimeException", "<init>", "(Ljava/lang/String;)V"⟩, prog_18_method_2_code), (⟨"java/lang/Exception", "<init>", "(Ljava/lang/String;)V"⟩, prog_13_method_2_code), (⟨"java/lang/Throwable", "<init>", "(Ljava/lang/String;)V"⟩, prog_20_method_2_code)]
theorem DCL_ok : ∀ d ∈ DCL, Cond.instanceMethod d.1 ∈ WS ∧ Cond.code d.1 d.2 2 none ∈ WS := by decide +kernel
theorem decl_of {x : MethodName} {b : ByteArray} {n : Nat} {r : Option FieldType} {args : Array Value} {s : State} (h1 : (Cond.instanceMethod x).before args s = true) (h2 : (Cond.code x b n r).before args s = true) : (Cond.declares x).before args s = true := by
  obtain ⟨mk, methM, hnamed, hmethM, hst, -⟩ := Cond.instanceMethod_spec h1
  obtain ⟨meth, c, hm, -, -, -, -, -, -, hp⟩ := Cond.code_spec hnamed h2
  have e : meth = methM := Option.some.inj (hm.symm.trans hmethM)
  subst e
  simp only [Cond.before, Cond.holds, Cond.value, hnamed, Option.bind_some, hm, Option.map_some, hst, hp, Bool.not_false, decide_true, Bool.and_self, beq_self_eq_true]
theorem at_use {L : List Cond} {args : Array Value} {s : State} (hat : ∀ w ∈ L, w ∈ WS ∨ w ∈ NWL ∨ w ∈ DCL.map (fun d => Cond.declares d.1)) (hts : ∀ w ∈ WS, w.before args s = true) (hN : ∀ w ∈ NWL, va_Nw w s) : ∀ w ∈ L, w.before args s = true := by
  intro w hw
  rcases hat w hw with h | h | h
  · exact hts w h
  · exact va_Nw.use (nest_ot (NWL_ok w h)) (hN w h)
  · obtain ⟨d, hd, rfl⟩ := List.mem_map.mp h
    exact decl_of (hts _ (DCL_ok d hd).1) (hts _ (DCL_ok d hd).2)
theorem at_IOOBE : ∀ w ∈ vx_atS RX6 303 "java/lang/IndexOutOfBoundsException" ["java/lang/RuntimeException", "java/lang/Exception"], w ∈ WS ∨ w ∈ NWL ∨ w ∈ DCL.map (fun d => Cond.declares d.1) := by decide +kernel
theorem og_IOOBE : ∀ w ∈ Cond.classLink RX6 299 "java/lang/IndexOutOfBoundsException" :: Cond.initialized "java/lang/IndexOutOfBoundsException" :: vx_atS RX6 303 "java/lang/IndexOutOfBoundsException" ["java/lang/RuntimeException", "java/lang/Exception"], vx_ot w = true := by decide +kernel
theorem ft_IOOBE : Bundle.fit "java/lang/IndexOutOfBoundsException" = true := by decide +kernel
theorem at_IAE : ∀ w ∈ vx_atS RX6 68 "java/lang/IllegalArgumentException" ["java/lang/RuntimeException", "java/lang/Exception"], w ∈ WS ∨ w ∈ NWL ∨ w ∈ DCL.map (fun d => Cond.declares d.1) := by decide +kernel
theorem og_IAE : ∀ w ∈ Cond.classLink RX6 64 "java/lang/IllegalArgumentException" :: Cond.initialized "java/lang/IllegalArgumentException" :: vx_atS RX6 68 "java/lang/IllegalArgumentException" ["java/lang/RuntimeException", "java/lang/Exception"], vx_ot w = true := by decide +kernel
theorem ft_IAE : Bundle.fit "java/lang/IllegalArgumentException" = true := by decide +kernel
theorem at_UOE : ∀ w ∈ vx_atS RX6 199 "java/lang/UnsupportedOperationException" ["java/lang/RuntimeException", "java/lang/Exception"], w ∈ WS ∨ w ∈ NWL ∨ w ∈ DCL.map (fun d => Cond.declares d.1) := by decide +kernel
theorem og_UOE : ∀ w ∈ Cond.classLink RX6 195 "java/lang/UnsupportedOperationException" :: Cond.initialized "java/lang/UnsupportedOperationException" :: vx_atS RX6 199 "java/lang/UnsupportedOperationException" ["java/lang/RuntimeException", "java/lang/Exception"], vx_ot w = true := by decide +kernel
theorem ft_UOE : Bundle.fit "java/lang/UnsupportedOperationException" = true := by decide +kernel
theorem at_ISE : ∀ w ∈ vx_atS RX6 139 "java/lang/IllegalStateException" ["java/lang/RuntimeException", "java/lang/Exception"], w ∈ WS ∨ w ∈ NWL ∨ w ∈ DCL.map (fun d => Cond.declares d.1) := by decide +kernel
theorem og_ISE : ∀ w ∈ Cond.classLink RX6 135 "java/lang/IllegalStateException" :: Cond.initialized "java/lang/IllegalStateException" :: vx_atS RX6 139 "java/lang/IllegalStateException" ["java/lang/RuntimeException", "java/lang/Exception"], vx_ot w = true := by decide +kernel
theorem ft_ISE : Bundle.fit "java/lang/IllegalStateException" = true := by decide +kernel
theorem og_NSEE : ∀ w ∈ Cond.classLink RX6 98 "java/util/NoSuchElementException" :: Cond.initialized "java/util/NoSuchElementException" :: vx_atS RX6 102 "java/util/NoSuchElementException" ["java/lang/RuntimeException", "java/lang/Exception"], vx_ot w = true := by decide +kernel
theorem ft_NSEE : Bundle.fit "java/util/NoSuchElementException" = true := by decide +kernel
theorem at_AE : ∀ w ∈ vx_atS RX6 324 "java/lang/ArithmeticException" ["java/lang/RuntimeException", "java/lang/Exception"], w ∈ WS ∨ w ∈ NWL ∨ w ∈ DCL.map (fun d => Cond.declares d.1) := by decide +kernel
theorem og_AE : ∀ w ∈ Cond.classLink RX6 320 "java/lang/ArithmeticException" :: Cond.initialized "java/lang/ArithmeticException" :: vx_atS RX6 324 "java/lang/ArithmeticException" ["java/lang/RuntimeException", "java/lang/Exception"], vx_ot w = true := by decide +kernel
theorem ft_AE : Bundle.fit "java/lang/ArithmeticException" = true := by decide +kernel
theorem ft_names : ∀ n ∈ ["java/lang/RuntimeException", "java/lang/Exception"], Bundle.fit n = true := by decide +kernel
def cO (q : Nat → Nat) (un : Nat → Nat) (ui : Nat → Int32) : List Value := [.ref (q 1), .ref (q 7), .ref (q 8), .ref (q 9), .ref (q 10), .ref (q 11), .ref (q 14), .ref (q 15), .int (nI (un 2)), .int (ui 3), .int (nI (un 1))]
/-- the class's own sixteen cells: 0 itself, 1 tubes, 2..6 their rows, 7 taps, 8 tanks, 9 pan, 10 trial pan, 11 syrup, 12, 13 its rows, 14 accounts, 15 worths -/
def cF (cA : Nat → ClassId) (q : Nat → Nat) (un : Nat → Nat) (ui : Nat → Int32) (ul : Nat → Int64) (ua : Nat → Nat → Int32) (vc ex wo tp : Nat → Int32) (tf kf : Nat → Option Nat) : va_W :=
  [(q 0, .inr (6, cO q un ui)), (q 1, .inr (5, [.ref (q 2), .ref (q 3), .ref (q 4), .ref (q 5), .ref (q 6), .int (nI (un 0)), .int (ui 0)])), (q 2, .inl (cA 0, 20, .inl (ua 1))), (q 3, .inl (cA 0, 20, .inl (ua 2))), (q 4, .inl (cA 0, 20, .inl (ua 7))), (q 5, .inl (cA 0, 20, .inl vc)), (q 6, .inl (cA 0, 20, .inl ex)), (q 7, .inl (cA 2, 20, .inr (.inr (.inr (.inr tf))))), (q 8, .inl (cA 3, 4, .inr (.inr (.inr (.inr kf))))), (q 9, .inr (1, [.int (ui 1), .int (ui 2), .int (ui 4)])), (q 10, .inr (1, [.int (tp 0), .int (tp 1), .int (tp 2)])), (q 11, .inr (2, [.ref (q 12), .ref (q 13), .int (nI (un 3)), .long (sumL (ua 13) (un 3))])), (q 12, .inl (cA 0, 30, .inl (ua 12))), (q 13, .inl (cA 1, 30, .inl (ua 14))), (q 14, .inr (0, [.long (ul 0), .long (ul 1), .long (ul 2), .long (ul 3), .long (ul 4)])), (q 15, .inl (cA 0, 20, .inl wo))]
/-- the taps, their rows, the tanks -/
def PL (cA : Nat → ClassId) (un : Nat → Nat) (ua : Nat → Nat → Int32) (L : List Nat) (f : Nat → va_E) (tf kf : Nat → Option Nat) (ta ga ka : Nat → Nat) : Prop :=
  (∀ j, j < 20 → tf j = if ua 0 j = 2 then some (ta j) else none) ∧
  (∀ j, j < 20 → ua 0 j = 2 → ta j ∈ L ∧ ga j ∈ L ∧ f (ta j) = .inr (4, [.int (ua 3 j), .int (ua 4 j), .int (ua 5 j), .ref (ga j), .int (ua 6 j), .int (totS (ua 8) j (un 1))]) ∧ ∃ g : Nat → Int32, f (ga j) = .inl (cA 0, 200, .inl g) ∧ ∀ h, h < 200 → g h = ua 8 (200 * j + h)) ∧
  (∀ i j, i < 20 → j < 20 → ua 0 i = 2 → ua 0 j = 2 → ta i = ta j → i = j) ∧
  (∀ i j, i < 20 → j < 20 → ua 0 i = 2 → ua 0 j = 2 → ga i = ga j → i = j) ∧
  (∀ t, t < 4 → kf t = if t < un 2 then some (ka t) else none) ∧
  (∀ t, t < un 2 → ka t ∈ L ∧ f (ka t) = .inr (3, [.int (ua 9 t), .int (ua 10 t), .int (ua 11 t)])) ∧
  (∀ i j, i < un 2 → j < un 2 → ka i = ka j → i = j)
theorem set_at {w : va_W} {i : Nat} {y x : Nat × va_E} (h : w[i]? = some y) : (w.set i x)[i]? = some x := List.getElem?_set_self (List.getElem?_eq_some_iff.mp h).1
theorem set2 {w : va_W} {i : Nat} {x y : Nat × va_E} : (w.set i x).set i y = w.set i y := by
  apply List.ext_getElem?
  intro k
  by_cases h : i = k
  · subst h
    by_cases hl : i < w.length
    · rw [List.getElem?_set_self (by simpa using hl), List.getElem?_set_self hl]
    · rw [List.getElem?_eq_none (by simpa using hl), List.getElem?_eq_none (by simpa using hl)]
  · rw [List.getElem?_set_ne h, List.getElem?_set_ne h, List.getElem?_set_ne h]
section J3
variable {p : Program} {l : Launch} {e : Env} {R : Room} {s : State} {m : MethodId} {args : Array Value} {below : List Frame} {meth : Method} {c : Code} {D : va_G} {cA : Nat → ClassId} {A : Nat → Prop} {nL : Nat}
variable {w : va_W} {k n : Nat} {Q : State → Prop} {pc : Nat} {lv : List (Nat × Value)} {st : List Value} {cc : ByteArray} {own : String}
/-- a reference read from a row: null or not -/
theorem j_aldR (G : GX p s m args c cc nL own D cA A) (q0 t0 : Nat) {C : String} {c2 : ClassId} {a sz : Nat} {f : Nat → Option Nat} {i : Int32} (ha : w[q0]? = some (a, .inl (c2, sz, .inr (.inr (.inr (.inr f)))))) (ht : (TY cA)[t0]? = some (c2, .object C)) (hin : vp_in i sz) (hdg : decode cc pc = .ok (.aaload, 1))
    (K0 : f i.toNatClampNeg = none → J p l e R s m args below meth c nL D A w k n Q (pc + 1) lv (.null :: st)) (K1 : ∀ b, f i.toNatClampNeg = some b → J p l e R s m args below meth c nL D A w k n Q (pc + 1) lv (.ref b :: st)) : J p l e R s m args below meth c nL D A w k n Q pc lv (.int i :: .ref a :: st) := by
  intro H locs ls hP hD hS hls
  refine va_aldq G.1 G.2.1 G.2.2.2.2.2.1 hP q0 t0 ha ht hin hdg ?_
  cases h : f i.toNatClampNeg with
  | none => exact K0 h H locs ls hP hD hS hls
  | some b => exact K1 b h H locs ls hP hD hS hls
theorem j_thr (G : GX p s m args c cc nL own D cA A) (hfl : l.stackTraces = false) {Qc : Array Value → State → Outcome → State → Prop} {px : String × va_W → Prop} {mc ms : Nat} (hQ : Q = vx_MQ below Qc (vx_X px (PX D cA A) A) args s mc ms A) (ht : ∀ x ∈ c.exceptionTable.toList, False) (hlocks : meth.locks = false)
    {E text : String} {names : List String} {ik is ic : Nat} (hcls : Bundle.fit E = true) (hnames : ∀ n ∈ names, Bundle.fit n = true) (hk : Cond.classLink own ik E ∈ WS) (hini : Cond.initialized E ∈ WS) (hown9 : own = RX6) (hstr : (is, text) ∈ STRL)
    (hat : ∀ w ∈ vx_atS own ic E names, w ∈ WS ∨ w ∈ NWL ∨ w ∈ DCL.map (fun d => Cond.declares d.1)) (hgood : ∀ w ∈ Cond.classLink own ik E :: Cond.initialized E :: vx_atS own ic E names, vx_ot w = true)
    (d0 : decode cc pc = .ok (.new ik, 3)) (d3 : decode cc (pc + 3) = .ok (.dup, 1)) (d4 : decode cc (pc + 4) = .ok (.ldc is, 2)) (d6 : decode cc (pc + 6) = .ok (.invokespecial ic, 3)) (d9 : decode cc (pc + 9) = .ok (.athrow, 1))
    (hR : names.length + 3 < R.frames ∧ (st.map fun v => v.category).sum + (13 * (names.length + 1) + 43) ≤ R.locals ∧ k + 1 ≤ R.cells ∧ n + 6 ≤ R.slots) (hpx : px (E, w)) (h1 : k + 1 ≤ mc) (h2 : n + 6 ≤ ms) : J p l e R s m args below meth c nL D A w k n Q (pc) lv st := by
  subst hQ
  obtain ⟨hx, hb, hml, hown, hts, hK, hA, hE⟩ := G
  subst hown9
  obtain ⟨sa, hsa⟩ := hE.2.1 _ hstr
  exact fun H locs ls hP hD hS hl => vx_throwS hx hb hfl hown hcls hnames (hts _ hk) (hts _ hini) hsa (at_use hat hts hE.1) hgood hE.2.2.2.2.2.1 hE.2.2.2.2.2.2 hS (hl.1.trans hml.symm) d0 d3 d4 d6 d9 (fun x hx => absurd hx (fun h => ht x h)) hR.1 hR.2.1 hR.2.2.1 hR.2.2.2 hlocks
    (fun t ht1 ht2 ht3 => ⟨(E, w), hpx, ⟨rfl, hP.kept (fun q x hq => ht3 x.1 ((hP q x hq).lt)), va_K.moved ht1 hK, hD⟩, ⟨Nat.le_trans hS.1 ht2, fun q h3 h4 => (ht3 q (Nat.lt_of_lt_of_le h3 hS.1)).trans (hS.2.1 q h3 h4)⟩⟩) hS.2.2 h1 h2
theorem j_thrW (G : GX p s m args c cc nL own D cA A) (hfl : l.stackTraces = false) {Qc : Array Value → State → Outcome → State → Prop} {px : String × va_W → Prop} {mc ms : Nat} (hQ : Q = vx_MQ below Qc (vx_X px (PX D cA A) A) args s mc ms A) (ht : ∀ x ∈ c.exceptionTable.toList, False) (hlocks : meth.locks = false)
    {E text : String} {names : List String} {ik is ic : Nat} (hcls : Bundle.fit E = true) (hnames : ∀ n ∈ names, Bundle.fit n = true) (hk : Cond.classLink own ik E ∈ WS) (hini : Cond.initialized E ∈ WS) (hown9 : own = RX6) (hstr : (is, text) ∈ STRL)
    (hat : ∀ w ∈ vx_atS own ic E names, w ∈ WS ∨ w ∈ NWL ∨ w ∈ DCL.map (fun d => Cond.declares d.1)) (hgood : ∀ w ∈ Cond.classLink own ik E :: Cond.initialized E :: vx_atS own ic E names, vx_ot w = true)
    (d0 : decode cc pc = .ok (.new ik, 3)) (d3 : decode cc (pc + 3) = .ok (.dup, 1)) (d4 : decode cc (pc + 4) = .ok (.ldc_w is, 3)) (d6 : decode cc (pc + 7) = .ok (.invokespecial ic, 3)) (d9 : decode cc (pc + 10) = .ok (.athrow, 1))
    (hR : names.length + 3 < R.frames ∧ (st.map fun v => v.category).sum + (13 * (names.length + 1) + 43) ≤ R.locals ∧ k + 1 ≤ R.cells ∧ n + 6 ≤ R.slots) (hpx : px (E, w)) (h1 : k + 1 ≤ mc) (h2 : n + 6 ≤ ms) : J p l e R s m args below meth c nL D A w k n Q (pc) lv st := by
  subst hQ
  obtain ⟨hx, hb, hml, hown, hts, hK, hA, hE⟩ := G
  subst hown9
  obtain ⟨sa, hsa⟩ := hE.2.1 _ hstr
  exact fun H locs ls hP hD hS hl => vx_throwSW hx hb hfl hown hcls hnames (hts _ hk) (hts _ hini) hsa (at_use hat hts hE.1) hgood hE.2.2.2.2.2.1 hE.2.2.2.2.2.2 hS (hl.1.trans hml.symm) d0 d3 d4 d6 d9 (fun x hx => absurd hx (fun h => ht x h)) hR.1 hR.2.1 hR.2.2.1 hR.2.2.2 hlocks
    (fun t ht1 ht2 ht3 => ⟨(E, w), hpx, ⟨rfl, hP.kept (fun q x hq => ht3 x.1 ((hP q x hq).lt)), va_K.moved ht1 hK, hD⟩, ⟨Nat.le_trans hS.1 ht2, fun q h3 h4 => (ht3 q (Nat.lt_of_lt_of_le h3 hS.1)).trans (hS.2.1 q h3 h4)⟩⟩) hS.2.2 h1 h2
end J3
/-! THE CLASS: pure words beside the reference's -/
def shrV (sg pt wh : Int32) : Int32 := if wh ≤ 0 ∨ wh ≤ pt then sg else (sg.toInt64 * pt.toInt64 / wh.toInt64).toInt32
def bdV (pv sg lv : Int32) : Int32 := if lstV sg < pv - 5 * lv then pv - 5 * lv else lstV sg
def bvV (pv sg lv : Int32) : Int32 := if bdV pv sg lv < pv then bdV pv sg lv else pv
def bbV (pv sg bo lv : Int32) : Int32 := if bdV pv sg lv < pv then bo + 1 else bo
theorem mx0_max (v : Int32) : (if 0 < v then v else 0) = mx0 v := by
  unfold mx0
  by_cases h : v ≤ 0
  · rw [if_pos h, if_neg (Int32.not_lt.mpr h)]
  · rw [if_neg h, if_pos (Int32.not_le.mp h)]
theorem set_id {w : va_W} {i : Nat} {y : Nat × va_E} (h : w[i]? = some y) : w.set i y = w := by
  apply List.ext_getElem?
  intro k
  by_cases hk : i = k
  · subst hk; rw [set_at h, h]
  · rw [List.getElem?_set_ne hk]
theorem set_ne1 {w : va_W} {i j : Nat} {x y : Nat × va_E} (h : i ≠ j) (hj : w[j]? = some y) : (w.set i x)[j]? = some y := by rw [List.getElem?_set_ne h]; exact hj
theorem le0_eq {v : Int32} (h : 0 ≤ v) (h2 : v ≤ 0) : v = 0 := Int32.le_antisymm h2 h
