/-! MORE ROWS OF J: making objects and rows, floats and doubles; the frame rule (printed by gen_core2.py) -/
section J5
variable {p : Program} {l : Launch} {e : Env} {R : Room} {s : State} {m : MethodId} {args : Array Value} {below : List Frame} {meth : Method} {c : Code} {D : va_G} {cA : Nat → ClassId} {A : Nat → Prop} {nL : Nat}
variable {w : va_W} {k n : Nat} {Q : State → Prop} {pc : Nat} {lv : List (Nat × Value)} {st : List Value} {cc : ByteArray} {own : String}
theorem j_new (G : GX p s m args c cc nL own D cA A) {C : String} {T : u_T} {N ci index : Nat} (hin : ∀ w ∈ u_ws C T N, w ∈ WS) (hc : CL[ci]? = some (C, T, N)) (ty0 : Nat → FieldType) (hty : ∀ k, k < N → parseFieldDescriptor (T k).2.2.1 = some (ty0 k)) (hcl : Cond.classLink own index C ∈ WS) (hinst : Cond.instantiable C N ∈ WS) (hini : Cond.initialized C ∈ WS) {fs : List Value} (hfs : ∀ j, j < N → defaultValue (ty0 j) = vp_V fs j) (hR : k + 1 ≤ R.cells ∧ n + N ≤ R.slots) (hdg : decode cc pc = .ok (.new index, 3))
    (K : ∀ a : Nat, J p l e R s m args below meth c nL D A (w ++ [(a, .inr (ci, fs))]) (k + 1) (n + N) Q (pc + 3) lv (.ref a :: st)) : J p l e R s m args below meth c nL D A w k n Q (pc) lv st := by
  obtain ⟨hx, hb, hml, hown, hts, hK, hA, hE⟩ := G
  exact fun H locs ls hP hD hS hls => va_new hx hb hts hin ty0 hty hown (hts _ hcl) (hts _ hinst) (hts _ hini) hK hP hD hS hA hc hfs hR.1 hR.2 hdg (fun q H1 hP1 hD1 hS1 => K q H1 locs ls hP1 hD1 hS1 hls)
theorem j_newa_i (G : GX p s m args c cc nL own D cA A) {x : Int32} (N : Nat) (hn : ¬ x < 0) (hN : x.toNatClampNeg = N) (hbytes : N * componentBytes .int ≤ 536870912) (hR : k + 1 ≤ R.cells ∧ n + N ≤ R.slots) (hdg : decode cc pc = .ok (.newarray .int, 2))
    (K : ∀ a : Nat, J p l e R s m args below meth c nL D A (w ++ [(a, .inl (cA 0, N, .inl (fun _ => 0)))]) (k + 1) (n + N) Q (pc + 2) lv (.ref a :: st)) : J p l e R s m args below meth c nL D A w k n Q (pc) lv (.int x :: st) := by
  obtain ⟨hx, hb, hml, hown, hts, hK, hA, hE⟩ := G
  refine fun H locs ls hP hD hS hls => va_newa (atype := .int) (a0 := (N, .inl (fun _ => 0))) hx hb (hts _ wd_98) rfl hK hP hD hS hA (fun _ => rfl) hn hN hbytes hR.1 hR.2 hdg (fun q c9 H1 hK1 hP1 hD1 hS1 => ?_)
  have h1 : s.vm.findClass _ = some c9 := (hK1.2 6 (c9, .int) rfl).2
  have h2 : s.vm.findClass _ = some (cA 0) := (hK.2 0 (cA 0, .int) rfl).2
  have e9 : c9 = cA 0 := Option.some.inj (h1.symm.trans h2)
  subst e9
  exact K q H1 locs ls hP1 hD1 hS1 hls
theorem j_newa_c (G : GX p s m args c cc nL own D cA A) {x : Int32} (N : Nat) (hn : ¬ x < 0) (hN : x.toNatClampNeg = N) (hbytes : N * componentBytes .char ≤ 536870912) (hR : k + 1 ≤ R.cells ∧ n + N ≤ R.slots) (hdg : decode cc pc = .ok (.newarray .char, 2))
    (K : ∀ a : Nat, J p l e R s m args below meth c nL D A (w ++ [(a, .inl (cA 1, N, .inl (fun _ => 0)))]) (k + 1) (n + N) Q (pc + 2) lv (.ref a :: st)) : J p l e R s m args below meth c nL D A w k n Q (pc) lv (.int x :: st) := by
  obtain ⟨hx, hb, hml, hown, hts, hK, hA, hE⟩ := G
  refine fun H locs ls hP hD hS hls => va_newa (atype := .char) (a0 := (N, .inl (fun _ => 0))) hx hb (hts _ wd_144) rfl hK hP hD hS hA (fun _ => rfl) hn hN hbytes hR.1 hR.2 hdg (fun q c9 H1 hK1 hP1 hD1 hS1 => ?_)
  have h1 : s.vm.findClass _ = some c9 := (hK1.2 6 (c9, .char) rfl).2
  have h2 : s.vm.findClass _ = some (cA 1) := (hK.2 1 (cA 1, .char) rfl).2
  have e9 : c9 = cA 1 := Option.some.inj (h1.symm.trans h2)
  subst e9
  exact K q H1 locs ls hP1 hD1 hS1 hls
theorem j_newa_l (G : GX p s m args c cc nL own D cA A) {x : Int32} (N : Nat) (hn : ¬ x < 0) (hN : x.toNatClampNeg = N) (hbytes : N * componentBytes .long ≤ 536870912) (hR : k + 1 ≤ R.cells ∧ n + N ≤ R.slots) (hdg : decode cc pc = .ok (.newarray .long, 2))
    (K : ∀ a : Nat, J p l e R s m args below meth c nL D A (w ++ [(a, .inl (cA 4, N, .inr (.inl (fun _ => 0))))]) (k + 1) (n + N) Q (pc + 2) lv (.ref a :: st)) : J p l e R s m args below meth c nL D A w k n Q (pc) lv (.int x :: st) := by
  obtain ⟨hx, hb, hml, hown, hts, hK, hA, hE⟩ := G
  refine fun H locs ls hP hD hS hls => va_newa (atype := .long) (a0 := (N, .inr (.inl (fun _ => 0)))) hx hb (hts _ wd_1266) rfl hK hP hD hS hA (fun _ => rfl) hn hN hbytes hR.1 hR.2 hdg (fun q c9 H1 hK1 hP1 hD1 hS1 => ?_)
  have h1 : s.vm.findClass _ = some c9 := (hK1.2 6 (c9, .long) rfl).2
  have h2 : s.vm.findClass _ = some (cA 4) := (hK.2 4 (cA 4, .long) rfl).2
  have e9 : c9 = cA 4 := Option.some.inj (h1.symm.trans h2)
  subst e9
  exact K q H1 locs ls hP1 hD1 hS1 hls
theorem j_newa_d (G : GX p s m args c cc nL own D cA A) {x : Int32} (N : Nat) (hn : ¬ x < 0) (hN : x.toNatClampNeg = N) (hbytes : N * componentBytes .double ≤ 536870912) (hR : k + 1 ≤ R.cells ∧ n + N ≤ R.slots) (hdg : decode cc pc = .ok (.newarray .double, 2))
    (K : ∀ a : Nat, J p l e R s m args below meth c nL D A (w ++ [(a, .inl (cA 5, N, .inr (.inr (.inr (.inl (fun _ => 0))))))]) (k + 1) (n + N) Q (pc + 2) lv (.ref a :: st)) : J p l e R s m args below meth c nL D A w k n Q (pc) lv (.int x :: st) := by
  obtain ⟨hx, hb, hml, hown, hts, hK, hA, hE⟩ := G
  refine fun H locs ls hP hD hS hls => va_newa (atype := .double) (a0 := (N, .inr (.inr (.inr (.inl (fun _ => 0)))))) hx hb (hts _ wd_1267) rfl hK hP hD hS hA (fun _ => rfl) hn hN hbytes hR.1 hR.2 hdg (fun q c9 H1 hK1 hP1 hD1 hS1 => ?_)
  have h1 : s.vm.findClass _ = some c9 := (hK1.2 6 (c9, .double) rfl).2
  have h2 : s.vm.findClass _ = some (cA 5) := (hK.2 5 (cA 5, .double) rfl).2
  have e9 : c9 = cA 5 := Option.some.inj (h1.symm.trans h2)
  subst e9
  exact K q H1 locs ls hP1 hD1 hS1 hls
theorem j_newq_RX4 (G : GX p s m args c cc nL own D cA A) {index : Nat} {x : Int32} (N : Nat) (hcl : Cond.classLink own index RX4 ∈ WS) (hn : ¬ x < 0) (hN : x.toNatClampNeg = N) (hbytes : N * 4 ≤ 536870912) (hR : k + 1 ≤ R.cells ∧ n + N ≤ R.slots) (hdg : decode cc pc = .ok (.anewarray index, 3))
    (K : ∀ a : Nat, J p l e R s m args below meth c nL D A (w ++ [(a, .inl (cA 2, N, .inr (.inr (.inr (.inr (fun _ => none))))))]) (k + 1) (n + N) Q (pc + 3) lv (.ref a :: st)) : J p l e R s m args below meth c nL D A w k n Q (pc) lv (.int x :: st) := by
  obtain ⟨hx, hb, hml, hown, hts, hK, hA, hE⟩ := G
  refine fun H locs ls hP hD hS hls => va_newq hx hb hown (hts _ hcl) hE.2.2.2.1 hK hP hD hS hA hn hN hbytes hR.1 hR.2 hdg (fun q c9 H1 hK1 hP1 hD1 hS1 => ?_)
  obtain ⟨-, -, -, -, -, h1⟩ := (hK1.2 6 (c9, .object RX4) rfl).2
  obtain ⟨-, -, -, -, -, h2⟩ := (hK.2 2 (cA 2, .object RX4) rfl).2
  have e9 : c9 = cA 2 := Option.some.inj (h1.symm.trans h2)
  subst e9
  exact K q H1 locs ls hP1 hD1 hS1 hls
theorem j_newq_RX3 (G : GX p s m args c cc nL own D cA A) {index : Nat} {x : Int32} (N : Nat) (hcl : Cond.classLink own index RX3 ∈ WS) (hn : ¬ x < 0) (hN : x.toNatClampNeg = N) (hbytes : N * 4 ≤ 536870912) (hR : k + 1 ≤ R.cells ∧ n + N ≤ R.slots) (hdg : decode cc pc = .ok (.anewarray index, 3))
    (K : ∀ a : Nat, J p l e R s m args below meth c nL D A (w ++ [(a, .inl (cA 3, N, .inr (.inr (.inr (.inr (fun _ => none))))))]) (k + 1) (n + N) Q (pc + 3) lv (.ref a :: st)) : J p l e R s m args below meth c nL D A w k n Q (pc) lv (.int x :: st) := by
  obtain ⟨hx, hb, hml, hown, hts, hK, hA, hE⟩ := G
  refine fun H locs ls hP hD hS hls => va_newq hx hb hown (hts _ hcl) hE.2.2.2.2.1 hK hP hD hS hA hn hN hbytes hR.1 hR.2 hdg (fun q c9 H1 hK1 hP1 hD1 hS1 => ?_)
  obtain ⟨-, -, -, -, -, h1⟩ := (hK1.2 6 (c9, .object RX3) rfl).2
  obtain ⟨-, -, -, -, -, h2⟩ := (hK.2 3 (cA 3, .object RX3) rfl).2
  have e9 : c9 = cA 3 := Option.some.inj (h1.symm.trans h2)
  subst e9
  exact K q H1 locs ls hP1 hD1 hS1 hls
theorem j_objInit (G : GX p s m args c cc nL own D cA A) {index a : Nat} (h1 : Cond.methodLink own index objectInit ∈ WS) (hR : 1 ≤ R.frames ∧ (st.map fun v => v.category).sum + 12 ≤ R.locals) (hdg : decode cc pc = .ok (.invokespecial index, 3))
    (K : J p l e R s m args below meth c nL D A w k n Q (pc + 3) lv st) : J p l e R s m args below meth c nL D A w k n Q (pc) lv (.ref a :: st) := by
  obtain ⟨hx, hb, hml, hown, hts, hK, hA, hE⟩ := G
  exact fun H locs ls hP hD hS hls => W.objInit hx hb hown (hts _ h1) (hts _ wd_66) (hts _ wd_67) rfl (hls.1.trans hml.symm) rfl hdg hR.1 (by have := hR.2; simpa [F0] using this) (K H locs ls hP hD hS hls)
theorem j_l2f (G : GX p s m args c cc nL own D cA A) {x : Int64} (hdg : decode cc pc = .ok (.l2f, 1)) (K : J p l e R s m args below meth c nL D A w k n Q (pc + 1) lv (.float (FP.l2f x) :: st)) : J p l e R s m args below meth c nL D A w k n Q (pc) lv (.long x :: st) :=
  fun H locs ls hP hD hS hl => lv_l2f G.1 G.2.1 hdg (K H locs ls hP hD hS hl)
theorem j_l2d (G : GX p s m args c cc nL own D cA A) {x : Int64} (hdg : decode cc pc = .ok (.l2d, 1)) (K : J p l e R s m args below meth c nL D A w k n Q (pc + 1) lv (.double (FP.l2d x) :: st)) : J p l e R s m args below meth c nL D A w k n Q (pc) lv (.long x :: st) :=
  fun H locs ls hP hD hS hl => lv_l2d G.1 G.2.1 hdg (K H locs ls hP hD hS hl)
theorem j_fdiv (G : GX p s m args c cc nL own D cA A) {x y : UInt32} (hdg : decode cc pc = .ok (.fdiv, 1)) (hne : vf_n32 (FP.fdiv x y)) (K : J p l e R s m args below meth c nL D A w k n Q (pc + 1) lv (.float (FP.fdiv x y) :: st)) : J p l e R s m args below meth c nL D A w k n Q (pc) lv (.float y :: .float x :: st) :=
  fun H locs ls hP hD hS hl => lv_fdiv G.1 G.2.1 hdg hne (K H locs ls hP hD hS hl)
theorem j_ddiv (G : GX p s m args c cc nL own D cA A) {x y : UInt64} (hdg : decode cc pc = .ok (.ddiv, 1)) (hne : vf_n64 (FP.ddiv x y)) (K : J p l e R s m args below meth c nL D A w k n Q (pc + 1) lv (.double (FP.ddiv x y) :: st)) : J p l e R s m args below meth c nL D A w k n Q (pc) lv (.double y :: .double x :: st) :=
  fun H locs ls hP hD hS hl => lv_ddiv G.1 G.2.1 hdg hne (K H locs ls hP hD hS hl)
theorem j_f2d (G : GX p s m args c cc nL own D cA A) {x : UInt32} (hdg : decode cc pc = .ok (.f2d, 1)) (hne : vf_n64 (FP.f2d x)) (K : J p l e R s m args below meth c nL D A w k n Q (pc + 1) lv (.double (FP.f2d x) :: st)) : J p l e R s m args below meth c nL D A w k n Q (pc) lv (.float x :: st) :=
  fun H locs ls hP hD hS hl => lv_f2d G.1 G.2.1 hdg hne (K H locs ls hP hD hS hl)
theorem j_dcmp (G : GX p s m args c cc nL own D cA A) {x y : UInt64} {op : CmpOp} (hdg : decode cc pc = .ok (.dcmp op, 1)) (K : J p l e R s m args below meth c nL D A w k n Q (pc + 1) lv (.int (Op.cmpValue (FP.dcmp x y) op) :: st)) : J p l e R s m args below meth c nL D A w k n Q (pc) lv (.double y :: .double x :: st) :=
  fun H locs ls hP hD hS hl => lv_dcmp G.1 G.2.1 hdg (K H locs ls hP hD hS hl)
theorem j_fconst0 (G : GX p s m args c cc nL own D cA A) (hdg : decode cc pc = .ok (.fconst 0, 1)) (K : J p l e R s m args below meth c nL D A w k n Q (pc + 1) lv (.float FP.fconst0 :: st)) : J p l e R s m args below meth c nL D A w k n Q (pc) lv st :=
  fun H locs ls hP hD hS hl => lv_fconst0 G.1 G.2.1 hdg (K H locs ls hP hD hS hl)
theorem j_dconst0 (G : GX p s m args c cc nL own D cA A) (hdg : decode cc pc = .ok (.dconst 0, 1)) (K : J p l e R s m args below meth c nL D A w k n Q (pc + 1) lv (.double FP.dconst0 :: st)) : J p l e R s m args below meth c nL D A w k n Q (pc) lv st :=
  fun H locs ls hP hD hS hl => lv_dconst0 G.1 G.2.1 hdg (K H locs ls hP hD hS hl)
theorem j_last (G : GX p s m args c cc nL own D cA A) (q0 : Nat) {a sz : Nat} {f : Nat → Int64} {i : Int32} {x : Int64} {w' : va_W} (ha : w[q0]? = some (a, .inl (cA 4, sz, .inr (.inl f)))) (hin : vp_in i sz) (hdg : decode cc pc = .ok (.lastore, 1)) (hw : w.set q0 (a, .inl (cA 4, sz, .inr (.inl (vp_updL f i.toNatClampNeg x)))) = w')
    (K : J p l e R s m args below meth c nL D A w' k n Q (pc + 1) lv st) : J p l e R s m args below meth c nL D A w k n Q (pc) lv (.long x :: .int i :: .ref a :: st) := by
  subst hw
  exact fun H locs ls hP hD hS hls => va_last G.1 G.2.1 G.2.2.2.2.2.1 hP hD hS q0 4 ha rfl hin hdg (fun H1 locs1 hP1 hD1 hS1 => K H1 locs1 ls hP1 hD1 hS1 hls)
theorem j_lald (G : GX p s m args c cc nL own D cA A) (q0 : Nat) {a sz : Nat} {f : Nat → Int64} {i : Int32} (ha : w[q0]? = some (a, .inl (cA 4, sz, .inr (.inl f)))) (hin : vp_in i sz) (hdg : decode cc pc = .ok (.laload, 1))
    (K : J p l e R s m args below meth c nL D A w k n Q (pc + 1) lv (.long (f i.toNatClampNeg) :: st)) : J p l e R s m args below meth c nL D A w k n Q (pc) lv (.int i :: .ref a :: st) :=
  fun H locs ls hP hD hS hls => va_lald G.1 G.2.1 G.2.2.2.2.2.1 hP q0 4 ha rfl hin hdg (K H locs ls hP hD hS hls)
theorem j_dast (G : GX p s m args c cc nL own D cA A) (q0 : Nat) {a sz : Nat} {f : Nat → UInt64} {i : Int32} {x : UInt64} {w' : va_W} (ha : w[q0]? = some (a, .inl (cA 5, sz, .inr (.inr (.inr (.inl f)))))) (hin : vp_in i sz) (hdg : decode cc pc = .ok (.dastore, 1)) (hw : w.set q0 (a, .inl (cA 5, sz, .inr (.inr (.inr (.inl (vf_upd f i.toNatClampNeg x)))))) = w')
    (K : J p l e R s m args below meth c nL D A w' k n Q (pc + 1) lv st) : J p l e R s m args below meth c nL D A w k n Q (pc) lv (.double x :: .int i :: .ref a :: st) := by
  subst hw
  exact fun H locs ls hP hD hS hls => va_dast G.1 G.2.1 G.2.2.2.2.2.1 hP hD hS q0 5 ha rfl hin hdg (fun H1 locs1 hP1 hD1 hS1 => K H1 locs1 ls hP1 hD1 hS1 hls)
theorem j_dald (G : GX p s m args c cc nL own D cA A) (q0 : Nat) {a sz : Nat} {f : Nat → UInt64} {i : Int32} (ha : w[q0]? = some (a, .inl (cA 5, sz, .inr (.inr (.inr (.inl f)))))) (hin : vp_in i sz) (hdg : decode cc pc = .ok (.daload, 1))
    (K : J p l e R s m args below meth c nL D A w k n Q (pc + 1) lv (.double (f i.toNatClampNeg) :: st)) : J p l e R s m args below meth c nL D A w k n Q (pc) lv (.int i :: .ref a :: st) :=
  fun H locs ls hP hD hS hls => va_dald G.1 G.2.1 G.2.2.2.2.2.1 hP q0 5 ha rfl hin hdg (K H locs ls hP hD hS hls)
theorem ent_f {y : MethodName} {b : ByteArray} {maxL f lo mc ms : Nat} {av : List Value} {post : UInt32 → va_W → Prop} {lv0 : List (Nat × Value)} (hy : plainName y.cls = true) (hown9 : y.cls = own) (hlen : (lg_sl av).length ≤ maxL) (hlv : lv_args 0 av = lv0)
    (body : ∀ (p : Program) (e : Env) (s : State) (m : MethodId) (args : Array Value) (below : List Frame) (meth : Method) (c : Code) (A : Nat → Prop) (Q : State → Prop), GX p s m args c b maxL own D cA A → meth.name = y.name → (∀ (r : UInt32) (w' : va_W) (pc : Nat) (lv : List (Nat × Value)), decode b pc = .ok (.freturn, 1) → post r w' → J p l e (RM f lo mc ms) s m args below meth c maxL D A w' mc ms Q pc lv [.float r]) → J p l e (RM f lo mc ms) s m args below meth c maxL D A w 0 0 Q 0 lv0 []) : Kf l y b maxL f lo mc ms D cA av w post := by
  intro sz
  refine Met.ofW (cc := b) (maxL := maxL) (ret := (some .float)) hy rfl ?_
  intro p e s m args below meth c s₁ B hml hv
  obtain ⟨rfl, hsz, hP, hK, hD0, hE⟩ := hv
  subst hsz
  have hts := atoms_spec (ws := wz y b maxL (some .float)) B.pre
  have hD : va_D (va_A w s.heap.size) w := hD0.self
  rw [lg_entry_eq]
  exact body p e s m _ below meth c (va_A w s.heap.size) _ ⟨B.exec, B.bytes, hml, by rw [← hown9]; exact findClass_of_methodNamed B.named, fun w h => hts w (List.mem_cons_of_mem _ h), hK, fun q h => Or.inr h, hE⟩ (name_of_methodNamed B.named B.method).1
    (fun r w9 pc lv hd hp H locs ls hP hD hS hl => W.fret (hlocks := B.notSynchronized) B.exec B.bytes B.returns (fun t ht hW => ⟨⟨r, w9, rfl, hp, by rw [ht]; exact hP, va_K.moved hW.alike hK, hD⟩, hS.F ht⟩) hS.2.2 hd) s.heap [] _ hP hD va_S.rf (by rw [← hlv]; exact lv_entry av hlen)
theorem ent_d {y : MethodName} {b : ByteArray} {maxL f lo mc ms : Nat} {av : List Value} {post : UInt64 → va_W → Prop} {lv0 : List (Nat × Value)} (hy : plainName y.cls = true) (hown9 : y.cls = own) (hlen : (lg_sl av).length ≤ maxL) (hlv : lv_args 0 av = lv0)
    (body : ∀ (p : Program) (e : Env) (s : State) (m : MethodId) (args : Array Value) (below : List Frame) (meth : Method) (c : Code) (A : Nat → Prop) (Q : State → Prop), GX p s m args c b maxL own D cA A → meth.name = y.name → (∀ (r : UInt64) (w' : va_W) (pc : Nat) (lv : List (Nat × Value)), decode b pc = .ok (.dreturn, 1) → post r w' → J p l e (RM f lo mc ms) s m args below meth c maxL D A w' mc ms Q pc lv [.double r]) → J p l e (RM f lo mc ms) s m args below meth c maxL D A w 0 0 Q 0 lv0 []) : Kd l y b maxL f lo mc ms D cA av w post := by
  intro sz
  refine Met.ofW (cc := b) (maxL := maxL) (ret := (some .double)) hy rfl ?_
  intro p e s m args below meth c s₁ B hml hv
  obtain ⟨rfl, hsz, hP, hK, hD0, hE⟩ := hv
  subst hsz
  have hts := atoms_spec (ws := wz y b maxL (some .double)) B.pre
  have hD : va_D (va_A w s.heap.size) w := hD0.self
  rw [lg_entry_eq]
  exact body p e s m _ below meth c (va_A w s.heap.size) _ ⟨B.exec, B.bytes, hml, by rw [← hown9]; exact findClass_of_methodNamed B.named, fun w h => hts w (List.mem_cons_of_mem _ h), hK, fun q h => Or.inr h, hE⟩ (name_of_methodNamed B.named B.method).1
    (fun r w9 pc lv hd hp H locs ls hP hD hS hl => W.dret (hlocks := B.notSynchronized) B.exec B.bytes B.returns (fun t ht hW => ⟨⟨r, w9, rfl, hp, by rw [ht]; exact hP, va_K.moved hW.alike hK, hD⟩, hS.F ht⟩) hS.2.2 hd) s.heap [] _ hP hD va_S.rf (by rw [← hlv]; exact lv_entry av hlen)
abbrev Xf (l : Launch) (y : MethodName) (b : ByteArray) (maxL : Nat) (f lo mc ms : Nat) (D : va_G) (cA : Nat → ClassId) (av : List Value) (w : va_W) (post : UInt32 → va_W → Prop) (px : String × va_W → Prop) : Prop := ∀ sz : Nat, vx_Met l y (wz y b maxL (some .float)) (RM f lo mc ms) (va_Pc av (PR D cA w sz)) (va_Qf post (PO D cA (va_A w sz)) (va_A w sz)) (vx_X px (PX D cA (va_A w sz)) (va_A w sz)) mc ms (va_A w sz)
theorem jx_callf (G : GX p s m args c cc nL own D cA A) {post : UInt32 → va_W → Prop} {px : String × va_W → Prop} {mc ms : Nat} {st0 : List Value} {arr : Array Value}
    (hr : ∀ (H : Heap) (locs : List Loc) (ls : Array Slot), va_P D CL w H → va_D A w → va_S A s.heap H locs → lv_has ls nL lv → vx_Run p l e R s m args below meth c H locs k n mc ms (F0 m pc ls st0) st (va_Qf post (PO D cA (va_A w H.size)) (va_A w H.size) arr) (vx_X px (PX D cA (va_A w H.size)) (va_A w H.size)) (va_A w H.size))
    (KX : ∀ (E : String) (w' : va_W), px (E, w') → JX p l e R s m args below meth c nL D A w' (k + mc) (n + ms) Q pc lv st E) (K : ∀ (r : UInt32) (w' : va_W), post r w' → J p l e R s m args below meth c nL D A w' (k + mc) (n + ms) Q (pc + 3) lv (.float r :: st)) : J p l e R s m args below meth c nL D A w k n Q (pc) lv st0 := by
  intro H locs ls hP hD hS hl
  refine vx_callf (hr H locs ls hP hD hS hl) hS (fun q _ h => wA (D := D) hD hS G.2.2.2.2.2.2.1 q h) (wA (D := D) hD hS G.2.2.2.2.2.2.1) (fun q _ h => wA (D := D) hD hS G.2.2.2.2.2.2.1 q h) (fun E ce q u t H1 locs1 ht hvm hp hB hz hk hS1 hce hcv hcl => ?_) (fun r u t H1 locs1 ht hvm hp hB hz hk hS1 => ?_)
  · obtain ⟨hE, hP1, -, hD1⟩ := hB
    rw [ht] at hP1
    obtain ⟨E9, w9⟩ := u
    have hE : E = E9 := hE
    subst hE
    exact KX E w9 hp H1 locs1 ls q ce hP1 (hD1.weaken (fun _ q _ h => wA (D := D) hD hS G.2.2.2.2.2.2.1 _ h)) hS1 hl hce hcv hcl
  · obtain ⟨hP1, -, hD1⟩ := hB
    rw [ht] at hP1
    exact K r u hp H1 locs1 ls hP1 (hD1.weaken (fun _ q _ h => wA (D := D) hD hS G.2.2.2.2.2.2.1 _ h)) hS1 hl
theorem jXV_f (G : GX p s m args c cc nL own D cA A) {C : String} {index n2 maxL f lo mc ms : Nat} {y : MethodName} {b : ByteArray} {a : Nat} {As st0 : List Value} {fs : List Value} {cl1 : u_T} {cl2 : Nat} {post : UInt32 → va_W → Prop} {px : String × va_W → Prop} (ci q0 : Nat) (hM : Xf l y b maxL f lo mc ms D cA (.ref a :: As) w post px) (g : GoodIn WS (wsV own index C y (wz y b maxL (some .float)))) (hd : y.cls = C ∧ y.cls ≠ "java/lang/invoke/MethodHandle" ∧ y.cls ≠ "java/lang/invoke/VarHandle" ∧ (parseMethodDescriptor y.desc).map (fun d => d.parameters.length) = some n2) (hR : f + 1 ≤ R.frames ∧ 8 + (maxL + 11) + lo ≤ R.locals) (hf : k + mc ≤ R.cells ∧ n + ms ≤ R.slots) (hn : As.length = n2) (hst : st0 = As.reverse ++ .ref a :: st) (hcat : (st.map fun v => v.category).sum ≤ 8) (hc : CL[ci]? = some (C, cl1, cl2)) (he : w[q0]? = some (a, .inr (ci, fs))) (hdg : decode cc pc = .ok (.invokevirtual index, 3)) (KX : ∀ (E : String) (w' : va_W), px (E, w') → JX p l e R s m args below meth c nL D A w' (k + mc) (n + ms) Q pc lv st E) (K : ∀ (r : UInt32) (w' : va_W), post r w' → J p l e R s m args below meth c nL D A w' (k + mc) (n + ms) Q (pc + 3) lv (.float r :: st)) : J p l e R s m args below meth c nL D A w k n Q (pc) lv st0 :=
  jx_callf G (fun H locs ls hP hD hS hl => rx_V (Qc := (fun sz => va_Qf post (PO D cA (va_A w sz)) (va_A w sz))) (XC := fun sz => vx_X px (PX D cA (va_A w sz)) (va_A w sz)) G hM g ⟨rfl, rfl⟩ hd hR hf hn hst hcat hc he hdg hP hD hS hl) KX K
theorem ent_Xf {y : MethodName} {b : ByteArray} {maxL f lo mc ms : Nat} {av : List Value} {post : UInt32 → va_W → Prop} {px : String × va_W → Prop} {lv0 : List (Nat × Value)} (hy : plainName y.cls = true) (hown9 : y.cls = own) (hlen : (lg_sl av).length ≤ maxL) (hlv : lv_args 0 av = lv0)
    (body : ∀ (p : Program) (e : Env) (s : State) (m : MethodId) (args : Array Value) (below : List Frame) (meth : Method) (c : Code) (A : Nat → Prop) (Q : State → Prop), GX p s m args c b maxL own D cA A → Q = vx_MQ below (va_Qf post (PO D cA A) A) (vx_X px (PX D cA A) A) args s mc ms A → (∀ x ∈ c.exceptionTable.toList, False) → meth.locks = false → (∀ (r : UInt32) (w' : va_W) (pc : Nat) (lv : List (Nat × Value)), decode b pc = .ok (.freturn, 1) → post r w' → J p l e (RM f lo mc ms) s m args below meth c maxL D A w' mc ms Q pc lv [.float r]) → J p l e (RM f lo mc ms) s m args below meth c maxL D A w 0 0 Q 0 lv0 []) : Xf l y b maxL f lo mc ms D cA av w post px := by
  intro sz
  refine vx_ofW (cc := b) (maxL := maxL) (ret := (some .float)) hy rfl ?_
  intro p e s m args below meth c s₁ B hml htab hv
  obtain ⟨rfl, hsz, hP, hK, hD0, hE⟩ := hv
  subst hsz
  have hts := atoms_spec (ws := wz y b maxL (some .float)) B.pre
  have hD : va_D (va_A w s.heap.size) w := hD0.self
  rw [lg_entry_eq]
  exact body p e s m _ below meth c (va_A w s.heap.size) _ ⟨B.exec, B.bytes, hml, by rw [← hown9]; exact findClass_of_methodNamed B.named, fun w h => hts w (List.mem_cons_of_mem _ h), hK, fun q h => Or.inr h, hE⟩ rfl htab B.notSynchronized
    (fun r w9 pc lv hd hp H locs ls hP hD hS hl => vx_ret (W.fret (hlocks := B.notSynchronized) B.exec B.bytes B.returns (fun t ht hW => ⟨⟨r, w9, rfl, hp, by rw [ht]; exact hP, va_K.moved hW.alike hK, hD⟩, hS.F ht⟩) hS.2.2 hd)) s.heap [] _ hP hD va_S.rf (by rw [← hlv]; exact lv_entry av hlen)
abbrev Xd (l : Launch) (y : MethodName) (b : ByteArray) (maxL : Nat) (f lo mc ms : Nat) (D : va_G) (cA : Nat → ClassId) (av : List Value) (w : va_W) (post : UInt64 → va_W → Prop) (px : String × va_W → Prop) : Prop := ∀ sz : Nat, vx_Met l y (wz y b maxL (some .double)) (RM f lo mc ms) (va_Pc av (PR D cA w sz)) (va_Qd post (PO D cA (va_A w sz)) (va_A w sz)) (vx_X px (PX D cA (va_A w sz)) (va_A w sz)) mc ms (va_A w sz)
theorem jx_calld (G : GX p s m args c cc nL own D cA A) {post : UInt64 → va_W → Prop} {px : String × va_W → Prop} {mc ms : Nat} {st0 : List Value} {arr : Array Value}
    (hr : ∀ (H : Heap) (locs : List Loc) (ls : Array Slot), va_P D CL w H → va_D A w → va_S A s.heap H locs → lv_has ls nL lv → vx_Run p l e R s m args below meth c H locs k n mc ms (F0 m pc ls st0) st (va_Qd post (PO D cA (va_A w H.size)) (va_A w H.size) arr) (vx_X px (PX D cA (va_A w H.size)) (va_A w H.size)) (va_A w H.size))
    (KX : ∀ (E : String) (w' : va_W), px (E, w') → JX p l e R s m args below meth c nL D A w' (k + mc) (n + ms) Q pc lv st E) (K : ∀ (r : UInt64) (w' : va_W), post r w' → J p l e R s m args below meth c nL D A w' (k + mc) (n + ms) Q (pc + 3) lv (.double r :: st)) : J p l e R s m args below meth c nL D A w k n Q (pc) lv st0 := by
  intro H locs ls hP hD hS hl
  refine vx_calld (hr H locs ls hP hD hS hl) hS (fun q _ h => wA (D := D) hD hS G.2.2.2.2.2.2.1 q h) (wA (D := D) hD hS G.2.2.2.2.2.2.1) (fun q _ h => wA (D := D) hD hS G.2.2.2.2.2.2.1 q h) (fun E ce q u t H1 locs1 ht hvm hp hB hz hk hS1 hce hcv hcl => ?_) (fun r u t H1 locs1 ht hvm hp hB hz hk hS1 => ?_)
  · obtain ⟨hE, hP1, -, hD1⟩ := hB
    rw [ht] at hP1
    obtain ⟨E9, w9⟩ := u
    have hE : E = E9 := hE
    subst hE
    exact KX E w9 hp H1 locs1 ls q ce hP1 (hD1.weaken (fun _ q _ h => wA (D := D) hD hS G.2.2.2.2.2.2.1 _ h)) hS1 hl hce hcv hcl
  · obtain ⟨hP1, -, hD1⟩ := hB
    rw [ht] at hP1
    exact K r u hp H1 locs1 ls hP1 (hD1.weaken (fun _ q _ h => wA (D := D) hD hS G.2.2.2.2.2.2.1 _ h)) hS1 hl
theorem jXV_d (G : GX p s m args c cc nL own D cA A) {C : String} {index n2 maxL f lo mc ms : Nat} {y : MethodName} {b : ByteArray} {a : Nat} {As st0 : List Value} {fs : List Value} {cl1 : u_T} {cl2 : Nat} {post : UInt64 → va_W → Prop} {px : String × va_W → Prop} (ci q0 : Nat) (hM : Xd l y b maxL f lo mc ms D cA (.ref a :: As) w post px) (g : GoodIn WS (wsV own index C y (wz y b maxL (some .double)))) (hd : y.cls = C ∧ y.cls ≠ "java/lang/invoke/MethodHandle" ∧ y.cls ≠ "java/lang/invoke/VarHandle" ∧ (parseMethodDescriptor y.desc).map (fun d => d.parameters.length) = some n2) (hR : f + 1 ≤ R.frames ∧ 8 + (maxL + 11) + lo ≤ R.locals) (hf : k + mc ≤ R.cells ∧ n + ms ≤ R.slots) (hn : As.length = n2) (hst : st0 = As.reverse ++ .ref a :: st) (hcat : (st.map fun v => v.category).sum ≤ 8) (hc : CL[ci]? = some (C, cl1, cl2)) (he : w[q0]? = some (a, .inr (ci, fs))) (hdg : decode cc pc = .ok (.invokevirtual index, 3)) (KX : ∀ (E : String) (w' : va_W), px (E, w') → JX p l e R s m args below meth c nL D A w' (k + mc) (n + ms) Q pc lv st E) (K : ∀ (r : UInt64) (w' : va_W), post r w' → J p l e R s m args below meth c nL D A w' (k + mc) (n + ms) Q (pc + 3) lv (.double r :: st)) : J p l e R s m args below meth c nL D A w k n Q (pc) lv st0 :=
  jx_calld G (fun H locs ls hP hD hS hl => rx_V (Qc := (fun sz => va_Qd post (PO D cA (va_A w sz)) (va_A w sz))) (XC := fun sz => vx_X px (PX D cA (va_A w sz)) (va_A w sz)) G hM g ⟨rfl, rfl⟩ hd hR hf hn hst hcat hc he hdg hP hD hS hl) KX K
theorem ent_Xd {y : MethodName} {b : ByteArray} {maxL f lo mc ms : Nat} {av : List Value} {post : UInt64 → va_W → Prop} {px : String × va_W → Prop} {lv0 : List (Nat × Value)} (hy : plainName y.cls = true) (hown9 : y.cls = own) (hlen : (lg_sl av).length ≤ maxL) (hlv : lv_args 0 av = lv0)
    (body : ∀ (p : Program) (e : Env) (s : State) (m : MethodId) (args : Array Value) (below : List Frame) (meth : Method) (c : Code) (A : Nat → Prop) (Q : State → Prop), GX p s m args c b maxL own D cA A → Q = vx_MQ below (va_Qd post (PO D cA A) A) (vx_X px (PX D cA A) A) args s mc ms A → (∀ x ∈ c.exceptionTable.toList, False) → meth.locks = false → (∀ (r : UInt64) (w' : va_W) (pc : Nat) (lv : List (Nat × Value)), decode b pc = .ok (.dreturn, 1) → post r w' → J p l e (RM f lo mc ms) s m args below meth c maxL D A w' mc ms Q pc lv [.double r]) → J p l e (RM f lo mc ms) s m args below meth c maxL D A w 0 0 Q 0 lv0 []) : Xd l y b maxL f lo mc ms D cA av w post px := by
  intro sz
  refine vx_ofW (cc := b) (maxL := maxL) (ret := (some .double)) hy rfl ?_
  intro p e s m args below meth c s₁ B hml htab hv
  obtain ⟨rfl, hsz, hP, hK, hD0, hE⟩ := hv
  subst hsz
  have hts := atoms_spec (ws := wz y b maxL (some .double)) B.pre
  have hD : va_D (va_A w s.heap.size) w := hD0.self
  rw [lg_entry_eq]
  exact body p e s m _ below meth c (va_A w s.heap.size) _ ⟨B.exec, B.bytes, hml, by rw [← hown9]; exact findClass_of_methodNamed B.named, fun w h => hts w (List.mem_cons_of_mem _ h), hK, fun q h => Or.inr h, hE⟩ rfl htab B.notSynchronized
    (fun r w9 pc lv hd hp H locs ls hP hD hS hl => vx_ret (W.dret (hlocks := B.notSynchronized) B.exec B.bytes B.returns (fun t ht hW => ⟨⟨r, w9, rfl, hp, by rw [ht]; exact hP, va_K.moved hW.alike hK, hD⟩, hS.F ht⟩) hS.2.2 hd)) s.heap [] _ hP hD va_S.rf (by rw [← hlv]; exact lv_entry av hlen)
end J5
/-! the frame rule: a contract over a part of the world -/
theorem wl_ {a b : va_W} {k : Nat} {q : Nat × va_E} (h : a[k]? = some q) : (a ++ b)[k]? = some q := by rw [List.getElem?_append_left (List.getElem?_eq_some_iff.mp h).1]; exact h
theorem wr_ {a b : va_W} {k : Nat} {q : Nat × va_E} (h : b[k]? = some q) : (a ++ b)[a.length + k]? = some q := by rw [List.getElem?_append_right (Nat.le_add_right _ _), Nat.add_sub_cancel_left]; exact h
section FRM
variable {D : va_G} {cA : Nat → ClassId} {A : Nat → Prop} {H : Heap} {a b c b' : va_W} {sz : Nat} {s t : State}
theorem fP_l (h : va_P D CL (a ++ b) H) : va_P D CL a H := fun k q hk => h k q (wl_ hk)
theorem fP_r (h : va_P D CL (a ++ b) H) : va_P D CL b H := fun k q hk => h _ q (wr_ hk)
theorem fD_l (h : va_D A (a ++ b)) : va_D A a := ⟨fun i j p q hi hj e => h.1 i j p q (wl_ hi) (wl_ hj) e, fun k q hk => h.2 k q (wl_ hk)⟩
theorem fD_r (h : va_D A (a ++ b)) : va_D A b := ⟨fun i j p q hi hj e => by have := h.1 _ _ p q (wr_ hi) (wr_ hj) e; omega, fun k q hk => h.2 _ q (wr_ hk)⟩
theorem fD_x (h : va_D A (a ++ b)) {i j : Nat} {p q : Nat × va_E} (hi : a[i]? = some p) (hj : b[j]? = some q) : p.1 ≠ q.1 := fun e => by
  have h1 := h.1 _ _ p q (wl_ hi) (wr_ hj) e
  have h2 := (List.getElem?_eq_some_iff.mp hi).1
  omega
theorem fA_m (q : Nat) (h : va_A b sz q) : va_A ((a ++ b) ++ c) sz q := h.elim (fun ⟨_, e, hk⟩ => Or.inl ⟨_, e, wl_ (wr_ hk)⟩) Or.inr
theorem fr_pre (h : PR D cA ((a ++ b) ++ c) sz s) : PR D cA b sz s := ⟨h.1, fP_r (fP_l h.2.1), h.2.2.1, fD_r (fD_l h.2.2.2.1), h.2.2.2.2.narrow (fun q hq => fA_m q hq)⟩
theorem fr_post (h : PR D cA ((a ++ b) ++ c) sz s) (hF : va_F (va_A b sz) s t) (hO : PO D cA (va_A b sz) b' t) : PO D cA (va_A ((a ++ b) ++ c) sz) ((a ++ b') ++ c) t := by
  obtain ⟨hsz, hP, -, hD, -⟩ := h
  obtain ⟨hP1, hK1, hD1⟩ := hO
  have na : ∀ (k : Nat) (q : Nat × va_E), a[k]? = some q → q.1 < s.heap.size ∧ ¬ va_A b sz q.1 := fun k q hk => by
    have hl := (fP_l (fP_l hP) k q hk).lt
    refine ⟨hl, fun z => ?_⟩
    rcases z with ⟨j, e, hj⟩ | z
    · exact fD_x (fD_l hD) hk hj rfl
    · omega
  have nc : ∀ (k : Nat) (q : Nat × va_E), c[k]? = some q → q.1 < s.heap.size ∧ ¬ va_A b sz q.1 := fun k q hk => by
    have hl := (fP_r hP k q hk).lt
    refine ⟨hl, fun z => ?_⟩
    rcases z with ⟨j, e, hj⟩ | z
    · exact fD_x hD (wr_ hj) hk rfl
    · omega
  have Da : va_D (va_A ((a ++ b) ++ c) sz) a := (fD_l (fD_l hD)).weaken (fun k q hk _ => Or.inl ⟨_, q.2, wl_ (wl_ hk)⟩)
  have Dc : va_D (va_A ((a ++ b) ++ c) sz) c := (fD_r hD).weaken (fun k q hk _ => Or.inl ⟨_, q.2, wr_ hk⟩)
  have Db : va_D (va_A ((a ++ b) ++ c) sz) b' := hD1.weaken (fun k q _ h => fA_m q.1 h)
  have Pa : va_P D CL a t.heap := (fP_l (fP_l hP)).kept (fun k q hk => hF.2 q.1 (na k q hk).1 (na k q hk).2)
  have Pc : va_P D CL c t.heap := (fP_r hP).kept (fun k q hk => hF.2 q.1 (nc k q hk).1 (nc k q hk).2)
  refine ⟨(Pa.app hP1).app Pc, hK1, (Da.app Db (fun i j x y hx hy e => (na i x hx).2 (by rw [e]; exact hD1.2 j y hy))).app Dc (fun i j x y hx hy e => ?_)⟩
  by_cases hi : i < a.length
  · rw [List.getElem?_append_left hi] at hx
    exact fD_x hD (wl_ hx) hy e
  · rw [List.getElem?_append_right (by omega)] at hx
    exact (nc j y hy).2 (by rw [← e]; exact hD1.2 _ x hx)
theorem fr_F (hF : va_F (va_A b sz) s t) : va_F (va_A ((a ++ b) ++ c) sz) s t := ⟨hF.1, fun q h1 h2 => hF.2 q h1 (fun z => h2 (fA_m q z))⟩
end FRM
section FRC
variable {l : Launch} {y : MethodName} {bc : ByteArray} {maxL f lo mc ms : Nat} {D : va_G} {cA : Nat → ClassId} {av : List Value} {b : va_W}
theorem fr_i {rt : FieldType} {post : Int32 → va_W → Prop} (hM : Ki l y bc maxL rt f lo mc ms D cA av b post) (a c : va_W) : Ki l y bc maxL rt f lo mc ms D cA av ((a ++ b) ++ c) (fun r w' => ∃ b', post r b' ∧ w' = (a ++ b') ++ c) := fun sz =>
  Jvm.Free.MetFree.mono (hM sz) (fun _ _ h => ⟨h.1, fr_pre h.2⟩) (fun _ _ _ _ _ h => h) (fun _ _ _ _ hp h => by
    obtain ⟨⟨⟨r, u, h1, h2, h3⟩, h4⟩, L, h5, h6⟩ := h
    exact ⟨⟨⟨r, _, h1, ⟨u, h2, rfl⟩, fr_post hp.2 h4 h3⟩, fr_F h4⟩, L, h5, fun q hq => fA_m _ (h6 q hq)⟩)
theorem fr_l {post : Int64 → va_W → Prop} (hM : Kl l y bc maxL f lo mc ms D cA av b post) (a c : va_W) : Kl l y bc maxL f lo mc ms D cA av ((a ++ b) ++ c) (fun r w' => ∃ b', post r b' ∧ w' = (a ++ b') ++ c) := fun sz =>
  Jvm.Free.MetFree.mono (hM sz) (fun _ _ h => ⟨h.1, fr_pre h.2⟩) (fun _ _ _ _ _ h => h) (fun _ _ _ _ hp h => by
    obtain ⟨⟨⟨r, u, h1, h2, h3⟩, h4⟩, L, h5, h6⟩ := h
    exact ⟨⟨⟨r, _, h1, ⟨u, h2, rfl⟩, fr_post hp.2 h4 h3⟩, fr_F h4⟩, L, h5, fun q hq => fA_m _ (h6 q hq)⟩)
theorem fr_f {post : UInt32 → va_W → Prop} (hM : Kf l y bc maxL f lo mc ms D cA av b post) (a c : va_W) : Kf l y bc maxL f lo mc ms D cA av ((a ++ b) ++ c) (fun r w' => ∃ b', post r b' ∧ w' = (a ++ b') ++ c) := fun sz =>
  Jvm.Free.MetFree.mono (hM sz) (fun _ _ h => ⟨h.1, fr_pre h.2⟩) (fun _ _ _ _ _ h => h) (fun _ _ _ _ hp h => by
    obtain ⟨⟨⟨r, u, h1, h2, h3⟩, h4⟩, L, h5, h6⟩ := h
    exact ⟨⟨⟨r, _, h1, ⟨u, h2, rfl⟩, fr_post hp.2 h4 h3⟩, fr_F h4⟩, L, h5, fun q hq => fA_m _ (h6 q hq)⟩)
theorem fr_d {post : UInt64 → va_W → Prop} (hM : Kd l y bc maxL f lo mc ms D cA av b post) (a c : va_W) : Kd l y bc maxL f lo mc ms D cA av ((a ++ b) ++ c) (fun r w' => ∃ b', post r b' ∧ w' = (a ++ b') ++ c) := fun sz =>
  Jvm.Free.MetFree.mono (hM sz) (fun _ _ h => ⟨h.1, fr_pre h.2⟩) (fun _ _ _ _ _ h => h) (fun _ _ _ _ hp h => by
    obtain ⟨⟨⟨r, u, h1, h2, h3⟩, h4⟩, L, h5, h6⟩ := h
    exact ⟨⟨⟨r, _, h1, ⟨u, h2, rfl⟩, fr_post hp.2 h4 h3⟩, fr_F h4⟩, L, h5, fun q hq => fA_m _ (h6 q hq)⟩)
theorem fr_v {post : va_W → Prop} (hM : Kv l y bc maxL f lo mc ms D cA av b post) (a c : va_W) : Kv l y bc maxL f lo mc ms D cA av ((a ++ b) ++ c) (fun w' => ∃ b', post b' ∧ w' = (a ++ b') ++ c) := fun sz =>
  Jvm.Free.MetFree.mono (hM sz) (fun _ _ h => ⟨h.1, fr_pre h.2⟩) (fun _ _ _ _ _ h => h) (fun _ _ _ _ hp h => by
    obtain ⟨⟨⟨u, h1, h2, h3⟩, h4⟩, L, h5, h6⟩ := h
    exact ⟨⟨⟨_, h1, ⟨u, h2, rfl⟩, fr_post hp.2 h4 h3⟩, fr_F h4⟩, L, h5, fun q hq => fA_m _ (h6 q hq)⟩)
theorem fr_Xi {rt : FieldType} {post : Int32 → va_W → Prop} {px : String × va_W → Prop} (hM : Xi l y bc maxL rt f lo mc ms D cA av b post px) (a c : va_W) : Xi l y bc maxL rt f lo mc ms D cA av ((a ++ b) ++ c) (fun r w' => ∃ b', post r b' ∧ w' = (a ++ b') ++ c) (fun u => ∃ b', px (u.1, b') ∧ u.2 = (a ++ b') ++ c) := fun sz =>
  Jvm.Free.MetFree.mono (hM sz) (fun _ _ h => ⟨h.1, fr_pre h.2⟩) (fun _ _ _ _ _ h => h) (fun _ _ _ _ hp h => by
    rcases h with ⟨⟨⟨r, u, h1, h2, h3⟩, h4⟩, L, h5, h6⟩ | ⟨q, h1, E, ce, L, ⟨u, h2, ⟨hE, h3⟩, h4⟩, h5, h6, h7, h8, h9, h10⟩
    · exact Or.inl ⟨⟨⟨r, _, h1, ⟨u, h2, rfl⟩, fr_post hp.2 h4 h3⟩, fr_F h4⟩, L, h5, fun q hq => fA_m _ (h6 q hq)⟩
    · exact Or.inr ⟨q, h1, E, ce, L, ⟨(u.1, (a ++ u.2) ++ c), ⟨u.2, h2, rfl⟩, ⟨hE, fr_post hp.2 h4 h3⟩, fr_F h4⟩, h5, h6, h7, h8, h9, fun z hz => fA_m _ (h10 z hz)⟩)
theorem fr_Xf {post : UInt32 → va_W → Prop} {px : String × va_W → Prop} (hM : Xf l y bc maxL f lo mc ms D cA av b post px) (a c : va_W) : Xf l y bc maxL f lo mc ms D cA av ((a ++ b) ++ c) (fun r w' => ∃ b', post r b' ∧ w' = (a ++ b') ++ c) (fun u => ∃ b', px (u.1, b') ∧ u.2 = (a ++ b') ++ c) := fun sz =>
  Jvm.Free.MetFree.mono (hM sz) (fun _ _ h => ⟨h.1, fr_pre h.2⟩) (fun _ _ _ _ _ h => h) (fun _ _ _ _ hp h => by
    rcases h with ⟨⟨⟨r, u, h1, h2, h3⟩, h4⟩, L, h5, h6⟩ | ⟨q, h1, E, ce, L, ⟨u, h2, ⟨hE, h3⟩, h4⟩, h5, h6, h7, h8, h9, h10⟩
    · exact Or.inl ⟨⟨⟨r, _, h1, ⟨u, h2, rfl⟩, fr_post hp.2 h4 h3⟩, fr_F h4⟩, L, h5, fun q hq => fA_m _ (h6 q hq)⟩
    · exact Or.inr ⟨q, h1, E, ce, L, ⟨(u.1, (a ++ u.2) ++ c), ⟨u.2, h2, rfl⟩, ⟨hE, fr_post hp.2 h4 h3⟩, fr_F h4⟩, h5, h6, h7, h8, h9, fun z hz => fA_m _ (h10 z hz)⟩)
theorem fr_Xd {post : UInt64 → va_W → Prop} {px : String × va_W → Prop} (hM : Xd l y bc maxL f lo mc ms D cA av b post px) (a c : va_W) : Xd l y bc maxL f lo mc ms D cA av ((a ++ b) ++ c) (fun r w' => ∃ b', post r b' ∧ w' = (a ++ b') ++ c) (fun u => ∃ b', px (u.1, b') ∧ u.2 = (a ++ b') ++ c) := fun sz =>
  Jvm.Free.MetFree.mono (hM sz) (fun _ _ h => ⟨h.1, fr_pre h.2⟩) (fun _ _ _ _ _ h => h) (fun _ _ _ _ hp h => by
    rcases h with ⟨⟨⟨r, u, h1, h2, h3⟩, h4⟩, L, h5, h6⟩ | ⟨q, h1, E, ce, L, ⟨u, h2, ⟨hE, h3⟩, h4⟩, h5, h6, h7, h8, h9, h10⟩
    · exact Or.inl ⟨⟨⟨r, _, h1, ⟨u, h2, rfl⟩, fr_post hp.2 h4 h3⟩, fr_F h4⟩, L, h5, fun q hq => fA_m _ (h6 q hq)⟩
    · exact Or.inr ⟨q, h1, E, ce, L, ⟨(u.1, (a ++ u.2) ++ c), ⟨u.2, h2, rfl⟩, ⟨hE, fr_post hp.2 h4 h3⟩, fr_F h4⟩, h5, h6, h7, h8, h9, fun z hz => fA_m _ (h10 z hz)⟩)
end FRC
