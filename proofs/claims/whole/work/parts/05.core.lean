/-! MY CORE: one judgement J over a whole symbolic state (world, locals, stack), and its rows; the kit's rows lifted to it. -/
abbrev CL : List vw_C := [(RX0, TX0, 5), (RX1, TX1, 3), (RX2, TX2, 4), (RX3, TX3, 3), (RX4, TX4, 6), (RX5, TX5, 7), (RX6, TX6, 11), (RX7, TX7, 30)]
abbrev wz (y : MethodName) (b : ByteArray) (n : Nat) (r : Option FieldType) : List Cond := Cond.code y b n r :: WS
abbrev TY (cA : Nat → ClassId) : List (ClassId × FieldType) := [(cA 0, .int), (cA 1, .char), (cA 2, .object RX4), (cA 3, .object RX3), (cA 4, .long), (cA 5, .double)]
def isNest : Cond → Bool
  | .fieldLinkNest .. => true
  | .methodLinkNest .. => true
  | .castable .. => true
  | _ => false
theorem nest_warm {w : Cond} (h : isNest w = true) {s U : State} (hW : s.WarmedH U.vm) (hZ : va_Nw w s) : va_Nw w U := by
  cases w <;> first | exact (Bool.false_ne_true h).elim | exact va_Nw.warmF hW hZ | exact va_Nw.warmM hW hZ | exact va_Nw.warmC hW hZ
def ENV (A : Nat → Prop) (U : State) (H : Heap) : Prop :=
  (∀ w ∈ NWL, va_Nw w U) ∧ (∀ q ∈ STRL, ∃ a, vk_R RX6 q.1 q.2 a U) ∧ (∀ q ∈ NCL, va_Nc q.1 q.2 U) ∧ va_AO RX4 U ∧ va_AO RX3 U ∧
  vx_Zq Bundle.tN "UNASSIGNED_STACK" Bundle.steD A U H ∧ vx_Zq Bundle.tN "SUPPRESSED_SENTINEL" Bundle.listD A U H
theorem NWL_ok : ∀ w ∈ NWL, isNest w = true := by decide +kernel
theorem ENV.warm {A : Nat → Prop} {s U : State} {H : Heap} (hW : s.WarmedH U.vm) (h : ENV A s H) : ENV A U H :=
  ⟨fun w hw => nest_warm (NWL_ok w hw) hW (h.1 w hw), fun q hq => (h.2.1 q hq).imp fun a ha => vk_R.warm hW ha, fun q hq => va_Nc.moved hW.alike (h.2.2.1 q hq), va_AO.moved hW.alike h.2.2.2.1, va_AO.moved hW.alike h.2.2.2.2.1,
    vx_Zq.moved hW.alike h.2.2.2.2.2.1, vx_Zq.moved hW.alike h.2.2.2.2.2.2⟩
theorem ENV.kept {A : Nat → Prop} {U : State} {H H1 : Heap} (h : ENV A U H) (hq : ∀ a : Nat, a < H.size → ¬ A a → H1[a]? = H[a]?) : ENV A U H1 :=
  ⟨h.1, h.2.1, h.2.2.1, h.2.2.2.1, h.2.2.2.2.1, h.2.2.2.2.2.1.kept hq, h.2.2.2.2.2.2.kept hq⟩
theorem ENV.narrow {A B : Nat → Prop} {U : State} {H : Heap} (h : ENV A U H) (hAB : ∀ q, B q → A q) : ENV B U H :=
  ⟨h.1, h.2.1, h.2.2.1, h.2.2.2.1, h.2.2.2.2.1, h.2.2.2.2.2.1.narrow hAB, h.2.2.2.2.2.2.narrow hAB⟩
/-- a method's start: the world, the tables, what it may not touch -/
def PR (D : va_G) (cA : Nat → ClassId) (w : va_W) (sz : Nat) (U : State) : Prop := U.heap.size = sz ∧ va_P D CL w U.heap ∧ va_K D CL (TY cA) U ∧ va_D (fun _ => True) w ∧ ENV (va_A w sz) U U.heap
/-- a method's end -/
def PO (D : va_G) (cA : Nat → ClassId) (A : Nat → Prop) (w : va_W) (t : State) : Prop := va_P D CL w t.heap ∧ va_K D CL (TY cA) t ∧ va_D A w
def PX (D : va_G) (cA : Nat → ClassId) (A : Nat → Prop) (E : String) (u : String × va_W) (t : State) : Prop := E = u.1 ∧ PO D cA A u.2 t
def GX (p : Program) (s : State) (m : MethodId) (args : Array Value) (c : Code) (cc : ByteArray) (nL : Nat) (own : String) (D : va_G) (cA : Nat → ClassId) (A : Nat → Prop) : Prop :=
  p.tables.exec = Jvm.exec ∧ c.code = cc ∧ c.maxLocals = nL ∧ s.vm.findClass own = some m.cls ∧ (∀ w ∈ WS, w.before args s = true) ∧ va_K D CL (TY cA) s ∧ (∀ q : Nat, s.heap.size ≤ q → A q) ∧ ENV A s s.heap
theorem wzG : GoodIn WS WS := fun _ h => ⟨h, good_of_word (List.mem_filter.mp h).2⟩
theorem gz {y : MethodName} {b : ByteArray} {n : Nat} {r : Option FieldType} (h : Cond.code y b n r ∈ WS) : GoodIn WS (wz y b n r) := fun _ hw => (List.mem_cons.mp hw).elim (fun e => by rw [e]; exact wzG _ h) (wzG _)
theorem gV {own C : String} {idx : Nat} {y : MethodName} {b : ByteArray} {n : Nat} {r : Option FieldType} (h1 : Cond.methodLink own idx y ∈ WS) (h2 : Cond.instanceMethod y ∈ WS) (h3 : Cond.selects C y y ∈ WS) (h4 : Cond.initialized C ∈ WS) (h5 : Cond.code y b n r ∈ WS) : GoodIn WS (wsV own idx C y (wz y b n r)) := by
  intro w hw
  unfold wsV at hw
  rcases List.mem_append.mp hw with h | h
  · simp only [List.mem_cons, List.mem_nil_iff, or_false] at h
    rcases h with rfl | rfl | rfl | rfl
    · exact wzG _ h1
    · exact wzG _ h2
    · exact wzG _ h3
    · exact wzG _ h4
  · exact gz h5 _ h
theorem gS {own : String} {idx : Nat} {y : MethodName} {b : ByteArray} {n : Nat} {r : Option FieldType} (h1 : Cond.methodLink own idx y ∈ WS) (h2 : Cond.static y ∈ WS) (h4 : Cond.initialized y.cls ∈ WS) (h5 : Cond.code y b n r ∈ WS) : GoodIn WS (va_wsS own idx y (wz y b n r)) := by
  intro w hw
  unfold va_wsS at hw
  rcases List.mem_append.mp hw with h | h
  · simp only [List.mem_cons, List.mem_nil_iff, or_false] at h
    rcases h with rfl | rfl | rfl
    · exact wzG _ h1
    · exact wzG _ h2
    · exact wzG _ h4
  · exact gz h5 _ h
theorem wA {D : va_G} {A : Nat → Prop} {w : va_W} {H0 H : Heap} {locs : List Loc} (hD : va_D A w) (hS : va_S A H0 H locs) (hA : ∀ q : Nat, H0.size ≤ q → A q) : ∀ q, va_A w H.size q → A q := by
  intro q h
  rcases h with ⟨k, e, h⟩ | h
  · exact hD.2 k (q, e) h
  · exact hA q (Nat.le_trans hS.1 h)
section MYR
variable {p : Program} {l : Launch} {e : Env} {R : Room} {s : State} {m : MethodId} {args : Array Value} {below : List Frame} {meth : Method} {c : Code} {H : Heap} {locs : List Loc} {cells slots : Nat} {Q : State → Prop}
variable {mc ms : Nat} {free : Addr → Prop} {A0 A1 : Nat → Prop} {H0 : Heap} {a : Array Value} {pc : Nat} {ls : Array Slot} {st0 rest : List Value}
/-- as vx_calli, of an answer that is a reference -/
theorem my_callr {S SX : Type} {post : S → Prop} {px : SX → Prop} {B : S → Nat → State → Prop} {BX : String → SX → State → Prop} {AX : Nat → Prop} (hr : vx_Run p l e R s m args below meth c H locs cells slots mc ms (F0 m pc ls st0) rest (va_Qr post B A1 a) (vx_X px BX AX) free) (hS : va_S A0 H0 H locs) (hA : ∀ q, q < H.size → A1 q → A0 q) (hf : ∀ q, free q → A0 q) (hAX : ∀ q, q < H.size → AX q → A0 q)
    (kx : ∀ (E : String) (ce : Cell) (q9 : Addr) (u : SX) (t : State) (H1 : Heap) (locs1 : List Loc), t.heap = H1 → s.vm.Alike t.vm → px u → BX E u t → H.size ≤ H1.size → (∀ q : Nat, q < H.size → ¬ AX q → H1[q]? = H[q]?) → va_S A0 H0 H1 locs1 → H1[q9]? = some ce → ce.vm = .none → s.vm.findClass E = some ce.cls → vx_W p l e R s m args below meth c H1 locs1 (cells + mc) (slots + ms) Q (F0 m pc ls rest) q9)
    (kk : ∀ (u : S) (r : Nat) (t : State) (H1 : Heap) (locs1 : List Loc), t.heap = H1 → s.vm.Alike t.vm → post u → B u r t → H.size ≤ H1.size → (∀ q : Nat, q < H.size → ¬ A1 q → H1[q]? = H[q]?) → va_S A0 H0 H1 locs1 → W p l e R s m args below meth c H1 locs1 (cells + mc) (slots + ms) Q (F0 m (pc + 3) ls (.ref r :: rest))) : W p l e R s m args below meth c H locs cells slots Q (F0 m pc ls st0) := by
  intro T hT X
  rcases hr T hT X with ⟨v, st₀, t, T', L, h0, X', hL, e1, e2, ⟨⟨u, r, hv, hp, hb⟩, hF⟩, st⟩ | ⟨q, st₀, t, T', L, E, ce, h0, X', hL, e1, e2, ⟨u, hp, hb, hF⟩, hce, hcv, hcl, st⟩
  · cases hv
    obtain ⟨k1, k2, k3⟩ := vx_keep h0 e1 hS hA hf hL hF
    obtain ⟨t2, a1, b1⟩ := kk u r t T'.heap (locs ++ L) e1.symm (by rw [← e2]; exact X'.warmed.alike) hp hb k1 k2 k3 T' rfl X'
    exact ⟨t2, st t2 a1, b1⟩
  · obtain ⟨k1, k2, k3⟩ := vx_keep h0 e1 hS hAX hf hL hF
    obtain ⟨t2, a1, b1⟩ := kx E ce q u t T'.heap (locs ++ L) e1.symm (by rw [← e2]; exact X'.warmed.alike) hp hb k1 k2 k3 (by rw [e1]; exact hce) hcv hcl T' rfl X'
    exact ⟨t2, st.trans a1, b1⟩
end MYR
section JJ
variable {p : Program} {l : Launch} {e : Env} {R : Room} {s : State} {m : MethodId} {args : Array Value} {below : List Frame} {meth : Method} {c : Code} {D : va_G} {cA : Nat → ClassId} {A : Nat → Prop} {nL : Nat}
variable {w : va_W} {k n : Nat} {Q : State → Prop} {pc : Nat} {lv : List (Nat × Value)} {st : List Value} {cc : ByteArray} {own : String}
def J (p : Program) (l : Launch) (e : Env) (R : Room) (s : State) (m : MethodId) (args : Array Value) (below : List Frame) (meth : Method) (c : Code) (nL : Nat) (D : va_G) (A : Nat → Prop) (w : va_W) (k n : Nat) (Q : State → Prop) (pc : Nat) (lv : List (Nat × Value)) (st : List Value) : Prop :=
  ∀ (H : Heap) (locs : List Loc) (ls : Array Slot), va_P D CL w H → va_D A w → va_S A s.heap H locs → lv_has ls nL lv → W p l e R s m args below meth c H locs k n Q (F0 m pc ls st)
/-- an exception q of the class E over the frame -/
def JX (p : Program) (l : Launch) (e : Env) (R : Room) (s : State) (m : MethodId) (args : Array Value) (below : List Frame) (meth : Method) (c : Code) (nL : Nat) (D : va_G) (A : Nat → Prop) (w : va_W) (k n : Nat) (Q : State → Prop) (pc : Nat) (lv : List (Nat × Value)) (st : List Value) (E : String) : Prop :=
  ∀ (H : Heap) (locs : List Loc) (ls : Array Slot) (q : Addr) (ce : Cell), va_P D CL w H → va_D A w → va_S A s.heap H locs → lv_has ls nL lv → H[q]? = some ce → ce.vm = .none → s.vm.findClass E = some ce.cls → vx_W p l e R s m args below meth c H locs k n Q (F0 m pc ls st) q
theorem j_aload_n (G : GX p s m args c cc nL own D cA A) {kk : Fin 4} {i : Nat} {x : Nat} (hdg : decode cc pc = .ok (.aload_n kk, 1)) (hi : (kk : Nat) = i) (q : Nat) (h : lv[q]? = some (i, .ref x)) (K : J p l e R s m args below meth c nL D A w k n Q (pc + 1) lv (.ref x :: st)) : J p l e R s m args below meth c nL D A w k n Q (pc) lv st :=
  fun H locs ls hP hD hS hl => lv_aload_n G.1 G.2.1 hdg hi (lv_at hl q h) (K H locs ls hP hD hS hl)
theorem j_iload_n (G : GX p s m args c cc nL own D cA A) {kk : Fin 4} {i : Nat} {x : Int32} (hdg : decode cc pc = .ok (.iload_n kk, 1)) (hi : (kk : Nat) = i) (q : Nat) (h : lv[q]? = some (i, .int x)) (K : J p l e R s m args below meth c nL D A w k n Q (pc + 1) lv (.int x :: st)) : J p l e R s m args below meth c nL D A w k n Q (pc) lv st :=
  fun H locs ls hP hD hS hl => lv_iload_n G.1 G.2.1 hdg hi (lv_at hl q h) (K H locs ls hP hD hS hl)
theorem j_lload_n (G : GX p s m args c cc nL own D cA A) {kk : Fin 4} {i : Nat} {x : Int64} (hdg : decode cc pc = .ok (.lload_n kk, 1)) (hi : (kk : Nat) = i) (q : Nat) (h : lv[q]? = some (i, .long x)) (K : J p l e R s m args below meth c nL D A w k n Q (pc + 1) lv (.long x :: st)) : J p l e R s m args below meth c nL D A w k n Q (pc) lv st :=
  fun H locs ls hP hD hS hl => lv_lload_n G.1 G.2.1 hdg hi (lv_at hl q h) (K H locs ls hP hD hS hl)
theorem j_aload (G : GX p s m args c cc nL own D cA A) {i : Nat} {x : Nat} (hdg : decode cc pc = .ok (.aload i, 2)) (q : Nat) (h : lv[q]? = some (i, .ref x)) (K : J p l e R s m args below meth c nL D A w k n Q (pc + 2) lv (.ref x :: st)) : J p l e R s m args below meth c nL D A w k n Q (pc) lv st :=
  fun H locs ls hP hD hS hl => lv_aload G.1 G.2.1 hdg (lv_at hl q h) (K H locs ls hP hD hS hl)
theorem j_iload (G : GX p s m args c cc nL own D cA A) {i : Nat} {x : Int32} (hdg : decode cc pc = .ok (.iload i, 2)) (q : Nat) (h : lv[q]? = some (i, .int x)) (K : J p l e R s m args below meth c nL D A w k n Q (pc + 2) lv (.int x :: st)) : J p l e R s m args below meth c nL D A w k n Q (pc) lv st :=
  fun H locs ls hP hD hS hl => lv_iload G.1 G.2.1 hdg (lv_at hl q h) (K H locs ls hP hD hS hl)
theorem j_fload (G : GX p s m args c cc nL own D cA A) {i : Nat} {x : UInt32} (hdg : decode cc pc = .ok (.fload i, 2)) (q : Nat) (h : lv[q]? = some (i, .float x)) (K : J p l e R s m args below meth c nL D A w k n Q (pc + 2) lv (.float x :: st)) : J p l e R s m args below meth c nL D A w k n Q (pc) lv st :=
  fun H locs ls hP hD hS hl => lv_fload G.1 G.2.1 hdg (lv_at hl q h) (K H locs ls hP hD hS hl)
theorem j_dload (G : GX p s m args c cc nL own D cA A) {i : Nat} {x : UInt64} (hdg : decode cc pc = .ok (.dload i, 2)) (q : Nat) (h : lv[q]? = some (i, .double x)) (K : J p l e R s m args below meth c nL D A w k n Q (pc + 2) lv (.double x :: st)) : J p l e R s m args below meth c nL D A w k n Q (pc) lv st :=
  fun H locs ls hP hD hS hl => lv_dload G.1 G.2.1 hdg (lv_at hl q h) (K H locs ls hP hD hS hl)
theorem j_aload_nN (G : GX p s m args c cc nL own D cA A) {kk : Fin 4} {i : Nat} (hdg : decode cc pc = .ok (.aload_n kk, 1)) (hi : (kk : Nat) = i) (q : Nat) (h : lv[q]? = some (i, .null)) (K : J p l e R s m args below meth c nL D A w k n Q (pc + 1) lv (.null :: st)) : J p l e R s m args below meth c nL D A w k n Q (pc) lv st :=
  fun H locs ls hP hD hS hl => lv_aload_nN G.1 G.2.1 hdg hi (lv_at hl q h) (K H locs ls hP hD hS hl)
theorem j_aloadN (G : GX p s m args c cc nL own D cA A) {i : Nat} (hdg : decode cc pc = .ok (.aload i, 2)) (q : Nat) (h : lv[q]? = some (i, .null)) (K : J p l e R s m args below meth c nL D A w k n Q (pc + 2) lv (.null :: st)) : J p l e R s m args below meth c nL D A w k n Q (pc) lv st :=
  fun H locs ls hP hD hS hl => lv_aloadN G.1 G.2.1 hdg (lv_at hl q h) (K H locs ls hP hD hS hl)
theorem j_istore_n (G : GX p s m args c cc nL own D cA A) {kk : Fin 4} {i : Nat} {x : Int32} {lv' : List (Nat × Value)} (hdg : decode cc pc = .ok (.istore_n kk, 1)) (hi : (kk : Nat) = i) (hn : i < nL) (hl9 : (i, Value.int x) :: lv.filter (fun q => !(q.1 == i) && !(q.1 + 1 == i && q.2.category == 2)) = lv') (K : J p l e R s m args below meth c nL D A w k n Q (pc + 1) lv' st) : J p l e R s m args below meth c nL D A w k n Q (pc) lv (.int x :: st) :=
  fun H locs ls hP hD hS hl => lv_istore_n G.1 G.2.1 hdg hi hl hn hl9 (fun ls2 hl2 => K H locs ls2 hP hD hS hl2)
theorem j_astore_n (G : GX p s m args c cc nL own D cA A) {kk : Fin 4} {i : Nat} {x : Nat} {lv' : List (Nat × Value)} (hdg : decode cc pc = .ok (.astore_n kk, 1)) (hi : (kk : Nat) = i) (hn : i < nL) (hl9 : (i, Value.ref x) :: lv.filter (fun q => !(q.1 == i) && !(q.1 + 1 == i && q.2.category == 2)) = lv') (K : J p l e R s m args below meth c nL D A w k n Q (pc + 1) lv' st) : J p l e R s m args below meth c nL D A w k n Q (pc) lv (.ref x :: st) :=
  fun H locs ls hP hD hS hl => lv_astore_n G.1 G.2.1 hdg hi hl hn hl9 (fun ls2 hl2 => K H locs ls2 hP hD hS hl2)
theorem j_lstore_n (G : GX p s m args c cc nL own D cA A) {kk : Fin 4} {i : Nat} {x : Int64} {lv' : List (Nat × Value)} (hdg : decode cc pc = .ok (.lstore_n kk, 1)) (hi : (kk : Nat) = i) (hn : i + 1 < nL) (hl9 : (i, Value.long x) :: lv.filter (fun q => !(q.1 == i) && (!(q.1 == i + 1) && !(q.1 + 1 == i && q.2.category == 2))) = lv') (K : J p l e R s m args below meth c nL D A w k n Q (pc + 1) lv' st) : J p l e R s m args below meth c nL D A w k n Q (pc) lv (.long x :: st) :=
  fun H locs ls hP hD hS hl => lv_lstore_n G.1 G.2.1 hdg hi hl hn hl9 (fun ls2 hl2 => K H locs ls2 hP hD hS hl2)
theorem j_istore (G : GX p s m args c cc nL own D cA A) {i : Nat} {x : Int32} {lv' : List (Nat × Value)} (hdg : decode cc pc = .ok (.istore i, 2)) (hn : i < nL) (hl9 : (i, Value.int x) :: lv.filter (fun q => !(q.1 == i) && !(q.1 + 1 == i && q.2.category == 2)) = lv') (K : J p l e R s m args below meth c nL D A w k n Q (pc + 2) lv' st) : J p l e R s m args below meth c nL D A w k n Q (pc) lv (.int x :: st) :=
  fun H locs ls hP hD hS hl => lv_istore G.1 G.2.1 hdg hl hn hl9 (fun ls2 hl2 => K H locs ls2 hP hD hS hl2)
theorem j_astore (G : GX p s m args c cc nL own D cA A) {i : Nat} {x : Nat} {lv' : List (Nat × Value)} (hdg : decode cc pc = .ok (.astore i, 2)) (hn : i < nL) (hl9 : (i, Value.ref x) :: lv.filter (fun q => !(q.1 == i) && !(q.1 + 1 == i && q.2.category == 2)) = lv') (K : J p l e R s m args below meth c nL D A w k n Q (pc + 2) lv' st) : J p l e R s m args below meth c nL D A w k n Q (pc) lv (.ref x :: st) :=
  fun H locs ls hP hD hS hl => lv_astore G.1 G.2.1 hdg hl hn hl9 (fun ls2 hl2 => K H locs ls2 hP hD hS hl2)
theorem j_fstore (G : GX p s m args c cc nL own D cA A) {i : Nat} {x : UInt32} {lv' : List (Nat × Value)} (hdg : decode cc pc = .ok (.fstore i, 2)) (hn : i < nL) (hl9 : (i, Value.float x) :: lv.filter (fun q => !(q.1 == i) && !(q.1 + 1 == i && q.2.category == 2)) = lv') (K : J p l e R s m args below meth c nL D A w k n Q (pc + 2) lv' st) : J p l e R s m args below meth c nL D A w k n Q (pc) lv (.float x :: st) :=
  fun H locs ls hP hD hS hl => lv_fstore G.1 G.2.1 hdg hl hn hl9 (fun ls2 hl2 => K H locs ls2 hP hD hS hl2)
theorem j_dstore (G : GX p s m args c cc nL own D cA A) {i : Nat} {x : UInt64} {lv' : List (Nat × Value)} (hdg : decode cc pc = .ok (.dstore i, 2)) (hn : i + 1 < nL) (hl9 : (i, Value.double x) :: lv.filter (fun q => !(q.1 == i) && (!(q.1 == i + 1) && !(q.1 + 1 == i && q.2.category == 2))) = lv') (K : J p l e R s m args below meth c nL D A w k n Q (pc + 2) lv' st) : J p l e R s m args below meth c nL D A w k n Q (pc) lv (.double x :: st) :=
  fun H locs ls hP hD hS hl => lv_dstore G.1 G.2.1 hdg hl hn hl9 (fun ls2 hl2 => K H locs ls2 hP hD hS hl2)
theorem j_astore_nN (G : GX p s m args c cc nL own D cA A) {kk : Fin 4} {i : Nat} {lv' : List (Nat × Value)} (hdg : decode cc pc = .ok (.astore_n kk, 1)) (hi : (kk : Nat) = i) (hn : i < nL) (hl9 : (i, Value.null) :: lv.filter (fun q => !(q.1 == i) && !(q.1 + 1 == i && q.2.category == 2)) = lv') (K : J p l e R s m args below meth c nL D A w k n Q (pc + 1) lv' st) : J p l e R s m args below meth c nL D A w k n Q (pc) lv (.null :: st) :=
  fun H locs ls hP hD hS hl => lv_astore_nN G.1 G.2.1 hdg hi hl hn hl9 (fun ls2 hl2 => K H locs ls2 hP hD hS hl2)
theorem j_astoreN (G : GX p s m args c cc nL own D cA A) {i : Nat} {lv' : List (Nat × Value)} (hdg : decode cc pc = .ok (.astore i, 2)) (hn : i < nL) (hl9 : (i, Value.null) :: lv.filter (fun q => !(q.1 == i) && !(q.1 + 1 == i && q.2.category == 2)) = lv') (K : J p l e R s m args below meth c nL D A w k n Q (pc + 2) lv' st) : J p l e R s m args below meth c nL D A w k n Q (pc) lv (.null :: st) :=
  fun H locs ls hP hD hS hl => lv_astoreN G.1 G.2.1 hdg hl hn hl9 (fun ls2 hl2 => K H locs ls2 hP hD hS hl2)
theorem j_iinc (G : GX p s m args c cc nL own D cA A) {i : Nat} {nn : Int} {x v : Int32} {lv' : List (Nat × Value)} (hdg : decode cc pc = .ok (.iinc i nn, 3)) (q : Nat) (h : lv[q]? = some (i, .int x)) (hv : x + Int32.ofInt nn = v) (hn : i < nL) (hl9 : (i, Value.int v) :: lv.filter (fun q => !(q.1 == i) && !(q.1 + 1 == i && q.2.category == 2)) = lv') (K : J p l e R s m args below meth c nL D A w k n Q (pc + 3) lv' st) : J p l e R s m args below meth c nL D A w k n Q (pc) lv st :=
  fun H locs ls hP hD hS hl => lv_iinc G.1 G.2.1 hdg hl h hv hn hl9 (fun ls2 hl2 => K H locs ls2 hP hD hS hl2)
theorem j_iconst (G : GX p s m args c cc nL own D cA A) {nn : Int} {v : Int32} (hdg : decode cc pc = .ok (.iconst nn, 1)) (hv : Int32.ofInt nn = v) (K : J p l e R s m args below meth c nL D A w k n Q (pc + 1) lv (.int v :: st)) : J p l e R s m args below meth c nL D A w k n Q (pc) lv st :=
  fun H locs ls hP hD hS hl => lv_iconst G.1 G.2.1 hdg hv (K H locs ls hP hD hS hl)
theorem j_lconst (G : GX p s m args c cc nL own D cA A) {nn : Fin 2} {v : Int64} (hdg : decode cc pc = .ok (.lconst nn, 1)) (hv : Int64.ofNat (nn : Nat) = v) (K : J p l e R s m args below meth c nL D A w k n Q (pc + 1) lv (.long v :: st)) : J p l e R s m args below meth c nL D A w k n Q (pc) lv st :=
  fun H locs ls hP hD hS hl => lv_lconst G.1 G.2.1 hdg hv (K H locs ls hP hD hS hl)
theorem j_bipush (G : GX p s m args c cc nL own D cA A) {nn : Int} {v : Int32} (hdg : decode cc pc = .ok (.bipush nn, 2)) (hv : (Int8.ofInt nn).toInt32 = v) (K : J p l e R s m args below meth c nL D A w k n Q (pc + 2) lv (.int v :: st)) : J p l e R s m args below meth c nL D A w k n Q (pc) lv st :=
  fun H locs ls hP hD hS hl => lv_bipush G.1 G.2.1 hdg hv (K H locs ls hP hD hS hl)
theorem j_sipush (G : GX p s m args c cc nL own D cA A) {nn : Int} {v : Int32} (hdg : decode cc pc = .ok (.sipush nn, 3)) (hv : (Int16.ofInt nn).toInt32 = v) (K : J p l e R s m args below meth c nL D A w k n Q (pc + 3) lv (.int v :: st)) : J p l e R s m args below meth c nL D A w k n Q (pc) lv st :=
  fun H locs ls hP hD hS hl => lv_sipush G.1 G.2.1 hdg hv (K H locs ls hP hD hS hl)
theorem j_iadd (G : GX p s m args c cc nL own D cA A) {x y : Int32} (hdg : decode cc pc = .ok (.iadd, 1)) (K : J p l e R s m args below meth c nL D A w k n Q (pc + 1) lv (.int (x + y) :: st)) : J p l e R s m args below meth c nL D A w k n Q (pc) lv (.int y :: .int x :: st) :=
  fun H locs ls hP hD hS hl => lv_iadd G.1 G.2.1 hdg (K H locs ls hP hD hS hl)
theorem j_isub (G : GX p s m args c cc nL own D cA A) {x y : Int32} (hdg : decode cc pc = .ok (.isub, 1)) (K : J p l e R s m args below meth c nL D A w k n Q (pc + 1) lv (.int (x - y) :: st)) : J p l e R s m args below meth c nL D A w k n Q (pc) lv (.int y :: .int x :: st) :=
  fun H locs ls hP hD hS hl => lv_isub G.1 G.2.1 hdg (K H locs ls hP hD hS hl)
theorem j_imul (G : GX p s m args c cc nL own D cA A) {x y : Int32} (hdg : decode cc pc = .ok (.imul, 1)) (K : J p l e R s m args below meth c nL D A w k n Q (pc + 1) lv (.int (x * y) :: st)) : J p l e R s m args below meth c nL D A w k n Q (pc) lv (.int y :: .int x :: st) :=
  fun H locs ls hP hD hS hl => lv_imul G.1 G.2.1 hdg (K H locs ls hP hD hS hl)
theorem j_iand (G : GX p s m args c cc nL own D cA A) {x y : Int32} (hdg : decode cc pc = .ok (.iand, 1)) (K : J p l e R s m args below meth c nL D A w k n Q (pc + 1) lv (.int (x &&& y) :: st)) : J p l e R s m args below meth c nL D A w k n Q (pc) lv (.int y :: .int x :: st) :=
  fun H locs ls hP hD hS hl => lv_iand G.1 G.2.1 hdg (K H locs ls hP hD hS hl)
theorem j_idiv (G : GX p s m args c cc nL own D cA A) {x y : Int32} (hdg : decode cc pc = .ok (.idiv, 1)) (hne : ¬ y = 0) (K : J p l e R s m args below meth c nL D A w k n Q (pc + 1) lv (.int (x / y) :: st)) : J p l e R s m args below meth c nL D A w k n Q (pc) lv (.int y :: .int x :: st) :=
  fun H locs ls hP hD hS hl => lv_idiv G.1 G.2.1 hdg hne (K H locs ls hP hD hS hl)
theorem j_ladd (G : GX p s m args c cc nL own D cA A) {x y : Int64} (hdg : decode cc pc = .ok (.ladd, 1)) (K : J p l e R s m args below meth c nL D A w k n Q (pc + 1) lv (.long (x + y) :: st)) : J p l e R s m args below meth c nL D A w k n Q (pc) lv (.long y :: .long x :: st) :=
  fun H locs ls hP hD hS hl => lv_ladd G.1 G.2.1 hdg (K H locs ls hP hD hS hl)
theorem j_lsub (G : GX p s m args c cc nL own D cA A) {x y : Int64} (hdg : decode cc pc = .ok (.lsub, 1)) (K : J p l e R s m args below meth c nL D A w k n Q (pc + 1) lv (.long (x - y) :: st)) : J p l e R s m args below meth c nL D A w k n Q (pc) lv (.long y :: .long x :: st) :=
  fun H locs ls hP hD hS hl => lv_lsub G.1 G.2.1 hdg (K H locs ls hP hD hS hl)
theorem j_lmul (G : GX p s m args c cc nL own D cA A) {x y : Int64} (hdg : decode cc pc = .ok (.lmul, 1)) (K : J p l e R s m args below meth c nL D A w k n Q (pc + 1) lv (.long (x * y) :: st)) : J p l e R s m args below meth c nL D A w k n Q (pc) lv (.long y :: .long x :: st) :=
  fun H locs ls hP hD hS hl => lv_lmul G.1 G.2.1 hdg (K H locs ls hP hD hS hl)
theorem j_ldiv (G : GX p s m args c cc nL own D cA A) {x y : Int64} (hdg : decode cc pc = .ok (.ldiv, 1)) (hne : ¬ y = 0) (K : J p l e R s m args below meth c nL D A w k n Q (pc + 1) lv (.long (x / y) :: st)) : J p l e R s m args below meth c nL D A w k n Q (pc) lv (.long y :: .long x :: st) :=
  fun H locs ls hP hD hS hl => lv_ldiv G.1 G.2.1 hdg hne (K H locs ls hP hD hS hl)
theorem j_i2l (G : GX p s m args c cc nL own D cA A) {x : Int32} (hdg : decode cc pc = .ok (.i2l, 1)) (K : J p l e R s m args below meth c nL D A w k n Q (pc + 1) lv (.long x.toInt64 :: st)) : J p l e R s m args below meth c nL D A w k n Q (pc) lv (.int x :: st) :=
  fun H locs ls hP hD hS hl => lv_i2l G.1 G.2.1 hdg rfl (K H locs ls hP hD hS hl)
theorem j_l2i (G : GX p s m args c cc nL own D cA A) {x : Int64} (hdg : decode cc pc = .ok (.l2i, 1)) (K : J p l e R s m args below meth c nL D A w k n Q (pc + 1) lv (.int x.toInt32 :: st)) : J p l e R s m args below meth c nL D A w k n Q (pc) lv (.long x :: st) :=
  fun H locs ls hP hD hS hl => lv_l2i G.1 G.2.1 hdg rfl (K H locs ls hP hD hS hl)
theorem j_dup (G : GX p s m args c cc nL own D cA A) {va : Value} (hdg : decode cc pc = .ok (.dup, 1)) (hva : va.category = 1) (K : J p l e R s m args below meth c nL D A w k n Q (pc + 1) lv (va :: va :: st)) : J p l e R s m args below meth c nL D A w k n Q (pc) lv (va :: st) :=
  fun H locs ls hP hD hS hl => lv_dup G.1 G.2.1 hdg hva (K H locs ls hP hD hS hl)
theorem j_dup2 (G : GX p s m args c cc nL own D cA A) {va vb : Value} (hdg : decode cc pc = .ok (.dup2, 1)) (hva : va.category = 1) (hvb : vb.category = 1) (K : J p l e R s m args below meth c nL D A w k n Q (pc + 1) lv (va :: vb :: va :: vb :: st)) : J p l e R s m args below meth c nL D A w k n Q (pc) lv (va :: vb :: st) :=
  fun H locs ls hP hD hS hl => lv_dup2_11 G.1 G.2.1 hdg hva hvb (K H locs ls hP hD hS hl)
theorem j_pop (G : GX p s m args c cc nL own D cA A) {va : Value} (hdg : decode cc pc = .ok (.pop, 1)) (hva : va.category = 1) (K : J p l e R s m args below meth c nL D A w k n Q (pc + 1) lv st) : J p l e R s m args below meth c nL D A w k n Q (pc) lv (va :: st) :=
  fun H locs ls hP hD hS hl => lv_pop G.1 G.2.1 hdg hva (K H locs ls hP hD hS hl)
theorem j_goto (G : GX p s m args c cc nL own D cA A) {off : Int} {tgt : Nat} (hdg : decode cc pc = .ok (.goto off, 3)) (ht : (pc : Int) + off = (tgt : Int)) (K : J p l e R s m args below meth c nL D A w k n Q (tgt) lv st) : J p l e R s m args below meth c nL D A w k n Q (pc) lv st :=
  fun H locs ls hP hD hS hl => lv_goto G.1 G.2.1 hdg ht (K H locs ls hP hD hS hl)
theorem j_lcmp (G : GX p s m args c cc nL own D cA A) {x y : Int64} (hdg : decode cc pc = .ok (.lcmp, 1)) (K : J p l e R s m args below meth c nL D A w k n Q (pc + 1) lv (.int (lg_cmp x y) :: st)) : J p l e R s m args below meth c nL D A w k n Q (pc) lv (.long y :: .long x :: st) :=
  fun H locs ls hP hD hS hl => W.lcmp G.1 G.2.1 hdg (K H locs ls hP hD hS hl)
theorem j_if_eq (G : GX p s m args c cc nL own D cA A) {x : Int32} {off : Int} {tgt : Nat} (hdg : decode cc pc = .ok (.ifCond .eq off, 3)) (ht : (pc : Int) + off = (tgt : Int)) (kt : x = 0 → J p l e R s m args below meth c nL D A w k n Q (tgt) lv st) (kf : ¬ x = 0 → J p l e R s m args below meth c nL D A w k n Q (pc + 3) lv st) : J p l e R s m args below meth c nL D A w k n Q (pc) lv (.int x :: st) :=
  fun H locs ls hP hD hS hl => lv_if_eq G.1 G.2.1 hdg ht (fun h => kt h H locs ls hP hD hS hl) (fun h => kf h H locs ls hP hD hS hl)
theorem j_if_ne (G : GX p s m args c cc nL own D cA A) {x : Int32} {off : Int} {tgt : Nat} (hdg : decode cc pc = .ok (.ifCond .ne off, 3)) (ht : (pc : Int) + off = (tgt : Int)) (kt : ¬ x = 0 → J p l e R s m args below meth c nL D A w k n Q (tgt) lv st) (kf : x = 0 → J p l e R s m args below meth c nL D A w k n Q (pc + 3) lv st) : J p l e R s m args below meth c nL D A w k n Q (pc) lv (.int x :: st) :=
  fun H locs ls hP hD hS hl => lv_if_ne G.1 G.2.1 hdg ht (fun h => kt h H locs ls hP hD hS hl) (fun h => kf h H locs ls hP hD hS hl)
theorem j_if_lt (G : GX p s m args c cc nL own D cA A) {x : Int32} {off : Int} {tgt : Nat} (hdg : decode cc pc = .ok (.ifCond .lt off, 3)) (ht : (pc : Int) + off = (tgt : Int)) (kt : x < 0 → J p l e R s m args below meth c nL D A w k n Q (tgt) lv st) (kf : ¬ x < 0 → J p l e R s m args below meth c nL D A w k n Q (pc + 3) lv st) : J p l e R s m args below meth c nL D A w k n Q (pc) lv (.int x :: st) :=
  fun H locs ls hP hD hS hl => lv_if_lt G.1 G.2.1 hdg ht (fun h => kt h H locs ls hP hD hS hl) (fun h => kf h H locs ls hP hD hS hl)
theorem j_if_ge (G : GX p s m args c cc nL own D cA A) {x : Int32} {off : Int} {tgt : Nat} (hdg : decode cc pc = .ok (.ifCond .ge off, 3)) (ht : (pc : Int) + off = (tgt : Int)) (kt : 0 ≤ x → J p l e R s m args below meth c nL D A w k n Q (tgt) lv st) (kf : ¬ 0 ≤ x → J p l e R s m args below meth c nL D A w k n Q (pc + 3) lv st) : J p l e R s m args below meth c nL D A w k n Q (pc) lv (.int x :: st) :=
  fun H locs ls hP hD hS hl => lv_if_ge G.1 G.2.1 hdg ht (fun h => kt h H locs ls hP hD hS hl) (fun h => kf h H locs ls hP hD hS hl)
theorem j_if_gt (G : GX p s m args c cc nL own D cA A) {x : Int32} {off : Int} {tgt : Nat} (hdg : decode cc pc = .ok (.ifCond .gt off, 3)) (ht : (pc : Int) + off = (tgt : Int)) (kt : 0 < x → J p l e R s m args below meth c nL D A w k n Q (tgt) lv st) (kf : ¬ 0 < x → J p l e R s m args below meth c nL D A w k n Q (pc + 3) lv st) : J p l e R s m args below meth c nL D A w k n Q (pc) lv (.int x :: st) :=
  fun H locs ls hP hD hS hl => lv_if_gt G.1 G.2.1 hdg ht (fun h => kt h H locs ls hP hD hS hl) (fun h => kf h H locs ls hP hD hS hl)
theorem j_if_le (G : GX p s m args c cc nL own D cA A) {x : Int32} {off : Int} {tgt : Nat} (hdg : decode cc pc = .ok (.ifCond .le off, 3)) (ht : (pc : Int) + off = (tgt : Int)) (kt : x ≤ 0 → J p l e R s m args below meth c nL D A w k n Q (tgt) lv st) (kf : ¬ x ≤ 0 → J p l e R s m args below meth c nL D A w k n Q (pc + 3) lv st) : J p l e R s m args below meth c nL D A w k n Q (pc) lv (.int x :: st) :=
  fun H locs ls hP hD hS hl => lv_if_le G.1 G.2.1 hdg ht (fun h => kt h H locs ls hP hD hS hl) (fun h => kf h H locs ls hP hD hS hl)
theorem j_icmp_eq (G : GX p s m args c cc nL own D cA A) {x y : Int32} {off : Int} {tgt : Nat} (hdg : decode cc pc = .ok (.if_icmp .eq off, 3)) (ht : (pc : Int) + off = (tgt : Int)) (kt : x = y → J p l e R s m args below meth c nL D A w k n Q (tgt) lv st) (kf : ¬ x = y → J p l e R s m args below meth c nL D A w k n Q (pc + 3) lv st) : J p l e R s m args below meth c nL D A w k n Q (pc) lv (.int y :: .int x :: st) :=
  fun H locs ls hP hD hS hl => lv_icmp_eq G.1 G.2.1 hdg ht (fun h => kt h H locs ls hP hD hS hl) (fun h => kf h H locs ls hP hD hS hl)
theorem j_icmp_ne (G : GX p s m args c cc nL own D cA A) {x y : Int32} {off : Int} {tgt : Nat} (hdg : decode cc pc = .ok (.if_icmp .ne off, 3)) (ht : (pc : Int) + off = (tgt : Int)) (kt : ¬ x = y → J p l e R s m args below meth c nL D A w k n Q (tgt) lv st) (kf : x = y → J p l e R s m args below meth c nL D A w k n Q (pc + 3) lv st) : J p l e R s m args below meth c nL D A w k n Q (pc) lv (.int y :: .int x :: st) :=
  fun H locs ls hP hD hS hl => lv_icmp_ne G.1 G.2.1 hdg ht (fun h => kt h H locs ls hP hD hS hl) (fun h => kf h H locs ls hP hD hS hl)
theorem j_icmp_lt (G : GX p s m args c cc nL own D cA A) {x y : Int32} {off : Int} {tgt : Nat} (hdg : decode cc pc = .ok (.if_icmp .lt off, 3)) (ht : (pc : Int) + off = (tgt : Int)) (kt : x < y → J p l e R s m args below meth c nL D A w k n Q (tgt) lv st) (kf : ¬ x < y → J p l e R s m args below meth c nL D A w k n Q (pc + 3) lv st) : J p l e R s m args below meth c nL D A w k n Q (pc) lv (.int y :: .int x :: st) :=
  fun H locs ls hP hD hS hl => lv_icmp_lt G.1 G.2.1 hdg ht (fun h => kt h H locs ls hP hD hS hl) (fun h => kf h H locs ls hP hD hS hl)
theorem j_icmp_ge (G : GX p s m args c cc nL own D cA A) {x y : Int32} {off : Int} {tgt : Nat} (hdg : decode cc pc = .ok (.if_icmp .ge off, 3)) (ht : (pc : Int) + off = (tgt : Int)) (kt : y ≤ x → J p l e R s m args below meth c nL D A w k n Q (tgt) lv st) (kf : ¬ y ≤ x → J p l e R s m args below meth c nL D A w k n Q (pc + 3) lv st) : J p l e R s m args below meth c nL D A w k n Q (pc) lv (.int y :: .int x :: st) :=
  fun H locs ls hP hD hS hl => lv_icmp_ge G.1 G.2.1 hdg ht (fun h => kt h H locs ls hP hD hS hl) (fun h => kf h H locs ls hP hD hS hl)
theorem j_icmp_gt (G : GX p s m args c cc nL own D cA A) {x y : Int32} {off : Int} {tgt : Nat} (hdg : decode cc pc = .ok (.if_icmp .gt off, 3)) (ht : (pc : Int) + off = (tgt : Int)) (kt : y < x → J p l e R s m args below meth c nL D A w k n Q (tgt) lv st) (kf : ¬ y < x → J p l e R s m args below meth c nL D A w k n Q (pc + 3) lv st) : J p l e R s m args below meth c nL D A w k n Q (pc) lv (.int y :: .int x :: st) :=
  fun H locs ls hP hD hS hl => lv_icmp_gt G.1 G.2.1 hdg ht (fun h => kt h H locs ls hP hD hS hl) (fun h => kf h H locs ls hP hD hS hl)
theorem j_icmp_le (G : GX p s m args c cc nL own D cA A) {x y : Int32} {off : Int} {tgt : Nat} (hdg : decode cc pc = .ok (.if_icmp .le off, 3)) (ht : (pc : Int) + off = (tgt : Int)) (kt : x ≤ y → J p l e R s m args below meth c nL D A w k n Q (tgt) lv st) (kf : ¬ x ≤ y → J p l e R s m args below meth c nL D A w k n Q (pc + 3) lv st) : J p l e R s m args below meth c nL D A w k n Q (pc) lv (.int y :: .int x :: st) :=
  fun H locs ls hP hD hS hl => lv_icmp_le G.1 G.2.1 hdg ht (fun h => kt h H locs ls hP hD hS hl) (fun h => kf h H locs ls hP hD hS hl)
theorem j_ifnull_n (G : GX p s m args c cc nL own D cA A) {off : Int} {tgt : Nat} (hdg : decode cc pc = .ok (.ifnull off, 3)) (ht : (pc : Int) + off = (tgt : Int)) (K : J p l e R s m args below meth c nL D A w k n Q (tgt) lv st) : J p l e R s m args below meth c nL D A w k n Q (pc) lv (.null :: st) :=
  fun H locs ls hP hD hS hl => lv_ifnullN G.1 G.2.1 hdg ht (K H locs ls hP hD hS hl)
theorem j_ifnull_r (G : GX p s m args c cc nL own D cA A) {x : Nat} {off : Int} (hdg : decode cc pc = .ok (.ifnull off, 3)) (K : J p l e R s m args below meth c nL D A w k n Q (pc + 3) lv st) : J p l e R s m args below meth c nL D A w k n Q (pc) lv (.ref x :: st) :=
  fun H locs ls hP hD hS hl => lv_ifnull G.1 G.2.1 hdg (K H locs ls hP hD hS hl)
theorem j_ifnonnull_n (G : GX p s m args c cc nL own D cA A) {off : Int} (hdg : decode cc pc = .ok (.ifnonnull off, 3)) (K : J p l e R s m args below meth c nL D A w k n Q (pc + 3) lv st) : J p l e R s m args below meth c nL D A w k n Q (pc) lv (.null :: st) :=
  fun H locs ls hP hD hS hl => lv_ifnonnullN G.1 G.2.1 hdg (K H locs ls hP hD hS hl)
theorem j_ifnonnull_r (G : GX p s m args c cc nL own D cA A) {x : Nat} {off : Int} {tgt : Nat} (hdg : decode cc pc = .ok (.ifnonnull off, 3)) (ht : (pc : Int) + off = (tgt : Int)) (K : J p l e R s m args below meth c nL D A w k n Q (tgt) lv st) : J p l e R s m args below meth c nL D A w k n Q (pc) lv (.ref x :: st) :=
  fun H locs ls hP hD hS hl => lv_ifnonnull G.1 G.2.1 hdg ht (K H locs ls hP hD hS hl)
theorem j_nullc (G : GX p s m args c cc nL own D cA A) (hdg : decode cc pc = .ok (.aconst_null, 1)) (K : J p l e R s m args below meth c nL D A w k n Q (pc + 1) lv (.null :: st)) : J p l e R s m args below meth c nL D A w k n Q (pc) lv st :=
  fun H locs ls hP hD hS hl => lv_null G.1 G.2.1 hdg (K H locs ls hP hD hS hl)
theorem j_w {w' : va_W} (h : w = w') (K : J p l e R s m args below meth c nL D A w' k n Q pc lv st) : J p l e R s m args below meth c nL D A w k n Q pc lv st := h ▸ K
theorem j_cs {k' n' : Nat} (h1 : k ≤ k') (h2 : n ≤ n') (K : J p l e R s m args below meth c nL D A w k' n' Q pc lv st) : J p l e R s m args below meth c nL D A w k n Q pc lv st := fun H locs ls hP hD hS hl => W.widen h1 h2 (K H locs ls hP hD hS hl)
theorem j_sub {lv' : List (Nat × Value)} (ks : List Nat) (h : lv_pick lv ks = lv') (K : J p l e R s m args below meth c nL D A w k n Q pc lv' st) : J p l e R s m args below meth c nL D A w k n Q pc lv st := fun H locs ls hP hD hS hl => K H locs ls hP hD hS (lv_sub hl ks h)
theorem j_st {st' : List Value} (h : st = st') (K : J p l e R s m args below meth c nL D A w k n Q pc lv st') : J p l e R s m args below meth c nL D A w k n Q pc lv st := h ▸ K
theorem j_lv {lv' : List (Nat × Value)} (h : lv = lv') (K : J p l e R s m args below meth c nL D A w k n Q pc lv' st) : J p l e R s m args below meth c nL D A w k n Q pc lv st := h ▸ K
theorem j_topi {x : Int32} (K : ∀ y : Int32, y = x → J p l e R s m args below meth c nL D A w k n Q pc lv (.int y :: st)) : J p l e R s m args below meth c nL D A w k n Q pc lv (.int x :: st) := K x rfl
theorem j_topl {x : Int64} (K : ∀ y : Int64, y = x → J p l e R s m args below meth c nL D A w k n Q pc lv (.long y :: st)) : J p l e R s m args below meth c nL D A w k n Q pc lv (.long x :: st) := K x rfl
theorem j_rwi {x y : Int32} (h : x = y) (K : J p l e R s m args below meth c nL D A w k n Q pc lv (.int y :: st)) : J p l e R s m args below meth c nL D A w k n Q pc lv (.int x :: st) := h ▸ K
theorem j_rwl {x y : Int64} (h : x = y) (K : J p l e R s m args below meth c nL D A w k n Q pc lv (.long y :: st)) : J p l e R s m args below meth c nL D A w k n Q pc lv (.long x :: st) := h ▸ K
/-- a field read -/
theorem j_get (G : GX p s m args c cc nL own D cA A) {ref C : String} {T : u_T} {N ci index : Nat} (hin : ∀ w ∈ u_ws C T N, w ∈ WS) (hc : CL[ci]? = some (C, T, N)) (kf : Nat) (hk : kf < N) (hlink : Cond.fieldLink own index ref (T kf).2.1 (T kf).2.2.1 ∈ WS) (hsame : ref = (T kf).1)
    (q0 : Nat) {a : Nat} {fs : List Value} {v : Value} (he : w[q0]? = some (a, .inr (ci, fs))) (hv : fs[kf]? = some v) (hdg : decode cc pc = .ok (.getfield index, 3))
    (K : J p l e R s m args below meth c nL D A w k n Q (pc + 3) lv (v :: st)) : J p l e R s m args below meth c nL D A w k n Q pc lv (.ref a :: st) := by
  obtain ⟨hx, hb, hml, hown, hts, hK, hA, -⟩ := G
  subst hsame
  exact fun H locs ls hP hD hS hl => va_get (D := D) (C := C) (T := T) (N := N) hx hb hts hin hown hK hP q0 he hc kf hk (hts _ hlink) (fun _ h => h) hv hdg (K H locs ls hP hD hS hl)
theorem j_getN (G : GX p s m args c cc nL own D cA A) {ref C host : String} {T : u_T} {N ci index : Nat} (hin : ∀ w ∈ u_ws C T N, w ∈ WS) (hc : CL[ci]? = some (C, T, N)) (kf : Nat) (hk : kf < N) (hlink : Cond.fieldLinkNest own index ref (T kf).2.1 (T kf).2.2.1 host ∈ NWL) (hsame : ref = (T kf).1)
    (q0 : Nat) {a : Nat} {fs : List Value} {v : Value} (he : w[q0]? = some (a, .inr (ci, fs))) (hv : fs[kf]? = some v) (hdg : decode cc pc = .ok (.getfield index, 3))
    (K : J p l e R s m args below meth c nL D A w k n Q (pc + 3) lv (v :: st)) : J p l e R s m args below meth c nL D A w k n Q pc lv (.ref a :: st) := by
  obtain ⟨hx, hb, hml, hown, hts, hK, hA, hE⟩ := G
  subst hsame
  exact fun H locs ls hP hD hS hl => va_getN (D := D) (C := C) (T := T) (N := N) hx hb hts hin hown hK hP q0 he hc kf hk (va_Nw.use rfl (hE.1 _ hlink)) (fun _ h => h) hv hdg (K H locs ls hP hD hS hl)
/-- a field written -/
theorem j_put (G : GX p s m args c cc nL own D cA A) {ref C : String} {T : u_T} {N ci index : Nat} (hin : ∀ w ∈ u_ws C T N, w ∈ WS) (hc : CL[ci]? = some (C, T, N)) (ty0 : Nat → FieldType) (hty : ∀ k, k < N → parseFieldDescriptor (T k).2.2.1 = some (ty0 k)) (hnm : ∀ a, a < N → ∀ b, b < N → a ≠ b → (T a).2.1 ≠ (T b).2.1) (kf : Nat) (hk : kf < N) (hlink : Cond.fieldLink own index ref (T kf).2.1 (T kf).2.2.1 ∈ WS) (hsame : ref = (T kf).1) (hfin : (T kf).2.2.2 = false)
    (q0 : Nat) {a : Nat} {fs : List Value} {v : Value} {w' : va_W} (he : w[q0]? = some (a, .inr (ci, fs))) (hn : narrow (ty0 kf) v = v) (hfit : fits (ty0 kf) v = true) (hl : kf < fs.length) (hdg : decode cc pc = .ok (.putfield index, 3)) (hw : w.set q0 (a, .inr (ci, fs.set kf v)) = w')
    (K : J p l e R s m args below meth c nL D A w' k n Q (pc + 3) lv st) : J p l e R s m args below meth c nL D A w k n Q pc lv (v :: .ref a :: st) := by
  obtain ⟨hx, hb, hml, hown, hts, hK, hA, -⟩ := G
  subst hsame
  subst hw
  exact fun H locs ls hP hD hS hls => va_put (D := D) (C := C) (T := T) (N := N) hx hb hts hin ty0 hty hnm hown hK hP hD hS q0 he hc kf hk (hts _ hlink) (fun _ h => h) hfin (hty kf hk) hn hfit hl hdg (fun H1 locs1 hP1 hD1 hS1 => K H1 locs1 ls hP1 hD1 hS1 hls)
theorem j_putF (G : GX p s m args c cc nL own D cA A) (hinit : meth.name = "<init>") {ref C : String} {T : u_T} {N ci index : Nat} (hin : ∀ w ∈ u_ws C T N, w ∈ WS) (hc : CL[ci]? = some (C, T, N)) (ty0 : Nat → FieldType) (hty : ∀ k, k < N → parseFieldDescriptor (T k).2.2.1 = some (ty0 k)) (hnm : ∀ a, a < N → ∀ b, b < N → a ≠ b → (T a).2.1 ≠ (T b).2.1) (kf : Nat) (hk : kf < N) (hlink : Cond.fieldLink own index ref (T kf).2.1 (T kf).2.2.1 ∈ WS) (hsame : ref = (T kf).1) (hfin : (T kf).2.2.2 = true) (hdecl : (T kf).1 = own)
    (q0 : Nat) {a : Nat} {fs : List Value} {v : Value} {w' : va_W} (he : w[q0]? = some (a, .inr (ci, fs))) (hn : narrow (ty0 kf) v = v) (hfit : fits (ty0 kf) v = true) (hl : kf < fs.length) (hdg : decode cc pc = .ok (.putfield index, 3)) (hw : w.set q0 (a, .inr (ci, fs.set kf v)) = w')
    (K : J p l e R s m args below meth c nL D A w' k n Q (pc + 3) lv st) : J p l e R s m args below meth c nL D A w k n Q pc lv (v :: .ref a :: st) := by
  obtain ⟨hx, hb, hml, hown, hts, hK, hA, -⟩ := G
  subst hsame
  subst hw
  exact fun H locs ls hP hD hS hls => va_putF (D := D) (C := C) (T := T) (N := N) hx hb hts hin ty0 hty hnm hown hK hP hD hS q0 he hc kf hk (hts _ hlink) (fun _ h => h) hfin hinit hdecl (hty kf hk) hn hfit hl hdg (fun H1 locs1 hP1 hD1 hS1 => K H1 locs1 ls hP1 hD1 hS1 hls)
/-- arrays -/
theorem j_iald (G : GX p s m args c cc nL own D cA A) (q0 : Nat) {a sz : Nat} {f : Nat → Int32} {i : Int32} (ha : w[q0]? = some (a, .inl (cA 0, sz, .inl f))) (hin : vp_in i sz) (hdg : decode cc pc = .ok (.iaload, 1))
    (K : J p l e R s m args below meth c nL D A w k n Q (pc + 1) lv (.int (f i.toNatClampNeg) :: st)) : J p l e R s m args below meth c nL D A w k n Q pc lv (.int i :: .ref a :: st) :=
  fun H locs ls hP hD hS hls => va_iald G.1 G.2.1 G.2.2.2.2.2.1 hP q0 0 ha rfl hin hdg (K H locs ls hP hD hS hls)
theorem j_ialdN (G : GX p s m args c cc nL own D cA A) (q0 : Nat) {a sz j : Nat} {f : Nat → Int32} {i : Int32} (ha : w[q0]? = some (a, .inl (cA 0, sz, .inl f))) (hi : i = nI j) (hj : j < sz) (hsz : sz < 2 ^ 31) (hdg : decode cc pc = .ok (.iaload, 1))
    (K : J p l e R s m args below meth c nL D A w k n Q (pc + 1) lv (.int (f j) :: st)) : J p l e R s m args below meth c nL D A w k n Q pc lv (.int i :: .ref a :: st) := by
  subst hi
  exact j_iald G q0 ha (vp_in_nI hj hsz) hdg (by rw [nI_clamp (Nat.lt_trans hj hsz)]; exact K)
theorem j_iast (G : GX p s m args c cc nL own D cA A) (q0 : Nat) {a sz j : Nat} {f : Nat → Int32} {i x : Int32} {w' : va_W} (ha : w[q0]? = some (a, .inl (cA 0, sz, .inl f))) (hi : i = nI j) (hj : j < sz) (hsz : sz < 2 ^ 31) (hdg : decode cc pc = .ok (.iastore, 1)) (hw : w.set q0 (a, .inl (cA 0, sz, .inl (upd f j x))) = w')
    (K : J p l e R s m args below meth c nL D A w' k n Q (pc + 1) lv st) : J p l e R s m args below meth c nL D A w k n Q pc lv (.int x :: .int i :: .ref a :: st) := by
  subst hi
  subst hw
  have hc : (nI j).toNatClampNeg = j := nI_clamp (Nat.lt_trans hj hsz)
  exact fun H locs ls hP hD hS hls => va_iast G.1 G.2.1 G.2.2.2.2.2.1 hP hD hS q0 0 ha rfl (vp_in_nI hj hsz) hdg (fun H1 locs1 hP1 hD1 hS1 => K H1 locs1 ls (by rw [hc] at hP1; exact hP1) (by rw [hc] at hD1; exact hD1) hS1 hls)
theorem j_caldN (G : GX p s m args c cc nL own D cA A) (q0 : Nat) {a sz j : Nat} {f : Nat → Int32} {i : Int32} (ha : w[q0]? = some (a, .inl (cA 1, sz, .inl f))) (hi : i = nI j) (hj : j < sz) (hsz : sz < 2 ^ 31) (hdg : decode cc pc = .ok (.caload, 1))
    (K : J p l e R s m args below meth c nL D A w k n Q (pc + 1) lv (.int (f j) :: st)) : J p l e R s m args below meth c nL D A w k n Q pc lv (.int i :: .ref a :: st) := by
  subst hi
  exact fun H locs ls hP hD hS hls => va_cald G.1 G.2.1 G.2.2.2.2.2.1 hP q0 1 ha rfl (vp_in_nI hj hsz) hdg (by rw [nI_clamp (Nat.lt_trans hj hsz)]; exact K H locs ls hP hD hS hls)
theorem j_cast (G : GX p s m args c cc nL own D cA A) (q0 : Nat) {a sz j : Nat} {f : Nat → Int32} {i x : Int32} {w' : va_W} (ha : w[q0]? = some (a, .inl (cA 1, sz, .inl f))) (hi : i = nI j) (hj : j < sz) (hsz : sz < 2 ^ 31) (hx : vp_nar .char x = x) (hdg : decode cc pc = .ok (.castore, 1)) (hw : w.set q0 (a, .inl (cA 1, sz, .inl (upd f j x))) = w')
    (K : J p l e R s m args below meth c nL D A w' k n Q (pc + 1) lv st) : J p l e R s m args below meth c nL D A w k n Q pc lv (.int x :: .int i :: .ref a :: st) := by
  subst hi
  subst hw
  have hc : (nI j).toNatClampNeg = j := nI_clamp (Nat.lt_trans hj hsz)
  exact fun H locs ls hP hD hS hls => va_cast G.1 G.2.1 G.2.2.2.2.2.1 hP hD hS q0 1 ha rfl (vp_in_nI hj hsz) hdg (fun H1 locs1 hP1 hD1 hS1 => K H1 locs1 ls (by rw [hc, hx] at hP1; exact hP1) (by rw [hc, hx] at hD1; exact hD1) hS1 hls)
theorem j_aldT (G : GX p s m args c cc nL own D cA A) (q0 t0 : Nat) {C : String} {c2 : ClassId} {a sz j : Nat} {f : Nat → Option Nat} {i : Int32} (ha : w[q0]? = some (a, .inl (c2, sz, .inr (.inr (.inr (.inr f)))))) (ht : (TY cA)[t0]? = some (c2, .object C)) (hi : i = nI j) (hj : j < sz) (hsz : sz < 2 ^ 31) (hdg : decode cc pc = .ok (.aaload, 1))
    (K : J p l e R s m args below meth c nL D A w k n Q (pc + 1) lv (va_rf (f j) :: st)) : J p l e R s m args below meth c nL D A w k n Q pc lv (.int i :: .ref a :: st) := by
  subst hi
  exact fun H locs ls hP hD hS hls => va_aldq G.1 G.2.1 G.2.2.2.2.2.1 hP q0 t0 ha ht (vp_in_nI hj hsz) hdg (by rw [nI_clamp (Nat.lt_trans hj hsz)]; exact K H locs ls hP hD hS hls)
theorem j_astT (G : GX p s m args c cc nL own D cA A) (q0 t0 qk ci : Nat) {r : vw_C} {c2 : ClassId} {a sz j v : Nat} {vs : List Value} {f : Nat → Option Nat} {i : Int32} {w' : va_W} (ha : w[q0]? = some (a, .inl (c2, sz, .inr (.inr (.inr (.inr f)))))) (ht : (TY cA)[t0]? = some (c2, .object r.1)) (hv : w[qk]? = some (v, .inr (ci, vs))) (hc : CL[ci]? = some r) (hi : i = nI j) (hj : j < sz) (hsz : sz < 2 ^ 31) (hdg : decode cc pc = .ok (.aastore, 1)) (hw : w.set q0 (a, .inl (c2, sz, .inr (.inr (.inr (.inr (va_up f j (some v))))))) = w')
    (K : J p l e R s m args below meth c nL D A w' k n Q (pc + 1) lv st) : J p l e R s m args below meth c nL D A w k n Q pc lv (.ref v :: .int i :: .ref a :: st) := by
  subst hi
  subst hw
  have hc9 : (nI j).toNatClampNeg = j := nI_clamp (Nat.lt_trans hj hsz)
  exact fun H locs ls hP hD hS hls => va_astq G.1 G.2.1 G.2.2.2.2.2.1 hP hD hS q0 t0 qk ci ha ht hv hc (vp_in_nI hj hsz) hdg (fun H1 locs1 hP1 hD1 hS1 => K H1 locs1 ls (by rw [hc9] at hP1; exact hP1) (by rw [hc9] at hD1; exact hD1) hS1 hls)
theorem j_alen (G : GX p s m args c cc nL own D cA A) (q0 t0 : Nat) {a : Nat} {c2 : ClassId} {x : vp_A} {ty : FieldType} {v : Int32} (ha : w[q0]? = some (a, .inl (c2, x))) (ht : (TY cA)[t0]? = some (c2, ty)) (hv : Int32.ofNat x.1 = v) (hdg : decode cc pc = .ok (.arraylength, 1))
    (K : J p l e R s m args below meth c nL D A w k n Q (pc + 1) lv (.int v :: st)) : J p l e R s m args below meth c nL D A w k n Q pc lv (.ref a :: st) :=
  fun H locs ls hP hD hS hls => va_alen G.1 G.2.1 G.2.2.2.2.2.1 hP q0 t0 ha ht hv hdg (K H locs ls hP hD hS hls)
/-- a null test of a reference read from an array -/
theorem j_ifnull (G : GX p s m args c cc nL own D cA A) {r : Option Nat} {off : Int} {tgt : Nat} (hdg : decode cc pc = .ok (.ifnull off, 3)) (ht : (pc : Int) + off = (tgt : Int)) (K0 : r = none → J p l e R s m args below meth c nL D A w k n Q tgt lv st) (K1 : ∀ a, r = some a → J p l e R s m args below meth c nL D A w k n Q (pc + 3) lv st) : J p l e R s m args below meth c nL D A w k n Q pc lv (va_rf r :: st) := by
  cases r with
  | none => exact fun H locs ls hP hD hS hls => lv_ifnullN G.1 G.2.1 hdg ht (K0 rfl H locs ls hP hD hS hls)
  | some a => exact fun H locs ls hP hD hS hls => lv_ifnull G.1 G.2.1 hdg (K1 a rfl H locs ls hP hD hS hls)
theorem j_ifnonnull (G : GX p s m args c cc nL own D cA A) {r : Option Nat} {off : Int} {tgt : Nat} (hdg : decode cc pc = .ok (.ifnonnull off, 3)) (ht : (pc : Int) + off = (tgt : Int)) (K0 : r = none → J p l e R s m args below meth c nL D A w k n Q (pc + 3) lv st) (K1 : ∀ a, r = some a → J p l e R s m args below meth c nL D A w k n Q tgt lv st) : J p l e R s m args below meth c nL D A w k n Q pc lv (va_rf r :: st) := by
  cases r with
  | none => exact fun H locs ls hP hD hS hls => lv_ifnonnullN G.1 G.2.1 hdg (K0 rfl H locs ls hP hD hS hls)
  | some a => exact fun H locs ls hP hD hS hls => lv_ifnonnull G.1 G.2.1 hdg ht (K1 a rfl H locs ls hP hD hS hls)
theorem j_null (G : GX p s m args c cc nL own D cA A) (hdg : decode cc pc = .ok (.aconst_null, 1)) (K : J p l e R s m args below meth c nL D A w k n Q (pc + 1) lv (va_rf none :: st)) : J p l e R s m args below meth c nL D A w k n Q pc lv st :=
  fun H locs ls hP hD hS hls => lv_null G.1 G.2.1 hdg (K H locs ls hP hD hS hls)
/-- Math.max, Math.min -/
theorem j_max (G : GX p s m args c cc nL own D cA A) {index : Nat} {x y : Int32} (h1 : Cond.methodLink own index Lib.Math.max.name ∈ WS) (hR : 1 ≤ R.frames ∧ (st.map fun v => v.category).sum + 13 ≤ R.locals ∧ k ≤ R.cells ∧ n ≤ R.slots) (hdg : decode cc pc = .ok (.invokestatic index, 3))
    (K : J p l e R s m args below meth c nL D A w k n Q (pc + 3) lv (.int (if x < y then y else x) :: st)) : J p l e R s m args below meth c nL D A w k n Q pc lv (.int y :: .int x :: st) := by
  obtain ⟨hx, hb, hml, hown, hts, hK, hA, -⟩ := G
  exact fun H locs ls hP hD hS hls => va_mmax hx hb (hml.trans hls.1.symm) hown (hts _ h1) (hts _ wd_573) (hts _ wd_57) (hts _ wd_574) hR.1 hR.2.1 hR.2.2.1 hR.2.2.2 hdg (K H locs ls hP hD hS hls)
theorem j_min (G : GX p s m args c cc nL own D cA A) {index : Nat} {x y : Int32} (h1 : Cond.methodLink own index Lib.Math.min.name ∈ WS) (hR : 1 ≤ R.frames ∧ (st.map fun v => v.category).sum + 13 ≤ R.locals ∧ k ≤ R.cells ∧ n ≤ R.slots) (hdg : decode cc pc = .ok (.invokestatic index, 3))
    (K : J p l e R s m args below meth c nL D A w k n Q (pc + 3) lv (.int (if y < x then y else x) :: st)) : J p l e R s m args below meth c nL D A w k n Q pc lv (.int y :: .int x :: st) := by
  obtain ⟨hx, hb, hml, hown, hts, hK, hA, -⟩ := G
  exact fun H locs ls hP hD hS hls => va_mmin hx hb (hml.trans hls.1.symm) hown (hts _ h1) (hts _ wd_651) (hts _ wd_57) (hts _ wd_652) hR.1 hR.2.1 hR.2.2.1 hR.2.2.2 hdg (K H locs ls hP hD hS hls)
/-! calls -/
theorem PR_blind {w : va_W} {sz : Nat} {av : List Value} : FrameBlind (va_Pc av (PR D cA w sz)) := fun a U g mk h => ⟨h.1, h.2.1, h.2.2.1, va_K.moved (u := U) (U := U.calling g mk a) (Vm.Alike.refl U.vm) h.2.2.2.1, h.2.2.2.2.1, ENV.warm (s := U) (U := U.calling g mk a) (State.WarmedH.refl U) h.2.2.2.2.2⟩
theorem PR_at (G : GX p s m args c cc nL own D cA A) {H : Heap} {locs : List Loc} (hP : va_P D CL w H) (hD : va_D A w) (hS : va_S A s.heap H locs) {U : State} (hU : U.heap = H) (hW : s.WarmedH U.vm) : PR D cA w H.size U := by
  obtain ⟨hx, hb, hml, hown, hts, hK, hA, hE⟩ := G
  refine ⟨by rw [hU], by rw [hU]; exact hP, va_K.moved hW.alike hK, hD.weaken (fun _ _ _ _ => trivial), ?_⟩
  rw [hU]
  exact ENV.warm hW ((hE.kept hS.2.1).narrow (wA (D := D) hD hS hA))
theorem r_V (G : GX p s m args c cc nL own D cA A) {C : String} {index n2 maxL mc ms : Nat} {y : MethodName} {b : ByteArray} {rt : Option FieldType} {rm : Room} {a q0 ci : Nat} {As : List Value} {st0 : List Value} {Qc : Nat → Array Value → State → Outcome → State → Prop} {fs : List Value} {cl1 : u_T} {cl2 : Nat}
    (hM : ∀ sz, Met l y (wz y b maxL rt) rm (va_Pc (.ref a :: As) (PR D cA w sz)) (Qc sz) mc ms (va_A w sz)) (g : GoodIn WS (wsV own index C y (wz y b maxL rt))) (hrm : rm.cells = mc ∧ rm.slots = ms) (hd : y.cls = C ∧ y.cls ≠ "java/lang/invoke/MethodHandle" ∧ y.cls ≠ "java/lang/invoke/VarHandle" ∧ (parseMethodDescriptor y.desc).map (fun d => d.parameters.length) = some n2)
    (hR : rm.frames + 1 ≤ R.frames ∧ 8 + (maxL + 11) + rm.locals ≤ R.locals) (hf : k + mc ≤ R.cells ∧ n + ms ≤ R.slots) (hn : As.length = n2) (hst : st0 = As.reverse ++ .ref a :: st) (hcat : (st.map fun v => v.category).sum ≤ 8) (hc : CL[ci]? = some (C, cl1, cl2)) (he : w[q0]? = some (a, .inr (ci, fs))) (hdg : decode cc pc = .ok (.invokevirtual index, 3))
    {H : Heap} {locs : List Loc} {ls : Array Slot} (hP : va_P D CL w H) (hD : va_D A w) (hS : va_S A s.heap H locs) (hl : lv_has ls nL lv) :
    va_Run p l e R s m args below meth c H locs k n mc ms (F0 m pc ls st0) st (Qc H.size (Value.ref a :: As).toArray) (va_A w H.size) :=
  va_runV (As := As) (rest := st) ⟨G.1, G.2.1, G.2.2.1, G.2.2.2.1, G.2.2.2.2.1⟩ (hM H.size) (cwV n2 G.2.2.2.2.1 g rfl hrm.1 hrm.2 hd hR) ⟨PR_blind, va_recv G.2.2.2.2.2.1 hP hc he, fun U hU hW => ⟨rfl, PR_at G hP hD hS hU hW⟩⟩ rfl hn hl.1 hst (lv_room hcat) hdg hf
theorem r_S (G : GX p s m args c cc nL own D cA A) {index n2 maxL mc ms : Nat} {y : MethodName} {b : ByteArray} {rt : Option FieldType} {rm : Room} {As : List Value} {st0 : List Value} {Qc : Nat → Array Value → State → Outcome → State → Prop}
    (hM : ∀ sz, Met l y (wz y b maxL rt) rm (va_Pc As (PR D cA w sz)) (Qc sz) mc ms (va_A w sz)) (g : GoodIn WS (va_wsS own index y (wz y b maxL rt))) (hrm : rm.cells = mc ∧ rm.slots = ms) (hd : y.cls ≠ "java/lang/invoke/MethodHandle" ∧ y.cls ≠ "java/lang/invoke/VarHandle" ∧ (parseMethodDescriptor y.desc).map (fun d => d.parameters.length) = some n2)
    (hR : rm.frames + 1 ≤ R.frames ∧ 8 + (maxL + 11) + rm.locals ≤ R.locals) (hf : k + mc ≤ R.cells ∧ n + ms ≤ R.slots) (hn : As.length = n2) (hst : st0 = As.reverse ++ st) (hcat : (st.map fun v => v.category).sum ≤ 8) (hdg : decode cc pc = .ok (.invokestatic index, 3))
    {H : Heap} {locs : List Loc} {ls : Array Slot} (hP : va_P D CL w H) (hD : va_D A w) (hS : va_S A s.heap H locs) (hl : lv_has ls nL lv) :
    va_Run p l e R s m args below meth c H locs k n mc ms (F0 m pc ls st0) st (Qc H.size As.toArray) (va_A w H.size) :=
  va_runS (As := As) (rest := st) ⟨G.1, G.2.1, G.2.2.1, G.2.2.2.1, G.2.2.2.2.1⟩ (hM H.size) (va_cwS n2 G.2.2.2.2.1 g rfl hrm.1 hrm.2 hd hR) ⟨PR_blind, fun U hU hW => ⟨rfl, PR_at G hP hD hS hU hW⟩⟩ rfl hn hl.1 hst (lv_room hcat) hdg hf
theorem r_SN (G : GX p s m args c cc nL own D cA A) {host : String} {index n2 maxL mc ms : Nat} {y : MethodName} {b : ByteArray} {rt : Option FieldType} {rm : Room} {As : List Value} {st0 : List Value} {Qc : Nat → Array Value → State → Outcome → State → Prop}
    (hM : ∀ sz, Met l y (wz y b maxL rt) rm (va_Pc As (PR D cA w sz)) (Qc sz) mc ms (va_A w sz)) (h1 : Cond.methodLinkNest own index y host ∈ NWL) (h2 : Cond.static y ∈ WS) (h3 : Cond.initialized y.cls ∈ WS) (h4 : Cond.code y b maxL rt ∈ WS) (hrm : rm.cells = mc ∧ rm.slots = ms) (hd : y.cls ≠ "java/lang/invoke/MethodHandle" ∧ y.cls ≠ "java/lang/invoke/VarHandle" ∧ (parseMethodDescriptor y.desc).map (fun d => d.parameters.length) = some n2)
    (hR : rm.frames + 1 ≤ R.frames ∧ 8 + (maxL + 11) + rm.locals ≤ R.locals) (hf : k + mc ≤ R.cells ∧ n + ms ≤ R.slots) (hn : As.length = n2) (hst : st0 = As.reverse ++ st) (hcat : (st.map fun v => v.category).sum ≤ 8) (hdg : decode cc pc = .ok (.invokestatic index, 3))
    {H : Heap} {locs : List Loc} {ls : Array Slot} (hP : va_P D CL w H) (hD : va_D A w) (hS : va_S A s.heap H locs) (hl : lv_has ls nL lv) :
    va_Run p l e R s m args below meth c H locs k n mc ms (F0 m pc ls st0) st (Qc H.size As.toArray) (va_A w H.size) :=
  va_runSN (As := As) (rest := st) ⟨G.1, G.2.1, G.2.2.1, G.2.2.2.1, G.2.2.2.2.1⟩ (hM H.size) ⟨va_cnB n2 G.2.2.2.2.1 (gz h4) rfl hrm.1 hrm.2 (G.2.2.2.2.2.2.2.1 _ h1) (G.2.2.2.2.1 _ h3) hd hR, G.2.2.2.2.1 _ h2, trivial⟩ ⟨PR_blind, fun U hU hW => ⟨rfl, PR_at G hP hD hS hU hW⟩⟩ rfl hn hl.1 hst (lv_room hcat) hdg hf
theorem r_I (G : GX p s m args c cc nL own D cA A) {index n2 maxL mc ms : Nat} {y : MethodName} {b : ByteArray} {rm : Room} {a : Nat} {As : List Value} {st0 : List Value} {Qc : Nat → Array Value → State → Outcome → State → Prop}
    (hM : ∀ sz, Met l y (wz y b maxL none) rm (va_Pc (.ref a :: As) (PR D cA w sz)) (Qc sz) mc ms (va_A w sz)) (h1 : Cond.methodLink own index y ∈ WS) (h2 : Cond.instanceMethod y ∈ WS) (h3 : Cond.initialized y.cls ∈ WS) (h4 : Cond.code y b maxL none ∈ WS) (hy : y.name = "<init>") (hrm : rm.cells = mc ∧ rm.slots = ms) (hd : y.cls ≠ "java/lang/invoke/MethodHandle" ∧ y.cls ≠ "java/lang/invoke/VarHandle" ∧ (parseMethodDescriptor y.desc).map (fun d => d.parameters.length) = some n2)
    (hR : rm.frames + 1 ≤ R.frames ∧ 8 + (maxL + 11) + rm.locals ≤ R.locals) (hf : k + mc ≤ R.cells ∧ n + ms ≤ R.slots) (hn : As.length = n2) (hst : st0 = As.reverse ++ .ref a :: st) (hcat : (st.map fun v => v.category).sum ≤ 8) (hdg : decode cc pc = .ok (.invokespecial index, 3))
    {H : Heap} {locs : List Loc} {ls : Array Slot} (hP : va_P D CL w H) (hD : va_D A w) (hS : va_S A s.heap H locs) (hl : lv_has ls nL lv) :
    va_Run p l e R s m args below meth c H locs k n mc ms (F0 m pc ls st0) st (Qc H.size (Value.ref a :: As).toArray) (va_A w H.size) :=
  va_runI (As := As) (rest := st) ⟨G.1, G.2.1, G.2.2.1, G.2.2.2.1, G.2.2.2.2.1⟩ (hM H.size) (cwI n2 G.2.2.2.2.1 (gz h4) rfl hrm.1 hrm.2 (G.2.2.2.2.1 _ h3) (G.2.2.2.2.1 _ h1) (G.2.2.2.2.1 _ h2) hy hd hR) ⟨PR_blind, fun U hU hW => ⟨rfl, PR_at G hP hD hS hU hW⟩⟩ rfl hn hl.1 hst (lv_room hcat) hdg hf
theorem r_IN (G : GX p s m args c cc nL own D cA A) {host : String} {index n2 maxL mc ms : Nat} {y : MethodName} {b : ByteArray} {rm : Room} {a : Nat} {As : List Value} {st0 : List Value} {Qc : Nat → Array Value → State → Outcome → State → Prop}
    (hM : ∀ sz, Met l y (wz y b maxL none) rm (va_Pc (.ref a :: As) (PR D cA w sz)) (Qc sz) mc ms (va_A w sz)) (h1 : Cond.methodLinkNest own index y host ∈ NWL) (h2 : Cond.instanceMethod y ∈ WS) (h3 : Cond.initialized y.cls ∈ WS) (h4 : Cond.code y b maxL none ∈ WS) (hy : y.name = "<init>") (hrm : rm.cells = mc ∧ rm.slots = ms) (hd : y.cls ≠ "java/lang/invoke/MethodHandle" ∧ y.cls ≠ "java/lang/invoke/VarHandle" ∧ (parseMethodDescriptor y.desc).map (fun d => d.parameters.length) = some n2)
    (hR : rm.frames + 1 ≤ R.frames ∧ 8 + (maxL + 11) + rm.locals ≤ R.locals) (hf : k + mc ≤ R.cells ∧ n + ms ≤ R.slots) (hn : As.length = n2) (hst : st0 = As.reverse ++ .ref a :: st) (hcat : (st.map fun v => v.category).sum ≤ 8) (hdg : decode cc pc = .ok (.invokespecial index, 3))
    {H : Heap} {locs : List Loc} {ls : Array Slot} (hP : va_P D CL w H) (hD : va_D A w) (hS : va_S A s.heap H locs) (hl : lv_has ls nL lv) :
    va_Run p l e R s m args below meth c H locs k n mc ms (F0 m pc ls st0) st (Qc H.size (Value.ref a :: As).toArray) (va_A w H.size) :=
  va_runIN (As := As) (rest := st) ⟨G.1, G.2.1, G.2.2.1, G.2.2.2.1, G.2.2.2.2.1⟩ (hM H.size) ⟨va_cnB n2 G.2.2.2.2.1 (gz h4) rfl hrm.1 hrm.2 (G.2.2.2.2.2.2.2.1 _ h1) (G.2.2.2.2.1 _ h3) hd hR, hy, G.2.2.2.2.1 _ h2⟩ ⟨PR_blind, fun U hU hW => ⟨rfl, PR_at G hP hD hS hU hW⟩⟩ rfl hn hl.1 hst (lv_room hcat) hdg hf
theorem j_calli (G : GX p s m args c cc nL own D cA A) {post : Int32 → va_W → Prop} {mc ms : Nat} {st0 : List Value} {a : Array Value}
    (hr : ∀ (H : Heap) (locs : List Loc) (ls : Array Slot), va_P D CL w H → va_D A w → va_S A s.heap H locs → lv_has ls nL lv → va_Run p l e R s m args below meth c H locs k n mc ms (F0 m pc ls st0) st (va_Qi post (PO D cA (va_A w H.size)) (va_A w H.size) a) (va_A w H.size))
    (K : ∀ (r : Int32) (w' : va_W), post r w' → J p l e R s m args below meth c nL D A w' (k + mc) (n + ms) Q (pc + 3) lv (.int r :: st)) : J p l e R s m args below meth c nL D A w k n Q (pc) lv st0 := by
  intro H locs ls hP hD hS hl
  refine va_calli (hr H locs ls hP hD hS hl) hS (fun q _ h => wA (D := D) hD hS G.2.2.2.2.2.2.1 q h) (wA (D := D) hD hS G.2.2.2.2.2.2.1) (fun r u t H1 locs1 ht hvm hp hB hz hk hS1 => ?_)
  obtain ⟨hP1, -, hD1⟩ := hB
  rw [ht] at hP1
  exact K r u hp H1 locs1 ls hP1 (hD1.weaken (fun _ q _ h => wA (D := D) hD hS G.2.2.2.2.2.2.1 _ h)) hS1 hl
theorem j_calll (G : GX p s m args c cc nL own D cA A) {post : Int64 → va_W → Prop} {mc ms : Nat} {st0 : List Value} {a : Array Value}
    (hr : ∀ (H : Heap) (locs : List Loc) (ls : Array Slot), va_P D CL w H → va_D A w → va_S A s.heap H locs → lv_has ls nL lv → va_Run p l e R s m args below meth c H locs k n mc ms (F0 m pc ls st0) st (va_Ql post (PO D cA (va_A w H.size)) (va_A w H.size) a) (va_A w H.size))
    (K : ∀ (r : Int64) (w' : va_W), post r w' → J p l e R s m args below meth c nL D A w' (k + mc) (n + ms) Q (pc + 3) lv (.long r :: st)) : J p l e R s m args below meth c nL D A w k n Q (pc) lv st0 := by
  intro H locs ls hP hD hS hl
  refine va_calll (hr H locs ls hP hD hS hl) hS (fun q _ h => wA (D := D) hD hS G.2.2.2.2.2.2.1 q h) (wA (D := D) hD hS G.2.2.2.2.2.2.1) (fun r u t H1 locs1 ht hvm hp hB hz hk hS1 => ?_)
  obtain ⟨hP1, -, hD1⟩ := hB
  rw [ht] at hP1
  exact K r u hp H1 locs1 ls hP1 (hD1.weaken (fun _ q _ h => wA (D := D) hD hS G.2.2.2.2.2.2.1 _ h)) hS1 hl
theorem j_callf (G : GX p s m args c cc nL own D cA A) {post : UInt32 → va_W → Prop} {mc ms : Nat} {st0 : List Value} {a : Array Value}
    (hr : ∀ (H : Heap) (locs : List Loc) (ls : Array Slot), va_P D CL w H → va_D A w → va_S A s.heap H locs → lv_has ls nL lv → va_Run p l e R s m args below meth c H locs k n mc ms (F0 m pc ls st0) st (va_Qf post (PO D cA (va_A w H.size)) (va_A w H.size) a) (va_A w H.size))
    (K : ∀ (r : UInt32) (w' : va_W), post r w' → J p l e R s m args below meth c nL D A w' (k + mc) (n + ms) Q (pc + 3) lv (.float r :: st)) : J p l e R s m args below meth c nL D A w k n Q (pc) lv st0 := by
  intro H locs ls hP hD hS hl
  refine va_callf (hr H locs ls hP hD hS hl) hS (fun q _ h => wA (D := D) hD hS G.2.2.2.2.2.2.1 q h) (wA (D := D) hD hS G.2.2.2.2.2.2.1) (fun r u t H1 locs1 ht hvm hp hB hz hk hS1 => ?_)
  obtain ⟨hP1, -, hD1⟩ := hB
  rw [ht] at hP1
  exact K r u hp H1 locs1 ls hP1 (hD1.weaken (fun _ q _ h => wA (D := D) hD hS G.2.2.2.2.2.2.1 _ h)) hS1 hl
theorem j_calld (G : GX p s m args c cc nL own D cA A) {post : UInt64 → va_W → Prop} {mc ms : Nat} {st0 : List Value} {a : Array Value}
    (hr : ∀ (H : Heap) (locs : List Loc) (ls : Array Slot), va_P D CL w H → va_D A w → va_S A s.heap H locs → lv_has ls nL lv → va_Run p l e R s m args below meth c H locs k n mc ms (F0 m pc ls st0) st (va_Qd post (PO D cA (va_A w H.size)) (va_A w H.size) a) (va_A w H.size))
    (K : ∀ (r : UInt64) (w' : va_W), post r w' → J p l e R s m args below meth c nL D A w' (k + mc) (n + ms) Q (pc + 3) lv (.double r :: st)) : J p l e R s m args below meth c nL D A w k n Q (pc) lv st0 := by
  intro H locs ls hP hD hS hl
  refine va_calld (hr H locs ls hP hD hS hl) hS (fun q _ h => wA (D := D) hD hS G.2.2.2.2.2.2.1 q h) (wA (D := D) hD hS G.2.2.2.2.2.2.1) (fun r u t H1 locs1 ht hvm hp hB hz hk hS1 => ?_)
  obtain ⟨hP1, -, hD1⟩ := hB
  rw [ht] at hP1
  exact K r u hp H1 locs1 ls hP1 (hD1.weaken (fun _ q _ h => wA (D := D) hD hS G.2.2.2.2.2.2.1 _ h)) hS1 hl
theorem j_callv (G : GX p s m args c cc nL own D cA A) {post : va_W → Prop} {mc ms : Nat} {st0 : List Value} {a : Array Value}
    (hr : ∀ (H : Heap) (locs : List Loc) (ls : Array Slot), va_P D CL w H → va_D A w → va_S A s.heap H locs → lv_has ls nL lv → va_Run p l e R s m args below meth c H locs k n mc ms (F0 m pc ls st0) st (va_Qv post (PO D cA (va_A w H.size)) (va_A w H.size) a) (va_A w H.size))
    (K : ∀ (w' : va_W), post w' → J p l e R s m args below meth c nL D A w' (k + mc) (n + ms) Q (pc + 3) lv st) : J p l e R s m args below meth c nL D A w k n Q (pc) lv st0 := by
  intro H locs ls hP hD hS hl
  refine va_callv (hr H locs ls hP hD hS hl) hS (fun q _ h => wA (D := D) hD hS G.2.2.2.2.2.2.1 q h) (wA (D := D) hD hS G.2.2.2.2.2.2.1) (fun u t H1 locs1 ht hvm hp hB hz hk hS1 => ?_)
  obtain ⟨hP1, -, hD1⟩ := hB
  rw [ht] at hP1
  exact K u hp H1 locs1 ls hP1 (hD1.weaken (fun _ q _ h => wA (D := D) hD hS G.2.2.2.2.2.2.1 _ h)) hS1 hl
abbrev RM (f lo mc ms : Nat) : Room := { frames := f, cells := mc, slots := ms, locals := lo }
abbrev Ki (l : Launch) (y : MethodName) (b : ByteArray) (maxL : Nat) (rt : FieldType) (f lo mc ms : Nat) (D : va_G) (cA : Nat → ClassId) (av : List Value) (w : va_W) (post : Int32 → va_W → Prop) : Prop := ∀ sz : Nat, Met l y (wz y b maxL (some rt)) (RM f lo mc ms) (va_Pc av (PR D cA w sz)) (va_Qi post (PO D cA (va_A w sz)) (va_A w sz)) mc ms (va_A w sz)
abbrev Kl (l : Launch) (y : MethodName) (b : ByteArray) (maxL : Nat) (f lo mc ms : Nat) (D : va_G) (cA : Nat → ClassId) (av : List Value) (w : va_W) (post : Int64 → va_W → Prop) : Prop := ∀ sz : Nat, Met l y (wz y b maxL (some .long)) (RM f lo mc ms) (va_Pc av (PR D cA w sz)) (va_Ql post (PO D cA (va_A w sz)) (va_A w sz)) mc ms (va_A w sz)
abbrev Kf (l : Launch) (y : MethodName) (b : ByteArray) (maxL : Nat) (f lo mc ms : Nat) (D : va_G) (cA : Nat → ClassId) (av : List Value) (w : va_W) (post : UInt32 → va_W → Prop) : Prop := ∀ sz : Nat, Met l y (wz y b maxL (some .float)) (RM f lo mc ms) (va_Pc av (PR D cA w sz)) (va_Qf post (PO D cA (va_A w sz)) (va_A w sz)) mc ms (va_A w sz)
abbrev Kd (l : Launch) (y : MethodName) (b : ByteArray) (maxL : Nat) (f lo mc ms : Nat) (D : va_G) (cA : Nat → ClassId) (av : List Value) (w : va_W) (post : UInt64 → va_W → Prop) : Prop := ∀ sz : Nat, Met l y (wz y b maxL (some .double)) (RM f lo mc ms) (va_Pc av (PR D cA w sz)) (va_Qd post (PO D cA (va_A w sz)) (va_A w sz)) mc ms (va_A w sz)
abbrev Kv (l : Launch) (y : MethodName) (b : ByteArray) (maxL : Nat) (f lo mc ms : Nat) (D : va_G) (cA : Nat → ClassId) (av : List Value) (w : va_W) (post : va_W → Prop) : Prop := ∀ sz : Nat, Met l y (wz y b maxL none) (RM f lo mc ms) (va_Pc av (PR D cA w sz)) (va_Qv post (PO D cA (va_A w sz)) (va_A w sz)) mc ms (va_A w sz)
theorem jV_i (G : GX p s m args c cc nL own D cA A) {C : String} {index n2 maxL f lo mc ms : Nat} {y : MethodName} {b : ByteArray} {a : Nat} {As st0 : List Value} {fs : List Value} {cl1 : u_T} {cl2 : Nat} {rt : FieldType} {post : Int32 → va_W → Prop} (ci q0 : Nat) (hM : Ki l y b maxL rt f lo mc ms D cA (.ref a :: As) w post) (g : GoodIn WS (wsV own index C y (wz y b maxL (some rt)))) (hd : y.cls = C ∧ y.cls ≠ "java/lang/invoke/MethodHandle" ∧ y.cls ≠ "java/lang/invoke/VarHandle" ∧ (parseMethodDescriptor y.desc).map (fun d => d.parameters.length) = some n2) (hR : f + 1 ≤ R.frames ∧ 8 + (maxL + 11) + lo ≤ R.locals) (hf : k + mc ≤ R.cells ∧ n + ms ≤ R.slots) (hn : As.length = n2) (hst : st0 = As.reverse ++ .ref a :: st) (hcat : (st.map fun v => v.category).sum ≤ 8) (hc : CL[ci]? = some (C, cl1, cl2)) (he : w[q0]? = some (a, .inr (ci, fs))) (hdg : decode cc pc = .ok (.invokevirtual index, 3)) (K : ∀ (r : Int32) (w' : va_W), post r w' → J p l e R s m args below meth c nL D A w' (k + mc) (n + ms) Q (pc + 3) lv (.int r :: st)) : J p l e R s m args below meth c nL D A w k n Q (pc) lv st0 :=
  j_calli G (fun H locs ls hP hD hS hl => r_V (Qc := (fun sz => va_Qi post (PO D cA (va_A w sz)) (va_A w sz))) G hM g ⟨rfl, rfl⟩ hd hR hf hn hst hcat hc he hdg hP hD hS hl) K
theorem jS_i (G : GX p s m args c cc nL own D cA A) {index n2 maxL f lo mc ms : Nat} {y : MethodName} {b : ByteArray} {As st0 : List Value} {rt : FieldType} {post : Int32 → va_W → Prop} (hM : Ki l y b maxL rt f lo mc ms D cA As w post) (g : GoodIn WS (va_wsS own index y (wz y b maxL (some rt)))) (hd : y.cls ≠ "java/lang/invoke/MethodHandle" ∧ y.cls ≠ "java/lang/invoke/VarHandle" ∧ (parseMethodDescriptor y.desc).map (fun d => d.parameters.length) = some n2) (hR : f + 1 ≤ R.frames ∧ 8 + (maxL + 11) + lo ≤ R.locals) (hf : k + mc ≤ R.cells ∧ n + ms ≤ R.slots) (hn : As.length = n2) (hst : st0 = As.reverse ++ st) (hcat : (st.map fun v => v.category).sum ≤ 8) (hdg : decode cc pc = .ok (.invokestatic index, 3)) (K : ∀ (r : Int32) (w' : va_W), post r w' → J p l e R s m args below meth c nL D A w' (k + mc) (n + ms) Q (pc + 3) lv (.int r :: st)) : J p l e R s m args below meth c nL D A w k n Q (pc) lv st0 :=
  j_calli G (fun H locs ls hP hD hS hl => r_S (Qc := (fun sz => va_Qi post (PO D cA (va_A w sz)) (va_A w sz))) G hM g ⟨rfl, rfl⟩ hd hR hf hn hst hcat hdg hP hD hS hl) K
theorem jV_l (G : GX p s m args c cc nL own D cA A) {C : String} {index n2 maxL f lo mc ms : Nat} {y : MethodName} {b : ByteArray} {a : Nat} {As st0 : List Value} {fs : List Value} {cl1 : u_T} {cl2 : Nat} {post : Int64 → va_W → Prop} (ci q0 : Nat) (hM : Kl l y b maxL f lo mc ms D cA (.ref a :: As) w post) (g : GoodIn WS (wsV own index C y (wz y b maxL (some .long)))) (hd : y.cls = C ∧ y.cls ≠ "java/lang/invoke/MethodHandle" ∧ y.cls ≠ "java/lang/invoke/VarHandle" ∧ (parseMethodDescriptor y.desc).map (fun d => d.parameters.length) = some n2) (hR : f + 1 ≤ R.frames ∧ 8 + (maxL + 11) + lo ≤ R.locals) (hf : k + mc ≤ R.cells ∧ n + ms ≤ R.slots) (hn : As.length = n2) (hst : st0 = As.reverse ++ .ref a :: st) (hcat : (st.map fun v => v.category).sum ≤ 8) (hc : CL[ci]? = some (C, cl1, cl2)) (he : w[q0]? = some (a, .inr (ci, fs))) (hdg : decode cc pc = .ok (.invokevirtual index, 3)) (K : ∀ (r : Int64) (w' : va_W), post r w' → J p l e R s m args below meth c nL D A w' (k + mc) (n + ms) Q (pc + 3) lv (.long r :: st)) : J p l e R s m args below meth c nL D A w k n Q (pc) lv st0 :=
  j_calll G (fun H locs ls hP hD hS hl => r_V (Qc := (fun sz => va_Ql post (PO D cA (va_A w sz)) (va_A w sz))) G hM g ⟨rfl, rfl⟩ hd hR hf hn hst hcat hc he hdg hP hD hS hl) K
theorem jS_l (G : GX p s m args c cc nL own D cA A) {index n2 maxL f lo mc ms : Nat} {y : MethodName} {b : ByteArray} {As st0 : List Value} {post : Int64 → va_W → Prop} (hM : Kl l y b maxL f lo mc ms D cA As w post) (g : GoodIn WS (va_wsS own index y (wz y b maxL (some .long)))) (hd : y.cls ≠ "java/lang/invoke/MethodHandle" ∧ y.cls ≠ "java/lang/invoke/VarHandle" ∧ (parseMethodDescriptor y.desc).map (fun d => d.parameters.length) = some n2) (hR : f + 1 ≤ R.frames ∧ 8 + (maxL + 11) + lo ≤ R.locals) (hf : k + mc ≤ R.cells ∧ n + ms ≤ R.slots) (hn : As.length = n2) (hst : st0 = As.reverse ++ st) (hcat : (st.map fun v => v.category).sum ≤ 8) (hdg : decode cc pc = .ok (.invokestatic index, 3)) (K : ∀ (r : Int64) (w' : va_W), post r w' → J p l e R s m args below meth c nL D A w' (k + mc) (n + ms) Q (pc + 3) lv (.long r :: st)) : J p l e R s m args below meth c nL D A w k n Q (pc) lv st0 :=
  j_calll G (fun H locs ls hP hD hS hl => r_S (Qc := (fun sz => va_Ql post (PO D cA (va_A w sz)) (va_A w sz))) G hM g ⟨rfl, rfl⟩ hd hR hf hn hst hcat hdg hP hD hS hl) K
theorem jV_f (G : GX p s m args c cc nL own D cA A) {C : String} {index n2 maxL f lo mc ms : Nat} {y : MethodName} {b : ByteArray} {a : Nat} {As st0 : List Value} {fs : List Value} {cl1 : u_T} {cl2 : Nat} {post : UInt32 → va_W → Prop} (ci q0 : Nat) (hM : Kf l y b maxL f lo mc ms D cA (.ref a :: As) w post) (g : GoodIn WS (wsV own index C y (wz y b maxL (some .float)))) (hd : y.cls = C ∧ y.cls ≠ "java/lang/invoke/MethodHandle" ∧ y.cls ≠ "java/lang/invoke/VarHandle" ∧ (parseMethodDescriptor y.desc).map (fun d => d.parameters.length) = some n2) (hR : f + 1 ≤ R.frames ∧ 8 + (maxL + 11) + lo ≤ R.locals) (hf : k + mc ≤ R.cells ∧ n + ms ≤ R.slots) (hn : As.length = n2) (hst : st0 = As.reverse ++ .ref a :: st) (hcat : (st.map fun v => v.category).sum ≤ 8) (hc : CL[ci]? = some (C, cl1, cl2)) (he : w[q0]? = some (a, .inr (ci, fs))) (hdg : decode cc pc = .ok (.invokevirtual index, 3)) (K : ∀ (r : UInt32) (w' : va_W), post r w' → J p l e R s m args below meth c nL D A w' (k + mc) (n + ms) Q (pc + 3) lv (.float r :: st)) : J p l e R s m args below meth c nL D A w k n Q (pc) lv st0 :=
  j_callf G (fun H locs ls hP hD hS hl => r_V (Qc := (fun sz => va_Qf post (PO D cA (va_A w sz)) (va_A w sz))) G hM g ⟨rfl, rfl⟩ hd hR hf hn hst hcat hc he hdg hP hD hS hl) K
theorem jS_f (G : GX p s m args c cc nL own D cA A) {index n2 maxL f lo mc ms : Nat} {y : MethodName} {b : ByteArray} {As st0 : List Value} {post : UInt32 → va_W → Prop} (hM : Kf l y b maxL f lo mc ms D cA As w post) (g : GoodIn WS (va_wsS own index y (wz y b maxL (some .float)))) (hd : y.cls ≠ "java/lang/invoke/MethodHandle" ∧ y.cls ≠ "java/lang/invoke/VarHandle" ∧ (parseMethodDescriptor y.desc).map (fun d => d.parameters.length) = some n2) (hR : f + 1 ≤ R.frames ∧ 8 + (maxL + 11) + lo ≤ R.locals) (hf : k + mc ≤ R.cells ∧ n + ms ≤ R.slots) (hn : As.length = n2) (hst : st0 = As.reverse ++ st) (hcat : (st.map fun v => v.category).sum ≤ 8) (hdg : decode cc pc = .ok (.invokestatic index, 3)) (K : ∀ (r : UInt32) (w' : va_W), post r w' → J p l e R s m args below meth c nL D A w' (k + mc) (n + ms) Q (pc + 3) lv (.float r :: st)) : J p l e R s m args below meth c nL D A w k n Q (pc) lv st0 :=
  j_callf G (fun H locs ls hP hD hS hl => r_S (Qc := (fun sz => va_Qf post (PO D cA (va_A w sz)) (va_A w sz))) G hM g ⟨rfl, rfl⟩ hd hR hf hn hst hcat hdg hP hD hS hl) K
theorem jV_d (G : GX p s m args c cc nL own D cA A) {C : String} {index n2 maxL f lo mc ms : Nat} {y : MethodName} {b : ByteArray} {a : Nat} {As st0 : List Value} {fs : List Value} {cl1 : u_T} {cl2 : Nat} {post : UInt64 → va_W → Prop} (ci q0 : Nat) (hM : Kd l y b maxL f lo mc ms D cA (.ref a :: As) w post) (g : GoodIn WS (wsV own index C y (wz y b maxL (some .double)))) (hd : y.cls = C ∧ y.cls ≠ "java/lang/invoke/MethodHandle" ∧ y.cls ≠ "java/lang/invoke/VarHandle" ∧ (parseMethodDescriptor y.desc).map (fun d => d.parameters.length) = some n2) (hR : f + 1 ≤ R.frames ∧ 8 + (maxL + 11) + lo ≤ R.locals) (hf : k + mc ≤ R.cells ∧ n + ms ≤ R.slots) (hn : As.length = n2) (hst : st0 = As.reverse ++ .ref a :: st) (hcat : (st.map fun v => v.category).sum ≤ 8) (hc : CL[ci]? = some (C, cl1, cl2)) (he : w[q0]? = some (a, .inr (ci, fs))) (hdg : decode cc pc = .ok (.invokevirtual index, 3)) (K : ∀ (r : UInt64) (w' : va_W), post r w' → J p l e R s m args below meth c nL D A w' (k + mc) (n + ms) Q (pc + 3) lv (.double r :: st)) : J p l e R s m args below meth c nL D A w k n Q (pc) lv st0 :=
  j_calld G (fun H locs ls hP hD hS hl => r_V (Qc := (fun sz => va_Qd post (PO D cA (va_A w sz)) (va_A w sz))) G hM g ⟨rfl, rfl⟩ hd hR hf hn hst hcat hc he hdg hP hD hS hl) K
theorem jS_d (G : GX p s m args c cc nL own D cA A) {index n2 maxL f lo mc ms : Nat} {y : MethodName} {b : ByteArray} {As st0 : List Value} {post : UInt64 → va_W → Prop} (hM : Kd l y b maxL f lo mc ms D cA As w post) (g : GoodIn WS (va_wsS own index y (wz y b maxL (some .double)))) (hd : y.cls ≠ "java/lang/invoke/MethodHandle" ∧ y.cls ≠ "java/lang/invoke/VarHandle" ∧ (parseMethodDescriptor y.desc).map (fun d => d.parameters.length) = some n2) (hR : f + 1 ≤ R.frames ∧ 8 + (maxL + 11) + lo ≤ R.locals) (hf : k + mc ≤ R.cells ∧ n + ms ≤ R.slots) (hn : As.length = n2) (hst : st0 = As.reverse ++ st) (hcat : (st.map fun v => v.category).sum ≤ 8) (hdg : decode cc pc = .ok (.invokestatic index, 3)) (K : ∀ (r : UInt64) (w' : va_W), post r w' → J p l e R s m args below meth c nL D A w' (k + mc) (n + ms) Q (pc + 3) lv (.double r :: st)) : J p l e R s m args below meth c nL D A w k n Q (pc) lv st0 :=
  j_calld G (fun H locs ls hP hD hS hl => r_S (Qc := (fun sz => va_Qd post (PO D cA (va_A w sz)) (va_A w sz))) G hM g ⟨rfl, rfl⟩ hd hR hf hn hst hcat hdg hP hD hS hl) K
theorem jV_v (G : GX p s m args c cc nL own D cA A) {C : String} {index n2 maxL f lo mc ms : Nat} {y : MethodName} {b : ByteArray} {a : Nat} {As st0 : List Value} {fs : List Value} {cl1 : u_T} {cl2 : Nat} {post : va_W → Prop} (ci q0 : Nat) (hM : Kv l y b maxL f lo mc ms D cA (.ref a :: As) w post) (g : GoodIn WS (wsV own index C y (wz y b maxL none))) (hd : y.cls = C ∧ y.cls ≠ "java/lang/invoke/MethodHandle" ∧ y.cls ≠ "java/lang/invoke/VarHandle" ∧ (parseMethodDescriptor y.desc).map (fun d => d.parameters.length) = some n2) (hR : f + 1 ≤ R.frames ∧ 8 + (maxL + 11) + lo ≤ R.locals) (hf : k + mc ≤ R.cells ∧ n + ms ≤ R.slots) (hn : As.length = n2) (hst : st0 = As.reverse ++ .ref a :: st) (hcat : (st.map fun v => v.category).sum ≤ 8) (hc : CL[ci]? = some (C, cl1, cl2)) (he : w[q0]? = some (a, .inr (ci, fs))) (hdg : decode cc pc = .ok (.invokevirtual index, 3)) (K : ∀ (w' : va_W), post w' → J p l e R s m args below meth c nL D A w' (k + mc) (n + ms) Q (pc + 3) lv st) : J p l e R s m args below meth c nL D A w k n Q (pc) lv st0 :=
  j_callv G (fun H locs ls hP hD hS hl => r_V (Qc := (fun sz => va_Qv post (PO D cA (va_A w sz)) (va_A w sz))) G hM g ⟨rfl, rfl⟩ hd hR hf hn hst hcat hc he hdg hP hD hS hl) K
theorem jS_v (G : GX p s m args c cc nL own D cA A) {index n2 maxL f lo mc ms : Nat} {y : MethodName} {b : ByteArray} {As st0 : List Value} {post : va_W → Prop} (hM : Kv l y b maxL f lo mc ms D cA As w post) (g : GoodIn WS (va_wsS own index y (wz y b maxL none))) (hd : y.cls ≠ "java/lang/invoke/MethodHandle" ∧ y.cls ≠ "java/lang/invoke/VarHandle" ∧ (parseMethodDescriptor y.desc).map (fun d => d.parameters.length) = some n2) (hR : f + 1 ≤ R.frames ∧ 8 + (maxL + 11) + lo ≤ R.locals) (hf : k + mc ≤ R.cells ∧ n + ms ≤ R.slots) (hn : As.length = n2) (hst : st0 = As.reverse ++ st) (hcat : (st.map fun v => v.category).sum ≤ 8) (hdg : decode cc pc = .ok (.invokestatic index, 3)) (K : ∀ (w' : va_W), post w' → J p l e R s m args below meth c nL D A w' (k + mc) (n + ms) Q (pc + 3) lv st) : J p l e R s m args below meth c nL D A w k n Q (pc) lv st0 :=
  j_callv G (fun H locs ls hP hD hS hl => r_S (Qc := (fun sz => va_Qv post (PO D cA (va_A w sz)) (va_A w sz))) G hM g ⟨rfl, rfl⟩ hd hR hf hn hst hcat hdg hP hD hS hl) K
theorem jSN_i (G : GX p s m args c cc nL own D cA A) {host : String} {index n2 maxL f lo mc ms : Nat} {y : MethodName} {b : ByteArray} {As st0 : List Value} {rt : FieldType} {post : Int32 → va_W → Prop} (hM : Ki l y b maxL rt f lo mc ms D cA As w post) (h1 : Cond.methodLinkNest own index y host ∈ NWL) (h2 : Cond.static y ∈ WS) (h3 : Cond.initialized y.cls ∈ WS) (h4 : Cond.code y b maxL (some rt) ∈ WS) (hd : y.cls ≠ "java/lang/invoke/MethodHandle" ∧ y.cls ≠ "java/lang/invoke/VarHandle" ∧ (parseMethodDescriptor y.desc).map (fun d => d.parameters.length) = some n2) (hR : f + 1 ≤ R.frames ∧ 8 + (maxL + 11) + lo ≤ R.locals) (hf : k + mc ≤ R.cells ∧ n + ms ≤ R.slots) (hn : As.length = n2) (hst : st0 = As.reverse ++ st) (hcat : (st.map fun v => v.category).sum ≤ 8) (hdg : decode cc pc = .ok (.invokestatic index, 3)) (K : ∀ (r : Int32) (w' : va_W), post r w' → J p l e R s m args below meth c nL D A w' (k + mc) (n + ms) Q (pc + 3) lv (.int r :: st)) : J p l e R s m args below meth c nL D A w k n Q (pc) lv st0 :=
  j_calli G (fun H locs ls hP hD hS hl => r_SN (Qc := (fun sz => va_Qi post (PO D cA (va_A w sz)) (va_A w sz))) G hM h1 h2 h3 h4 ⟨rfl, rfl⟩ hd hR hf hn hst hcat hdg hP hD hS hl) K
theorem jI_v (G : GX p s m args c cc nL own D cA A) {index n2 maxL f lo mc ms : Nat} {y : MethodName} {b : ByteArray} {a : Nat} {As st0 : List Value} {post : va_W → Prop} (hM : Kv l y b maxL f lo mc ms D cA (.ref a :: As) w post) (h1 : Cond.methodLink own index y ∈ WS) (h2 : Cond.instanceMethod y ∈ WS) (h3 : Cond.initialized y.cls ∈ WS) (h4 : Cond.code y b maxL none ∈ WS) (hy : y.name = "<init>") (hd : y.cls ≠ "java/lang/invoke/MethodHandle" ∧ y.cls ≠ "java/lang/invoke/VarHandle" ∧ (parseMethodDescriptor y.desc).map (fun d => d.parameters.length) = some n2) (hR : f + 1 ≤ R.frames ∧ 8 + (maxL + 11) + lo ≤ R.locals) (hf : k + mc ≤ R.cells ∧ n + ms ≤ R.slots) (hn : As.length = n2) (hst : st0 = As.reverse ++ .ref a :: st) (hcat : (st.map fun v => v.category).sum ≤ 8) (hdg : decode cc pc = .ok (.invokespecial index, 3)) (K : ∀ (w' : va_W), post w' → J p l e R s m args below meth c nL D A w' (k + mc) (n + ms) Q (pc + 3) lv st) : J p l e R s m args below meth c nL D A w k n Q (pc) lv st0 :=
  j_callv G (fun H locs ls hP hD hS hl => r_I (Qc := (fun sz => va_Qv post (PO D cA (va_A w sz)) (va_A w sz))) G hM h1 h2 h3 h4 hy ⟨rfl, rfl⟩ hd hR hf hn hst hcat hdg hP hD hS hl) K
theorem jIN_v (G : GX p s m args c cc nL own D cA A) {host : String} {index n2 maxL f lo mc ms : Nat} {y : MethodName} {b : ByteArray} {a : Nat} {As st0 : List Value} {post : va_W → Prop} (hM : Kv l y b maxL f lo mc ms D cA (.ref a :: As) w post) (h1 : Cond.methodLinkNest own index y host ∈ NWL) (h2 : Cond.instanceMethod y ∈ WS) (h3 : Cond.initialized y.cls ∈ WS) (h4 : Cond.code y b maxL none ∈ WS) (hy : y.name = "<init>") (hd : y.cls ≠ "java/lang/invoke/MethodHandle" ∧ y.cls ≠ "java/lang/invoke/VarHandle" ∧ (parseMethodDescriptor y.desc).map (fun d => d.parameters.length) = some n2) (hR : f + 1 ≤ R.frames ∧ 8 + (maxL + 11) + lo ≤ R.locals) (hf : k + mc ≤ R.cells ∧ n + ms ≤ R.slots) (hn : As.length = n2) (hst : st0 = As.reverse ++ .ref a :: st) (hcat : (st.map fun v => v.category).sum ≤ 8) (hdg : decode cc pc = .ok (.invokespecial index, 3)) (K : ∀ (w' : va_W), post w' → J p l e R s m args below meth c nL D A w' (k + mc) (n + ms) Q (pc + 3) lv st) : J p l e R s m args below meth c nL D A w k n Q (pc) lv st0 :=
  j_callv G (fun H locs ls hP hD hS hl => r_IN (Qc := (fun sz => va_Qv post (PO D cA (va_A w sz)) (va_A w sz))) G hM h1 h2 h3 h4 hy ⟨rfl, rfl⟩ hd hR hf hn hst hcat hdg hP hD hS hl) K
theorem ent_i {y : MethodName} {b : ByteArray} {maxL f lo mc ms : Nat} {rt : FieldType} {av : List Value} {post : Int32 → va_W → Prop} {lv0 : List (Nat × Value)} (hy : plainName y.cls = true) (hown9 : y.cls = own) (hlen : (lg_sl av).length ≤ maxL) (hlv : lv_args 0 av = lv0)
    (body : ∀ (p : Program) (e : Env) (s : State) (m : MethodId) (args : Array Value) (below : List Frame) (meth : Method) (c : Code) (A : Nat → Prop) (Q : State → Prop), GX p s m args c b maxL own D cA A → meth.name = y.name → (∀ (r : Int32) (w' : va_W) (pc : Nat) (lv : List (Nat × Value)), decode b pc = .ok (.ireturn, 1) → narrow rt (.int r) = .int r → post r w' → J p l e (RM f lo mc ms) s m args below meth c maxL D A w' mc ms Q pc lv [.int r]) → J p l e (RM f lo mc ms) s m args below meth c maxL D A w 0 0 Q 0 lv0 []) : Ki l y b maxL rt f lo mc ms D cA av w post := by
  intro sz
  refine Met.ofW (cc := b) (maxL := maxL) (ret := (some rt)) hy rfl ?_
  intro p e s m args below meth c s₁ B hml hv
  obtain ⟨rfl, hsz, hP, hK, hD0, hE⟩ := hv
  subst hsz
  have hts := atoms_spec (ws := wz y b maxL (some rt)) B.pre
  have hD : va_D (va_A w s.heap.size) w := hD0.self
  rw [lg_entry_eq]
  exact body p e s m _ below meth c (va_A w s.heap.size) _ ⟨B.exec, B.bytes, hml, by rw [← hown9]; exact findClass_of_methodNamed B.named, fun w h => hts w (List.mem_cons_of_mem _ h), hK, fun q h => Or.inr h, hE⟩ (name_of_methodNamed B.named B.method).1
    (fun r w9 pc lv hd hn hp H locs ls hP hD hS hl => W.zret (ty := rt) B.exec B.bytes B.returns hn (fun t ht hW => ⟨⟨r, w9, rfl, hp, by rw [ht]; exact hP, va_K.moved hW.alike hK, hD⟩, hS.F ht⟩) hS.2.2 hd) s.heap [] _ hP hD va_S.rf (by rw [← hlv]; exact lv_entry av hlen)
theorem ent_l {y : MethodName} {b : ByteArray} {maxL f lo mc ms : Nat} {av : List Value} {post : Int64 → va_W → Prop} {lv0 : List (Nat × Value)} (hy : plainName y.cls = true) (hown9 : y.cls = own) (hlen : (lg_sl av).length ≤ maxL) (hlv : lv_args 0 av = lv0)
    (body : ∀ (p : Program) (e : Env) (s : State) (m : MethodId) (args : Array Value) (below : List Frame) (meth : Method) (c : Code) (A : Nat → Prop) (Q : State → Prop), GX p s m args c b maxL own D cA A → meth.name = y.name → (∀ (r : Int64) (w' : va_W) (pc : Nat) (lv : List (Nat × Value)), decode b pc = .ok (.lreturn, 1) → post r w' → J p l e (RM f lo mc ms) s m args below meth c maxL D A w' mc ms Q pc lv [.long r]) → J p l e (RM f lo mc ms) s m args below meth c maxL D A w 0 0 Q 0 lv0 []) : Kl l y b maxL f lo mc ms D cA av w post := by
  intro sz
  refine Met.ofW (cc := b) (maxL := maxL) (ret := (some .long)) hy rfl ?_
  intro p e s m args below meth c s₁ B hml hv
  obtain ⟨rfl, hsz, hP, hK, hD0, hE⟩ := hv
  subst hsz
  have hts := atoms_spec (ws := wz y b maxL (some .long)) B.pre
  have hD : va_D (va_A w s.heap.size) w := hD0.self
  rw [lg_entry_eq]
  exact body p e s m _ below meth c (va_A w s.heap.size) _ ⟨B.exec, B.bytes, hml, by rw [← hown9]; exact findClass_of_methodNamed B.named, fun w h => hts w (List.mem_cons_of_mem _ h), hK, fun q h => Or.inr h, hE⟩ (name_of_methodNamed B.named B.method).1
    (fun r w9 pc lv hd hp H locs ls hP hD hS hl => W.lret B.exec B.bytes B.returns (fun t ht hW => ⟨⟨r, w9, rfl, hp, by rw [ht]; exact hP, va_K.moved hW.alike hK, hD⟩, hS.F ht⟩) hS.2.2 hd) s.heap [] _ hP hD va_S.rf (by rw [← hlv]; exact lv_entry av hlen)
theorem ent_v {y : MethodName} {b : ByteArray} {maxL f lo mc ms : Nat} {av : List Value} {post : va_W → Prop} {lv0 : List (Nat × Value)} (hy : plainName y.cls = true) (hown9 : y.cls = own) (hlen : (lg_sl av).length ≤ maxL) (hlv : lv_args 0 av = lv0)
    (body : ∀ (p : Program) (e : Env) (s : State) (m : MethodId) (args : Array Value) (below : List Frame) (meth : Method) (c : Code) (A : Nat → Prop) (Q : State → Prop), GX p s m args c b maxL own D cA A → meth.name = y.name → (∀ (w' : va_W) (pc : Nat) (lv : List (Nat × Value)), decode b pc = .ok (.return_, 1) → post w' → J p l e (RM f lo mc ms) s m args below meth c maxL D A w' mc ms Q pc lv []) → J p l e (RM f lo mc ms) s m args below meth c maxL D A w 0 0 Q 0 lv0 []) : Kv l y b maxL f lo mc ms D cA av w post := by
  intro sz
  refine Met.ofW (cc := b) (maxL := maxL) (ret := none) hy rfl ?_
  intro p e s m args below meth c s₁ B hml hv
  obtain ⟨rfl, hsz, hP, hK, hD0, hE⟩ := hv
  subst hsz
  have hts := atoms_spec (ws := wz y b maxL none) B.pre
  have hD : va_D (va_A w s.heap.size) w := hD0.self
  rw [lg_entry_eq]
  exact body p e s m _ below meth c (va_A w s.heap.size) _ ⟨B.exec, B.bytes, hml, by rw [← hown9]; exact findClass_of_methodNamed B.named, fun w h => hts w (List.mem_cons_of_mem _ h), hK, fun q h => Or.inr h, hE⟩ (name_of_methodNamed B.named B.method).1
    (fun w9 pc lv hd hp H locs ls hP hD hS hl => W.vret B.exec B.bytes B.returns (fun t ht hW => ⟨⟨w9, rfl, hp, by rw [ht]; exact hP, va_K.moved hW.alike hK, hD⟩, hS.F ht⟩) hS.2.2 hd) s.heap [] _ hP hD va_S.rf (by rw [← hlv]; exact lv_entry av hlen)
/-! exceptions: a callee that may throw -/
theorem rx_V (G : GX p s m args c cc nL own D cA A) {C : String} {index n2 maxL mc ms : Nat} {y : MethodName} {b : ByteArray} {rt : Option FieldType} {rm : Room} {a q0 ci : Nat} {As : List Value} {st0 : List Value} {Qc : Nat → Array Value → State → Outcome → State → Prop} {XC : Nat → String → State → State → Prop} {fs : List Value} {cl1 : u_T} {cl2 : Nat}
    (hM : ∀ sz, vx_Met l y (wz y b maxL rt) rm (va_Pc (.ref a :: As) (PR D cA w sz)) (Qc sz) (XC sz) mc ms (va_A w sz)) (g : GoodIn WS (wsV own index C y (wz y b maxL rt))) (hrm : rm.cells = mc ∧ rm.slots = ms) (hd : y.cls = C ∧ y.cls ≠ "java/lang/invoke/MethodHandle" ∧ y.cls ≠ "java/lang/invoke/VarHandle" ∧ (parseMethodDescriptor y.desc).map (fun d => d.parameters.length) = some n2)
    (hR : rm.frames + 1 ≤ R.frames ∧ 8 + (maxL + 11) + rm.locals ≤ R.locals) (hf : k + mc ≤ R.cells ∧ n + ms ≤ R.slots) (hn : As.length = n2) (hst : st0 = As.reverse ++ .ref a :: st) (hcat : (st.map fun v => v.category).sum ≤ 8) (hc : CL[ci]? = some (C, cl1, cl2)) (he : w[q0]? = some (a, .inr (ci, fs))) (hdg : decode cc pc = .ok (.invokevirtual index, 3))
    {H : Heap} {locs : List Loc} {ls : Array Slot} (hP : va_P D CL w H) (hD : va_D A w) (hS : va_S A s.heap H locs) (hl : lv_has ls nL lv) :
    vx_Run p l e R s m args below meth c H locs k n mc ms (F0 m pc ls st0) st (Qc H.size (Value.ref a :: As).toArray) (XC H.size) (va_A w H.size) :=
  vx_runV (As := As) (rest := st) ⟨G.1, G.2.1, G.2.2.1, G.2.2.2.1, G.2.2.2.2.1⟩ (hM H.size) (cwV n2 G.2.2.2.2.1 g rfl hrm.1 hrm.2 hd hR) ⟨PR_blind, va_recv G.2.2.2.2.2.1 hP hc he, fun U hU hW => ⟨rfl, PR_at G hP hD hS hU hW⟩⟩ rfl hn hl.1 hst (lv_room hcat) hdg hf
abbrev Xi (l : Launch) (y : MethodName) (b : ByteArray) (maxL : Nat) (rt : FieldType) (f lo mc ms : Nat) (D : va_G) (cA : Nat → ClassId) (av : List Value) (w : va_W) (post : Int32 → va_W → Prop) (px : String × va_W → Prop) : Prop := ∀ sz : Nat, vx_Met l y (wz y b maxL (some rt)) (RM f lo mc ms) (va_Pc av (PR D cA w sz)) (va_Qi post (PO D cA (va_A w sz)) (va_A w sz)) (vx_X px (PX D cA (va_A w sz)) (va_A w sz)) mc ms (va_A w sz)
abbrev Xv (l : Launch) (y : MethodName) (b : ByteArray) (maxL : Nat) (f lo mc ms : Nat) (D : va_G) (cA : Nat → ClassId) (av : List Value) (w : va_W) (post : va_W → Prop) (px : String × va_W → Prop) : Prop := ∀ sz : Nat, vx_Met l y (wz y b maxL none) (RM f lo mc ms) (va_Pc av (PR D cA w sz)) (va_Qv post (PO D cA (va_A w sz)) (va_A w sz)) (vx_X px (PX D cA (va_A w sz)) (va_A w sz)) mc ms (va_A w sz)
abbrev Xr (l : Launch) (y : MethodName) (b : ByteArray) (maxL : Nat) (rt : FieldType) (f lo mc ms : Nat) (D : va_G) (cA : Nat → ClassId) (av : List Value) (w : va_W) (post : Nat × va_W → Prop) (px : String × va_W → Prop) : Prop := ∀ sz : Nat, vx_Met l y (wz y b maxL (some rt)) (RM f lo mc ms) (va_Pc av (PR D cA w sz)) (va_Qr post (fun u a t => u.1 = a ∧ PO D cA (va_A w sz) u.2 t) (va_A w sz)) (vx_X px (PX D cA (va_A w sz)) (va_A w sz)) mc ms (va_A w sz)
theorem jx_calli (G : GX p s m args c cc nL own D cA A) {post : Int32 → va_W → Prop} {px : String × va_W → Prop} {mc ms : Nat} {st0 : List Value} {arr : Array Value}
    (hr : ∀ (H : Heap) (locs : List Loc) (ls : Array Slot), va_P D CL w H → va_D A w → va_S A s.heap H locs → lv_has ls nL lv → vx_Run p l e R s m args below meth c H locs k n mc ms (F0 m pc ls st0) st (va_Qi post (PO D cA (va_A w H.size)) (va_A w H.size) arr) (vx_X px (PX D cA (va_A w H.size)) (va_A w H.size)) (va_A w H.size))
    (KX : ∀ (E : String) (w' : va_W), px (E, w') → JX p l e R s m args below meth c nL D A w' (k + mc) (n + ms) Q pc lv st E) (K : ∀ (r : Int32) (w' : va_W), post r w' → J p l e R s m args below meth c nL D A w' (k + mc) (n + ms) Q (pc + 3) lv (.int r :: st)) : J p l e R s m args below meth c nL D A w k n Q (pc) lv st0 := by
  intro H locs ls hP hD hS hl
  refine vx_calli (hr H locs ls hP hD hS hl) hS (fun q _ h => wA (D := D) hD hS G.2.2.2.2.2.2.1 q h) (wA (D := D) hD hS G.2.2.2.2.2.2.1) (fun q _ h => wA (D := D) hD hS G.2.2.2.2.2.2.1 q h) (fun E ce q u t H1 locs1 ht hvm hp hB hz hk hS1 hce hcv hcl => ?_) (fun r u t H1 locs1 ht hvm hp hB hz hk hS1 => ?_)
  · obtain ⟨hE, hP1, -, hD1⟩ := hB
    rw [ht] at hP1
    obtain ⟨E9, w9⟩ := u
    have hE : E = E9 := hE
    subst hE
    exact KX E w9 hp H1 locs1 ls q ce hP1 (hD1.weaken (fun _ q _ h => wA (D := D) hD hS G.2.2.2.2.2.2.1 _ h)) hS1 hl hce hcv hcl
  · obtain ⟨hP1, -, hD1⟩ := hB
    rw [ht] at hP1
    exact K r u hp H1 locs1 ls hP1 (hD1.weaken (fun _ q _ h => wA (D := D) hD hS G.2.2.2.2.2.2.1 _ h)) hS1 hl
theorem jXV_i (G : GX p s m args c cc nL own D cA A) {C : String} {index n2 maxL f lo mc ms : Nat} {y : MethodName} {b : ByteArray} {a : Nat} {As st0 : List Value} {fs : List Value} {cl1 : u_T} {cl2 : Nat} {rt : FieldType} {post : Int32 → va_W → Prop} {px : String × va_W → Prop} (ci q0 : Nat) (hM : Xi l y b maxL rt f lo mc ms D cA (.ref a :: As) w post px) (g : GoodIn WS (wsV own index C y (wz y b maxL (some rt)))) (hd : y.cls = C ∧ y.cls ≠ "java/lang/invoke/MethodHandle" ∧ y.cls ≠ "java/lang/invoke/VarHandle" ∧ (parseMethodDescriptor y.desc).map (fun d => d.parameters.length) = some n2) (hR : f + 1 ≤ R.frames ∧ 8 + (maxL + 11) + lo ≤ R.locals) (hf : k + mc ≤ R.cells ∧ n + ms ≤ R.slots) (hn : As.length = n2) (hst : st0 = As.reverse ++ .ref a :: st) (hcat : (st.map fun v => v.category).sum ≤ 8) (hc : CL[ci]? = some (C, cl1, cl2)) (he : w[q0]? = some (a, .inr (ci, fs))) (hdg : decode cc pc = .ok (.invokevirtual index, 3)) (KX : ∀ (E : String) (w' : va_W), px (E, w') → JX p l e R s m args below meth c nL D A w' (k + mc) (n + ms) Q pc lv st E) (K : ∀ (r : Int32) (w' : va_W), post r w' → J p l e R s m args below meth c nL D A w' (k + mc) (n + ms) Q (pc + 3) lv (.int r :: st)) : J p l e R s m args below meth c nL D A w k n Q (pc) lv st0 :=
  jx_calli G (fun H locs ls hP hD hS hl => rx_V (Qc := (fun sz => va_Qi post (PO D cA (va_A w sz)) (va_A w sz))) (XC := fun sz => vx_X px (PX D cA (va_A w sz)) (va_A w sz)) G hM g ⟨rfl, rfl⟩ hd hR hf hn hst hcat hc he hdg hP hD hS hl) KX K
theorem jx_callv (G : GX p s m args c cc nL own D cA A) {post : va_W → Prop} {px : String × va_W → Prop} {mc ms : Nat} {st0 : List Value} {arr : Array Value}
    (hr : ∀ (H : Heap) (locs : List Loc) (ls : Array Slot), va_P D CL w H → va_D A w → va_S A s.heap H locs → lv_has ls nL lv → vx_Run p l e R s m args below meth c H locs k n mc ms (F0 m pc ls st0) st (va_Qv post (PO D cA (va_A w H.size)) (va_A w H.size) arr) (vx_X px (PX D cA (va_A w H.size)) (va_A w H.size)) (va_A w H.size))
    (KX : ∀ (E : String) (w' : va_W), px (E, w') → JX p l e R s m args below meth c nL D A w' (k + mc) (n + ms) Q pc lv st E) (K : ∀ (w' : va_W), post w' → J p l e R s m args below meth c nL D A w' (k + mc) (n + ms) Q (pc + 3) lv st) : J p l e R s m args below meth c nL D A w k n Q (pc) lv st0 := by
  intro H locs ls hP hD hS hl
  refine vx_callv (hr H locs ls hP hD hS hl) hS (fun q _ h => wA (D := D) hD hS G.2.2.2.2.2.2.1 q h) (wA (D := D) hD hS G.2.2.2.2.2.2.1) (fun q _ h => wA (D := D) hD hS G.2.2.2.2.2.2.1 q h) (fun E ce q u t H1 locs1 ht hvm hp hB hz hk hS1 hce hcv hcl => ?_) (fun u t H1 locs1 ht hvm hp hB hz hk hS1 => ?_)
  · obtain ⟨hE, hP1, -, hD1⟩ := hB
    rw [ht] at hP1
    obtain ⟨E9, w9⟩ := u
    have hE : E = E9 := hE
    subst hE
    exact KX E w9 hp H1 locs1 ls q ce hP1 (hD1.weaken (fun _ q _ h => wA (D := D) hD hS G.2.2.2.2.2.2.1 _ h)) hS1 hl hce hcv hcl
  · obtain ⟨hP1, -, hD1⟩ := hB
    rw [ht] at hP1
    exact K u hp H1 locs1 ls hP1 (hD1.weaken (fun _ q _ h => wA (D := D) hD hS G.2.2.2.2.2.2.1 _ h)) hS1 hl
theorem jXV_v (G : GX p s m args c cc nL own D cA A) {C : String} {index n2 maxL f lo mc ms : Nat} {y : MethodName} {b : ByteArray} {a : Nat} {As st0 : List Value} {fs : List Value} {cl1 : u_T} {cl2 : Nat} {post : va_W → Prop} {px : String × va_W → Prop} (ci q0 : Nat) (hM : Xv l y b maxL f lo mc ms D cA (.ref a :: As) w post px) (g : GoodIn WS (wsV own index C y (wz y b maxL none))) (hd : y.cls = C ∧ y.cls ≠ "java/lang/invoke/MethodHandle" ∧ y.cls ≠ "java/lang/invoke/VarHandle" ∧ (parseMethodDescriptor y.desc).map (fun d => d.parameters.length) = some n2) (hR : f + 1 ≤ R.frames ∧ 8 + (maxL + 11) + lo ≤ R.locals) (hf : k + mc ≤ R.cells ∧ n + ms ≤ R.slots) (hn : As.length = n2) (hst : st0 = As.reverse ++ .ref a :: st) (hcat : (st.map fun v => v.category).sum ≤ 8) (hc : CL[ci]? = some (C, cl1, cl2)) (he : w[q0]? = some (a, .inr (ci, fs))) (hdg : decode cc pc = .ok (.invokevirtual index, 3)) (KX : ∀ (E : String) (w' : va_W), px (E, w') → JX p l e R s m args below meth c nL D A w' (k + mc) (n + ms) Q pc lv st E) (K : ∀ (w' : va_W), post w' → J p l e R s m args below meth c nL D A w' (k + mc) (n + ms) Q (pc + 3) lv st) : J p l e R s m args below meth c nL D A w k n Q (pc) lv st0 :=
  jx_callv G (fun H locs ls hP hD hS hl => rx_V (Qc := (fun sz => va_Qv post (PO D cA (va_A w sz)) (va_A w sz))) (XC := fun sz => vx_X px (PX D cA (va_A w sz)) (va_A w sz)) G hM g ⟨rfl, rfl⟩ hd hR hf hn hst hcat hc he hdg hP hD hS hl) KX K
theorem jx_callr (G : GX p s m args c cc nL own D cA A) {post : Nat × va_W → Prop} {px : String × va_W → Prop} {mc ms : Nat} {st0 : List Value} {arr : Array Value}
    (hr : ∀ (H : Heap) (locs : List Loc) (ls : Array Slot), va_P D CL w H → va_D A w → va_S A s.heap H locs → lv_has ls nL lv → vx_Run p l e R s m args below meth c H locs k n mc ms (F0 m pc ls st0) st (va_Qr post (fun u a t => u.1 = a ∧ PO D cA (va_A w H.size) u.2 t) (va_A w H.size) arr) (vx_X px (PX D cA (va_A w H.size)) (va_A w H.size)) (va_A w H.size))
    (KX : ∀ (E : String) (w' : va_W), px (E, w') → JX p l e R s m args below meth c nL D A w' (k + mc) (n + ms) Q pc lv st E) (K : ∀ (r : Nat) (w' : va_W), post (r, w') → J p l e R s m args below meth c nL D A w' (k + mc) (n + ms) Q (pc + 3) lv (.ref r :: st)) : J p l e R s m args below meth c nL D A w k n Q (pc) lv st0 := by
  intro H locs ls hP hD hS hl
  refine my_callr (hr H locs ls hP hD hS hl) hS (fun q _ h => wA (D := D) hD hS G.2.2.2.2.2.2.1 q h) (wA (D := D) hD hS G.2.2.2.2.2.2.1) (fun q _ h => wA (D := D) hD hS G.2.2.2.2.2.2.1 q h) (fun E ce q u t H1 locs1 ht hvm hp hB hz hk hS1 hce hcv hcl => ?_) (fun u r t H1 locs1 ht hvm hp hB hz hk hS1 => ?_)
  · obtain ⟨hE, hP1, -, hD1⟩ := hB
    rw [ht] at hP1
    obtain ⟨E9, w9⟩ := u
    have hE : E = E9 := hE
    subst hE
    exact KX E w9 hp H1 locs1 ls q ce hP1 (hD1.weaken (fun _ q _ h => wA (D := D) hD hS G.2.2.2.2.2.2.1 _ h)) hS1 hl hce hcv hcl
  · obtain ⟨hr1, hP1, -, hD1⟩ := hB
    rw [ht] at hP1
    obtain ⟨r9, w9⟩ := u
    have hr1 : r9 = r := hr1
    subst hr1
    exact K r9 w9 hp H1 locs1 ls hP1 (hD1.weaken (fun _ q _ h => wA (D := D) hD hS G.2.2.2.2.2.2.1 _ h)) hS1 hl
theorem jXV_r (G : GX p s m args c cc nL own D cA A) {C : String} {index n2 maxL f lo mc ms : Nat} {y : MethodName} {b : ByteArray} {a : Nat} {As st0 : List Value} {fs : List Value} {cl1 : u_T} {cl2 : Nat} {rt : FieldType} {post : Nat × va_W → Prop} {px : String × va_W → Prop} (ci q0 : Nat) (hM : Xr l y b maxL rt f lo mc ms D cA (.ref a :: As) w post px) (g : GoodIn WS (wsV own index C y (wz y b maxL (some rt)))) (hd : y.cls = C ∧ y.cls ≠ "java/lang/invoke/MethodHandle" ∧ y.cls ≠ "java/lang/invoke/VarHandle" ∧ (parseMethodDescriptor y.desc).map (fun d => d.parameters.length) = some n2) (hR : f + 1 ≤ R.frames ∧ 8 + (maxL + 11) + lo ≤ R.locals) (hf : k + mc ≤ R.cells ∧ n + ms ≤ R.slots) (hn : As.length = n2) (hst : st0 = As.reverse ++ .ref a :: st) (hcat : (st.map fun v => v.category).sum ≤ 8) (hc : CL[ci]? = some (C, cl1, cl2)) (he : w[q0]? = some (a, .inr (ci, fs))) (hdg : decode cc pc = .ok (.invokevirtual index, 3)) (KX : ∀ (E : String) (w' : va_W), px (E, w') → JX p l e R s m args below meth c nL D A w' (k + mc) (n + ms) Q pc lv st E) (K : ∀ (r : Nat) (w' : va_W), post (r, w') → J p l e R s m args below meth c nL D A w' (k + mc) (n + ms) Q (pc + 3) lv (.ref r :: st)) : J p l e R s m args below meth c nL D A w k n Q (pc) lv st0 :=
  jx_callr G (fun H locs ls hP hD hS hl => rx_V (Qc := (fun sz => va_Qr post (fun u a t => u.1 = a ∧ PO D cA (va_A w sz) u.2 t) (va_A w sz))) (XC := fun sz => vx_X px (PX D cA (va_A w sz)) (va_A w sz)) G hM g ⟨rfl, rfl⟩ hd hR hf hn hst hcat hc he hdg hP hD hS hl) KX K
theorem ent_Xi {y : MethodName} {b : ByteArray} {maxL f lo mc ms : Nat} {rt : FieldType} {av : List Value} {post : Int32 → va_W → Prop} {px : String × va_W → Prop} {lv0 : List (Nat × Value)} (hy : plainName y.cls = true) (hown9 : y.cls = own) (hlen : (lg_sl av).length ≤ maxL) (hlv : lv_args 0 av = lv0)
    (body : ∀ (p : Program) (e : Env) (s : State) (m : MethodId) (args : Array Value) (below : List Frame) (meth : Method) (c : Code) (A : Nat → Prop) (Q : State → Prop), GX p s m args c b maxL own D cA A → Q = vx_MQ below (va_Qi post (PO D cA A) A) (vx_X px (PX D cA A) A) args s mc ms A → (∀ x ∈ c.exceptionTable.toList, False) → meth.locks = false → (∀ (r : Int32) (w' : va_W) (pc : Nat) (lv : List (Nat × Value)), decode b pc = .ok (.ireturn, 1) → narrow rt (.int r) = .int r → post r w' → J p l e (RM f lo mc ms) s m args below meth c maxL D A w' mc ms Q pc lv [.int r]) → J p l e (RM f lo mc ms) s m args below meth c maxL D A w 0 0 Q 0 lv0 []) : Xi l y b maxL rt f lo mc ms D cA av w post px := by
  intro sz
  refine vx_ofW (cc := b) (maxL := maxL) (ret := (some rt)) hy rfl ?_
  intro p e s m args below meth c s₁ B hml htab hv
  obtain ⟨rfl, hsz, hP, hK, hD0, hE⟩ := hv
  subst hsz
  have hts := atoms_spec (ws := wz y b maxL (some rt)) B.pre
  have hD : va_D (va_A w s.heap.size) w := hD0.self
  rw [lg_entry_eq]
  exact body p e s m _ below meth c (va_A w s.heap.size) _ ⟨B.exec, B.bytes, hml, by rw [← hown9]; exact findClass_of_methodNamed B.named, fun w h => hts w (List.mem_cons_of_mem _ h), hK, fun q h => Or.inr h, hE⟩ rfl htab B.notSynchronized
    (fun r w9 pc lv hd hn hp H locs ls hP hD hS hl => vx_ret (W.zret (ty := rt) B.exec B.bytes B.returns hn (fun t ht hW => ⟨⟨r, w9, rfl, hp, by rw [ht]; exact hP, va_K.moved hW.alike hK, hD⟩, hS.F ht⟩) hS.2.2 hd)) s.heap [] _ hP hD va_S.rf (by rw [← hlv]; exact lv_entry av hlen)
theorem ent_Xv {y : MethodName} {b : ByteArray} {maxL f lo mc ms : Nat} {av : List Value} {post : va_W → Prop} {px : String × va_W → Prop} {lv0 : List (Nat × Value)} (hy : plainName y.cls = true) (hown9 : y.cls = own) (hlen : (lg_sl av).length ≤ maxL) (hlv : lv_args 0 av = lv0)
    (body : ∀ (p : Program) (e : Env) (s : State) (m : MethodId) (args : Array Value) (below : List Frame) (meth : Method) (c : Code) (A : Nat → Prop) (Q : State → Prop), GX p s m args c b maxL own D cA A → Q = vx_MQ below (va_Qv post (PO D cA A) A) (vx_X px (PX D cA A) A) args s mc ms A → (∀ x ∈ c.exceptionTable.toList, False) → meth.locks = false → (∀ (w' : va_W) (pc : Nat) (lv : List (Nat × Value)), decode b pc = .ok (.return_, 1) → post w' → J p l e (RM f lo mc ms) s m args below meth c maxL D A w' mc ms Q pc lv []) → J p l e (RM f lo mc ms) s m args below meth c maxL D A w 0 0 Q 0 lv0 []) : Xv l y b maxL f lo mc ms D cA av w post px := by
  intro sz
  refine vx_ofW (cc := b) (maxL := maxL) (ret := none) hy rfl ?_
  intro p e s m args below meth c s₁ B hml htab hv
  obtain ⟨rfl, hsz, hP, hK, hD0, hE⟩ := hv
  subst hsz
  have hts := atoms_spec (ws := wz y b maxL none) B.pre
  have hD : va_D (va_A w s.heap.size) w := hD0.self
  rw [lg_entry_eq]
  exact body p e s m _ below meth c (va_A w s.heap.size) _ ⟨B.exec, B.bytes, hml, by rw [← hown9]; exact findClass_of_methodNamed B.named, fun w h => hts w (List.mem_cons_of_mem _ h), hK, fun q h => Or.inr h, hE⟩ rfl htab B.notSynchronized
    (fun w9 pc lv hd hp H locs ls hP hD hS hl => vx_ret (W.vret B.exec B.bytes B.returns (fun t ht hW => ⟨⟨w9, rfl, hp, by rw [ht]; exact hP, va_K.moved hW.alike hK, hD⟩, hS.F ht⟩) hS.2.2 hd)) s.heap [] _ hP hD va_S.rf (by rw [← hlv]; exact lv_entry av hlen)
theorem ent_Xr {y : MethodName} {b : ByteArray} {maxL f lo mc ms : Nat} {rt : FieldType} {av : List Value} {post : Nat × va_W → Prop} {px : String × va_W → Prop} {lv0 : List (Nat × Value)} (hy : plainName y.cls = true) (hown9 : y.cls = own) (hlen : (lg_sl av).length ≤ maxL) (hlv : lv_args 0 av = lv0) (hrt : ∃ n : String, rt = .object n)
    (body : ∀ (p : Program) (e : Env) (s : State) (m : MethodId) (args : Array Value) (below : List Frame) (meth : Method) (c : Code) (A : Nat → Prop) (Q : State → Prop), GX p s m args c b maxL own D cA A → Q = vx_MQ below (va_Qr post (fun u a t => u.1 = a ∧ PO D cA A u.2 t) A) (vx_X px (PX D cA A) A) args s mc ms A → (∀ x ∈ c.exceptionTable.toList, False) → meth.locks = false → (∀ (r : Nat) (w' : va_W) (pc : Nat) (lv : List (Nat × Value)), decode b pc = .ok (.areturn, 1) → post (r, w') → J p l e (RM f lo mc ms) s m args below meth c maxL D A w' mc ms Q pc lv [.ref r]) → J p l e (RM f lo mc ms) s m args below meth c maxL D A w 0 0 Q 0 lv0 []) : Xr l y b maxL rt f lo mc ms D cA av w post px := by
  intro sz
  refine vx_ofW (cc := b) (maxL := maxL) (ret := (some rt)) hy rfl ?_
  intro p e s m args below meth c s₁ B hml htab hv
  obtain ⟨rfl, hsz, hP, hK, hD0, hE⟩ := hv
  subst hsz
  have hts := atoms_spec (ws := wz y b maxL (some rt)) B.pre
  have hD : va_D (va_A w s.heap.size) w := hD0.self
  rw [lg_entry_eq]
  exact body p e s m _ below meth c (va_A w s.heap.size) _ ⟨B.exec, B.bytes, hml, by rw [← hown9]; exact findClass_of_methodNamed B.named, fun w h => hts w (List.mem_cons_of_mem _ h), hK, fun q h => Or.inr h, hE⟩ rfl htab B.notSynchronized
    (fun r w9 pc lv hd hp H locs ls hP hD hS hl => vx_ret (W.aret B.exec B.bytes B.returns (Or.inl hrt) (Or.inr ⟨r, rfl⟩) (fun t ht hW => ⟨⟨(r, w9), r, rfl, hp, rfl, by rw [ht]; exact hP, va_K.moved hW.alike hK, hD⟩, hS.F ht⟩) hS.2.2 hd)) s.heap [] _ hP hD va_S.rf (by rw [← hlv]; exact lv_entry av hlen)
theorem nest_ot {w : Cond} (h : isNest w = true) : w.onTables = true := by
  cases w <;> first | rfl | exact (Bool.false_ne_true h).elim
theorem j_throw (G : GX p s m args c cc nL own D cA A) (hfl : l.stackTraces = false) {Qc : Array Value → State → Outcome → State → Prop} {px : String × va_W → Prop} {mc ms : Nat} (hQ : Q = vx_MQ below Qc (vx_X px (PX D cA A) A) args s mc ms A) (ht : ∀ x ∈ c.exceptionTable.toList, False) (hlocks : meth.locks = false)
    {E text : String} {names : List String} {ik is ic : Nat} (hcls : Bundle.fit E = true) (hnames : ∀ n ∈ names, Bundle.fit n = true) (hk : Cond.classLink own ik E ∈ WS) (hini : Cond.initialized E ∈ WS) (hown9 : own = RX6) (hstr : (is, text) ∈ STRL)
    (hat : ∀ w ∈ vx_atS own ic E names, w ∈ WS ∨ w ∈ NWL) (hgood : ∀ w ∈ Cond.classLink own ik E :: Cond.initialized E :: vx_atS own ic E names, vx_ot w = true)
    (d0 : decode cc pc = .ok (.new ik, 3)) (d3 : decode cc (pc + 3) = .ok (.dup, 1)) (d4 : decode cc (pc + 4) = .ok (.ldc is, 2)) (d6 : decode cc (pc + 6) = .ok (.invokespecial ic, 3)) (d9 : decode cc (pc + 9) = .ok (.athrow, 1))
    (hR : names.length + 3 < R.frames ∧ (st.map fun v => v.category).sum + (13 * (names.length + 1) + 43) ≤ R.locals ∧ k + 1 ≤ R.cells ∧ n + 6 ≤ R.slots) (hpx : px (E, w)) (h1 : k + 1 ≤ mc) (h2 : n + 6 ≤ ms) : J p l e R s m args below meth c nL D A w k n Q (pc) lv st := by
  subst hQ
  obtain ⟨hx, hb, hml, hown, hts, hK, hA, hE⟩ := G
  subst hown9
  obtain ⟨sa, hsa⟩ := hE.2.1 _ hstr
  exact fun H locs ls hP hD hS hl => vx_throwS hx hb hfl hown hcls hnames (hts _ hk) (hts _ hini) hsa (fun w hw => (hat w hw).elim (fun h => hts w h) (fun h => va_Nw.use (nest_ot (NWL_ok w h)) (hE.1 w h))) hgood hE.2.2.2.2.2.1 hE.2.2.2.2.2.2 hS (hl.1.trans hml.symm) d0 d3 d4 d6 d9 (fun x hx => absurd hx (fun h => ht x h)) hR.1 hR.2.1 hR.2.2.1 hR.2.2.2 hlocks
    (fun t ht1 ht2 ht3 => ⟨(E, w), hpx, ⟨rfl, hP.kept (fun q x hq => ht3 x.1 ((hP q x hq).lt)), va_K.moved ht1 hK, hD⟩, ⟨Nat.le_trans hS.1 ht2, fun q h3 h4 => (ht3 q (Nat.lt_of_lt_of_le h3 hS.1)).trans (hS.2.1 q h3 h4)⟩⟩) hS.2.2 h1 h2
theorem j_throwW (G : GX p s m args c cc nL own D cA A) (hfl : l.stackTraces = false) {Qc : Array Value → State → Outcome → State → Prop} {px : String × va_W → Prop} {mc ms : Nat} (hQ : Q = vx_MQ below Qc (vx_X px (PX D cA A) A) args s mc ms A) (ht : ∀ x ∈ c.exceptionTable.toList, False) (hlocks : meth.locks = false)
    {E text : String} {names : List String} {ik is ic : Nat} (hcls : Bundle.fit E = true) (hnames : ∀ n ∈ names, Bundle.fit n = true) (hk : Cond.classLink own ik E ∈ WS) (hini : Cond.initialized E ∈ WS) (hown9 : own = RX6) (hstr : (is, text) ∈ STRL)
    (hat : ∀ w ∈ vx_atS own ic E names, w ∈ WS ∨ w ∈ NWL) (hgood : ∀ w ∈ Cond.classLink own ik E :: Cond.initialized E :: vx_atS own ic E names, vx_ot w = true)
    (d0 : decode cc pc = .ok (.new ik, 3)) (d3 : decode cc (pc + 3) = .ok (.dup, 1)) (d4 : decode cc (pc + 4) = .ok (.ldc_w is, 3)) (d6 : decode cc (pc + 7) = .ok (.invokespecial ic, 3)) (d9 : decode cc (pc + 10) = .ok (.athrow, 1))
    (hR : names.length + 3 < R.frames ∧ (st.map fun v => v.category).sum + (13 * (names.length + 1) + 43) ≤ R.locals ∧ k + 1 ≤ R.cells ∧ n + 6 ≤ R.slots) (hpx : px (E, w)) (h1 : k + 1 ≤ mc) (h2 : n + 6 ≤ ms) : J p l e R s m args below meth c nL D A w k n Q (pc) lv st := by
  subst hQ
  obtain ⟨hx, hb, hml, hown, hts, hK, hA, hE⟩ := G
  subst hown9
  obtain ⟨sa, hsa⟩ := hE.2.1 _ hstr
  exact fun H locs ls hP hD hS hl => vx_throwSW hx hb hfl hown hcls hnames (hts _ hk) (hts _ hini) hsa (fun w hw => (hat w hw).elim (fun h => hts w h) (fun h => va_Nw.use (nest_ot (NWL_ok w h)) (hE.1 w h))) hgood hE.2.2.2.2.2.1 hE.2.2.2.2.2.2 hS (hl.1.trans hml.symm) d0 d3 d4 d6 d9 (fun x hx => absurd hx (fun h => ht x h)) hR.1 hR.2.1 hR.2.2.1 hR.2.2.2 hlocks
    (fun t ht1 ht2 ht3 => ⟨(E, w), hpx, ⟨rfl, hP.kept (fun q x hq => ht3 x.1 ((hP q x hq).lt)), va_K.moved ht1 hK, hD⟩, ⟨Nat.le_trans hS.1 ht2, fun q h3 h4 => (ht3 q (Nat.lt_of_lt_of_le h3 hS.1)).trans (hS.2.1 q h3 h4)⟩⟩) hS.2.2 h1 h2
/-- not caught here -/
theorem j_out {E : String} {post : Unit → Prop} {px : String × va_W → Prop} {Qc : Array Value → State → Outcome → State → Prop} {mc ms : Nat} (G : GX p s m args c cc nL own D cA A) (hQ : Q = vx_MQ below Qc (vx_X px (PX D cA A) A) args s mc ms A) (ht : ∀ x ∈ c.exceptionTable.toList, False) (hlocks : meth.locks = false) (hpx : px (E, w)) (h1 : k ≤ mc) (h2 : n ≤ ms) : JX p l e R s m args below meth c nL D A w k n Q pc lv st E := by
  subst hQ
  exact fun H locs ls q ce hP hD hS hl hce hcv hcl => vx_out (fun x hx => absurd hx (fun h => ht x h)) hlocks hce hcv hcl (fun t ht1 ht2 => ⟨(E, w), hpx, ⟨rfl, by rw [ht1]; exact hP, va_K.moved ht2 G.2.2.2.2.2.1, hD⟩, hS.F ht1⟩) hS.2.2 h1 h2
theorem jx_w {w' : va_W} {E : String} (h : w = w') (K : JX p l e R s m args below meth c nL D A w' k n Q pc lv st E) : JX p l e R s m args below meth c nL D A w k n Q pc lv st E := h ▸ K
end JJ
