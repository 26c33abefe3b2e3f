/-! THE LAW'S OWN METHODS: a table of handlers; the frame rule for them (printed by gen_core3.py) -/
abbrev wzW (y : MethodName) (b : ByteArray) (n : Nat) (r : Option FieldType) (hh : List (Nat × Nat × Nat × Nat)) : List Cond := Cond.codeWith y b n r hh :: WS
/-- a method with handlers that answers an int and lets nothing through -/
abbrev KW (l : Launch) (y : MethodName) (b : ByteArray) (maxL : Nat) (hh : List (Nat × Nat × Nat × Nat)) (f lo mc ms : Nat) (D : va_G) (cA : Nat → ClassId) (av : List Value) (w : va_W) (post : Int32 → va_W → Prop) : Prop := ∀ sz : Nat, Met l y (wzW y b maxL (some .int) hh) (RM f lo mc ms) (va_Pc av (PR D cA w sz)) (va_Qi post (PO D cA (va_A w sz)) (va_A w sz)) mc ms (va_A w sz)
theorem gzW {y : MethodName} {b : ByteArray} {n : Nat} {r : Option FieldType} {hh : List (Nat × Nat × Nat × Nat)} (h : Cond.codeWith y b n r hh ∈ WS) : GoodIn WS (wzW y b n r hh) := fun _ hw => (List.mem_cons.mp hw).elim (fun e => by rw [e]; exact wzG _ h) (wzG _)
theorem gSW {own : String} {idx : Nat} {y : MethodName} {b : ByteArray} {n : Nat} {r : Option FieldType} {hh : List (Nat × Nat × Nat × Nat)} (h1 : Cond.methodLink own idx y ∈ WS) (h2 : Cond.static y ∈ WS) (h4 : Cond.initialized y.cls ∈ WS) (h5 : Cond.codeWith y b n r hh ∈ WS) : GoodIn WS (va_wsS own idx y (wzW y b n r hh)) := by
  intro w hw
  unfold va_wsS at hw
  rcases List.mem_append.mp hw with h | h
  · simp only [List.mem_cons, List.mem_nil_iff, or_false] at h
    rcases h with rfl | rfl | rfl
    · exact wzG _ h1
    · exact wzG _ h2
    · exact wzG _ h4
  · exact gzW h5 _ h
section J6
variable {p : Program} {l : Launch} {e : Env} {R : Room} {s : State} {m : MethodId} {args : Array Value} {below : List Frame} {meth : Method} {c : Code} {D : va_G} {cA : Nat → ClassId} {A : Nat → Prop} {nL : Nat}
variable {w : va_W} {k n : Nat} {Q : State → Prop} {pc : Nat} {lv : List (Nat × Value)} {st : List Value} {cc : ByteArray} {own : String}
theorem ent_W {y : MethodName} {b : ByteArray} {maxL f lo mc ms : Nat} {hh : List (Nat × Nat × Nat × Nat)} {av : List Value} {post : Int32 → va_W → Prop} {lv0 : List (Nat × Value)} (hy : plainName y.cls = true) (hown9 : y.cls = own) (hlen : (lg_sl av).length ≤ maxL) (hlv : lv_args 0 av = lv0)
    (body : ∀ (p : Program) (e : Env) (s : State) (m : MethodId) (args : Array Value) (below : List Frame) (meth : Method) (c : Code) (A : Nat → Prop) (Q : State → Prop), GX p s m args c b maxL own D cA A → c.exceptionTable.toList = tableOf hh → (∀ (r : Int32) (w' : va_W) (pc : Nat) (lv : List (Nat × Value)), decode b pc = .ok (.ireturn, 1) → post r w' → J p l e (RM f lo mc ms) s m args below meth c maxL D A w' mc ms Q pc lv [.int r]) → J p l e (RM f lo mc ms) s m args below meth c maxL D A w 0 0 Q 0 lv0 []) : KW l y b maxL hh f lo mc ms D cA av w post := by
  intro sz
  have h9 : vx_Met l y (wzW y b maxL (some .int) hh) (RM f lo mc ms) (va_Pc av (PR D cA w sz)) (va_Qi post (PO D cA (va_A w sz)) (va_A w sz)) (fun _ _ _ => False) mc ms (va_A w sz) := by
    refine vx_ofWH (cc := b) (maxL := maxL) (ret := some .int) (hh := hh) hy rfl ?_
    intro p e s m args below meth c s₁ B hml hv
    obtain ⟨rfl, hsz, hP, hK, hD0, hE⟩ := hv
    subst hsz
    have hts := atoms_spec (ws := wzW y b maxL (some .int) hh) B.pre
    have hD : va_D (va_A w s.heap.size) w := hD0.self
    rw [lg_entry_eq]
    exact body p e s m _ below meth c (va_A w s.heap.size) _ ⟨B.exec, B.bytes, hml, by rw [← hown9]; exact findClass_of_methodNamed B.named, fun w h => hts w (List.mem_cons_of_mem _ h), hK, fun q h => Or.inr h, hE⟩ (vx_table (x := y) B (hts _ List.mem_cons_self))
      (fun r w9 pc lv hd hp H locs ls hP hD hS hl => vx_ret (W.zret (ty := .int) (hlocks := B.notSynchronized) B.exec B.bytes B.returns rfl (fun t ht hW => ⟨⟨r, w9, rfl, hp, by rw [ht]; exact hP, va_K.moved hW.alike hK, hD⟩, hS.F ht⟩) hS.2.2 hd)) s.heap [] _ hP hD va_S.rf (by rw [← hlv]; exact lv_entry av hlen)
  exact Jvm.Free.MetFree.mono h9 (fun _ _ h => h) (fun _ _ _ _ _ h => h) (fun _ _ _ _ _ h => h.elim id (fun ⟨_, _, _, _, _, hX, _⟩ => hX.elim))
/-- caught here, past rows that name other classes -/
theorem j_catch (G : GX p s m args c cc nL own D cA A) {E name : String} (pre : List ExceptionTableEntry) (x : ExceptionTableEntry) (suf : List ExceptionTableEntry) (hsplit : c.exceptionTable.toList = pre ++ x :: suf)
    (hpass : ∀ z ∈ pre, covers z pc = false ∨ (z.catchType ≠ 0 ∧ ∃ nm : String, Cond.classLink own z.catchType nm ∈ WS ∧ (E, nm) ∈ NCL)) (hx : covers x pc = true) (h0 : x.catchType ≠ 0) (hlink : Cond.classLink own x.catchType name ∈ WS) (hcast : Cond.castable E name ∈ NWL)
    (K : ∀ q9 : Nat, J p l e R s m args below meth c nL D A w k n Q (x.handlerPc) lv [.ref q9]) : JX p l e R s m args below meth c nL D A w k n Q pc lv st E := by
  obtain ⟨hx9, hb, hml, hown, hts, hK, hA, hE⟩ := G
  exact fun H locs ls q ce hP hD hS hl hce hcv hcl => vx_catch hown pre x suf hsplit (fun z hz => (hpass z hz).elim Or.inl (fun ⟨a, nm, b, d⟩ => Or.inr ⟨a, nm, hts _ b, hE.2.2.1 (E, nm) d⟩)) hx h0 (hts _ hlink) (va_Nw.use (nest_ot (NWL_ok _ hcast)) (hE.1 _ hcast)) hce hcv hcl (K q H locs ls hP hD hS hl)
theorem jSW_i (G : GX p s m args c cc nL own D cA A) {index n2 maxL f lo mc ms : Nat} {y : MethodName} {b : ByteArray} {hh : List (Nat × Nat × Nat × Nat)} {As st0 : List Value} {post : Int32 → va_W → Prop} (hM : KW l y b maxL hh f lo mc ms D cA As w post) (g : GoodIn WS (va_wsS own index y (wzW y b maxL (some .int) hh))) (hd : y.cls ≠ "java/lang/invoke/MethodHandle" ∧ y.cls ≠ "java/lang/invoke/VarHandle" ∧ (parseMethodDescriptor y.desc).map (fun d => d.parameters.length) = some n2) (hR : f + 1 ≤ R.frames ∧ 8 + (maxL + 11) + lo ≤ R.locals) (hf : k + mc ≤ R.cells ∧ n + ms ≤ R.slots) (hn : As.length = n2) (hst : st0 = As.reverse ++ st) (hcat : (st.map fun v => v.category).sum ≤ 8) (hdg : decode cc pc = .ok (.invokestatic index, 3))
    (K : ∀ (r : Int32) (w' : va_W), post r w' → J p l e R s m args below meth c nL D A w' (k + mc) (n + ms) Q (pc + 3) lv (.int r :: st)) : J p l e R s m args below meth c nL D A w k n Q (pc) lv st0 :=
  j_calli G (fun H locs ls hP hD hS hl => vx_runSW (As := As) (rest := st) ⟨G.1, G.2.1, G.2.2.1, G.2.2.2.1, G.2.2.2.2.1⟩ (hM H.size) (vx_cwSW n2 G.2.2.2.2.1 g rfl rfl rfl hd hR) ⟨PR_blind, fun U hU hW => ⟨rfl, PR_at G hP hD hS hU hW⟩⟩ rfl hn hl.1 hst (lv_room hcat) hdg hf) K
end J6
section FRW
variable {l : Launch} {y : MethodName} {bc : ByteArray} {maxL f lo mc ms : Nat} {D : va_G} {cA : Nat → ClassId} {av : List Value} {b : va_W} {w : va_W}
theorem fr_W {hh : List (Nat × Nat × Nat × Nat)} {post : Int32 → va_W → Prop} (hM : KW l y bc maxL hh f lo mc ms D cA av b post) (a c : va_W) : KW l y bc maxL hh f lo mc ms D cA av ((a ++ b) ++ c) (fun r w' => ∃ b', post r b' ∧ w' = (a ++ b') ++ c) := fun sz =>
  Jvm.Free.MetFree.mono (hM sz) (fun _ _ h => ⟨h.1, fr_pre h.2⟩) (fun _ _ _ _ _ h => h) (fun _ _ _ _ hp h => by
    obtain ⟨⟨⟨r, u, h1, h2, h3⟩, h4⟩, L, h5, h6⟩ := h
    exact ⟨⟨⟨r, _, h1, ⟨u, h2, rfl⟩, fr_post hp.2 h4 h3⟩, fr_F h4⟩, L, h5, fun q hq => fA_m _ (h6 q hq)⟩)
theorem fw_W {hh : List (Nat × Nat × Nat × Nat)} {post : Int32 → va_W → Prop} (hM : KW l y bc maxL hh f lo mc ms D cA av b post) (a c : va_W) (e : w = (a ++ b) ++ c) : KW l y bc maxL hh f lo mc ms D cA av w (fun r w' => ∃ b', post r b' ∧ w' = (a ++ b') ++ c) := e ▸ fr_W hM a c
theorem fw_i {rt : FieldType} {post : Int32 → va_W → Prop} (hM : Ki l y bc maxL rt f lo mc ms D cA av b post) (a c : va_W) (e : w = (a ++ b) ++ c) : Ki l y bc maxL rt f lo mc ms D cA av w (fun r w' => ∃ b', post r b' ∧ w' = (a ++ b') ++ c) := e ▸ fr_i hM a c
theorem fw_l {post : Int64 → va_W → Prop} (hM : Kl l y bc maxL f lo mc ms D cA av b post) (a c : va_W) (e : w = (a ++ b) ++ c) : Kl l y bc maxL f lo mc ms D cA av w (fun r w' => ∃ b', post r b' ∧ w' = (a ++ b') ++ c) := e ▸ fr_l hM a c
theorem fw_f {post : UInt32 → va_W → Prop} (hM : Kf l y bc maxL f lo mc ms D cA av b post) (a c : va_W) (e : w = (a ++ b) ++ c) : Kf l y bc maxL f lo mc ms D cA av w (fun r w' => ∃ b', post r b' ∧ w' = (a ++ b') ++ c) := e ▸ fr_f hM a c
theorem fw_d {post : UInt64 → va_W → Prop} (hM : Kd l y bc maxL f lo mc ms D cA av b post) (a c : va_W) (e : w = (a ++ b) ++ c) : Kd l y bc maxL f lo mc ms D cA av w (fun r w' => ∃ b', post r b' ∧ w' = (a ++ b') ++ c) := e ▸ fr_d hM a c
theorem fw_v {post : va_W → Prop} (hM : Kv l y bc maxL f lo mc ms D cA av b post) (a c : va_W) (e : w = (a ++ b) ++ c) : Kv l y bc maxL f lo mc ms D cA av w (fun w' => ∃ b', post b' ∧ w' = (a ++ b') ++ c) := e ▸ fr_v hM a c
theorem fw_Xi {rt : FieldType} {post : Int32 → va_W → Prop} {px : String × va_W → Prop} (hM : Xi l y bc maxL rt f lo mc ms D cA av b post px) (a c : va_W) (e : w = (a ++ b) ++ c) : Xi l y bc maxL rt f lo mc ms D cA av w (fun r w' => ∃ b', post r b' ∧ w' = (a ++ b') ++ c) (fun u => ∃ b', px (u.1, b') ∧ u.2 = (a ++ b') ++ c) := e ▸ fr_Xi hM a c
theorem fw_Xf {post : UInt32 → va_W → Prop} {px : String × va_W → Prop} (hM : Xf l y bc maxL f lo mc ms D cA av b post px) (a c : va_W) (e : w = (a ++ b) ++ c) : Xf l y bc maxL f lo mc ms D cA av w (fun r w' => ∃ b', post r b' ∧ w' = (a ++ b') ++ c) (fun u => ∃ b', px (u.1, b') ∧ u.2 = (a ++ b') ++ c) := e ▸ fr_Xf hM a c
theorem fw_Xd {post : UInt64 → va_W → Prop} {px : String × va_W → Prop} (hM : Xd l y bc maxL f lo mc ms D cA av b post px) (a c : va_W) (e : w = (a ++ b) ++ c) : Xd l y bc maxL f lo mc ms D cA av w (fun r w' => ∃ b', post r b' ∧ w' = (a ++ b') ++ c) (fun u => ∃ b', px (u.1, b') ∧ u.2 = (a ++ b') ++ c) := e ▸ fr_Xd hM a c
end FRW
theorem set_apr {a : va_W} {x y : Nat × va_E} : (a ++ [x]).set (a.length + 0) y = a ++ [y] := by simp
