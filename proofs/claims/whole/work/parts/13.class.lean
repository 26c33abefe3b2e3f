/-! THE CLASS, more pure words -/
def swV (f old : Nat → Int32) (k : Nat) : Nat → Int32 := fun j => if j < k then f j else old j
theorem swV_lt {f old : Nat → Int32} {k j : Nat} (h : j < k) : swV f old k j = f j := if_pos h
theorem swV_S {f : Nat → Int32} (old : Nat → Int32) (k : Nat) {x : Int32} (h : x = f k) : upd (swV f old k) k x = swV f old (k + 1) := by
  subst h
  funext j
  unfold upd swV
  by_cases e : j = k
  · subst e; rw [if_pos rfl, if_pos (Nat.lt_succ_self _)]
  · rw [if_neg e]
    by_cases hj : j < k
    · rw [if_pos hj, if_pos (Nat.lt_succ_of_lt hj)]
    · rw [if_neg hj, if_neg (by omega)]
theorem swV_0 {f : Nat → Int32} (old : Nat → Int32) : swV f old 0 = old := by
  funext j
  rw [swV, if_neg (Nat.not_lt_zero j)]
theorem swV_1 {f : Nat → Int32} (old : Nat → Int32) {x : Int32} (h : x = f 0) : upd old 0 x = swV f old 1 := by
  rw [← swV_S old 0 h, swV_0]
def olV (ex vc pa : Nat → Int32) (j : Nat) : Int32 := if j = 0 then ex j - vc j else ex j - vc j - (ex (pa j).toNatClampNeg - vc (pa j).toNatClampNeg)
abbrev ndP (wo : Nat → Int32) (n : Nat) (rk : Int32) (j : Nat) : Prop := wo j ≠ -1 ∧ cntV (ahP wo j) n = rk
def ndA (wo : Nat → Int32) (n : Nat) (rk : Int32) : Int32 := if cfRank (ndP wo n rk) n = 0 then nI (fnd (ndP wo n rk) n) else -1
def rkW (g wo : Nat → Int32) : Nat → Nat → Int32
  | 0 => wo
  | k + 1 => upd (rkW g wo k) k (if 0 < g k then g k else -1)
theorem ndA_ok {wo : Nat → Int32} {n : Nat} {rk : Int32} (hn : n ≤ 20) (h : ndA wo n rk ≠ -1) : cfRank (ndP wo n rk) n = 0 ∧ ndA wo n rk = nI (fnd (ndP wo n rk) n) := by
  by_cases e : cfRank (ndP wo n rk) n = 0
  · exact ⟨e, by rw [ndA, if_pos e]⟩
  · exact absurd (by rw [ndA, if_neg e]) h
theorem ndA_no {wo : Nat → Int32} {n : Nat} {rk : Int32} (hn : n ≤ 20) (h : ndA wo n rk = -1) : cfRank (ndP wo n rk) n = 1 := by
  unfold ndA at h
  by_cases e : cfRank (ndP wo n rk) n = 0
  · rw [if_pos e] at h
    have h8 : fnd (ndP wo n rk) n < n := by
      unfold cfRank at e
      by_cases h9 : fnd (ndP wo n rk) n < n
      · exact h9
      · rw [if_neg h9] at e; exact absurd e (by decide)
    have h7 : (0 : Int32) ≤ -1 := by rw [← h]; exact (nI_leI (a := 0) (by omega) (by omega)).mpr (Nat.zero_le _)
    exact absurd h7 (by decide)
  · unfold cfRank at e ⊢
    by_cases h9 : fnd (ndP wo n rk) n < n
    · rw [if_pos h9] at e; exact absurd rfl e
    · rw [if_neg h9]
theorem cfLong_fi {pv sg fi : Int32} (h : cfLong pv sg fi = 0) (hd : ¬ dnP pv sg) : fi ≠ 0 := by
  intro e
  unfold cfLong at h
  by_cases h0 : pv = 0
  · rw [if_pos h0] at h; exact absurd h (by decide)
  · rw [if_neg h0, if_neg hd, if_pos e] at h; exact absurd h (by decide)
theorem fi5 {f : Int32} (h : RG 0 9 f) (h0 : ¬ f = 0) : ¬ 5 * f ≤ 0 := by
  obtain ⟨h1, h2⟩ := h
  obtain ⟨j, hj, rfl⟩ : ∃ j : Nat, j ≤ 9 ∧ f = nI j := nI_of2 (M := 9) (n := 9) (by decide) h1 (Int32.not_lt.mp h2)
  rcases (show j = 0 ∨ j = 1 ∨ j = 2 ∨ j = 3 ∨ j = 4 ∨ j = 5 ∨ j = 6 ∨ j = 7 ∨ j = 8 ∨ j = 9 by omega) with rfl | rfl | rfl | rfl | rfl | rfl | rfl | rfl | rfl | rfl
  · exact absurd rfl h0
  all_goals decide
theorem PL_tf {cA : Nat → ClassId} {un : Nat → Nat} {ua : Nat → Nat → Int32} {L : List Nat} {f : Nat → va_E} {tf kf : Nat → Option Nat} {ta ga ka : Nat → Nat} (h : PL cA un ua L f tf kf ta ga ka) {j b : Nat} (hj : j < 20) (hb : tf j = some b) : ua 0 j = 2 ∧ b = ta j := by
  rw [h.1 j hj] at hb
  by_cases e : ua 0 j = 2
  · rw [if_pos e] at hb; exact ⟨e, (Option.some.inj hb).symm⟩
  · rw [if_neg e] at hb; exact absurd hb (by simp)
theorem PL_tn {cA : Nat → ClassId} {un : Nat → Nat} {ua : Nat → Nat → Int32} {L : List Nat} {f : Nat → va_E} {tf kf : Nat → Option Nat} {ta ga ka : Nat → Nat} (h : PL cA un ua L f tf kf ta ga ka) {j : Nat} (hj : j < 20) (hb : tf j = none) : ¬ ua 0 j = 2 := by
  rw [h.1 j hj] at hb
  intro e
  rw [if_pos e] at hb; exact absurd hb (by simp)
theorem PL_kf {cA : Nat → ClassId} {un : Nat → Nat} {ua : Nat → Nat → Int32} {L : List Nat} {f : Nat → va_E} {tf kf : Nat → Option Nat} {ta ga ka : Nat → Nat} (h : PL cA un ua L f tf kf ta ga ka) {j b : Nat} (hj : j < 4) (hb : kf j = some b) : j < un 2 ∧ b = ka j := by
  rw [h.2.2.2.2.1 j hj] at hb
  by_cases e : j < un 2
  · rw [if_pos e] at hb; exact ⟨e, (Option.some.inj hb).symm⟩
  · rw [if_neg e] at hb; exact absurd hb (by simp)
theorem PL_kn {cA : Nat → ClassId} {un : Nat → Nat} {ua : Nat → Nat → Int32} {L : List Nat} {f : Nat → va_E} {tf kf : Nat → Option Nat} {ta ga ka : Nat → Nat} (h : PL cA un ua L f tf kf ta ga ka) {j : Nat} (hj : j < 4) (hb : kf j = none) : ¬ j < un 2 := by
  rw [h.2.2.2.2.1 j hj] at hb
  intro e
  rw [if_pos e] at hb; exact absurd hb (by simp)
theorem PL_ta {cA : Nat → ClassId} {un : Nat → Nat} {ua : Nat → Nat → Int32} {L : List Nat} {f : Nat → va_E} {tf kf : Nat → Option Nat} {ta ga ka : Nat → Nat} (X : va_W) (h : PL cA un ua L f tf kf ta ga ka) {j : Nat} (hj : j < 20) (hk : ua 0 j = 2) : ∃ k : Nat, (X ++ va_pl L f)[k]? = some (ta j, .inr (4, [.int (ua 3 j), .int (ua 4 j), .int (ua 5 j), .ref (ga j), .int (ua 6 j), .int (totS (ua 8) j (un 1))])) := by
  obtain ⟨hL, -, hf, -⟩ := h.2.1 j hj hk
  obtain ⟨k, e⟩ := va_pl_get (X := X) (f := f) hL
  exact ⟨k, by rw [e, hf]⟩
theorem PL_ga {cA : Nat → ClassId} {un : Nat → Nat} {ua : Nat → Nat → Int32} {L : List Nat} {f : Nat → va_E} {tf kf : Nat → Option Nat} {ta ga ka : Nat → Nat} (X : va_W) (h : PL cA un ua L f tf kf ta ga ka) {j : Nat} (hj : j < 20) (hk : ua 0 j = 2) : ∃ (k : Nat) (g : Nat → Int32), (X ++ va_pl L f)[k]? = some (ga j, .inl (cA 0, 200, .inl g)) ∧ ∀ h, h < 200 → g h = ua 8 (200 * j + h) := by
  obtain ⟨-, hL, -, g, hf, hg⟩ := h.2.1 j hj hk
  obtain ⟨k, e⟩ := va_pl_get (X := X) (f := f) hL
  exact ⟨k, g, by rw [e, hf], hg⟩
theorem PL_ka {cA : Nat → ClassId} {un : Nat → Nat} {ua : Nat → Nat → Int32} {L : List Nat} {f : Nat → va_E} {tf kf : Nat → Option Nat} {ta ga ka : Nat → Nat} (X : va_W) (h : PL cA un ua L f tf kf ta ga ka) {j : Nat} (hj : j < un 2) : ∃ k : Nat, (X ++ va_pl L f)[k]? = some (ka j, .inr (3, [.int (ua 9 j), .int (ua 10 j), .int (ua 11 j)])) := by
  obtain ⟨hL, hf⟩ := h.2.2.2.2.2.1 j hj
  obtain ⟨k, e⟩ := va_pl_get (X := X) (f := f) hL
  exact ⟨k, by rw [e, hf]⟩
theorem rk4e {v : Int32} (h0 : ¬ v < 0) (h1 : v < 4) : VN 4 v := ⟨h0, fun h => absurd h1 (Int32.not_lt.mpr h)⟩
theorem rk4 {v : Int32} (h0 : ¬ v < 0) (h1 : v < 4) : v.toNatClampNeg < 4 ∧ vp_in v 4 := ⟨(rk4e h0 h1).lt (by decide), (rk4e h0 h1).vp (by decide) (by decide)⟩
theorem rk4n {v : Int32} {n : Nat} (hn : n ≤ 4) (h : v < 0 ∨ ¬ v < 4) : ¬ VN n v := by
  intro hv
  obtain ⟨j, hj, rfl⟩ := hv.ex (by omega)
  rcases h with h | h
  · exact hv.1 h
  · exact h (Int32.not_le.mp (show ¬ nI 4 ≤ nI j from nI_ge (by omega) (by decide)))
theorem rk4v {v : Int32} {n : Nat} (h0 : ¬ v < 0) (h1 : v < 4) (h : v.toNatClampNeg < n) (hn : n ≤ 4) : VN n v := by
  obtain ⟨j, hj, rfl⟩ := (rk4e h0 h1).ex (by decide)
  rw [nI_clamp (by omega)] at h
  exact ⟨h0, nI_ge h (by omega)⟩
theorem full20 {n : Nat} (hn : n ≤ 20) : (¬ nI n < 20) ↔ nI n = 20 := by
  constructor
  · intro h
    have h1 : 20 ≤ n := (nI_leI (a := 20) (b := n) (by omega) (by omega)).mp (show nI 20 ≤ nI n from Int32.not_lt.mp h)
    rw [show n = 20 by omega]; rfl
  · intro h; rw [h]; decide
theorem room20 {n : Nat} (hn : n ≤ 20) (h : nI n < 20) : n < 20 := by
  apply (Nat.lt_or_ge n 20).resolve_right
  intro h1
  rw [show n = 20 by omega] at h
  exact absurd h (by decide)
def tkF (f : Nat → Int32) (n t : Nat) : Int32 := if t < n then f t else 0
theorem tk_y {f : Nat → Int32} {n t : Nat} (h : t < n) : sumL (tkF f n) t + (f t).toInt64 = sumL (tkF f n) (t + 1) := by
  rw [show sumL (tkF f n) (t + 1) = sumL (tkF f n) t + (tkF f n t).toInt64 from rfl, tkF, if_pos h]
theorem tk_n {f : Nat → Int32} {n t : Nat} (h : ¬ t < n) : sumL (tkF f n) t + 0 = sumL (tkF f n) (t + 1) := by
  rw [show sumL (tkF f n) (t + 1) = sumL (tkF f n) t + (tkF f n t).toInt64 from rfl, tkF, if_neg h]; rfl
theorem cfAdd_4 {n : Nat} {kd : Nat → Int32} {par : Int32} {ok : Prop} [Decidable ok] (h1 : VN n par) (h2 : ok) (h3 : ¬ kd par.toNatClampNeg = 2) (h4 : nI n = 20) : cfAdd n kd par ok = 4 := by
  rw [cfAdd, if_neg (fun h => h h1), if_neg (fun h => h h2), if_neg h3, if_pos h4]
theorem cfAdd_3 {n : Nat} {kd : Nat → Int32} {par : Int32} {ok : Prop} [Decidable ok] (h1 : VN n par) (h2 : ok) (h3 : kd par.toNatClampNeg = 2) : cfAdd n kd par ok = 3 := by
  rw [cfAdd, if_neg (fun h => h h1), if_neg (fun h => h h2), if_pos h3]
theorem cfAdd_0 {n : Nat} {kd : Nat → Int32} {par : Int32} {ok : Prop} [Decidable ok] (h1 : VN n par) (h2 : ok) (h3 : ¬ kd par.toNatClampNeg = 2) (h4 : ¬ nI n = 20) : cfAdd n kd par ok = 0 := by
  rw [cfAdd, if_neg (fun h => h h1), if_neg (fun h => h h2), if_neg h3, if_neg h4]
def bvI (pv sg fi : Int32) : Nat → Int32
  | 0 => pv
  | k + 1 => bvV (bvI pv sg fi k) sg fi
def bbI (pv sg bo fi : Int32) : Nat → Int32
  | 0 => bo
  | k + 1 => bbV (bvI pv sg fi k) sg (bbI pv sg bo fi k) fi
def rkT (kd g wo : Nat → Int32) : Nat → Nat → Int32
  | 0 => wo
  | k + 1 => upd (rkT kd g wo k) k (if kd k = 2 then g k else -1)
theorem sumL_up (f : Nat → Int32) (n : Nat) (x : Int32) : ∀ m, m ≤ n → sumL (upd f n x) m = sumL f m := by
  intro m
  induction m with
  | zero => intro _; rfl
  | succ m ih =>
    intro h
    rw [show sumL (upd f n x) (m + 1) = sumL (upd f n x) m + (upd f n x m).toInt64 from rfl, show sumL f (m + 1) = sumL f m + (f m).toInt64 from rfl, ih (by omega), show upd f n x m = f m from by unfold upd; rw [if_neg (by omega)]]
theorem sumL_upd (f : Nat → Int32) (n : Nat) (x : Int32) : sumL f n + x.toInt64 = sumL (upd f n x) (n + 1) := by
  rw [show sumL (upd f n x) (n + 1) = sumL (upd f n x) n + (upd f n x n).toInt64 from rfl, sumL_up f n x n (Nat.le_refl n), show upd f n x n = x from by unfold upd; rw [if_pos rfl]]
theorem full30 {n : Nat} (hn : n ≤ 30) : (¬ nI n < 30) ↔ nI n = 30 := by
  constructor
  · intro h
    have h1 : 30 ≤ n := (nI_leI (a := 30) (b := n) (by omega) (by omega)).mp (show nI 30 ≤ nI n from Int32.not_lt.mp h)
    rw [show n = 30 by omega]; rfl
  · intro h; rw [h]; decide
theorem room30 {n : Nat} (hn : n ≤ 30) (h : nI n < 30) : n < 30 := by
  apply (Nat.lt_or_ge n 30).resolve_right
  intro h1
  rw [show n = 30 by omega] at h
  exact absurd h (by decide)
theorem PL_kset {A : Nat → Prop} {cA : Nat → ClassId} {un : Nat → Nat} {ua : Nat → Nat → Int32} {L : List Nat} {f : Nat → va_E} {tf kf : Nat → Option Nat} {ta ga ka : Nat → Nat} {X : va_W} (hD : va_D A (X ++ va_pl L f)) (h : PL cA un ua L f tf kf ta ga ka) {j k : Nat} (hj : j < un 2) (hk : (X ++ va_pl L f)[k]? = some (ka j, .inr (3, [.int (ua 9 j), .int (ua 10 j), .int (ua 11 j)]))) {e : va_E} : (X ++ va_pl L f).set k (ka j, e) = X ++ va_pl L (va_up f (ka j) e) := by
  obtain ⟨hL, hf⟩ := h.2.2.2.2.2.1 j hj
  exact va_pl_set hD hL (by rw [hk, hf])
section JD
variable {p : Program} {l : Launch} {e : Env} {R : Room} {s : State} {m : MethodId} {args : Array Value} {below : List Frame} {meth : Method} {c : Code} {D : va_G} {A : Nat → Prop} {nL : Nat}
variable {w : va_W} {k n : Nat} {Q : State → Prop} {pc : Nat} {lv : List (Nat × Value)} {st : List Value}
theorem j_hD (K : va_D A w → J p l e R s m args below meth c nL D A w k n Q pc lv st) : J p l e R s m args below meth c nL D A w k n Q pc lv st := fun H locs ls hP hD hS hls => K hD H locs ls hP hD hS hls
end JD
def cfLoadK (tk : Nat) (v z pv : Int32) (vo : Nat → Int32) : Int32 := if ¬ VN tk v then 1 else if ¬ RG 1 500 z then 2 else if ¬ z ≤ vo v.toNatClampNeg then 3 else if ¬ z ≤ 500 - pv then 4 else 0
/-! THE CLASS, method by method (printed by my own program gen_class.py) -/
set_option maxHeartbeats 4000000 in
set_option maxRecDepth 100000 in
theorem cC_X6_isOutside (l : Launch) (D : va_G) (cA : Nat → ClassId) (w : va_W) (v : Int32) (lo : Int32) (hi : Int32) : Ki l yX6_isOutside cX6_isOutside 3 .boolean 0 0 0 0 D cA [.int v, .int lo, .int hi] w (fun r w' => r = bI (¬ RG lo hi v) ∧ w' = w) := by
  refine ent_i (own := RX6) (lv0 := [(0, .int v), (1, .int lo), (2, .int hi)]) (by decide) rfl (Nat.le_of_ble_eq_true rfl) rfl ?_
  intro p e s m args below meth c A Q G hinit ret
  refine j_iload_n G dX6_isOutside_0 rfl 0 rfl ?_
  refine j_iload_n G dX6_isOutside_1 rfl 1 rfl ?_
  refine j_icmp_lt (tgt := 10) G dX6_isOutside_2 (by decide) (fun c2 => ?_) (fun c2 => ?_)
  · refine j_iconst (v := 1) G dX6_isOutside_10 (by decide) ?_
    refine j_goto (tgt := 15) G dX6_isOutside_11 (by decide) ?_
    exact ret _ _ _ _ dX6_isOutside_15 (by decide) ⟨(bI_t (fun h => h.1 c2)), rfl⟩
  · refine j_iload_n G dX6_isOutside_5 rfl 0 rfl ?_
    refine j_iload_n G dX6_isOutside_6 rfl 2 rfl ?_
    refine j_icmp_le (tgt := 14) G dX6_isOutside_7 (by decide) (fun c7 => ?_) (fun c7 => ?_)
    · refine j_iconst (v := 0) G dX6_isOutside_14 (by decide) ?_
      exact ret _ _ _ _ dX6_isOutside_15 (by decide) ⟨(bI_f (fun h => h ⟨c2, Int32.not_lt.mpr c7⟩)), rfl⟩
    · refine j_iconst (v := 1) G dX6_isOutside_10 (by decide) ?_
      refine j_goto (tgt := 15) G dX6_isOutside_11 (by decide) ?_
      exact ret _ _ _ _ dX6_isOutside_15 (by decide) ⟨(bI_t (fun h => h.2 (Int32.not_le.mp c7))), rfl⟩
set_option maxHeartbeats 4000000 in
set_option maxRecDepth 100000 in
theorem cC_X6_shareOfSugar (l : Launch) (D : va_G) (cA : Nat → ClassId) (w : va_W) (sg : Int32) (pt : Int32) (wh : Int32) : Ki l yX6_shareOfSugar cX6_shareOfSugar 3 .int 0 0 0 0 D cA [.int sg, .int pt, .int wh] w (fun r w' => r = shrV sg pt wh ∧ w' = w) := by
  refine ent_i (own := RX6) (lv0 := [(0, .int sg), (1, .int pt), (2, .int wh)]) (by decide) rfl (Nat.le_of_ble_eq_true rfl) rfl ?_
  intro p e s m args below meth c A Q G hinit ret
  refine j_iload_n G dX6_shareOfSugar_0 rfl 2 rfl ?_
  refine j_if_le (tgt := 9) G dX6_shareOfSugar_1 (by decide) (fun c1 => ?_) (fun c1 => ?_)
  · refine j_iload_n G dX6_shareOfSugar_9 rfl 0 rfl ?_
    exact ret _ _ _ _ dX6_shareOfSugar_10 rfl ⟨(by rw [shrV, if_pos (Or.inl c1)]), rfl⟩
  · refine j_iload_n G dX6_shareOfSugar_4 rfl 1 rfl ?_
    refine j_iload_n G dX6_shareOfSugar_5 rfl 2 rfl ?_
    refine j_icmp_lt (tgt := 11) G dX6_shareOfSugar_6 (by decide) (fun c6 => ?_) (fun c6 => ?_)
    · refine j_iload_n G dX6_shareOfSugar_11 rfl 0 rfl ?_
      refine j_i2l G dX6_shareOfSugar_12 ?_
      refine j_iload_n G dX6_shareOfSugar_13 rfl 1 rfl ?_
      refine j_i2l G dX6_shareOfSugar_14 ?_
      refine j_lmul G dX6_shareOfSugar_15 ?_
      refine j_iload_n G dX6_shareOfSugar_16 rfl 2 rfl ?_
      refine j_i2l G dX6_shareOfSugar_17 ?_
      refine j_ldiv G dX6_shareOfSugar_18 (ne0L c1) ?_
      refine j_l2i G dX6_shareOfSugar_19 ?_
      exact ret _ _ _ _ dX6_shareOfSugar_20 rfl ⟨(by rw [shrV, if_neg (fun h => h.elim c1 (fun h => absurd c6 (Int32.not_lt.mpr h)))]), rfl⟩
    · refine j_iload_n G dX6_shareOfSugar_9 rfl 0 rfl ?_
      exact ret _ _ _ _ dX6_shareOfSugar_10 rfl ⟨(by rw [shrV, if_pos (Or.inr (Int32.not_lt.mp c6))]), rfl⟩
set_option maxHeartbeats 4000000 in
set_option maxRecDepth 100000 in
theorem cC_X6_gradeAfter (l : Launch) (D : va_G) (cA : Nat → ClassId) (w : va_W) (b : Int32) : Ki l yX6_gradeAfter cX6_gradeAfter 1 .char 0 0 0 0 D cA [.int b] w (fun r w' => r = gradeV b ∧ w' = w) := by
  refine ent_i (own := RX6) (lv0 := [(0, .int b)]) (by decide) rfl (Nat.le_of_ble_eq_true rfl) rfl ?_
  intro p e s m args below meth c A Q G hinit ret
  refine j_iload_n G dX6_gradeAfter_0 rfl 0 rfl ?_
  refine j_iconst (v := 3) G dX6_gradeAfter_1 (by decide) ?_
  refine j_icmp_gt (tgt := 8) G dX6_gradeAfter_2 (by decide) (fun c2 => ?_) (fun c2 => ?_)
  · refine j_iload_n G dX6_gradeAfter_8 rfl 0 rfl ?_
    refine j_bipush (v := 8) G dX6_gradeAfter_9 (by decide) ?_
    refine j_icmp_gt (tgt := 19) G dX6_gradeAfter_11 (by decide) (fun c11 => ?_) (fun c11 => ?_)
    · refine j_bipush (v := 100) G dX6_gradeAfter_19 (by decide) ?_
      exact ret _ _ _ _ dX6_gradeAfter_21 (by decide) ⟨(show (100 : Int32) = gradeV b from by rw [gradeV, if_neg (Int32.not_le.mpr c2), if_neg (Int32.not_le.mpr c11)]), rfl⟩
    · refine j_bipush (v := 97) G dX6_gradeAfter_14 (by decide) ?_
      refine j_goto (tgt := 21) G dX6_gradeAfter_16 (by decide) ?_
      exact ret _ _ _ _ dX6_gradeAfter_21 (by decide) ⟨(show (97 : Int32) = gradeV b from by rw [gradeV, if_neg (Int32.not_le.mpr c2), if_pos (Int32.not_lt.mp c11)]), rfl⟩
  · refine j_bipush (v := 103) G dX6_gradeAfter_5 (by decide) ?_
    exact ret _ _ _ _ dX6_gradeAfter_7 (by decide) ⟨(show (103 : Int32) = gradeV b from by rw [gradeV, if_pos (Int32.not_lt.mp c2)]), rfl⟩
set_option maxHeartbeats 4000000 in
set_option maxRecDepth 100000 in
theorem cC_X1_leastVolume (l : Launch) (D : va_G) (cA : Nat → ClassId) (w : va_W) (i0 a : Nat) (pv : Int32) (sg : Int32) (bo : Int32) (he : w[i0]? = some (a, .inr (1, [.int pv, .int sg, .int bo]))) : Ki l yX1_leastVolume cX1_leastVolume 1 .int 0 0 0 0 D cA [.ref a] w (fun r w' => r = lstV sg ∧ w' = w) := by
  refine ent_i (own := RX1) (lv0 := [(0, .ref a)]) (by decide) rfl (Nat.le_of_ble_eq_true rfl) rfl ?_
  intro p e s m args below meth c A Q G hinit ret
  refine j_aload_n G dX1_leastVolume_0 rfl 0 rfl ?_
  refine gfX1_9 (v := .int sg) G i0 he rfl dX1_leastVolume_1 ?_
  refine j_bipush (v := 60) G dX1_leastVolume_4 (by decide) ?_
  refine j_iadd G dX1_leastVolume_6 ?_
  refine j_iconst (v := 1) G dX1_leastVolume_7 (by decide) ?_
  refine j_isub G dX1_leastVolume_8 ?_
  refine j_bipush (v := 60) G dX1_leastVolume_9 (by decide) ?_
  refine j_idiv G dX1_leastVolume_11 (by decide) ?_
  exact ret _ _ _ _ dX1_leastVolume_12 rfl ⟨rfl, rfl⟩
set_option maxHeartbeats 4000000 in
set_option maxRecDepth 100000 in
theorem cC_X1_isSyrup (l : Launch) (D : va_G) (cA : Nat → ClassId) (w : va_W) (i0 a : Nat) (pv : Int32) (sg : Int32) (bo : Int32) (he : w[i0]? = some (a, .inr (1, [.int pv, .int sg, .int bo]))) : Ki l yX1_isSyrup cX1_isSyrup 1 .boolean 1 20 0 0 D cA [.ref a] w (fun r w' => r = bI (dnP pv sg) ∧ w' = w) := by
  refine ent_i (own := RX1) (lv0 := [(0, .ref a)]) (by decide) rfl (Nat.le_of_ble_eq_true rfl) rfl ?_
  intro p e s m args below meth c A Q G hinit ret
  refine j_aload_n G dX1_isSyrup_0 rfl 0 rfl ?_
  refine gfX1_15 (v := .int pv) G i0 he rfl dX1_isSyrup_1 ?_
  refine j_if_le (tgt := 22) G dX1_isSyrup_4 (by decide) (fun c4 => ?_) (fun c4 => ?_)
  · refine j_iconst (v := 0) G dX1_isSyrup_22 (by decide) ?_
    exact ret _ _ _ _ dX1_isSyrup_23 (by decide) ⟨(by simp [bI, c4]), rfl⟩
  · refine j_aload_n G dX1_isSyrup_7 rfl 0 rfl ?_
    refine gfX1_15 (v := .int pv) G i0 he rfl dX1_isSyrup_8 ?_
    refine j_aload_n G dX1_isSyrup_11 rfl 0 rfl ?_
    refine jV_i G 1 i0 (cC_X1_leastVolume l D cA w i0 a pv sg bo he ) gX1_18 hd_X1_leastVolume ⟨Nat.le_of_ble_eq_true rfl, Nat.le_of_ble_eq_true rfl⟩ ⟨Nat.le_of_ble_eq_true rfl, Nat.le_of_ble_eq_true rfl⟩ rfl rfl (Nat.le_of_ble_eq_true rfl) rfl he dX1_isSyrup_12 (fun r w' hq9 => ?_)
    obtain ⟨hr9, hw9⟩ := hq9
    obtain rfl := hr9.symm
    obtain rfl := hw9.symm
    refine j_icmp_gt (tgt := 22) G dX1_isSyrup_15 (by decide) (fun c15 => ?_) (fun c15 => ?_)
    · refine j_iconst (v := 0) G dX1_isSyrup_22 (by decide) ?_
      exact ret _ _ _ _ dX1_isSyrup_23 (by decide) ⟨(by simp [bI, c4, c15]), rfl⟩
    · refine j_iconst (v := 1) G dX1_isSyrup_18 (by decide) ?_
      refine j_goto (tgt := 23) G dX1_isSyrup_19 (by decide) ?_
      exact ret _ _ _ _ dX1_isSyrup_23 (by decide) ⟨(by simp [bI, c4, c15]), rfl⟩
set_option maxHeartbeats 4000000 in
set_option maxRecDepth 100000 in
theorem cC_X1_fill (l : Launch) (D : va_G) (cA : Nat → ClassId) (w : va_W) (i0 a : Nat) (pv : Int32) (sg : Int32) (bo : Int32) (he : w[i0]? = some (a, .inr (1, [.int pv, .int sg, .int bo]))) (mv : Int32) (ms9 : Int32) : Kv l yX1_fill cX1_fill 3 0 0 0 0 D cA [.ref a, .int mv, .int ms9] w (fun w' => w' = (w.set i0 (a, .inr (1, [.int (pv + mv), .int (sg + ms9), .int bo])))) := by
  refine ent_v (own := RX1) (lv0 := [(0, .ref a), (1, .int mv), (2, .int ms9)]) (by decide) rfl (Nat.le_of_ble_eq_true rfl) rfl ?_
  intro p e s m args below meth c A Q G hinit ret
  refine j_aload_n G dX1_fill_0 rfl 0 rfl ?_
  refine j_dup G dX1_fill_1 rfl ?_
  refine gfX1_15 (v := .int pv) G i0 he rfl dX1_fill_2 ?_
  refine j_iload_n G dX1_fill_5 rfl 1 rfl ?_
  refine j_iadd G dX1_fill_6 ?_
  refine j_topi (fun x1 ex1 => ?_)
  refine pfX1_15 (w' := w.set i0 (a, .inr (1, [.int x1, .int sg, .int bo]))) G i0 he rfl (Nat.le_of_ble_eq_true rfl) dX1_fill_7 rfl rfl ?_
  refine j_aload_n G dX1_fill_10 rfl 0 rfl ?_
  refine j_dup G dX1_fill_11 rfl ?_
  refine gfX1_9 (v := .int sg) G i0 (set_at he) rfl dX1_fill_12 ?_
  refine j_iload_n G dX1_fill_15 rfl 2 rfl ?_
  refine j_iadd G dX1_fill_16 ?_
  refine j_topi (fun x2 ex2 => ?_)
  refine pfX1_9 (w' := w.set i0 (a, .inr (1, [.int x1, .int x2, .int bo]))) G i0 (set_at he) rfl (Nat.le_of_ble_eq_true rfl) dX1_fill_17 set2 rfl ?_
  subst ex2 ex1
  exact ret _ _ _ dX1_fill_20 rfl
set_option maxHeartbeats 4000000 in
set_option maxRecDepth 100000 in
theorem cC_X1_boil (l : Launch) (D : va_G) (cA : Nat → ClassId) (w : va_W) (i0 a : Nat) (pv : Int32) (sg : Int32) (bo : Int32) (he : w[i0]? = some (a, .inr (1, [.int pv, .int sg, .int bo]))) (lv9 : Int32) : Ki l yX1_boil cX1_boil 4 .int 1 40 0 0 D cA [.ref a, .int lv9] w (fun r w' => r = pv - bvV pv sg lv9 ∧ w' = (w.set i0 (a, .inr (1, [.int (bvV pv sg lv9), .int sg, .int (bbV pv sg bo lv9)])))) := by
  refine ent_i (own := RX1) (lv0 := [(0, .ref a), (1, .int lv9)]) (by decide) rfl (Nat.le_of_ble_eq_true rfl) rfl ?_
  intro p e s m args below meth c A Q G hinit ret
  refine j_aload_n G dX1_boil_0 rfl 0 rfl ?_
  refine gfX1_15 (v := .int pv) G i0 he rfl dX1_boil_1 ?_
  refine j_istore_n (lv' := [(2, .int pv), (0, .ref a), (1, .int lv9)]) G dX1_boil_4 rfl (by decide) rfl ?_
  refine j_aload_n G dX1_boil_5 rfl 1 rfl ?_
  refine jV_i G 1 i0 (cC_X1_leastVolume l D cA w i0 a pv sg bo he ) gX1_18 hd_X1_leastVolume ⟨Nat.le_of_ble_eq_true rfl, Nat.le_of_ble_eq_true rfl⟩ ⟨Nat.le_of_ble_eq_true rfl, Nat.le_of_ble_eq_true rfl⟩ rfl rfl (Nat.le_of_ble_eq_true rfl) rfl he dX1_boil_6 (fun r w' hq9 => ?_)
  obtain ⟨hr9, hw9⟩ := hq9
  obtain rfl := hr9.symm
  obtain rfl := hw9.symm
  refine j_iload_n G dX1_boil_9 rfl 0 rfl ?_
  refine j_iconst (v := 5) G dX1_boil_10 (by decide) ?_
  refine j_iload_n G dX1_boil_11 rfl 2 rfl ?_
  refine j_imul G dX1_boil_12 ?_
  refine j_isub G dX1_boil_13 ?_
  refine j_max G wd_677 ⟨Nat.le_of_ble_eq_true rfl, Nat.le_of_ble_eq_true rfl, Nat.le_of_ble_eq_true rfl, Nat.le_of_ble_eq_true rfl⟩ dX1_boil_14 ?_
  refine j_rwi (show _ = bdV pv sg lv9 from rfl) ?_
  refine j_istore_n (lv' := [(3, .int (bdV pv sg lv9)), (2, .int pv), (0, .ref a), (1, .int lv9)]) G dX1_boil_17 rfl (by decide) rfl ?_
  refine j_iload_n G dX1_boil_18 rfl 0 rfl ?_
  refine j_iload_n G dX1_boil_19 rfl 1 rfl ?_
  refine j_icmp_ge (tgt := 38) G dX1_boil_20 (by decide) (fun c20 => ?_) (fun c20 => ?_)
  · refine j_iload_n G dX1_boil_38 rfl 1 rfl ?_
    refine j_aload_n G dX1_boil_39 rfl 2 rfl ?_
    refine gfX1_15 (v := .int pv) G i0 he rfl dX1_boil_40 ?_
    refine j_isub G dX1_boil_43 ?_
    exact ret _ _ _ _ dX1_boil_44 rfl ⟨(show pv - pv = pv - bvV pv sg lv9 from by rw [bvV, if_neg (Int32.not_lt.mpr c20)]), (by rw [show bvV pv sg lv9 = pv from by rw [bvV, if_neg (Int32.not_lt.mpr c20)], show bbV pv sg bo lv9 = bo from by rw [bbV, if_neg (Int32.not_lt.mpr c20)]]; exact (set_id he).symm)⟩
  · refine j_aload_n G dX1_boil_23 rfl 2 rfl ?_
    refine j_iload_n G dX1_boil_24 rfl 0 rfl ?_
    refine pfX1_15 (w' := w.set i0 (a, .inr (1, [.int (bdV pv sg lv9), .int sg, .int bo]))) G i0 he rfl (Nat.le_of_ble_eq_true rfl) dX1_boil_25 rfl rfl ?_
    refine j_aload_n G dX1_boil_28 rfl 2 rfl ?_
    refine j_dup G dX1_boil_29 rfl ?_
    refine gfX1_28 (v := .int bo) G i0 (set_at he) rfl dX1_boil_30 ?_
    refine j_iconst (v := 1) G dX1_boil_33 (by decide) ?_
    refine j_iadd G dX1_boil_34 ?_
    refine j_topi (fun x1 ex1 => ?_)
    refine pfX1_28 (w' := w.set i0 (a, .inr (1, [.int (bdV pv sg lv9), .int sg, .int x1]))) G i0 (set_at he) rfl (Nat.le_of_ble_eq_true rfl) dX1_boil_35 set2 rfl ?_
    refine j_iload_n G dX1_boil_38 rfl 1 rfl ?_
    refine j_aload_n G dX1_boil_39 rfl 2 rfl ?_
    refine gfX1_15 (v := .int (bdV pv sg lv9)) G i0 (set_at he) rfl dX1_boil_40 ?_
    refine j_isub G dX1_boil_43 ?_
    subst ex1
    exact ret _ _ _ _ dX1_boil_44 rfl ⟨(show pv - bdV pv sg lv9 = pv - bvV pv sg lv9 from by rw [bvV, if_pos (Int32.not_le.mp c20)]), (by rw [show bvV pv sg lv9 = bdV pv sg lv9 from by rw [bvV, if_pos (Int32.not_le.mp c20)], show bbV pv sg bo lv9 = bo + 1 from by rw [bbV, if_pos (Int32.not_le.mp c20)]])⟩
set_option maxHeartbeats 4000000 in
set_option maxRecDepth 100000 in
theorem cC_X1_copy (l : Launch) (D : va_G) (cA : Nat → ClassId) (w : va_W) (i0 a : Nat) (pv : Int32) (sg : Int32) (bo : Int32) (he : w[i0]? = some (a, .inr (1, [.int pv, .int sg, .int bo]))) (i1 : Nat) (pv2 : Int32) (sg2 : Int32) (bo2 : Int32) (b9 : Nat) (he1 : w[i1]? = some (b9, .inr (1, [.int pv2, .int sg2, .int bo2]))) (h01 : i0 ≠ i1) : Kv l yX1_copy cX1_copy 2 0 0 0 0 D cA [.ref a, .ref b9] w (fun w' => w' = (w.set i0 (a, .inr (1, [.int pv2, .int sg2, .int bo2])))) := by
  refine ent_v (own := RX1) (lv0 := [(0, .ref a), (1, .ref b9)]) (by decide) rfl (Nat.le_of_ble_eq_true rfl) rfl ?_
  intro p e s m args below meth c A Q G hinit ret
  refine j_aload_n G dX1_copy_0 rfl 0 rfl ?_
  refine j_aload_n G dX1_copy_1 rfl 1 rfl ?_
  refine gfX1_15 (v := .int pv2) G i1 he1 rfl dX1_copy_2 ?_
  refine pfX1_15 (w' := w.set i0 (a, .inr (1, [.int pv2, .int sg, .int bo]))) G i0 he rfl (Nat.le_of_ble_eq_true rfl) dX1_copy_5 rfl rfl ?_
  refine j_aload_n G dX1_copy_8 rfl 0 rfl ?_
  refine j_aload_n G dX1_copy_9 rfl 1 rfl ?_
  refine gfX1_9 (v := .int sg2) G i1 (set_ne1 h01 he1) rfl dX1_copy_10 ?_
  refine pfX1_9 (w' := w.set i0 (a, .inr (1, [.int pv2, .int sg2, .int bo]))) G i0 (set_at he) rfl (Nat.le_of_ble_eq_true rfl) dX1_copy_13 set2 rfl ?_
  refine j_aload_n G dX1_copy_16 rfl 0 rfl ?_
  refine j_aload_n G dX1_copy_17 rfl 1 rfl ?_
  refine gfX1_28 (v := .int bo2) G i1 (set_ne1 h01 he1) rfl dX1_copy_18 ?_
  refine pfX1_28 (w' := w.set i0 (a, .inr (1, [.int pv2, .int sg2, .int bo2]))) G i0 (set_at he) rfl (Nat.le_of_ble_eq_true rfl) dX1_copy_21 set2 rfl ?_
  exact ret _ _ _ dX1_copy_24 rfl
set_option maxHeartbeats 4000000 in
set_option maxRecDepth 100000 in
theorem cC_X1_clear (l : Launch) (D : va_G) (cA : Nat → ClassId) (w : va_W) (i0 a : Nat) (pv : Int32) (sg : Int32) (bo : Int32) (he : w[i0]? = some (a, .inr (1, [.int pv, .int sg, .int bo]))) : Kv l yX1_clear cX1_clear 1 0 0 0 0 D cA [.ref a] w (fun w' => w' = (w.set i0 (a, .inr (1, [.int 0, .int 0, .int 0])))) := by
  refine ent_v (own := RX1) (lv0 := [(0, .ref a)]) (by decide) rfl (Nat.le_of_ble_eq_true rfl) rfl ?_
  intro p e s m args below meth c A Q G hinit ret
  refine j_aload_n G dX1_clear_0 rfl 0 rfl ?_
  refine j_iconst (v := 0) G dX1_clear_1 (by decide) ?_
  refine pfX1_15 (w' := w.set i0 (a, .inr (1, [.int 0, .int sg, .int bo]))) G i0 he rfl (Nat.le_of_ble_eq_true rfl) dX1_clear_2 rfl rfl ?_
  refine j_aload_n G dX1_clear_5 rfl 0 rfl ?_
  refine j_iconst (v := 0) G dX1_clear_6 (by decide) ?_
  refine pfX1_9 (w' := w.set i0 (a, .inr (1, [.int 0, .int 0, .int bo]))) G i0 (set_at he) rfl (Nat.le_of_ble_eq_true rfl) dX1_clear_7 set2 rfl ?_
  refine j_aload_n G dX1_clear_10 rfl 0 rfl ?_
  refine j_iconst (v := 0) G dX1_clear_11 (by decide) ?_
  refine pfX1_28 (w' := w.set i0 (a, .inr (1, [.int 0, .int 0, .int 0]))) G i0 (set_at he) rfl (Nat.le_of_ble_eq_true rfl) dX1_clear_12 set2 rfl ?_
  exact ret _ _ _ dX1_clear_15 rfl
set_option maxHeartbeats 4000000 in
set_option maxRecDepth 100000 in
theorem cC_X3_room (l : Launch) (D : va_G) (cA : Nat → ClassId) (w : va_W) (i0 a : Nat) (cp : Int32) (vo : Int32) (su : Int32) (he : w[i0]? = some (a, .inr (3, [.int cp, .int vo, .int su]))) : Ki l yX3_room cX3_room 1 .int 0 0 0 0 D cA [.ref a] w (fun r w' => r = cp - vo ∧ w' = w) := by
  refine ent_i (own := RX3) (lv0 := [(0, .ref a)]) (by decide) rfl (Nat.le_of_ble_eq_true rfl) rfl ?_
  intro p e s m args below meth c A Q G hinit ret
  refine j_aload_n G dX3_room_0 rfl 0 rfl ?_
  refine gfX3_7 (v := .int cp) G i0 he rfl dX3_room_1 ?_
  refine j_aload_n G dX3_room_4 rfl 0 rfl ?_
  refine gfX3_13 (v := .int vo) G i0 he rfl dX3_room_5 ?_
  refine j_isub G dX3_room_8 ?_
  exact ret _ _ _ _ dX3_room_9 rfl ⟨rfl, rfl⟩
set_option maxHeartbeats 4000000 in
set_option maxRecDepth 100000 in
theorem cC_X3_putIn (l : Launch) (D : va_G) (cA : Nat → ClassId) (w : va_W) (i0 a : Nat) (cp : Int32) (vo : Int32) (su : Int32) (he : w[i0]? = some (a, .inr (3, [.int cp, .int vo, .int su]))) (mv : Int32) (ms9 : Int32) : Kv l yX3_putIn cX3_putIn 3 0 0 0 0 D cA [.ref a, .int mv, .int ms9] w (fun w' => w' = (w.set i0 (a, .inr (3, [.int cp, .int (vo + mv), .int (su + ms9)])))) := by
  refine ent_v (own := RX3) (lv0 := [(0, .ref a), (1, .int mv), (2, .int ms9)]) (by decide) rfl (Nat.le_of_ble_eq_true rfl) rfl ?_
  intro p e s m args below meth c A Q G hinit ret
  refine j_aload_n G dX3_putIn_0 rfl 0 rfl ?_
  refine j_dup G dX3_putIn_1 rfl ?_
  refine gfX3_13 (v := .int vo) G i0 he rfl dX3_putIn_2 ?_
  refine j_iload_n G dX3_putIn_5 rfl 1 rfl ?_
  refine j_iadd G dX3_putIn_6 ?_
  refine j_topi (fun x1 ex1 => ?_)
  refine pfX3_13 (w' := w.set i0 (a, .inr (3, [.int cp, .int x1, .int su]))) G i0 he rfl (Nat.le_of_ble_eq_true rfl) dX3_putIn_7 rfl rfl ?_
  refine j_aload_n G dX3_putIn_10 rfl 0 rfl ?_
  refine j_dup G dX3_putIn_11 rfl ?_
  refine gfX3_16 (v := .int su) G i0 (set_at he) rfl dX3_putIn_12 ?_
  refine j_iload_n G dX3_putIn_15 rfl 2 rfl ?_
  refine j_iadd G dX3_putIn_16 ?_
  refine j_topi (fun x2 ex2 => ?_)
  refine pfX3_16 (w' := w.set i0 (a, .inr (3, [.int cp, .int x1, .int x2]))) G i0 (set_at he) rfl (Nat.le_of_ble_eq_true rfl) dX3_putIn_17 set2 rfl ?_
  subst ex2 ex1
  exact ret _ _ _ dX3_putIn_20 rfl
set_option maxHeartbeats 4000000 in
set_option maxRecDepth 100000 in
theorem cC_X3_takeOut (l : Launch) (D : va_G) (cA : Nat → ClassId) (w : va_W) (i0 a : Nat) (cp : Int32) (vo : Int32) (su : Int32) (he : w[i0]? = some (a, .inr (3, [.int cp, .int vo, .int su]))) (mv : Int32) (ms9 : Int32) : Kv l yX3_takeOut cX3_takeOut 3 0 0 0 0 D cA [.ref a, .int mv, .int ms9] w (fun w' => w' = (w.set i0 (a, .inr (3, [.int cp, .int (vo - mv), .int (su - ms9)])))) := by
  refine ent_v (own := RX3) (lv0 := [(0, .ref a), (1, .int mv), (2, .int ms9)]) (by decide) rfl (Nat.le_of_ble_eq_true rfl) rfl ?_
  intro p e s m args below meth c A Q G hinit ret
  refine j_aload_n G dX3_takeOut_0 rfl 0 rfl ?_
  refine j_dup G dX3_takeOut_1 rfl ?_
  refine gfX3_13 (v := .int vo) G i0 he rfl dX3_takeOut_2 ?_
  refine j_iload_n G dX3_takeOut_5 rfl 1 rfl ?_
  refine j_isub G dX3_takeOut_6 ?_
  refine j_topi (fun x1 ex1 => ?_)
  refine pfX3_13 (w' := w.set i0 (a, .inr (3, [.int cp, .int x1, .int su]))) G i0 he rfl (Nat.le_of_ble_eq_true rfl) dX3_takeOut_7 rfl rfl ?_
  refine j_aload_n G dX3_takeOut_10 rfl 0 rfl ?_
  refine j_dup G dX3_takeOut_11 rfl ?_
  refine gfX3_16 (v := .int su) G i0 (set_at he) rfl dX3_takeOut_12 ?_
  refine j_iload_n G dX3_takeOut_15 rfl 2 rfl ?_
  refine j_isub G dX3_takeOut_16 ?_
  refine j_topi (fun x2 ex2 => ?_)
  refine pfX3_16 (w' := w.set i0 (a, .inr (3, [.int cp, .int x1, .int x2]))) G i0 (set_at he) rfl (Nat.le_of_ble_eq_true rfl) dX3_takeOut_17 set2 rfl ?_
  subst ex2 ex1
  exact ret _ _ _ dX3_takeOut_20 rfl
set_option maxHeartbeats 4000000 in
set_option maxRecDepth 100000 in
theorem cC_X0_addSap (l : Launch) (D : va_G) (cA : Nat → ClassId) (q : Nat → Nat) (un : Nat → Nat) (ui : Nat → Int32) (ul : Nat → Int64) (ua : Nat → Nat → Int32) (vc ex wo tp : Nat → Int32) (tf kf : Nat → Option Nat) (L : List Nat) (f : Nat → va_E) (v : Int32) (z : Int32) : Kv l yX0_addSap cX0_addSap 3 0 0 0 0 D cA [.ref (q 14), .int v, .int z] (cF cA q un ui ul ua vc ex wo tp tf kf ++ va_pl L f) (fun w' => w' = (cF cA q un ui (up (up ul 0 (ul 0 + v.toInt64)) 1 (ul 1 + z.toInt64)) ua vc ex wo tp tf kf ++ va_pl L f)) := by
  refine ent_v (own := RX0) (lv0 := [(0, .ref (q 14)), (1, .int v), (2, .int z)]) (by decide) rfl (Nat.le_of_ble_eq_true rfl) rfl ?_
  intro p e s m args below meth c A Q G hinit ret
  refine j_aload_n G dX0_addSap_0 rfl 0 rfl ?_
  refine j_dup G dX0_addSap_1 rfl ?_
  refine gfX0_7 (v := .long (ul 0)) G 14 rfl rfl dX0_addSap_2 ?_
  refine j_iload_n G dX0_addSap_5 rfl 1 rfl ?_
  refine j_i2l G dX0_addSap_6 ?_
  refine j_ladd G dX0_addSap_7 ?_
  refine j_topl (fun x1 ex1 => ?_)
  refine pfX0_7 (w' := cF cA q un ui (up ul 0 x1) ua vc ex wo tp tf kf ++ va_pl L f) G 14 rfl rfl (Nat.le_of_ble_eq_true rfl) dX0_addSap_8 rfl rfl ?_
  refine j_aload_n G dX0_addSap_11 rfl 0 rfl ?_
  refine j_dup G dX0_addSap_12 rfl ?_
  refine gfX0_13 (v := .long (ul 1)) G 14 rfl rfl dX0_addSap_13 ?_
  refine j_iload_n G dX0_addSap_16 rfl 2 rfl ?_
  refine j_i2l G dX0_addSap_17 ?_
  refine j_ladd G dX0_addSap_18 ?_
  refine j_topl (fun x2 ex2 => ?_)
  refine pfX0_13 (w' := cF cA q un ui (up (up ul 0 x1) 1 x2) ua vc ex wo tp tf kf ++ va_pl L f) G 14 rfl rfl (Nat.le_of_ble_eq_true rfl) dX0_addSap_19 rfl rfl ?_
  subst ex2 ex1
  exact ret _ _ _ dX0_addSap_22 rfl
set_option maxHeartbeats 4000000 in
set_option maxRecDepth 100000 in
theorem cC_X0_addSteam (l : Launch) (D : va_G) (cA : Nat → ClassId) (q : Nat → Nat) (un : Nat → Nat) (ui : Nat → Int32) (ul : Nat → Int64) (ua : Nat → Nat → Int32) (vc ex wo tp : Nat → Int32) (tf kf : Nat → Option Nat) (L : List Nat) (f : Nat → va_E) (v : Int32) : Kv l yX0_addSteam cX0_addSteam 2 0 0 0 0 D cA [.ref (q 14), .int v] (cF cA q un ui ul ua vc ex wo tp tf kf ++ va_pl L f) (fun w' => w' = (cF cA q un ui (up ul 2 (ul 2 + v.toInt64)) ua vc ex wo tp tf kf ++ va_pl L f)) := by
  refine ent_v (own := RX0) (lv0 := [(0, .ref (q 14)), (1, .int v)]) (by decide) rfl (Nat.le_of_ble_eq_true rfl) rfl ?_
  intro p e s m args below meth c A Q G hinit ret
  refine j_aload_n G dX0_addSteam_0 rfl 0 rfl ?_
  refine j_dup G dX0_addSteam_1 rfl ?_
  refine gfX0_16 (v := .long (ul 2)) G 14 rfl rfl dX0_addSteam_2 ?_
  refine j_iload_n G dX0_addSteam_5 rfl 1 rfl ?_
  refine j_i2l G dX0_addSteam_6 ?_
  refine j_ladd G dX0_addSteam_7 ?_
  refine j_topl (fun x1 ex1 => ?_)
  refine pfX0_16 (w' := cF cA q un ui (up ul 2 x1) ua vc ex wo tp tf kf ++ va_pl L f) G 14 rfl rfl (Nat.le_of_ble_eq_true rfl) dX0_addSteam_8 rfl rfl ?_
  subst ex1
  exact ret _ _ _ dX0_addSteam_11 rfl
set_option maxHeartbeats 4000000 in
set_option maxRecDepth 100000 in
theorem cC_X0_addLoss (l : Launch) (D : va_G) (cA : Nat → ClassId) (q : Nat → Nat) (un : Nat → Nat) (ui : Nat → Int32) (ul : Nat → Int64) (ua : Nat → Nat → Int32) (vc ex wo tp : Nat → Int32) (tf kf : Nat → Option Nat) (L : List Nat) (f : Nat → va_E) (v : Int32) (z : Int32) : Kv l yX0_addLoss cX0_addLoss 3 0 0 0 0 D cA [.ref (q 14), .int v, .int z] (cF cA q un ui ul ua vc ex wo tp tf kf ++ va_pl L f) (fun w' => w' = (cF cA q un ui (up (up ul 3 (ul 3 + v.toInt64)) 4 (ul 4 + z.toInt64)) ua vc ex wo tp tf kf ++ va_pl L f)) := by
  refine ent_v (own := RX0) (lv0 := [(0, .ref (q 14)), (1, .int v), (2, .int z)]) (by decide) rfl (Nat.le_of_ble_eq_true rfl) rfl ?_
  intro p e s m args below meth c A Q G hinit ret
  refine j_aload_n G dX0_addLoss_0 rfl 0 rfl ?_
  refine j_dup G dX0_addLoss_1 rfl ?_
  refine gfX0_19 (v := .long (ul 3)) G 14 rfl rfl dX0_addLoss_2 ?_
  refine j_iload_n G dX0_addLoss_5 rfl 1 rfl ?_
  refine j_i2l G dX0_addLoss_6 ?_
  refine j_ladd G dX0_addLoss_7 ?_
  refine j_topl (fun x1 ex1 => ?_)
  refine pfX0_19 (w' := cF cA q un ui (up ul 3 x1) ua vc ex wo tp tf kf ++ va_pl L f) G 14 rfl rfl (Nat.le_of_ble_eq_true rfl) dX0_addLoss_8 rfl rfl ?_
  refine j_aload_n G dX0_addLoss_11 rfl 0 rfl ?_
  refine j_dup G dX0_addLoss_12 rfl ?_
  refine gfX0_22 (v := .long (ul 4)) G 14 rfl rfl dX0_addLoss_13 ?_
  refine j_iload_n G dX0_addLoss_16 rfl 2 rfl ?_
  refine j_i2l G dX0_addLoss_17 ?_
  refine j_ladd G dX0_addLoss_18 ?_
  refine j_topl (fun x2 ex2 => ?_)
  refine pfX0_22 (w' := cF cA q un ui (up (up ul 3 x1) 4 x2) ua vc ex wo tp tf kf ++ va_pl L f) G 14 rfl rfl (Nat.le_of_ble_eq_true rfl) dX0_addLoss_19 rfl rfl ?_
  subst ex2 ex1
  exact ret _ _ _ dX0_addLoss_22 rfl
set_option maxHeartbeats 4000000 in
set_option maxRecDepth 100000 in
theorem cC_X2_size (l : Launch) (D : va_G) (cA : Nat → ClassId) (q : Nat → Nat) (un : Nat → Nat) (ui : Nat → Int32) (ul : Nat → Int64) (ua : Nat → Nat → Int32) (vc ex wo tp : Nat → Int32) (tf kf : Nat → Option Nat) (L : List Nat) (f : Nat → va_E) : Ki l yX2_size cX2_size 1 .int 0 0 0 0 D cA [.ref (q 11)] (cF cA q un ui ul ua vc ex wo tp tf kf ++ va_pl L f) (fun r w' => r = nI (un 3) ∧ w' = (cF cA q un ui ul ua vc ex wo tp tf kf ++ va_pl L f)) := by
  refine ent_i (own := RX2) (lv0 := [(0, .ref (q 11))]) (by decide) rfl (Nat.le_of_ble_eq_true rfl) rfl ?_
  intro p e s m args below meth c A Q G hinit ret
  refine j_aload_n G dX2_size_0 rfl 0 rfl ?_
  refine gfX2_19 (v := .int (nI (un 3))) G 11 rfl rfl dX2_size_1 ?_
  exact ret _ _ _ _ dX2_size_4 rfl ⟨rfl, rfl⟩
set_option maxHeartbeats 4000000 in
set_option maxRecDepth 100000 in
theorem cC_X2_isFull (l : Launch) (D : va_G) (cA : Nat → ClassId) (q : Nat → Nat) (un : Nat → Nat) (ui : Nat → Int32) (ul : Nat → Int64) (ua : Nat → Nat → Int32) (vc ex wo tp : Nat → Int32) (tf kf : Nat → Option Nat) (L : List Nat) (f : Nat → va_E) : Ki l yX2_isFull cX2_isFull 1 .boolean 0 0 0 0 D cA [.ref (q 11)] (cF cA q un ui ul ua vc ex wo tp tf kf ++ va_pl L f) (fun r w' => r = bI (¬ nI (un 3) < 30) ∧ w' = (cF cA q un ui ul ua vc ex wo tp tf kf ++ va_pl L f)) := by
  refine ent_i (own := RX2) (lv0 := [(0, .ref (q 11))]) (by decide) rfl (Nat.le_of_ble_eq_true rfl) rfl ?_
  intro p e s m args below meth c A Q G hinit ret
  refine j_aload_n G dX2_isFull_0 rfl 0 rfl ?_
  refine gfX2_19 (v := .int (nI (un 3))) G 11 rfl rfl dX2_isFull_1 ?_
  refine j_bipush (v := 30) G dX2_isFull_4 (by decide) ?_
  refine j_icmp_lt (tgt := 13) G dX2_isFull_6 (by decide) (fun c6 => ?_) (fun c6 => ?_)
  · refine j_iconst (v := 0) G dX2_isFull_13 (by decide) ?_
    exact ret _ _ _ _ dX2_isFull_14 (by decide) ⟨(by simp [bI, c6]), rfl⟩
  · refine j_iconst (v := 1) G dX2_isFull_9 (by decide) ?_
    refine j_goto (tgt := 14) G dX2_isFull_10 (by decide) ?_
    exact ret _ _ _ _ dX2_isFull_14 (by decide) ⟨(by simp [bI, c6]), rfl⟩
set_option maxHeartbeats 4000000 in
set_option maxRecDepth 100000 in
theorem cC_X2_has (l : Launch) (D : va_G) (cA : Nat → ClassId) (q : Nat → Nat) (un : Nat → Nat) (ui : Nat → Int32) (ul : Nat → Int64) (ua : Nat → Nat → Int32) (vc ex wo tp : Nat → Int32) (tf kf : Nat → Option Nat) (L : List Nat) (f : Nat → va_E) (v : Int32) : Ki l yX2_has cX2_has 2 .boolean 0 0 0 0 D cA [.ref (q 11), .int v] (cF cA q un ui ul ua vc ex wo tp tf kf ++ va_pl L f) (fun r w' => r = bI (VN (un 3) v) ∧ w' = (cF cA q un ui ul ua vc ex wo tp tf kf ++ va_pl L f)) := by
  refine ent_i (own := RX2) (lv0 := [(0, .ref (q 11)), (1, .int v)]) (by decide) rfl (Nat.le_of_ble_eq_true rfl) rfl ?_
  intro p e s m args below meth c A Q G hinit ret
  refine j_iload_n G dX2_has_0 rfl 1 rfl ?_
  refine j_if_lt (tgt := 16) G dX2_has_1 (by decide) (fun c1 => ?_) (fun c1 => ?_)
  · refine j_iconst (v := 0) G dX2_has_16 (by decide) ?_
    exact ret _ _ _ _ dX2_has_17 (by decide) ⟨(by simp [bI, c1]), rfl⟩
  · refine j_iload_n G dX2_has_4 rfl 1 rfl ?_
    refine j_aload_n G dX2_has_5 rfl 0 rfl ?_
    refine gfX2_19 (v := .int (nI (un 3))) G 11 rfl rfl dX2_has_6 ?_
    refine j_icmp_ge (tgt := 16) G dX2_has_9 (by decide) (fun c9 => ?_) (fun c9 => ?_)
    · refine j_iconst (v := 0) G dX2_has_16 (by decide) ?_
      exact ret _ _ _ _ dX2_has_17 (by decide) ⟨(by simp [bI, c1, c9]), rfl⟩
    · refine j_iconst (v := 1) G dX2_has_12 (by decide) ?_
      refine j_goto (tgt := 17) G dX2_has_13 (by decide) ?_
      exact ret _ _ _ _ dX2_has_17 (by decide) ⟨(by simp [bI, c1, c9]), rfl⟩
set_option maxHeartbeats 4000000 in
set_option maxRecDepth 100000 in
theorem cC_X5_size (l : Launch) (D : va_G) (cA : Nat → ClassId) (q : Nat → Nat) (un : Nat → Nat) (ui : Nat → Int32) (ul : Nat → Int64) (ua : Nat → Nat → Int32) (vc ex wo tp : Nat → Int32) (tf kf : Nat → Option Nat) (L : List Nat) (f : Nat → va_E) : Ki l yX5_size cX5_size 1 .int 0 0 0 0 D cA [.ref (q 1)] (cF cA q un ui ul ua vc ex wo tp tf kf ++ va_pl L f) (fun r w' => r = nI (un 0) ∧ w' = (cF cA q un ui ul ua vc ex wo tp tf kf ++ va_pl L f)) := by
  refine ent_i (own := RX5) (lv0 := [(0, .ref (q 1))]) (by decide) rfl (Nat.le_of_ble_eq_true rfl) rfl ?_
  intro p e s m args below meth c A Q G hinit ret
  refine j_aload_n G dX5_size_0 rfl 0 rfl ?_
  refine gfX5_27 (v := .int (nI (un 0))) G 1 rfl rfl dX5_size_1 ?_
  exact ret _ _ _ _ dX5_size_4 rfl ⟨rfl, rfl⟩
set_option maxHeartbeats 4000000 in
set_option maxRecDepth 100000 in
theorem cC_X5_has (l : Launch) (D : va_G) (cA : Nat → ClassId) (q : Nat → Nat) (un : Nat → Nat) (ui : Nat → Int32) (ul : Nat → Int64) (ua : Nat → Nat → Int32) (vc ex wo tp : Nat → Int32) (tf kf : Nat → Option Nat) (L : List Nat) (f : Nat → va_E) (v : Int32) : Ki l yX5_has cX5_has 2 .boolean 0 0 0 0 D cA [.ref (q 1), .int v] (cF cA q un ui ul ua vc ex wo tp tf kf ++ va_pl L f) (fun r w' => r = bI (VN (un 0) v) ∧ w' = (cF cA q un ui ul ua vc ex wo tp tf kf ++ va_pl L f)) := by
  refine ent_i (own := RX5) (lv0 := [(0, .ref (q 1)), (1, .int v)]) (by decide) rfl (Nat.le_of_ble_eq_true rfl) rfl ?_
  intro p e s m args below meth c A Q G hinit ret
  refine j_iload_n G dX5_has_0 rfl 1 rfl ?_
  refine j_if_lt (tgt := 16) G dX5_has_1 (by decide) (fun c1 => ?_) (fun c1 => ?_)
  · refine j_iconst (v := 0) G dX5_has_16 (by decide) ?_
    exact ret _ _ _ _ dX5_has_17 (by decide) ⟨(by simp [bI, c1]), rfl⟩
  · refine j_iload_n G dX5_has_4 rfl 1 rfl ?_
    refine j_aload_n G dX5_has_5 rfl 0 rfl ?_
    refine gfX5_27 (v := .int (nI (un 0))) G 1 rfl rfl dX5_has_6 ?_
    refine j_icmp_ge (tgt := 16) G dX5_has_9 (by decide) (fun c9 => ?_) (fun c9 => ?_)
    · refine j_iconst (v := 0) G dX5_has_16 (by decide) ?_
      exact ret _ _ _ _ dX5_has_17 (by decide) ⟨(by simp [bI, c1, c9]), rfl⟩
    · refine j_iconst (v := 1) G dX5_has_12 (by decide) ?_
      refine j_goto (tgt := 17) G dX5_has_13 (by decide) ?_
      exact ret _ _ _ _ dX5_has_17 (by decide) ⟨(by simp [bI, c1, c9]), rfl⟩
set_option maxHeartbeats 4000000 in
set_option maxRecDepth 100000 in
theorem cC_X5_isFull (l : Launch) (D : va_G) (cA : Nat → ClassId) (q : Nat → Nat) (un : Nat → Nat) (ui : Nat → Int32) (ul : Nat → Int64) (ua : Nat → Nat → Int32) (vc ex wo tp : Nat → Int32) (tf kf : Nat → Option Nat) (L : List Nat) (f : Nat → va_E) : Ki l yX5_isFull cX5_isFull 1 .boolean 0 0 0 0 D cA [.ref (q 1)] (cF cA q un ui ul ua vc ex wo tp tf kf ++ va_pl L f) (fun r w' => r = bI (¬ nI (un 0) < 20) ∧ w' = (cF cA q un ui ul ua vc ex wo tp tf kf ++ va_pl L f)) := by
  refine ent_i (own := RX5) (lv0 := [(0, .ref (q 1))]) (by decide) rfl (Nat.le_of_ble_eq_true rfl) rfl ?_
  intro p e s m args below meth c A Q G hinit ret
  refine j_aload_n G dX5_isFull_0 rfl 0 rfl ?_
  refine gfX5_27 (v := .int (nI (un 0))) G 1 rfl rfl dX5_isFull_1 ?_
  refine j_bipush (v := 20) G dX5_isFull_4 (by decide) ?_
  refine j_icmp_lt (tgt := 13) G dX5_isFull_6 (by decide) (fun c6 => ?_) (fun c6 => ?_)
  · refine j_iconst (v := 0) G dX5_isFull_13 (by decide) ?_
    exact ret _ _ _ _ dX5_isFull_14 (by decide) ⟨(by simp [bI, c6]), rfl⟩
  · refine j_iconst (v := 1) G dX5_isFull_9 (by decide) ?_
    refine j_goto (tgt := 14) G dX5_isFull_10 (by decide) ?_
    exact ret _ _ _ _ dX5_isFull_14 (by decide) ⟨(by simp [bI, c6]), rfl⟩
set_option maxHeartbeats 4000000 in
set_option maxRecDepth 100000 in
theorem cC_X5_join (l : Launch) (D : va_G) (cA : Nat → ClassId) (q : Nat → Nat) (un : Nat → Nat) (ui : Nat → Int32) (ul : Nat → Int64) (ua : Nat → Nat → Int32) (vc ex wo tp : Nat → Int32) (tf kf : Nat → Option Nat) (L : List Nat) (f : Nat → va_E) (pr : Int32) (dp : Int32) (hn0 : un 0 < 20) : Ki l yX5_join cX5_join 4 .int 0 0 0 0 D cA [.ref (q 1), .int pr, .int dp] (cF cA q un ui ul ua vc ex wo tp tf kf ++ va_pl L f) (fun r w' => r = nI (un 0) ∧ w' = (cF cA q (up un 0 (un 0 + 1)) ui ul (up (up ua 1 (upd (ua 1) (un 0) pr)) 2 (upd (ua 2) (un 0) dp)) vc ex wo tp tf kf ++ va_pl L f)) := by
  refine ent_i (own := RX5) (lv0 := [(0, .ref (q 1)), (1, .int pr), (2, .int dp)]) (by decide) rfl (Nat.le_of_ble_eq_true rfl) rfl ?_
  intro p e s m args below meth c A Q G hinit ret
  refine j_aload_n G dX5_join_0 rfl 0 rfl ?_
  refine gfX5_27 (v := .int (nI (un 0))) G 1 rfl rfl dX5_join_1 ?_
  refine j_istore_n (lv' := [(3, .int (nI (un 0))), (0, .ref (q 1)), (1, .int pr), (2, .int dp)]) G dX5_join_4 rfl (by decide) rfl ?_
  refine j_aload_n G dX5_join_5 rfl 1 rfl ?_
  refine gfX5_9 (v := .ref (q 2)) G 1 rfl rfl dX5_join_6 ?_
  refine j_iload_n G dX5_join_9 rfl 0 rfl ?_
  refine j_iload_n G dX5_join_10 rfl 2 rfl ?_
  refine j_iast (j := (un 0)) (w' := cF cA q un ui ul (up ua 1 (upd (ua 1) (un 0) pr)) vc ex wo tp tf kf ++ va_pl L f) G 2 rfl rfl (by omega) (Nat.le_of_ble_eq_true rfl) dX5_join_11 rfl ?_
  refine j_aload_n G dX5_join_12 rfl 1 rfl ?_
  refine gfX5_15 (v := .ref (q 3)) G 1 rfl rfl dX5_join_13 ?_
  refine j_iload_n G dX5_join_16 rfl 0 rfl ?_
  refine j_iload_n G dX5_join_17 rfl 3 rfl ?_
  refine j_iast (j := (un 0)) (w' := cF cA q un ui ul (up (up ua 1 (upd (ua 1) (un 0) pr)) 2 (upd (ua 2) (un 0) dp)) vc ex wo tp tf kf ++ va_pl L f) G 3 rfl rfl (by omega) (Nat.le_of_ble_eq_true rfl) dX5_join_18 rfl ?_
  refine j_aload_n G dX5_join_19 rfl 1 rfl ?_
  refine j_iload_n G dX5_join_20 rfl 0 rfl ?_
  refine j_iconst (v := 1) G dX5_join_21 (by decide) ?_
  refine j_iadd G dX5_join_22 ?_
  refine j_rwi (nI_add (un 0) 1) ?_
  refine pfX5_27 (w' := cF cA q (up un 0 (un 0 + 1)) ui ul (up (up ua 1 (upd (ua 1) (un 0) pr)) 2 (upd (ua 2) (un 0) dp)) vc ex wo tp tf kf ++ va_pl L f) G 1 rfl rfl (Nat.le_of_ble_eq_true rfl) dX5_join_23 rfl rfl ?_
  refine j_iload_n G dX5_join_26 rfl 0 rfl ?_
  exact ret _ _ _ _ dX5_join_27 rfl ⟨rfl, rfl⟩
set_option maxHeartbeats 4000000 in
set_option maxRecDepth 100000 in
theorem cC_X5_replaceSetting (l : Launch) (D : va_G) (cA : Nat → ClassId) (q : Nat → Nat) (un : Nat → Nat) (ui : Nat → Int32) (ul : Nat → Int64) (ua : Nat → Nat → Int32) (vc ex wo tp : Nat → Int32) (tf kf : Nat → Option Nat) (L : List Nat) (f : Nat → va_E) (v : Int32) : Ki l yX5_replaceSetting cX5_replaceSetting 3 .int 0 0 0 0 D cA [.ref (q 1), .int v] (cF cA q un ui ul ua vc ex wo tp tf kf ++ va_pl L f) (fun r w' => r = ui 0 ∧ w' = (cF cA q un (up ui 0 v) ul ua vc ex wo tp tf kf ++ va_pl L f)) := by
  refine ent_i (own := RX5) (lv0 := [(0, .ref (q 1)), (1, .int v)]) (by decide) rfl (Nat.le_of_ble_eq_true rfl) rfl ?_
  intro p e s m args below meth c A Q G hinit ret
  refine j_aload_n G dX5_replaceSetting_0 rfl 0 rfl ?_
  refine gfX5_31 (v := .int (ui 0)) G 1 rfl rfl dX5_replaceSetting_1 ?_
  refine j_istore_n (lv' := [(2, .int (ui 0)), (0, .ref (q 1)), (1, .int v)]) G dX5_replaceSetting_4 rfl (by decide) rfl ?_
  refine j_aload_n G dX5_replaceSetting_5 rfl 1 rfl ?_
  refine j_iload_n G dX5_replaceSetting_6 rfl 2 rfl ?_
  refine pfX5_31 (w' := cF cA q un (up ui 0 v) ul ua vc ex wo tp tf kf ++ va_pl L f) G 1 rfl rfl (Nat.le_of_ble_eq_true rfl) dX5_replaceSetting_7 rfl rfl ?_
  refine j_iload_n G dX5_replaceSetting_10 rfl 0 rfl ?_
  exact ret _ _ _ _ dX5_replaceSetting_11 rfl ⟨rfl, rfl⟩
set_option maxHeartbeats 4000000 in
set_option maxRecDepth 100000 in
theorem cC_X5_isLeaking (l : Launch) (D : va_G) (cA : Nat → ClassId) (q : Nat → Nat) (un : Nat → Nat) (ui : Nat → Int32) (ul : Nat → Int64) (ua : Nat → Nat → Int32) (vc ex wo tp : Nat → Int32) (tf kf : Nat → Option Nat) (L : List Nat) (f : Nat → va_E) (v : Int32) (hn : un 0 ≤ 20) (hv : VN (un 0) v) : Ki l yX5_isLeaking cX5_isLeaking 2 .boolean 0 0 0 0 D cA [.ref (q 1), .int v] (cF cA q un ui ul ua vc ex wo tp tf kf ++ va_pl L f) (fun r w' => r = bI (¬ ua 7 v.toNatClampNeg ≤ 0) ∧ w' = (cF cA q un ui ul ua vc ex wo tp tf kf ++ va_pl L f)) := by
  refine ent_i (own := RX5) (lv0 := [(0, .ref (q 1)), (1, .int v)]) (by decide) rfl (Nat.le_of_ble_eq_true rfl) rfl ?_
  intro p e s m args below meth c A Q G hinit ret
  refine j_aload_n G dX5_isLeaking_0 rfl 0 rfl ?_
  refine gfX5_18 (v := .ref (q 4)) G 1 rfl rfl dX5_isLeaking_1 ?_
  refine j_iload_n G dX5_isLeaking_4 rfl 1 rfl ?_
  refine j_iald G 4 rfl (hv.vp (by omega) (by omega)) dX5_isLeaking_5 ?_
  refine j_if_le (tgt := 13) G dX5_isLeaking_6 (by decide) (fun c6 => ?_) (fun c6 => ?_)
  · refine j_iconst (v := 0) G dX5_isLeaking_13 (by decide) ?_
    exact ret _ _ _ _ dX5_isLeaking_14 (by decide) ⟨(by simp [bI, c6]), rfl⟩
  · refine j_iconst (v := 1) G dX5_isLeaking_9 (by decide) ?_
    refine j_goto (tgt := 14) G dX5_isLeaking_10 (by decide) ?_
    exact ret _ _ _ _ dX5_isLeaking_14 (by decide) ⟨(by simp [bI, c6]), rfl⟩
set_option maxHeartbeats 4000000 in
set_option maxRecDepth 100000 in
theorem cC_X5_replaceLeak (l : Launch) (D : va_G) (cA : Nat → ClassId) (q : Nat → Nat) (un : Nat → Nat) (ui : Nat → Int32) (ul : Nat → Int64) (ua : Nat → Nat → Int32) (vc ex wo tp : Nat → Int32) (tf kf : Nat → Option Nat) (L : List Nat) (f : Nat → va_E) (v : Int32) (z : Int32) (hn : un 0 ≤ 20) (hv : VN (un 0) v) : Ki l yX5_replaceLeak cX5_replaceLeak 4 .int 0 0 0 0 D cA [.ref (q 1), .int v, .int z] (cF cA q un ui ul ua vc ex wo tp tf kf ++ va_pl L f) (fun r w' => r = ua 7 v.toNatClampNeg ∧ w' = (cF cA q un ui ul (up ua 7 (upd (ua 7) v.toNatClampNeg z)) vc ex wo tp tf kf ++ va_pl L f)) := by
  refine ent_i (own := RX5) (lv0 := [(0, .ref (q 1)), (1, .int v), (2, .int z)]) (by decide) rfl (Nat.le_of_ble_eq_true rfl) rfl ?_
  intro p e s m args below meth c A Q G hinit ret
  refine j_aload_n G dX5_replaceLeak_0 rfl 0 rfl ?_
  refine gfX5_18 (v := .ref (q 4)) G 1 rfl rfl dX5_replaceLeak_1 ?_
  refine j_iload_n G dX5_replaceLeak_4 rfl 1 rfl ?_
  refine j_iald G 4 rfl (hv.vp (by omega) (by omega)) dX5_replaceLeak_5 ?_
  refine j_istore_n (lv' := [(3, .int (ua 7 v.toNatClampNeg)), (0, .ref (q 1)), (1, .int v), (2, .int z)]) G dX5_replaceLeak_6 rfl (by decide) rfl ?_
  refine j_aload_n G dX5_replaceLeak_7 rfl 1 rfl ?_
  refine gfX5_18 (v := .ref (q 4)) G 1 rfl rfl dX5_replaceLeak_8 ?_
  refine j_iload_n G dX5_replaceLeak_11 rfl 2 rfl ?_
  refine j_iload_n G dX5_replaceLeak_12 rfl 3 rfl ?_
  refine j_iastR (w' := cF cA q un ui ul (up ua 7 (upd (ua 7) v.toNatClampNeg z)) vc ex wo tp tf kf ++ va_pl L f) G 4 rfl (hv.vp (by omega) (by omega)) dX5_replaceLeak_13 rfl ?_
  refine j_iload_n G dX5_replaceLeak_14 rfl 0 rfl ?_
  exact ret _ _ _ _ dX5_replaceLeak_15 rfl ⟨rfl, rfl⟩
set_option maxHeartbeats 4000000 in
set_option maxRecDepth 100000 in
theorem cC_X5_pumpVacuum (l : Launch) (D : va_G) (cA : Nat → ClassId) (q : Nat → Nat) (un : Nat → Nat) (ui : Nat → Int32) (ul : Nat → Int64) (ua : Nat → Nat → Int32) (vc ex wo tp : Nat → Int32) (tf kf : Nat → Option Nat) (L : List Nat) (f : Nat → va_E) (hn : un 0 ≤ 20) : Ki l yX5_pumpVacuum cX5_pumpVacuum 3 .int 1 40 0 0 D cA [.ref (q 1)] (cF cA q un ui ul ua vc ex wo tp tf kf ++ va_pl L f) (fun r w' => r = pumpV (un 0) (ui 0) (ua 7) ∧ w' = (cF cA q un ui ul ua vc ex wo tp tf kf ++ va_pl L f)) := by
  refine ent_i (own := RX5) (lv0 := [(0, .ref (q 1))]) (by decide) rfl (Nat.le_of_ble_eq_true rfl) rfl ?_
  intro p e s m args below meth c A Q G hinit ret
  refine j_aload_n G dX5_pumpVacuum_0 rfl 0 rfl ?_
  refine gfX5_31 (v := .int (ui 0)) G 1 rfl rfl dX5_pumpVacuum_1 ?_
  refine j_aload_n G dX5_pumpVacuum_4 rfl 0 rfl ?_
  refine gfX5_18 (v := .ref (q 4)) G 1 rfl rfl dX5_pumpVacuum_5 ?_
  refine j_iconst (v := 0) G dX5_pumpVacuum_8 (by decide) ?_
  refine j_ialdN (j := 0) G 4 rfl rfl (by omega) (Nat.le_of_ble_eq_true rfl) dX5_pumpVacuum_9 ?_
  refine j_isub G dX5_pumpVacuum_10 ?_
  refine j_rwi (subS_0 (ua 7) (ui 0 - ua 7 0)) ?_
  refine j_istore_n (lv' := [(1, .int (subS (ua 7) (ui 0 - ua 7 0) 0)), (0, .ref (q 1))]) G dX5_pumpVacuum_11 rfl (by decide) rfl ?_
  refine j_iconst (v := 0) G dX5_pumpVacuum_12 (by decide) ?_
  refine j_istore_n (lv' := [(2, .int 0), (1, .int (subS (ua 7) (ui 0 - ua 7 0) 0)), (0, .ref (q 1))]) G dX5_pumpVacuum_13 rfl (by decide) rfl ?_
  have lp14 : ∀ (fu14 : Nat) (k : Nat), (k ≤ un 0) → (un 0 < k + fu14) → J p l e (RM 1 40 0 0) s m args below meth c 3 D A (cF cA q un ui ul ua vc ex wo tp tf kf ++ va_pl L f) 0 0 Q 14 [(0, .ref (q 1)), (1, .int (subS (ua 7) (ui 0 - ua 7 0) k)), (2, .int (nI k))] [] := by
    intro fu14
    induction fu14 with
    | zero => intro k h1 h2; exact absurd h2 (by omega)
    | succ fu14 ih14 =>
      intro k h1 h2
      refine j_iload_n G dX5_pumpVacuum_14 rfl 2 rfl ?_
      refine j_aload_n G dX5_pumpVacuum_15 rfl 0 rfl ?_
      refine gfX5_27 (v := .int (nI (un 0))) G 1 rfl rfl dX5_pumpVacuum_16 ?_
      refine j_icmp_ge (tgt := 37) G dX5_pumpVacuum_19 (by decide) (fun c19 => ?_) (fun c19 => ?_)
      · have g19 : k = un 0 := Nat.le_antisymm h1 ((nI_leI (by omega) (by omega)).mp c19)
        refine j_iconst (v := 0) G dX5_pumpVacuum_37 (by decide) ?_
        refine j_iload_n G dX5_pumpVacuum_38 rfl 1 rfl ?_
        refine j_max G wd_572 ⟨Nat.le_of_ble_eq_true rfl, Nat.le_of_ble_eq_true rfl, Nat.le_of_ble_eq_true rfl, Nat.le_of_ble_eq_true rfl⟩ dX5_pumpVacuum_39 ?_
        exact ret _ _ _ _ dX5_pumpVacuum_42 rfl ⟨(by rw [pumpV, ← g19, mx0_max]), rfl⟩
      · have g19 : k < un 0 := (Nat.lt_or_ge k (un 0)).resolve_right (fun h => absurd ((nI_leI (by omega) (by omega)).mpr h) c19)
        refine j_iload_n G dX5_pumpVacuum_22 rfl 1 rfl ?_
        refine j_aload_n G dX5_pumpVacuum_23 rfl 0 rfl ?_
        refine gfX5_18 (v := .ref (q 4)) G 1 rfl rfl dX5_pumpVacuum_24 ?_
        refine j_iload_n G dX5_pumpVacuum_27 rfl 2 rfl ?_
        refine j_ialdN (j := k) G 4 rfl rfl (by omega) (Nat.le_of_ble_eq_true rfl) dX5_pumpVacuum_28 ?_
        refine j_isub G dX5_pumpVacuum_29 ?_
        refine j_rwi (subS_S (ua 7) (ui 0 - ua 7 0) k) ?_
        refine j_istore_n (lv' := [(1, .int (subS (ua 7) (ui 0 - ua 7 0) (k + 1))), (0, .ref (q 1)), (2, .int (nI k))]) G dX5_pumpVacuum_30 rfl (by decide) rfl ?_
        refine j_iinc (v := (nI (k + 1))) (lv' := [(2, .int (nI (k + 1))), (1, .int (subS (ua 7) (ui 0 - ua 7 0) (k + 1))), (0, .ref (q 1))]) G dX5_pumpVacuum_31 2 rfl (nI_1 k) (by decide) rfl ?_
        refine j_goto (tgt := 14) G dX5_pumpVacuum_34 (by decide) ?_
        refine j_sub (lv' := [(0, .ref (q 1)), (1, .int (subS (ua 7) (ui 0 - ua 7 0) (k + 1))), (2, .int (nI (k + 1)))]) [2, 1, 0] rfl ?_
        exact ih14 (k + 1) (by omega) (by omega)
  refine j_sub (lv' := [(0, .ref (q 1)), (1, .int (subS (ua 7) (ui 0 - ua 7 0) 0)), (2, .int 0)]) [2, 1, 0] rfl ?_
  exact lp14 (un 0 + 1) 0 (Nat.zero_le _) (by omega)
set_option maxHeartbeats 4000000 in
set_option maxRecDepth 100000 in
theorem cC_X6_requireNode (l : Launch) (D : va_G) (cA : Nat → ClassId) (hfl : l.stackTraces = false) (q : Nat → Nat) (un : Nat → Nat) (ui : Nat → Int32) (ul : Nat → Int64) (ua : Nat → Nat → Int32) (vc ex wo tp : Nat → Int32) (tf kf : Nat → Option Nat) (L : List Nat) (f : Nat → va_E) (v : Int32) : Xv l yX6_requireNode cX6_requireNode 2 6 110 1 6 D cA [.ref (q 0), .int v] (cF cA q un ui ul ua vc ex wo tp tf kf ++ va_pl L f) (fun w' => (VN (un 0) v) ∧ w' = (cF cA q un ui ul ua vc ex wo tp tf kf ++ va_pl L f)) (fun u => ((¬ VN (un 0) v) ∧ u = ("java/lang/IndexOutOfBoundsException", cF cA q un ui ul ua vc ex wo tp tf kf ++ va_pl L f))) := by
  refine ent_Xv (own := RX6) (lv0 := [(0, .ref (q 0)), (1, .int v)]) (by decide) rfl (Nat.le_of_ble_eq_true rfl) rfl ?_
  intro p e s m args below meth c A Q G hQ ht hlocks ret
  refine j_aload_n G dX6_requireNode_0 rfl 0 rfl ?_
  refine gfX6_10 (v := .ref (q 1)) G 0 rfl rfl dX6_requireNode_1 ?_
  refine j_iload_n G dX6_requireNode_4 rfl 1 rfl ?_
  refine jV_i G 5 1 (cC_X5_has l D cA q un ui ul ua vc ex wo tp tf kf L f v) gX6_296 hd_X5_has ⟨Nat.le_of_ble_eq_true rfl, Nat.le_of_ble_eq_true rfl⟩ ⟨Nat.le_of_ble_eq_true rfl, Nat.le_of_ble_eq_true rfl⟩ rfl rfl (Nat.le_of_ble_eq_true rfl) rfl rfl dX6_requireNode_5 (fun r w' hq9 => ?_)
  obtain ⟨hr9, hw9⟩ := hq9
  obtain rfl := hr9.symm
  obtain rfl := hw9.symm
  refine j_ifb_ne (tgt := 22) G dX6_requireNode_8 (by decide) (fun c8 => ?_) (fun c8 => ?_)
  · refine j_cs (k' := 1) (n' := 6) (Nat.le_of_ble_eq_true rfl) (Nat.le_of_ble_eq_true rfl) ?_
    exact ret _ _ _ dX6_requireNode_22 ⟨c8, rfl⟩
  · exact j_thrW G hfl hQ ht hlocks (names := ["java/lang/RuntimeException", "java/lang/Exception"]) ft_IOOBE ft_names wd_394 wd_49 rfl st_301 at_IOOBE og_IOOBE dX6_requireNode_11 dX6_requireNode_14 dX6_requireNode_15 dX6_requireNode_18 dX6_requireNode_21 ⟨Nat.le_of_ble_eq_true rfl, Nat.le_of_ble_eq_true rfl, Nat.le_of_ble_eq_true rfl, Nat.le_of_ble_eq_true rfl⟩ ⟨c8, rfl⟩ (Nat.le_of_ble_eq_true rfl) (Nat.le_of_ble_eq_true rfl)
set_option maxHeartbeats 4000000 in
set_option maxRecDepth 100000 in
theorem cC_X6_requireBatch (l : Launch) (D : va_G) (cA : Nat → ClassId) (hfl : l.stackTraces = false) (q : Nat → Nat) (un : Nat → Nat) (ui : Nat → Int32) (ul : Nat → Int64) (ua : Nat → Nat → Int32) (vc ex wo tp : Nat → Int32) (tf kf : Nat → Option Nat) (L : List Nat) (f : Nat → va_E) (v : Int32) : Xv l yX6_requireBatch cX6_requireBatch 2 6 110 1 6 D cA [.ref (q 0), .int v] (cF cA q un ui ul ua vc ex wo tp tf kf ++ va_pl L f) (fun w' => (VN (un 3) v) ∧ w' = (cF cA q un ui ul ua vc ex wo tp tf kf ++ va_pl L f)) (fun u => ((¬ VN (un 3) v) ∧ u = ("java/lang/IndexOutOfBoundsException", cF cA q un ui ul ua vc ex wo tp tf kf ++ va_pl L f))) := by
  refine ent_Xv (own := RX6) (lv0 := [(0, .ref (q 0)), (1, .int v)]) (by decide) rfl (Nat.le_of_ble_eq_true rfl) rfl ?_
  intro p e s m args below meth c A Q G hQ ht hlocks ret
  refine j_aload_n G dX6_requireBatch_0 rfl 0 rfl ?_
  refine gfX6_41 (v := .ref (q 11)) G 0 rfl rfl dX6_requireBatch_1 ?_
  refine j_iload_n G dX6_requireBatch_4 rfl 1 rfl ?_
  refine jV_i G 2 11 (cC_X2_has l D cA q un ui ul ua vc ex wo tp tf kf L f v) gX6_313 hd_X2_has ⟨Nat.le_of_ble_eq_true rfl, Nat.le_of_ble_eq_true rfl⟩ ⟨Nat.le_of_ble_eq_true rfl, Nat.le_of_ble_eq_true rfl⟩ rfl rfl (Nat.le_of_ble_eq_true rfl) rfl rfl dX6_requireBatch_5 (fun r w' hq9 => ?_)
  obtain ⟨hr9, hw9⟩ := hq9
  obtain rfl := hr9.symm
  obtain rfl := hw9.symm
  refine j_ifb_ne (tgt := 22) G dX6_requireBatch_8 (by decide) (fun c8 => ?_) (fun c8 => ?_)
  · refine j_cs (k' := 1) (n' := 6) (Nat.le_of_ble_eq_true rfl) (Nat.le_of_ble_eq_true rfl) ?_
    exact ret _ _ _ dX6_requireBatch_22 ⟨c8, rfl⟩
  · exact j_thrW G hfl hQ ht hlocks (names := ["java/lang/RuntimeException", "java/lang/Exception"]) ft_IOOBE ft_names wd_394 wd_49 rfl st_314 at_IOOBE og_IOOBE dX6_requireBatch_11 dX6_requireBatch_14 dX6_requireBatch_15 dX6_requireBatch_18 dX6_requireBatch_21 ⟨Nat.le_of_ble_eq_true rfl, Nat.le_of_ble_eq_true rfl, Nat.le_of_ble_eq_true rfl, Nat.le_of_ble_eq_true rfl⟩ ⟨c8, rfl⟩ (Nat.le_of_ble_eq_true rfl) (Nat.le_of_ble_eq_true rfl)
set_option maxHeartbeats 4000000 in
set_option maxRecDepth 100000 in
theorem cC_X6_setPump (l : Launch) (D : va_G) (cA : Nat → ClassId) (hfl : l.stackTraces = false) (q : Nat → Nat) (un : Nat → Nat) (ui : Nat → Int32) (ul : Nat → Int64) (ua : Nat → Nat → Int32) (vc ex wo tp : Nat → Int32) (tf kf : Nat → Option Nat) (L : List Nat) (f : Nat → va_E) (v : Int32) : Xi l yX6_setPump cX6_setPump 2 .int 6 110 1 6 D cA [.ref (q 0), .int v] (cF cA q un ui ul ua vc ex wo tp tf kf ++ va_pl L f) (fun r w' => (cfPump v = 0) ∧ r = ui 0 ∧ w' = (cF cA q un (up ui 0 v) ul ua vc ex wo tp tf kf ++ va_pl L f)) (fun u => ((cfPump v = 1) ∧ u = ("java/lang/IllegalArgumentException", cF cA q un ui ul ua vc ex wo tp tf kf ++ va_pl L f))) := by
  refine ent_Xi (own := RX6) (lv0 := [(0, .ref (q 0)), (1, .int v)]) (by decide) rfl (Nat.le_of_ble_eq_true rfl) rfl ?_
  intro p e s m args below meth c A Q G hQ ht hlocks ret
  refine j_iload_n G dX6_setPump_0 rfl 1 rfl ?_
  refine j_iconst (v := 0) G dX6_setPump_1 (by decide) ?_
  refine j_bipush (v := 99) G dX6_setPump_2 (by decide) ?_
  refine jS_i G (cC_X6_isOutside l D cA (cF cA q un ui ul ua vc ex wo tp tf kf ++ va_pl L f) v 0 99) gX6_60 hd_X6_isOutside.2 ⟨Nat.le_of_ble_eq_true rfl, Nat.le_of_ble_eq_true rfl⟩ ⟨Nat.le_of_ble_eq_true rfl, Nat.le_of_ble_eq_true rfl⟩ rfl rfl (Nat.le_of_ble_eq_true rfl) dX6_setPump_4 (fun r w' hq9 => ?_)
  obtain ⟨hr9, hw9⟩ := hq9
  obtain rfl := hr9.symm
  obtain rfl := hw9.symm
  refine j_ifb_eq (tgt := 20) G dX6_setPump_7 (by decide) (fun c7 => ?_) (fun c7 => ?_)
  · refine j_aload_n G dX6_setPump_20 rfl 0 rfl ?_
    refine gfX6_10 (v := .ref (q 1)) G 0 rfl rfl dX6_setPump_21 ?_
    refine j_iload_n G dX6_setPump_24 rfl 1 rfl ?_
    refine jV_i G 5 1 (cC_X5_replaceSetting l D cA q un ui ul ua vc ex wo tp tf kf L f v) gX6_85 hd_X5_replaceSetting ⟨Nat.le_of_ble_eq_true rfl, Nat.le_of_ble_eq_true rfl⟩ ⟨Nat.le_of_ble_eq_true rfl, Nat.le_of_ble_eq_true rfl⟩ rfl rfl (Nat.le_of_ble_eq_true rfl) rfl rfl dX6_setPump_25 (fun r w' hq9 => ?_)
    obtain ⟨hr9, hw9⟩ := hq9
    obtain rfl := hr9.symm
    obtain rfl := hw9.symm
    refine j_w (w' := cF cA q un (up ui 0 v) ul ua vc ex wo tp tf kf ++ va_pl L f) rfl ?_
    refine j_cs (k' := 1) (n' := 6) (Nat.le_of_ble_eq_true rfl) (Nat.le_of_ble_eq_true rfl) ?_
    exact ret _ _ _ _ dX6_setPump_28 rfl ⟨(by simp [cfPump, Decidable.not_not.mp c7]), rfl, rfl⟩
  · exact j_thr G hfl hQ ht hlocks (names := ["java/lang/RuntimeException", "java/lang/Exception"]) ft_IAE ft_names wd_410 wd_52 rfl st_83 at_IAE og_IAE dX6_setPump_10 dX6_setPump_13 dX6_setPump_14 dX6_setPump_16 dX6_setPump_19 ⟨Nat.le_of_ble_eq_true rfl, Nat.le_of_ble_eq_true rfl, Nat.le_of_ble_eq_true rfl, Nat.le_of_ble_eq_true rfl⟩ ⟨(by simp [cfPump, c7]), rfl⟩ (Nat.le_of_ble_eq_true rfl) (Nat.le_of_ble_eq_true rfl)
set_option maxHeartbeats 4000000 in
set_option maxRecDepth 100000 in
theorem cC_X6_setFire (l : Launch) (D : va_G) (cA : Nat → ClassId) (hfl : l.stackTraces = false) (q : Nat → Nat) (un : Nat → Nat) (ui : Nat → Int32) (ul : Nat → Int64) (ua : Nat → Nat → Int32) (vc ex wo tp : Nat → Int32) (tf kf : Nat → Option Nat) (L : List Nat) (f : Nat → va_E) (v : Int32) : Xi l yX6_setFire cX6_setFire 3 .int 6 110 1 6 D cA [.ref (q 0), .int v] (cF cA q un ui ul ua vc ex wo tp tf kf ++ va_pl L f) (fun r w' => (cfFire v = 0) ∧ r = ui 3 ∧ w' = (cF cA q un (up ui 3 v) ul ua vc ex wo tp tf kf ++ va_pl L f)) (fun u => ((cfFire v = 1) ∧ u = ("java/lang/IllegalArgumentException", cF cA q un ui ul ua vc ex wo tp tf kf ++ va_pl L f))) := by
  refine ent_Xi (own := RX6) (lv0 := [(0, .ref (q 0)), (1, .int v)]) (by decide) rfl (Nat.le_of_ble_eq_true rfl) rfl ?_
  intro p e s m args below meth c A Q G hQ ht hlocks ret
  refine j_iload_n G dX6_setFire_0 rfl 1 rfl ?_
  refine j_iconst (v := 0) G dX6_setFire_1 (by decide) ?_
  refine j_bipush (v := 9) G dX6_setFire_2 (by decide) ?_
  refine jS_i G (cC_X6_isOutside l D cA (cF cA q un ui ul ua vc ex wo tp tf kf ++ va_pl L f) v 0 9) gX6_60 hd_X6_isOutside.2 ⟨Nat.le_of_ble_eq_true rfl, Nat.le_of_ble_eq_true rfl⟩ ⟨Nat.le_of_ble_eq_true rfl, Nat.le_of_ble_eq_true rfl⟩ rfl rfl (Nat.le_of_ble_eq_true rfl) dX6_setFire_4 (fun r w' hq9 => ?_)
  obtain ⟨hr9, hw9⟩ := hq9
  obtain rfl := hr9.symm
  obtain rfl := hw9.symm
  refine j_ifb_eq (tgt := 20) G dX6_setFire_7 (by decide) (fun c7 => ?_) (fun c7 => ?_)
  · refine j_aload_n G dX6_setFire_20 rfl 0 rfl ?_
    refine gfX6_143 (v := .int (ui 3)) G 0 rfl rfl dX6_setFire_21 ?_
    refine j_istore_n (lv' := [(2, .int (ui 3)), (0, .ref (q 0)), (1, .int v)]) G dX6_setFire_24 rfl (by decide) rfl ?_
    refine j_aload_n G dX6_setFire_25 rfl 1 rfl ?_
    refine j_iload_n G dX6_setFire_26 rfl 2 rfl ?_
    refine pfX6_143 (w' := cF cA q un (up ui 3 v) ul ua vc ex wo tp tf kf ++ va_pl L f) G 0 rfl rfl (Nat.le_of_ble_eq_true rfl) dX6_setFire_27 rfl rfl ?_
    refine j_iload_n G dX6_setFire_30 rfl 0 rfl ?_
    refine j_cs (k' := 1) (n' := 6) (Nat.le_of_ble_eq_true rfl) (Nat.le_of_ble_eq_true rfl) ?_
    exact ret _ _ _ _ dX6_setFire_31 rfl ⟨(by simp [cfFire, Decidable.not_not.mp c7]), rfl, rfl⟩
  · exact j_thr G hfl hQ ht hlocks (names := ["java/lang/RuntimeException", "java/lang/Exception"]) ft_IAE ft_names wd_410 wd_52 rfl st_210 at_IAE og_IAE dX6_setFire_10 dX6_setFire_13 dX6_setFire_14 dX6_setFire_16 dX6_setFire_19 ⟨Nat.le_of_ble_eq_true rfl, Nat.le_of_ble_eq_true rfl, Nat.le_of_ble_eq_true rfl, Nat.le_of_ble_eq_true rfl⟩ ⟨(by simp [cfFire, c7]), rfl⟩ (Nat.le_of_ble_eq_true rfl) (Nat.le_of_ble_eq_true rfl)
set_option maxHeartbeats 4000000 in
set_option maxRecDepth 100000 in
theorem cC_X6_nodes (l : Launch) (D : va_G) (cA : Nat → ClassId) (q : Nat → Nat) (un : Nat → Nat) (ui : Nat → Int32) (ul : Nat → Int64) (ua : Nat → Nat → Int32) (vc ex wo tp : Nat → Int32) (tf kf : Nat → Option Nat) (L : List Nat) (f : Nat → va_E) : Ki l yX6_nodes cX6_nodes 1 .int 1 20 0 0 D cA [.ref (q 0)] (cF cA q un ui ul ua vc ex wo tp tf kf ++ va_pl L f) (fun r w' => r = nI (un 0) ∧ w' = (cF cA q un ui ul ua vc ex wo tp tf kf ++ va_pl L f)) := by
  refine ent_i (own := RX6) (lv0 := [(0, .ref (q 0))]) (by decide) rfl (Nat.le_of_ble_eq_true rfl) rfl ?_
  intro p e s m args below meth c A Q G hinit ret
  refine j_aload_n G dX6_nodes_0 rfl 0 rfl ?_
  refine gfX6_10 (v := .ref (q 1)) G 0 rfl rfl dX6_nodes_1 ?_
  refine jV_i G 5 1 (cC_X5_size l D cA q un ui ul ua vc ex wo tp tf kf L f ) gX6_103 hd_X5_size ⟨Nat.le_of_ble_eq_true rfl, Nat.le_of_ble_eq_true rfl⟩ ⟨Nat.le_of_ble_eq_true rfl, Nat.le_of_ble_eq_true rfl⟩ rfl rfl (Nat.le_of_ble_eq_true rfl) rfl rfl dX6_nodes_4 (fun r w' hq9 => ?_)
  obtain ⟨hr9, hw9⟩ := hq9
  obtain rfl := hr9.symm
  obtain rfl := hw9.symm
  exact ret _ _ _ _ dX6_nodes_7 rfl ⟨rfl, rfl⟩
set_option maxHeartbeats 4000000 in
set_option maxRecDepth 100000 in
theorem cC_X6_hours (l : Launch) (D : va_G) (cA : Nat → ClassId) (q : Nat → Nat) (un : Nat → Nat) (ui : Nat → Int32) (ul : Nat → Int64) (ua : Nat → Nat → Int32) (vc ex wo tp : Nat → Int32) (tf kf : Nat → Option Nat) (L : List Nat) (f : Nat → va_E) : Ki l yX6_hours cX6_hours 1 .int 0 0 0 0 D cA [.ref (q 0)] (cF cA q un ui ul ua vc ex wo tp tf kf ++ va_pl L f) (fun r w' => r = nI (un 1) ∧ w' = (cF cA q un ui ul ua vc ex wo tp tf kf ++ va_pl L f)) := by
  refine ent_i (own := RX6) (lv0 := [(0, .ref (q 0))]) (by decide) rfl (Nat.le_of_ble_eq_true rfl) rfl ?_
  intro p e s m args below meth c A Q G hinit ret
  refine j_aload_n G dX6_hours_0 rfl 0 rfl ?_
  refine gfX6_131 (v := .int (nI (un 1))) G 0 rfl rfl dX6_hours_1 ?_
  exact ret _ _ _ _ dX6_hours_4 rfl ⟨rfl, rfl⟩
set_option maxHeartbeats 4000000 in
set_option maxRecDepth 100000 in
theorem cC_X6_panVolume (l : Launch) (D : va_G) (cA : Nat → ClassId) (q : Nat → Nat) (un : Nat → Nat) (ui : Nat → Int32) (ul : Nat → Int64) (ua : Nat → Nat → Int32) (vc ex wo tp : Nat → Int32) (tf kf : Nat → Option Nat) (L : List Nat) (f : Nat → va_E) : Ki l yX6_panVolume cX6_panVolume 1 .int 0 0 0 0 D cA [.ref (q 0)] (cF cA q un ui ul ua vc ex wo tp tf kf ++ va_pl L f) (fun r w' => r = ui 1 ∧ w' = (cF cA q un ui ul ua vc ex wo tp tf kf ++ va_pl L f)) := by
  refine ent_i (own := RX6) (lv0 := [(0, .ref (q 0))]) (by decide) rfl (Nat.le_of_ble_eq_true rfl) rfl ?_
  intro p e s m args below meth c A Q G hinit ret
  refine j_aload_n G dX6_panVolume_0 rfl 0 rfl ?_
  refine gfX6_31 (v := .ref (q 9)) G 0 rfl rfl dX6_panVolume_1 ?_
  refine gfX6_200 (v := .int (ui 1)) G 9 rfl rfl dX6_panVolume_4 ?_
  exact ret _ _ _ _ dX6_panVolume_7 rfl ⟨rfl, rfl⟩
set_option maxHeartbeats 4000000 in
set_option maxRecDepth 100000 in
theorem cC_X6_panSugar (l : Launch) (D : va_G) (cA : Nat → ClassId) (q : Nat → Nat) (un : Nat → Nat) (ui : Nat → Int32) (ul : Nat → Int64) (ua : Nat → Nat → Int32) (vc ex wo tp : Nat → Int32) (tf kf : Nat → Option Nat) (L : List Nat) (f : Nat → va_E) : Ki l yX6_panSugar cX6_panSugar 1 .int 0 0 0 0 D cA [.ref (q 0)] (cF cA q un ui ul ua vc ex wo tp tf kf ++ va_pl L f) (fun r w' => r = ui 2 ∧ w' = (cF cA q un ui ul ua vc ex wo tp tf kf ++ va_pl L f)) := by
  refine ent_i (own := RX6) (lv0 := [(0, .ref (q 0))]) (by decide) rfl (Nat.le_of_ble_eq_true rfl) rfl ?_
  intro p e s m args below meth c A Q G hinit ret
  refine j_aload_n G dX6_panSugar_0 rfl 0 rfl ?_
  refine gfX6_31 (v := .ref (q 9)) G 0 rfl rfl dX6_panSugar_1 ?_
  refine gfX6_212 (v := .int (ui 2)) G 9 rfl rfl dX6_panSugar_4 ?_
  exact ret _ _ _ _ dX6_panSugar_7 rfl ⟨rfl, rfl⟩
set_option maxHeartbeats 4000000 in
set_option maxRecDepth 100000 in
theorem cC_X6_isReady (l : Launch) (D : va_G) (cA : Nat → ClassId) (q : Nat → Nat) (un : Nat → Nat) (ui : Nat → Int32) (ul : Nat → Int64) (ua : Nat → Nat → Int32) (vc ex wo tp : Nat → Int32) (tf kf : Nat → Option Nat) (L : List Nat) (f : Nat → va_E) : Ki l yX6_isReady cX6_isReady 1 .boolean 2 40 0 0 D cA [.ref (q 0)] (cF cA q un ui ul ua vc ex wo tp tf kf ++ va_pl L f) (fun r w' => r = bI (dnP (ui 1) (ui 2)) ∧ w' = (cF cA q un ui ul ua vc ex wo tp tf kf ++ va_pl L f)) := by
  refine ent_i (own := RX6) (lv0 := [(0, .ref (q 0))]) (by decide) rfl (Nat.le_of_ble_eq_true rfl) rfl ?_
  intro p e s m args below meth c A Q G hinit ret
  refine j_aload_n G dX6_isReady_0 rfl 0 rfl ?_
  refine gfX6_31 (v := .ref (q 9)) G 0 rfl rfl dX6_isReady_1 ?_
  refine jV_i G 1 9 (cC_X1_isSyrup l D cA (cF cA q un ui ul ua vc ex wo tp tf kf ++ va_pl L f) 9 (q 9) (ui 1) (ui 2) (ui 4) rfl ) gX6_213 hd_X1_isSyrup ⟨Nat.le_of_ble_eq_true rfl, Nat.le_of_ble_eq_true rfl⟩ ⟨Nat.le_of_ble_eq_true rfl, Nat.le_of_ble_eq_true rfl⟩ rfl rfl (Nat.le_of_ble_eq_true rfl) rfl rfl dX6_isReady_4 (fun r w' hq9 => ?_)
  obtain ⟨hr9, hw9⟩ := hq9
  obtain rfl := hr9.symm
  obtain rfl := hw9.symm
  exact ret _ _ _ _ dX6_isReady_7 bI_n ⟨rfl, rfl⟩
set_option maxHeartbeats 4000000 in
set_option maxRecDepth 100000 in
theorem cC_X6_batches (l : Launch) (D : va_G) (cA : Nat → ClassId) (q : Nat → Nat) (un : Nat → Nat) (ui : Nat → Int32) (ul : Nat → Int64) (ua : Nat → Nat → Int32) (vc ex wo tp : Nat → Int32) (tf kf : Nat → Option Nat) (L : List Nat) (f : Nat → va_E) : Ki l yX6_batches cX6_batches 1 .int 1 20 0 0 D cA [.ref (q 0)] (cF cA q un ui ul ua vc ex wo tp tf kf ++ va_pl L f) (fun r w' => r = nI (un 3) ∧ w' = (cF cA q un ui ul ua vc ex wo tp tf kf ++ va_pl L f)) := by
  refine ent_i (own := RX6) (lv0 := [(0, .ref (q 0))]) (by decide) rfl (Nat.le_of_ble_eq_true rfl) rfl ?_
  intro p e s m args below meth c A Q G hinit ret
  refine j_aload_n G dX6_batches_0 rfl 0 rfl ?_
  refine gfX6_41 (v := .ref (q 11)) G 0 rfl rfl dX6_batches_1 ?_
  refine jV_i G 2 11 (cC_X2_size l D cA q un ui ul ua vc ex wo tp tf kf L f ) gX6_248 hd_X2_size ⟨Nat.le_of_ble_eq_true rfl, Nat.le_of_ble_eq_true rfl⟩ ⟨Nat.le_of_ble_eq_true rfl, Nat.le_of_ble_eq_true rfl⟩ rfl rfl (Nat.le_of_ble_eq_true rfl) rfl rfl dX6_batches_4 (fun r w' hq9 => ?_)
  obtain ⟨hr9, hw9⟩ := hq9
  obtain rfl := hr9.symm
  obtain rfl := hw9.symm
  exact ret _ _ _ _ dX6_batches_7 rfl ⟨rfl, rfl⟩
set_option maxHeartbeats 4000000 in
set_option maxRecDepth 100000 in
theorem cC_X6_totalSap (l : Launch) (D : va_G) (cA : Nat → ClassId) (q : Nat → Nat) (un : Nat → Nat) (ui : Nat → Int32) (ul : Nat → Int64) (ua : Nat → Nat → Int32) (vc ex wo tp : Nat → Int32) (tf kf : Nat → Option Nat) (L : List Nat) (f : Nat → va_E) : Kl l yX6_totalSap cX6_totalSap 1 0 0 0 0 D cA [.ref (q 0)] (cF cA q un ui ul ua vc ex wo tp tf kf ++ va_pl L f) (fun r w' => r = ul 0 ∧ w' = (cF cA q un ui ul ua vc ex wo tp tf kf ++ va_pl L f)) := by
  refine ent_l (own := RX6) (lv0 := [(0, .ref (q 0))]) (by decide) rfl (Nat.le_of_ble_eq_true rfl) rfl ?_
  intro p e s m args below meth c A Q G hinit ret
  refine j_aload_n G dX6_totalSap_0 rfl 0 rfl ?_
  refine gfX6_48 (v := .ref (q 14)) G 0 rfl rfl dX6_totalSap_1 ?_
  refine gfX6_259 (v := .long (ul 0)) G 14 rfl rfl dX6_totalSap_4 ?_
  exact ret _ _ _ _ dX6_totalSap_7 ⟨rfl, rfl⟩
set_option maxHeartbeats 4000000 in
set_option maxRecDepth 100000 in
theorem cC_X6_steam (l : Launch) (D : va_G) (cA : Nat → ClassId) (q : Nat → Nat) (un : Nat → Nat) (ui : Nat → Int32) (ul : Nat → Int64) (ua : Nat → Nat → Int32) (vc ex wo tp : Nat → Int32) (tf kf : Nat → Option Nat) (L : List Nat) (f : Nat → va_E) : Kl l yX6_steam cX6_steam 1 0 0 0 0 D cA [.ref (q 0)] (cF cA q un ui ul ua vc ex wo tp tf kf ++ va_pl L f) (fun r w' => r = ul 2 ∧ w' = (cF cA q un ui ul ua vc ex wo tp tf kf ++ va_pl L f)) := by
  refine ent_l (own := RX6) (lv0 := [(0, .ref (q 0))]) (by decide) rfl (Nat.le_of_ble_eq_true rfl) rfl ?_
  intro p e s m args below meth c A Q G hinit ret
  refine j_aload_n G dX6_steam_0 rfl 0 rfl ?_
  refine gfX6_48 (v := .ref (q 14)) G 0 rfl rfl dX6_steam_1 ?_
  refine gfX6_263 (v := .long (ul 2)) G 14 rfl rfl dX6_steam_4 ?_
  exact ret _ _ _ _ dX6_steam_7 ⟨rfl, rfl⟩
set_option maxHeartbeats 4000000 in
set_option maxRecDepth 100000 in
theorem cC_X6_loss (l : Launch) (D : va_G) (cA : Nat → ClassId) (q : Nat → Nat) (un : Nat → Nat) (ui : Nat → Int32) (ul : Nat → Int64) (ua : Nat → Nat → Int32) (vc ex wo tp : Nat → Int32) (tf kf : Nat → Option Nat) (L : List Nat) (f : Nat → va_E) : Kl l yX6_loss cX6_loss 1 0 0 0 0 D cA [.ref (q 0)] (cF cA q un ui ul ua vc ex wo tp tf kf ++ va_pl L f) (fun r w' => r = ul 3 ∧ w' = (cF cA q un ui ul ua vc ex wo tp tf kf ++ va_pl L f)) := by
  refine ent_l (own := RX6) (lv0 := [(0, .ref (q 0))]) (by decide) rfl (Nat.le_of_ble_eq_true rfl) rfl ?_
  intro p e s m args below meth c A Q G hinit ret
  refine j_aload_n G dX6_loss_0 rfl 0 rfl ?_
  refine gfX6_48 (v := .ref (q 14)) G 0 rfl rfl dX6_loss_1 ?_
  refine gfX6_266 (v := .long (ul 3)) G 14 rfl rfl dX6_loss_4 ?_
  exact ret _ _ _ _ dX6_loss_7 ⟨rfl, rfl⟩
set_option maxHeartbeats 4000000 in
set_option maxRecDepth 100000 in
theorem cC_X6_lostSugar (l : Launch) (D : va_G) (cA : Nat → ClassId) (q : Nat → Nat) (un : Nat → Nat) (ui : Nat → Int32) (ul : Nat → Int64) (ua : Nat → Nat → Int32) (vc ex wo tp : Nat → Int32) (tf kf : Nat → Option Nat) (L : List Nat) (f : Nat → va_E) : Kl l yX6_lostSugar cX6_lostSugar 1 0 0 0 0 D cA [.ref (q 0)] (cF cA q un ui ul ua vc ex wo tp tf kf ++ va_pl L f) (fun r w' => r = ul 4 ∧ w' = (cF cA q un ui ul ua vc ex wo tp tf kf ++ va_pl L f)) := by
  refine ent_l (own := RX6) (lv0 := [(0, .ref (q 0))]) (by decide) rfl (Nat.le_of_ble_eq_true rfl) rfl ?_
  intro p e s m args below meth c A Q G hinit ret
  refine j_aload_n G dX6_lostSugar_0 rfl 0 rfl ?_
  refine gfX6_48 (v := .ref (q 14)) G 0 rfl rfl dX6_lostSugar_1 ?_
  refine gfX6_276 (v := .long (ul 4)) G 14 rfl rfl dX6_lostSugar_4 ?_
  exact ret _ _ _ _ dX6_lostSugar_7 ⟨rfl, rfl⟩
set_option maxHeartbeats 4000000 in
set_option maxRecDepth 100000 in
theorem cC_X6_dump (l : Launch) (D : va_G) (cA : Nat → ClassId) (q : Nat → Nat) (un : Nat → Nat) (ui : Nat → Int32) (ul : Nat → Int64) (ua : Nat → Nat → Int32) (vc ex wo tp : Nat → Int32) (tf kf : Nat → Option Nat) (L : List Nat) (f : Nat → va_E) : Ki l yX6_dump cX6_dump 2 .int 1 22 0 0 D cA [.ref (q 0)] (cF cA q un ui ul ua vc ex wo tp tf kf ++ va_pl L f) (fun r w' => r = ui 1 ∧ w' = (cF cA q un (up (up (up ui 1 0) 2 0) 4 0) (up (up ul 3 (ul 3 + (ui 1).toInt64)) 4 (ul 4 + (ui 2).toInt64)) ua vc ex wo tp tf kf ++ va_pl L f)) := by
  refine ent_i (own := RX6) (lv0 := [(0, .ref (q 0))]) (by decide) rfl (Nat.le_of_ble_eq_true rfl) rfl ?_
  intro p e s m args below meth c A Q G hinit ret
  refine j_aload_n G dX6_dump_0 rfl 0 rfl ?_
  refine gfX6_31 (v := .ref (q 9)) G 0 rfl rfl dX6_dump_1 ?_
  refine gfX6_200 (v := .int (ui 1)) G 9 rfl rfl dX6_dump_4 ?_
  refine j_istore_n (lv' := [(1, .int (ui 1)), (0, .ref (q 0))]) G dX6_dump_7 rfl (by decide) rfl ?_
  refine j_aload_n G dX6_dump_8 rfl 1 rfl ?_
  refine gfX6_48 (v := .ref (q 14)) G 0 rfl rfl dX6_dump_9 ?_
  refine j_iload_n G dX6_dump_12 rfl 0 rfl ?_
  refine j_aload_n G dX6_dump_13 rfl 1 rfl ?_
  refine gfX6_31 (v := .ref (q 9)) G 0 rfl rfl dX6_dump_14 ?_
  refine gfX6_212 (v := .int (ui 2)) G 9 rfl rfl dX6_dump_17 ?_
  refine jV_v G 0 14 (cC_X0_addLoss l D cA q un ui ul ua vc ex wo tp tf kf L f (ui 1) (ui 2)) gX6_190 hd_X0_addLoss ⟨Nat.le_of_ble_eq_true rfl, Nat.le_of_ble_eq_true rfl⟩ ⟨Nat.le_of_ble_eq_true rfl, Nat.le_of_ble_eq_true rfl⟩ rfl rfl (Nat.le_of_ble_eq_true rfl) rfl rfl dX6_dump_20 (fun w' hq9 => ?_)
  obtain rfl := hq9.symm
  refine j_w (w' := cF cA q un ui (up (up ul 3 (ul 3 + (ui 1).toInt64)) 4 (ul 4 + (ui 2).toInt64)) ua vc ex wo tp tf kf ++ va_pl L f) rfl ?_
  refine j_aload_n G dX6_dump_23 rfl 1 rfl ?_
  refine gfX6_31 (v := .ref (q 9)) G 0 rfl rfl dX6_dump_24 ?_
  refine jV_v G 1 9 (cC_X1_clear l D cA (cF cA q un ui (up (up ul 3 (ul 3 + (ui 1).toInt64)) 4 (ul 4 + (ui 2).toInt64)) ua vc ex wo tp tf kf ++ va_pl L f) 9 (q 9) (ui 1) (ui 2) (ui 4) rfl ) gX6_245 hd_X1_clear ⟨Nat.le_of_ble_eq_true rfl, Nat.le_of_ble_eq_true rfl⟩ ⟨Nat.le_of_ble_eq_true rfl, Nat.le_of_ble_eq_true rfl⟩ rfl rfl (Nat.le_of_ble_eq_true rfl) rfl rfl dX6_dump_27 (fun w' hq9 => ?_)
  obtain rfl := hq9.symm
  refine j_w (w' := cF cA q un (up (up (up ui 1 0) 2 0) 4 0) (up (up ul 3 (ul 3 + (ui 1).toInt64)) 4 (ul 4 + (ui 2).toInt64)) ua vc ex wo tp tf kf ++ va_pl L f) rfl ?_
  refine j_iload_n G dX6_dump_30 rfl 0 rfl ?_
  exact ret _ _ _ _ dX6_dump_31 rfl ⟨rfl, rfl⟩
set_option maxHeartbeats 4000000 in
set_option maxRecDepth 100000 in
theorem cC_X6_addLeak (l : Launch) (D : va_G) (cA : Nat → ClassId) (hfl : l.stackTraces = false) (q : Nat → Nat) (un : Nat → Nat) (ui : Nat → Int32) (ul : Nat → Int64) (ua : Nat → Nat → Int32) (vc ex wo tp : Nat → Int32) (tf kf : Nat → Option Nat) (L : List Nat) (f : Nat → va_E) (v : Int32) (z : Int32) (hn : un 0 ≤ 20) : Xi l yX6_addLeak cX6_addLeak 3 .int 7 131 2 12 D cA [.ref (q 0), .int v, .int z] (cF cA q un ui ul ua vc ex wo tp tf kf ++ va_pl L f) (fun r w' => (cfLeak (un 0) v z = 0) ∧ r = ua 7 v.toNatClampNeg ∧ w' = (cF cA q un ui ul (up ua 7 (upd (ua 7) v.toNatClampNeg z)) vc ex wo tp tf kf ++ va_pl L f)) (fun u => ((cfLeak (un 0) v z = 1) ∧ u = ("java/lang/IndexOutOfBoundsException", cF cA q un ui ul ua vc ex wo tp tf kf ++ va_pl L f)) ∨ ((cfLeak (un 0) v z = 2) ∧ u = ("java/lang/IllegalArgumentException", cF cA q un ui ul ua vc ex wo tp tf kf ++ va_pl L f))) := by
  refine ent_Xi (own := RX6) (lv0 := [(0, .ref (q 0)), (1, .int v), (2, .int z)]) (by decide) rfl (Nat.le_of_ble_eq_true rfl) rfl ?_
  intro p e s m args below meth c A Q G hQ ht hlocks ret
  refine j_aload_n G dX6_addLeak_0 rfl 0 rfl ?_
  refine j_iload_n G dX6_addLeak_1 rfl 1 rfl ?_
  refine jXV_v G 6 0 (cC_X6_requireNode l D cA hfl q un ui ul ua vc ex wo tp tf kf L f v) gX6_56 hd_X6_requireNode ⟨Nat.le_of_ble_eq_true rfl, Nat.le_of_ble_eq_true rfl⟩ ⟨Nat.le_of_ble_eq_true rfl, Nat.le_of_ble_eq_true rfl⟩ rfl rfl (Nat.le_of_ble_eq_true rfl) rfl rfl dX6_addLeak_2 (fun E9 w9 hq9 => ?_) (fun w' hq9 => ?_)
  · rcases hq9 with ⟨h9, hu9⟩
    cases hu9
    exact j_out (post := fun _ => True) G hQ ht hlocks (Or.inl ⟨(by simp [cfLeak, h9]), rfl⟩) (Nat.le_of_ble_eq_true rfl) (Nat.le_of_ble_eq_true rfl)
  obtain ⟨k2, hw9⟩ := hq9
  obtain rfl := hw9.symm
  refine j_iload_n G dX6_addLeak_5 rfl 2 rfl ?_
  refine j_iconst (v := 1) G dX6_addLeak_6 (by decide) ?_
  refine j_bipush (v := 30) G dX6_addLeak_7 (by decide) ?_
  refine jS_i G (cC_X6_isOutside l D cA (cF cA q un ui ul ua vc ex wo tp tf kf ++ va_pl L f) z 1 30) gX6_60 hd_X6_isOutside.2 ⟨Nat.le_of_ble_eq_true rfl, Nat.le_of_ble_eq_true rfl⟩ ⟨Nat.le_of_ble_eq_true rfl, Nat.le_of_ble_eq_true rfl⟩ rfl rfl (Nat.le_of_ble_eq_true rfl) dX6_addLeak_9 (fun r w' hq9 => ?_)
  obtain ⟨hr9, hw9⟩ := hq9
  obtain rfl := hr9.symm
  obtain rfl := hw9.symm
  refine j_ifb_eq (tgt := 25) G dX6_addLeak_12 (by decide) (fun c12 => ?_) (fun c12 => ?_)
  · refine j_aload_n G dX6_addLeak_25 rfl 0 rfl ?_
    refine gfX6_10 (v := .ref (q 1)) G 0 rfl rfl dX6_addLeak_26 ?_
    refine j_iload_n G dX6_addLeak_29 rfl 1 rfl ?_
    refine j_iload_n G dX6_addLeak_30 rfl 2 rfl ?_
    refine jV_i G 5 1 (cC_X5_replaceLeak l D cA q un ui ul ua vc ex wo tp tf kf L f v z hn k2) gX6_91 hd_X5_replaceLeak ⟨Nat.le_of_ble_eq_true rfl, Nat.le_of_ble_eq_true rfl⟩ ⟨Nat.le_of_ble_eq_true rfl, Nat.le_of_ble_eq_true rfl⟩ rfl rfl (Nat.le_of_ble_eq_true rfl) rfl rfl dX6_addLeak_31 (fun r w' hq9 => ?_)
    obtain ⟨hr9, hw9⟩ := hq9
    obtain rfl := hr9.symm
    obtain rfl := hw9.symm
    refine j_w (w' := cF cA q un ui ul (up ua 7 (upd (ua 7) v.toNatClampNeg z)) vc ex wo tp tf kf ++ va_pl L f) rfl ?_
    refine j_cs (k' := 2) (n' := 12) (Nat.le_of_ble_eq_true rfl) (Nat.le_of_ble_eq_true rfl) ?_
    exact ret _ _ _ _ dX6_addLeak_34 rfl ⟨(by simp [cfLeak, k2, Decidable.not_not.mp c12]), rfl, rfl⟩
  · exact j_thr G hfl hQ ht hlocks (names := ["java/lang/RuntimeException", "java/lang/Exception"]) ft_IAE ft_names wd_410 wd_52 rfl st_89 at_IAE og_IAE dX6_addLeak_15 dX6_addLeak_18 dX6_addLeak_19 dX6_addLeak_21 dX6_addLeak_24 ⟨Nat.le_of_ble_eq_true rfl, Nat.le_of_ble_eq_true rfl, Nat.le_of_ble_eq_true rfl, Nat.le_of_ble_eq_true rfl⟩ (Or.inr (⟨(by simp [cfLeak, k2, c12]), rfl⟩)) (Nat.le_of_ble_eq_true rfl) (Nat.le_of_ble_eq_true rfl)
set_option maxHeartbeats 4000000 in
set_option maxRecDepth 100000 in
theorem cC_X6_repair (l : Launch) (D : va_G) (cA : Nat → ClassId) (hfl : l.stackTraces = false) (q : Nat → Nat) (un : Nat → Nat) (ui : Nat → Int32) (ul : Nat → Int64) (ua : Nat → Nat → Int32) (vc ex wo tp : Nat → Int32) (tf kf : Nat → Option Nat) (L : List Nat) (f : Nat → va_E) (v : Int32) (hn : un 0 ≤ 20) (hlk : ∀ j, 0 ≤ ua 7 j) : Xi l yX6_repair cX6_repair 2 .int 7 131 2 12 D cA [.ref (q 0), .int v] (cF cA q un ui ul ua vc ex wo tp tf kf ++ va_pl L f) (fun r w' => (cfRepair (un 0) v (ua 7) = 0) ∧ r = ua 7 v.toNatClampNeg ∧ w' = (cF cA q un ui ul (up ua 7 (upd (ua 7) v.toNatClampNeg 0)) vc ex wo tp tf kf ++ va_pl L f)) (fun u => ((cfRepair (un 0) v (ua 7) = 1) ∧ u = ("java/lang/IndexOutOfBoundsException", cF cA q un ui ul ua vc ex wo tp tf kf ++ va_pl L f)) ∨ ((cfRepair (un 0) v (ua 7) = 2) ∧ u = ("java/util/NoSuchElementException", cF cA q un ui ul ua vc ex wo tp tf kf ++ va_pl L f))) := by
  refine ent_Xi (own := RX6) (lv0 := [(0, .ref (q 0)), (1, .int v)]) (by decide) rfl (Nat.le_of_ble_eq_true rfl) rfl ?_
  intro p e s m args below meth c A Q G hQ ht hlocks ret
  refine j_aload_n G dX6_repair_0 rfl 0 rfl ?_
  refine j_iload_n G dX6_repair_1 rfl 1 rfl ?_
  refine jXV_v G 6 0 (cC_X6_requireNode l D cA hfl q un ui ul ua vc ex wo tp tf kf L f v) gX6_56 hd_X6_requireNode ⟨Nat.le_of_ble_eq_true rfl, Nat.le_of_ble_eq_true rfl⟩ ⟨Nat.le_of_ble_eq_true rfl, Nat.le_of_ble_eq_true rfl⟩ rfl rfl (Nat.le_of_ble_eq_true rfl) rfl rfl dX6_repair_2 (fun E9 w9 hq9 => ?_) (fun w' hq9 => ?_)
  · rcases hq9 with ⟨h9, hu9⟩
    cases hu9
    exact j_out (post := fun _ => True) G hQ ht hlocks (Or.inl ⟨(by simp [cfRepair, h9]), rfl⟩) (Nat.le_of_ble_eq_true rfl) (Nat.le_of_ble_eq_true rfl)
  obtain ⟨k2, hw9⟩ := hq9
  obtain rfl := hw9.symm
  refine j_aload_n G dX6_repair_5 rfl 0 rfl ?_
  refine gfX6_10 (v := .ref (q 1)) G 0 rfl rfl dX6_repair_6 ?_
  refine j_iload_n G dX6_repair_9 rfl 1 rfl ?_
  refine jV_i G 5 1 (cC_X5_isLeaking l D cA q un ui ul ua vc ex wo tp tf kf L f v hn k2) gX6_94 hd_X5_isLeaking ⟨Nat.le_of_ble_eq_true rfl, Nat.le_of_ble_eq_true rfl⟩ ⟨Nat.le_of_ble_eq_true rfl, Nat.le_of_ble_eq_true rfl⟩ rfl rfl (Nat.le_of_ble_eq_true rfl) rfl rfl dX6_repair_10 (fun r w' hq9 => ?_)
  obtain ⟨hr9, hw9⟩ := hq9
  obtain rfl := hr9.symm
  obtain rfl := hw9.symm
  refine j_ifb_ne (tgt := 26) G dX6_repair_13 (by decide) (fun c13 => ?_) (fun c13 => ?_)
  · refine j_aload_n G dX6_repair_26 rfl 0 rfl ?_
    refine gfX6_10 (v := .ref (q 1)) G 0 rfl rfl dX6_repair_27 ?_
    refine j_iload_n G dX6_repair_30 rfl 1 rfl ?_
    refine j_iconst (v := 0) G dX6_repair_31 (by decide) ?_
    refine jV_i G 5 1 (cC_X5_replaceLeak l D cA q un ui ul ua vc ex wo tp tf kf L f v 0 hn k2) gX6_91 hd_X5_replaceLeak ⟨Nat.le_of_ble_eq_true rfl, Nat.le_of_ble_eq_true rfl⟩ ⟨Nat.le_of_ble_eq_true rfl, Nat.le_of_ble_eq_true rfl⟩ rfl rfl (Nat.le_of_ble_eq_true rfl) rfl rfl dX6_repair_32 (fun r w' hq9 => ?_)
    obtain ⟨hr9, hw9⟩ := hq9
    obtain rfl := hr9.symm
    obtain rfl := hw9.symm
    refine j_w (w' := cF cA q un ui ul (up ua 7 (upd (ua 7) v.toNatClampNeg 0)) vc ex wo tp tf kf ++ va_pl L f) rfl ?_
    refine j_cs (k' := 2) (n' := 12) (Nat.le_of_ble_eq_true rfl) (Nat.le_of_ble_eq_true rfl) ?_
    exact ret _ _ _ _ dX6_repair_35 rfl ⟨(by simp [cfRepair, k2]; exact fun h => c13 (Int32.le_of_eq h)), rfl, rfl⟩
  · exact j_thrn G hfl hQ ht hlocks wd_542 wd_56 rfl st_100 dX6_repair_16 dX6_repair_19 dX6_repair_20 dX6_repair_22 dX6_repair_25 ⟨Nat.le_of_ble_eq_true rfl, Nat.le_of_ble_eq_true rfl, Nat.le_of_ble_eq_true rfl, Nat.le_of_ble_eq_true rfl⟩ (Or.inr (⟨(by simp [cfRepair, k2, le0_eq (hlk _) (Decidable.not_not.mp c13)]), rfl⟩)) (Nat.le_of_ble_eq_true rfl) (Nat.le_of_ble_eq_true rfl)
set_option maxHeartbeats 4000000 in
set_option maxRecDepth 100000 in
theorem cC_X5_sweep (l : Launch) (D : va_G) (cA : Nat → ClassId) (q : Nat → Nat) (un : Nat → Nat) (ui : Nat → Int32) (ul : Nat → Int64) (ua : Nat → Nat → Int32) (vc ex wo tp : Nat → Int32) (tf kf : Nat → Option Nat) (L : List Nat) (f : Nat → va_E) (hn : un 0 ≤ 20) (hn1 : 1 ≤ un 0) (hp : PAR (un 0) (ua 1)) : Kv l yX5_sweep cX5_sweep 3 2 62 0 0 D cA [.ref (q 1)] (cF cA q un ui ul ua vc ex wo tp tf kf ++ va_pl L f) (fun w' => w' = (cF cA q un ui ul ua (swV (vac (un 0) (ui 0) (ua 1) (ua 2) (ua 7)) vc (un 0)) (swV (expV (ui 0) (ua 1) (ua 2)) ex (un 0)) wo tp tf kf ++ va_pl L f)) := by
  refine ent_v (own := RX5) (lv0 := [(0, .ref (q 1))]) (by decide) rfl (Nat.le_of_ble_eq_true rfl) rfl ?_
  intro p e s m args below meth c A Q G hinit ret
  refine j_aload_n G dX5_sweep_0 rfl 0 rfl ?_
  refine gfX5_21 (v := .ref (q 5)) G 1 rfl rfl dX5_sweep_1 ?_
  refine j_iconst (v := 0) G dX5_sweep_4 (by decide) ?_
  refine j_aload_n G dX5_sweep_5 rfl 0 rfl ?_
  refine jV_i G 5 1 (cC_X5_pumpVacuum l D cA q un ui ul ua vc ex wo tp tf kf L f hn) gX5_40 hd_X5_pumpVacuum ⟨Nat.le_of_ble_eq_true rfl, Nat.le_of_ble_eq_true rfl⟩ ⟨Nat.le_of_ble_eq_true rfl, Nat.le_of_ble_eq_true rfl⟩ rfl rfl (Nat.le_of_ble_eq_true rfl) rfl rfl dX5_sweep_6 (fun r w' hq9 => ?_)
  obtain ⟨hr9, hw9⟩ := hq9
  obtain rfl := hr9.symm
  obtain rfl := hw9.symm
  refine j_iast (j := 0) (w' := cF cA q un ui ul ua (upd vc 0 (pumpV (un 0) (ui 0) (ua 7))) ex wo tp tf kf ++ va_pl L f) G 5 rfl rfl (by omega) (Nat.le_of_ble_eq_true rfl) dX5_sweep_9 rfl ?_
  refine j_aload_n G dX5_sweep_10 rfl 0 rfl ?_
  refine gfX5_24 (v := .ref (q 6)) G 1 rfl rfl dX5_sweep_11 ?_
  refine j_iconst (v := 0) G dX5_sweep_14 (by decide) ?_
  refine j_aload_n G dX5_sweep_15 rfl 0 rfl ?_
  refine gfX5_31 (v := .int (ui 0)) G 1 rfl rfl dX5_sweep_16 ?_
  refine j_iast (j := 0) (w' := cF cA q un ui ul ua (upd vc 0 (pumpV (un 0) (ui 0) (ua 7))) (upd ex 0 (ui 0)) wo tp tf kf ++ va_pl L f) G 6 rfl rfl (by omega) (Nat.le_of_ble_eq_true rfl) dX5_sweep_19 rfl ?_
  refine j_w (w' := cF cA q un ui ul ua (swV (vac (un 0) (ui 0) (ua 1) (ua 2) (ua 7)) vc 1) (swV (expV (ui 0) (ua 1) (ua 2)) ex 1) wo tp tf kf ++ va_pl L f) (by rw [swV_1 (f := vac (un 0) (ui 0) (ua 1) (ua 2) (ua 7)) vc vac_0.symm, swV_1 (f := expV (ui 0) (ua 1) (ua 2)) ex exp_0.symm]) ?_
  refine j_iconst (v := 1) G dX5_sweep_20 (by decide) ?_
  refine j_istore_n (lv' := [(1, .int 1), (0, .ref (q 1))]) G dX5_sweep_21 rfl (by decide) rfl ?_
  have lp22 : ∀ (fu22 : Nat) (k : Nat), (1 ≤ k) → (k ≤ un 0) → (un 0 < k + fu22) → J p l e (RM 2 62 0 0) s m args below meth c 3 D A (cF cA q un ui ul ua (swV (vac (un 0) (ui 0) (ua 1) (ua 2) (ua 7)) vc k) (swV (expV (ui 0) (ua 1) (ua 2)) ex k) wo tp tf kf ++ va_pl L f) 0 0 Q 22 [(0, .ref (q 1)), (1, .int (nI k))] [] := by
    intro fu22
    induction fu22 with
    | zero => intro k h0 h1 h2; exact absurd h2 (by omega)
    | succ fu22 ih22 =>
      intro k h0 h1 h2
      refine j_iload_n G dX5_sweep_22 rfl 1 rfl ?_
      refine j_aload_n G dX5_sweep_23 rfl 0 rfl ?_
      refine gfX5_27 (v := .int (nI (un 0))) G 1 rfl rfl dX5_sweep_24 ?_
      refine j_icmp_ge (tgt := 96) G dX5_sweep_27 (by decide) (fun c27 => ?_) (fun c27 => ?_)
      · have g27 : k = un 0 := Nat.le_antisymm h1 ((nI_leI (by omega) (by omega)).mp c27)
        exact ret _ _ _ dX5_sweep_96 (by rw [g27])
      · have g27 : k < un 0 := (Nat.lt_or_ge k (un 0)).resolve_right (fun h => absurd ((nI_leI (by omega) (by omega)).mpr h) c27)
        refine j_aload_n G dX5_sweep_30 rfl 0 rfl ?_
        refine gfX5_9 (v := .ref (q 2)) G 1 rfl rfl dX5_sweep_31 ?_
        refine j_iload_n G dX5_sweep_34 rfl 1 rfl ?_
        refine j_ialdN (j := k) G 2 rfl rfl (by omega) (Nat.le_of_ble_eq_true rfl) dX5_sweep_35 ?_
        obtain ⟨i, hi, e9⟩ := hp k (by omega) g27
        refine j_rwi e9 ?_
        refine j_istore_n (lv' := [(2, .int (nI i)), (0, .ref (q 1)), (1, .int (nI k))]) G dX5_sweep_36 rfl (by decide) rfl ?_
        refine j_aload_n G dX5_sweep_37 rfl 1 rfl ?_
        refine gfX5_21 (v := .ref (q 5)) G 1 rfl rfl dX5_sweep_38 ?_
        refine j_iload_n G dX5_sweep_41 rfl 2 rfl ?_
        refine j_iconst (v := 0) G dX5_sweep_42 (by decide) ?_
        refine j_aload_n G dX5_sweep_43 rfl 1 rfl ?_
        refine gfX5_21 (v := .ref (q 5)) G 1 rfl rfl dX5_sweep_44 ?_
        refine j_iload_n G dX5_sweep_47 rfl 0 rfl ?_
        refine j_ialdN (j := i) G 5 rfl rfl (by omega) (Nat.le_of_ble_eq_true rfl) dX5_sweep_48 ?_
        refine j_aload_n G dX5_sweep_49 rfl 1 rfl ?_
        refine gfX5_15 (v := .ref (q 3)) G 1 rfl rfl dX5_sweep_50 ?_
        refine j_iload_n G dX5_sweep_53 rfl 2 rfl ?_
        refine j_ialdN (j := k) G 3 rfl rfl (by omega) (Nat.le_of_ble_eq_true rfl) dX5_sweep_54 ?_
        refine j_isub G dX5_sweep_55 ?_
        refine j_aload_n G dX5_sweep_56 rfl 1 rfl ?_
        refine gfX5_18 (v := .ref (q 4)) G 1 rfl rfl dX5_sweep_57 ?_
        refine j_iload_n G dX5_sweep_60 rfl 2 rfl ?_
        refine j_ialdN (j := k) G 4 rfl rfl (by omega) (Nat.le_of_ble_eq_true rfl) dX5_sweep_61 ?_
        refine j_isub G dX5_sweep_62 ?_
        refine j_max G wd_572 ⟨Nat.le_of_ble_eq_true rfl, Nat.le_of_ble_eq_true rfl, Nat.le_of_ble_eq_true rfl, Nat.le_of_ble_eq_true rfl⟩ dX5_sweep_63 ?_
        refine j_rwi (show (if 0 < ((((swV (vac (un 0) (ui 0) (ua 1) (ua 2) (ua 7)) vc k) i) - (ua 2 k)) - (ua 7 k)) then ((((swV (vac (un 0) (ui 0) (ua 1) (ua 2) (ua 7)) vc k) i) - (ua 2 k)) - (ua 7 k)) else 0) = vac (un 0) (ui 0) (ua 1) (ua 2) (ua 7) k from by rw [mx0_max, swV_lt hi]; exact (vac_S hp hn (by omega) g27 hi e9).symm) ?_
        refine j_iast (j := k) (w' := cF cA q un ui ul ua (upd (swV (vac (un 0) (ui 0) (ua 1) (ua 2) (ua 7)) vc k) k (vac (un 0) (ui 0) (ua 1) (ua 2) (ua 7) k)) (swV (expV (ui 0) (ua 1) (ua 2)) ex k) wo tp tf kf ++ va_pl L f) G 5 rfl rfl (by omega) (Nat.le_of_ble_eq_true rfl) dX5_sweep_66 rfl ?_
        refine j_aload_n G dX5_sweep_67 rfl 1 rfl ?_
        refine gfX5_24 (v := .ref (q 6)) G 1 rfl rfl dX5_sweep_68 ?_
        refine j_iload_n G dX5_sweep_71 rfl 2 rfl ?_
        refine j_iconst (v := 0) G dX5_sweep_72 (by decide) ?_
        refine j_aload_n G dX5_sweep_73 rfl 1 rfl ?_
        refine gfX5_24 (v := .ref (q 6)) G 1 rfl rfl dX5_sweep_74 ?_
        refine j_iload_n G dX5_sweep_77 rfl 0 rfl ?_
        refine j_ialdN (j := i) G 6 rfl rfl (by omega) (Nat.le_of_ble_eq_true rfl) dX5_sweep_78 ?_
        refine j_aload_n G dX5_sweep_79 rfl 1 rfl ?_
        refine gfX5_15 (v := .ref (q 3)) G 1 rfl rfl dX5_sweep_80 ?_
        refine j_iload_n G dX5_sweep_83 rfl 2 rfl ?_
        refine j_ialdN (j := k) G 3 rfl rfl (by omega) (Nat.le_of_ble_eq_true rfl) dX5_sweep_84 ?_
        refine j_isub G dX5_sweep_85 ?_
        refine j_max G wd_572 ⟨Nat.le_of_ble_eq_true rfl, Nat.le_of_ble_eq_true rfl, Nat.le_of_ble_eq_true rfl, Nat.le_of_ble_eq_true rfl⟩ dX5_sweep_86 ?_
        refine j_rwi (show (if 0 < (((swV (expV (ui 0) (ua 1) (ua 2)) ex k) i) - (ua 2 k)) then (((swV (expV (ui 0) (ua 1) (ua 2)) ex k) i) - (ua 2 k)) else 0) = expV (ui 0) (ua 1) (ua 2) k from by rw [mx0_max, swV_lt hi]; exact (exp_S hp hn (by omega) g27 hi e9).symm) ?_
        refine j_iast (j := k) (w' := cF cA q un ui ul ua (upd (swV (vac (un 0) (ui 0) (ua 1) (ua 2) (ua 7)) vc k) k (vac (un 0) (ui 0) (ua 1) (ua 2) (ua 7) k)) (upd (swV (expV (ui 0) (ua 1) (ua 2)) ex k) k (expV (ui 0) (ua 1) (ua 2) k)) wo tp tf kf ++ va_pl L f) G 6 rfl rfl (by omega) (Nat.le_of_ble_eq_true rfl) dX5_sweep_89 rfl ?_
        refine j_w (w' := cF cA q un ui ul ua (swV (vac (un 0) (ui 0) (ua 1) (ua 2) (ua 7)) vc (k + 1)) (swV (expV (ui 0) (ua 1) (ua 2)) ex (k + 1)) wo tp tf kf ++ va_pl L f) (by rw [swV_S (f := vac (un 0) (ui 0) (ua 1) (ua 2) (ua 7)) vc k rfl, swV_S (f := expV (ui 0) (ua 1) (ua 2)) ex k rfl]) ?_
        refine j_iinc (v := (nI (k + 1))) (lv' := [(1, .int (nI (k + 1))), (2, .int (nI i)), (0, .ref (q 1))]) G dX5_sweep_90 2 rfl (nI_1 k) (by decide) rfl ?_
        refine j_goto (tgt := 22) G dX5_sweep_93 (by decide) ?_
        refine j_sub (lv' := [(0, .ref (q 1)), (1, .int (nI (k + 1)))]) [2, 0] rfl ?_
        exact ih22 (k + 1) (by omega) (by omega) (by omega)
  refine j_sub (lv' := [(0, .ref (q 1)), (1, .int 1)]) [1, 0] rfl ?_
  exact lp22 (un 0 + 1) 1 (Nat.le_refl _) hn1 (by omega)
set_option maxHeartbeats 4000000 in
set_option maxRecDepth 100000 in
theorem cC_X5_lossAt (l : Launch) (D : va_G) (cA : Nat → ClassId) (q : Nat → Nat) (un : Nat → Nat) (ui : Nat → Int32) (ul : Nat → Int64) (ua : Nat → Nat → Int32) (vc ex wo tp : Nat → Int32) (tf kf : Nat → Option Nat) (L : List Nat) (f : Nat → va_E) (j : Nat) (hj20 : j < 20) : Ki l yX5_lossAt cX5_lossAt 2 .int 0 0 0 0 D cA [.ref (q 1), .int (nI j)] (cF cA q un ui ul ua vc ex wo tp tf kf ++ va_pl L f) (fun r w' => r = ex j - vc j ∧ w' = (cF cA q un ui ul ua vc ex wo tp tf kf ++ va_pl L f)) := by
  refine ent_i (own := RX5) (lv0 := [(0, .ref (q 1)), (1, .int (nI j))]) (by decide) rfl (Nat.le_of_ble_eq_true rfl) rfl ?_
  intro p e s m args below meth c A Q G hinit ret
  refine j_aload_n G dX5_lossAt_0 rfl 0 rfl ?_
  refine gfX5_24 (v := .ref (q 6)) G 1 rfl rfl dX5_lossAt_1 ?_
  refine j_iload_n G dX5_lossAt_4 rfl 1 rfl ?_
  refine j_ialdN (j := j) G 6 rfl rfl (by omega) (Nat.le_of_ble_eq_true rfl) dX5_lossAt_5 ?_
  refine j_aload_n G dX5_lossAt_6 rfl 0 rfl ?_
  refine gfX5_21 (v := .ref (q 5)) G 1 rfl rfl dX5_lossAt_7 ?_
  refine j_iload_n G dX5_lossAt_10 rfl 1 rfl ?_
  refine j_ialdN (j := j) G 5 rfl rfl (by omega) (Nat.le_of_ble_eq_true rfl) dX5_lossAt_11 ?_
  refine j_isub G dX5_lossAt_12 ?_
  exact ret _ _ _ _ dX5_lossAt_13 rfl ⟨rfl, rfl⟩
set_option maxHeartbeats 4000000 in
set_option maxRecDepth 100000 in
theorem cC_X5_ownLossAt (l : Launch) (D : va_G) (cA : Nat → ClassId) (q : Nat → Nat) (un : Nat → Nat) (ui : Nat → Int32) (ul : Nat → Int64) (ua : Nat → Nat → Int32) (vc ex wo tp : Nat → Int32) (tf kf : Nat → Option Nat) (L : List Nat) (f : Nat → va_E) (j : Nat) (hn : un 0 ≤ 20) (hp : PAR (un 0) (ua 1)) (hj : j < un 0) : Ki l yX5_ownLossAt cX5_ownLossAt 2 .int 1 21 0 0 D cA [.ref (q 1), .int (nI j)] (cF cA q un ui ul ua vc ex wo tp tf kf ++ va_pl L f) (fun r w' => r = olV ex vc (ua 1) j ∧ w' = (cF cA q un ui ul ua vc ex wo tp tf kf ++ va_pl L f)) := by
  refine ent_i (own := RX5) (lv0 := [(0, .ref (q 1)), (1, .int (nI j))]) (by decide) rfl (Nat.le_of_ble_eq_true rfl) rfl ?_
  intro p e s m args below meth c A Q G hinit ret
  refine j_iload_n G dX5_ownLossAt_0 rfl 1 rfl ?_
  refine j_if_ne (tgt := 12) G dX5_ownLossAt_1 (by decide) (fun c1 => ?_) (fun c1 => ?_)
  · refine j_aload_n G dX5_ownLossAt_12 rfl 0 rfl ?_
    refine j_iload_n G dX5_ownLossAt_13 rfl 1 rfl ?_
    refine jV_i G 5 1 (cC_X5_lossAt l D cA q un ui ul ua vc ex wo tp tf kf L f j (by omega)) gX5_48 hd_X5_lossAt ⟨Nat.le_of_ble_eq_true rfl, Nat.le_of_ble_eq_true rfl⟩ ⟨Nat.le_of_ble_eq_true rfl, Nat.le_of_ble_eq_true rfl⟩ rfl rfl (Nat.le_of_ble_eq_true rfl) rfl rfl dX5_ownLossAt_14 (fun r w' hq9 => ?_)
    obtain ⟨hr9, hw9⟩ := hq9
    obtain rfl := hr9.symm
    obtain rfl := hw9.symm
    refine j_aload_n G dX5_ownLossAt_17 rfl 0 rfl ?_
    refine j_aload_n G dX5_ownLossAt_18 rfl 0 rfl ?_
    refine gfX5_9 (v := .ref (q 2)) G 1 rfl rfl dX5_ownLossAt_19 ?_
    refine j_iload_n G dX5_ownLossAt_22 rfl 1 rfl ?_
    refine j_ialdN (j := j) G 2 rfl rfl (by omega) (Nat.le_of_ble_eq_true rfl) dX5_ownLossAt_23 ?_
    have hj0 : ¬ j = 0 := fun h => c1 (by rw [h]; rfl)
    obtain ⟨i, hi, e9⟩ := hp j (by omega) hj
    refine j_rwi e9 ?_
    refine jV_i G 5 1 (cC_X5_lossAt l D cA q un ui ul ua vc ex wo tp tf kf L f i (by omega)) gX5_48 hd_X5_lossAt ⟨Nat.le_of_ble_eq_true rfl, Nat.le_of_ble_eq_true rfl⟩ ⟨Nat.le_of_ble_eq_true rfl, Nat.le_of_ble_eq_true rfl⟩ rfl rfl (Nat.le_of_ble_eq_true rfl) rfl rfl dX5_ownLossAt_24 (fun r w' hq9 => ?_)
    obtain ⟨hr9, hw9⟩ := hq9
    obtain rfl := hr9.symm
    obtain rfl := hw9.symm
    refine j_isub G dX5_ownLossAt_27 ?_
    exact ret _ _ _ _ dX5_ownLossAt_28 rfl ⟨(by rw [olV, if_neg hj0, e9, nI_clamp (by omega)]), rfl⟩
  · refine j_aload_n G dX5_ownLossAt_4 rfl 0 rfl ?_
    refine j_iload_n G dX5_ownLossAt_5 rfl 1 rfl ?_
    refine jV_i G 5 1 (cC_X5_lossAt l D cA q un ui ul ua vc ex wo tp tf kf L f j (by omega)) gX5_48 hd_X5_lossAt ⟨Nat.le_of_ble_eq_true rfl, Nat.le_of_ble_eq_true rfl⟩ ⟨Nat.le_of_ble_eq_true rfl, Nat.le_of_ble_eq_true rfl⟩ rfl rfl (Nat.le_of_ble_eq_true rfl) rfl rfl dX5_ownLossAt_6 (fun r w' hq9 => ?_)
    obtain ⟨hr9, hw9⟩ := hq9
    obtain rfl := hr9.symm
    obtain rfl := hw9.symm
    refine j_goto (tgt := 28) G dX5_ownLossAt_9 (by decide) ?_
    exact ret _ _ _ _ dX5_ownLossAt_28 rfl ⟨(by rw [olV, if_pos ((nI_eq0 (by omega)).mp (Classical.byContradiction fun h => by first | exact h c1 | exact c1 h))]), rfl⟩
set_option maxHeartbeats 4000000 in
set_option maxRecDepth 100000 in
theorem cC_X5_tubesAbove (l : Launch) (D : va_G) (cA : Nat → ClassId) (q : Nat → Nat) (un : Nat → Nat) (ui : Nat → Int32) (ul : Nat → Int64) (ua : Nat → Nat → Int32) (vc ex wo tp : Nat → Int32) (tf kf : Nat → Option Nat) (L : List Nat) (f : Nat → va_E) (j : Nat) (hn : un 0 ≤ 20) (hp : PAR (un 0) (ua 1)) (hj : j < un 0) : Ki l yX5_tubesAbove cX5_tubesAbove 4 .int 0 0 0 0 D cA [.ref (q 1), .int (nI j)] (cF cA q un ui ul ua vc ex wo tp tf kf ++ va_pl L f) (fun r w' => r = nI (depV (ua 1) j) ∧ w' = (cF cA q un ui ul ua vc ex wo tp tf kf ++ va_pl L f)) := by
  refine ent_i (own := RX5) (lv0 := [(0, .ref (q 1)), (1, .int (nI j))]) (by decide) rfl (Nat.le_of_ble_eq_true rfl) rfl ?_
  intro p e s m args below meth c A Q G hinit ret
  refine j_iconst (v := 0) G dX5_tubesAbove_0 (by decide) ?_
  refine j_istore_n (lv' := [(2, .int 0), (0, .ref (q 1)), (1, .int (nI j))]) G dX5_tubesAbove_1 rfl (by decide) rfl ?_
  refine j_iload_n G dX5_tubesAbove_2 rfl 2 rfl ?_
  refine j_istore_n (lv' := [(3, .int (nI j)), (2, .int 0), (0, .ref (q 1)), (1, .int (nI j))]) G dX5_tubesAbove_3 rfl (by decide) rfl ?_
  have lp4 : ∀ (fu4 : Nat) (i : Nat) (n9 : Nat), (i < fu4) → (i < un 0) → (n9 + depV (ua 1) i = depV (ua 1) j) → J p l e (RM 0 0 0 0) s m args below meth c 4 D A (cF cA q un ui ul ua vc ex wo tp tf kf ++ va_pl L f) 0 0 Q 4 [(0, .ref (q 1)), (1, .int (nI j)), (2, .int (nI n9)), (3, .int (nI i))] [] := by
    intro fu4
    induction fu4 with
    | zero => intro i n9 h1 h2 h3; exact absurd h1 (by omega)
    | succ fu4 ih4 =>
      intro i n9 h1 h2 h3
      refine j_iload_n G dX5_tubesAbove_4 rfl 3 rfl ?_
      refine j_if_le (tgt := 27) G dX5_tubesAbove_5 (by decide) (fun c5 => ?_) (fun c5 => ?_)
      · refine j_iload_n G dX5_tubesAbove_27 rfl 2 rfl ?_
        exact ret _ _ _ _ dX5_tubesAbove_28 rfl ⟨(by rw [← h3, show i = 0 from Nat.le_zero.mp ((nI_leI (by omega) (by omega)).mp (show nI i ≤ nI 0 from c5)), dep_0, Nat.add_zero]), rfl⟩
      · refine j_iload_n G dX5_tubesAbove_8 rfl 2 rfl ?_
        refine j_bipush (v := 20) G dX5_tubesAbove_9 (by decide) ?_
        refine j_icmp_ge (tgt := 27) G dX5_tubesAbove_11 (by decide) (fun c11 => ?_) (fun c11 => ?_)
        · refine j_iload_n G dX5_tubesAbove_27 rfl 2 rfl ?_
          exact ret _ _ _ _ dX5_tubesAbove_28 rfl ⟨(absurd ((nI_leI (a := 20) (b := n9) (by omega) (by have e8 := dep_le hp hn j j (Nat.le_refl _) hj; omega)).mp (show nI 20 ≤ nI n9 from c11)) (by have e8 := dep_le hp hn j j (Nat.le_refl _) hj; omega)), rfl⟩
        · refine j_iinc (v := (nI (n9 + 1))) (lv' := [(2, .int (nI (n9 + 1))), (0, .ref (q 1)), (1, .int (nI j)), (3, .int (nI i))]) G dX5_tubesAbove_14 2 rfl (nI_1 n9) (by decide) rfl ?_
          refine j_aload_n G dX5_tubesAbove_17 rfl 1 rfl ?_
          refine gfX5_9 (v := .ref (q 2)) G 1 rfl rfl dX5_tubesAbove_18 ?_
          refine j_iload_n G dX5_tubesAbove_21 rfl 3 rfl ?_
          refine j_ialdN (j := i) G 2 rfl rfl (by omega) (Nat.le_of_ble_eq_true rfl) dX5_tubesAbove_22 ?_
          have hi0 : ¬ i = 0 := fun h => c5 (by rw [h]; decide)
          obtain ⟨i', hi', e9⟩ := hp i (by omega) h2
          refine j_rwi e9 ?_
          refine j_istore_n (lv' := [(3, .int (nI i')), (2, .int (nI (n9 + 1))), (0, .ref (q 1)), (1, .int (nI j))]) G dX5_tubesAbove_23 rfl (by decide) rfl ?_
          refine j_goto (tgt := 4) G dX5_tubesAbove_24 (by decide) ?_
          refine j_sub (lv' := [(0, .ref (q 1)), (1, .int (nI j)), (2, .int (nI (n9 + 1))), (3, .int (nI i'))]) [2, 3, 1, 0] rfl ?_
          exact ih4 i' (n9 + 1) (by omega) (by omega) (by rw [← h3, dep_S hp hn (by omega) h2 hi' e9]; omega)
  refine j_sub (lv' := [(0, .ref (q 1)), (1, .int (nI j)), (2, .int 0), (3, .int (nI j))]) [2, 3, 1, 0] rfl ?_
  exact lp4 (j + 1) j 0 (Nat.lt_succ_self _) hj (Nat.zero_add _)
set_option maxHeartbeats 4000000 in
set_option maxRecDepth 100000 in
theorem cC_X6_vacuumBySweep (l : Launch) (D : va_G) (cA : Nat → ClassId) (hfl : l.stackTraces = false) (q : Nat → Nat) (un : Nat → Nat) (ui : Nat → Int32) (ul : Nat → Int64) (ua : Nat → Nat → Int32) (vc ex wo tp : Nat → Int32) (tf kf : Nat → Option Nat) (L : List Nat) (f : Nat → va_E) (v : Int32) (hn : un 0 ≤ 20) (hn1 : 1 ≤ un 0) (hp : PAR (un 0) (ua 1)) : Xi l yX6_vacuumBySweep cX6_vacuumBySweep 2 .int 7 131 1 6 D cA [.ref (q 0), .int v] (cF cA q un ui ul ua vc ex wo tp tf kf ++ va_pl L f) (fun r w' => (VN (un 0) v) ∧ r = vac (un 0) (ui 0) (ua 1) (ua 2) (ua 7) v.toNatClampNeg ∧ w' = (cF cA q un ui ul ua (swV (vac (un 0) (ui 0) (ua 1) (ua 2) (ua 7)) vc (un 0)) (swV (expV (ui 0) (ua 1) (ua 2)) ex (un 0)) wo tp tf kf ++ va_pl L f)) (fun u => ((¬ VN (un 0) v) ∧ u = ("java/lang/IndexOutOfBoundsException", cF cA q un ui ul ua vc ex wo tp tf kf ++ va_pl L f))) := by
  refine ent_Xi (own := RX6) (lv0 := [(0, .ref (q 0)), (1, .int v)]) (by decide) rfl (Nat.le_of_ble_eq_true rfl) rfl ?_
  intro p e s m args below meth c A Q G hQ ht hlocks ret
  refine j_aload_n G dX6_vacuumBySweep_0 rfl 0 rfl ?_
  refine j_iload_n G dX6_vacuumBySweep_1 rfl 1 rfl ?_
  refine jXV_v G 6 0 (cC_X6_requireNode l D cA hfl q un ui ul ua vc ex wo tp tf kf L f v) gX6_56 hd_X6_requireNode ⟨Nat.le_of_ble_eq_true rfl, Nat.le_of_ble_eq_true rfl⟩ ⟨Nat.le_of_ble_eq_true rfl, Nat.le_of_ble_eq_true rfl⟩ rfl rfl (Nat.le_of_ble_eq_true rfl) rfl rfl dX6_vacuumBySweep_2 (fun E9 w9 hq9 => ?_) (fun w' hq9 => ?_)
  · rcases hq9 with ⟨h9, hu9⟩
    cases hu9
    exact j_out (post := fun _ => True) G hQ ht hlocks ⟨h9, rfl⟩ (Nat.le_of_ble_eq_true rfl) (Nat.le_of_ble_eq_true rfl)
  obtain ⟨k2, hw9⟩ := hq9
  obtain rfl := hw9.symm
  refine j_aload_n G dX6_vacuumBySweep_5 rfl 0 rfl ?_
  refine gfX6_10 (v := .ref (q 1)) G 0 rfl rfl dX6_vacuumBySweep_6 ?_
  refine jV_v G 5 1 (cC_X5_sweep l D cA q un ui ul ua vc ex wo tp tf kf L f hn hn1 hp) gX6_111 hd_X5_sweep ⟨Nat.le_of_ble_eq_true rfl, Nat.le_of_ble_eq_true rfl⟩ ⟨Nat.le_of_ble_eq_true rfl, Nat.le_of_ble_eq_true rfl⟩ rfl rfl (Nat.le_of_ble_eq_true rfl) rfl rfl dX6_vacuumBySweep_9 (fun w' hq9 => ?_)
  obtain rfl := hq9.symm
  refine j_w (w' := cF cA q un ui ul ua (swV (vac (un 0) (ui 0) (ua 1) (ua 2) (ua 7)) vc (un 0)) (swV (expV (ui 0) (ua 1) (ua 2)) ex (un 0)) wo tp tf kf ++ va_pl L f) rfl ?_
  refine j_aload_n G dX6_vacuumBySweep_12 rfl 0 rfl ?_
  refine gfX6_10 (v := .ref (q 1)) G 0 rfl rfl dX6_vacuumBySweep_13 ?_
  refine gfX6_114 (v := .ref (q 5)) G 1 rfl rfl dX6_vacuumBySweep_16 ?_
  refine j_iload_n G dX6_vacuumBySweep_19 rfl 1 rfl ?_
  refine j_iald G 5 rfl (k2.vp (by omega) (by omega)) dX6_vacuumBySweep_20 ?_
  refine j_rwi (swV_lt (k2.lt (by omega))) ?_
  refine j_cs (k' := 1) (n' := 6) (Nat.le_of_ble_eq_true rfl) (Nat.le_of_ble_eq_true rfl) ?_
  exact ret _ _ _ _ dX6_vacuumBySweep_21 rfl ⟨k2, rfl, rfl⟩
set_option maxHeartbeats 4000000 in
set_option maxRecDepth 100000 in
theorem cC_X6_expectedVacuum (l : Launch) (D : va_G) (cA : Nat → ClassId) (hfl : l.stackTraces = false) (q : Nat → Nat) (un : Nat → Nat) (ui : Nat → Int32) (ul : Nat → Int64) (ua : Nat → Nat → Int32) (vc ex wo tp : Nat → Int32) (tf kf : Nat → Option Nat) (L : List Nat) (f : Nat → va_E) (v : Int32) (hn : un 0 ≤ 20) (hn1 : 1 ≤ un 0) (hp : PAR (un 0) (ua 1)) : Xi l yX6_expectedVacuum cX6_expectedVacuum 2 .int 7 131 1 6 D cA [.ref (q 0), .int v] (cF cA q un ui ul ua vc ex wo tp tf kf ++ va_pl L f) (fun r w' => (VN (un 0) v) ∧ r = expV (ui 0) (ua 1) (ua 2) v.toNatClampNeg ∧ w' = (cF cA q un ui ul ua (swV (vac (un 0) (ui 0) (ua 1) (ua 2) (ua 7)) vc (un 0)) (swV (expV (ui 0) (ua 1) (ua 2)) ex (un 0)) wo tp tf kf ++ va_pl L f)) (fun u => ((¬ VN (un 0) v) ∧ u = ("java/lang/IndexOutOfBoundsException", cF cA q un ui ul ua vc ex wo tp tf kf ++ va_pl L f))) := by
  refine ent_Xi (own := RX6) (lv0 := [(0, .ref (q 0)), (1, .int v)]) (by decide) rfl (Nat.le_of_ble_eq_true rfl) rfl ?_
  intro p e s m args below meth c A Q G hQ ht hlocks ret
  refine j_aload_n G dX6_expectedVacuum_0 rfl 0 rfl ?_
  refine j_iload_n G dX6_expectedVacuum_1 rfl 1 rfl ?_
  refine jXV_v G 6 0 (cC_X6_requireNode l D cA hfl q un ui ul ua vc ex wo tp tf kf L f v) gX6_56 hd_X6_requireNode ⟨Nat.le_of_ble_eq_true rfl, Nat.le_of_ble_eq_true rfl⟩ ⟨Nat.le_of_ble_eq_true rfl, Nat.le_of_ble_eq_true rfl⟩ rfl rfl (Nat.le_of_ble_eq_true rfl) rfl rfl dX6_expectedVacuum_2 (fun E9 w9 hq9 => ?_) (fun w' hq9 => ?_)
  · rcases hq9 with ⟨h9, hu9⟩
    cases hu9
    exact j_out (post := fun _ => True) G hQ ht hlocks ⟨h9, rfl⟩ (Nat.le_of_ble_eq_true rfl) (Nat.le_of_ble_eq_true rfl)
  obtain ⟨k2, hw9⟩ := hq9
  obtain rfl := hw9.symm
  refine j_aload_n G dX6_expectedVacuum_5 rfl 0 rfl ?_
  refine gfX6_10 (v := .ref (q 1)) G 0 rfl rfl dX6_expectedVacuum_6 ?_
  refine jV_v G 5 1 (cC_X5_sweep l D cA q un ui ul ua vc ex wo tp tf kf L f hn hn1 hp) gX6_111 hd_X5_sweep ⟨Nat.le_of_ble_eq_true rfl, Nat.le_of_ble_eq_true rfl⟩ ⟨Nat.le_of_ble_eq_true rfl, Nat.le_of_ble_eq_true rfl⟩ rfl rfl (Nat.le_of_ble_eq_true rfl) rfl rfl dX6_expectedVacuum_9 (fun w' hq9 => ?_)
  obtain rfl := hq9.symm
  refine j_w (w' := cF cA q un ui ul ua (swV (vac (un 0) (ui 0) (ua 1) (ua 2) (ua 7)) vc (un 0)) (swV (expV (ui 0) (ua 1) (ua 2)) ex (un 0)) wo tp tf kf ++ va_pl L f) rfl ?_
  refine j_aload_n G dX6_expectedVacuum_12 rfl 0 rfl ?_
  refine gfX6_10 (v := .ref (q 1)) G 0 rfl rfl dX6_expectedVacuum_13 ?_
  refine gfX6_117 (v := .ref (q 6)) G 1 rfl rfl dX6_expectedVacuum_16 ?_
  refine j_iload_n G dX6_expectedVacuum_19 rfl 1 rfl ?_
  refine j_iald G 6 rfl (k2.vp (by omega) (by omega)) dX6_expectedVacuum_20 ?_
  refine j_rwi (swV_lt (k2.lt (by omega))) ?_
  refine j_cs (k' := 1) (n' := 6) (Nat.le_of_ble_eq_true rfl) (Nat.le_of_ble_eq_true rfl) ?_
  exact ret _ _ _ _ dX6_expectedVacuum_21 rfl ⟨k2, rfl, rfl⟩
set_option maxHeartbeats 4000000 in
set_option maxRecDepth 100000 in
theorem cC_X6_depth (l : Launch) (D : va_G) (cA : Nat → ClassId) (hfl : l.stackTraces = false) (q : Nat → Nat) (un : Nat → Nat) (ui : Nat → Int32) (ul : Nat → Int64) (ua : Nat → Nat → Int32) (vc ex wo tp : Nat → Int32) (tf kf : Nat → Option Nat) (L : List Nat) (f : Nat → va_E) (v : Int32) (hn : un 0 ≤ 20) (hp : PAR (un 0) (ua 1)) : Xi l yX6_depth cX6_depth 2 .int 7 131 1 6 D cA [.ref (q 0), .int v] (cF cA q un ui ul ua vc ex wo tp tf kf ++ va_pl L f) (fun r w' => (VN (un 0) v) ∧ r = nI (depV (ua 1) v.toNatClampNeg) ∧ w' = (cF cA q un ui ul ua vc ex wo tp tf kf ++ va_pl L f)) (fun u => ((¬ VN (un 0) v) ∧ u = ("java/lang/IndexOutOfBoundsException", cF cA q un ui ul ua vc ex wo tp tf kf ++ va_pl L f))) := by
  refine ent_Xi (own := RX6) (lv0 := [(0, .ref (q 0)), (1, .int v)]) (by decide) rfl (Nat.le_of_ble_eq_true rfl) rfl ?_
  intro p e s m args below meth c A Q G hQ ht hlocks ret
  refine j_aload_n G dX6_depth_0 rfl 0 rfl ?_
  refine j_iload_n G dX6_depth_1 rfl 1 rfl ?_
  refine jXV_v G 6 0 (cC_X6_requireNode l D cA hfl q un ui ul ua vc ex wo tp tf kf L f v) gX6_56 hd_X6_requireNode ⟨Nat.le_of_ble_eq_true rfl, Nat.le_of_ble_eq_true rfl⟩ ⟨Nat.le_of_ble_eq_true rfl, Nat.le_of_ble_eq_true rfl⟩ rfl rfl (Nat.le_of_ble_eq_true rfl) rfl rfl dX6_depth_2 (fun E9 w9 hq9 => ?_) (fun w' hq9 => ?_)
  · rcases hq9 with ⟨h9, hu9⟩
    cases hu9
    exact j_out (post := fun _ => True) G hQ ht hlocks ⟨h9, rfl⟩ (Nat.le_of_ble_eq_true rfl) (Nat.le_of_ble_eq_true rfl)
  obtain ⟨k2, hw9⟩ := hq9
  obtain rfl := hw9.symm
  refine j_aload_n G dX6_depth_5 rfl 0 rfl ?_
  refine gfX6_10 (v := .ref (q 1)) G 0 rfl rfl dX6_depth_6 ?_
  refine j_iload_n G dX6_depth_9 rfl 1 rfl ?_
  have hj := k2.lt (by omega)
  refine j_rwi (k2.nI (by omega)) ?_
  refine jV_i G 5 1 (cC_X5_tubesAbove l D cA q un ui ul ua vc ex wo tp tf kf L f v.toNatClampNeg hn hp hj) gX6_126 hd_X5_tubesAbove ⟨Nat.le_of_ble_eq_true rfl, Nat.le_of_ble_eq_true rfl⟩ ⟨Nat.le_of_ble_eq_true rfl, Nat.le_of_ble_eq_true rfl⟩ rfl rfl (Nat.le_of_ble_eq_true rfl) rfl rfl dX6_depth_10 (fun r w' hq9 => ?_)
  obtain ⟨hr9, hw9⟩ := hq9
  obtain rfl := hr9.symm
  obtain rfl := hw9.symm
  refine j_cs (k' := 1) (n' := 6) (Nat.le_of_ble_eq_true rfl) (Nat.le_of_ble_eq_true rfl) ?_
  exact ret _ _ _ _ dX6_depth_13 rfl ⟨k2, rfl, rfl⟩
set_option maxHeartbeats 4000000 in
set_option maxRecDepth 100000 in
theorem cC_X6_nodesAhead (l : Launch) (D : va_G) (cA : Nat → ClassId) (q : Nat → Nat) (un : Nat → Nat) (ui : Nat → Int32) (ul : Nat → Int64) (ua : Nat → Nat → Int32) (vc ex wo tp : Nat → Int32) (tf kf : Nat → Option Nat) (L : List Nat) (f : Nat → va_E) (j : Nat) (hn : un 0 ≤ 20) (hj : j < un 0) : Ki l yX6_nodesAhead cX6_nodesAhead 5 .int 1 20 0 0 D cA [.ref (q 0), .int (nI j)] (cF cA q un ui ul ua vc ex wo tp tf kf ++ va_pl L f) (fun r w' => r = cntV (ahP wo j) (un 0) ∧ w' = (cF cA q un ui ul ua vc ex wo tp tf kf ++ va_pl L f)) := by
  refine ent_i (own := RX6) (lv0 := [(0, .ref (q 0)), (1, .int (nI j))]) (by decide) rfl (Nat.le_of_ble_eq_true rfl) rfl ?_
  intro p e s m args below meth c A Q G hinit ret
  refine j_iconst (v := 0) G dX6_nodesAhead_0 (by decide) ?_
  refine j_istore_n (lv' := [(2, .int 0), (0, .ref (q 0)), (1, .int (nI j))]) G dX6_nodesAhead_1 rfl (by decide) rfl ?_
  refine j_iconst (v := 0) G dX6_nodesAhead_2 (by decide) ?_
  refine j_istore_n (lv' := [(3, .int 0), (2, .int 0), (0, .ref (q 0)), (1, .int (nI j))]) G dX6_nodesAhead_3 rfl (by decide) rfl ?_
  have lp4 : ∀ (fu4 : Nat) (o : Nat), (o ≤ un 0) → (un 0 < o + fu4) → J p l e (RM 1 20 0 0) s m args below meth c 5 D A (cF cA q un ui ul ua vc ex wo tp tf kf ++ va_pl L f) 0 0 Q 4 [(0, .ref (q 0)), (1, .int (nI j)), (2, .int (cntV (ahP wo j) o)), (3, .int (nI o))] [] := by
    intro fu4
    induction fu4 with
    | zero => intro o h1 h2; exact absurd h2 (by omega)
    | succ fu4 ih4 =>
      intro o h1 h2
      refine j_iload_n G dX6_nodesAhead_4 rfl 3 rfl ?_
      refine j_aload_n G dX6_nodesAhead_5 rfl 0 rfl ?_
      refine gfX6_10 (v := .ref (q 1)) G 0 rfl rfl dX6_nodesAhead_6 ?_
      refine jV_i G 5 1 (cC_X5_size l D cA q un ui ul ua vc ex wo tp tf kf L f ) gX6_103 hd_X5_size ⟨Nat.le_of_ble_eq_true rfl, Nat.le_of_ble_eq_true rfl⟩ ⟨Nat.le_of_ble_eq_true rfl, Nat.le_of_ble_eq_true rfl⟩ rfl rfl (Nat.le_of_ble_eq_true rfl) rfl rfl dX6_nodesAhead_9 (fun r w' hq9 => ?_)
      obtain ⟨hr9, hw9⟩ := hq9
      obtain rfl := hr9.symm
      obtain rfl := hw9.symm
      refine j_icmp_ge (tgt := 71) G dX6_nodesAhead_12 (by decide) (fun c12 => ?_) (fun c12 => ?_)
      · have g12 : o = un 0 := Nat.le_antisymm h1 ((nI_leI (by omega) (by omega)).mp c12)
        refine j_iload_n G dX6_nodesAhead_71 rfl 2 rfl ?_
        exact ret _ _ _ _ dX6_nodesAhead_72 rfl ⟨(by rw [g12]), rfl⟩
      · have g12 : o < un 0 := (Nat.lt_or_ge o (un 0)).resolve_right (fun h => absurd ((nI_leI (by omega) (by omega)).mpr h) c12)
        refine j_aload_n G dX6_nodesAhead_15 rfl 0 rfl ?_
        refine gfX6_52 (v := .ref (q 15)) G 0 rfl rfl dX6_nodesAhead_16 ?_
        refine j_iload_n G dX6_nodesAhead_19 rfl 3 rfl ?_
        refine j_ialdN (j := o) G 15 rfl rfl (by omega) (Nat.le_of_ble_eq_true rfl) dX6_nodesAhead_20 ?_
        refine j_aload_n G dX6_nodesAhead_21 rfl 0 rfl ?_
        refine gfX6_52 (v := .ref (q 15)) G 0 rfl rfl dX6_nodesAhead_22 ?_
        refine j_iload_n G dX6_nodesAhead_25 rfl 1 rfl ?_
        refine j_ialdN (j := j) G 15 rfl rfl (by omega) (Nat.le_of_ble_eq_true rfl) dX6_nodesAhead_26 ?_
        refine j_icmp_gt (tgt := 50) G dX6_nodesAhead_27 (by decide) (fun c27 => ?_) (fun c27 => ?_)
        · refine j_iconst (v := 1) G dX6_nodesAhead_50 (by decide) ?_
          refine j_goto (tgt := 55) G dX6_nodesAhead_51 (by decide) ?_
          refine j_istore (lv' := [(4, .int 1), (0, .ref (q 0)), (1, .int (nI j)), (2, .int (cntV (ahP wo j) o)), (3, .int (nI o))]) G dX6_nodesAhead_55 (by decide) rfl ?_
          refine j_iload G dX6_nodesAhead_57 0 rfl ?_
          refine j_if_eq (tgt := 65) G dX6_nodesAhead_59 (by decide) (fun c59 => absurd c59 (by decide)) (fun _ => ?_)
          refine j_iinc (v := ((cntV (ahP wo j) o) + 1)) (lv' := [(2, .int ((cntV (ahP wo j) o) + 1)), (4, .int 1), (0, .ref (q 0)), (1, .int (nI j)), (3, .int (nI o))]) G dX6_nodesAhead_62 3 rfl rfl (by decide) rfl ?_
          have e9 := cntV_y (ahP wo j) o (by simp [ahP, c27])
          refine j_lv (lv' := [(2, .int (cntV (ahP wo j) (o + 1))), (4, .int 1), (0, .ref (q 0)), (1, .int (nI j)), (3, .int (nI o))]) (by rw [← e9]) ?_
          refine j_iinc (v := (nI (o + 1))) (lv' := [(3, .int (nI (o + 1))), (2, .int (cntV (ahP wo j) (o + 1))), (4, .int 1), (0, .ref (q 0)), (1, .int (nI j))]) G dX6_nodesAhead_65 4 rfl (nI_1 o) (by decide) rfl ?_
          refine j_goto (tgt := 4) G dX6_nodesAhead_68 (by decide) ?_
          refine j_sub (lv' := [(0, .ref (q 0)), (1, .int (nI j)), (2, .int (cntV (ahP wo j) (o + 1))), (3, .int (nI (o + 1)))]) [3, 4, 1, 0] rfl ?_
          exact ih4 (o + 1) (by omega) (by omega)
        · refine j_aload_n G dX6_nodesAhead_30 rfl 0 rfl ?_
          refine gfX6_52 (v := .ref (q 15)) G 0 rfl rfl dX6_nodesAhead_31 ?_
          refine j_iload_n G dX6_nodesAhead_34 rfl 3 rfl ?_
          refine j_ialdN (j := o) G 15 rfl rfl (by omega) (Nat.le_of_ble_eq_true rfl) dX6_nodesAhead_35 ?_
          refine j_aload_n G dX6_nodesAhead_36 rfl 0 rfl ?_
          refine gfX6_52 (v := .ref (q 15)) G 0 rfl rfl dX6_nodesAhead_37 ?_
          refine j_iload_n G dX6_nodesAhead_40 rfl 1 rfl ?_
          refine j_ialdN (j := j) G 15 rfl rfl (by omega) (Nat.le_of_ble_eq_true rfl) dX6_nodesAhead_41 ?_
          refine j_icmp_ne (tgt := 54) G dX6_nodesAhead_42 (by decide) (fun c42 => ?_) (fun c42 => ?_)
          · refine j_iconst (v := 0) G dX6_nodesAhead_54 (by decide) ?_
            refine j_istore (lv' := [(4, .int 0), (0, .ref (q 0)), (1, .int (nI j)), (2, .int (cntV (ahP wo j) o)), (3, .int (nI o))]) G dX6_nodesAhead_55 (by decide) rfl ?_
            refine j_iload G dX6_nodesAhead_57 0 rfl ?_
            refine j_if_eq (tgt := 65) G dX6_nodesAhead_59 (by decide) (fun _ => ?_) (fun c59 => absurd c59 (by decide))
            have e9 := (Int32.add_zero (cntV (ahP wo j) o)).symm.trans (cntV_n (ahP wo j) o (by simp [ahP, c27, c42]))
            refine j_lv (lv' := [(4, .int 0), (0, .ref (q 0)), (1, .int (nI j)), (2, .int (cntV (ahP wo j) (o + 1))), (3, .int (nI o))]) (by rw [← e9]) ?_
            refine j_iinc (v := (nI (o + 1))) (lv' := [(3, .int (nI (o + 1))), (4, .int 0), (0, .ref (q 0)), (1, .int (nI j)), (2, .int (cntV (ahP wo j) (o + 1)))]) G dX6_nodesAhead_65 4 rfl (nI_1 o) (by decide) rfl ?_
            refine j_goto (tgt := 4) G dX6_nodesAhead_68 (by decide) ?_
            refine j_sub (lv' := [(0, .ref (q 0)), (1, .int (nI j)), (2, .int (cntV (ahP wo j) (o + 1))), (3, .int (nI (o + 1)))]) [2, 3, 4, 0] rfl ?_
            exact ih4 (o + 1) (by omega) (by omega)
          · refine j_iload_n G dX6_nodesAhead_45 rfl 3 rfl ?_
            refine j_iload_n G dX6_nodesAhead_46 rfl 1 rfl ?_
            refine j_icmp_ge (tgt := 54) G dX6_nodesAhead_47 (by decide) (fun c47 => ?_) (fun c47 => ?_)
            · have g47 : ¬ o < j := Nat.not_lt.mpr ((nI_leI (by omega) (by omega)).mp c47)
              refine j_iconst (v := 0) G dX6_nodesAhead_54 (by decide) ?_
              refine j_istore (lv' := [(4, .int 0), (0, .ref (q 0)), (1, .int (nI j)), (2, .int (cntV (ahP wo j) o)), (3, .int (nI o))]) G dX6_nodesAhead_55 (by decide) rfl ?_
              refine j_iload G dX6_nodesAhead_57 0 rfl ?_
              refine j_if_eq (tgt := 65) G dX6_nodesAhead_59 (by decide) (fun _ => ?_) (fun c59 => absurd c59 (by decide))
              have e9 := (Int32.add_zero (cntV (ahP wo j) o)).symm.trans (cntV_n (ahP wo j) o (by simp [ahP, c27, c42, g47]))
              refine j_lv (lv' := [(4, .int 0), (0, .ref (q 0)), (1, .int (nI j)), (2, .int (cntV (ahP wo j) (o + 1))), (3, .int (nI o))]) (by rw [← e9]) ?_
              refine j_iinc (v := (nI (o + 1))) (lv' := [(3, .int (nI (o + 1))), (4, .int 0), (0, .ref (q 0)), (1, .int (nI j)), (2, .int (cntV (ahP wo j) (o + 1)))]) G dX6_nodesAhead_65 4 rfl (nI_1 o) (by decide) rfl ?_
              refine j_goto (tgt := 4) G dX6_nodesAhead_68 (by decide) ?_
              refine j_sub (lv' := [(0, .ref (q 0)), (1, .int (nI j)), (2, .int (cntV (ahP wo j) (o + 1))), (3, .int (nI (o + 1)))]) [2, 3, 4, 0] rfl ?_
              exact ih4 (o + 1) (by omega) (by omega)
            · have g47 : o < j := Nat.lt_of_not_le (fun h => c47 ((nI_leI (by omega) (by omega)).mpr h))
              refine j_iconst (v := 1) G dX6_nodesAhead_50 (by decide) ?_
              refine j_goto (tgt := 55) G dX6_nodesAhead_51 (by decide) ?_
              refine j_istore (lv' := [(4, .int 1), (0, .ref (q 0)), (1, .int (nI j)), (2, .int (cntV (ahP wo j) o)), (3, .int (nI o))]) G dX6_nodesAhead_55 (by decide) rfl ?_
              refine j_iload G dX6_nodesAhead_57 0 rfl ?_
              refine j_if_eq (tgt := 65) G dX6_nodesAhead_59 (by decide) (fun c59 => absurd c59 (by decide)) (fun _ => ?_)
              refine j_iinc (v := ((cntV (ahP wo j) o) + 1)) (lv' := [(2, .int ((cntV (ahP wo j) o) + 1)), (4, .int 1), (0, .ref (q 0)), (1, .int (nI j)), (3, .int (nI o))]) G dX6_nodesAhead_62 3 rfl rfl (by decide) rfl ?_
              have e9 := cntV_y (ahP wo j) o (by simp [ahP, c27, c42, g47])
              refine j_lv (lv' := [(2, .int (cntV (ahP wo j) (o + 1))), (4, .int 1), (0, .ref (q 0)), (1, .int (nI j)), (3, .int (nI o))]) (by rw [← e9]) ?_
              refine j_iinc (v := (nI (o + 1))) (lv' := [(3, .int (nI (o + 1))), (2, .int (cntV (ahP wo j) (o + 1))), (4, .int 1), (0, .ref (q 0)), (1, .int (nI j))]) G dX6_nodesAhead_65 4 rfl (nI_1 o) (by decide) rfl ?_
              refine j_goto (tgt := 4) G dX6_nodesAhead_68 (by decide) ?_
              refine j_sub (lv' := [(0, .ref (q 0)), (1, .int (nI j)), (2, .int (cntV (ahP wo j) (o + 1))), (3, .int (nI (o + 1)))]) [3, 4, 1, 0] rfl ?_
              exact ih4 (o + 1) (by omega) (by omega)
  refine j_sub (lv' := [(0, .ref (q 0)), (1, .int (nI j)), (2, .int 0), (3, .int 0)]) [2, 3, 1, 0] rfl ?_
  exact lp4 (un 0 + 1) 0 (Nat.zero_le _) (by omega)
set_option maxHeartbeats 4000000 in
set_option maxRecDepth 100000 in
theorem cC_X6_nodeAt (l : Launch) (D : va_G) (cA : Nat → ClassId) (q : Nat → Nat) (un : Nat → Nat) (ui : Nat → Int32) (ul : Nat → Int64) (ua : Nat → Nat → Int32) (vc ex wo tp : Nat → Int32) (tf kf : Nat → Option Nat) (L : List Nat) (f : Nat → va_E) (rk : Int32) (hn : un 0 ≤ 20) : Ki l yX6_nodeAt cX6_nodeAt 3 .int 2 44 0 0 D cA [.ref (q 0), .int rk] (cF cA q un ui ul ua vc ex wo tp tf kf ++ va_pl L f) (fun r w' => r = ndA wo (un 0) rk ∧ w' = (cF cA q un ui ul ua vc ex wo tp tf kf ++ va_pl L f)) := by
  refine ent_i (own := RX6) (lv0 := [(0, .ref (q 0)), (1, .int rk)]) (by decide) rfl (Nat.le_of_ble_eq_true rfl) rfl ?_
  intro p e s m args below meth c A Q G hinit ret
  refine j_iconst (v := 0) G dX6_nodeAt_0 (by decide) ?_
  refine j_istore_n (lv' := [(2, .int 0), (0, .ref (q 0)), (1, .int rk)]) G dX6_nodeAt_1 rfl (by decide) rfl ?_
  have lp2 : ∀ (fu2 : Nat) (k : Nat), (k ≤ un 0) → (un 0 < k + fu2) → (∀ j, j < k → ¬ ndP wo (un 0) rk j) → J p l e (RM 2 44 0 0) s m args below meth c 3 D A (cF cA q un ui ul ua vc ex wo tp tf kf ++ va_pl L f) 0 0 Q 2 [(0, .ref (q 0)), (1, .int rk), (2, .int (nI k))] [] := by
    intro fu2
    induction fu2 with
    | zero => intro k h1 h2 h3; exact absurd h2 (by omega)
    | succ fu2 ih2 =>
      intro k h1 h2 h3
      refine j_iload_n G dX6_nodeAt_2 rfl 2 rfl ?_
      refine j_aload_n G dX6_nodeAt_3 rfl 0 rfl ?_
      refine gfX6_10 (v := .ref (q 1)) G 0 rfl rfl dX6_nodeAt_4 ?_
      refine jV_i G 5 1 (cC_X5_size l D cA q un ui ul ua vc ex wo tp tf kf L f ) gX6_103 hd_X5_size ⟨Nat.le_of_ble_eq_true rfl, Nat.le_of_ble_eq_true rfl⟩ ⟨Nat.le_of_ble_eq_true rfl, Nat.le_of_ble_eq_true rfl⟩ rfl rfl (Nat.le_of_ble_eq_true rfl) rfl rfl dX6_nodeAt_7 (fun r w' hq9 => ?_)
      obtain ⟨hr9, hw9⟩ := hq9
      obtain rfl := hr9.symm
      obtain rfl := hw9.symm
      refine j_icmp_ge (tgt := 40) G dX6_nodeAt_10 (by decide) (fun c10 => ?_) (fun c10 => ?_)
      · have g10 : un 0 ≤ k := (nI_leI (by omega) (by omega)).mp c10
        refine j_iconst (v := (-1)) G dX6_nodeAt_40 (by decide) ?_
        exact ret _ _ _ _ dX6_nodeAt_41 rfl ⟨(by rw [ndA, cfRank_no (P := ndP wo (un 0) rk) (fun j hj => h3 j (by omega)), if_neg (by decide)]), rfl⟩
      · have g10 : k < un 0 := (Nat.lt_or_ge k (un 0)).resolve_right (fun h => absurd ((nI_leI (by omega) (by omega)).mpr h) c10)
        refine j_aload_n G dX6_nodeAt_13 rfl 0 rfl ?_
        refine gfX6_52 (v := .ref (q 15)) G 0 rfl rfl dX6_nodeAt_14 ?_
        refine j_iload_n G dX6_nodeAt_17 rfl 2 rfl ?_
        refine j_ialdN (j := k) G 15 rfl rfl (by omega) (Nat.le_of_ble_eq_true rfl) dX6_nodeAt_18 ?_
        refine j_iconst (v := (-1)) G dX6_nodeAt_19 (by decide) ?_
        refine j_icmp_eq (tgt := 34) G dX6_nodeAt_20 (by decide) (fun c20 => ?_) (fun c20 => ?_)
        · refine j_iinc (v := (nI (k + 1))) (lv' := [(2, .int (nI (k + 1))), (0, .ref (q 0)), (1, .int rk)]) G dX6_nodeAt_34 2 rfl (nI_1 k) (by decide) rfl ?_
          refine j_goto (tgt := 2) G dX6_nodeAt_37 (by decide) ?_
          refine j_sub (lv' := [(0, .ref (q 0)), (1, .int rk), (2, .int (nI (k + 1)))]) [1, 2, 0] rfl ?_
          exact ih2 (k + 1) (by omega) (by omega) (lt_s h3 (fun h => h.1 c20))
        · refine j_aload_n G dX6_nodeAt_23 rfl 0 rfl ?_
          refine j_iload_n G dX6_nodeAt_24 rfl 2 rfl ?_
          refine jV_i G 6 0 (cC_X6_nodesAhead l D cA q un ui ul ua vc ex wo tp tf kf L f k hn g10) gX6_330 hd_X6_nodesAhead ⟨Nat.le_of_ble_eq_true rfl, Nat.le_of_ble_eq_true rfl⟩ ⟨Nat.le_of_ble_eq_true rfl, Nat.le_of_ble_eq_true rfl⟩ rfl rfl (Nat.le_of_ble_eq_true rfl) rfl rfl dX6_nodeAt_25 (fun r w' hq9 => ?_)
          obtain ⟨hr9, hw9⟩ := hq9
          obtain rfl := hr9.symm
          obtain rfl := hw9.symm
          refine j_iload_n G dX6_nodeAt_28 rfl 1 rfl ?_
          refine j_icmp_ne (tgt := 34) G dX6_nodeAt_29 (by decide) (fun c29 => ?_) (fun c29 => ?_)
          · refine j_iinc (v := (nI (k + 1))) (lv' := [(2, .int (nI (k + 1))), (0, .ref (q 0)), (1, .int rk)]) G dX6_nodeAt_34 2 rfl (nI_1 k) (by decide) rfl ?_
            refine j_goto (tgt := 2) G dX6_nodeAt_37 (by decide) ?_
            refine j_sub (lv' := [(0, .ref (q 0)), (1, .int rk), (2, .int (nI (k + 1)))]) [1, 2, 0] rfl ?_
            exact ih2 (k + 1) (by omega) (by omega) (lt_s h3 (fun h => c29 h.2))
          · refine j_iload_n G dX6_nodeAt_32 rfl 2 rfl ?_
            exact ret _ _ _ _ dX6_nodeAt_33 rfl ⟨(by rw [ndA, cfRank_ok (P := ndP wo (un 0) rk) h3 g10 ⟨c20, c29⟩, if_pos rfl, fnd_at (P := ndP wo (un 0) rk) h3 g10 ⟨c20, c29⟩]), rfl⟩
  refine j_sub (lv' := [(0, .ref (q 0)), (1, .int rk), (2, .int 0)]) [1, 2, 0] rfl ?_
  exact lp2 (un 0 + 1) 0 (Nat.zero_le _) (by omega) (fun j hj => absurd hj (Nat.not_lt_zero j))
set_option maxHeartbeats 4000000 in
set_option maxRecDepth 100000 in
theorem cC_X6_requireRanked (l : Launch) (D : va_G) (cA : Nat → ClassId) (hfl : l.stackTraces = false) (q : Nat → Nat) (un : Nat → Nat) (ui : Nat → Int32) (ul : Nat → Int64) (ua : Nat → Nat → Int32) (vc ex wo tp : Nat → Int32) (tf kf : Nat → Option Nat) (L : List Nat) (f : Nat → va_E) (rk : Int32) (hn : un 0 ≤ 20) : Xi l yX6_requireRanked cX6_requireRanked 3 .int 6 110 1 6 D cA [.ref (q 0), .int rk] (cF cA q un ui ul ua vc ex wo tp tf kf ++ va_pl L f) (fun r w' => (cfRank (ndP wo (un 0) rk) (un 0) = 0) ∧ r = nI (fnd (ndP wo (un 0) rk) (un 0)) ∧ w' = (cF cA q un ui ul ua vc ex wo tp tf kf ++ va_pl L f)) (fun u => ((cfRank (ndP wo (un 0) rk) (un 0) = 1) ∧ u = ("java/util/NoSuchElementException", cF cA q un ui ul ua vc ex wo tp tf kf ++ va_pl L f))) := by
  refine ent_Xi (own := RX6) (lv0 := [(0, .ref (q 0)), (1, .int rk)]) (by decide) rfl (Nat.le_of_ble_eq_true rfl) rfl ?_
  intro p e s m args below meth c A Q G hQ ht hlocks ret
  refine j_aload_n G dX6_requireRanked_0 rfl 0 rfl ?_
  refine j_iload_n G dX6_requireRanked_1 rfl 1 rfl ?_
  refine jV_i G 6 0 (cC_X6_nodeAt l D cA q un ui ul ua vc ex wo tp tf kf L f rk hn) gX6_325 hd_X6_nodeAt ⟨Nat.le_of_ble_eq_true rfl, Nat.le_of_ble_eq_true rfl⟩ ⟨Nat.le_of_ble_eq_true rfl, Nat.le_of_ble_eq_true rfl⟩ rfl rfl (Nat.le_of_ble_eq_true rfl) rfl rfl dX6_requireRanked_2 (fun r w' hq9 => ?_)
  obtain ⟨hr9, hw9⟩ := hq9
  obtain rfl := hr9.symm
  obtain rfl := hw9.symm
  refine j_istore_n (lv' := [(2, .int (ndA wo (un 0) rk)), (0, .ref (q 0)), (1, .int rk)]) G dX6_requireRanked_5 rfl (by decide) rfl ?_
  refine j_iload_n G dX6_requireRanked_6 rfl 0 rfl ?_
  refine j_iconst (v := (-1)) G dX6_requireRanked_7 (by decide) ?_
  refine j_icmp_ne (tgt := 22) G dX6_requireRanked_8 (by decide) (fun c8 => ?_) (fun c8 => ?_)
  · refine j_iload_n G dX6_requireRanked_22 rfl 0 rfl ?_
    refine j_cs (k' := 1) (n' := 6) (Nat.le_of_ble_eq_true rfl) (Nat.le_of_ble_eq_true rfl) ?_
    exact ret _ _ _ _ dX6_requireRanked_23 rfl ⟨(ndA_ok hn c8).1, (ndA_ok hn c8).2, rfl⟩
  · exact j_thrnW G hfl hQ ht hlocks wd_542 wd_56 rfl st_328 dX6_requireRanked_11 dX6_requireRanked_14 dX6_requireRanked_15 dX6_requireRanked_18 dX6_requireRanked_21 ⟨Nat.le_of_ble_eq_true rfl, Nat.le_of_ble_eq_true rfl, Nat.le_of_ble_eq_true rfl, Nat.le_of_ble_eq_true rfl⟩ ⟨(ndA_no hn c8), rfl⟩ (Nat.le_of_ble_eq_true rfl) (Nat.le_of_ble_eq_true rfl)
set_option maxHeartbeats 4000000 in
set_option maxRecDepth 100000 in
theorem cC_X6_requireSap (l : Launch) (D : va_G) (cA : Nat → ClassId) (hfl : l.stackTraces = false) (q : Nat → Nat) (un : Nat → Nat) (ui : Nat → Int32) (ul : Nat → Int64) (ua : Nat → Nat → Int32) (vc ex wo tp : Nat → Int32) (tf kf : Nat → Option Nat) (L : List Nat) (f : Nat → va_E) : Xv l yX6_requireSap cX6_requireSap 1 6 110 1 6 D cA [.ref (q 0)] (cF cA q un ui ul ua vc ex wo tp tf kf ++ va_pl L f) (fun w' => (ul 0 ≠ 0) ∧ w' = (cF cA q un ui ul ua vc ex wo tp tf kf ++ va_pl L f)) (fun u => ((ul 0 = 0) ∧ u = ("java/lang/ArithmeticException", cF cA q un ui ul ua vc ex wo tp tf kf ++ va_pl L f))) := by
  refine ent_Xv (own := RX6) (lv0 := [(0, .ref (q 0))]) (by decide) rfl (Nat.le_of_ble_eq_true rfl) rfl ?_
  intro p e s m args below meth c A Q G hQ ht hlocks ret
  refine j_aload_n G dX6_requireSap_0 rfl 0 rfl ?_
  refine gfX6_48 (v := .ref (q 14)) G 0 rfl rfl dX6_requireSap_1 ?_
  refine gfX6_259 (v := .long (ul 0)) G 14 rfl rfl dX6_requireSap_4 ?_
  refine j_lconst (v := 0) G dX6_requireSap_7 (by decide) ?_
  refine j_lcmp G dX6_requireSap_8 ?_
  refine j_if_ne (tgt := 23) G dX6_requireSap_9 (by decide) (fun c9 => ?_) (fun c9 => ?_)
  · refine j_cs (k' := 1) (n' := 6) (Nat.le_of_ble_eq_true rfl) (Nat.le_of_ble_eq_true rfl) ?_
    exact ret _ _ _ dX6_requireSap_23 ⟨(fun h => c9 (lgz.mpr h)), rfl⟩
  · exact j_thrW G hfl hQ ht hlocks (names := ["java/lang/RuntimeException", "java/lang/Exception"]) ft_AE ft_names wd_887 wd_59 rfl st_322 at_AE og_AE dX6_requireSap_12 dX6_requireSap_15 dX6_requireSap_16 dX6_requireSap_19 dX6_requireSap_22 ⟨Nat.le_of_ble_eq_true rfl, Nat.le_of_ble_eq_true rfl, Nat.le_of_ble_eq_true rfl, Nat.le_of_ble_eq_true rfl⟩ ⟨(lgz.mp c9), rfl⟩ (Nat.le_of_ble_eq_true rfl) (Nat.le_of_ble_eq_true rfl)
set_option maxHeartbeats 4000000 in
set_option maxRecDepth 100000 in
theorem cC_X6_requireEndOfBoiling (l : Launch) (D : va_G) (cA : Nat → ClassId) (hfl : l.stackTraces = false) (q : Nat → Nat) (un : Nat → Nat) (ui : Nat → Int32) (ul : Nat → Int64) (ua : Nat → Nat → Int32) (vc ex wo tp : Nat → Int32) (tf kf : Nat → Option Nat) (L : List Nat) (f : Nat → va_E) : Xv l yX6_requireEndOfBoiling cX6_requireEndOfBoiling 1 6 110 1 6 D cA [.ref (q 0)] (cF cA q un ui ul ua vc ex wo tp tf kf ++ va_pl L f) (fun w' => (cfLong (ui 1) (ui 2) (ui 3) = 0) ∧ w' = (cF cA q un ui ul ua vc ex wo tp tf kf ++ va_pl L f)) (fun u => ((cfLong (ui 1) (ui 2) (ui 3) = 1) ∧ u = ("java/util/NoSuchElementException", cF cA q un ui ul ua vc ex wo tp tf kf ++ va_pl L f))) := by
  refine ent_Xv (own := RX6) (lv0 := [(0, .ref (q 0))]) (by decide) rfl (Nat.le_of_ble_eq_true rfl) rfl ?_
  intro p e s m args below meth c A Q G hQ ht hlocks ret
  refine j_aload_n G dX6_requireEndOfBoiling_0 rfl 0 rfl ?_
  refine gfX6_31 (v := .ref (q 9)) G 0 rfl rfl dX6_requireEndOfBoiling_1 ?_
  refine gfX6_200 (v := .int (ui 1)) G 9 rfl rfl dX6_requireEndOfBoiling_4 ?_
  refine j_if_ne (tgt := 21) G dX6_requireEndOfBoiling_7 (by decide) (fun c7 => ?_) (fun c7 => ?_)
  · refine j_aload_n G dX6_requireEndOfBoiling_21 rfl 0 rfl ?_
    refine gfX6_143 (v := .int (ui 3)) G 0 rfl rfl dX6_requireEndOfBoiling_22 ?_
    refine j_if_ne (tgt := 49) G dX6_requireEndOfBoiling_25 (by decide) (fun c25 => ?_) (fun c25 => ?_)
    · refine j_cs (k' := 1) (n' := 6) (Nat.le_of_ble_eq_true rfl) (Nat.le_of_ble_eq_true rfl) ?_
      exact ret _ _ _ dX6_requireEndOfBoiling_49 ⟨(by simp [cfLong, c7, c25]), rfl⟩
    · refine j_aload_n G dX6_requireEndOfBoiling_28 rfl 0 rfl ?_
      refine gfX6_31 (v := .ref (q 9)) G 0 rfl rfl dX6_requireEndOfBoiling_29 ?_
      refine jV_i G 1 9 (cC_X1_isSyrup l D cA (cF cA q un ui ul ua vc ex wo tp tf kf ++ va_pl L f) 9 (q 9) (ui 1) (ui 2) (ui 4) rfl ) gX6_213 hd_X1_isSyrup ⟨Nat.le_of_ble_eq_true rfl, Nat.le_of_ble_eq_true rfl⟩ ⟨Nat.le_of_ble_eq_true rfl, Nat.le_of_ble_eq_true rfl⟩ rfl rfl (Nat.le_of_ble_eq_true rfl) rfl rfl dX6_requireEndOfBoiling_32 (fun r w' hq9 => ?_)
      obtain ⟨hr9, hw9⟩ := hq9
      obtain rfl := hr9.symm
      obtain rfl := hw9.symm
      refine j_ifb_ne (tgt := 49) G dX6_requireEndOfBoiling_35 (by decide) (fun c35 => ?_) (fun c35 => ?_)
      · refine j_cs (k' := 1) (n' := 6) (Nat.le_of_ble_eq_true rfl) (Nat.le_of_ble_eq_true rfl) ?_
        exact ret _ _ _ dX6_requireEndOfBoiling_49 ⟨(by simp [cfLong, c7, c25, c35]), rfl⟩
      · exact j_thrnW G hfl hQ ht hlocks wd_542 wd_56 rfl st_318 dX6_requireEndOfBoiling_38 dX6_requireEndOfBoiling_41 dX6_requireEndOfBoiling_42 dX6_requireEndOfBoiling_45 dX6_requireEndOfBoiling_48 ⟨Nat.le_of_ble_eq_true rfl, Nat.le_of_ble_eq_true rfl, Nat.le_of_ble_eq_true rfl, Nat.le_of_ble_eq_true rfl⟩ ⟨(by simp [cfLong, c7, c25, c35]), rfl⟩ (Nat.le_of_ble_eq_true rfl) (Nat.le_of_ble_eq_true rfl)
  · exact j_thrnW G hfl hQ ht hlocks wd_542 wd_56 rfl st_316 dX6_requireEndOfBoiling_10 dX6_requireEndOfBoiling_13 dX6_requireEndOfBoiling_14 dX6_requireEndOfBoiling_17 dX6_requireEndOfBoiling_20 ⟨Nat.le_of_ble_eq_true rfl, Nat.le_of_ble_eq_true rfl, Nat.le_of_ble_eq_true rfl, Nat.le_of_ble_eq_true rfl⟩ ⟨(by simp [cfLong, c7]), rfl⟩ (Nat.le_of_ble_eq_true rfl) (Nat.le_of_ble_eq_true rfl)
set_option maxHeartbeats 4000000 in
set_option maxRecDepth 100000 in
theorem cC_X2_volumeOfAll (l : Launch) (D : va_G) (cA : Nat → ClassId) (q : Nat → Nat) (un : Nat → Nat) (ui : Nat → Int32) (ul : Nat → Int64) (ua : Nat → Nat → Int32) (vc ex wo tp : Nat → Int32) (tf kf : Nat → Option Nat) (L : List Nat) (f : Nat → va_E) (hb30 : un 3 ≤ 30) : Kl l yX2_volumeOfAll cX2_volumeOfAll 4 0 0 0 0 D cA [.ref (q 11)] (cF cA q un ui ul ua vc ex wo tp tf kf ++ va_pl L f) (fun r w' => r = sumL (ua 12) (un 3) ∧ w' = (cF cA q un ui ul ua vc ex wo tp tf kf ++ va_pl L f)) := by
  refine ent_l (own := RX2) (lv0 := [(0, .ref (q 11))]) (by decide) rfl (Nat.le_of_ble_eq_true rfl) rfl ?_
  intro p e s m args below meth c A Q G hinit ret
  refine j_lconst (v := 0) G dX2_volumeOfAll_0 (by decide) ?_
  refine j_rwl ((show (0 : Int64) = sumL (ua 12) 0 from rfl)) ?_
  refine j_lstore_n (lv' := [(1, .long (sumL (ua 12) 0)), (0, .ref (q 11))]) G dX2_volumeOfAll_1 rfl (by decide) rfl ?_
  refine j_iconst (v := 0) G dX2_volumeOfAll_2 (by decide) ?_
  refine j_istore_n (lv' := [(3, .int 0), (1, .long (sumL (ua 12) 0)), (0, .ref (q 11))]) G dX2_volumeOfAll_3 rfl (by decide) rfl ?_
  have lp4 : ∀ (fu4 : Nat) (b : Nat), (b ≤ un 3) → (un 3 < b + fu4) → J p l e (RM 0 0 0 0) s m args below meth c 4 D A (cF cA q un ui ul ua vc ex wo tp tf kf ++ va_pl L f) 0 0 Q 4 [(0, .ref (q 11)), (1, .long (sumL (ua 12) b)), (3, .int (nI b))] [] := by
    intro fu4
    induction fu4 with
    | zero => intro b h1 h2; exact absurd h2 (by omega)
    | succ fu4 ih4 =>
      intro b h1 h2
      refine j_iload_n G dX2_volumeOfAll_4 rfl 2 rfl ?_
      refine j_aload_n G dX2_volumeOfAll_5 rfl 0 rfl ?_
      refine gfX2_19 (v := .int (nI (un 3))) G 11 rfl rfl dX2_volumeOfAll_6 ?_
      refine j_icmp_ge (tgt := 28) G dX2_volumeOfAll_9 (by decide) (fun c9 => ?_) (fun c9 => ?_)
      · have g9 : b = un 3 := Nat.le_antisymm h1 ((nI_leI (by omega) (by omega)).mp c9)
        refine j_lload_n G dX2_volumeOfAll_28 rfl 1 rfl ?_
        exact ret _ _ _ _ dX2_volumeOfAll_29 ⟨(by rw [g9]), rfl⟩
      · have g9 : b < un 3 := (Nat.lt_or_ge b (un 3)).resolve_right (fun h => absurd ((nI_leI (by omega) (by omega)).mpr h) c9)
        refine j_lload_n G dX2_volumeOfAll_12 rfl 1 rfl ?_
        refine j_aload_n G dX2_volumeOfAll_13 rfl 0 rfl ?_
        refine gfX2_9 (v := .ref (q 12)) G 11 rfl rfl dX2_volumeOfAll_14 ?_
        refine j_iload_n G dX2_volumeOfAll_17 rfl 2 rfl ?_
        refine j_ialdN (j := b) G 12 rfl rfl (by omega) (Nat.le_of_ble_eq_true rfl) dX2_volumeOfAll_18 ?_
        refine j_i2l G dX2_volumeOfAll_19 ?_
        refine j_ladd G dX2_volumeOfAll_20 ?_
        refine j_rwl ((show sumL (ua 12) b + (ua 12 b).toInt64 = sumL (ua 12) (b + 1) from rfl)) ?_
        refine j_lstore_n (lv' := [(1, .long (sumL (ua 12) (b + 1))), (0, .ref (q 11)), (3, .int (nI b))]) G dX2_volumeOfAll_21 rfl (by decide) rfl ?_
        refine j_iinc (v := (nI (b + 1))) (lv' := [(3, .int (nI (b + 1))), (1, .long (sumL (ua 12) (b + 1))), (0, .ref (q 11))]) G dX2_volumeOfAll_22 2 rfl (nI_1 b) (by decide) rfl ?_
        refine j_goto (tgt := 4) G dX2_volumeOfAll_25 (by decide) ?_
        refine j_sub (lv' := [(0, .ref (q 11)), (1, .long (sumL (ua 12) (b + 1))), (3, .int (nI (b + 1)))]) [2, 1, 0] rfl ?_
        exact ih4 (b + 1) (by omega) (by omega)
  refine j_sub (lv' := [(0, .ref (q 11)), (1, .long (sumL (ua 12) 0)), (3, .int 0)]) [2, 1, 0] rfl ?_
  exact lp4 (un 3 + 1) 0 (Nat.zero_le _) (by omega)
set_option maxHeartbeats 4000000 in
set_option maxRecDepth 100000 in
theorem cC_X6_batchVolume (l : Launch) (D : va_G) (cA : Nat → ClassId) (hfl : l.stackTraces = false) (q : Nat → Nat) (un : Nat → Nat) (ui : Nat → Int32) (ul : Nat → Int64) (ua : Nat → Nat → Int32) (vc ex wo tp : Nat → Int32) (tf kf : Nat → Option Nat) (L : List Nat) (f : Nat → va_E) (v : Int32) (hb30 : un 3 ≤ 30) : Xi l yX6_batchVolume cX6_batchVolume 2 .int 7 131 1 6 D cA [.ref (q 0), .int v] (cF cA q un ui ul ua vc ex wo tp tf kf ++ va_pl L f) (fun r w' => (VN (un 3) v) ∧ r = ua 12 v.toNatClampNeg ∧ w' = (cF cA q un ui ul ua vc ex wo tp tf kf ++ va_pl L f)) (fun u => ((¬ VN (un 3) v) ∧ u = ("java/lang/IndexOutOfBoundsException", cF cA q un ui ul ua vc ex wo tp tf kf ++ va_pl L f))) := by
  refine ent_Xi (own := RX6) (lv0 := [(0, .ref (q 0)), (1, .int v)]) (by decide) rfl (Nat.le_of_ble_eq_true rfl) rfl ?_
  intro p e s m args below meth c A Q G hQ ht hlocks ret
  refine j_aload_n G dX6_batchVolume_0 rfl 0 rfl ?_
  refine j_iload_n G dX6_batchVolume_1 rfl 1 rfl ?_
  refine jXV_v G 6 0 (cC_X6_requireBatch l D cA hfl q un ui ul ua vc ex wo tp tf kf L f v) gX6_249 hd_X6_requireBatch ⟨Nat.le_of_ble_eq_true rfl, Nat.le_of_ble_eq_true rfl⟩ ⟨Nat.le_of_ble_eq_true rfl, Nat.le_of_ble_eq_true rfl⟩ rfl rfl (Nat.le_of_ble_eq_true rfl) rfl rfl dX6_batchVolume_2 (fun E9 w9 hq9 => ?_) (fun w' hq9 => ?_)
  · rcases hq9 with ⟨h9, hu9⟩
    cases hu9
    exact j_out (post := fun _ => True) G hQ ht hlocks ⟨h9, rfl⟩ (Nat.le_of_ble_eq_true rfl) (Nat.le_of_ble_eq_true rfl)
  obtain ⟨k2, hw9⟩ := hq9
  obtain rfl := hw9.symm
  refine j_aload_n G dX6_batchVolume_5 rfl 0 rfl ?_
  refine gfX6_41 (v := .ref (q 11)) G 0 rfl rfl dX6_batchVolume_6 ?_
  refine gfX6_252 (v := .ref (q 12)) G 11 rfl rfl dX6_batchVolume_9 ?_
  refine j_iload_n G dX6_batchVolume_12 rfl 1 rfl ?_
  refine j_iald G 12 rfl (k2.vp (by omega) (by omega)) dX6_batchVolume_13 ?_
  refine j_cs (k' := 1) (n' := 6) (Nat.le_of_ble_eq_true rfl) (Nat.le_of_ble_eq_true rfl) ?_
  exact ret _ _ _ _ dX6_batchVolume_14 rfl ⟨k2, rfl, rfl⟩
set_option maxHeartbeats 4000000 in
set_option maxRecDepth 100000 in
theorem cC_X6_gradeOf (l : Launch) (D : va_G) (cA : Nat → ClassId) (hfl : l.stackTraces = false) (q : Nat → Nat) (un : Nat → Nat) (ui : Nat → Int32) (ul : Nat → Int64) (ua : Nat → Nat → Int32) (vc ex wo tp : Nat → Int32) (tf kf : Nat → Option Nat) (L : List Nat) (f : Nat → va_E) (v : Int32) (hb30 : un 3 ≤ 30) (hgr : ∀ j, narrow .char (.int (ua 14 j)) = .int (ua 14 j)) : Xi l yX6_gradeOf cX6_gradeOf 2 .char 7 131 1 6 D cA [.ref (q 0), .int v] (cF cA q un ui ul ua vc ex wo tp tf kf ++ va_pl L f) (fun r w' => (VN (un 3) v) ∧ r = ua 14 v.toNatClampNeg ∧ w' = (cF cA q un ui ul ua vc ex wo tp tf kf ++ va_pl L f)) (fun u => ((¬ VN (un 3) v) ∧ u = ("java/lang/IndexOutOfBoundsException", cF cA q un ui ul ua vc ex wo tp tf kf ++ va_pl L f))) := by
  refine ent_Xi (own := RX6) (lv0 := [(0, .ref (q 0)), (1, .int v)]) (by decide) rfl (Nat.le_of_ble_eq_true rfl) rfl ?_
  intro p e s m args below meth c A Q G hQ ht hlocks ret
  refine j_aload_n G dX6_gradeOf_0 rfl 0 rfl ?_
  refine j_iload_n G dX6_gradeOf_1 rfl 1 rfl ?_
  refine jXV_v G 6 0 (cC_X6_requireBatch l D cA hfl q un ui ul ua vc ex wo tp tf kf L f v) gX6_249 hd_X6_requireBatch ⟨Nat.le_of_ble_eq_true rfl, Nat.le_of_ble_eq_true rfl⟩ ⟨Nat.le_of_ble_eq_true rfl, Nat.le_of_ble_eq_true rfl⟩ rfl rfl (Nat.le_of_ble_eq_true rfl) rfl rfl dX6_gradeOf_2 (fun E9 w9 hq9 => ?_) (fun w' hq9 => ?_)
  · rcases hq9 with ⟨h9, hu9⟩
    cases hu9
    exact j_out (post := fun _ => True) G hQ ht hlocks ⟨h9, rfl⟩ (Nat.le_of_ble_eq_true rfl) (Nat.le_of_ble_eq_true rfl)
  obtain ⟨k2, hw9⟩ := hq9
  obtain rfl := hw9.symm
  refine j_aload_n G dX6_gradeOf_5 rfl 0 rfl ?_
  refine gfX6_41 (v := .ref (q 11)) G 0 rfl rfl dX6_gradeOf_6 ?_
  refine gfX6_255 (v := .ref (q 13)) G 11 rfl rfl dX6_gradeOf_9 ?_
  refine j_iload_n G dX6_gradeOf_12 rfl 1 rfl ?_
  refine j_cald G 13 rfl (k2.vp (by omega) (by omega)) dX6_gradeOf_13 ?_
  refine j_cs (k' := 1) (n' := 6) (Nat.le_of_ble_eq_true rfl) (Nat.le_of_ble_eq_true rfl) ?_
  exact ret _ _ _ _ dX6_gradeOf_14 (hgr _) ⟨k2, rfl, rfl⟩
set_option maxHeartbeats 4000000 in
set_option maxRecDepth 100000 in
theorem cC_X6_hoursToReady (l : Launch) (D : va_G) (cA : Nat → ClassId) (hfl : l.stackTraces = false) (q : Nat → Nat) (un : Nat → Nat) (ui : Nat → Int32) (ul : Nat → Int64) (ua : Nat → Nat → Int32) (vc ex wo tp : Nat → Int32) (tf kf : Nat → Option Nat) (L : List Nat) (f : Nat → va_E) (hfi : RG 0 9 (ui 3)) : Xi l yX6_hoursToReady cX6_hoursToReady 3 .int 7 130 1 6 D cA [.ref (q 0)] (cF cA q un ui ul ua vc ex wo tp tf kf ++ va_pl L f) (fun r w' => (cfLong (ui 1) (ui 2) (ui 3) = 0) ∧ r = longV (ui 1) (ui 2) (ui 3) ∧ w' = (cF cA q un ui ul ua vc ex wo tp tf kf ++ va_pl L f)) (fun u => ((cfLong (ui 1) (ui 2) (ui 3) = 1) ∧ u = ("java/util/NoSuchElementException", cF cA q un ui ul ua vc ex wo tp tf kf ++ va_pl L f))) := by
  refine ent_Xi (own := RX6) (lv0 := [(0, .ref (q 0))]) (by decide) rfl (Nat.le_of_ble_eq_true rfl) rfl ?_
  intro p e s m args below meth c A Q G hQ ht hlocks ret
  refine j_aload_n G dX6_hoursToReady_0 rfl 0 rfl ?_
  refine jXV_v G 6 0 (cC_X6_requireEndOfBoiling l D cA hfl q un ui ul ua vc ex wo tp tf kf L f ) gX6_217 hd_X6_requireEndOfBoiling ⟨Nat.le_of_ble_eq_true rfl, Nat.le_of_ble_eq_true rfl⟩ ⟨Nat.le_of_ble_eq_true rfl, Nat.le_of_ble_eq_true rfl⟩ rfl rfl (Nat.le_of_ble_eq_true rfl) rfl rfl dX6_hoursToReady_1 (fun E9 w9 hq9 => ?_) (fun w' hq9 => ?_)
  · rcases hq9 with ⟨h9, hu9⟩
    cases hu9
    exact j_out (post := fun _ => True) G hQ ht hlocks ⟨h9, rfl⟩ (Nat.le_of_ble_eq_true rfl) (Nat.le_of_ble_eq_true rfl)
  obtain ⟨k1, hw9⟩ := hq9
  obtain rfl := hw9.symm
  refine j_iconst (v := 5) G dX6_hoursToReady_4 (by decide) ?_
  refine j_aload_n G dX6_hoursToReady_5 rfl 0 rfl ?_
  refine gfX6_143 (v := .int (ui 3)) G 0 rfl rfl dX6_hoursToReady_6 ?_
  refine j_imul G dX6_hoursToReady_9 ?_
  refine j_istore_n (lv' := [(1, .int (5 * (ui 3))), (0, .ref (q 0))]) G dX6_hoursToReady_10 rfl (by decide) rfl ?_
  refine j_aload_n G dX6_hoursToReady_11 rfl 1 rfl ?_
  refine gfX6_31 (v := .ref (q 9)) G 0 rfl rfl dX6_hoursToReady_12 ?_
  refine jV_i G 1 9 (cC_X1_isSyrup l D cA (cF cA q un ui ul ua vc ex wo tp tf kf ++ va_pl L f) 9 (q 9) (ui 1) (ui 2) (ui 4) rfl ) gX6_213 hd_X1_isSyrup ⟨Nat.le_of_ble_eq_true rfl, Nat.le_of_ble_eq_true rfl⟩ ⟨Nat.le_of_ble_eq_true rfl, Nat.le_of_ble_eq_true rfl⟩ rfl rfl (Nat.le_of_ble_eq_true rfl) rfl rfl dX6_hoursToReady_15 (fun r w' hq9 => ?_)
  obtain ⟨hr9, hw9⟩ := hq9
  obtain rfl := hr9.symm
  obtain rfl := hw9.symm
  refine j_ifb_ne (tgt := 25) G dX6_hoursToReady_18 (by decide) (fun c18 => ?_) (fun c18 => ?_)
  · refine j_iconst (v := 0) G dX6_hoursToReady_25 (by decide) ?_
    refine j_cs (k' := 1) (n' := 6) (Nat.le_of_ble_eq_true rfl) (Nat.le_of_ble_eq_true rfl) ?_
    exact ret _ _ _ _ dX6_hoursToReady_26 rfl ⟨k1, (by rw [longV, if_pos c18]), rfl⟩
  · refine j_iload_n G dX6_hoursToReady_21 rfl 0 rfl ?_
    refine j_if_gt (tgt := 27) G dX6_hoursToReady_22 (by decide) (fun c22 => ?_) (fun c22 => ?_)
    · refine j_aload_n G dX6_hoursToReady_27 rfl 1 rfl ?_
      refine gfX6_31 (v := .ref (q 9)) G 0 rfl rfl dX6_hoursToReady_28 ?_
      refine gfX6_200 (v := .int (ui 1)) G 9 rfl rfl dX6_hoursToReady_31 ?_
      refine j_aload_n G dX6_hoursToReady_34 rfl 1 rfl ?_
      refine gfX6_31 (v := .ref (q 9)) G 0 rfl rfl dX6_hoursToReady_35 ?_
      refine jV_i G 1 9 (cC_X1_leastVolume l D cA (cF cA q un ui ul ua vc ex wo tp tf kf ++ va_pl L f) 9 (q 9) (ui 1) (ui 2) (ui 4) rfl ) gX6_220 hd_X1_leastVolume ⟨Nat.le_of_ble_eq_true rfl, Nat.le_of_ble_eq_true rfl⟩ ⟨Nat.le_of_ble_eq_true rfl, Nat.le_of_ble_eq_true rfl⟩ rfl rfl (Nat.le_of_ble_eq_true rfl) rfl rfl dX6_hoursToReady_38 (fun r w' hq9 => ?_)
      obtain ⟨hr9, hw9⟩ := hq9
      obtain rfl := hr9.symm
      obtain rfl := hw9.symm
      refine j_isub G dX6_hoursToReady_41 ?_
      refine j_istore_n (lv' := [(2, .int ((ui 1) - (lstV (ui 2)))), (1, .int (5 * (ui 3))), (0, .ref (q 0))]) G dX6_hoursToReady_42 rfl (by decide) rfl ?_
      refine j_iload_n G dX6_hoursToReady_43 rfl 0 rfl ?_
      refine j_iload_n G dX6_hoursToReady_44 rfl 1 rfl ?_
      refine j_iadd G dX6_hoursToReady_45 ?_
      refine j_iconst (v := 1) G dX6_hoursToReady_46 (by decide) ?_
      refine j_isub G dX6_hoursToReady_47 ?_
      refine j_iload_n G dX6_hoursToReady_48 rfl 1 rfl ?_
      refine j_idiv G dX6_hoursToReady_49 (ne5 hfi (cfLong_fi k1 c18)) ?_
      refine j_cs (k' := 1) (n' := 6) (Nat.le_of_ble_eq_true rfl) (Nat.le_of_ble_eq_true rfl) ?_
      exact ret _ _ _ _ dX6_hoursToReady_50 rfl ⟨k1, (by rw [longV, if_neg c18]), rfl⟩
    · refine j_iconst (v := 0) G dX6_hoursToReady_25 (by decide) ?_
      refine j_cs (k' := 1) (n' := 6) (Nat.le_of_ble_eq_true rfl) (Nat.le_of_ble_eq_true rfl) ?_
      exact ret _ _ _ _ dX6_hoursToReady_26 rfl ⟨k1, (absurd (Int32.not_lt.mp c22) (fi5 hfi (cfLong_fi k1 c18))), rfl⟩
set_option maxHeartbeats 4000000 in
set_option maxRecDepth 100000 in
theorem cC_X6_suspect (l : Launch) (D : va_G) (cA : Nat → ClassId) (hfl : l.stackTraces = false) (q : Nat → Nat) (un : Nat → Nat) (ui : Nat → Int32) (ul : Nat → Int64) (ua : Nat → Nat → Int32) (vc ex wo tp : Nat → Int32) (tf kf : Nat → Option Nat) (L : List Nat) (f : Nat → va_E) (rk : Int32) (hn : un 0 ≤ 20) (hn1 : 1 ≤ un 0) (hp : PAR (un 0) (ua 1)) : Xi l yX6_suspect cX6_suspect 4 .int 7 132 1 6 D cA [.ref (q 0), .int rk] (cF cA q un ui ul ua vc ex wo tp tf kf ++ va_pl L f) (fun r w' => (cfRank (ndP (rkW (olV (swV (expV (ui 0) (ua 1) (ua 2)) ex (un 0)) (swV (vac (un 0) (ui 0) (ua 1) (ua 2) (ua 7)) vc (un 0)) (ua 1)) wo (un 0)) (un 0) rk) (un 0) = 0) ∧ r = nI (fnd (ndP (rkW (olV (swV (expV (ui 0) (ua 1) (ua 2)) ex (un 0)) (swV (vac (un 0) (ui 0) (ua 1) (ua 2) (ua 7)) vc (un 0)) (ua 1)) wo (un 0)) (un 0) rk) (un 0)) ∧ w' = (cF cA q un ui ul ua (swV (vac (un 0) (ui 0) (ua 1) (ua 2) (ua 7)) vc (un 0)) (swV (expV (ui 0) (ua 1) (ua 2)) ex (un 0)) (rkW (olV (swV (expV (ui 0) (ua 1) (ua 2)) ex (un 0)) (swV (vac (un 0) (ui 0) (ua 1) (ua 2) (ua 7)) vc (un 0)) (ua 1)) wo (un 0)) tp tf kf ++ va_pl L f)) (fun u => ((cfRank (ndP (rkW (olV (swV (expV (ui 0) (ua 1) (ua 2)) ex (un 0)) (swV (vac (un 0) (ui 0) (ua 1) (ua 2) (ua 7)) vc (un 0)) (ua 1)) wo (un 0)) (un 0) rk) (un 0) = 1) ∧ u = ("java/util/NoSuchElementException", cF cA q un ui ul ua (swV (vac (un 0) (ui 0) (ua 1) (ua 2) (ua 7)) vc (un 0)) (swV (expV (ui 0) (ua 1) (ua 2)) ex (un 0)) (rkW (olV (swV (expV (ui 0) (ua 1) (ua 2)) ex (un 0)) (swV (vac (un 0) (ui 0) (ua 1) (ua 2) (ua 7)) vc (un 0)) (ua 1)) wo (un 0)) tp tf kf ++ va_pl L f))) := by
  refine ent_Xi (own := RX6) (lv0 := [(0, .ref (q 0)), (1, .int rk)]) (by decide) rfl (Nat.le_of_ble_eq_true rfl) rfl ?_
  intro p e s m args below meth c A Q G hQ ht hlocks ret
  refine j_aload_n G dX6_suspect_0 rfl 0 rfl ?_
  refine gfX6_10 (v := .ref (q 1)) G 0 rfl rfl dX6_suspect_1 ?_
  refine jV_v G 5 1 (cC_X5_sweep l D cA q un ui ul ua vc ex wo tp tf kf L f hn hn1 hp) gX6_111 hd_X5_sweep ⟨Nat.le_of_ble_eq_true rfl, Nat.le_of_ble_eq_true rfl⟩ ⟨Nat.le_of_ble_eq_true rfl, Nat.le_of_ble_eq_true rfl⟩ rfl rfl (Nat.le_of_ble_eq_true rfl) rfl rfl dX6_suspect_4 (fun w' hq9 => ?_)
  obtain rfl := hq9.symm
  refine j_w (w' := cF cA q un ui ul ua (swV (vac (un 0) (ui 0) (ua 1) (ua 2) (ua 7)) vc (un 0)) (swV (expV (ui 0) (ua 1) (ua 2)) ex (un 0)) wo tp tf kf ++ va_pl L f) rfl ?_
  refine j_iconst (v := 0) G dX6_suspect_7 (by decide) ?_
  refine j_istore_n (lv' := [(2, .int 0), (0, .ref (q 0)), (1, .int rk)]) G dX6_suspect_8 rfl (by decide) rfl ?_
  have lp9 : ∀ (fu9 : Nat) (k : Nat), (k ≤ un 0) → (un 0 < k + fu9) → J p l e (RM 7 132 1 6) s m args below meth c 4 D A (cF cA q un ui ul ua (swV (vac (un 0) (ui 0) (ua 1) (ua 2) (ua 7)) vc (un 0)) (swV (expV (ui 0) (ua 1) (ua 2)) ex (un 0)) (rkW (olV (swV (expV (ui 0) (ua 1) (ua 2)) ex (un 0)) (swV (vac (un 0) (ui 0) (ua 1) (ua 2) (ua 7)) vc (un 0)) (ua 1)) wo k) tp tf kf ++ va_pl L f) 0 0 Q 9 [(0, .ref (q 0)), (1, .int rk), (2, .int (nI k))] [] := by
    intro fu9
    induction fu9 with
    | zero => intro k h1 h2; exact absurd h2 (by omega)
    | succ fu9 ih9 =>
      intro k h1 h2
      refine j_iload_n G dX6_suspect_9 rfl 2 rfl ?_
      refine j_aload_n G dX6_suspect_10 rfl 0 rfl ?_
      refine gfX6_10 (v := .ref (q 1)) G 0 rfl rfl dX6_suspect_11 ?_
      refine jV_i G 5 1 (cC_X5_size l D cA q un ui ul ua (swV (vac (un 0) (ui 0) (ua 1) (ua 2) (ua 7)) vc (un 0)) (swV (expV (ui 0) (ua 1) (ua 2)) ex (un 0)) (rkW (olV (swV (expV (ui 0) (ua 1) (ua 2)) ex (un 0)) (swV (vac (un 0) (ui 0) (ua 1) (ua 2) (ua 7)) vc (un 0)) (ua 1)) wo k) tp tf kf L f ) gX6_103 hd_X5_size ⟨Nat.le_of_ble_eq_true rfl, Nat.le_of_ble_eq_true rfl⟩ ⟨Nat.le_of_ble_eq_true rfl, Nat.le_of_ble_eq_true rfl⟩ rfl rfl (Nat.le_of_ble_eq_true rfl) rfl rfl dX6_suspect_14 (fun r w' hq9 => ?_)
      obtain ⟨hr9, hw9⟩ := hq9
      obtain rfl := hr9.symm
      obtain rfl := hw9.symm
      refine j_icmp_ge (tgt := 50) G dX6_suspect_17 (by decide) (fun c17 => ?_) (fun c17 => ?_)
      · have g17 : k = un 0 := Nat.le_antisymm h1 ((nI_leI (by omega) (by omega)).mp c17)
        subst g17
        refine j_aload_n G dX6_suspect_50 rfl 0 rfl ?_
        refine j_iload_n G dX6_suspect_51 rfl 1 rfl ?_
        refine jXV_i G 6 0 (cC_X6_requireRanked l D cA hfl q un ui ul ua (swV (vac (un 0) (ui 0) (ua 1) (ua 2) (ua 7)) vc (un 0)) (swV (expV (ui 0) (ua 1) (ua 2)) ex (un 0)) (rkW (olV (swV (expV (ui 0) (ua 1) (ua 2)) ex (un 0)) (swV (vac (un 0) (ui 0) (ua 1) (ua 2) (ua 7)) vc (un 0)) (ua 1)) wo (un 0)) tp tf kf L f rk hn) gX6_123 hd_X6_requireRanked ⟨Nat.le_of_ble_eq_true rfl, Nat.le_of_ble_eq_true rfl⟩ ⟨Nat.le_of_ble_eq_true rfl, Nat.le_of_ble_eq_true rfl⟩ rfl rfl (Nat.le_of_ble_eq_true rfl) rfl rfl dX6_suspect_52 (fun E9 w9 hq9 => ?_) (fun r w' hq9 => ?_)
        · rcases hq9 with ⟨h9, hu9⟩
          cases hu9
          exact j_out (post := fun _ => True) G hQ ht hlocks ⟨h9, rfl⟩ (Nat.le_of_ble_eq_true rfl) (Nat.le_of_ble_eq_true rfl)
        obtain ⟨k52, hr9, hw9⟩ := hq9
        obtain rfl := hr9.symm
        obtain rfl := hw9.symm
        refine j_cs (k' := 1) (n' := 6) (Nat.le_of_ble_eq_true rfl) (Nat.le_of_ble_eq_true rfl) ?_
        exact ret _ _ _ _ dX6_suspect_55 rfl ⟨k52, rfl, rfl⟩
      · have g17 : k < un 0 := (Nat.lt_or_ge k (un 0)).resolve_right (fun h => absurd ((nI_leI (by omega) (by omega)).mpr h) c17)
        refine j_aload_n G dX6_suspect_20 rfl 0 rfl ?_
        refine gfX6_10 (v := .ref (q 1)) G 0 rfl rfl dX6_suspect_21 ?_
        refine j_iload_n G dX6_suspect_24 rfl 2 rfl ?_
        refine jV_i G 5 1 (cC_X5_ownLossAt l D cA q un ui ul ua (swV (vac (un 0) (ui 0) (ua 1) (ua 2) (ua 7)) vc (un 0)) (swV (expV (ui 0) (ua 1) (ua 2)) ex (un 0)) (rkW (olV (swV (expV (ui 0) (ua 1) (ua 2)) ex (un 0)) (swV (vac (un 0) (ui 0) (ua 1) (ua 2) (ua 7)) vc (un 0)) (ua 1)) wo k) tp tf kf L f k hn hp g17) gX6_120 hd_X5_ownLossAt ⟨Nat.le_of_ble_eq_true rfl, Nat.le_of_ble_eq_true rfl⟩ ⟨Nat.le_of_ble_eq_true rfl, Nat.le_of_ble_eq_true rfl⟩ rfl rfl (Nat.le_of_ble_eq_true rfl) rfl rfl dX6_suspect_25 (fun r w' hq9 => ?_)
        obtain ⟨hr9, hw9⟩ := hq9
        obtain rfl := hr9.symm
        obtain rfl := hw9.symm
        refine j_istore_n (lv' := [(3, .int (olV (swV (expV (ui 0) (ua 1) (ua 2)) ex (un 0)) (swV (vac (un 0) (ui 0) (ua 1) (ua 2) (ua 7)) vc (un 0)) (ua 1) k)), (0, .ref (q 0)), (1, .int rk), (2, .int (nI k))]) G dX6_suspect_28 rfl (by decide) rfl ?_
        refine j_aload_n G dX6_suspect_29 rfl 1 rfl ?_
        refine gfX6_52 (v := .ref (q 15)) G 0 rfl rfl dX6_suspect_30 ?_
        refine j_iload_n G dX6_suspect_33 rfl 3 rfl ?_
        refine j_iload_n G dX6_suspect_34 rfl 0 rfl ?_
        refine j_if_le (tgt := 42) G dX6_suspect_35 (by decide) (fun c35 => ?_) (fun c35 => ?_)
        · refine j_iconst (v := (-1)) G dX6_suspect_42 (by decide) ?_
          refine j_rwi (show ((-1) : Int32) = (if 0 < (olV (swV (expV (ui 0) (ua 1) (ua 2)) ex (un 0)) (swV (vac (un 0) (ui 0) (ua 1) (ua 2) (ua 7)) vc (un 0)) (ua 1)) k then (olV (swV (expV (ui 0) (ua 1) (ua 2)) ex (un 0)) (swV (vac (un 0) (ui 0) (ua 1) (ua 2) (ua 7)) vc (un 0)) (ua 1)) k else -1) from (if_neg (Int32.not_lt.mpr c35)).symm) ?_
          refine j_iast (j := k) (w' := cF cA q un ui ul ua (swV (vac (un 0) (ui 0) (ua 1) (ua 2) (ua 7)) vc (un 0)) (swV (expV (ui 0) (ua 1) (ua 2)) ex (un 0)) (upd (rkW (olV (swV (expV (ui 0) (ua 1) (ua 2)) ex (un 0)) (swV (vac (un 0) (ui 0) (ua 1) (ua 2) (ua 7)) vc (un 0)) (ua 1)) wo k) k (if 0 < (olV (swV (expV (ui 0) (ua 1) (ua 2)) ex (un 0)) (swV (vac (un 0) (ui 0) (ua 1) (ua 2) (ua 7)) vc (un 0)) (ua 1)) k then (olV (swV (expV (ui 0) (ua 1) (ua 2)) ex (un 0)) (swV (vac (un 0) (ui 0) (ua 1) (ua 2) (ua 7)) vc (un 0)) (ua 1)) k else -1)) tp tf kf ++ va_pl L f) G 15 rfl rfl (by omega) (Nat.le_of_ble_eq_true rfl) dX6_suspect_43 rfl ?_
          refine j_w (w' := cF cA q un ui ul ua (swV (vac (un 0) (ui 0) (ua 1) (ua 2) (ua 7)) vc (un 0)) (swV (expV (ui 0) (ua 1) (ua 2)) ex (un 0)) (rkW (olV (swV (expV (ui 0) (ua 1) (ua 2)) ex (un 0)) (swV (vac (un 0) (ui 0) (ua 1) (ua 2) (ua 7)) vc (un 0)) (ua 1)) wo (k + 1)) tp tf kf ++ va_pl L f) rfl ?_
          refine j_iinc (v := (nI (k + 1))) (lv' := [(2, .int (nI (k + 1))), (3, .int (olV (swV (expV (ui 0) (ua 1) (ua 2)) ex (un 0)) (swV (vac (un 0) (ui 0) (ua 1) (ua 2) (ua 7)) vc (un 0)) (ua 1) k)), (0, .ref (q 0)), (1, .int rk)]) G dX6_suspect_44 3 rfl (nI_1 k) (by decide) rfl ?_
          refine j_goto (tgt := 9) G dX6_suspect_47 (by decide) ?_
          refine j_sub (lv' := [(0, .ref (q 0)), (1, .int rk), (2, .int (nI (k + 1)))]) [2, 3, 0] rfl ?_
          exact ih9 (k + 1) (by omega) (by omega)
        · refine j_iload_n G dX6_suspect_38 rfl 0 rfl ?_
          refine j_goto (tgt := 43) G dX6_suspect_39 (by decide) ?_
          refine j_rwi (show (olV (swV (expV (ui 0) (ua 1) (ua 2)) ex (un 0)) (swV (vac (un 0) (ui 0) (ua 1) (ua 2) (ua 7)) vc (un 0)) (ua 1) k : Int32) = (if 0 < (olV (swV (expV (ui 0) (ua 1) (ua 2)) ex (un 0)) (swV (vac (un 0) (ui 0) (ua 1) (ua 2) (ua 7)) vc (un 0)) (ua 1)) k then (olV (swV (expV (ui 0) (ua 1) (ua 2)) ex (un 0)) (swV (vac (un 0) (ui 0) (ua 1) (ua 2) (ua 7)) vc (un 0)) (ua 1)) k else -1) from (if_pos (Int32.not_le.mp c35)).symm) ?_
          refine j_iast (j := k) (w' := cF cA q un ui ul ua (swV (vac (un 0) (ui 0) (ua 1) (ua 2) (ua 7)) vc (un 0)) (swV (expV (ui 0) (ua 1) (ua 2)) ex (un 0)) (upd (rkW (olV (swV (expV (ui 0) (ua 1) (ua 2)) ex (un 0)) (swV (vac (un 0) (ui 0) (ua 1) (ua 2) (ua 7)) vc (un 0)) (ua 1)) wo k) k (if 0 < (olV (swV (expV (ui 0) (ua 1) (ua 2)) ex (un 0)) (swV (vac (un 0) (ui 0) (ua 1) (ua 2) (ua 7)) vc (un 0)) (ua 1)) k then (olV (swV (expV (ui 0) (ua 1) (ua 2)) ex (un 0)) (swV (vac (un 0) (ui 0) (ua 1) (ua 2) (ua 7)) vc (un 0)) (ua 1)) k else -1)) tp tf kf ++ va_pl L f) G 15 rfl rfl (by omega) (Nat.le_of_ble_eq_true rfl) dX6_suspect_43 rfl ?_
          refine j_w (w' := cF cA q un ui ul ua (swV (vac (un 0) (ui 0) (ua 1) (ua 2) (ua 7)) vc (un 0)) (swV (expV (ui 0) (ua 1) (ua 2)) ex (un 0)) (rkW (olV (swV (expV (ui 0) (ua 1) (ua 2)) ex (un 0)) (swV (vac (un 0) (ui 0) (ua 1) (ua 2) (ua 7)) vc (un 0)) (ua 1)) wo (k + 1)) tp tf kf ++ va_pl L f) rfl ?_
          refine j_iinc (v := (nI (k + 1))) (lv' := [(2, .int (nI (k + 1))), (3, .int (olV (swV (expV (ui 0) (ua 1) (ua 2)) ex (un 0)) (swV (vac (un 0) (ui 0) (ua 1) (ua 2) (ua 7)) vc (un 0)) (ua 1) k)), (0, .ref (q 0)), (1, .int rk)]) G dX6_suspect_44 3 rfl (nI_1 k) (by decide) rfl ?_
          refine j_goto (tgt := 9) G dX6_suspect_47 (by decide) ?_
          refine j_sub (lv' := [(0, .ref (q 0)), (1, .int rk), (2, .int (nI (k + 1)))]) [2, 3, 0] rfl ?_
          exact ih9 (k + 1) (by omega) (by omega)
  refine j_sub (lv' := [(0, .ref (q 0)), (1, .int rk), (2, .int 0)]) [1, 2, 0] rfl ?_
  exact lp9 (un 0 + 1) 0 (Nat.zero_le _) (by omega)
set_option maxHeartbeats 4000000 in
set_option maxRecDepth 100000 in
theorem cC_X6_requireTap (l : Launch) (D : va_G) (cA : Nat → ClassId) (hfl : l.stackTraces = false) (q : Nat → Nat) (un : Nat → Nat) (ui : Nat → Int32) (ul : Nat → Int64) (ua : Nat → Nat → Int32) (vc ex wo tp : Nat → Int32) (tf kf : Nat → Option Nat) (L : List Nat) (f : Nat → va_E) (ta : Nat → Nat) (ga : Nat → Nat) (ka : Nat → Nat) (v : Int32) (hn : un 0 ≤ 20) (hPL : PL cA un ua L f tf kf ta ga ka) : Xr l yX6_requireTap cX6_requireTap 3 (.object "SapNetwork$Tap") 7 131 2 12 D cA [.ref (q 0), .int v] (cF cA q un ui ul ua vc ex wo tp tf kf ++ va_pl L f) (fun u => (cfTap (un 0) (ua 0) v = 0) ∧ u = (ta v.toNatClampNeg, (cF cA q un ui ul ua vc ex wo tp tf kf ++ va_pl L f))) (fun u => ((cfTap (un 0) (ua 0) v = 1) ∧ u = ("java/lang/IndexOutOfBoundsException", cF cA q un ui ul ua vc ex wo tp tf kf ++ va_pl L f)) ∨ ((cfTap (un 0) (ua 0) v = 2) ∧ u = ("java/lang/UnsupportedOperationException", cF cA q un ui ul ua vc ex wo tp tf kf ++ va_pl L f))) := by
  refine ent_Xr (own := RX6) (lv0 := [(0, .ref (q 0)), (1, .int v)]) (by decide) rfl (Nat.le_of_ble_eq_true rfl) rfl ⟨_, rfl⟩ ?_
  intro p e s m args below meth c A Q G hQ ht hlocks ret
  refine j_aload_n G dX6_requireTap_0 rfl 0 rfl ?_
  refine j_iload_n G dX6_requireTap_1 rfl 1 rfl ?_
  refine jXV_v G 6 0 (cC_X6_requireNode l D cA hfl q un ui ul ua vc ex wo tp tf kf L f v) gX6_56 hd_X6_requireNode ⟨Nat.le_of_ble_eq_true rfl, Nat.le_of_ble_eq_true rfl⟩ ⟨Nat.le_of_ble_eq_true rfl, Nat.le_of_ble_eq_true rfl⟩ rfl rfl (Nat.le_of_ble_eq_true rfl) rfl rfl dX6_requireTap_2 (fun E9 w9 hq9 => ?_) (fun w' hq9 => ?_)
  · rcases hq9 with ⟨h9, hu9⟩
    cases hu9
    exact j_out (post := fun _ => True) G hQ ht hlocks (Or.inl ⟨(by simp [cfTap, h9]), rfl⟩) (Nat.le_of_ble_eq_true rfl) (Nat.le_of_ble_eq_true rfl)
  obtain ⟨k2, hw9⟩ := hq9
  obtain rfl := hw9.symm
  refine j_aload_n G dX6_requireTap_5 rfl 0 rfl ?_
  refine gfX6_18 (v := .ref (q 7)) G 0 rfl rfl dX6_requireTap_6 ?_
  refine j_iload_n G dX6_requireTap_9 rfl 1 rfl ?_
  refine j_aldR G 7 2 rfl rfl (k2.vp (by omega) (by omega)) dX6_requireTap_10 (fun r10 => ?_) (fun b10 r10 => ?_)
  · have u10 := PL_tn hPL (show v.toNatClampNeg < 20 by have := k2.lt (by omega); omega) r10
    refine j_astore_nN (lv' := [(2, .null), (0, .ref (q 0)), (1, .int v)]) G dX6_requireTap_11 rfl (by decide) rfl ?_
    refine j_aload_nN G dX6_requireTap_12 rfl 0 rfl ?_
    refine j_ifnonnull_n G dX6_requireTap_13 ?_
    exact j_thrW G hfl hQ ht hlocks (names := ["java/lang/RuntimeException", "java/lang/Exception"]) ft_UOE ft_names wd_430 wd_53 rfl st_309 at_UOE og_UOE dX6_requireTap_16 dX6_requireTap_19 dX6_requireTap_20 dX6_requireTap_23 dX6_requireTap_26 ⟨Nat.le_of_ble_eq_true rfl, Nat.le_of_ble_eq_true rfl, Nat.le_of_ble_eq_true rfl, Nat.le_of_ble_eq_true rfl⟩ (Or.inr (⟨(by simp [cfTap, k2, u10]), rfl⟩)) (Nat.le_of_ble_eq_true rfl) (Nat.le_of_ble_eq_true rfl)
  · obtain ⟨u10, e10⟩ := PL_tf hPL (show v.toNatClampNeg < 20 by have := k2.lt (by omega); omega) r10
    subst e10
    refine j_astore_n (lv' := [(2, .ref (ta v.toNatClampNeg)), (0, .ref (q 0)), (1, .int v)]) G dX6_requireTap_11 rfl (by decide) rfl ?_
    refine j_aload_n G dX6_requireTap_12 rfl 0 rfl ?_
    refine j_ifnonnull_r (tgt := 27) G dX6_requireTap_13 (by decide) ?_
    refine j_aload_n G dX6_requireTap_27 rfl 0 rfl ?_
    refine j_cs (k' := 2) (n' := 12) (Nat.le_of_ble_eq_true rfl) (Nat.le_of_ble_eq_true rfl) ?_
    exact ret _ _ _ _ dX6_requireTap_28 ⟨(by simp [cfTap, k2, u10]), rfl⟩
set_option maxHeartbeats 4000000 in
set_option maxRecDepth 100000 in
theorem cC_X6_charge (l : Launch) (D : va_G) (cA : Nat → ClassId) (hfl : l.stackTraces = false) (q : Nat → Nat) (un : Nat → Nat) (ui : Nat → Int32) (ul : Nat → Int64) (ua : Nat → Nat → Int32) (vc ex wo tp : Nat → Int32) (tf kf : Nat → Option Nat) (L : List Nat) (f : Nat → va_E) (ta : Nat → Nat) (ga : Nat → Nat) (ka : Nat → Nat) (v : Int32) (hn : un 0 ≤ 20) (hPL : PL cA un ua L f tf kf ta ga ka) : Xi l yX6_charge cX6_charge 2 .int 8 153 2 12 D cA [.ref (q 0), .int v] (cF cA q un ui ul ua vc ex wo tp tf kf ++ va_pl L f) (fun r w' => (cfTap (un 0) (ua 0) v = 0) ∧ r = ua 6 v.toNatClampNeg ∧ w' = (cF cA q un ui ul ua vc ex wo tp tf kf ++ va_pl L f)) (fun u => ((cfTap (un 0) (ua 0) v = 1) ∧ u = ("java/lang/IndexOutOfBoundsException", cF cA q un ui ul ua vc ex wo tp tf kf ++ va_pl L f)) ∨ ((cfTap (un 0) (ua 0) v = 2) ∧ u = ("java/lang/UnsupportedOperationException", cF cA q un ui ul ua vc ex wo tp tf kf ++ va_pl L f))) := by
  refine ent_Xi (own := RX6) (lv0 := [(0, .ref (q 0)), (1, .int v)]) (by decide) rfl (Nat.le_of_ble_eq_true rfl) rfl ?_
  intro p e s m args below meth c A Q G hQ ht hlocks ret
  refine j_aload_n G dX6_charge_0 rfl 0 rfl ?_
  refine j_iload_n G dX6_charge_1 rfl 1 rfl ?_
  refine jXV_r G 6 0 (cC_X6_requireTap l D cA hfl q un ui ul ua vc ex wo tp tf kf L f ta ga ka v hn hPL) gX6_152 hd_X6_requireTap ⟨Nat.le_of_ble_eq_true rfl, Nat.le_of_ble_eq_true rfl⟩ ⟨Nat.le_of_ble_eq_true rfl, Nat.le_of_ble_eq_true rfl⟩ rfl rfl (Nat.le_of_ble_eq_true rfl) rfl rfl dX6_charge_2 (fun E9 w9 hq9 => ?_) (fun r w' hq9 => ?_)
  · rcases hq9 with ⟨h9, hu9⟩ | ⟨h9, hu9⟩
    · cases hu9
      exact j_out (post := fun _ => True) G hQ ht hlocks (Or.inl ⟨h9, rfl⟩) (Nat.le_of_ble_eq_true rfl) (Nat.le_of_ble_eq_true rfl)
    · cases hu9
      exact j_out (post := fun _ => True) G hQ ht hlocks (Or.inr (⟨h9, rfl⟩)) (Nat.le_of_ble_eq_true rfl) (Nat.le_of_ble_eq_true rfl)
  obtain ⟨k2, hu9⟩ := hq9
  cases hu9
  obtain ⟨ix1, hix1⟩ := PL_ta (cF cA q un ui ul ua vc ex wo tp tf kf) hPL (j := v.toNatClampNeg) (show v.toNatClampNeg < 20 by have := (cfTap_ok k2).1.lt (by omega); omega) (cfTap_ok k2).2
  refine gfX6_156 (v := .int (ua 6 v.toNatClampNeg)) G ix1 hix1 rfl dX6_charge_5 ?_
  refine j_cs (k' := 2) (n' := 12) (Nat.le_of_ble_eq_true rfl) (Nat.le_of_ble_eq_true rfl) ?_
  exact ret _ _ _ _ dX6_charge_8 rfl ⟨k2, rfl, rfl⟩
set_option maxHeartbeats 4000000 in
set_option maxRecDepth 100000 in
theorem cC_X6_totalOf (l : Launch) (D : va_G) (cA : Nat → ClassId) (hfl : l.stackTraces = false) (q : Nat → Nat) (un : Nat → Nat) (ui : Nat → Int32) (ul : Nat → Int64) (ua : Nat → Nat → Int32) (vc ex wo tp : Nat → Int32) (tf kf : Nat → Option Nat) (L : List Nat) (f : Nat → va_E) (ta : Nat → Nat) (ga : Nat → Nat) (ka : Nat → Nat) (v : Int32) (hn : un 0 ≤ 20) (hPL : PL cA un ua L f tf kf ta ga ka) : Xi l yX6_totalOf cX6_totalOf 2 .int 8 153 2 12 D cA [.ref (q 0), .int v] (cF cA q un ui ul ua vc ex wo tp tf kf ++ va_pl L f) (fun r w' => (cfTap (un 0) (ua 0) v = 0) ∧ r = totS (ua 8) v.toNatClampNeg (un 1) ∧ w' = (cF cA q un ui ul ua vc ex wo tp tf kf ++ va_pl L f)) (fun u => ((cfTap (un 0) (ua 0) v = 1) ∧ u = ("java/lang/IndexOutOfBoundsException", cF cA q un ui ul ua vc ex wo tp tf kf ++ va_pl L f)) ∨ ((cfTap (un 0) (ua 0) v = 2) ∧ u = ("java/lang/UnsupportedOperationException", cF cA q un ui ul ua vc ex wo tp tf kf ++ va_pl L f))) := by
  refine ent_Xi (own := RX6) (lv0 := [(0, .ref (q 0)), (1, .int v)]) (by decide) rfl (Nat.le_of_ble_eq_true rfl) rfl ?_
  intro p e s m args below meth c A Q G hQ ht hlocks ret
  refine j_aload_n G dX6_totalOf_0 rfl 0 rfl ?_
  refine j_iload_n G dX6_totalOf_1 rfl 1 rfl ?_
  refine jXV_r G 6 0 (cC_X6_requireTap l D cA hfl q un ui ul ua vc ex wo tp tf kf L f ta ga ka v hn hPL) gX6_152 hd_X6_requireTap ⟨Nat.le_of_ble_eq_true rfl, Nat.le_of_ble_eq_true rfl⟩ ⟨Nat.le_of_ble_eq_true rfl, Nat.le_of_ble_eq_true rfl⟩ rfl rfl (Nat.le_of_ble_eq_true rfl) rfl rfl dX6_totalOf_2 (fun E9 w9 hq9 => ?_) (fun r w' hq9 => ?_)
  · rcases hq9 with ⟨h9, hu9⟩ | ⟨h9, hu9⟩
    · cases hu9
      exact j_out (post := fun _ => True) G hQ ht hlocks (Or.inl ⟨h9, rfl⟩) (Nat.le_of_ble_eq_true rfl) (Nat.le_of_ble_eq_true rfl)
    · cases hu9
      exact j_out (post := fun _ => True) G hQ ht hlocks (Or.inr (⟨h9, rfl⟩)) (Nat.le_of_ble_eq_true rfl) (Nat.le_of_ble_eq_true rfl)
  obtain ⟨k2, hu9⟩ := hq9
  cases hu9
  obtain ⟨ix1, hix1⟩ := PL_ta (cF cA q un ui ul ua vc ex wo tp tf kf) hPL (j := v.toNatClampNeg) (show v.toNatClampNeg < 20 by have := (cfTap_ok k2).1.lt (by omega); omega) (cfTap_ok k2).2
  refine gfX6_164 (v := .int (totS (ua 8) v.toNatClampNeg (un 1))) G ix1 hix1 rfl dX6_totalOf_5 ?_
  refine j_cs (k' := 2) (n' := 12) (Nat.le_of_ble_eq_true rfl) (Nat.le_of_ble_eq_true rfl) ?_
  exact ret _ _ _ _ dX6_totalOf_8 rfl ⟨k2, rfl, rfl⟩
set_option maxHeartbeats 4000000 in
set_option maxRecDepth 100000 in
theorem cC_X6_requireTank (l : Launch) (D : va_G) (cA : Nat → ClassId) (hfl : l.stackTraces = false) (q : Nat → Nat) (un : Nat → Nat) (ui : Nat → Int32) (ul : Nat → Int64) (ua : Nat → Nat → Int32) (vc ex wo tp : Nat → Int32) (tf kf : Nat → Option Nat) (L : List Nat) (f : Nat → va_E) (ta : Nat → Nat) (ga : Nat → Nat) (ka : Nat → Nat) (v : Int32) (ht4 : un 2 ≤ 4) (hPL : PL cA un ua L f tf kf ta ga ka) : Xr l yX6_requireTank cX6_requireTank 3 (.object "SapNetwork$Tank") 6 110 1 6 D cA [.ref (q 0), .int v] (cF cA q un ui ul ua vc ex wo tp tf kf ++ va_pl L f) (fun u => (VN (un 2) v) ∧ u = (ka v.toNatClampNeg, (cF cA q un ui ul ua vc ex wo tp tf kf ++ va_pl L f))) (fun u => ((¬ VN (un 2) v) ∧ u = ("java/lang/IndexOutOfBoundsException", cF cA q un ui ul ua vc ex wo tp tf kf ++ va_pl L f))) := by
  refine ent_Xr (own := RX6) (lv0 := [(0, .ref (q 0)), (1, .int v)]) (by decide) rfl (Nat.le_of_ble_eq_true rfl) rfl ⟨_, rfl⟩ ?_
  intro p e s m args below meth c A Q G hQ ht hlocks ret
  refine j_iload_n G dX6_requireTank_0 rfl 1 rfl ?_
  refine j_if_lt (tgt := 13) G dX6_requireTank_1 (by decide) (fun c1 => ?_) (fun c1 => ?_)
  · refine j_nullc G dX6_requireTank_13 ?_
    refine j_goto (tgt := 23) G dX6_requireTank_14 (by decide) ?_
    refine j_astore_nN (lv' := [(2, .null), (0, .ref (q 0)), (1, .int v)]) G dX6_requireTank_23 rfl (by decide) rfl ?_
    refine j_aload_nN G dX6_requireTank_24 rfl 0 rfl ?_
    refine j_ifnonnull_n G dX6_requireTank_25 ?_
    exact j_thrW G hfl hQ ht hlocks (names := ["java/lang/RuntimeException", "java/lang/Exception"]) ft_IOOBE ft_names wd_394 wd_49 rfl st_311 at_IOOBE og_IOOBE dX6_requireTank_28 dX6_requireTank_31 dX6_requireTank_32 dX6_requireTank_35 dX6_requireTank_38 ⟨Nat.le_of_ble_eq_true rfl, Nat.le_of_ble_eq_true rfl, Nat.le_of_ble_eq_true rfl, Nat.le_of_ble_eq_true rfl⟩ ⟨(rk4n ht4 (Or.inl c1)), rfl⟩ (Nat.le_of_ble_eq_true rfl) (Nat.le_of_ble_eq_true rfl)
  · refine j_iload_n G dX6_requireTank_4 rfl 1 rfl ?_
    refine j_aload_n G dX6_requireTank_5 rfl 0 rfl ?_
    refine gfX6_24 (v := .ref (q 8)) G 0 rfl rfl dX6_requireTank_6 ?_
    refine j_alen (v := 4) G 8 3 rfl rfl rfl dX6_requireTank_9 ?_
    refine j_icmp_lt (tgt := 17) G dX6_requireTank_10 (by decide) (fun c10 => ?_) (fun c10 => ?_)
    · refine j_aload_n G dX6_requireTank_17 rfl 0 rfl ?_
      refine gfX6_24 (v := .ref (q 8)) G 0 rfl rfl dX6_requireTank_18 ?_
      refine j_iload_n G dX6_requireTank_21 rfl 1 rfl ?_
      refine j_aldR G 8 3 rfl rfl (rk4 c1 c10).2 dX6_requireTank_22 (fun r22 => ?_) (fun b22 r22 => ?_)
      · have hv4 := rk4 c1 c10
        have u22 := PL_kn hPL hv4.1 r22
        refine j_astore_nN (lv' := [(2, .null), (0, .ref (q 0)), (1, .int v)]) G dX6_requireTank_23 rfl (by decide) rfl ?_
        refine j_aload_nN G dX6_requireTank_24 rfl 0 rfl ?_
        refine j_ifnonnull_n G dX6_requireTank_25 ?_
        exact j_thrW G hfl hQ ht hlocks (names := ["java/lang/RuntimeException", "java/lang/Exception"]) ft_IOOBE ft_names wd_394 wd_49 rfl st_311 at_IOOBE og_IOOBE dX6_requireTank_28 dX6_requireTank_31 dX6_requireTank_32 dX6_requireTank_35 dX6_requireTank_38 ⟨Nat.le_of_ble_eq_true rfl, Nat.le_of_ble_eq_true rfl, Nat.le_of_ble_eq_true rfl, Nat.le_of_ble_eq_true rfl⟩ ⟨(fun h => u22 (h.lt (by omega))), rfl⟩ (Nat.le_of_ble_eq_true rfl) (Nat.le_of_ble_eq_true rfl)
      · have hv4 := rk4 c1 c10
        obtain ⟨u22, e22⟩ := PL_kf hPL hv4.1 r22
        subst e22
        refine j_astore_n (lv' := [(2, .ref (ka v.toNatClampNeg)), (0, .ref (q 0)), (1, .int v)]) G dX6_requireTank_23 rfl (by decide) rfl ?_
        refine j_aload_n G dX6_requireTank_24 rfl 0 rfl ?_
        refine j_ifnonnull_r (tgt := 39) G dX6_requireTank_25 (by decide) ?_
        refine j_aload_n G dX6_requireTank_39 rfl 0 rfl ?_
        refine j_cs (k' := 1) (n' := 6) (Nat.le_of_ble_eq_true rfl) (Nat.le_of_ble_eq_true rfl) ?_
        exact ret _ _ _ _ dX6_requireTank_40 ⟨(rk4v c1 c10 u22 (by omega)), rfl⟩
    · refine j_nullc G dX6_requireTank_13 ?_
      refine j_goto (tgt := 23) G dX6_requireTank_14 (by decide) ?_
      refine j_astore_nN (lv' := [(2, .null), (0, .ref (q 0)), (1, .int v)]) G dX6_requireTank_23 rfl (by decide) rfl ?_
      refine j_aload_nN G dX6_requireTank_24 rfl 0 rfl ?_
      refine j_ifnonnull_n G dX6_requireTank_25 ?_
      exact j_thrW G hfl hQ ht hlocks (names := ["java/lang/RuntimeException", "java/lang/Exception"]) ft_IOOBE ft_names wd_394 wd_49 rfl st_311 at_IOOBE og_IOOBE dX6_requireTank_28 dX6_requireTank_31 dX6_requireTank_32 dX6_requireTank_35 dX6_requireTank_38 ⟨Nat.le_of_ble_eq_true rfl, Nat.le_of_ble_eq_true rfl, Nat.le_of_ble_eq_true rfl, Nat.le_of_ble_eq_true rfl⟩ ⟨(rk4n ht4 (Or.inr c10)), rfl⟩ (Nat.le_of_ble_eq_true rfl) (Nat.le_of_ble_eq_true rfl)
set_option maxHeartbeats 4000000 in
set_option maxRecDepth 100000 in
theorem cC_X6_tankVolume (l : Launch) (D : va_G) (cA : Nat → ClassId) (hfl : l.stackTraces = false) (q : Nat → Nat) (un : Nat → Nat) (ui : Nat → Int32) (ul : Nat → Int64) (ua : Nat → Nat → Int32) (vc ex wo tp : Nat → Int32) (tf kf : Nat → Option Nat) (L : List Nat) (f : Nat → va_E) (ta : Nat → Nat) (ga : Nat → Nat) (ka : Nat → Nat) (v : Int32) (ht4 : un 2 ≤ 4) (hPL : PL cA un ua L f tf kf ta ga ka) : Xi l yX6_tankVolume cX6_tankVolume 2 .int 7 132 1 6 D cA [.ref (q 0), .int v] (cF cA q un ui ul ua vc ex wo tp tf kf ++ va_pl L f) (fun r w' => (VN (un 2) v) ∧ r = ua 10 v.toNatClampNeg ∧ w' = (cF cA q un ui ul ua vc ex wo tp tf kf ++ va_pl L f)) (fun u => ((¬ VN (un 2) v) ∧ u = ("java/lang/IndexOutOfBoundsException", cF cA q un ui ul ua vc ex wo tp tf kf ++ va_pl L f))) := by
  refine ent_Xi (own := RX6) (lv0 := [(0, .ref (q 0)), (1, .int v)]) (by decide) rfl (Nat.le_of_ble_eq_true rfl) rfl ?_
  intro p e s m args below meth c A Q G hQ ht hlocks ret
  refine j_aload_n G dX6_tankVolume_0 rfl 0 rfl ?_
  refine j_iload_n G dX6_tankVolume_1 rfl 1 rfl ?_
  refine jXV_r G 6 0 (cC_X6_requireTank l D cA hfl q un ui ul ua vc ex wo tp tf kf L f ta ga ka v ht4 hPL) gX6_176 hd_X6_requireTank ⟨Nat.le_of_ble_eq_true rfl, Nat.le_of_ble_eq_true rfl⟩ ⟨Nat.le_of_ble_eq_true rfl, Nat.le_of_ble_eq_true rfl⟩ rfl rfl (Nat.le_of_ble_eq_true rfl) rfl rfl dX6_tankVolume_2 (fun E9 w9 hq9 => ?_) (fun r w' hq9 => ?_)
  · rcases hq9 with ⟨h9, hu9⟩
    cases hu9
    exact j_out (post := fun _ => True) G hQ ht hlocks ⟨h9, rfl⟩ (Nat.le_of_ble_eq_true rfl) (Nat.le_of_ble_eq_true rfl)
  obtain ⟨k2, hu9⟩ := hq9
  cases hu9
  obtain ⟨ix1, hix1⟩ := PL_ka (cF cA q un ui ul ua vc ex wo tp tf kf) hPL (j := v.toNatClampNeg) (k2.lt (by omega))
  refine gfX6_180 (v := .int (ua 10 v.toNatClampNeg)) G ix1 hix1 rfl dX6_tankVolume_5 ?_
  refine j_cs (k' := 1) (n' := 6) (Nat.le_of_ble_eq_true rfl) (Nat.le_of_ble_eq_true rfl) ?_
  exact ret _ _ _ _ dX6_tankVolume_8 rfl ⟨k2, rfl, rfl⟩
set_option maxHeartbeats 4000000 in
set_option maxRecDepth 100000 in
theorem cC_X6_tankSugar (l : Launch) (D : va_G) (cA : Nat → ClassId) (hfl : l.stackTraces = false) (q : Nat → Nat) (un : Nat → Nat) (ui : Nat → Int32) (ul : Nat → Int64) (ua : Nat → Nat → Int32) (vc ex wo tp : Nat → Int32) (tf kf : Nat → Option Nat) (L : List Nat) (f : Nat → va_E) (ta : Nat → Nat) (ga : Nat → Nat) (ka : Nat → Nat) (v : Int32) (ht4 : un 2 ≤ 4) (hPL : PL cA un ua L f tf kf ta ga ka) : Xi l yX6_tankSugar cX6_tankSugar 2 .int 7 132 1 6 D cA [.ref (q 0), .int v] (cF cA q un ui ul ua vc ex wo tp tf kf ++ va_pl L f) (fun r w' => (VN (un 2) v) ∧ r = ua 11 v.toNatClampNeg ∧ w' = (cF cA q un ui ul ua vc ex wo tp tf kf ++ va_pl L f)) (fun u => ((¬ VN (un 2) v) ∧ u = ("java/lang/IndexOutOfBoundsException", cF cA q un ui ul ua vc ex wo tp tf kf ++ va_pl L f))) := by
  refine ent_Xi (own := RX6) (lv0 := [(0, .ref (q 0)), (1, .int v)]) (by decide) rfl (Nat.le_of_ble_eq_true rfl) rfl ?_
  intro p e s m args below meth c A Q G hQ ht hlocks ret
  refine j_aload_n G dX6_tankSugar_0 rfl 0 rfl ?_
  refine j_iload_n G dX6_tankSugar_1 rfl 1 rfl ?_
  refine jXV_r G 6 0 (cC_X6_requireTank l D cA hfl q un ui ul ua vc ex wo tp tf kf L f ta ga ka v ht4 hPL) gX6_176 hd_X6_requireTank ⟨Nat.le_of_ble_eq_true rfl, Nat.le_of_ble_eq_true rfl⟩ ⟨Nat.le_of_ble_eq_true rfl, Nat.le_of_ble_eq_true rfl⟩ rfl rfl (Nat.le_of_ble_eq_true rfl) rfl rfl dX6_tankSugar_2 (fun E9 w9 hq9 => ?_) (fun r w' hq9 => ?_)
  · rcases hq9 with ⟨h9, hu9⟩
    cases hu9
    exact j_out (post := fun _ => True) G hQ ht hlocks ⟨h9, rfl⟩ (Nat.le_of_ble_eq_true rfl) (Nat.le_of_ble_eq_true rfl)
  obtain ⟨k2, hu9⟩ := hq9
  cases hu9
  obtain ⟨ix1, hix1⟩ := PL_ka (cF cA q un ui ul ua vc ex wo tp tf kf) hPL (j := v.toNatClampNeg) (k2.lt (by omega))
  refine gfX6_183 (v := .int (ua 11 v.toNatClampNeg)) G ix1 hix1 rfl dX6_tankSugar_5 ?_
  refine j_cs (k' := 1) (n' := 6) (Nat.le_of_ble_eq_true rfl) (Nat.le_of_ble_eq_true rfl) ?_
  exact ret _ _ _ _ dX6_tankSugar_8 rfl ⟨k2, rfl, rfl⟩
set_option maxHeartbeats 4000000 in
set_option maxRecDepth 100000 in
theorem cC_X6_requireRoomBelow (l : Launch) (D : va_G) (cA : Nat → ClassId) (hfl : l.stackTraces = false) (q : Nat → Nat) (un : Nat → Nat) (ui : Nat → Int32) (ul : Nat → Int64) (ua : Nat → Nat → Int32) (vc ex wo tp : Nat → Int32) (tf kf : Nat → Option Nat) (L : List Nat) (f : Nat → va_E) (ta : Nat → Nat) (ga : Nat → Nat) (ka : Nat → Nat) (v : Int32) (hn : un 0 ≤ 20) (hv : VN (un 0) v) (hPL : PL cA un ua L f tf kf ta ga ka) : Xv l yX6_requireRoomBelow cX6_requireRoomBelow 2 6 110 1 6 D cA [.ref (q 0), .int v] (cF cA q un ui ul ua vc ex wo tp tf kf ++ va_pl L f) (fun w' => (¬ ua 0 v.toNatClampNeg = 2 ∧ nI (un 0) < 20) ∧ w' = (cF cA q un ui ul ua vc ex wo tp tf kf ++ va_pl L f)) (fun u => ((ua 0 v.toNatClampNeg = 2) ∧ u = ("java/lang/UnsupportedOperationException", cF cA q un ui ul ua vc ex wo tp tf kf ++ va_pl L f)) ∨ ((¬ ua 0 v.toNatClampNeg = 2 ∧ ¬ nI (un 0) < 20) ∧ u = ("java/lang/IllegalStateException", cF cA q un ui ul ua vc ex wo tp tf kf ++ va_pl L f))) := by
  refine ent_Xv (own := RX6) (lv0 := [(0, .ref (q 0)), (1, .int v)]) (by decide) rfl (Nat.le_of_ble_eq_true rfl) rfl ?_
  intro p e s m args below meth c A Q G hQ ht hlocks ret
  refine j_aload_n G dX6_requireRoomBelow_0 rfl 0 rfl ?_
  refine gfX6_18 (v := .ref (q 7)) G 0 rfl rfl dX6_requireRoomBelow_1 ?_
  refine j_iload_n G dX6_requireRoomBelow_4 rfl 1 rfl ?_
  refine j_aldR G 7 2 rfl rfl (hv.vp (by omega) (by omega)) dX6_requireRoomBelow_5 (fun r5 => ?_) (fun b5 r5 => ?_)
  · have u5 := PL_tn hPL (show v.toNatClampNeg < 20 by have := hv.lt (by omega); omega) r5
    refine j_ifnull_n (tgt := 20) G dX6_requireRoomBelow_6 (by decide) ?_
    refine j_aload_n G dX6_requireRoomBelow_20 rfl 0 rfl ?_
    refine gfX6_10 (v := .ref (q 1)) G 0 rfl rfl dX6_requireRoomBelow_21 ?_
    refine jV_i G 5 1 (cC_X5_isFull l D cA q un ui ul ua vc ex wo tp tf kf L f ) gX6_306 hd_X5_isFull ⟨Nat.le_of_ble_eq_true rfl, Nat.le_of_ble_eq_true rfl⟩ ⟨Nat.le_of_ble_eq_true rfl, Nat.le_of_ble_eq_true rfl⟩ rfl rfl (Nat.le_of_ble_eq_true rfl) rfl rfl dX6_requireRoomBelow_24 (fun r w' hq9 => ?_)
    obtain ⟨hr9, hw9⟩ := hq9
    obtain rfl := hr9.symm
    obtain rfl := hw9.symm
    refine j_ifb_eq (tgt := 41) G dX6_requireRoomBelow_27 (by decide) (fun c27 => ?_) (fun c27 => ?_)
    · refine j_cs (k' := 1) (n' := 6) (Nat.le_of_ble_eq_true rfl) (Nat.le_of_ble_eq_true rfl) ?_
      exact ret _ _ _ dX6_requireRoomBelow_41 ⟨⟨u5, Decidable.not_not.mp c27⟩, rfl⟩
    · exact j_thrW G hfl hQ ht hlocks (names := ["java/lang/RuntimeException", "java/lang/Exception"]) ft_ISE ft_names wd_450 wd_54 rfl st_307 at_ISE og_ISE dX6_requireRoomBelow_30 dX6_requireRoomBelow_33 dX6_requireRoomBelow_34 dX6_requireRoomBelow_37 dX6_requireRoomBelow_40 ⟨Nat.le_of_ble_eq_true rfl, Nat.le_of_ble_eq_true rfl, Nat.le_of_ble_eq_true rfl, Nat.le_of_ble_eq_true rfl⟩ (Or.inr (⟨⟨u5, c27⟩, rfl⟩)) (Nat.le_of_ble_eq_true rfl) (Nat.le_of_ble_eq_true rfl)
  · obtain ⟨u5, e5⟩ := PL_tf hPL (show v.toNatClampNeg < 20 by have := hv.lt (by omega); omega) r5
    subst e5
    refine j_ifnull_r G dX6_requireRoomBelow_6 ?_
    exact j_thrW G hfl hQ ht hlocks (names := ["java/lang/RuntimeException", "java/lang/Exception"]) ft_UOE ft_names wd_430 wd_53 rfl st_304 at_UOE og_UOE dX6_requireRoomBelow_9 dX6_requireRoomBelow_12 dX6_requireRoomBelow_13 dX6_requireRoomBelow_16 dX6_requireRoomBelow_19 ⟨Nat.le_of_ble_eq_true rfl, Nat.le_of_ble_eq_true rfl, Nat.le_of_ble_eq_true rfl, Nat.le_of_ble_eq_true rfl⟩ (Or.inl ⟨u5, rfl⟩) (Nat.le_of_ble_eq_true rfl) (Nat.le_of_ble_eq_true rfl)
set_option maxHeartbeats 4000000 in
set_option maxRecDepth 100000 in
theorem cC_X6_addJunction (l : Launch) (D : va_G) (cA : Nat → ClassId) (hfl : l.stackTraces = false) (q : Nat → Nat) (un : Nat → Nat) (ui : Nat → Int32) (ul : Nat → Int64) (ua : Nat → Nat → Int32) (vc ex wo tp : Nat → Int32) (tf kf : Nat → Option Nat) (L : List Nat) (f : Nat → va_E) (ta : Nat → Nat) (ga : Nat → Nat) (ka : Nat → Nat) (pr : Int32) (dp : Int32) (hn : un 0 ≤ 20) (hPL : PL cA un ua L f tf kf ta ga ka) : Xi l yX6_addJunction cX6_addJunction 3 .int 7 131 3 18 D cA [.ref (q 0), .int pr, .int dp] (cF cA q un ui ul ua vc ex wo tp tf kf ++ va_pl L f) (fun r w' => (cfAdd (un 0) (ua 0) pr (RG 0 20 dp) = 0) ∧ r = nI (un 0) ∧ w' = (cF cA q (up un 0 (un 0 + 1)) ui ul (up (up ua 1 (upd (ua 1) (un 0) pr)) 2 (upd (ua 2) (un 0) dp)) vc ex wo tp tf kf ++ va_pl L f)) (fun u => ((cfAdd (un 0) (ua 0) pr (RG 0 20 dp) = 1) ∧ u = ("java/lang/IndexOutOfBoundsException", cF cA q un ui ul ua vc ex wo tp tf kf ++ va_pl L f)) ∨ ((cfAdd (un 0) (ua 0) pr (RG 0 20 dp) = 2) ∧ u = ("java/lang/IllegalArgumentException", cF cA q un ui ul ua vc ex wo tp tf kf ++ va_pl L f)) ∨ ((cfAdd (un 0) (ua 0) pr (RG 0 20 dp) = 3) ∧ u = ("java/lang/UnsupportedOperationException", cF cA q un ui ul ua vc ex wo tp tf kf ++ va_pl L f)) ∨ ((cfAdd (un 0) (ua 0) pr (RG 0 20 dp) = 4) ∧ u = ("java/lang/IllegalStateException", cF cA q un ui ul ua vc ex wo tp tf kf ++ va_pl L f))) := by
  refine ent_Xi (own := RX6) (lv0 := [(0, .ref (q 0)), (1, .int pr), (2, .int dp)]) (by decide) rfl (Nat.le_of_ble_eq_true rfl) rfl ?_
  intro p e s m args below meth c A Q G hQ ht hlocks ret
  refine j_aload_n G dX6_addJunction_0 rfl 0 rfl ?_
  refine j_iload_n G dX6_addJunction_1 rfl 1 rfl ?_
  refine jXV_v G 6 0 (cC_X6_requireNode l D cA hfl q un ui ul ua vc ex wo tp tf kf L f pr) gX6_56 hd_X6_requireNode ⟨Nat.le_of_ble_eq_true rfl, Nat.le_of_ble_eq_true rfl⟩ ⟨Nat.le_of_ble_eq_true rfl, Nat.le_of_ble_eq_true rfl⟩ rfl rfl (Nat.le_of_ble_eq_true rfl) rfl rfl dX6_addJunction_2 (fun E9 w9 hq9 => ?_) (fun w' hq9 => ?_)
  · rcases hq9 with ⟨h9, hu9⟩
    cases hu9
    exact j_out (post := fun _ => True) G hQ ht hlocks (Or.inl ⟨(by simp [cfAdd, h9]), rfl⟩) (Nat.le_of_ble_eq_true rfl) (Nat.le_of_ble_eq_true rfl)
  obtain ⟨k2, hw9⟩ := hq9
  obtain rfl := hw9.symm
  refine j_iload_n G dX6_addJunction_5 rfl 2 rfl ?_
  refine j_iconst (v := 0) G dX6_addJunction_6 (by decide) ?_
  refine j_bipush (v := 20) G dX6_addJunction_7 (by decide) ?_
  refine jS_i G (cC_X6_isOutside l D cA (cF cA q un ui ul ua vc ex wo tp tf kf ++ va_pl L f) dp 0 20) gX6_60 hd_X6_isOutside.2 ⟨Nat.le_of_ble_eq_true rfl, Nat.le_of_ble_eq_true rfl⟩ ⟨Nat.le_of_ble_eq_true rfl, Nat.le_of_ble_eq_true rfl⟩ rfl rfl (Nat.le_of_ble_eq_true rfl) dX6_addJunction_9 (fun r w' hq9 => ?_)
  obtain ⟨hr9, hw9⟩ := hq9
  obtain rfl := hr9.symm
  obtain rfl := hw9.symm
  refine j_ifb_eq (tgt := 25) G dX6_addJunction_12 (by decide) (fun c12 => ?_) (fun c12 => ?_)
  · refine j_aload_n G dX6_addJunction_25 rfl 0 rfl ?_
    refine j_iload_n G dX6_addJunction_26 rfl 1 rfl ?_
    refine jXV_v G 6 0 (cC_X6_requireRoomBelow l D cA hfl q un ui ul ua vc ex wo tp tf kf L f ta ga ka pr hn k2 hPL) gX6_71 hd_X6_requireRoomBelow ⟨Nat.le_of_ble_eq_true rfl, Nat.le_of_ble_eq_true rfl⟩ ⟨Nat.le_of_ble_eq_true rfl, Nat.le_of_ble_eq_true rfl⟩ rfl rfl (Nat.le_of_ble_eq_true rfl) rfl rfl dX6_addJunction_27 (fun E9 w9 hq9 => ?_) (fun w' hq9 => ?_)
    · rcases hq9 with ⟨h9, hu9⟩ | ⟨h9, hu9⟩
      · cases hu9
        exact j_out (post := fun _ => True) G hQ ht hlocks (Or.inr (Or.inr (Or.inl ⟨(cfAdd_3 k2 (Decidable.not_not.mp c12) h9), rfl⟩))) (Nat.le_of_ble_eq_true rfl) (Nat.le_of_ble_eq_true rfl)
      · cases hu9
        exact j_out (post := fun _ => True) G hQ ht hlocks (Or.inr (Or.inr (Or.inr (⟨(cfAdd_4 k2 (Decidable.not_not.mp c12) h9.1 ((full20 hn).mp h9.2)), rfl⟩)))) (Nat.le_of_ble_eq_true rfl) (Nat.le_of_ble_eq_true rfl)
    obtain ⟨k27, hw9⟩ := hq9
    obtain rfl := hw9.symm
    refine j_aload_n G dX6_addJunction_30 rfl 0 rfl ?_
    refine gfX6_10 (v := .ref (q 1)) G 0 rfl rfl dX6_addJunction_31 ?_
    refine j_iload_n G dX6_addJunction_34 rfl 1 rfl ?_
    refine j_iload_n G dX6_addJunction_35 rfl 2 rfl ?_
    refine jV_i G 5 1 (cC_X5_join l D cA q un ui ul ua vc ex wo tp tf kf L f pr dp (room20 hn k27.2)) gX6_74 hd_X5_join ⟨Nat.le_of_ble_eq_true rfl, Nat.le_of_ble_eq_true rfl⟩ ⟨Nat.le_of_ble_eq_true rfl, Nat.le_of_ble_eq_true rfl⟩ rfl rfl (Nat.le_of_ble_eq_true rfl) rfl rfl dX6_addJunction_36 (fun r w' hq9 => ?_)
    obtain ⟨hr9, hw9⟩ := hq9
    obtain rfl := hr9.symm
    obtain rfl := hw9.symm
    refine j_w (w' := cF cA q (up un 0 (un 0 + 1)) ui ul (up (up ua 1 (upd (ua 1) (un 0) pr)) 2 (upd (ua 2) (un 0) dp)) vc ex wo tp tf kf ++ va_pl L f) rfl ?_
    refine j_cs (k' := 3) (n' := 18) (Nat.le_of_ble_eq_true rfl) (Nat.le_of_ble_eq_true rfl) ?_
    exact ret _ _ _ _ dX6_addJunction_39 rfl ⟨(cfAdd_0 k2 (Decidable.not_not.mp c12) k27.1 (fun h8 => (full20 hn).mpr h8 k27.2)), rfl, rfl⟩
  · exact j_thr G hfl hQ ht hlocks (names := ["java/lang/RuntimeException", "java/lang/Exception"]) ft_IAE ft_names wd_410 wd_52 rfl st_66 at_IAE og_IAE dX6_addJunction_15 dX6_addJunction_18 dX6_addJunction_19 dX6_addJunction_21 dX6_addJunction_24 ⟨Nat.le_of_ble_eq_true rfl, Nat.le_of_ble_eq_true rfl, Nat.le_of_ble_eq_true rfl, Nat.le_of_ble_eq_true rfl⟩ (Or.inr (Or.inl ⟨(by simp [cfAdd, k2, c12]), rfl⟩)) (Nat.le_of_ble_eq_true rfl) (Nat.le_of_ble_eq_true rfl)
set_option maxHeartbeats 4000000 in
set_option maxRecDepth 100000 in
theorem cC_X6_sapOf (l : Launch) (D : va_G) (cA : Nat → ClassId) (hfl : l.stackTraces = false) (q : Nat → Nat) (un : Nat → Nat) (ui : Nat → Int32) (ul : Nat → Int64) (ua : Nat → Nat → Int32) (vc ex wo tp : Nat → Int32) (tf kf : Nat → Option Nat) (L : List Nat) (f : Nat → va_E) (ta : Nat → Nat) (ga : Nat → Nat) (ka : Nat → Nat) (v : Int32) (hr : Int32) (hn : un 0 ≤ 20) (hh : un 1 ≤ 200) (hPL : PL cA un ua L f tf kf ta ga ka) : Xi l yX6_sapOf cX6_sapOf 4 .int 8 153 3 18 D cA [.ref (q 0), .int v, .int hr] (cF cA q un ui ul ua vc ex wo tp tf kf ++ va_pl L f) (fun r w' => (cfSap (un 0) (ua 0) v (un 1) hr = 0) ∧ r = ua 8 (200 * v.toNatClampNeg + hr.toNatClampNeg) ∧ w' = (cF cA q un ui ul ua vc ex wo tp tf kf ++ va_pl L f)) (fun u => ((cfSap (un 0) (ua 0) v (un 1) hr = 1) ∧ u = ("java/lang/IndexOutOfBoundsException", cF cA q un ui ul ua vc ex wo tp tf kf ++ va_pl L f)) ∨ ((cfSap (un 0) (ua 0) v (un 1) hr = 2) ∧ u = ("java/lang/UnsupportedOperationException", cF cA q un ui ul ua vc ex wo tp tf kf ++ va_pl L f)) ∨ ((cfSap (un 0) (ua 0) v (un 1) hr = 3) ∧ u = ("java/util/NoSuchElementException", cF cA q un ui ul ua vc ex wo tp tf kf ++ va_pl L f))) := by
  refine ent_Xi (own := RX6) (lv0 := [(0, .ref (q 0)), (1, .int v), (2, .int hr)]) (by decide) rfl (Nat.le_of_ble_eq_true rfl) rfl ?_
  intro p e s m args below meth c A Q G hQ ht hlocks ret
  refine j_aload_n G dX6_sapOf_0 rfl 0 rfl ?_
  refine j_iload_n G dX6_sapOf_1 rfl 1 rfl ?_
  refine jXV_r G 6 0 (cC_X6_requireTap l D cA hfl q un ui ul ua vc ex wo tp tf kf L f ta ga ka v hn hPL) gX6_152 hd_X6_requireTap ⟨Nat.le_of_ble_eq_true rfl, Nat.le_of_ble_eq_true rfl⟩ ⟨Nat.le_of_ble_eq_true rfl, Nat.le_of_ble_eq_true rfl⟩ rfl rfl (Nat.le_of_ble_eq_true rfl) rfl rfl dX6_sapOf_2 (fun E9 w9 hq9 => ?_) (fun r w' hq9 => ?_)
  · rcases hq9 with ⟨h9, hu9⟩ | ⟨h9, hu9⟩
    · cases hu9
      exact j_out (post := fun _ => True) G hQ ht hlocks (Or.inl ⟨(by simp [cfSap, h9]), rfl⟩) (Nat.le_of_ble_eq_true rfl) (Nat.le_of_ble_eq_true rfl)
    · cases hu9
      exact j_out (post := fun _ => True) G hQ ht hlocks (Or.inr (Or.inl ⟨(by simp [cfSap, h9]), rfl⟩)) (Nat.le_of_ble_eq_true rfl) (Nat.le_of_ble_eq_true rfl)
  obtain ⟨k2, hu9⟩ := hq9
  cases hu9
  refine j_astore_n (lv' := [(3, .ref (ta v.toNatClampNeg)), (0, .ref (q 0)), (1, .int v), (2, .int hr)]) G dX6_sapOf_5 rfl (by decide) rfl ?_
  refine j_iload_n G dX6_sapOf_6 rfl 3 rfl ?_
  refine j_if_lt (tgt := 18) G dX6_sapOf_7 (by decide) (fun c7 => ?_) (fun c7 => ?_)
  · exact j_thrn G hfl hQ ht hlocks wd_542 wd_56 rfl st_159 dX6_sapOf_18 dX6_sapOf_21 dX6_sapOf_22 dX6_sapOf_24 dX6_sapOf_27 ⟨Nat.le_of_ble_eq_true rfl, Nat.le_of_ble_eq_true rfl, Nat.le_of_ble_eq_true rfl, Nat.le_of_ble_eq_true rfl⟩ (Or.inr (Or.inr (⟨(by rw [cfSap, if_neg (fun h8 => h8 k2), if_neg (fun h8 => h8.1 c7)]), rfl⟩))) (Nat.le_of_ble_eq_true rfl) (Nat.le_of_ble_eq_true rfl)
  · refine j_iload_n G dX6_sapOf_10 rfl 3 rfl ?_
    refine j_aload_n G dX6_sapOf_11 rfl 1 rfl ?_
    refine gfX6_131 (v := .int (nI (un 1))) G 0 rfl rfl dX6_sapOf_12 ?_
    refine j_icmp_lt (tgt := 28) G dX6_sapOf_15 (by decide) (fun c15 => ?_) (fun c15 => ?_)
    · refine j_aload_n G dX6_sapOf_28 rfl 0 rfl ?_
      obtain ⟨ix1, hix1⟩ := PL_ta (cF cA q un ui ul ua vc ex wo tp tf kf) hPL (j := v.toNatClampNeg) (show v.toNatClampNeg < 20 by have := (cfTap_ok k2).1.lt (by omega); omega) (cfTap_ok k2).2
      refine gfX6_161 (v := .ref (ga v.toNatClampNeg)) G ix1 hix1 rfl dX6_sapOf_29 ?_
      refine j_iload_n G dX6_sapOf_32 rfl 3 rfl ?_
      obtain ⟨ix2, gix2, hix2, eix2⟩ := PL_ga (cF cA q un ui ul ua vc ex wo tp tf kf) hPL (j := v.toNatClampNeg) (show v.toNatClampNeg < 20 by have := (cfTap_ok k2).1.lt (by omega); omega) (cfTap_ok k2).2
      refine j_iald G ix2 hix2 (VN.vp (n := un 1) ⟨c7, Int32.not_le.mpr c15⟩ (by omega) (by omega)) dX6_sapOf_33 ?_
      refine j_rwi (show gix2 hr.toNatClampNeg = ua 8 (200 * v.toNatClampNeg + hr.toNatClampNeg) from eix2 _ (by have := VN.lt (n := un 1) ⟨c7, Int32.not_le.mpr c15⟩ (by omega); omega)) ?_
      refine j_cs (k' := 3) (n' := 18) (Nat.le_of_ble_eq_true rfl) (Nat.le_of_ble_eq_true rfl) ?_
      exact ret _ _ _ _ dX6_sapOf_34 rfl ⟨(by rw [cfSap, if_neg (fun h8 => h8 k2), if_pos ⟨c7, Int32.not_le.mpr c15⟩]), rfl, rfl⟩
    · exact j_thrn G hfl hQ ht hlocks wd_542 wd_56 rfl st_159 dX6_sapOf_18 dX6_sapOf_21 dX6_sapOf_22 dX6_sapOf_24 dX6_sapOf_27 ⟨Nat.le_of_ble_eq_true rfl, Nat.le_of_ble_eq_true rfl, Nat.le_of_ble_eq_true rfl, Nat.le_of_ble_eq_true rfl⟩ (Or.inr (Or.inr (⟨(by rw [cfSap, if_neg (fun h8 => h8 k2), if_neg (fun h8 => h8.2 (Int32.not_lt.mp c15))]), rfl⟩))) (Nat.le_of_ble_eq_true rfl) (Nat.le_of_ble_eq_true rfl)
set_option maxHeartbeats 4000000 in
set_option maxRecDepth 100000 in
theorem cC_X6_volumeInTanks (l : Launch) (D : va_G) (cA : Nat → ClassId) (q : Nat → Nat) (un : Nat → Nat) (ui : Nat → Int32) (ul : Nat → Int64) (ua : Nat → Nat → Int32) (vc ex wo tp : Nat → Int32) (tf kf : Nat → Option Nat) (L : List Nat) (f : Nat → va_E) (ta : Nat → Nat) (ga : Nat → Nat) (ka : Nat → Nat) (ht4 : un 2 ≤ 4) (hPL : PL cA un ua L f tf kf ta ga ka) : Kl l yX6_volumeInTanks cX6_volumeInTanks 5 0 0 0 0 D cA [.ref (q 0)] (cF cA q un ui ul ua vc ex wo tp tf kf ++ va_pl L f) (fun r w' => r = sumL (tkF (ua 10) (un 2)) 4 ∧ w' = (cF cA q un ui ul ua vc ex wo tp tf kf ++ va_pl L f)) := by
  refine ent_l (own := RX6) (lv0 := [(0, .ref (q 0))]) (by decide) rfl (Nat.le_of_ble_eq_true rfl) rfl ?_
  intro p e s m args below meth c A Q G hinit ret
  refine j_lconst (v := 0) G dX6_volumeInTanks_0 (by decide) ?_
  refine j_rwl ((show (0 : Int64) = sumL (tkF (ua 10) (un 2)) 0 from rfl)) ?_
  refine j_lstore_n (lv' := [(1, .long (sumL (tkF (ua 10) (un 2)) 0)), (0, .ref (q 0))]) G dX6_volumeInTanks_1 rfl (by decide) rfl ?_
  refine j_iconst (v := 0) G dX6_volumeInTanks_2 (by decide) ?_
  refine j_istore_n (lv' := [(3, .int 0), (1, .long (sumL (tkF (ua 10) (un 2)) 0)), (0, .ref (q 0))]) G dX6_volumeInTanks_3 rfl (by decide) rfl ?_
  have lp4 : ∀ (fu4 : Nat) (t : Nat), (t ≤ 4) → (4 < t + fu4) → J p l e (RM 0 0 0 0) s m args below meth c 5 D A (cF cA q un ui ul ua vc ex wo tp tf kf ++ va_pl L f) 0 0 Q 4 [(0, .ref (q 0)), (1, .long (sumL (tkF (ua 10) (un 2)) t)), (3, .int (nI t))] [] := by
    intro fu4
    induction fu4 with
    | zero => intro t h1 h2; exact absurd h2 (by omega)
    | succ fu4 ih4 =>
      intro t h1 h2
      refine j_iload_n G dX6_volumeInTanks_4 rfl 2 rfl ?_
      refine j_aload_n G dX6_volumeInTanks_5 rfl 0 rfl ?_
      refine gfX6_24 (v := .ref (q 8)) G 0 rfl rfl dX6_volumeInTanks_6 ?_
      refine j_alen (v := 4) G 8 3 rfl rfl rfl dX6_volumeInTanks_9 ?_
      refine j_icmp_ge (tgt := 45) G dX6_volumeInTanks_10 (by decide) (fun c10 => ?_) (fun c10 => ?_)
      · have g10 : t = 4 := Nat.le_antisymm h1 ((nI_leI (by omega) (by omega)).mp (show nI 4 ≤ nI t from c10))
        refine j_lload_n G dX6_volumeInTanks_45 rfl 1 rfl ?_
        exact ret _ _ _ _ dX6_volumeInTanks_46 ⟨(by rw [g10]), rfl⟩
      · have g10 : t < 4 := (Nat.lt_or_ge t 4).resolve_right (fun h => absurd (show nI 4 ≤ nI t from (nI_leI (by omega) (by omega)).mpr h) c10)
        refine j_aload_n G dX6_volumeInTanks_13 rfl 0 rfl ?_
        refine gfX6_24 (v := .ref (q 8)) G 0 rfl rfl dX6_volumeInTanks_14 ?_
        refine j_iload_n G dX6_volumeInTanks_17 rfl 2 rfl ?_
        refine j_aldR G 8 3 rfl rfl (vp_in_nI g10 (by decide)) dX6_volumeInTanks_18 (fun r18 => ?_) (fun b18 r18 => ?_)
        · rw [nI_clamp (by omega)] at r18
          have u18 := PL_kn hPL g10 r18
          refine j_astoreN (lv' := [(4, .null), (0, .ref (q 0)), (1, .long (sumL (tkF (ua 10) (un 2)) t)), (3, .int (nI t))]) G dX6_volumeInTanks_19 (by decide) rfl ?_
          refine j_lload_n G dX6_volumeInTanks_21 rfl 2 rfl ?_
          refine j_aloadN G dX6_volumeInTanks_22 0 rfl ?_
          refine j_ifnonnull_n G dX6_volumeInTanks_24 ?_
          refine j_lconst (v := 0) G dX6_volumeInTanks_27 (by decide) ?_
          refine j_goto (tgt := 37) G dX6_volumeInTanks_28 (by decide) ?_
          refine j_ladd G dX6_volumeInTanks_37 ?_
          refine j_rwl (tk_n u18) ?_
          refine j_lstore_n (lv' := [(1, .long (sumL (tkF (ua 10) (un 2)) (t + 1))), (4, .null), (0, .ref (q 0)), (3, .int (nI t))]) G dX6_volumeInTanks_38 rfl (by decide) rfl ?_
          refine j_iinc (v := (nI (t + 1))) (lv' := [(3, .int (nI (t + 1))), (1, .long (sumL (tkF (ua 10) (un 2)) (t + 1))), (4, .null), (0, .ref (q 0))]) G dX6_volumeInTanks_39 3 rfl (nI_1 t) (by decide) rfl ?_
          refine j_goto (tgt := 4) G dX6_volumeInTanks_42 (by decide) ?_
          refine j_sub (lv' := [(0, .ref (q 0)), (1, .long (sumL (tkF (ua 10) (un 2)) (t + 1))), (3, .int (nI (t + 1)))]) [3, 1, 0] rfl ?_
          exact ih4 (t + 1) (by omega) (by omega)
        · rw [nI_clamp (by omega)] at r18
          obtain ⟨u18, e18⟩ := PL_kf hPL g10 r18
          subst e18
          refine j_astore (lv' := [(4, .ref (ka t)), (0, .ref (q 0)), (1, .long (sumL (tkF (ua 10) (un 2)) t)), (3, .int (nI t))]) G dX6_volumeInTanks_19 (by decide) rfl ?_
          refine j_lload_n G dX6_volumeInTanks_21 rfl 2 rfl ?_
          refine j_aload G dX6_volumeInTanks_22 0 rfl ?_
          refine j_ifnonnull_r (tgt := 31) G dX6_volumeInTanks_24 (by decide) ?_
          refine j_aload G dX6_volumeInTanks_31 0 rfl ?_
          obtain ⟨ix1, hix1⟩ := PL_ka (cF cA q un ui ul ua vc ex wo tp tf kf) hPL (j := t) u18
          refine gfX6_180 (v := .int (ua 10 t)) G ix1 hix1 rfl dX6_volumeInTanks_33 ?_
          refine j_i2l G dX6_volumeInTanks_36 ?_
          refine j_ladd G dX6_volumeInTanks_37 ?_
          refine j_rwl (tk_y u18) ?_
          refine j_lstore_n (lv' := [(1, .long (sumL (tkF (ua 10) (un 2)) (t + 1))), (4, .ref (ka t)), (0, .ref (q 0)), (3, .int (nI t))]) G dX6_volumeInTanks_38 rfl (by decide) rfl ?_
          refine j_iinc (v := (nI (t + 1))) (lv' := [(3, .int (nI (t + 1))), (1, .long (sumL (tkF (ua 10) (un 2)) (t + 1))), (4, .ref (ka t)), (0, .ref (q 0))]) G dX6_volumeInTanks_39 3 rfl (nI_1 t) (by decide) rfl ?_
          refine j_goto (tgt := 4) G dX6_volumeInTanks_42 (by decide) ?_
          refine j_sub (lv' := [(0, .ref (q 0)), (1, .long (sumL (tkF (ua 10) (un 2)) (t + 1))), (3, .int (nI (t + 1)))]) [3, 1, 0] rfl ?_
          exact ih4 (t + 1) (by omega) (by omega)
  refine j_sub (lv' := [(0, .ref (q 0)), (1, .long (sumL (tkF (ua 10) (un 2)) 0)), (3, .int 0)]) [2, 1, 0] rfl ?_
  exact lp4 (5) 0 (Nat.zero_le _) (by omega)
set_option maxHeartbeats 4000000 in
set_option maxRecDepth 100000 in
theorem cC_X6_sugarInTanks (l : Launch) (D : va_G) (cA : Nat → ClassId) (q : Nat → Nat) (un : Nat → Nat) (ui : Nat → Int32) (ul : Nat → Int64) (ua : Nat → Nat → Int32) (vc ex wo tp : Nat → Int32) (tf kf : Nat → Option Nat) (L : List Nat) (f : Nat → va_E) (ta : Nat → Nat) (ga : Nat → Nat) (ka : Nat → Nat) (ht4 : un 2 ≤ 4) (hPL : PL cA un ua L f tf kf ta ga ka) : Kl l yX6_sugarInTanks cX6_sugarInTanks 5 0 0 0 0 D cA [.ref (q 0)] (cF cA q un ui ul ua vc ex wo tp tf kf ++ va_pl L f) (fun r w' => r = sumL (tkF (ua 11) (un 2)) 4 ∧ w' = (cF cA q un ui ul ua vc ex wo tp tf kf ++ va_pl L f)) := by
  refine ent_l (own := RX6) (lv0 := [(0, .ref (q 0))]) (by decide) rfl (Nat.le_of_ble_eq_true rfl) rfl ?_
  intro p e s m args below meth c A Q G hinit ret
  refine j_lconst (v := 0) G dX6_sugarInTanks_0 (by decide) ?_
  refine j_rwl ((show (0 : Int64) = sumL (tkF (ua 11) (un 2)) 0 from rfl)) ?_
  refine j_lstore_n (lv' := [(1, .long (sumL (tkF (ua 11) (un 2)) 0)), (0, .ref (q 0))]) G dX6_sugarInTanks_1 rfl (by decide) rfl ?_
  refine j_iconst (v := 0) G dX6_sugarInTanks_2 (by decide) ?_
  refine j_istore_n (lv' := [(3, .int 0), (1, .long (sumL (tkF (ua 11) (un 2)) 0)), (0, .ref (q 0))]) G dX6_sugarInTanks_3 rfl (by decide) rfl ?_
  have lp4 : ∀ (fu4 : Nat) (t : Nat), (t ≤ 4) → (4 < t + fu4) → J p l e (RM 0 0 0 0) s m args below meth c 5 D A (cF cA q un ui ul ua vc ex wo tp tf kf ++ va_pl L f) 0 0 Q 4 [(0, .ref (q 0)), (1, .long (sumL (tkF (ua 11) (un 2)) t)), (3, .int (nI t))] [] := by
    intro fu4
    induction fu4 with
    | zero => intro t h1 h2; exact absurd h2 (by omega)
    | succ fu4 ih4 =>
      intro t h1 h2
      refine j_iload_n G dX6_sugarInTanks_4 rfl 2 rfl ?_
      refine j_aload_n G dX6_sugarInTanks_5 rfl 0 rfl ?_
      refine gfX6_24 (v := .ref (q 8)) G 0 rfl rfl dX6_sugarInTanks_6 ?_
      refine j_alen (v := 4) G 8 3 rfl rfl rfl dX6_sugarInTanks_9 ?_
      refine j_icmp_ge (tgt := 45) G dX6_sugarInTanks_10 (by decide) (fun c10 => ?_) (fun c10 => ?_)
      · have g10 : t = 4 := Nat.le_antisymm h1 ((nI_leI (by omega) (by omega)).mp (show nI 4 ≤ nI t from c10))
        refine j_lload_n G dX6_sugarInTanks_45 rfl 1 rfl ?_
        exact ret _ _ _ _ dX6_sugarInTanks_46 ⟨(by rw [g10]), rfl⟩
      · have g10 : t < 4 := (Nat.lt_or_ge t 4).resolve_right (fun h => absurd (show nI 4 ≤ nI t from (nI_leI (by omega) (by omega)).mpr h) c10)
        refine j_aload_n G dX6_sugarInTanks_13 rfl 0 rfl ?_
        refine gfX6_24 (v := .ref (q 8)) G 0 rfl rfl dX6_sugarInTanks_14 ?_
        refine j_iload_n G dX6_sugarInTanks_17 rfl 2 rfl ?_
        refine j_aldR G 8 3 rfl rfl (vp_in_nI g10 (by decide)) dX6_sugarInTanks_18 (fun r18 => ?_) (fun b18 r18 => ?_)
        · rw [nI_clamp (by omega)] at r18
          have u18 := PL_kn hPL g10 r18
          refine j_astoreN (lv' := [(4, .null), (0, .ref (q 0)), (1, .long (sumL (tkF (ua 11) (un 2)) t)), (3, .int (nI t))]) G dX6_sugarInTanks_19 (by decide) rfl ?_
          refine j_lload_n G dX6_sugarInTanks_21 rfl 2 rfl ?_
          refine j_aloadN G dX6_sugarInTanks_22 0 rfl ?_
          refine j_ifnonnull_n G dX6_sugarInTanks_24 ?_
          refine j_lconst (v := 0) G dX6_sugarInTanks_27 (by decide) ?_
          refine j_goto (tgt := 37) G dX6_sugarInTanks_28 (by decide) ?_
          refine j_ladd G dX6_sugarInTanks_37 ?_
          refine j_rwl (tk_n u18) ?_
          refine j_lstore_n (lv' := [(1, .long (sumL (tkF (ua 11) (un 2)) (t + 1))), (4, .null), (0, .ref (q 0)), (3, .int (nI t))]) G dX6_sugarInTanks_38 rfl (by decide) rfl ?_
          refine j_iinc (v := (nI (t + 1))) (lv' := [(3, .int (nI (t + 1))), (1, .long (sumL (tkF (ua 11) (un 2)) (t + 1))), (4, .null), (0, .ref (q 0))]) G dX6_sugarInTanks_39 3 rfl (nI_1 t) (by decide) rfl ?_
          refine j_goto (tgt := 4) G dX6_sugarInTanks_42 (by decide) ?_
          refine j_sub (lv' := [(0, .ref (q 0)), (1, .long (sumL (tkF (ua 11) (un 2)) (t + 1))), (3, .int (nI (t + 1)))]) [3, 1, 0] rfl ?_
          exact ih4 (t + 1) (by omega) (by omega)
        · rw [nI_clamp (by omega)] at r18
          obtain ⟨u18, e18⟩ := PL_kf hPL g10 r18
          subst e18
          refine j_astore (lv' := [(4, .ref (ka t)), (0, .ref (q 0)), (1, .long (sumL (tkF (ua 11) (un 2)) t)), (3, .int (nI t))]) G dX6_sugarInTanks_19 (by decide) rfl ?_
          refine j_lload_n G dX6_sugarInTanks_21 rfl 2 rfl ?_
          refine j_aload G dX6_sugarInTanks_22 0 rfl ?_
          refine j_ifnonnull_r (tgt := 31) G dX6_sugarInTanks_24 (by decide) ?_
          refine j_aload G dX6_sugarInTanks_31 0 rfl ?_
          obtain ⟨ix1, hix1⟩ := PL_ka (cF cA q un ui ul ua vc ex wo tp tf kf) hPL (j := t) u18
          refine gfX6_183 (v := .int (ua 11 t)) G ix1 hix1 rfl dX6_sugarInTanks_33 ?_
          refine j_i2l G dX6_sugarInTanks_36 ?_
          refine j_ladd G dX6_sugarInTanks_37 ?_
          refine j_rwl (tk_y u18) ?_
          refine j_lstore_n (lv' := [(1, .long (sumL (tkF (ua 11) (un 2)) (t + 1))), (4, .ref (ka t)), (0, .ref (q 0)), (3, .int (nI t))]) G dX6_sugarInTanks_38 rfl (by decide) rfl ?_
          refine j_iinc (v := (nI (t + 1))) (lv' := [(3, .int (nI (t + 1))), (1, .long (sumL (tkF (ua 11) (un 2)) (t + 1))), (4, .ref (ka t)), (0, .ref (q 0))]) G dX6_sugarInTanks_39 3 rfl (nI_1 t) (by decide) rfl ?_
          refine j_goto (tgt := 4) G dX6_sugarInTanks_42 (by decide) ?_
          refine j_sub (lv' := [(0, .ref (q 0)), (1, .long (sumL (tkF (ua 11) (un 2)) (t + 1))), (3, .int (nI (t + 1)))]) [3, 1, 0] rfl ?_
          exact ih4 (t + 1) (by omega) (by omega)
  refine j_sub (lv' := [(0, .ref (q 0)), (1, .long (sumL (tkF (ua 11) (un 2)) 0)), (3, .int 0)]) [2, 1, 0] rfl ?_
  exact lp4 (5) 0 (Nat.zero_le _) (by omega)
set_option maxHeartbeats 4000000 in
set_option maxRecDepth 100000 in
theorem cC_X6_lossByBalance (l : Launch) (D : va_G) (cA : Nat → ClassId) (q : Nat → Nat) (un : Nat → Nat) (ui : Nat → Int32) (ul : Nat → Int64) (ua : Nat → Nat → Int32) (vc ex wo tp : Nat → Int32) (tf kf : Nat → Option Nat) (L : List Nat) (f : Nat → va_E) (ta : Nat → Nat) (ga : Nat → Nat) (ka : Nat → Nat) (hb30 : un 3 ≤ 30) (ht4 : un 2 ≤ 4) (hPL : PL cA un ua L f tf kf ta ga ka) : Kl l yX6_lossByBalance cX6_lossByBalance 1 1 24 0 0 D cA [.ref (q 0)] (cF cA q un ui ul ua vc ex wo tp tf kf ++ va_pl L f) (fun r w' => r = ul 0 - ul 2 - sumL (ua 12) (un 3) - sumL (tkF (ua 10) (un 2)) 4 - (ui 1).toInt64 ∧ w' = (cF cA q un ui ul ua vc ex wo tp tf kf ++ va_pl L f)) := by
  refine ent_l (own := RX6) (lv0 := [(0, .ref (q 0))]) (by decide) rfl (Nat.le_of_ble_eq_true rfl) rfl ?_
  intro p e s m args below meth c A Q G hinit ret
  refine j_aload_n G dX6_lossByBalance_0 rfl 0 rfl ?_
  refine gfX6_48 (v := .ref (q 14)) G 0 rfl rfl dX6_lossByBalance_1 ?_
  refine gfX6_259 (v := .long (ul 0)) G 14 rfl rfl dX6_lossByBalance_4 ?_
  refine j_aload_n G dX6_lossByBalance_7 rfl 0 rfl ?_
  refine gfX6_48 (v := .ref (q 14)) G 0 rfl rfl dX6_lossByBalance_8 ?_
  refine gfX6_263 (v := .long (ul 2)) G 14 rfl rfl dX6_lossByBalance_11 ?_
  refine j_lsub G dX6_lossByBalance_14 ?_
  refine j_aload_n G dX6_lossByBalance_15 rfl 0 rfl ?_
  refine gfX6_41 (v := .ref (q 11)) G 0 rfl rfl dX6_lossByBalance_16 ?_
  refine jV_l G 2 11 (cC_X2_volumeOfAll l D cA q un ui ul ua vc ex wo tp tf kf L f hb30) gX6_269 hd_X2_volumeOfAll ⟨Nat.le_of_ble_eq_true rfl, Nat.le_of_ble_eq_true rfl⟩ ⟨Nat.le_of_ble_eq_true rfl, Nat.le_of_ble_eq_true rfl⟩ rfl rfl (Nat.le_of_ble_eq_true rfl) rfl rfl dX6_lossByBalance_19 (fun r w' hq9 => ?_)
  obtain ⟨hr9, hw9⟩ := hq9
  obtain rfl := hr9.symm
  obtain rfl := hw9.symm
  refine j_lsub G dX6_lossByBalance_22 ?_
  refine j_aload_n G dX6_lossByBalance_23 rfl 0 rfl ?_
  refine jV_l G 6 0 (cC_X6_volumeInTanks l D cA q un ui ul ua vc ex wo tp tf kf L f ta ga ka ht4 hPL) gX6_273 hd_X6_volumeInTanks ⟨Nat.le_of_ble_eq_true rfl, Nat.le_of_ble_eq_true rfl⟩ ⟨Nat.le_of_ble_eq_true rfl, Nat.le_of_ble_eq_true rfl⟩ rfl rfl (Nat.le_of_ble_eq_true rfl) rfl rfl dX6_lossByBalance_24 (fun r w' hq9 => ?_)
  obtain ⟨hr9, hw9⟩ := hq9
  obtain rfl := hr9.symm
  obtain rfl := hw9.symm
  refine j_lsub G dX6_lossByBalance_27 ?_
  refine j_aload_n G dX6_lossByBalance_28 rfl 0 rfl ?_
  refine gfX6_31 (v := .ref (q 9)) G 0 rfl rfl dX6_lossByBalance_29 ?_
  refine gfX6_200 (v := .int (ui 1)) G 9 rfl rfl dX6_lossByBalance_32 ?_
  refine j_i2l G dX6_lossByBalance_35 ?_
  refine j_lsub G dX6_lossByBalance_36 ?_
  exact ret _ _ _ _ dX6_lossByBalance_37 ⟨rfl, rfl⟩
set_option maxHeartbeats 4000000 in
set_option maxRecDepth 100000 in
theorem cC_X6_isBalanced (l : Launch) (D : va_G) (cA : Nat → ClassId) (q : Nat → Nat) (un : Nat → Nat) (ui : Nat → Int32) (ul : Nat → Int64) (ua : Nat → Nat → Int32) (vc ex wo tp : Nat → Int32) (tf kf : Nat → Option Nat) (L : List Nat) (f : Nat → va_E) (ta : Nat → Nat) (ga : Nat → Nat) (ka : Nat → Nat) (hb30 : un 3 ≤ 30) (ht4 : un 2 ≤ 4) (hPL : PL cA un ua L f tf kf ta ga ka) : Ki l yX6_isBalanced cX6_isBalanced 3 .boolean 2 44 0 0 D cA [.ref (q 0)] (cF cA q un ui ul ua vc ex wo tp tf kf ++ va_pl L f) (fun r w' => r = bI (ul 3 = ul 0 - ul 2 - sumL (ua 12) (un 3) - sumL (tkF (ua 10) (un 2)) 4 - (ui 1).toInt64 ∧ ul 1 = ul 4 + sumL (ua 13) (un 3) + sumL (tkF (ua 11) (un 2)) 4 + (ui 2).toInt64) ∧ w' = (cF cA q un ui ul ua vc ex wo tp tf kf ++ va_pl L f)) := by
  refine ent_i (own := RX6) (lv0 := [(0, .ref (q 0))]) (by decide) rfl (Nat.le_of_ble_eq_true rfl) rfl ?_
  intro p e s m args below meth c A Q G hinit ret
  refine j_aload_n G dX6_isBalanced_0 rfl 0 rfl ?_
  refine gfX6_48 (v := .ref (q 14)) G 0 rfl rfl dX6_isBalanced_1 ?_
  refine gfX6_276 (v := .long (ul 4)) G 14 rfl rfl dX6_isBalanced_4 ?_
  refine j_aload_n G dX6_isBalanced_7 rfl 0 rfl ?_
  refine gfX6_41 (v := .ref (q 11)) G 0 rfl rfl dX6_isBalanced_8 ?_
  refine gfX6_279 (v := .long (sumL (ua 13) (un 3))) G 11 rfl rfl dX6_isBalanced_11 ?_
  refine j_ladd G dX6_isBalanced_14 ?_
  refine j_aload_n G dX6_isBalanced_15 rfl 0 rfl ?_
  refine jV_l G 6 0 (cC_X6_sugarInTanks l D cA q un ui ul ua vc ex wo tp tf kf L f ta ga ka ht4 hPL) gX6_281 hd_X6_sugarInTanks ⟨Nat.le_of_ble_eq_true rfl, Nat.le_of_ble_eq_true rfl⟩ ⟨Nat.le_of_ble_eq_true rfl, Nat.le_of_ble_eq_true rfl⟩ rfl rfl (Nat.le_of_ble_eq_true rfl) rfl rfl dX6_isBalanced_16 (fun r w' hq9 => ?_)
  obtain ⟨hr9, hw9⟩ := hq9
  obtain rfl := hr9.symm
  obtain rfl := hw9.symm
  refine j_ladd G dX6_isBalanced_19 ?_
  refine j_aload_n G dX6_isBalanced_20 rfl 0 rfl ?_
  refine gfX6_31 (v := .ref (q 9)) G 0 rfl rfl dX6_isBalanced_21 ?_
  refine gfX6_212 (v := .int (ui 2)) G 9 rfl rfl dX6_isBalanced_24 ?_
  refine j_i2l G dX6_isBalanced_27 ?_
  refine j_ladd G dX6_isBalanced_28 ?_
  refine j_lstore_n (lv' := [(1, .long ((((ul 4) + (sumL (ua 13) (un 3))) + (sumL (tkF (ua 11) (un 2)) 4)) + ((ui 2).toInt64))), (0, .ref (q 0))]) G dX6_isBalanced_29 rfl (by decide) rfl ?_
  refine j_aload_n G dX6_isBalanced_30 rfl 1 rfl ?_
  refine jV_l G 6 0 (cC_X6_loss l D cA q un ui ul ua vc ex wo tp tf kf L f ) gX6_284 hd_X6_loss ⟨Nat.le_of_ble_eq_true rfl, Nat.le_of_ble_eq_true rfl⟩ ⟨Nat.le_of_ble_eq_true rfl, Nat.le_of_ble_eq_true rfl⟩ rfl rfl (Nat.le_of_ble_eq_true rfl) rfl rfl dX6_isBalanced_31 (fun r w' hq9 => ?_)
  obtain ⟨hr9, hw9⟩ := hq9
  obtain rfl := hr9.symm
  obtain rfl := hw9.symm
  refine j_aload_n G dX6_isBalanced_34 rfl 1 rfl ?_
  refine jV_l G 6 0 (cC_X6_lossByBalance l D cA q un ui ul ua vc ex wo tp tf kf L f ta ga ka hb30 ht4 hPL) gX6_287 hd_X6_lossByBalance ⟨Nat.le_of_ble_eq_true rfl, Nat.le_of_ble_eq_true rfl⟩ ⟨Nat.le_of_ble_eq_true rfl, Nat.le_of_ble_eq_true rfl⟩ rfl rfl (Nat.le_of_ble_eq_true rfl) rfl rfl dX6_isBalanced_35 (fun r w' hq9 => ?_)
  obtain ⟨hr9, hw9⟩ := hq9
  obtain rfl := hr9.symm
  obtain rfl := hw9.symm
  refine j_lcmp G dX6_isBalanced_38 ?_
  refine j_if_ne (tgt := 58) G dX6_isBalanced_39 (by decide) (fun c39 => ?_) (fun c39 => ?_)
  · refine j_iconst (v := 0) G dX6_isBalanced_58 (by decide) ?_
    exact ret _ _ _ _ dX6_isBalanced_59 (by decide) ⟨(bI_f (fun h => c39 (lgz.mpr h.1))), rfl⟩
  · refine j_aload_n G dX6_isBalanced_42 rfl 1 rfl ?_
    refine gfX6_48 (v := .ref (q 14)) G 0 rfl rfl dX6_isBalanced_43 ?_
    refine gfX6_290 (v := .long (ul 1)) G 14 rfl rfl dX6_isBalanced_46 ?_
    refine j_lload_n G dX6_isBalanced_49 rfl 0 rfl ?_
    refine j_lcmp G dX6_isBalanced_50 ?_
    refine j_if_ne (tgt := 58) G dX6_isBalanced_51 (by decide) (fun c51 => ?_) (fun c51 => ?_)
    · refine j_iconst (v := 0) G dX6_isBalanced_58 (by decide) ?_
      exact ret _ _ _ _ dX6_isBalanced_59 (by decide) ⟨(bI_f (fun h => c51 (lgz.mpr h.2))), rfl⟩
    · refine j_iconst (v := 1) G dX6_isBalanced_54 (by decide) ?_
      refine j_goto (tgt := 59) G dX6_isBalanced_55 (by decide) ?_
      exact ret _ _ _ _ dX6_isBalanced_59 (by decide) ⟨(bI_t ⟨lgz.mp c39, lgz.mp c51⟩), rfl⟩
set_option maxHeartbeats 4000000 in
set_option maxRecDepth 100000 in
theorem cC_X6_tapByYield (l : Launch) (D : va_G) (cA : Nat → ClassId) (hfl : l.stackTraces = false) (q : Nat → Nat) (un : Nat → Nat) (ui : Nat → Int32) (ul : Nat → Int64) (ua : Nat → Nat → Int32) (vc ex wo tp : Nat → Int32) (tf kf : Nat → Option Nat) (L : List Nat) (f : Nat → va_E) (ta : Nat → Nat) (ga : Nat → Nat) (ka : Nat → Nat) (rk : Int32) (hn : un 0 ≤ 20) (hPL : PL cA un ua L f tf kf ta ga ka) : Xi l yX6_tapByYield cX6_tapByYield 4 .int 7 132 1 6 D cA [.ref (q 0), .int rk] (cF cA q un ui ul ua vc ex wo tp tf kf ++ va_pl L f) (fun r w' => (cfRank (ndP (rkT (ua 0) (fun j => totS (ua 8) j (un 1)) wo (un 0)) (un 0) rk) (un 0) = 0) ∧ r = nI (fnd (ndP (rkT (ua 0) (fun j => totS (ua 8) j (un 1)) wo (un 0)) (un 0) rk) (un 0)) ∧ w' = (cF cA q un ui ul ua vc ex (rkT (ua 0) (fun j => totS (ua 8) j (un 1)) wo (un 0)) tp tf kf ++ va_pl L f)) (fun u => ((cfRank (ndP (rkT (ua 0) (fun j => totS (ua 8) j (un 1)) wo (un 0)) (un 0) rk) (un 0) = 1) ∧ u = ("java/util/NoSuchElementException", cF cA q un ui ul ua vc ex (rkT (ua 0) (fun j => totS (ua 8) j (un 1)) wo (un 0)) tp tf kf ++ va_pl L f))) := by
  refine ent_Xi (own := RX6) (lv0 := [(0, .ref (q 0)), (1, .int rk)]) (by decide) rfl (Nat.le_of_ble_eq_true rfl) rfl ?_
  intro p e s m args below meth c A Q G hQ ht hlocks ret
  refine j_iconst (v := 0) G dX6_tapByYield_0 (by decide) ?_
  refine j_istore_n (lv' := [(2, .int 0), (0, .ref (q 0)), (1, .int rk)]) G dX6_tapByYield_1 rfl (by decide) rfl ?_
  have lp2 : ∀ (fu2 : Nat) (k : Nat), (k ≤ un 0) → (un 0 < k + fu2) → J p l e (RM 7 132 1 6) s m args below meth c 4 D A (cF cA q un ui ul ua vc ex (rkT (ua 0) (fun j => totS (ua 8) j (un 1)) wo k) tp tf kf ++ va_pl L f) 0 0 Q 2 [(0, .ref (q 0)), (1, .int rk), (2, .int (nI k))] [] := by
    intro fu2
    induction fu2 with
    | zero => intro k h1 h2; exact absurd h2 (by omega)
    | succ fu2 ih2 =>
      intro k h1 h2
      refine j_iload_n G dX6_tapByYield_2 rfl 2 rfl ?_
      refine j_aload_n G dX6_tapByYield_3 rfl 0 rfl ?_
      refine gfX6_10 (v := .ref (q 1)) G 0 rfl rfl dX6_tapByYield_4 ?_
      refine jV_i G 5 1 (cC_X5_size l D cA q un ui ul ua vc ex (rkT (ua 0) (fun j => totS (ua 8) j (un 1)) wo k) tp tf kf L f ) gX6_103 hd_X5_size ⟨Nat.le_of_ble_eq_true rfl, Nat.le_of_ble_eq_true rfl⟩ ⟨Nat.le_of_ble_eq_true rfl, Nat.le_of_ble_eq_true rfl⟩ rfl rfl (Nat.le_of_ble_eq_true rfl) rfl rfl dX6_tapByYield_7 (fun r w' hq9 => ?_)
      obtain ⟨hr9, hw9⟩ := hq9
      obtain rfl := hr9.symm
      obtain rfl := hw9.symm
      refine j_icmp_ge (tgt := 44) G dX6_tapByYield_10 (by decide) (fun c10 => ?_) (fun c10 => ?_)
      · have g10 : k = un 0 := Nat.le_antisymm h1 ((nI_leI (by omega) (by omega)).mp c10)
        subst g10
        refine j_aload_n G dX6_tapByYield_44 rfl 0 rfl ?_
        refine j_iload_n G dX6_tapByYield_45 rfl 1 rfl ?_
        refine jXV_i G 6 0 (cC_X6_requireRanked l D cA hfl q un ui ul ua vc ex (rkT (ua 0) (fun j => totS (ua 8) j (un 1)) wo (un 0)) tp tf kf L f rk hn) gX6_123 hd_X6_requireRanked ⟨Nat.le_of_ble_eq_true rfl, Nat.le_of_ble_eq_true rfl⟩ ⟨Nat.le_of_ble_eq_true rfl, Nat.le_of_ble_eq_true rfl⟩ rfl rfl (Nat.le_of_ble_eq_true rfl) rfl rfl dX6_tapByYield_46 (fun E9 w9 hq9 => ?_) (fun r w' hq9 => ?_)
        · rcases hq9 with ⟨h9, hu9⟩
          cases hu9
          exact j_out (post := fun _ => True) G hQ ht hlocks ⟨h9, rfl⟩ (Nat.le_of_ble_eq_true rfl) (Nat.le_of_ble_eq_true rfl)
        obtain ⟨k46, hr9, hw9⟩ := hq9
        obtain rfl := hr9.symm
        obtain rfl := hw9.symm
        refine j_cs (k' := 1) (n' := 6) (Nat.le_of_ble_eq_true rfl) (Nat.le_of_ble_eq_true rfl) ?_
        exact ret _ _ _ _ dX6_tapByYield_49 rfl ⟨k46, rfl, rfl⟩
      · have g10 : k < un 0 := (Nat.lt_or_ge k (un 0)).resolve_right (fun h => absurd ((nI_leI (by omega) (by omega)).mpr h) c10)
        refine j_aload_n G dX6_tapByYield_13 rfl 0 rfl ?_
        refine gfX6_18 (v := .ref (q 7)) G 0 rfl rfl dX6_tapByYield_14 ?_
        refine j_iload_n G dX6_tapByYield_17 rfl 2 rfl ?_
        refine j_aldR G 7 2 rfl rfl (vp_in_nI (show k < 20 by omega) (by decide)) dX6_tapByYield_18 (fun r18 => ?_) (fun b18 r18 => ?_)
        · rw [nI_clamp (by omega)] at r18
          have u18 := PL_tn hPL (show k < 20 by omega) r18
          refine j_astore_nN (lv' := [(3, .null), (0, .ref (q 0)), (1, .int rk), (2, .int (nI k))]) G dX6_tapByYield_19 rfl (by decide) rfl ?_
          refine j_aload_n G dX6_tapByYield_20 rfl 1 rfl ?_
          refine gfX6_52 (v := .ref (q 15)) G 0 rfl rfl dX6_tapByYield_21 ?_
          refine j_iload_n G dX6_tapByYield_24 rfl 3 rfl ?_
          refine j_aload_nN G dX6_tapByYield_25 rfl 0 rfl ?_
          refine j_ifnonnull_n G dX6_tapByYield_26 ?_
          refine j_iconst (v := (-1)) G dX6_tapByYield_29 (by decide) ?_
          refine j_goto (tgt := 37) G dX6_tapByYield_30 (by decide) ?_
          refine j_rwi (show ((-1) : Int32) = (if ua 0 k = 2 then totS (ua 8) k (un 1) else -1) from (if_neg u18).symm) ?_
          refine j_iast (j := k) (w' := cF cA q un ui ul ua vc ex (upd (rkT (ua 0) (fun j => totS (ua 8) j (un 1)) wo k) k (if ua 0 k = 2 then totS (ua 8) k (un 1) else -1)) tp tf kf ++ va_pl L f) G 15 rfl rfl (by omega) (Nat.le_of_ble_eq_true rfl) dX6_tapByYield_37 rfl ?_
          refine j_w (w' := cF cA q un ui ul ua vc ex (rkT (ua 0) (fun j => totS (ua 8) j (un 1)) wo (k + 1)) tp tf kf ++ va_pl L f) rfl ?_
          refine j_iinc (v := (nI (k + 1))) (lv' := [(2, .int (nI (k + 1))), (3, .null), (0, .ref (q 0)), (1, .int rk)]) G dX6_tapByYield_38 3 rfl (nI_1 k) (by decide) rfl ?_
          refine j_goto (tgt := 2) G dX6_tapByYield_41 (by decide) ?_
          refine j_sub (lv' := [(0, .ref (q 0)), (1, .int rk), (2, .int (nI (k + 1)))]) [2, 3, 0] rfl ?_
          exact ih2 (k + 1) (by omega) (by omega)
        · rw [nI_clamp (by omega)] at r18
          obtain ⟨u18, e18⟩ := PL_tf hPL (show k < 20 by omega) r18
          subst e18
          refine j_astore_n (lv' := [(3, .ref (ta k)), (0, .ref (q 0)), (1, .int rk), (2, .int (nI k))]) G dX6_tapByYield_19 rfl (by decide) rfl ?_
          refine j_aload_n G dX6_tapByYield_20 rfl 1 rfl ?_
          refine gfX6_52 (v := .ref (q 15)) G 0 rfl rfl dX6_tapByYield_21 ?_
          refine j_iload_n G dX6_tapByYield_24 rfl 3 rfl ?_
          refine j_aload_n G dX6_tapByYield_25 rfl 0 rfl ?_
          refine j_ifnonnull_r (tgt := 33) G dX6_tapByYield_26 (by decide) ?_
          refine j_aload_n G dX6_tapByYield_33 rfl 0 rfl ?_
          obtain ⟨ix1, hix1⟩ := PL_ta (cF cA q un ui ul ua vc ex (rkT (ua 0) (fun j => totS (ua 8) j (un 1)) wo k) tp tf kf) hPL (j := k) (by omega) u18
          refine gfX6_164 (v := .int (totS (ua 8) k (un 1))) G ix1 hix1 rfl dX6_tapByYield_34 ?_
          refine j_rwi (show (totS (ua 8) k (un 1) : Int32) = (if ua 0 k = 2 then totS (ua 8) k (un 1) else -1) from (if_pos u18).symm) ?_
          refine j_iast (j := k) (w' := cF cA q un ui ul ua vc ex (upd (rkT (ua 0) (fun j => totS (ua 8) j (un 1)) wo k) k (if ua 0 k = 2 then totS (ua 8) k (un 1) else -1)) tp tf kf ++ va_pl L f) G 15 rfl rfl (by omega) (Nat.le_of_ble_eq_true rfl) dX6_tapByYield_37 rfl ?_
          refine j_w (w' := cF cA q un ui ul ua vc ex (rkT (ua 0) (fun j => totS (ua 8) j (un 1)) wo (k + 1)) tp tf kf ++ va_pl L f) rfl ?_
          refine j_iinc (v := (nI (k + 1))) (lv' := [(2, .int (nI (k + 1))), (3, .ref (ta k)), (0, .ref (q 0)), (1, .int rk)]) G dX6_tapByYield_38 3 rfl (nI_1 k) (by decide) rfl ?_
          refine j_goto (tgt := 2) G dX6_tapByYield_41 (by decide) ?_
          refine j_sub (lv' := [(0, .ref (q 0)), (1, .int rk), (2, .int (nI (k + 1)))]) [2, 3, 0] rfl ?_
          exact ih2 (k + 1) (by omega) (by omega)
  refine j_sub (lv' := [(0, .ref (q 0)), (1, .int rk), (2, .int 0)]) [1, 2, 0] rfl ?_
  exact lp2 (un 0 + 1) 0 (Nat.zero_le _) (by omega)
set_option maxHeartbeats 4000000 in
set_option maxRecDepth 100000 in
theorem cC_X6_hoursByBoiling (l : Launch) (D : va_G) (cA : Nat → ClassId) (hfl : l.stackTraces = false) (q : Nat → Nat) (un : Nat → Nat) (ui : Nat → Int32) (ul : Nat → Int64) (ua : Nat → Nat → Int32) (vc ex wo tp : Nat → Int32) (tf kf : Nat → Option Nat) (L : List Nat) (f : Nat → va_E) : Xi l yX6_hoursByBoiling cX6_hoursByBoiling 2 .int 7 130 1 6 D cA [.ref (q 0)] (cF cA q un ui ul ua vc ex wo tp tf kf ++ va_pl L f) (fun r w' => (cfLong (ui 1) (ui 2) (ui 3) = 0) ∧ r = nI (fnd (fun j => dnP (bvI (ui 1) (ui 2) (ui 3) j) (ui 2)) 500) ∧ w' = (cF cA q un ui ul ua vc ex wo (up (up (up tp 0 (bvI (ui 1) (ui 2) (ui 3) (fnd (fun j => dnP (bvI (ui 1) (ui 2) (ui 3) j) (ui 2)) 500))) 1 (ui 2)) 2 (bbI (ui 1) (ui 2) (ui 4) (ui 3) (fnd (fun j => dnP (bvI (ui 1) (ui 2) (ui 3) j) (ui 2)) 500))) tf kf ++ va_pl L f)) (fun u => ((cfLong (ui 1) (ui 2) (ui 3) = 1) ∧ u = ("java/util/NoSuchElementException", cF cA q un ui ul ua vc ex wo tp tf kf ++ va_pl L f))) := by
  refine ent_Xi (own := RX6) (lv0 := [(0, .ref (q 0))]) (by decide) rfl (Nat.le_of_ble_eq_true rfl) rfl ?_
  intro p e s m args below meth c A Q G hQ ht hlocks ret
  refine j_aload_n G dX6_hoursByBoiling_0 rfl 0 rfl ?_
  refine jXV_v G 6 0 (cC_X6_requireEndOfBoiling l D cA hfl q un ui ul ua vc ex wo tp tf kf L f ) gX6_217 hd_X6_requireEndOfBoiling ⟨Nat.le_of_ble_eq_true rfl, Nat.le_of_ble_eq_true rfl⟩ ⟨Nat.le_of_ble_eq_true rfl, Nat.le_of_ble_eq_true rfl⟩ rfl rfl (Nat.le_of_ble_eq_true rfl) rfl rfl dX6_hoursByBoiling_1 (fun E9 w9 hq9 => ?_) (fun w' hq9 => ?_)
  · rcases hq9 with ⟨h9, hu9⟩
    cases hu9
    exact j_out (post := fun _ => True) G hQ ht hlocks ⟨h9, rfl⟩ (Nat.le_of_ble_eq_true rfl) (Nat.le_of_ble_eq_true rfl)
  obtain ⟨k1, hw9⟩ := hq9
  obtain rfl := hw9.symm
  refine j_aload_n G dX6_hoursByBoiling_4 rfl 0 rfl ?_
  refine gfX6_35 (v := .ref (q 10)) G 0 rfl rfl dX6_hoursByBoiling_5 ?_
  refine j_aload_n G dX6_hoursByBoiling_8 rfl 0 rfl ?_
  refine gfX6_31 (v := .ref (q 9)) G 0 rfl rfl dX6_hoursByBoiling_9 ?_
  refine jV_v G 1 10 (cC_X1_copy l D cA (cF cA q un ui ul ua vc ex wo tp tf kf ++ va_pl L f) 10 (q 10) (tp 0) (tp 1) (tp 2) rfl 9 (ui 1) (ui 2) (ui 4) (q 9) rfl (by decide) ) gX6_223 hd_X1_copy ⟨Nat.le_of_ble_eq_true rfl, Nat.le_of_ble_eq_true rfl⟩ ⟨Nat.le_of_ble_eq_true rfl, Nat.le_of_ble_eq_true rfl⟩ rfl rfl (Nat.le_of_ble_eq_true rfl) rfl rfl dX6_hoursByBoiling_12 (fun w' hq9 => ?_)
  obtain rfl := hq9.symm
  refine j_w (w' := cF cA q un ui ul ua vc ex wo (up (up (up tp 0 (ui 1)) 1 (ui 2)) 2 (ui 4)) tf kf ++ va_pl L f) rfl ?_
  refine j_w (w' := cF cA q un ui ul ua vc ex wo (up (up (up tp 0 (bvI (ui 1) (ui 2) (ui 3) 0)) 1 (ui 2)) 2 (bbI (ui 1) (ui 2) (ui 4) (ui 3) 0)) tf kf ++ va_pl L f) rfl ?_
  refine j_iconst (v := 0) G dX6_hoursByBoiling_15 (by decide) ?_
  refine j_istore_n (lv' := [(1, .int 0), (0, .ref (q 0))]) G dX6_hoursByBoiling_16 rfl (by decide) rfl ?_
  have lp17 : ∀ (fu17 : Nat) (k : Nat), (k ≤ 500) → (500 < k + fu17) → (∀ j, j < k → ¬ (fun j => dnP (bvI (ui 1) (ui 2) (ui 3) j) (ui 2)) j) → J p l e (RM 7 130 1 6) s m args below meth c 2 D A (cF cA q un ui ul ua vc ex wo (up (up (up tp 0 (bvI (ui 1) (ui 2) (ui 3) k)) 1 (ui 2)) 2 (bbI (ui 1) (ui 2) (ui 4) (ui 3) k)) tf kf ++ va_pl L f) 1 6 Q 17 [(0, .ref (q 0)), (1, .int (nI k))] [] := by
    intro fu17
    induction fu17 with
    | zero => intro k h1 h2 h3; exact absurd h2 (by omega)
    | succ fu17 ih17 =>
      intro k h1 h2 h3
      refine j_iload_n G dX6_hoursByBoiling_17 rfl 1 rfl ?_
      refine j_sipush (v := 500) G dX6_hoursByBoiling_18 (by decide) ?_
      refine j_icmp_ge (tgt := 52) G dX6_hoursByBoiling_21 (by decide) (fun c21 => ?_) (fun c21 => ?_)
      · have gK : fnd (fun j => dnP (bvI (ui 1) (ui 2) (ui 3) j) (ui 2)) 500 = k := by have e8 : k = 500 := Nat.le_antisymm h1 ((nI_leI (by omega) (by omega)).mp (show nI 500 ≤ nI k from c21)); rw [fnd_no (P := (fun j => dnP (bvI (ui 1) (ui 2) (ui 3) j) (ui 2))) (fun j hj => h3 j (by omega)), e8]
        refine j_iload_n G dX6_hoursByBoiling_52 rfl 1 rfl ?_
        refine j_cs (k' := 1) (n' := 6) (Nat.le_of_ble_eq_true rfl) (Nat.le_of_ble_eq_true rfl) ?_
        exact ret _ _ _ _ dX6_hoursByBoiling_53 rfl ⟨k1, (by rw [gK]), (by rw [gK])⟩
      · have g21 : k < 500 := (Nat.lt_or_ge k 500).resolve_right (fun h => absurd (show nI 500 ≤ nI k from (nI_leI (by omega) (by omega)).mpr h) c21)
        refine j_aload_n G dX6_hoursByBoiling_24 rfl 0 rfl ?_
        refine gfX6_35 (v := .ref (q 10)) G 0 rfl rfl dX6_hoursByBoiling_25 ?_
        refine jV_i G 1 10 (cC_X1_isSyrup l D cA (cF cA q un ui ul ua vc ex wo (up (up (up tp 0 (bvI (ui 1) (ui 2) (ui 3) k)) 1 (ui 2)) 2 (bbI (ui 1) (ui 2) (ui 4) (ui 3) k)) tf kf ++ va_pl L f) 10 (q 10) (bvI (ui 1) (ui 2) (ui 3) k) (ui 2) (bbI (ui 1) (ui 2) (ui 4) (ui 3) k) rfl ) gX6_213 hd_X1_isSyrup ⟨Nat.le_of_ble_eq_true rfl, Nat.le_of_ble_eq_true rfl⟩ ⟨Nat.le_of_ble_eq_true rfl, Nat.le_of_ble_eq_true rfl⟩ rfl rfl (Nat.le_of_ble_eq_true rfl) rfl rfl dX6_hoursByBoiling_28 (fun r w' hq9 => ?_)
        obtain ⟨hr9, hw9⟩ := hq9
        obtain rfl := hr9.symm
        obtain rfl := hw9.symm
        refine j_ifb_ne (tgt := 52) G dX6_hoursByBoiling_31 (by decide) (fun c31 => ?_) (fun c31 => ?_)
        · have gK : fnd (fun j => dnP (bvI (ui 1) (ui 2) (ui 3) j) (ui 2)) 500 = k := fnd_at (P := (fun j => dnP (bvI (ui 1) (ui 2) (ui 3) j) (ui 2))) h3 g21 c31
          refine j_iload_n G dX6_hoursByBoiling_52 rfl 1 rfl ?_
          refine j_cs (k' := 1) (n' := 6) (Nat.le_of_ble_eq_true rfl) (Nat.le_of_ble_eq_true rfl) ?_
          exact ret _ _ _ _ dX6_hoursByBoiling_53 rfl ⟨k1, (by rw [gK]), (by rw [gK])⟩
        · refine j_aload_n G dX6_hoursByBoiling_34 rfl 0 rfl ?_
          refine gfX6_35 (v := .ref (q 10)) G 0 rfl rfl dX6_hoursByBoiling_35 ?_
          refine j_aload_n G dX6_hoursByBoiling_38 rfl 0 rfl ?_
          refine gfX6_143 (v := .int (ui 3)) G 0 rfl rfl dX6_hoursByBoiling_39 ?_
          refine jV_i G 1 10 (cC_X1_boil l D cA (cF cA q un ui ul ua vc ex wo (up (up (up tp 0 (bvI (ui 1) (ui 2) (ui 3) k)) 1 (ui 2)) 2 (bbI (ui 1) (ui 2) (ui 4) (ui 3) k)) tf kf ++ va_pl L f) 10 (q 10) (bvI (ui 1) (ui 2) (ui 3) k) (ui 2) (bbI (ui 1) (ui 2) (ui 4) (ui 3) k) rfl (ui 3)) gX6_146 hd_X1_boil ⟨Nat.le_of_ble_eq_true rfl, Nat.le_of_ble_eq_true rfl⟩ ⟨Nat.le_of_ble_eq_true rfl, Nat.le_of_ble_eq_true rfl⟩ rfl rfl (Nat.le_of_ble_eq_true rfl) rfl rfl dX6_hoursByBoiling_42 (fun r w' hq9 => ?_)
          obtain ⟨hr9, hw9⟩ := hq9
          obtain rfl := hr9.symm
          obtain rfl := hw9.symm
          refine j_w (w' := cF cA q un ui ul ua vc ex wo (up (up (up tp 0 (bvV (bvI (ui 1) (ui 2) (ui 3) k) (ui 2) (ui 3))) 1 (ui 2)) 2 (bbV (bvI (ui 1) (ui 2) (ui 3) k) (ui 2) (bbI (ui 1) (ui 2) (ui 4) (ui 3) k) (ui 3))) tf kf ++ va_pl L f) rfl ?_
          refine j_w (w' := cF cA q un ui ul ua vc ex wo (up (up (up tp 0 (bvI (ui 1) (ui 2) (ui 3) (k + 1))) 1 (ui 2)) 2 (bbI (ui 1) (ui 2) (ui 4) (ui 3) (k + 1))) tf kf ++ va_pl L f) rfl ?_
          refine j_pop G dX6_hoursByBoiling_45 rfl ?_
          refine j_iinc (v := (nI (k + 1))) (lv' := [(1, .int (nI (k + 1))), (0, .ref (q 0))]) G dX6_hoursByBoiling_46 1 rfl (nI_1 k) (by decide) rfl ?_
          refine j_goto (tgt := 17) G dX6_hoursByBoiling_49 (by decide) ?_
          refine j_sub (lv' := [(0, .ref (q 0)), (1, .int (nI (k + 1)))]) [1, 0] rfl ?_
          exact ih17 (k + 1) (by omega) (by omega) (lt_s h3 c31)
  refine j_cs (k' := 1) (n' := 6) (Nat.le_of_ble_eq_true rfl) (Nat.le_of_ble_eq_true rfl) ?_
  refine j_sub (lv' := [(0, .ref (q 0)), (1, .int 0)]) [1, 0] rfl ?_
  exact lp17 (501) 0 (Nat.zero_le _) (by omega) (fun j hj => absurd hj (Nat.not_lt_zero j))
set_option maxHeartbeats 4000000 in
set_option maxRecDepth 100000 in
theorem cC_X2_keep (l : Launch) (D : va_G) (cA : Nat → ClassId) (q : Nat → Nat) (un : Nat → Nat) (ui : Nat → Int32) (ul : Nat → Int64) (ua : Nat → Nat → Int32) (vc ex wo tp : Nat → Int32) (tf kf : Nat → Option Nat) (L : List Nat) (f : Nat → va_E) (mv : Int32) (ms9 : Int32) (g9 : Int32) (hn30 : un 3 < 30) (hg : vp_nar .char g9 = g9) : Ki l yX2_keep cX2_keep 5 .int 0 0 0 0 D cA [.ref (q 11), .int mv, .int ms9, .int g9] (cF cA q un ui ul ua vc ex wo tp tf kf ++ va_pl L f) (fun r w' => r = nI (un 3) ∧ w' = (cF cA q (up un 3 (un 3 + 1)) ui ul (up (up (up ua 12 (upd (ua 12) (un 3) mv)) 13 (upd (ua 13) (un 3) ms9)) 14 (upd (ua 14) (un 3) g9)) vc ex wo tp tf kf ++ va_pl L f)) := by
  refine ent_i (own := RX2) (lv0 := [(0, .ref (q 11)), (1, .int mv), (2, .int ms9), (3, .int g9)]) (by decide) rfl (Nat.le_of_ble_eq_true rfl) rfl ?_
  intro p e s m args below meth c A Q G hinit ret
  refine j_aload_n G dX2_keep_0 rfl 0 rfl ?_
  refine gfX2_19 (v := .int (nI (un 3))) G 11 rfl rfl dX2_keep_1 ?_
  refine j_istore (lv' := [(4, .int (nI (un 3))), (0, .ref (q 11)), (1, .int mv), (2, .int ms9), (3, .int g9)]) G dX2_keep_4 (by decide) rfl ?_
  refine j_aload_n G dX2_keep_6 rfl 1 rfl ?_
  refine gfX2_9 (v := .ref (q 12)) G 11 rfl rfl dX2_keep_7 ?_
  refine j_iload G dX2_keep_10 0 rfl ?_
  refine j_iload_n G dX2_keep_12 rfl 2 rfl ?_
  refine j_iast (j := (un 3)) (w' := cF cA q un ui ul (up ua 12 (upd (ua 12) (un 3) mv)) vc ex wo tp tf kf ++ va_pl L f) G 12 rfl rfl (by omega) (Nat.le_of_ble_eq_true rfl) dX2_keep_13 rfl ?_
  refine j_aload_n G dX2_keep_14 rfl 1 rfl ?_
  refine gfX2_15 (v := .ref (q 13)) G 11 rfl rfl dX2_keep_15 ?_
  refine j_iload G dX2_keep_18 0 rfl ?_
  refine j_iload_n G dX2_keep_20 rfl 4 rfl ?_
  refine j_cast (j := (un 3)) (w' := cF cA q un ui ul (up (up ua 12 (upd (ua 12) (un 3) mv)) 14 (upd (ua 14) (un 3) g9)) vc ex wo tp tf kf ++ va_pl L f) G 13 rfl rfl (by omega) (Nat.le_of_ble_eq_true rfl) hg dX2_keep_21 rfl ?_
  refine j_aload_n G dX2_keep_22 rfl 1 rfl ?_
  refine j_dup G dX2_keep_23 rfl ?_
  refine gfX2_23 (v := .long (sumL (ua 13) (un 3))) G 11 rfl rfl dX2_keep_24 ?_
  refine j_iload_n G dX2_keep_27 rfl 3 rfl ?_
  refine j_i2l G dX2_keep_28 ?_
  refine j_ladd G dX2_keep_29 ?_
  refine j_topl (fun x1 ex1 => ?_)
  refine pfX2_23 (w' := (cF cA q un ui ul (up (up ua 12 (upd (ua 12) (un 3) mv)) 14 (upd (ua 14) (un 3) g9)) vc ex wo tp tf kf ++ va_pl L f).set 11 (q 11, .inr (2, [.ref (q 12), .ref (q 13), .int (nI (un 3)), .long (x1)]))) G 11 rfl rfl (Nat.le_of_ble_eq_true rfl) dX2_keep_30 rfl rfl ?_
  refine j_aload_n G dX2_keep_33 rfl 1 rfl ?_
  refine j_iload G dX2_keep_34 0 rfl ?_
  refine j_iconst (v := 1) G dX2_keep_36 (by decide) ?_
  refine j_iadd G dX2_keep_37 ?_
  refine j_rwi (nI_add (un 3) 1) ?_
  refine pfX2_19 (w' := (cF cA q un ui ul (up (up ua 12 (upd (ua 12) (un 3) mv)) 14 (upd (ua 14) (un 3) g9)) vc ex wo tp tf kf ++ va_pl L f).set 11 (q 11, .inr (2, [.ref (q 12), .ref (q 13), .int (nI (un 3 + 1)), .long (x1)]))) G 11 (set_at rfl) rfl (Nat.le_of_ble_eq_true rfl) dX2_keep_38 set2 rfl ?_
  refine j_iload G dX2_keep_41 0 rfl ?_
  subst ex1
  exact ret _ _ _ _ dX2_keep_43 rfl ⟨rfl, (congrArg (fun z9 => (cF cA q un ui ul (up (up ua 12 (upd (ua 12) (un 3) mv)) 14 (upd (ua 14) (un 3) g9)) vc ex wo tp tf kf ++ va_pl L f).set 11 (q 11, .inr (2, [.ref (q 12), .ref (q 13), .int (nI (un 3 + 1)), .long z9]))) (sumL_upd (ua 13) (un 3) ms9))⟩
set_option maxHeartbeats 4000000 in
set_option maxRecDepth 100000 in
theorem cC_X6_draw (l : Launch) (D : va_G) (cA : Nat → ClassId) (hfl : l.stackTraces = false) (q : Nat → Nat) (un : Nat → Nat) (ui : Nat → Int32) (ul : Nat → Int64) (ua : Nat → Nat → Int32) (vc ex wo tp : Nat → Int32) (tf kf : Nat → Option Nat) (L : List Nat) (f : Nat → va_E) (hb30 : un 3 ≤ 30) : Xi l yX6_draw cX6_draw 2 .int 6 110 1 6 D cA [.ref (q 0)] (cF cA q un ui ul ua vc ex wo tp tf kf ++ va_pl L f) (fun r w' => (cfDraw (ui 1) (ui 2) (un 3) = 0) ∧ r = nI (un 3) ∧ w' = (cF cA q (up un 3 (un 3 + 1)) (up (up (up ui 1 0) 2 0) 4 0) ul (up (up (up ua 12 (upd (ua 12) (un 3) (ui 1))) 13 (upd (ua 13) (un 3) (ui 2))) 14 (upd (ua 14) (un 3) (gradeV (ui 4)))) vc ex wo tp tf kf ++ va_pl L f)) (fun u => ((cfDraw (ui 1) (ui 2) (un 3) = 1) ∧ u = ("java/lang/UnsupportedOperationException", cF cA q un ui ul ua vc ex wo tp tf kf ++ va_pl L f)) ∨ ((cfDraw (ui 1) (ui 2) (un 3) = 2) ∧ u = ("java/lang/IllegalStateException", cF cA q un ui ul ua vc ex wo tp tf kf ++ va_pl L f))) := by
  refine ent_Xi (own := RX6) (lv0 := [(0, .ref (q 0))]) (by decide) rfl (Nat.le_of_ble_eq_true rfl) rfl ?_
  intro p e s m args below meth c A Q G hQ ht hlocks ret
  refine j_aload_n G dX6_draw_0 rfl 0 rfl ?_
  refine gfX6_31 (v := .ref (q 9)) G 0 rfl rfl dX6_draw_1 ?_
  refine jV_i G 1 9 (cC_X1_isSyrup l D cA (cF cA q un ui ul ua vc ex wo tp tf kf ++ va_pl L f) 9 (q 9) (ui 1) (ui 2) (ui 4) rfl ) gX6_213 hd_X1_isSyrup ⟨Nat.le_of_ble_eq_true rfl, Nat.le_of_ble_eq_true rfl⟩ ⟨Nat.le_of_ble_eq_true rfl, Nat.le_of_ble_eq_true rfl⟩ rfl rfl (Nat.le_of_ble_eq_true rfl) rfl rfl dX6_draw_4 (fun r w' hq9 => ?_)
  obtain ⟨hr9, hw9⟩ := hq9
  obtain rfl := hr9.symm
  obtain rfl := hw9.symm
  refine j_ifb_ne (tgt := 20) G dX6_draw_7 (by decide) (fun c7 => ?_) (fun c7 => ?_)
  · refine j_aload_n G dX6_draw_20 rfl 0 rfl ?_
    refine gfX6_41 (v := .ref (q 11)) G 0 rfl rfl dX6_draw_21 ?_
    refine jV_i G 2 11 (cC_X2_isFull l D cA q un ui ul ua vc ex wo tp tf kf L f ) gX6_229 hd_X2_isFull ⟨Nat.le_of_ble_eq_true rfl, Nat.le_of_ble_eq_true rfl⟩ ⟨Nat.le_of_ble_eq_true rfl, Nat.le_of_ble_eq_true rfl⟩ rfl rfl (Nat.le_of_ble_eq_true rfl) rfl rfl dX6_draw_24 (fun r w' hq9 => ?_)
    obtain ⟨hr9, hw9⟩ := hq9
    obtain rfl := hr9.symm
    obtain rfl := hw9.symm
    refine j_ifb_eq (tgt := 40) G dX6_draw_27 (by decide) (fun c27 => ?_) (fun c27 => ?_)
    · refine j_aload_n G dX6_draw_40 rfl 0 rfl ?_
      refine gfX6_41 (v := .ref (q 11)) G 0 rfl rfl dX6_draw_41 ?_
      refine j_aload_n G dX6_draw_44 rfl 0 rfl ?_
      refine gfX6_31 (v := .ref (q 9)) G 0 rfl rfl dX6_draw_45 ?_
      refine gfX6_200 (v := .int (ui 1)) G 9 rfl rfl dX6_draw_48 ?_
      refine j_aload_n G dX6_draw_51 rfl 0 rfl ?_
      refine gfX6_31 (v := .ref (q 9)) G 0 rfl rfl dX6_draw_52 ?_
      refine gfX6_212 (v := .int (ui 2)) G 9 rfl rfl dX6_draw_55 ?_
      refine j_aload_n G dX6_draw_58 rfl 0 rfl ?_
      refine gfX6_31 (v := .ref (q 9)) G 0 rfl rfl dX6_draw_59 ?_
      refine gfX6_234 (v := .int (ui 4)) G 9 rfl rfl dX6_draw_62 ?_
      refine jS_i G (cC_X6_gradeAfter l D cA (cF cA q un ui ul ua vc ex wo tp tf kf ++ va_pl L f) (ui 4)) gX6_237 hd_X6_gradeAfter.2 ⟨Nat.le_of_ble_eq_true rfl, Nat.le_of_ble_eq_true rfl⟩ ⟨Nat.le_of_ble_eq_true rfl, Nat.le_of_ble_eq_true rfl⟩ rfl rfl (Nat.le_of_ble_eq_true rfl) dX6_draw_65 (fun r w' hq9 => ?_)
      obtain ⟨hr9, hw9⟩ := hq9
      obtain rfl := hr9.symm
      obtain rfl := hw9.symm
      refine jV_i G 2 11 (cC_X2_keep l D cA q un ui ul ua vc ex wo tp tf kf L f (ui 1) (ui 2) (gradeV (ui 4)) (room30 hb30 (Decidable.not_not.mp c27)) (gradeV_c _)) gX6_241 hd_X2_keep ⟨Nat.le_of_ble_eq_true rfl, Nat.le_of_ble_eq_true rfl⟩ ⟨Nat.le_of_ble_eq_true rfl, Nat.le_of_ble_eq_true rfl⟩ rfl rfl (Nat.le_of_ble_eq_true rfl) rfl rfl dX6_draw_68 (fun r w' hq9 => ?_)
      obtain ⟨hr9, hw9⟩ := hq9
      obtain rfl := hr9.symm
      obtain rfl := hw9.symm
      refine j_w (w' := cF cA q (up un 3 (un 3 + 1)) ui ul (up (up (up ua 12 (upd (ua 12) (un 3) (ui 1))) 13 (upd (ua 13) (un 3) (ui 2))) 14 (upd (ua 14) (un 3) (gradeV (ui 4)))) vc ex wo tp tf kf ++ va_pl L f) rfl ?_
      refine j_istore_n (lv' := [(1, .int (nI (un 3))), (0, .ref (q 0))]) G dX6_draw_71 rfl (by decide) rfl ?_
      refine j_aload_n G dX6_draw_72 rfl 1 rfl ?_
      refine gfX6_31 (v := .ref (q 9)) G 0 rfl rfl dX6_draw_73 ?_
      refine jV_v G 1 9 (cC_X1_clear l D cA (cF cA q (up un 3 (un 3 + 1)) ui ul (up (up (up ua 12 (upd (ua 12) (un 3) (ui 1))) 13 (upd (ua 13) (un 3) (ui 2))) 14 (upd (ua 14) (un 3) (gradeV (ui 4)))) vc ex wo tp tf kf ++ va_pl L f) 9 (q 9) (ui 1) (ui 2) (ui 4) rfl ) gX6_245 hd_X1_clear ⟨Nat.le_of_ble_eq_true rfl, Nat.le_of_ble_eq_true rfl⟩ ⟨Nat.le_of_ble_eq_true rfl, Nat.le_of_ble_eq_true rfl⟩ rfl rfl (Nat.le_of_ble_eq_true rfl) rfl rfl dX6_draw_76 (fun w' hq9 => ?_)
      obtain rfl := hq9.symm
      refine j_w (w' := cF cA q (up un 3 (un 3 + 1)) (up (up (up ui 1 0) 2 0) 4 0) ul (up (up (up ua 12 (upd (ua 12) (un 3) (ui 1))) 13 (upd (ua 13) (un 3) (ui 2))) 14 (upd (ua 14) (un 3) (gradeV (ui 4)))) vc ex wo tp tf kf ++ va_pl L f) rfl ?_
      refine j_iload_n G dX6_draw_79 rfl 0 rfl ?_
      refine j_cs (k' := 1) (n' := 6) (Nat.le_of_ble_eq_true rfl) (Nat.le_of_ble_eq_true rfl) ?_
      exact ret _ _ _ _ dX6_draw_80 rfl ⟨(by rw [cfDraw, if_neg (fun h8 => h8 c7), if_neg (fun h8 => (full30 hb30).mpr h8 (Decidable.not_not.mp c27))]), rfl, rfl⟩
    · exact j_thr G hfl hQ ht hlocks (names := ["java/lang/RuntimeException", "java/lang/Exception"]) ft_ISE ft_names wd_450 wd_54 rfl st_232 at_ISE og_ISE dX6_draw_30 dX6_draw_33 dX6_draw_34 dX6_draw_36 dX6_draw_39 ⟨Nat.le_of_ble_eq_true rfl, Nat.le_of_ble_eq_true rfl, Nat.le_of_ble_eq_true rfl, Nat.le_of_ble_eq_true rfl⟩ (Or.inr (⟨(by rw [cfDraw, if_neg (fun h8 => h8 c7), if_pos ((full30 hb30).mp c27)]), rfl⟩)) (Nat.le_of_ble_eq_true rfl) (Nat.le_of_ble_eq_true rfl)
  · exact j_thr G hfl hQ ht hlocks (names := ["java/lang/RuntimeException", "java/lang/Exception"]) ft_UOE ft_names wd_430 wd_53 rfl st_227 at_UOE og_UOE dX6_draw_10 dX6_draw_13 dX6_draw_14 dX6_draw_16 dX6_draw_19 ⟨Nat.le_of_ble_eq_true rfl, Nat.le_of_ble_eq_true rfl, Nat.le_of_ble_eq_true rfl, Nat.le_of_ble_eq_true rfl⟩ (Or.inl ⟨(by rw [cfDraw, if_pos c7]), rfl⟩) (Nat.le_of_ble_eq_true rfl) (Nat.le_of_ble_eq_true rfl)
set_option maxHeartbeats 4000000 in
set_option maxRecDepth 100000 in
theorem cC_X6_drain (l : Launch) (D : va_G) (cA : Nat → ClassId) (hfl : l.stackTraces = false) (q : Nat → Nat) (un : Nat → Nat) (ui : Nat → Int32) (ul : Nat → Int64) (ua : Nat → Nat → Int32) (vc ex wo tp : Nat → Int32) (tf kf : Nat → Option Nat) (L : List Nat) (f : Nat → va_E) (ta : Nat → Nat) (ga : Nat → Nat) (ka : Nat → Nat) (v : Int32) (ht4 : un 2 ≤ 4) (hPL : PL cA un ua L f tf kf ta ga ka) : Xi l yX6_drain cX6_drain 5 .int 7 132 1 6 D cA [.ref (q 0), .int v] (cF cA q un ui ul ua vc ex wo tp tf kf ++ va_pl L f) (fun r w' => (VN (un 2) v) ∧ r = ua 10 v.toNatClampNeg ∧ w' = (cF cA q un ui (up (up ul 3 (ul 3 + (ua 10 v.toNatClampNeg).toInt64)) 4 (ul 4 + (ua 11 v.toNatClampNeg).toInt64)) ua vc ex wo tp tf kf ++ va_pl L (va_up f (ka v.toNatClampNeg) (.inr (3, [.int (ua 9 v.toNatClampNeg), .int (ua 10 v.toNatClampNeg - ua 10 v.toNatClampNeg), .int (ua 11 v.toNatClampNeg - ua 11 v.toNatClampNeg)]))))) (fun u => ((¬ VN (un 2) v) ∧ u = ("java/lang/IndexOutOfBoundsException", cF cA q un ui ul ua vc ex wo tp tf kf ++ va_pl L f))) := by
  refine ent_Xi (own := RX6) (lv0 := [(0, .ref (q 0)), (1, .int v)]) (by decide) rfl (Nat.le_of_ble_eq_true rfl) rfl ?_
  intro p e s m args below meth c A Q G hQ ht hlocks ret
  refine j_aload_n G dX6_drain_0 rfl 0 rfl ?_
  refine j_iload_n G dX6_drain_1 rfl 1 rfl ?_
  refine jXV_r G 6 0 (cC_X6_requireTank l D cA hfl q un ui ul ua vc ex wo tp tf kf L f ta ga ka v ht4 hPL) gX6_176 hd_X6_requireTank ⟨Nat.le_of_ble_eq_true rfl, Nat.le_of_ble_eq_true rfl⟩ ⟨Nat.le_of_ble_eq_true rfl, Nat.le_of_ble_eq_true rfl⟩ rfl rfl (Nat.le_of_ble_eq_true rfl) rfl rfl dX6_drain_2 (fun E9 w9 hq9 => ?_) (fun r w' hq9 => ?_)
  · rcases hq9 with ⟨h9, hu9⟩
    cases hu9
    exact j_out (post := fun _ => True) G hQ ht hlocks ⟨h9, rfl⟩ (Nat.le_of_ble_eq_true rfl) (Nat.le_of_ble_eq_true rfl)
  obtain ⟨k2, hu9⟩ := hq9
  cases hu9
  refine j_astore_n (lv' := [(2, .ref (ka v.toNatClampNeg)), (0, .ref (q 0)), (1, .int v)]) G dX6_drain_5 rfl (by decide) rfl ?_
  refine j_aload_n G dX6_drain_6 rfl 0 rfl ?_
  obtain ⟨ix1, hix1⟩ := PL_ka (cF cA q un ui ul ua vc ex wo tp tf kf) hPL (j := v.toNatClampNeg) (k2.lt (by omega))
  refine gfX6_180 (v := .int (ua 10 v.toNatClampNeg)) G ix1 hix1 rfl dX6_drain_7 ?_
  refine j_istore_n (lv' := [(3, .int (ua 10 v.toNatClampNeg)), (2, .ref (ka v.toNatClampNeg)), (0, .ref (q 0)), (1, .int v)]) G dX6_drain_10 rfl (by decide) rfl ?_
  refine j_aload_n G dX6_drain_11 rfl 1 rfl ?_
  obtain ⟨ix2, hix2⟩ := PL_ka (cF cA q un ui ul ua vc ex wo tp tf kf) hPL (j := v.toNatClampNeg) (k2.lt (by omega))
  refine gfX6_183 (v := .int (ua 11 v.toNatClampNeg)) G ix2 hix2 rfl dX6_drain_12 ?_
  refine j_istore (lv' := [(4, .int (ua 11 v.toNatClampNeg)), (3, .int (ua 10 v.toNatClampNeg)), (2, .ref (ka v.toNatClampNeg)), (0, .ref (q 0)), (1, .int v)]) G dX6_drain_15 (by decide) rfl ?_
  refine j_aload_n G dX6_drain_17 rfl 2 rfl ?_
  refine j_iload_n G dX6_drain_18 rfl 1 rfl ?_
  refine j_iload G dX6_drain_19 0 rfl ?_
  obtain ⟨ix3, hix3⟩ := PL_ka (cF cA q un ui ul ua vc ex wo tp tf kf) hPL (j := v.toNatClampNeg) (k2.lt (by omega))
  refine j_hD (fun hDix3 => ?_)
  refine jV_v G 3 ix3 (cC_X3_takeOut l D cA (cF cA q un ui ul ua vc ex wo tp tf kf ++ va_pl L f) ix3 (ka v.toNatClampNeg) (ua 9 v.toNatClampNeg) (ua 10 v.toNatClampNeg) (ua 11 v.toNatClampNeg) hix3 (ua 10 v.toNatClampNeg) (ua 11 v.toNatClampNeg)) gX6_186 hd_X3_takeOut ⟨Nat.le_of_ble_eq_true rfl, Nat.le_of_ble_eq_true rfl⟩ ⟨Nat.le_of_ble_eq_true rfl, Nat.le_of_ble_eq_true rfl⟩ rfl rfl (Nat.le_of_ble_eq_true rfl) rfl hix3 dX6_drain_21 (fun w' hq9 => ?_)
  obtain rfl := hq9.symm
  refine j_w (w' := cF cA q un ui ul ua vc ex wo tp tf kf ++ va_pl L (va_up f (ka v.toNatClampNeg) (.inr (3, [.int ((ua 9 v.toNatClampNeg)), .int ((ua 10 v.toNatClampNeg) - (ua 10 v.toNatClampNeg)), .int ((ua 11 v.toNatClampNeg) - (ua 11 v.toNatClampNeg))])))) (PL_kset hDix3 hPL (k2.lt (by omega)) hix3) ?_
  refine j_aload_n G dX6_drain_24 rfl 3 rfl ?_
  refine gfX6_48 (v := .ref (q 14)) G 0 rfl rfl dX6_drain_25 ?_
  refine j_iload_n G dX6_drain_28 rfl 1 rfl ?_
  refine j_iload G dX6_drain_29 0 rfl ?_
  refine jV_v G 0 14 (cC_X0_addLoss l D cA q un ui ul ua vc ex wo tp tf kf L (va_up f (ka v.toNatClampNeg) (.inr (3, [.int ((ua 9 v.toNatClampNeg)), .int ((ua 10 v.toNatClampNeg) - (ua 10 v.toNatClampNeg)), .int ((ua 11 v.toNatClampNeg) - (ua 11 v.toNatClampNeg))]))) (ua 10 v.toNatClampNeg) (ua 11 v.toNatClampNeg)) gX6_190 hd_X0_addLoss ⟨Nat.le_of_ble_eq_true rfl, Nat.le_of_ble_eq_true rfl⟩ ⟨Nat.le_of_ble_eq_true rfl, Nat.le_of_ble_eq_true rfl⟩ rfl rfl (Nat.le_of_ble_eq_true rfl) rfl rfl dX6_drain_31 (fun w' hq9 => ?_)
  obtain rfl := hq9.symm
  refine j_w (w' := cF cA q un ui (up (up ul 3 (ul 3 + (ua 10 v.toNatClampNeg).toInt64)) 4 (ul 4 + (ua 11 v.toNatClampNeg).toInt64)) ua vc ex wo tp tf kf ++ va_pl L (va_up f (ka v.toNatClampNeg) (.inr (3, [.int ((ua 9 v.toNatClampNeg)), .int ((ua 10 v.toNatClampNeg) - (ua 10 v.toNatClampNeg)), .int ((ua 11 v.toNatClampNeg) - (ua 11 v.toNatClampNeg))])))) rfl ?_
  refine j_iload_n G dX6_drain_34 rfl 1 rfl ?_
  refine j_cs (k' := 1) (n' := 6) (Nat.le_of_ble_eq_true rfl) (Nat.le_of_ble_eq_true rfl) ?_
  exact ret _ _ _ _ dX6_drain_35 rfl ⟨k2, rfl, rfl⟩
set_option maxHeartbeats 4000000 in
set_option maxRecDepth 100000 in
theorem cC_X6_load (l : Launch) (D : va_G) (cA : Nat → ClassId) (hfl : l.stackTraces = false) (q : Nat → Nat) (un : Nat → Nat) (ui : Nat → Int32) (ul : Nat → Int64) (ua : Nat → Nat → Int32) (vc ex wo tp : Nat → Int32) (tf kf : Nat → Option Nat) (L : List Nat) (f : Nat → va_E) (ta : Nat → Nat) (ga : Nat → Nat) (ka : Nat → Nat) (v : Int32) (zv : Int32) (ht4 : un 2 ≤ 4) (hPL : PL cA un ua L f tf kf ta ga ka) : Xi l yX6_load cX6_load 5 .int 7 132 2 12 D cA [.ref (q 0), .int v, .int zv] (cF cA q un ui ul ua vc ex wo tp tf kf ++ va_pl L f) (fun r w' => (cfLoadK (un 2) v zv (ui 1) (ua 10) = 0) ∧ r = ui 1 + zv ∧ w' = (cF cA q un (up (up ui 1 (ui 1 + zv)) 2 (ui 2 + shrV (ua 11 v.toNatClampNeg) zv (ua 10 v.toNatClampNeg))) ul ua vc ex wo tp tf kf ++ va_pl L (va_up f (ka v.toNatClampNeg) (.inr (3, [.int (ua 9 v.toNatClampNeg), .int (ua 10 v.toNatClampNeg - zv), .int (ua 11 v.toNatClampNeg - shrV (ua 11 v.toNatClampNeg) zv (ua 10 v.toNatClampNeg))]))))) (fun u => ((cfLoadK (un 2) v zv (ui 1) (ua 10) = 1) ∧ u = ("java/lang/IndexOutOfBoundsException", cF cA q un ui ul ua vc ex wo tp tf kf ++ va_pl L f)) ∨ ((cfLoadK (un 2) v zv (ui 1) (ua 10) = 2) ∧ u = ("java/lang/IllegalArgumentException", cF cA q un ui ul ua vc ex wo tp tf kf ++ va_pl L f)) ∨ ((cfLoadK (un 2) v zv (ui 1) (ua 10) = 3) ∧ u = ("java/lang/UnsupportedOperationException", cF cA q un ui ul ua vc ex wo tp tf kf ++ va_pl L f)) ∨ ((cfLoadK (un 2) v zv (ui 1) (ua 10) = 4) ∧ u = ("java/lang/IllegalStateException", cF cA q un ui ul ua vc ex wo tp tf kf ++ va_pl L f))) := by
  refine ent_Xi (own := RX6) (lv0 := [(0, .ref (q 0)), (1, .int v), (2, .int zv)]) (by decide) rfl (Nat.le_of_ble_eq_true rfl) rfl ?_
  intro p e s m args below meth c A Q G hQ ht hlocks ret
  refine j_aload_n G dX6_load_0 rfl 0 rfl ?_
  refine j_iload_n G dX6_load_1 rfl 1 rfl ?_
  refine jXV_r G 6 0 (cC_X6_requireTank l D cA hfl q un ui ul ua vc ex wo tp tf kf L f ta ga ka v ht4 hPL) gX6_176 hd_X6_requireTank ⟨Nat.le_of_ble_eq_true rfl, Nat.le_of_ble_eq_true rfl⟩ ⟨Nat.le_of_ble_eq_true rfl, Nat.le_of_ble_eq_true rfl⟩ rfl rfl (Nat.le_of_ble_eq_true rfl) rfl rfl dX6_load_2 (fun E9 w9 hq9 => ?_) (fun r w' hq9 => ?_)
  · rcases hq9 with ⟨h9, hu9⟩
    cases hu9
    exact j_out (post := fun _ => True) G hQ ht hlocks (Or.inl ⟨(by rw [cfLoadK, if_pos h9]), rfl⟩) (Nat.le_of_ble_eq_true rfl) (Nat.le_of_ble_eq_true rfl)
  obtain ⟨k2, hu9⟩ := hq9
  cases hu9
  refine j_astore_n (lv' := [(3, .ref (ka v.toNatClampNeg)), (0, .ref (q 0)), (1, .int v), (2, .int zv)]) G dX6_load_5 rfl (by decide) rfl ?_
  refine j_iload_n G dX6_load_6 rfl 3 rfl ?_
  refine j_iconst (v := 1) G dX6_load_7 (by decide) ?_
  refine j_sipush (v := 500) G dX6_load_8 (by decide) ?_
  refine jS_i G (cC_X6_isOutside l D cA (cF cA q un ui ul ua vc ex wo tp tf kf ++ va_pl L f) zv 1 500) gX6_60 hd_X6_isOutside.2 ⟨Nat.le_of_ble_eq_true rfl, Nat.le_of_ble_eq_true rfl⟩ ⟨Nat.le_of_ble_eq_true rfl, Nat.le_of_ble_eq_true rfl⟩ rfl rfl (Nat.le_of_ble_eq_true rfl) dX6_load_11 (fun r w' hq9 => ?_)
  obtain ⟨hr9, hw9⟩ := hq9
  obtain rfl := hr9.symm
  obtain rfl := hw9.symm
  refine j_ifb_eq (tgt := 27) G dX6_load_14 (by decide) (fun c14 => ?_) (fun c14 => ?_)
  · refine j_iload_n G dX6_load_27 rfl 3 rfl ?_
    refine j_aload_n G dX6_load_28 rfl 0 rfl ?_
    obtain ⟨ix1, hix1⟩ := PL_ka (cF cA q un ui ul ua vc ex wo tp tf kf) hPL (j := v.toNatClampNeg) (k2.lt (by omega))
    refine gfX6_180 (v := .int (ua 10 v.toNatClampNeg)) G ix1 hix1 rfl dX6_load_29 ?_
    refine j_icmp_le (tgt := 45) G dX6_load_32 (by decide) (fun c32 => ?_) (fun c32 => ?_)
    · refine j_iload_n G dX6_load_45 rfl 3 rfl ?_
      refine j_sipush (v := 500) G dX6_load_46 (by decide) ?_
      refine j_aload_n G dX6_load_49 rfl 1 rfl ?_
      refine gfX6_31 (v := .ref (q 9)) G 0 rfl rfl dX6_load_50 ?_
      refine gfX6_200 (v := .int (ui 1)) G 9 rfl rfl dX6_load_53 ?_
      refine j_isub G dX6_load_56 ?_
      refine j_icmp_le (tgt := 70) G dX6_load_57 (by decide) (fun c57 => ?_) (fun c57 => ?_)
      · refine j_aload_n G dX6_load_70 rfl 0 rfl ?_
        obtain ⟨ix2, hix2⟩ := PL_ka (cF cA q un ui ul ua vc ex wo tp tf kf) hPL (j := v.toNatClampNeg) (k2.lt (by omega))
        refine gfX6_183 (v := .int (ua 11 v.toNatClampNeg)) G ix2 hix2 rfl dX6_load_71 ?_
        refine j_iload_n G dX6_load_74 rfl 3 rfl ?_
        refine j_aload_n G dX6_load_75 rfl 0 rfl ?_
        obtain ⟨ix3, hix3⟩ := PL_ka (cF cA q un ui ul ua vc ex wo tp tf kf) hPL (j := v.toNatClampNeg) (k2.lt (by omega))
        refine gfX6_180 (v := .int (ua 10 v.toNatClampNeg)) G ix3 hix3 rfl dX6_load_76 ?_
        refine jS_i G (cC_X6_shareOfSugar l D cA (cF cA q un ui ul ua vc ex wo tp tf kf ++ va_pl L f) (ua 11 v.toNatClampNeg) zv (ua 10 v.toNatClampNeg)) gX6_203 hd_X6_shareOfSugar.2 ⟨Nat.le_of_ble_eq_true rfl, Nat.le_of_ble_eq_true rfl⟩ ⟨Nat.le_of_ble_eq_true rfl, Nat.le_of_ble_eq_true rfl⟩ rfl rfl (Nat.le_of_ble_eq_true rfl) dX6_load_79 (fun r w' hq9 => ?_)
        obtain ⟨hr9, hw9⟩ := hq9
        obtain rfl := hr9.symm
        obtain rfl := hw9.symm
        refine j_istore (lv' := [(4, .int (shrV (ua 11 v.toNatClampNeg) zv (ua 10 v.toNatClampNeg))), (3, .ref (ka v.toNatClampNeg)), (0, .ref (q 0)), (1, .int v), (2, .int zv)]) G dX6_load_82 (by decide) rfl ?_
        refine j_aload_n G dX6_load_84 rfl 1 rfl ?_
        refine j_iload_n G dX6_load_85 rfl 4 rfl ?_
        refine j_iload G dX6_load_86 0 rfl ?_
        obtain ⟨ix4, hix4⟩ := PL_ka (cF cA q un ui ul ua vc ex wo tp tf kf) hPL (j := v.toNatClampNeg) (k2.lt (by omega))
        refine j_hD (fun hDix4 => ?_)
        refine jV_v G 3 ix4 (cC_X3_takeOut l D cA (cF cA q un ui ul ua vc ex wo tp tf kf ++ va_pl L f) ix4 (ka v.toNatClampNeg) (ua 9 v.toNatClampNeg) (ua 10 v.toNatClampNeg) (ua 11 v.toNatClampNeg) hix4 zv (shrV (ua 11 v.toNatClampNeg) zv (ua 10 v.toNatClampNeg))) gX6_186 hd_X3_takeOut ⟨Nat.le_of_ble_eq_true rfl, Nat.le_of_ble_eq_true rfl⟩ ⟨Nat.le_of_ble_eq_true rfl, Nat.le_of_ble_eq_true rfl⟩ rfl rfl (Nat.le_of_ble_eq_true rfl) rfl hix4 dX6_load_88 (fun w' hq9 => ?_)
        obtain rfl := hq9.symm
        refine j_w (w' := cF cA q un ui ul ua vc ex wo tp tf kf ++ va_pl L (va_up f (ka v.toNatClampNeg) (.inr (3, [.int ((ua 9 v.toNatClampNeg)), .int ((ua 10 v.toNatClampNeg) - zv), .int ((ua 11 v.toNatClampNeg) - (shrV (ua 11 v.toNatClampNeg) zv (ua 10 v.toNatClampNeg)))])))) (PL_kset hDix4 hPL (k2.lt (by omega)) hix4) ?_
        refine j_aload_n G dX6_load_91 rfl 2 rfl ?_
        refine gfX6_31 (v := .ref (q 9)) G 0 rfl rfl dX6_load_92 ?_
        refine j_iload_n G dX6_load_95 rfl 4 rfl ?_
        refine j_iload G dX6_load_96 0 rfl ?_
        refine jV_v G 1 9 (cC_X1_fill l D cA (cF cA q un ui ul ua vc ex wo tp tf kf ++ va_pl L (va_up f (ka v.toNatClampNeg) (.inr (3, [.int ((ua 9 v.toNatClampNeg)), .int ((ua 10 v.toNatClampNeg) - zv), .int ((ua 11 v.toNatClampNeg) - (shrV (ua 11 v.toNatClampNeg) zv (ua 10 v.toNatClampNeg)))])))) 9 (q 9) (ui 1) (ui 2) (ui 4) rfl zv (shrV (ua 11 v.toNatClampNeg) zv (ua 10 v.toNatClampNeg))) gX6_207 hd_X1_fill ⟨Nat.le_of_ble_eq_true rfl, Nat.le_of_ble_eq_true rfl⟩ ⟨Nat.le_of_ble_eq_true rfl, Nat.le_of_ble_eq_true rfl⟩ rfl rfl (Nat.le_of_ble_eq_true rfl) rfl rfl dX6_load_98 (fun w' hq9 => ?_)
        obtain rfl := hq9.symm
        refine j_w (w' := cF cA q un (up (up ui 1 ((ui 1) + zv)) 2 ((ui 2) + (shrV (ua 11 v.toNatClampNeg) zv (ua 10 v.toNatClampNeg)))) ul ua vc ex wo tp tf kf ++ va_pl L (va_up f (ka v.toNatClampNeg) (.inr (3, [.int ((ua 9 v.toNatClampNeg)), .int ((ua 10 v.toNatClampNeg) - zv), .int ((ua 11 v.toNatClampNeg) - (shrV (ua 11 v.toNatClampNeg) zv (ua 10 v.toNatClampNeg)))])))) rfl ?_
        refine j_aload_n G dX6_load_101 rfl 2 rfl ?_
        refine gfX6_31 (v := .ref (q 9)) G 0 rfl rfl dX6_load_102 ?_
        refine gfX6_200 (v := .int ((ui 1) + zv)) G 9 rfl rfl dX6_load_105 ?_
        refine j_cs (k' := 2) (n' := 12) (Nat.le_of_ble_eq_true rfl) (Nat.le_of_ble_eq_true rfl) ?_
        exact ret _ _ _ _ dX6_load_108 rfl ⟨(by rw [cfLoadK, if_neg (fun h8 => h8 k2), if_neg (fun h8 => h8 (Decidable.not_not.mp c14)), if_neg (fun h8 => h8 c32), if_neg (fun h8 => h8 c57)]), rfl, rfl⟩
      · exact j_thr G hfl hQ ht hlocks (names := ["java/lang/RuntimeException", "java/lang/Exception"]) ft_ISE ft_names wd_450 wd_54 rfl st_201 at_ISE og_ISE dX6_load_60 dX6_load_63 dX6_load_64 dX6_load_66 dX6_load_69 ⟨Nat.le_of_ble_eq_true rfl, Nat.le_of_ble_eq_true rfl, Nat.le_of_ble_eq_true rfl, Nat.le_of_ble_eq_true rfl⟩ (Or.inr (Or.inr (Or.inr (⟨(by rw [cfLoadK, if_neg (fun h8 => h8 k2), if_neg (fun h8 => h8 (Decidable.not_not.mp c14)), if_neg (fun h8 => h8 c32), if_pos c57]), rfl⟩)))) (Nat.le_of_ble_eq_true rfl) (Nat.le_of_ble_eq_true rfl)
    · exact j_thr G hfl hQ ht hlocks (names := ["java/lang/RuntimeException", "java/lang/Exception"]) ft_UOE ft_names wd_430 wd_53 rfl st_197 at_UOE og_UOE dX6_load_35 dX6_load_38 dX6_load_39 dX6_load_41 dX6_load_44 ⟨Nat.le_of_ble_eq_true rfl, Nat.le_of_ble_eq_true rfl, Nat.le_of_ble_eq_true rfl, Nat.le_of_ble_eq_true rfl⟩ (Or.inr (Or.inr (Or.inl ⟨(by rw [cfLoadK, if_neg (fun h8 => h8 k2), if_neg (fun h8 => h8 (Decidable.not_not.mp c14)), if_pos c32]), rfl⟩))) (Nat.le_of_ble_eq_true rfl) (Nat.le_of_ble_eq_true rfl)
  · exact j_thr G hfl hQ ht hlocks (names := ["java/lang/RuntimeException", "java/lang/Exception"]) ft_IAE ft_names wd_410 wd_52 rfl st_193 at_IAE og_IAE dX6_load_17 dX6_load_20 dX6_load_21 dX6_load_23 dX6_load_26 ⟨Nat.le_of_ble_eq_true rfl, Nat.le_of_ble_eq_true rfl, Nat.le_of_ble_eq_true rfl, Nat.le_of_ble_eq_true rfl⟩ (Or.inr (Or.inl ⟨(by rw [cfLoadK, if_neg (fun h8 => h8 k2), if_pos c14]), rfl⟩)) (Nat.le_of_ble_eq_true rfl) (Nat.le_of_ble_eq_true rfl)
set_option maxHeartbeats 4000000 in
theorem cC_climb0 (l : Launch) (D : va_G) (cA : Nat → ClassId) (q : Nat → Nat) (un : Nat → Nat) (ui : Nat → Int32) (ul : Nat → Int64) (ua : Nat → Nat → Int32) (vc ex wo tp : Nat → Int32) (tf kf : Nat → Option Nat) (L : List Nat) (f : Nat → va_E) (hn : un 0 ≤ 20) (hp : PAR (un 0) (ua 1)) (d : Nat) : Ki l yX5_climb cX5_climb 4 .int (d + 3) (60 * d + 100) 0 0 D cA [.ref (q 1), .int (nI 0), .int (nI d)] (cF cA q un ui ul ua vc ex wo tp tf kf ++ va_pl L f) (fun r w' => r = vac (un 0) (ui 0) (ua 1) (ua 2) (ua 7) 0 ∧ w' = (cF cA q un ui ul ua vc ex wo tp tf kf ++ va_pl L f)) := by
  refine ent_i (own := RX5) (lv0 := [(0, .ref (q 1)), (1, .int (nI 0)), (2, .int (nI d))]) (by decide) rfl (Nat.le_of_ble_eq_true rfl) rfl ?_
  intro p e s m args below meth c A Q G hinit ret
  refine j_iload_n G dX5_climb_0 rfl 1 rfl ?_
  refine j_if_le (tgt := 8) G dX5_climb_1 (by decide) (fun _ => ?_) (fun c1 => absurd (show nI 0 ≤ 0 by decide) c1)
  refine j_aload_n G dX5_climb_8 rfl 0 rfl ?_
  refine jV_i G 5 1 (cC_X5_pumpVacuum l D cA q un ui ul ua vc ex wo tp tf kf L f hn) gX5_40 hd_X5_pumpVacuum ⟨by show 1 + 1 ≤ d + 3; omega, by show 8 + (3 + 11) + 40 ≤ 60 * d + 100; omega⟩ ⟨Nat.le_of_ble_eq_true rfl, Nat.le_of_ble_eq_true rfl⟩ rfl rfl (Nat.le_of_ble_eq_true rfl) rfl rfl dX5_climb_9 (fun r w' hq9 => ?_)
  obtain ⟨hr9, hw9⟩ := hq9
  obtain rfl := hr9.symm
  obtain rfl := hw9.symm
  exact ret _ _ _ _ dX5_climb_12 rfl ⟨vac_0.symm, rfl⟩
set_option maxHeartbeats 4000000 in
theorem cC_climbS (l : Launch) (D : va_G) (cA : Nat → ClassId) (q : Nat → Nat) (un : Nat → Nat) (ui : Nat → Int32) (ul : Nat → Int64) (ua : Nat → Nat → Int32) (vc ex wo tp : Nat → Int32) (tf kf : Nat → Option Nat) (L : List Nat) (f : Nat → va_E) (hn : un 0 ≤ 20) (hp : PAR (un 0) (ua 1)) (d : Nat) (hd : d ≤ 100) (ih : ∀ j, j ≤ d → j < un 0 → Ki l yX5_climb cX5_climb 4 .int (d + 3) (60 * d + 100) 0 0 D cA [.ref (q 1), .int (nI j), .int (nI d)] (cF cA q un ui ul ua vc ex wo tp tf kf ++ va_pl L f) (fun r w' => r = vac (un 0) (ui 0) (ua 1) (ua 2) (ua 7) j ∧ w' = (cF cA q un ui ul ua vc ex wo tp tf kf ++ va_pl L f))) (j : Nat) (hj0 : 0 < j) (hjd : j ≤ d + 1) (hj : j < un 0) : Ki l yX5_climb cX5_climb 4 .int (d + 1 + 3) (60 * (d + 1) + 100) 0 0 D cA [.ref (q 1), .int (nI j), .int (nI (d + 1))] (cF cA q un ui ul ua vc ex wo tp tf kf ++ va_pl L f) (fun r w' => r = vac (un 0) (ui 0) (ua 1) (ua 2) (ua 7) j ∧ w' = (cF cA q un ui ul ua vc ex wo tp tf kf ++ va_pl L f)) := by
  refine ent_i (own := RX5) (lv0 := [(0, .ref (q 1)), (1, .int (nI j)), (2, .int (nI (d + 1)))]) (by decide) rfl (Nat.le_of_ble_eq_true rfl) rfl ?_
  intro p e s m args below meth c A Q G hinit ret
  refine j_iload_n G dX5_climb_0 rfl 1 rfl ?_
  refine j_if_le (tgt := 8) G dX5_climb_1 (by decide) (fun c1 => absurd ((nI_leI (by omega) (by omega)).mp (show nI j ≤ nI 0 from c1)) (by omega)) (fun _ => ?_)
  refine j_iload_n G dX5_climb_4 rfl 2 rfl ?_
  refine j_if_gt (tgt := 13) G dX5_climb_5 (by decide) (fun _ => ?_) (fun c5 => absurd ((nI_leI (by omega) (by omega)).mp (show nI (d + 1) ≤ nI 0 from Int32.not_lt.mp c5)) (by omega))
  refine j_aload_n G dX5_climb_13 rfl 0 rfl ?_
  refine j_aload_n G dX5_climb_14 rfl 0 rfl ?_
  refine gfX5_9 (v := .ref (q 2)) G 1 rfl rfl dX5_climb_15 ?_
  refine j_iload_n G dX5_climb_18 rfl 1 rfl ?_
  refine j_ialdN (j := j) G 2 rfl rfl (by omega) (Nat.le_of_ble_eq_true rfl) dX5_climb_19 ?_
  obtain ⟨i, hi, e9⟩ := hp j hj0 hj
  refine j_rwi e9 ?_
  refine j_iload_n G dX5_climb_20 rfl 2 rfl ?_
  refine j_iconst (v := 1) G dX5_climb_21 (by decide) ?_
  refine j_isub G dX5_climb_22 ?_
  refine j_rwi (nI_pred d) ?_
  refine jS_i G (ih i (by omega) (by omega)) gX5_44 hd_X5_climb.2 ⟨by show d + 3 + 1 ≤ d + 1 + 3; omega, by show 8 + (4 + 11) + (60 * d + 100) ≤ 60 * (d + 1) + 100; omega⟩ ⟨Nat.le_of_ble_eq_true rfl, Nat.le_of_ble_eq_true rfl⟩ rfl rfl (Nat.le_of_ble_eq_true rfl) dX5_climb_23 (fun r w' hq9 => ?_)
  obtain ⟨hr9, hw9⟩ := hq9
  obtain rfl := hr9.symm
  obtain rfl := hw9.symm
  refine j_istore_n (lv' := [(3, .int (vac (un 0) (ui 0) (ua 1) (ua 2) (ua 7) i)), (0, .ref (q 1)), (1, .int (nI j)), (2, .int (nI (d + 1)))]) G dX5_climb_26 rfl (by decide) rfl ?_
  refine j_iconst (v := 0) G dX5_climb_27 (by decide) ?_
  refine j_iload_n G dX5_climb_28 rfl 0 rfl ?_
  refine j_aload_n G dX5_climb_29 rfl 1 rfl ?_
  refine gfX5_15 (v := .ref (q 3)) G 1 rfl rfl dX5_climb_30 ?_
  refine j_iload_n G dX5_climb_33 rfl 2 rfl ?_
  refine j_ialdN (j := j) G 3 rfl rfl (by omega) (Nat.le_of_ble_eq_true rfl) dX5_climb_34 ?_
  refine j_isub G dX5_climb_35 ?_
  refine j_aload_n G dX5_climb_36 rfl 1 rfl ?_
  refine gfX5_18 (v := .ref (q 4)) G 1 rfl rfl dX5_climb_37 ?_
  refine j_iload_n G dX5_climb_40 rfl 2 rfl ?_
  refine j_ialdN (j := j) G 4 rfl rfl (by omega) (Nat.le_of_ble_eq_true rfl) dX5_climb_41 ?_
  refine j_isub G dX5_climb_42 ?_
  refine j_max G wd_572 ⟨by show 1 ≤ d + 1 + 3; omega, by show 0 + 13 ≤ 60 * (d + 1) + 100; omega, Nat.le_of_ble_eq_true rfl, Nat.le_of_ble_eq_true rfl⟩ dX5_climb_43 ?_
  refine j_rwi (show (if 0 < vac (un 0) (ui 0) (ua 1) (ua 2) (ua 7) i - ua 2 j - ua 7 j then vac (un 0) (ui 0) (ua 1) (ua 2) (ua 7) i - ua 2 j - ua 7 j else 0) = vac (un 0) (ui 0) (ua 1) (ua 2) (ua 7) j from by rw [mx0_max]; exact (vac_S hp hn hj0 hj hi e9).symm) ?_
  exact ret _ _ _ _ dX5_climb_46 rfl ⟨rfl, rfl⟩
theorem cC_climbR (l : Launch) (D : va_G) (cA : Nat → ClassId) (q : Nat → Nat) (un : Nat → Nat) (ui : Nat → Int32) (ul : Nat → Int64) (ua : Nat → Nat → Int32) (vc ex wo tp : Nat → Int32) (tf kf : Nat → Option Nat) (L : List Nat) (f : Nat → va_E) (hn : un 0 ≤ 20) (hp : PAR (un 0) (ua 1)) : ∀ (d : Nat), d ≤ 100 → ∀ (j : Nat), j ≤ d → j < un 0 → Ki l yX5_climb cX5_climb 4 .int (d + 3) (60 * d + 100) 0 0 D cA [.ref (q 1), .int (nI j), .int (nI d)] (cF cA q un ui ul ua vc ex wo tp tf kf ++ va_pl L f) (fun r w' => r = vac (un 0) (ui 0) (ua 1) (ua 2) (ua 7) j ∧ w' = (cF cA q un ui ul ua vc ex wo tp tf kf ++ va_pl L f)) := by
  intro d
  induction d with
  | zero =>
    intro h0 j h1 h2
    have e : j = 0 := by omega
    subst e
    exact cC_climb0 l D cA q un ui ul ua vc ex wo tp tf kf L f hn hp 0
  | succ d ih =>
    intro h0 j h1 h2
    rcases Nat.eq_zero_or_pos j with e | e
    · subst e
      exact cC_climb0 l D cA q un ui ul ua vc ex wo tp tf kf L f hn hp (d + 1)
    · exact cC_climbS l D cA q un ui ul ua vc ex wo tp tf kf L f hn hp d (by omega) (ih (by omega)) j e h1 h2
set_option maxHeartbeats 4000000 in
theorem cC_X6_vacuum (l : Launch) (D : va_G) (cA : Nat → ClassId) (hfl : l.stackTraces = false) (q : Nat → Nat) (un : Nat → Nat) (ui : Nat → Int32) (ul : Nat → Int64) (ua : Nat → Nat → Int32) (vc ex wo tp : Nat → Int32) (tf kf : Nat → Option Nat) (L : List Nat) (f : Nat → va_E) (v : Int32) (hn : un 0 ≤ 20) (hp : PAR (un 0) (ua 1)) : Xi l yX6_vacuum cX6_vacuum 2 .int 24 1400 1 6 D cA [.ref (q 0), .int v] (cF cA q un ui ul ua vc ex wo tp tf kf ++ va_pl L f) (fun r w' => (VN (un 0) v) ∧ r = vac (un 0) (ui 0) (ua 1) (ua 2) (ua 7) v.toNatClampNeg ∧ w' = (cF cA q un ui ul ua vc ex wo tp tf kf ++ va_pl L f)) (fun u => ((¬ VN (un 0) v) ∧ u = ("java/lang/IndexOutOfBoundsException", (cF cA q un ui ul ua vc ex wo tp tf kf ++ va_pl L f)))) := by
  refine ent_Xi (own := RX6) (lv0 := [(0, .ref (q 0)), (1, .int v)]) (by decide) rfl (Nat.le_of_ble_eq_true rfl) rfl ?_
  intro p e s m args below meth c A Q G hQ ht hlocks ret
  refine j_aload_n G dX6_vacuum_0 rfl 0 rfl ?_
  refine j_iload_n G dX6_vacuum_1 rfl 1 rfl ?_
  refine jXV_v G 6 0 (cC_X6_requireNode l D cA hfl q un ui ul ua vc ex wo tp tf kf L f v) gX6_56 hd_X6_requireNode ⟨Nat.le_of_ble_eq_true rfl, Nat.le_of_ble_eq_true rfl⟩ ⟨Nat.le_of_ble_eq_true rfl, Nat.le_of_ble_eq_true rfl⟩ rfl rfl (Nat.le_of_ble_eq_true rfl) rfl rfl dX6_vacuum_2 (fun E9 w9 hq9 => ?_) (fun w' hq9 => ?_)
  · rcases hq9 with ⟨h9, hu9⟩
    cases hu9
    exact j_out (post := fun _ => True) G hQ ht hlocks ⟨h9, rfl⟩ (Nat.le_of_ble_eq_true rfl) (Nat.le_of_ble_eq_true rfl)
  obtain ⟨k2, hw9⟩ := hq9
  obtain rfl := hw9.symm
  refine j_aload_n G dX6_vacuum_5 rfl 0 rfl ?_
  refine gfX6_10 (v := .ref (q 1)) G 0 rfl rfl dX6_vacuum_6 ?_
  refine j_iload_n G dX6_vacuum_9 rfl 1 rfl ?_
  have hj := k2.lt (by omega)
  refine j_rwi (k2.nI (by omega)) ?_
  refine j_bipush (v := 20) G dX6_vacuum_10 (by decide) ?_
  refine j_rwi (show (20 : Int32) = nI 20 from rfl) ?_
  refine jSN_i G (cC_climbR l D cA q un ui ul ua vc ex wo tp tf kf L f hn hp 20 (by omega) v.toNatClampNeg (by omega) hj) nw_19 wd_566 (show Cond.initialized yX5_climb.cls ∈ WS from wd_41) wd_567 hd_X5_climb.2 ⟨Nat.le_of_ble_eq_true rfl, Nat.le_of_ble_eq_true rfl⟩ ⟨Nat.le_of_ble_eq_true rfl, Nat.le_of_ble_eq_true rfl⟩ rfl rfl (Nat.le_of_ble_eq_true rfl) dX6_vacuum_12 (fun r w' hq9 => ?_)
  obtain ⟨hr9, hw9⟩ := hq9
  obtain rfl := hr9.symm
  obtain rfl := hw9.symm
  exact ret _ _ _ _ dX6_vacuum_15 rfl ⟨k2, rfl, rfl⟩
