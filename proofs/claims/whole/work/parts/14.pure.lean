/-! PURE: numbers within bounds; what the class's words and the reference's have in common -/
abbrev NB (n : Nat) (x : Int32) : Prop := ∃ k : Nat, k ≤ n ∧ x = nI k
theorem NB.up {m n : Nat} {x : Int32} (h : NB m x) (hmn : m ≤ n) : NB n x := h.imp fun _ e => ⟨Nat.le_trans e.1 hmn, e.2⟩
theorem NB.z {n : Nat} : NB n 0 := ⟨0, Nat.zero_le _, rfl⟩
theorem NB.ge0 {n : Nat} {x : Int32} (hn : n < 2 ^ 31) (h : NB n x) : 0 ≤ x := by
  obtain ⟨k, hk, rfl⟩ := h
  exact nI_pos' (by omega)
theorem RG_NB {hi x : Int32} {n : Nat} (hM : hi.toInt = n) (h : RG 0 hi x) : NB n x := nI_of2 hM h.1 (Int32.not_lt.mp h.2)
theorem RG1_NB {hi x : Int32} {n : Nat} (hM : hi.toInt = n) (h : RG 1 hi x) : ∃ k : Nat, 1 ≤ k ∧ k ≤ n ∧ x = nI k := by
  obtain ⟨k, hk, e⟩ := nI_of2 (n := n) hM (fun z => h.1 (Int32.lt_trans z (by decide))) (Int32.not_lt.mp h.2)
  refine ⟨k, ?_, hk, e⟩
  rcases Nat.eq_zero_or_pos k with h0 | h0
  · subst h0; subst e; exact absurd (show nI 0 < 1 from by decide +kernel) h.1
  · exact h0
theorem ti_sub {a b : Int32} (h1 : -2147483648 ≤ a.toInt - b.toInt) (h2 : a.toInt - b.toInt < 2147483648) : (a - b).toInt = a.toInt - b.toInt := by
  rw [Int32.toInt_sub]
  exact Int.bmod_eq_of_le (by omega) (by omega)
theorem mx0_NB {x : Int32} {n : Nat} (h : x.toInt ≤ n) : NB n (mx0 x) := by
  unfold mx0
  by_cases h0 : x ≤ 0
  · rw [if_pos h0]; exact NB.z
  · rw [if_neg h0]
    obtain ⟨j, hj, e⟩ := nI_of (x := x) (fun z => h0 (Int32.le_of_lt z))
    refine ⟨j, ?_, e⟩
    rw [e, nI_toInt hj] at h; omega
theorem subS_b {lk : Nat → Int32} {se : Int32} (hse : NB 99 se) (hlk : ∀ j, NB 30 (lk j)) : ∀ n : Nat, n ≤ 20 → -(30 : Int) * ((n : Int) + 1) ≤ (subS lk (se - lk 0) n).toInt ∧ (subS lk (se - lk 0) n).toInt ≤ 99 := by
  intro n
  induction n with
  | zero =>
    intro _
    obtain ⟨a, ha, e1⟩ := hse
    obtain ⟨b, hb, e⟩ := hlk 0
    rw [show subS lk (se - lk 0) 0 = se - lk 0 from rfl, e, e1, pk_sub_toInt (by omega) (by omega)]; omega
  | succ n ih =>
    intro hn
    obtain ⟨h1, h2⟩ := ih (by omega)
    obtain ⟨b, hb, e⟩ := hlk n
    have e2 : (lk n).toInt = b := by rw [e, nI_toInt (by omega)]
    rw [show subS lk (se - lk 0) (n + 1) = subS lk (se - lk 0) n - lk n from rfl, ti_sub (by omega) (by omega), e2]; omega
theorem pumpV_NB {lk : Nat → Int32} {se : Int32} {n : Nat} (hn : n ≤ 20) (hse : NB 99 se) (hlk : ∀ j, NB 30 (lk j)) : NB 99 (pumpV n se lk) := mx0_NB (by have := (subS_b hse hlk n hn).2; omega)
theorem vacF_NB {pump : Int32} {pa dr lk : Nat → Int32} (hp : NB 99 pump) (hdr : ∀ j, NB 20 (dr j)) (hlk : ∀ j, NB 30 (lk j)) : ∀ f j, NB 99 (vacF pump pa dr lk f j) := by
  intro f
  induction f with
  | zero => intro j; simp only [vacF]; exact hp
  | succ f ih =>
    intro j
    by_cases h0 : j = 0
    · simp only [vacF, if_pos h0]; exact hp
    · simp only [vacF, if_neg h0]
      obtain ⟨a, ha, e1⟩ := ih (pa j).toNatClampNeg
      obtain ⟨b, hb, e2⟩ := hdr j
      obtain ⟨c, hc, e3⟩ := hlk j
      rw [e1, e2, e3]
      refine mx0_NB ?_
      have e4 := pk_sub_toInt (a := a) (b := b) (by omega) (by omega)
      have e5 := nI_toInt (n := c) (by omega)
      rw [ti_sub (by omega) (by omega)]; omega
theorem vac_NB {n : Nat} {se : Int32} {pa dr lk : Nat → Int32} (hn : n ≤ 20) (hse : NB 99 se) (hdr : ∀ j, NB 20 (dr j)) (hlk : ∀ j, NB 30 (lk j)) (j : Nat) : NB 99 (vac n se pa dr lk j) := vacF_NB (pumpV_NB hn hse hlk) hdr hlk 20 j
theorem giv_NB {rt sh ch : Nat → Int32} {vc t : Int32} {k : Nat} (hr : NB 20 (rt k)) (hv : NB 99 vc) : NB 119 (givV rt sh ch vc t k) := by
  obtain ⟨r, hr, er⟩ := hr
  obtain ⟨v, hv, rfl⟩ := hv
  unfold givV
  by_cases h1 : t < sh k
  · rw [if_pos h1]; exact NB.z
  · rw [if_neg h1]
    have hm : r * v ≤ 20 * 99 := Nat.mul_le_mul hr hv
    have hm2 : r * (20 + v) ≤ 20 * 119 := Nat.mul_le_mul hr (by omega)
    by_cases h2 : ch k = 0
    · rw [if_pos h2, er, pk_mul, show (100 : Int32) = nI 100 from rfl, pk_div (by omega) (by omega) (by omega)]
      exact ⟨_, by omega, rfl⟩
    · rw [if_neg h2, er, show (20 : Int32) = nI 20 from rfl, nI_add, pk_mul, pk_div (by omega) (by omega) (by omega)]
      exact ⟨_, by omega, rfl⟩
theorem giv_cc {rt sh c1 c2 : Nat → Int32} {vc t : Int32} {k : Nat} (h : c1 k = c2 k) : givV rt sh c1 vc t k = givV rt sh c2 vc t k := by unfold givV; rw [h]
theorem chg_cc {sh c1 c2 : Nat → Int32} {t : Int32} {k : Nat} (h : c1 k = c2 k) : chgV sh c1 t k = chgV sh c2 t k := by unfold chgV; rw [h]
theorem hrC_ge {kd sh ch : Nat → Int32} {t : Int32} : ∀ (k j : Nat), k ≤ j → hrC kd sh ch t k j = ch j := by
  intro k
  induction k with
  | zero => intro j _; rfl
  | succ k ih =>
    intro j hj
    simp only [hrC]
    by_cases h : kd k = 2
    · rw [if_pos h, pk_un (by omega)]; exact ih j (by omega)
    · rw [if_neg h]; exact ih j (by omega)
theorem hrC_lt {kd sh ch : Nat → Int32} {t : Int32} : ∀ (k j : Nat), j < k → hrC kd sh ch t k j = if kd j = 2 then chgV sh ch t j else ch j := by
  intro k
  induction k with
  | zero => intro j h; omega
  | succ k ih =>
    intro j hj
    simp only [hrC]
    by_cases e : j = k
    · subst e
      by_cases h : kd j = 2
      · rw [if_pos h, if_pos h, pk_us]; exact chg_cc (hrC_ge j j (Nat.le_refl _))
      · rw [if_neg h, if_neg h]; exact hrC_ge j j (Nat.le_refl _)
    · by_cases h : kd k = 2
      · rw [if_pos h, pk_un e]; exact ih j (by omega)
      · rw [if_neg h]; exact ih j (by omega)
theorem hrG_eq {kd rt sh ch vc : Nat → Int32} {t : Int32} {k : Nat} : hrG kd rt sh ch vc t k = givV rt sh ch (vc k) t k := giv_cc (hrC_ge k k (Nat.le_refl _))
theorem hr_b {kd rt sw sh ch vc : Nat → Int32} {t : Int32} (hG : ∀ j, kd j = 2 → NB 119 (hrG kd rt sh ch vc t j)) (hsw : ∀ j, kd j = 2 → ∃ s : Nat, 1 ≤ s ∧ s ≤ 6 ∧ sw j = nI s) : ∀ k, k ≤ 20 → ∃ v z : Nat, hrV kd rt sh ch vc t k = nI v ∧ hrS kd rt sw sh ch vc t k = nI z ∧ v ≤ 119 * k ∧ v ≤ z ∧ z ≤ 6 * v := by
  intro k
  induction k with
  | zero => intro _; exact ⟨0, 0, rfl, rfl, by omega, by omega, by omega⟩
  | succ k ih =>
    intro hk
    obtain ⟨v, z, e1, e2, h1, h2, h3⟩ := ih (by omega)
    by_cases h : kd k = 2
    · obtain ⟨g, hg, eg⟩ := hG k h
      obtain ⟨s, hs1, hs2, es⟩ := hsw k h
      have y := hr_y (kd := kd) (rt := rt) (sw := sw) (sh := sh) (ch := ch) (vc := vc) (t := t) (ho := 0) (sa := rt) h
      refine ⟨v + g, z + g * s, by rw [← y.1, e1, eg, nI_add], by rw [← y.2.1, e2, eg, es, pk_mul, nI_add], by omega, ?_, ?_⟩
      · have : g * 1 ≤ g * s := Nat.mul_le_mul_left g hs1
        omega
      · have : g * s ≤ g * 6 := Nat.mul_le_mul_left g hs2
        omega
    · have y := hr_n (kd := kd) (rt := rt) (sw := sw) (sh := sh) (ch := ch) (vc := vc) (t := t) (ho := 0) (sa := rt) h
      exact ⟨v, z, by rw [← y.1, e1], by rw [← y.2.1, e2], by omega, h2, h3⟩
theorem hrA_row {kd rt sh ch vc : Nat → Int32} {t : Int32} {ho : Nat} {sa : Nat → Int32} (hho : ho < 200) : ∀ (k j h : Nat), h < 200 → hrA kd rt sh ch vc t ho sa k (200 * j + h) = if j < k ∧ kd j = 2 ∧ h = ho then hrG kd rt sh ch vc t j else sa (200 * j + h) := by
  intro k
  induction k with
  | zero => intro j h _; rw [if_neg (fun z => Nat.not_lt_zero _ z.1)]; rfl
  | succ k ih =>
    intro j h hh
    simp only [hrA]
    by_cases hk : kd k = 2
    · rw [if_pos hk]
      by_cases e : 200 * j + h = 200 * k + ho
      · have e1 : j = k := by omega
        have e2 : h = ho := by omega
        subst e1; subst e2
        rw [pk_us, if_pos ⟨Nat.lt_succ_self _, hk, rfl⟩]
      · rw [pk_un e, ih j h hh]
        by_cases h1 : j < k ∧ kd j = 2 ∧ h = ho
        · rw [if_pos h1, if_pos ⟨Nat.lt_succ_of_lt h1.1, h1.2⟩]
        · rw [if_neg h1, if_neg (fun z => ?_)]
          obtain ⟨z1, z2, z3⟩ := z
          rcases Nat.lt_succ_iff_lt_or_eq.mp z1 with z4 | z4
          · exact h1 ⟨z4, z2, z3⟩
          · subst z4; subst z3; exact e rfl
    · rw [if_neg hk, ih j h hh]
      by_cases h1 : j < k ∧ kd j = 2 ∧ h = ho
      · rw [if_pos h1, if_pos ⟨Nat.lt_succ_of_lt h1.1, h1.2⟩]
      · rw [if_neg h1, if_neg (fun z => ?_)]
        obtain ⟨z1, z2, z3⟩ := z
        rcases Nat.lt_succ_iff_lt_or_eq.mp z1 with z4 | z4
        · exact h1 ⟨z4, z2, z3⟩
        · subst z4; exact hk z2
theorem totS_congr {f g : Nat → Int32} {j : Nat} : ∀ n, (∀ h, h < n → f (200 * j + h) = g (200 * j + h)) → totS f j n = totS g j n := by
  intro n
  induction n with
  | zero => intro _; rfl
  | succ n ih =>
    intro h
    rw [← totS_S, ← totS_S, ih (fun i hi => h i (by omega)), h n (by omega)]
theorem totS_hr {kd rt sh ch vc : Nat → Int32} {t : Int32} {ho : Nat} {sa : Nat → Int32} (hho : ho < 200) {k j : Nat} : totS (hrA kd rt sh ch vc t ho sa k) j ho = totS sa j ho :=
  totS_congr ho (fun h hh => by rw [hrA_row hho k j h (by omega), if_neg (fun z => by omega)])
theorem totS_NB {sa : Nat → Int32} (h : ∀ i, NB 119 (sa i)) (j : Nat) : ∀ n, n ≤ 200 → NB (119 * n) (totS sa j n) := by
  intro n
  induction n with
  | zero => intro _; exact ⟨0, Nat.zero_le _, rfl⟩
  | succ n ih =>
    intro hn
    obtain ⟨a, ha, e1⟩ := ih (by omega)
    obtain ⟨b, hb, e2⟩ := h (200 * j + n)
    exact ⟨a + b, by omega, by rw [← totS_S, e1, e2, nI_add]⟩
/-- the class's tap in an hour -/
def tgV (rt sh ch vc t : Int32) : Int32 := if t - sh < 0 then 0 else if 0 < ch then rt * (20 + vc) / 20 else rt * vc / 100
def tcV (sh ch t : Int32) : Int32 := if t - sh < 0 then (if ch + 1 < 9 then ch + 1 else 9) else if 0 < ch then ch - 1 else ch
theorem t_sh {t sh : Int32} (ht : RG (-30) 30 t) (hs : NB 5 sh) : t - sh < 0 ↔ t < sh := by
  obtain ⟨s, hs, rfl⟩ := hs
  have h1 := ht.1
  have h2 := ht.2
  rw [Int32.lt_iff_toInt_lt] at h1 h2
  have e1 : (-30 : Int32).toInt = -30 := by decide
  have e2 : (30 : Int32).toInt = 30 := by decide
  have e3 : (0 : Int32).toInt = 0 := by decide
  have e4 := nI_toInt (n := s) (by omega)
  rw [Int32.lt_iff_toInt_lt, Int32.lt_iff_toInt_lt, ti_sub (by omega) (by omega)]
  omega
theorem pos_n0 {c : Int32} {n : Nat} (hn : n < 2 ^ 31) (h : NB n c) : 0 < c ↔ ¬ c = 0 := by
  obtain ⟨k, hk, rfl⟩ := h
  rw [show (0 : Int32) = nI 0 from rfl, nI_ltI (by omega) (by omega), nI_eq (by omega) (by omega)]
  omega
theorem tg_eq {rt sh ch : Nat → Int32} {vc t : Int32} {k : Nat} (ht : RG (-30) 30 t) (hs : NB 5 (sh k)) (hc : NB 9 (ch k)) : tgV (rt k) (sh k) (ch k) vc t = givV rt sh ch vc t k := by
  unfold tgV givV
  by_cases h1 : t < sh k
  · rw [if_pos ((t_sh ht hs).mpr h1), if_pos h1]
  · rw [if_neg (fun z => h1 ((t_sh ht hs).mp z)), if_neg h1]
    by_cases h2 : ch k = 0
    · rw [if_pos h2, if_neg (fun z => (pos_n0 (by omega) hc).mp z h2)]
    · rw [if_neg h2, if_pos ((pos_n0 (by omega) hc).mpr h2)]
theorem mn_lt (a b : Int32) : (if a < b then a else b) = mn a b := by
  unfold mn
  by_cases h : b ≤ a
  · rw [if_pos h, if_neg (fun z => absurd h (Int32.not_le.mpr z))]
  · rw [if_neg h, if_pos (Int32.not_le.mp h)]
theorem mn_gt (a b : Int32) : (if b < a then b else a) = mn a b := by
  unfold mn
  by_cases h : b ≤ a
  · by_cases h2 : b < a
    · rw [if_pos h, if_pos h2]
    · rw [if_pos h, if_neg h2]; exact Int32.le_antisymm (Int32.not_lt.mp h2) h
  · rw [if_neg h, if_neg (fun z => h (Int32.le_of_lt z))]
theorem tc_eq {sh ch : Nat → Int32} {t : Int32} {k : Nat} (ht : RG (-30) 30 t) (hs : NB 5 (sh k)) (hc : NB 9 (ch k)) : tcV (sh k) (ch k) t = chgV sh ch t k := by
  unfold tcV chgV
  by_cases h1 : t < sh k
  · rw [if_pos ((t_sh ht hs).mpr h1), if_pos h1, mn_lt]
  · rw [if_neg (fun z => h1 ((t_sh ht hs).mp z)), if_neg h1]
    by_cases h2 : ch k = 0
    · rw [if_pos h2, if_neg (fun z => (pos_n0 (by omega) hc).mp z h2)]
    · rw [if_neg h2, if_pos ((pos_n0 (by omega) hc).mpr h2)]
theorem chg_NB {sh ch : Nat → Int32} {t : Int32} {k : Nat} (hc : NB 9 (ch k)) : NB 9 (chgV sh ch t k) := by
  obtain ⟨c, hc, e⟩ := hc
  unfold chgV
  by_cases h1 : t < sh k
  · rw [if_pos h1, e, show (9 : Int32) = nI 9 from rfl, nI_1]
    unfold mn
    by_cases h : nI 9 ≤ nI (c + 1)
    · rw [if_pos h]; exact ⟨9, Nat.le_refl _, rfl⟩
    · rw [if_neg h]; exact ⟨c + 1, by have := (not_congr (nI_leI (a := 9) (b := c + 1) (by omega) (by omega))).mp h; omega, rfl⟩
  · rw [if_neg h1]
    by_cases h2 : ch k = 0
    · rw [if_pos h2, h2]; exact NB.z
    · rw [if_neg h2, e]
      cases c with
      | zero => exact absurd e h2
      | succ c => rw [nI_pred]; exact ⟨c, by omega, rfl⟩
/-! sap poured, loaded: shares -/
theorem shr_b {v z r : Nat} (hr : r < v) (h1 : v ≤ z) (h2 : z ≤ 6 * v) : r ≤ z * r / v ∧ z * r / v ≤ 6 * r ∧ v - r ≤ z - z * r / v ∧ z - z * r / v ≤ 6 * (v - r) ∧ z * r / v ≤ z := by
  have hv : 0 < v := by omega
  have a1 : r ≤ z * r / v := (Nat.le_div_iff_mul_le hv).mpr (by rw [Nat.mul_comm]; exact Nat.mul_le_mul_right r h1)
  have a2 : z * r / v ≤ 6 * r := Nat.div_le_of_le_mul (by
    have : z * r ≤ 6 * v * r := Nat.mul_le_mul_right r h2
    rw [show v * (6 * r) = 6 * v * r by rw [← Nat.mul_assoc, Nat.mul_comm v 6]]
    exact this)
  obtain ⟨d, rfl⟩ : ∃ d, v = r + d := ⟨v - r, by omega⟩
  have a3 : z * r / (r + d) ≤ z - d := Nat.div_le_of_le_mul (by
    obtain ⟨y, rfl⟩ : ∃ y, z = r + d + y := ⟨z - (r + d), by omega⟩
    rw [show r + d + y - d = r + y by omega]
    simp only [Nat.add_mul, Nat.mul_add, Nat.mul_comm]
    omega)
  have a4 : z - 6 * d ≤ z * r / (r + d) := by
    by_cases h3 : z ≤ 6 * d
    · omega
    · obtain ⟨g, rfl⟩ : ∃ g, z = 6 * d + g := ⟨z - 6 * d, by omega⟩
      rw [show 6 * d + g - 6 * d = g by omega]
      refine (Nat.le_div_iff_mul_le hv).mpr ?_
      have h4 : g * d ≤ 6 * r * d := Nat.mul_le_mul_right d (by omega)
      rw [show (6 * d + g) * r = 6 * r * d + g * r by rw [Nat.add_mul, Nat.mul_assoc, Nat.mul_assoc, Nat.mul_comm d r], Nat.mul_add]
      omega
  refine ⟨a1, a2, by omega, by omega, by omega⟩
theorem shr_n {z r v : Nat} (hz : z ≤ 30000) (hr : r ≤ 5000) (hv : v < 2 ^ 31) (h0 : 0 < v) : ((nI z).toInt64 * (nI r).toInt64 / (nI v).toInt64).toInt32 = nI (z * r / v) := by
  have hm : z * r ≤ 30000 * 5000 := Nat.mul_le_mul hz hr
  rw [nI_l (by omega), nI_l (by omega), nI_l hv, lN_mul, pk_lDiv (by omega) h0 (by omega), lN_i]
theorem shr_all {z v : Nat} (hz : z ≤ 30000) (hv : v ≤ 5000) (h0 : 0 < v) : ((nI z).toInt64 * (nI v).toInt64 / (nI v).toInt64).toInt32 = nI z := by
  rw [shr_n hz hv (by omega) h0, Nat.mul_div_cancel z h0]
/-- a tank, a rest of sap -/
def TK (c x y : Int32) : Prop := ∃ cn v s : Nat, c = nI cn ∧ x = nI v ∧ y = nI s ∧ cn ≤ 5000 ∧ v ≤ cn ∧ v ≤ s ∧ s ≤ 6 * v
def LSv (x y : Int32) : Prop := ∃ v z : Nat, x = nI v ∧ y = nI z ∧ v ≤ 2380 ∧ v ≤ z ∧ z ≤ 6 * v
theorem pr_step {cp vo su : Nat → Int32} {t : Nat} {lf sg : Int32} (hL : LSv lf sg) (hT : TK (cp t) (vo t) (su t)) :
    prS cp t (lf, sg, vo, su) = (lf - mn lf (cp t - vo t), sg - shrV sg (mn lf (cp t - vo t)) lf, upd vo t (vo t + mn lf (cp t - vo t)), upd su t (su t + shrV sg (mn lf (cp t - vo t)) lf)) ∧
    LSv (lf - mn lf (cp t - vo t)) (sg - shrV sg (mn lf (cp t - vo t)) lf) ∧ TK (cp t) (vo t + mn lf (cp t - vo t)) (su t + shrV sg (mn lf (cp t - vo t)) lf) := by
  obtain ⟨v, z, rfl, rfl, h1, h2, h3⟩ := hL
  obtain ⟨cn, x, y, ec, ex, ey, h4, h5, h6, h7⟩ := hT
  rw [ec, ex, ey, pk_sub h5]
  have em : mn (nI v) (nI (cn - x)) = nI (min v (cn - x)) := by
    unfold mn
    by_cases h : nI (cn - x) ≤ nI v
    · rw [if_pos h, Nat.min_eq_right ((nI_leI (by omega) (by omega)).mp h)]
    · rw [if_neg h, Nat.min_eq_left (by have := (not_congr (nI_leI (a := cn - x) (b := v) (by omega) (by omega))).mp h; omega)]
  have ev : vo t = nI x := ex
  have eu : su t = nI y := ey
  rw [em]
  generalize hr : min v (cn - x) = r
  have hr1 : r ≤ v := by omega
  have hr2 : r ≤ cn - x := by omega
  by_cases h0 : v = 0
  · subst h0
    have e0 : r = 0 := by omega
    subst e0
    have ez : z = 0 := by omega
    subst ez
    have es : shrV (nI 0) (nI 0) (nI 0) = nI 0 := by decide +kernel
    rw [es]
    refine ⟨?_, ⟨0, 0, by rw [pk_sub (Nat.le_refl _)], by rw [pk_sub (Nat.le_refl _)], by omega, by omega, by omega⟩, ⟨cn, x, y, rfl, by rw [nI_add, Nat.add_zero], by rw [nI_add, Nat.add_zero], h4, h5, h6, h7⟩⟩
    simp only [prS]
    rw [if_pos (show nI 0 ≤ 0 by decide +kernel), pk_sub (Nat.le_refl _), nI_add, nI_add, Nat.add_zero, Nat.add_zero, ← ev, ← eu, upd_same, upd_same]
  · have hv0 : ¬ nI v ≤ 0 := nI_nle (by omega) (by omega)
    have hprs : prS cp t (nI v, nI z, vo, su) = (nI v - nI r, nI z - (if nI r = nI v then nI z else ((nI z).toInt64 * (nI r).toInt64 / (nI v).toInt64).toInt32), upd vo t (nI x + nI r), upd su t (nI y + (if nI r = nI v then nI z else ((nI z).toInt64 * (nI r).toInt64 / (nI v).toInt64).toInt32))) := by
      simp only [prS]
      rw [if_neg hv0, ec, ev, eu, pk_sub h5, em, hr]
    rw [hprs]
    by_cases hrv : r = v
    · subst hrv
      have es : shrV (nI z) (nI r) (nI r) = nI z := by rw [shrV, if_pos (Or.inr (Int32.le_refl _))]
      rw [es, if_pos rfl]
      refine ⟨rfl, ⟨0, 0, by rw [pk_sub (Nat.le_refl _), Nat.sub_self], by rw [pk_sub (Nat.le_refl _), Nat.sub_self], by omega, by omega, by omega⟩, ⟨cn, x + r, y + z, rfl, by rw [nI_add], by rw [nI_add], h4, by omega, by omega, by omega⟩⟩
    · have hlt : r < v := by omega
      obtain ⟨b1, b2, b3, b4, b5⟩ := shr_b hlt h2 h3
      have es : shrV (nI z) (nI r) (nI v) = nI (z * r / v) := by
        rw [shrV, if_neg (fun q => q.elim hv0 (fun q => absurd ((nI_leI (by omega) (by omega)).mp q) (by omega))), shr_n (by omega) (by omega) (by omega) (by omega)]
      rw [es, if_neg (fun q => hrv ((nI_eq (by omega) (by omega)).mp q)), shr_n (by omega) (by omega) (by omega) (by omega)]
      refine ⟨rfl, ⟨v - r, z - z * r / v, by rw [pk_sub hr1], by rw [pk_sub b5], by omega, b3, b4⟩, ⟨cn, x + r, y + z * r / v, rfl, by rw [nI_add], by rw [nI_add], h4, by omega, by omega, by omega⟩⟩
/-! the pan -/
theorem mx0_n {a b : Nat} (ha : a < 2 ^ 30) (hb : b < 2 ^ 30) : mx0 (nI a - nI b) = nI (a - b) := by
  unfold mx0
  by_cases h : b ≤ a
  · rw [pk_sub h]
    by_cases h0 : nI (a - b) ≤ 0
    · rw [if_pos h0]
      have := (nI_leI (a := a - b) (b := 0) (by omega) (by omega)).mp h0
      rw [show a - b = 0 by omega]; rfl
    · rw [if_neg h0]
  · rw [if_pos (Int32.le_of_lt (pk_sneg hb (by omega))), show a - b = 0 by omega]; rfl
theorem mn_n {a b : Nat} (ha : a < 2 ^ 31) (hb : b < 2 ^ 31) : mn (nI a) (nI b) = nI (min a b) := by
  unfold mn
  by_cases h : nI b ≤ nI a
  · rw [if_pos h, Nat.min_eq_right ((nI_leI (by omega) (by omega)).mp h)]
  · rw [if_neg h, Nat.min_eq_left (by have := (not_congr (nI_leI (a := b) (b := a) (by omega) (by omega))).mp h; omega)]
theorem lst_n {s : Nat} (hs : s ≤ 30000) : lstV (nI s) = nI ((s + 59) / 60) := by
  unfold lstV
  rw [show (60 : Int32) = nI 60 from rfl, show (1 : Int32) = nI 1 from rfl, nI_add, pk_sub (by omega), pk_div (by omega) (by omega) (by omega), show s + 60 - 1 = s + 59 by omega]
theorem bd_n {p s f : Nat} (hp : p ≤ 500) (hs : s ≤ 30000) (hf : f ≤ 9) : bdV (nI p) (nI s) (nI f) = nI (max ((s + 59) / 60) (p - 5 * f)) := by
  unfold bdV
  rw [lst_n hs, show (5 : Int32) = nI 5 from rfl, pk_mul]
  by_cases h : 5 * f ≤ p
  · rw [pk_sub h]
    by_cases h2 : nI ((s + 59) / 60) < nI (p - 5 * f)
    · rw [if_pos h2]
      have := (nI_ltI (by omega) (by omega)).mp h2
      exact congrArg nI (by omega)
    · rw [if_neg h2]
      have := (not_congr (nI_ltI (a := (s + 59) / 60) (b := p - 5 * f) (by omega) (by omega))).mp h2
      exact congrArg nI (by omega)
  · rw [if_neg (fun z => absurd (Int32.lt_trans z (pk_sneg (a := p) (b := 5 * f) (by omega) (by omega))) (nI_pos (by omega)))]
    exact congrArg nI (by omega)
theorem bv_n {p s f : Nat} (hp : p ≤ 500) (hs : s ≤ 30000) (hf : f ≤ 9) : bvV (nI p) (nI s) (nI f) = nI (min p (max ((s + 59) / 60) (p - 5 * f))) := by
  unfold bvV
  rw [bd_n hp hs hf]
  by_cases h2 : nI (max ((s + 59) / 60) (p - 5 * f)) < nI p
  · rw [if_pos h2]
    have := (nI_ltI (by omega) (by omega)).mp h2
    exact congrArg nI (by omega)
  · rw [if_neg h2]
    have := (not_congr (nI_ltI (a := max ((s + 59) / 60) (p - 5 * f)) (b := p) (by omega) (by omega))).mp h2
    exact congrArg nI (by omega)
theorem less_n {p s f : Nat} (hp : p ≤ 500) (hs : s ≤ 30000) (hf : f ≤ 9) : lessV (nI p) (nI s) (nI f) = nI (min (5 * f) (p - (s + 59) / 60)) := by
  unfold lessV
  rw [lst_n hs, show (5 : Int32) = nI 5 from rfl, pk_mul, mx0_n (by omega) (by omega), mn_n (by omega) (by omega)]
def PN (x y : Int32) : Prop := ∃ p s : Nat, x = nI p ∧ y = nI s ∧ p ≤ 500 ∧ p ≤ s ∧ s ≤ 60 * p
theorem boil_eq {pv ps fi : Int32} (hP : PN pv ps) (hF : NB 9 fi) : bvV pv ps fi = pv - lessV pv ps fi ∧ pv - bvV pv ps fi = lessV pv ps fi ∧ (∀ bo, bbV pv ps bo fi = if lessV pv ps fi ≤ 0 then bo else bo + 1) ∧ PN (bvV pv ps fi) ps := by
  obtain ⟨p, s, rfl, rfl, h1, h2, h3⟩ := hP
  obtain ⟨f, hf, rfl⟩ := hF
  have hs : s ≤ 30000 := by omega
  rw [bv_n h1 hs hf, less_n h1 hs hf, pk_sub (by omega), pk_sub (by omega)]
  refine ⟨congrArg nI (by omega), congrArg nI (by omega), fun bo => ?_, ⟨_, s, rfl, rfl, by omega, by omega, by omega⟩⟩
  unfold bbV
  rw [bd_n h1 hs hf]
  by_cases h4 : nI (min (5 * f) (p - (s + 59) / 60)) ≤ 0
  · have h5 := (nI_leI (b := 0) (by omega) (by omega)).mp h4
    rw [if_pos h4, if_neg (fun z => ?_)]
    have h6 := (nI_ltI (by omega) (by omega)).mp z
    omega
  · have h5 : ¬ min (5 * f) (p - (s + 59) / 60) ≤ 0 := fun z => h4 ((nI_leI (b := 0) (by omega) (by omega)).mpr z)
    rw [if_neg h4, if_pos ((nI_ltI (by omega) (by omega)).mpr (by omega))]
theorem dn_n {p s : Nat} (hp : p ≤ 500) (hs : s ≤ 30000) : dnP (nI p) (nI s) ↔ 0 < p ∧ p ≤ (s + 59) / 60 := by
  unfold dnP
  rw [lst_n hs, nI_ltI (by omega) (by omega), show (0 : Int32) = nI 0 from rfl, nI_leI (by omega) (by omega)]
  omega
theorem bvI_n {p s f : Nat} (hp : p ≤ 500) (hs : s ≤ 30000) (hf : f ≤ 9) (hL : (s + 59) / 60 ≤ p) : ∀ k, bvI (nI p) (nI s) (nI f) k = nI (max ((s + 59) / 60) (p - k * (5 * f))) := by
  intro k
  induction k with
  | zero => exact congrArg nI (by omega)
  | succ k ih =>
    rw [show (k + 1) * (5 * f) = k * (5 * f) + 5 * f from Nat.succ_mul k (5 * f)]
    generalize k * (5 * f) = x at ih ⊢
    rw [show bvI (nI p) (nI s) (nI f) (k + 1) = bvV (bvI (nI p) (nI s) (nI f) k) (nI s) (nI f) from rfl, ih, bv_n (by omega) hs hf]
    exact congrArg nI (by omega)
theorem fnd_long {pv ps fi : Int32} (hP : PN pv ps) (hF : NB 9 fi) (h : cfLong pv ps fi = 0) : nI (fnd (fun j => dnP (bvI pv ps fi j) ps) 500) = longV pv ps fi := by
  obtain ⟨p, s, rfl, rfl, h1, h2, h3⟩ := hP
  obtain ⟨f, hf, rfl⟩ := hF
  have hs : s ≤ 30000 := by omega
  by_cases hd : dnP (nI p) (nI s)
  · rw [longV, if_pos hd, fnd_at (P := fun j => dnP (bvI (nI p) (nI s) (nI f) j) (nI s)) (k := 0) (fun j hj => absurd hj (Nat.not_lt_zero j)) (by omega) hd]; rfl
  · rw [longV, if_neg hd]
    have hfi := cfLong_fi h hd
    have hp0 : ¬ nI p = 0 := by
      intro z
      rw [cfLong, if_pos z] at h
      exact absurd h (by decide)
    have hp1 : ¬ p = 0 := fun z => hp0 (by rw [z]; rfl)
    have hf1 : ¬ f = 0 := fun z => hfi (by rw [z]; rfl)
    have hd1 := (not_congr (dn_n h1 hs)).mp hd
    have e : (nI p - lstV (nI s) + 5 * nI f - 1) / (5 * nI f) = nI ((p - (s + 59) / 60 + 5 * f - 1) / (5 * f)) := by
      rw [lst_n hs, show (5 : Int32) = nI 5 from rfl, show (1 : Int32) = nI 1 from rfl, pk_mul, pk_sub (by omega), nI_add, pk_sub (by omega), pk_div (by omega) (by omega) (by omega)]
    rw [e]
    refine congrArg nI ?_
    generalize hk : (p - (s + 59) / 60 + 5 * f - 1) / (5 * f) = k
    have k1 : k * (5 * f) ≤ p - (s + 59) / 60 + 5 * f - 1 := by rw [← hk]; exact Nat.div_mul_le_self _ _
    have k2 : p - (s + 59) / 60 + 5 * f - 1 < (k + 1) * (5 * f) := (Nat.div_lt_iff_lt_mul (by omega)).mp (by omega)
    have k3 : (k + 1) * (5 * f) = k * (5 * f) + 5 * f := Nat.succ_mul k (5 * f)
    have hP : ∀ j, dnP (bvI (nI p) (nI s) (nI f) j) (nI s) ↔ p - (s + 59) / 60 ≤ j * (5 * f) := by
      intro j
      rw [bvI_n h1 hs hf (by omega), dn_n (by omega) hs]
      omega
    refine fnd_at (fun j hj => ?_) ?_ ((hP k).mpr (by omega))
    · intro z
      have z1 := (hP j).mp z
      have z2 : (j + 1) * (5 * f) ≤ k * (5 * f) := Nat.mul_le_mul_right _ hj
      have z3 : (j + 1) * (5 * f) = j * (5 * f) + 5 * f := Nat.succ_mul j (5 * f)
      omega
    · refine (Nat.lt_or_ge k 500).resolve_right (fun z => ?_)
      have z2 : 500 * (5 * f) ≤ k * (5 * f) := Nat.mul_le_mul_right _ z
      omega
/-! ranks -/
theorem fndF_congr {P Q : Nat → Prop} [DecidablePred P] [DecidablePred Q] : ∀ (f k : Nat), (∀ j, k ≤ j → j < k + f → (P j ↔ Q j)) → fndF P f k = fndF Q f k := by
  intro f
  induction f with
  | zero => intro k _; rfl
  | succ f ih =>
    intro k h
    simp only [fndF]
    rw [ih (k + 1) (fun j h1 h2 => h j (by omega) (by omega))]
    by_cases hp : P k
    · rw [if_pos hp, if_pos ((h k (Nat.le_refl k) (by omega)).mp hp)]
    · rw [if_neg hp, if_neg (fun z => hp ((h k (Nat.le_refl k) (by omega)).mpr z))]
theorem fnd_congr {P Q : Nat → Prop} [DecidablePred P] [DecidablePred Q] {n : Nat} (h : ∀ j, j < n → (P j ↔ Q j)) : fnd P n = fnd Q n := fndF_congr n 0 (fun j _ h2 => h j (by omega))
theorem rank_congr {P Q : Nat → Prop} [DecidablePred P] [DecidablePred Q] {n : Nat} (h : ∀ j, j < n → (P j ↔ Q j)) : cfRank P n = cfRank Q n := by
  unfold cfRank; rw [fnd_congr h]
theorem rkW_lt {g wo : Nat → Int32} : ∀ (k j : Nat), j < k → rkW g wo k j = if 0 < g j then g j else -1 := by
  intro k
  induction k with
  | zero => intro j h; omega
  | succ k ih =>
    intro j hj
    simp only [rkW]
    by_cases e : j = k
    · subst e; rw [pk_us]
    · rw [pk_un e]; exact ih j (by omega)
theorem rkT_lt {kd g wo : Nat → Int32} : ∀ (k j : Nat), j < k → rkT kd g wo k j = if kd j = 2 then g j else -1 := by
  intro k
  induction k with
  | zero => intro j h; omega
  | succ k ih =>
    intro j hj
    simp only [rkT]
    by_cases e : j = k
    · subst e; rw [pk_us]
    · rw [pk_un e]; exact ih j (by omega)
theorem m1_lt {x : Int32} (h : 0 < x) : -1 < x := Int32.lt_trans (by decide) h
theorem m1_le {x : Int32} (h : 0 ≤ x) : -1 < x := by
  rw [Int32.lt_iff_toInt_lt]
  rw [Int32.le_iff_toInt_le] at h
  have e1 : (-1 : Int32).toInt = -1 := by decide
  have e0 : (0 : Int32).toInt = 0 := by decide
  omega
theorem ne_m1 {x : Int32} (h : -1 < x) : x ≠ -1 := fun e => by rw [e] at h; exact absurd h Int32.lt_irrefl
theorem sus_iff {g wo : Nat → Int32} {n j : Nat} {rk : Int32} (hj : j < n) : ndP (rkW g wo n) n rk j ↔ susP g n rk j := by
  by_cases h : 0 < g j
  · have ew : rkW g wo n j = g j := (rkW_lt n j hj).trans (if_pos h)
    have e : cntV (ahP (rkW g wo n) j) n = cntV (ahP g j) n := cntV_congr n (fun o ho => by
      unfold ahP
      rw [ew, rkW_lt n o ho]
      by_cases h2 : 0 < g o
      · rw [if_pos h2]
      · rw [if_neg h2]
        have h3 : ¬ g j < g o := fun z => h2 (Int32.lt_trans h z)
        have h4 : ¬ g o = g j := fun z => h2 (by rw [z]; exact h)
        have h5 : ¬ g j < -1 := fun z => absurd (Int32.lt_trans z (m1_lt h)) Int32.lt_irrefl
        have h6 : ¬ (-1 : Int32) = g j := fun z => ne_m1 (m1_lt h) z.symm
        exact ⟨fun z => z.elim (fun z => absurd z h5) (fun z => absurd z.1 h6), fun z => z.elim (fun z => absurd z h3) (fun z => absurd z.1 h4)⟩)
    exact ⟨fun z => ⟨h, e.symm.trans z.2⟩, fun z => ⟨fun q => ne_m1 (m1_lt h) (ew.symm.trans q), e.trans z.2⟩⟩
  · have ew : rkW g wo n j = -1 := (rkW_lt n j hj).trans (if_neg h)
    exact ⟨fun z => absurd ew z.1, fun z => absurd z.1 h⟩
theorem yld_iff {kd g wo : Nat → Int32} {n j : Nat} {rk : Int32} (hg : ∀ o, kd o = 2 → 0 ≤ g o) (hj : j < n) : ndP (rkT kd g wo n) n rk j ↔ yldP kd g n rk j := by
  by_cases h : kd j = 2
  · have ew : rkT kd g wo n j = g j := (rkT_lt n j hj).trans (if_pos h)
    have h0 := m1_le (hg j h)
    have e : cntV (ahP (rkT kd g wo n) j) n = cntV (fun o => kd o = 2 ∧ ahP g j o) n := cntV_congr n (fun o ho => by
      unfold ahP
      rw [ew, rkT_lt n o ho]
      by_cases h2 : kd o = 2
      · rw [if_pos h2]
        exact ⟨fun z => ⟨h2, z⟩, fun z => z.2⟩
      · rw [if_neg h2]
        have h5 : ¬ g j < -1 := fun z => absurd (Int32.lt_trans z h0) Int32.lt_irrefl
        have h6 : ¬ (-1 : Int32) = g j := fun z => ne_m1 h0 z.symm
        exact ⟨fun z => z.elim (fun z => absurd z h5) (fun z => absurd z.1 h6), fun z => absurd z.1 h2⟩)
    exact ⟨fun z => ⟨h, e.symm.trans z.2⟩, fun z => ⟨fun q => ne_m1 h0 (ew.symm.trans q), e.trans z.2⟩⟩
  · have ew : rkT kd g wo n j = -1 := (rkT_lt n j hj).trans (if_neg h)
    exact ⟨fun z => absurd ew z.1, fun z => absurd z.1 h⟩
theorem ol_own {n : Nat} {se : Int32} {pa dr lk ex vc : Nat → Int32} (hp : PAR n pa) (hn : n ≤ 20) {j : Nat} (hj : j < n) : olV (swV (expV se pa dr) ex n) (swV (vac n se pa dr lk) vc n) pa j = ownV n se pa dr lk j := by
  unfold olV ownV losV
  rw [swV_lt hj, swV_lt hj]
  by_cases h : j = 0
  · rw [if_pos h, if_pos h]
  · rw [if_neg h, if_neg h]
    obtain ⟨i, hi, e⟩ := hp j (by omega) hj
    rw [e, nI_clamp (by omega), swV_lt (by omega), swV_lt (by omega)]
theorem sus_congr {g1 g2 : Nat → Int32} {n j : Nat} {rk : Int32} (h : ∀ o, o < n → g1 o = g2 o) (hj : j < n) : susP g1 n rk j ↔ susP g2 n rk j := by
  have e : cntV (ahP g1 j) n = cntV (ahP g2 j) n := cntV_congr n (fun o ho => by unfold ahP; rw [h j hj, h o ho])
  have e2 := h j hj
  exact ⟨fun z => ⟨by rw [← e2]; exact z.1, e.symm.trans z.2⟩, fun z => ⟨by rw [e2]; exact z.1, e.trans z.2⟩⟩
/-! accounts -/
theorem subL_sum (f : Nat → Int32) (v : Int64) : ∀ n, subL f v n = v - sumL f n := by
  intro n
  induction n with
  | zero => rw [show subL f v 0 = v from rfl, show sumL f 0 = 0 from rfl]; grind
  | succ n ih => rw [← subL_S, ih, show sumL f (n + 1) = sumL f n + (f n).toInt64 from rfl]; grind
theorem sumL_tk0 (f : Nat → Int32) (n : Nat) : ∀ m, m ≤ n → sumL (tkF f n) m = sumL f m := by
  intro m
  induction m with
  | zero => intro _; rfl
  | succ m ih => intro h; rw [← tk_y (by omega), ih (by omega)]; rfl
theorem sumL_tk (f : Nat → Int32) (n : Nat) : ∀ d, sumL (tkF f n) (n + d) = sumL f n := by
  intro d
  induction d with
  | zero => exact sumL_tk0 f n n (Nat.le_refl n)
  | succ d ih => rw [show n + (d + 1) = n + d + 1 from rfl, ← tk_n (by omega), ih]; grind
theorem sumL_4 (f : Nat → Int32) {n : Nat} (h : n ≤ 4) : sumL (tkF f n) 4 = sumL f n := by
  have e := sumL_tk f n (4 - n)
  rwa [show n + (4 - n) = 4 by omega] at e
theorem miss_eq {un : Nat → Nat} {ui : Nat → Int32} {ul : Nat → Int64} {ua : Nat → Nat → Int32} (h : un 2 ≤ 4) : ul 0 - ul 2 - sumL (ua 12) (un 3) - sumL (tkF (ua 10) (un 2)) 4 - (ui 1).toInt64 = missV un ui ul ua := by
  unfold missV
  rw [subL_sum, subL_sum, sumL_4 _ h]; grind
theorem bal_eq {un : Nat → Nat} {ui : Nat → Int32} {ul : Nat → Int64} {ua : Nat → Nat → Int32} (h : un 2 ≤ 4) : (ul 3 = ul 0 - ul 2 - sumL (ua 12) (un 3) - sumL (tkF (ua 10) (un 2)) 4 - (ui 1).toInt64 ∧ ul 1 = ul 4 + sumL (ua 13) (un 3) + sumL (tkF (ua 11) (un 2)) 4 + (ui 2).toInt64) ↔ balP un ui ul ua := by
  unfold balP swtV
  rw [miss_eq h, subL_sum, subL_sum, sumL_4 _ h]
  refine and_congr eq_comm ?_
  constructor
  · intro z; rw [z]; grind
  · intro z; grind
/-! the pool of taps, rows, tanks, its words by themselves -/
def PLg (cA : Nat → ClassId) (kd rt sw sh ch sa tt : Nat → Int32) (nk : Nat) (cp vo su : Nat → Int32) (L : List Nat) (f : Nat → va_E) (tf kf : Nat → Option Nat) (ta ga ka : Nat → Nat) : Prop :=
  (∀ j, j < 20 → tf j = if kd j = 2 then some (ta j) else none) ∧
  (∀ j, j < 20 → kd j = 2 → ta j ∈ L ∧ ga j ∈ L ∧ f (ta j) = .inr (4, [.int (rt j), .int (sw j), .int (sh j), .ref (ga j), .int (ch j), .int (tt j)]) ∧ ∃ g : Nat → Int32, f (ga j) = .inl (cA 0, 200, .inl g) ∧ ∀ h, h < 200 → g h = sa (200 * j + h)) ∧
  (∀ i j, i < 20 → j < 20 → kd i = 2 → kd j = 2 → ta i = ta j → i = j) ∧
  (∀ i j, i < 20 → j < 20 → kd i = 2 → kd j = 2 → ga i = ga j → i = j) ∧
  (∀ t, t < 4 → kf t = if t < nk then some (ka t) else none) ∧
  (∀ t, t < nk → ka t ∈ L ∧ f (ka t) = .inr (3, [.int (cp t), .int (vo t), .int (su t)])) ∧
  (∀ i j, i < nk → j < nk → ka i = ka j → i = j)
theorem PL_g {cA : Nat → ClassId} {un : Nat → Nat} {ua : Nat → Nat → Int32} {L : List Nat} {f : Nat → va_E} {tf kf : Nat → Option Nat} {ta ga ka : Nat → Nat} : PL cA un ua L f tf kf ta ga ka ↔ PLg cA (ua 0) (ua 3) (ua 4) (ua 5) (ua 6) (ua 8) (fun j => totS (ua 8) j (un 1)) (un 2) (ua 9) (ua 10) (ua 11) L f tf kf ta ga ka := Iff.rfl
theorem nm_ne {L : List Nat} {x a : Nat} (h1 : x ∈ L) (ha : a ∉ L) : x ≠ a := fun e => ha (by rw [← e]; exact h1)
section PLG
variable {cA : Nat → ClassId} {kd rt sw sh ch sa tt cp vo su : Nat → Int32} {nk : Nat} {L : List Nat} {f : Nat → va_E} {tf kf : Nat → Option Nat} {ta ga ka : Nat → Nat}
theorem PLg.tg (h : PLg cA kd rt sw sh ch sa tt nk cp vo su L f tf kf ta ga ka) {i j : Nat} (hi : i < 20) (hj : j < 20) (ki : kd i = 2) (kj : kd j = 2) : ta i ≠ ga j := by
  intro e
  obtain ⟨-, -, h1, -⟩ := h.2.1 i hi ki
  obtain ⟨-, -, -, g, h2, -⟩ := h.2.1 j hj kj
  rw [e, h2] at h1
  cases h1
theorem PLg.kt (h : PLg cA kd rt sw sh ch sa tt nk cp vo su L f tf kf ta ga ka) {i j : Nat} (hi : i < nk) (hj : j < 20) (kj : kd j = 2) : ka i ≠ ta j := by
  intro e
  obtain ⟨-, h1⟩ := h.2.2.2.2.2.1 i hi
  obtain ⟨-, -, h2, -⟩ := h.2.1 j hj kj
  rw [e, h2] at h1
  cases h1
theorem PLg.kg (h : PLg cA kd rt sw sh ch sa tt nk cp vo su L f tf kf ta ga ka) {i j : Nat} (hi : i < nk) (hj : j < 20) (kj : kd j = 2) : ka i ≠ ga j := by
  intro e
  obtain ⟨-, h1⟩ := h.2.2.2.2.2.1 i hi
  obtain ⟨-, -, -, g, h2, -⟩ := h.2.1 j hj kj
  rw [e, h2] at h1
  cases h1
theorem vu_s {g : Nat → va_E} {a : Nat} {x : va_E} : va_up g a x a = x := if_pos rfl
theorem vu_n {g : Nat → va_E} {a b : Nat} {x : va_E} (h : b ≠ a) : va_up g a x b = g b := if_neg h
theorem vo_s {g : Nat → Option Nat} {a : Nat} {x : Option Nat} : va_up g a x a = x := if_pos rfl
theorem vo_n {g : Nat → Option Nat} {a b : Nat} {x : Option Nat} (h : b ≠ a) : va_up g a x b = g b := if_neg h
theorem vn_s {g : Nat → Nat} {a x : Nat} : va_up g a x a = x := if_pos rfl
theorem vn_n {g : Nat → Nat} {a b x : Nat} (h : b ≠ a) : va_up g a x b = g b := if_neg h
/-- a tank changed -/
theorem PLg.tank (h : PLg cA kd rt sw sh ch sa tt nk cp vo su L f tf kf ta ga ka) {t : Nat} (ht : t < nk) (x y : Int32) : PLg cA kd rt sw sh ch sa tt nk cp (upd vo t x) (upd su t y) L (va_up f (ka t) (.inr (3, [.int (cp t), .int x, .int y]))) tf kf ta ga ka := by
  refine ⟨h.1, fun j hj kj => ?_, h.2.2.1, h.2.2.2.1, h.2.2.2.2.1, fun i hi => ?_, h.2.2.2.2.2.2⟩
  · obtain ⟨h1, h2, h3, g, h4, h5⟩ := h.2.1 j hj kj
    exact ⟨h1, h2, by rw [vu_n (h.kt ht hj kj).symm, h3], g, by rw [vu_n (h.kg ht hj kj).symm, h4], h5⟩
  · obtain ⟨h1, h2⟩ := h.2.2.2.2.2.1 i hi
    refine ⟨h1, ?_⟩
    by_cases e : i = t
    · subst e; rw [vu_s, pk_us, pk_us]
    · rw [vu_n (fun z => e (h.2.2.2.2.2.2 i t hi ht z)), h2, pk_un e, pk_un e]
/-- a tap has run -/
theorem PLg.tap (h : PLg cA kd rt sw sh ch sa tt nk cp vo su L f tf kf ta ga ka) {k ho : Nat} (hk : k < 20) (hkd : kd k = 2) (hho : ho < 200) {g : Nat → Int32} (hg : f (ga k) = .inl (cA 0, 200, .inl g)) (x c y : Int32) : PLg cA kd rt sw sh (upd ch k c) (upd sa (200 * k + ho) x) (upd tt k y) nk cp vo su L (va_up (va_up f (ta k) (.inr (4, [.int (rt k), .int (sw k), .int (sh k), .ref (ga k), .int c, .int y]))) (ga k) (.inl (cA 0, 200, .inl (upd g ho x)))) tf kf ta ga ka := by
  refine ⟨h.1, fun j hj kj => ?_, h.2.2.1, h.2.2.2.1, h.2.2.2.2.1, fun i hi => ?_, h.2.2.2.2.2.2⟩
  · obtain ⟨h1, h2, h3, g2, h4, h5⟩ := h.2.1 j hj kj
    by_cases e : j = k
    · subst e
      have eg : g2 = g := by
        rw [h4] at hg
        injection hg with hg
        injection hg with _ hg
        injection hg with _ hg
        injection hg
      subst eg
      refine ⟨h1, h2, ?_, _, vu_s, fun i hi => ?_⟩
      · rw [vu_n (h.tg hj hj kj kj), vu_s, pk_us, pk_us]
      · by_cases e2 : i = ho
        · subst e2; rw [pk_us, pk_us]
        · rw [pk_un e2, pk_un (by omega)]; exact h5 i hi
    · refine ⟨h1, h2, ?_, g2, ?_, fun i hi => ?_⟩
      · rw [vu_n (h.tg hj hk kj hkd), vu_n (fun z => e (h.2.2.1 j k hj hk kj hkd z)), h3, pk_un e, pk_un e]
      · rw [vu_n (fun z => e (h.2.2.2.1 j k hj hk kj hkd z)), vu_n (fun z => h.tg hk hj hkd kj z.symm), h4]
      · rw [pk_un (by omega)]; exact h5 i hi
  · obtain ⟨h1, h2⟩ := h.2.2.2.2.2.1 i hi
    exact ⟨h1, by rw [vu_n (h.kg hi hk hkd), vu_n (h.kt hi hk hkd), h2]⟩
/-- a tap added at the node n: its cell a, its row b -/
theorem PLg.addT (h : PLg cA kd rt sw sh ch sa tt nk cp vo su L f tf kf ta ga ka) {n a b : Nat} (hkn : ¬ kd n = 2) (ha : a ∉ L) (hb : b ∉ L) (hab : a ≠ b) (hch : ch n = 0) (htt : tt n = 0) (hsa : ∀ h, h < 200 → sa (200 * n + h) = 0) (r w s : Int32) :
    PLg cA (upd kd n 2) (upd rt n r) (upd sw n w) (upd sh n s) ch sa tt nk cp vo su (L ++ [a] ++ [b]) (va_up (va_up f a (.inr (4, [.int r, .int w, .int s, .ref b, .int 0, .int 0]))) b (.inl (cA 0, 200, .inl (fun _ => 0)))) (va_up tf n (some a)) kf (va_up ta n a) (va_up ga n b) ka := by
  have kdn : ∀ j, upd kd n 2 j = 2 → j ≠ n → kd j = 2 := fun j hj e => by rwa [pk_un e] at hj
  have nT : ∀ j, j < 20 → kd j = 2 → ta j ≠ a ∧ ta j ≠ b ∧ ga j ≠ a ∧ ga j ≠ b := fun j hj kj => by
    obtain ⟨h1, h2, -⟩ := h.2.1 j hj kj
    exact ⟨fun e => ha (e ▸ h1), fun e => hb (e ▸ h1), fun e => ha (e ▸ h2), fun e => hb (e ▸ h2)⟩
  refine ⟨fun j hj => ?_, fun j hj kj => ?_, fun i j hi hj ki kj e => ?_, fun i j hi hj ki kj e => ?_, h.2.2.2.2.1, fun i hi => ?_, h.2.2.2.2.2.2⟩
  · by_cases e : j = n
    · subst e; rw [vo_s, pk_us, if_pos rfl, vn_s]
    · rw [vo_n e, pk_un e, vn_n e]; exact h.1 j hj
  · by_cases e : j = n
    · subst e
      refine ⟨by rw [vn_s]; simp, by rw [vn_s]; simp, ?_, fun _ => 0, by rw [vn_s, vu_s], fun i hi => (hsa i hi).symm⟩
      rw [vn_s, vn_s, vu_n hab, vu_s, pk_us, pk_us, pk_us, hch, htt]
    · have kj' := kdn j kj e
      obtain ⟨h1, h2, h3, g, h4, h5⟩ := h.2.1 j hj kj'
      obtain ⟨n1, n2, n3, n4⟩ := nT j hj kj'
      rw [vn_n e, vn_n e, pk_un e, pk_un e, pk_un e, vu_n n2, vu_n n1, vu_n n4, vu_n n3]
      exact ⟨by simp [h1], by simp [h2], h3, g, h4, h5⟩
  · by_cases e1 : i = n
    · by_cases e2 : j = n
      · rw [e1, e2]
      · subst e1; rw [vn_s, vn_n e2] at e; exact absurd e.symm (nT j hj (kdn j kj e2)).1
    · by_cases e2 : j = n
      · subst e2; rw [vn_s, vn_n e1] at e; exact absurd e (nT i hi (kdn i ki e1)).1
      · rw [vn_n e1, vn_n e2] at e; exact h.2.2.1 i j hi hj (kdn i ki e1) (kdn j kj e2) e
  · by_cases e1 : i = n
    · by_cases e2 : j = n
      · rw [e1, e2]
      · subst e1; rw [vn_s, vn_n e2] at e; exact absurd e.symm (nT j hj (kdn j kj e2)).2.2.2
    · by_cases e2 : j = n
      · subst e2; rw [vn_s, vn_n e1] at e; exact absurd e (nT i hi (kdn i ki e1)).2.2.2
      · rw [vn_n e1, vn_n e2] at e; exact h.2.2.2.1 i j hi hj (kdn i ki e1) (kdn j kj e2) e
  · obtain ⟨h1, h2⟩ := h.2.2.2.2.2.1 i hi
    exact ⟨by simp [h1], by rw [vu_n (nm_ne h1 hb), vu_n (nm_ne h1 ha), h2]⟩
/-- a tank added: its cell a -/
theorem PLg.addK (h : PLg cA kd rt sw sh ch sa tt nk cp vo su L f tf kf ta ga ka) {a : Nat} (ha : a ∉ L) (hvo : vo nk = 0) (hsu : su nk = 0) (c : Int32) :
    PLg cA kd rt sw sh ch sa tt (nk + 1) (upd cp nk c) vo su (L ++ [a]) (va_up f a (.inr (3, [.int c, .int 0, .int 0]))) tf (va_up kf nk (some a)) ta ga (va_up ka nk a) := by
  refine ⟨h.1, fun j hj kj => ?_, h.2.2.1, h.2.2.2.1, fun t ht => ?_, fun t ht => ?_, fun i j hi hj e => ?_⟩
  · obtain ⟨h1, h2, h3, g, h4, h5⟩ := h.2.1 j hj kj
    exact ⟨by simp [h1], by simp [h2], by rw [vu_n (nm_ne h1 ha), h3], g, by rw [vu_n (nm_ne h2 ha), h4], h5⟩
  · by_cases e : t = nk
    · subst e; rw [vo_s, if_pos (Nat.lt_succ_self _), vn_s]
    · rw [vo_n e, vn_n e, h.2.2.2.2.1 t ht]
      by_cases e2 : t < nk
      · rw [if_pos e2, if_pos (by omega)]
      · rw [if_neg e2, if_neg (by omega)]
  · by_cases e : t = nk
    · subst e; rw [vn_s, vu_s, pk_us, hvo, hsu]; exact ⟨by simp, rfl⟩
    · obtain ⟨h1, h2⟩ := h.2.2.2.2.2.1 t (by omega)
      rw [vn_n e, pk_un e, vu_n (nm_ne h1 ha)]
      exact ⟨by simp [h1], h2⟩
  · by_cases e1 : i = nk
    · by_cases e2 : j = nk
      · rw [e1, e2]
      · subst e1; rw [vn_s, vn_n e2] at e; exact absurd (e ▸ (h.2.2.2.2.2.1 j (by omega)).1) ha
    · by_cases e2 : j = nk
      · subst e2; rw [vn_s, vn_n e1] at e; exact absurd (e.symm ▸ (h.2.2.2.2.2.1 i (by omega)).1) ha
      · rw [vn_n e1, vn_n e2] at e; exact h.2.2.2.2.2.2 i j (by omega) (by omega) e
/-- other words for the same -/
theorem PLg.re {kd' rt' sw' sh' ch' sa' tt' cp' vo' su' : Nat → Int32} (h : PLg cA kd rt sw sh ch sa tt nk cp vo su L f tf kf ta ga ka) (hk : ∀ j, j < 20 → (kd' j = 2 ↔ kd j = 2)) (h1 : ∀ j, j < 20 → kd j = 2 → rt' j = rt j ∧ sw' j = sw j ∧ sh' j = sh j ∧ ch' j = ch j ∧ tt' j = tt j ∧ ∀ i, i < 200 → sa' (200 * j + i) = sa (200 * j + i)) (h2 : ∀ t, t < nk → cp' t = cp t ∧ vo' t = vo t ∧ su' t = su t) : PLg cA kd' rt' sw' sh' ch' sa' tt' nk cp' vo' su' L f tf kf ta ga ka := by
  refine ⟨fun j hj => ?_, fun j hj kj => ?_, fun i j hi hj ki kj => h.2.2.1 i j hi hj ((hk i hi).mp ki) ((hk j hj).mp kj), fun i j hi hj ki kj => h.2.2.2.1 i j hi hj ((hk i hi).mp ki) ((hk j hj).mp kj), h.2.2.2.2.1, fun t ht => ?_, h.2.2.2.2.2.2⟩
  · rw [h.1 j hj]
    by_cases e : kd j = 2
    · rw [if_pos e, if_pos ((hk j hj).mpr e)]
    · rw [if_neg e, if_neg (fun z => e ((hk j hj).mp z))]
  · have kj' := (hk j hj).mp kj
    obtain ⟨a1, a2, a3, g, a4, a5⟩ := h.2.1 j hj kj'
    obtain ⟨b1, b2, b3, b4, b5, b6⟩ := h1 j hj kj'
    rw [b1, b2, b3, b4, b5]
    exact ⟨a1, a2, a3, g, a4, fun i hi => (a5 i hi).trans (b6 i hi).symm⟩
  · obtain ⟨c1, c2, c3⟩ := h2 t ht
    rw [c1, c2, c3]
    exact h.2.2.2.2.2.1 t ht
end PLG
/-! the world, a pool cell and a row set -/
theorem set_c1 {w : va_W} {i j : Nat} {y z : Nat × va_E} (h : j ≠ i) : ((w.set j y).set i z) = (w.set i z).set j y := List.set_comm _ _ h
theorem set_c2 {w : va_W} {i j : Nat} {x y z : Nat × va_E} (h : j ≠ i) : (((w.set i x).set j y).set i z) = (w.set i z).set j y := by
  rw [set_c1 h, set2]
theorem pl_set2 {A : Nat → Prop} {X : va_W} {L : List Nat} {f : Nat → va_E} {a b i j : Nat} {x y : va_E} (hD : va_D A (X ++ va_pl L f)) (ha : a ∈ L) (hb : b ∈ L) (hab : b ≠ a) (hi : (X ++ va_pl L f)[i]? = some (a, f a)) (hj : (X ++ va_pl L f)[j]? = some (b, f b)) : ((X ++ va_pl L f).set i (a, x)).set j (b, y) = X ++ va_pl L (va_up (va_up f a x) b y) := by
  have hij : i ≠ j := by
    intro e
    subst e
    exact hab (congrArg Prod.fst (Option.some.inj (hi.symm.trans hj))).symm
  have h1 := va_pl_set (e := x) hD ha hi
  rw [h1]
  refine va_pl_set (A := A) (by rw [← h1]; exact hD.set hi) hb ?_
  rw [← h1, List.getElem?_set_ne hij, hj, vu_n hab]
/-- the kept totals in an hour -/
def hrT (kd rt sh ch vc : Nat → Int32) (t : Int32) (T : Nat → Int32) : Nat → (Nat → Int32)
  | 0 => T
  | k + 1 => if kd k = 2 then upd (hrT kd rt sh ch vc t T k) k (hrT kd rt sh ch vc t T k k + hrG kd rt sh ch vc t k) else hrT kd rt sh ch vc t T k
theorem hrT_ge {kd rt sh ch vc T : Nat → Int32} {t : Int32} : ∀ (k j : Nat), k ≤ j → hrT kd rt sh ch vc t T k j = T j := by
  intro k
  induction k with
  | zero => intro j _; rfl
  | succ k ih =>
    intro j hj
    simp only [hrT]
    by_cases h : kd k = 2
    · rw [if_pos h, pk_un (by omega)]; exact ih j (by omega)
    · rw [if_neg h]; exact ih j (by omega)
theorem hrT_lt {kd rt sh ch vc T : Nat → Int32} {t : Int32} : ∀ (k j : Nat), j < k → kd j = 2 → hrT kd rt sh ch vc t T k j = T j + hrG kd rt sh ch vc t j := by
  intro k
  induction k with
  | zero => intro j h; omega
  | succ k ih =>
    intro j hj hkd
    simp only [hrT]
    by_cases e : j = k
    · subst e
      rw [if_pos hkd, pk_us, hrT_ge j j (Nat.le_refl _)]
    · by_cases h : kd k = 2
      · rw [if_pos h, pk_un e]; exact ih j (by omega) hkd
      · rw [if_neg h]; exact ih j (by omega) hkd
theorem hrT_n {kd rt sh ch vc T : Nat → Int32} {t : Int32} {k : Nat} (h : ¬ kd k = 2) : hrT kd rt sh ch vc t T k = hrT kd rt sh ch vc t T (k + 1) := (if_neg h).symm
theorem hrT_y {kd rt sh ch vc T : Nat → Int32} {t : Int32} {k : Nat} (h : kd k = 2) : upd (hrT kd rt sh ch vc t T k) k (hrT kd rt sh ch vc t T k k + hrG kd rt sh ch vc t k) = hrT kd rt sh ch vc t T (k + 1) := (if_pos h).symm
/-- what holds between the calls -/
def INV (un : Nat → Nat) (ui : Nat → Int32) (ua : Nat → Nat → Int32) : Prop :=
  (1 ≤ un 0 ∧ un 0 ≤ 20 ∧ un 1 ≤ 200 ∧ un 2 ≤ 4 ∧ un 3 ≤ 30) ∧ PAR (un 0) (ua 1) ∧ (NB 99 (ui 0) ∧ NB 9 (ui 3) ∧ PN (ui 1) (ui 2)) ∧
  ((∀ j, NB 20 (ua 2 j)) ∧ (∀ j, NB 20 (ua 3 j)) ∧ (∀ j, NB 5 (ua 5 j)) ∧ (∀ j, NB 9 (ua 6 j)) ∧ (∀ j, NB 30 (ua 7 j)) ∧ (∀ j, NB 119 (ua 8 j))) ∧
  (∀ j, ua 0 j = 2 → ∃ s : Nat, 1 ≤ s ∧ s ≤ 6 ∧ ua 4 j = nI s) ∧
  (∀ j, un 0 ≤ j → ¬ ua 0 j = 2 ∧ ua 6 j = 0 ∧ ∀ h, h < 200 → ua 8 (200 * j + h) = 0) ∧
  (∀ t, t < un 2 → TK (ua 9 t) (ua 10 t) (ua 11 t)) ∧ (∀ t, un 2 ≤ t → ua 10 t = 0 ∧ ua 11 t = 0) ∧
  (∀ j, narrow .char (.int (ua 14 j)) = .int (ua 14 j))
theorem INV.hv {un : Nat → Nat} {ui : Nat → Int32} {ua : Nat → Nat → Int32} (h : INV un ui ua) (t : Int32) (j : Nat) : NB 119 (hrG (ua 0) (ua 3) (ua 5) (ua 6) (vac (un 0) (ui 0) (ua 1) (ua 2) (ua 7)) t j) := by
  rw [hrG_eq]
  exact giv_NB (h.2.2.2.1.2.1 j) (vac_NB h.1.2.1 h.2.2.1.1 h.2.2.2.1.1 h.2.2.2.1.2.2.2.2.1 j)
theorem INV.ls {un : Nat → Nat} {ui : Nat → Int32} {ua : Nat → Nat → Int32} (h : INV un ui ua) (t : Int32) : LSv (hrV (ua 0) (ua 3) (ua 5) (ua 6) (vac (un 0) (ui 0) (ua 1) (ua 2) (ua 7)) t (un 0)) (hrS (ua 0) (ua 3) (ua 4) (ua 5) (ua 6) (vac (un 0) (ui 0) (ua 1) (ua 2) (ua 7)) t (un 0)) := by
  obtain ⟨v, z, e1, e2, h1, h2, h3⟩ := hr_b (sw := ua 4) (fun j _ => h.hv t j) h.2.2.2.2.1 (un 0) h.1.2.1
  exact ⟨v, z, e1, e2, by have := h.1.2.1; omega, h2, h3⟩
