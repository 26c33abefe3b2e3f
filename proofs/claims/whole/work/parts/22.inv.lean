/-! what holds between the calls is kept by each call -/
theorem NB_RG {f : Int32} (h : NB 9 f) : RG 0 9 f := by
  obtain ⟨k, hk, rfl⟩ := h
  exact ⟨nI_pos (by omega), show ¬ nI 9 < nI k from nI_nlt hk (by omega)⟩
theorem NB_upd {n : Nat} {f : Nat → Int32} (h : ∀ j, NB n (f j)) {x : Int32} (hx : NB n x) (k : Nat) : ∀ j, NB n (upd f k x j) := by
  intro j
  by_cases e : j = k
  · subst e; rw [pk_us]; exact hx
  · rw [pk_un e]; exact h j
theorem cfAdd_ok {n : Nat} {kd : Nat → Int32} {par : Int32} {ok : Prop} [Decidable ok] (hn : n ≤ 20) (h : cfAdd n kd par ok = 0) : VN n par ∧ ok ∧ ¬ kd par.toNatClampNeg = 2 ∧ n < 20 := by
  have h20 := add_room hn h
  unfold cfAdd at h
  by_cases h1 : VN n par
  · rw [if_neg (fun z => z h1)] at h
    by_cases h2 : ok
    · rw [if_neg (fun z => z h2)] at h
      by_cases h3 : kd par.toNatClampNeg = 2
      · rw [if_pos h3] at h; exact absurd h (by decide)
      · exact ⟨h1, h2, h3, h20⟩
    · rw [if_pos h2] at h; exact absurd h (by decide)
  · rw [if_pos h1] at h; exact absurd h (by decide)
theorem PAR_add {n : Nat} {pa : Nat → Int32} {x : Int32} (h : PAR n pa) (hn : n ≤ 20) (hx : VN n x) : PAR (n + 1) (upd pa n x) := by
  intro j h0 hj
  by_cases e : j = n
  · subst e
    rw [pk_us]
    exact hx.ex (by omega)
  · rw [pk_un e]
    obtain ⟨i, hi, e2⟩ := h j h0 (by omega)
    exact ⟨i, hi, e2⟩
section INVS
variable {un : Nat → Nat} {ui : Nat → Int32} {ua : Nat → Nat → Int32}
theorem INV.addJ (h : INV un ui ua) {pr dp : Int32} (hok : cfAdd (un 0) (ua 0) pr (RG 0 20 dp) = 0) : INV (up un 0 (un 0 + 1)) ui (up (up (up ua 0 (upd (ua 0) (un 0) 1)) 1 (upd (ua 1) (un 0) pr)) 2 (upd (ua 2) (un 0) dp)) := by
  obtain ⟨h1, h2, h3, h4, h5, h6, h7, h8, h9⟩ := h
  obtain ⟨a1, a2, a3, a4⟩ := cfAdd_ok h1.2.1 hok
  refine ⟨⟨by show 1 ≤ un 0 + 1; omega, by show un 0 + 1 ≤ 20; omega, h1.2.2⟩, PAR_add h2 h1.2.1 a1, h3, ⟨NB_upd h4.1 (RG_NB rfl a2) _, h4.2⟩, fun j hj => ?_, fun j hj => ?_, h7, h8, h9⟩
  · refine h5 j ?_
    have hj : upd (ua 0) (un 0) 1 j = 2 := hj
    by_cases e : j = un 0
    · rw [e, pk_us] at hj; exact absurd hj (by decide)
    · rwa [pk_un e] at hj
  · have hj : un 0 + 1 ≤ j := hj
    obtain ⟨b1, b2, b3⟩ := h6 j (by omega)
    exact ⟨by show ¬ upd (ua 0) (un 0) 1 j = 2; rw [pk_un (by omega)]; exact b1, b2, b3⟩
theorem INV.addT (h : INV un ui ua) {pr dp rt sw sh : Int32} (hok : cfAdd (un 0) (ua 0) pr (okTap dp rt sw sh) = 0) : INV (up un 0 (un 0 + 1)) ui (up (up (up (up (up (up ua 0 (upd (ua 0) (un 0) 2)) 1 (upd (ua 1) (un 0) pr)) 2 (upd (ua 2) (un 0) dp)) 3 (upd (ua 3) (un 0) rt)) 4 (upd (ua 4) (un 0) sw)) 5 (upd (ua 5) (un 0) sh)) := by
  obtain ⟨h1, h2, h3, h4, h5, h6, h7, h8, h9⟩ := h
  obtain ⟨a1, ⟨a2, a5, a6, a7⟩, a3, a4⟩ := cfAdd_ok h1.2.1 hok
  refine ⟨⟨by show 1 ≤ un 0 + 1; omega, by show un 0 + 1 ≤ 20; omega, h1.2.2⟩, PAR_add h2 h1.2.1 a1, h3, ⟨NB_upd h4.1 (RG_NB rfl a2) _, NB_upd h4.2.1 ((RG1_NB (n := 20) rfl a5).imp fun _ z => z.2) _, NB_upd h4.2.2.1 (RG_NB rfl a7) _, h4.2.2.2⟩, fun j hj => ?_, fun j hj => ?_, h7, h8, h9⟩
  · have hj : upd (ua 0) (un 0) 2 j = 2 := hj
    show ∃ s : Nat, 1 ≤ s ∧ s ≤ 6 ∧ upd (ua 4) (un 0) sw j = nI s
    by_cases e : j = un 0
    · rw [e, pk_us]; exact RG1_NB rfl a6
    · rw [pk_un e] at hj ⊢; exact h5 j hj
  · have hj : un 0 + 1 ≤ j := hj
    obtain ⟨b1, b2, b3⟩ := h6 j (by omega)
    exact ⟨by show ¬ upd (ua 0) (un 0) 2 j = 2; rw [pk_un (by omega)]; exact b1, b2, b3⟩
theorem INV.pump (h : INV un ui ua) {v : Int32} (hok : cfPump v = 0) : INV un (up ui 0 v) ua := by
  obtain ⟨h1, h2, h3, h4⟩ := h
  have a1 : RG 0 99 v := by
    unfold cfPump at hok
    by_cases z : RG 0 99 v
    · exact z
    · rw [if_neg z] at hok; exact absurd hok (by decide)
  exact ⟨h1, h2, ⟨RG_NB rfl a1, h3.2⟩, h4⟩
theorem INV.fire (h : INV un ui ua) {v : Int32} (hok : cfFire v = 0) : INV un (up ui 3 v) ua := by
  obtain ⟨h1, h2, h3, h4⟩ := h
  have a1 : RG 0 9 v := by
    unfold cfFire at hok
    by_cases z : RG 0 9 v
    · exact z
    · rw [if_neg z] at hok; exact absurd hok (by decide)
  exact ⟨h1, h2, ⟨h3.1, RG_NB rfl a1, h3.2.2⟩, h4⟩
theorem INV.leak (h : INV un ui ua) (k : Nat) {z : Int32} (hz : NB 30 z) : INV un ui (up ua 7 (upd (ua 7) k z)) := by
  obtain ⟨h1, h2, h3, h4, h5⟩ := h
  exact ⟨h1, h2, h3, ⟨h4.1, h4.2.1, h4.2.2.1, h4.2.2.2.1, NB_upd h4.2.2.2.2.1 hz k, h4.2.2.2.2.2⟩, h5⟩
theorem cfLeak_ok {n : Nat} {v z : Int32} (h : cfLeak n v z = 0) : VN n v ∧ NB 30 z := by
  unfold cfLeak at h
  by_cases h1 : VN n v
  · rw [if_neg (fun q => q h1)] at h
    by_cases h2 : RG 1 30 z
    · exact ⟨h1, (RG1_NB (n := 30) rfl h2).imp fun _ q => q.2⟩
    · rw [if_neg h2] at h; exact absurd h (by decide)
  · rw [if_pos h1] at h; exact absurd h (by decide)
theorem INV.emptied (h : INV un ui ua) : INV un (up (up (up ui 1 0) 2 0) 4 0) ua := by
  obtain ⟨h1, h2, h3, h4⟩ := h
  exact ⟨h1, h2, ⟨h3.1, h3.2.1, 0, 0, rfl, rfl, by omega, by omega, by omega⟩, h4⟩
theorem INV.drawn (h : INV un ui ua) {x y b : Int32} (hb : un 3 < 30) : INV (up un 3 (un 3 + 1)) (up (up (up ui 1 0) 2 0) 4 0) (up (up (up ua 12 (upd (ua 12) (un 3) x)) 13 (upd (ua 13) (un 3) y)) 14 (upd (ua 14) (un 3) (gradeV b))) := by
  obtain ⟨h1, h2, h3, h4, h5, h6, h7, h8, h9⟩ := h
  refine ⟨⟨h1.1, h1.2.1, h1.2.2.1, h1.2.2.2.1, by show un 3 + 1 ≤ 30; omega⟩, h2, ⟨h3.1, h3.2.1, 0, 0, rfl, rfl, by omega, by omega, by omega⟩, h4, h5, h6, h7, h8, fun j => ?_⟩
  show narrow .char (.int (upd (ua 14) (un 3) (gradeV b) j)) = .int (upd (ua 14) (un 3) (gradeV b) j)
  by_cases e : j = un 3
  · rw [e, pk_us]
    unfold gradeV
    split
    · decide +kernel
    · split <;> decide +kernel
  · rw [pk_un e]; exact h9 j
theorem cfDraw_ok {pv sg : Int32} {n : Nat} (hn : n ≤ 30) (h : cfDraw pv sg n = 0) : n < 30 := by
  refine (Nat.lt_or_ge n 30).resolve_right fun z => ?_
  unfold cfDraw at h
  by_cases h1 : dnP pv sg
  · rw [if_neg (fun q => q h1), if_pos (by rw [show n = 30 by omega]; rfl)] at h; exact absurd h (by decide)
  · rw [if_pos h1] at h; exact absurd h (by decide)
theorem INV.addK (h : INV un ui ua) {v : Int32} (hok : cfAddTank (un 2) v = 0) : INV (up un 2 (un 2 + 1)) ui (up ua 9 (upd (ua 9) (un 2) v)) := by
  obtain ⟨h1, h2, h3, h4, h5, h6, h7, h8, h9⟩ := h
  have hr : RG 1 5000 v := by
    unfold cfAddTank at hok
    by_cases z : RG 1 5000 v
    · exact z
    · rw [if_pos z] at hok; exact absurd hok (by decide)
  have h4' : un 2 < 4 := by
    refine (Nat.lt_or_ge (un 2) 4).resolve_right fun z => ?_
    unfold cfAddTank at hok
    rw [if_neg (fun q => q hr), if_pos (by rw [show un 2 = 4 by omega]; rfl)] at hok
    exact absurd hok (by decide)
  refine ⟨⟨h1.1, h1.2.1, h1.2.2.1, by show un 2 + 1 ≤ 4; omega, h1.2.2.2.2⟩, h2, h3, h4, h5, h6, fun t ht => ?_, fun t ht => ?_, h9⟩
  · have ht : t < un 2 + 1 := ht
    show TK (upd (ua 9) (un 2) v t) (ua 10 t) (ua 11 t)
    by_cases e : t = un 2
    · rw [e, pk_us, (h8 (un 2) (Nat.le_refl _)).1, (h8 (un 2) (Nat.le_refl _)).2]
      obtain ⟨k, k1, k2, k3⟩ := RG1_NB (n := 5000) rfl hr
      exact ⟨k, 0, 0, k3, rfl, rfl, k2, by omega, by omega, by omega⟩
    · rw [pk_un e]; exact h7 t (by omega)
  · have ht : un 2 + 1 ≤ t := ht
    exact h8 t (by omega)
theorem INV.tank (h : INV un ui ua) {t : Nat} (ht : t < un 2) {x y pv ps : Int32} (hT : TK (ua 9 t) x y) (hP : PN pv ps) : INV un (up (up ui 1 pv) 2 ps) (up (up ua 10 (upd (ua 10) t x)) 11 (upd (ua 11) t y)) := by
  obtain ⟨h1, h2, h3, h4, h5, h6, h7, h8, h9⟩ := h
  refine ⟨h1, h2, ⟨h3.1, h3.2.1, hP⟩, h4, h5, h6, fun i hi => ?_, fun i hi => ?_, h9⟩
  · show TK (ua 9 i) (upd (ua 10) t x i) (upd (ua 11) t y i)
    by_cases e : i = t
    · rw [e, pk_us, pk_us]; exact hT
    · rw [pk_un e, pk_un e]; exact h7 i hi
  · have hi : un 2 ≤ i := hi
    show upd (ua 10) t x i = 0 ∧ upd (ua 11) t y i = 0
    rw [pk_un (by omega), pk_un (by omega)]; exact h8 i hi
theorem INV.drain (h : INV un ui ua) {t : Nat} (ht : t < un 2) : INV un ui (up (up ua 10 (upd (ua 10) t 0)) 11 (upd (ua 11) t 0)) := by
  obtain ⟨cn, v, s, e1, e2, e3, a1, a2, a3, a4⟩ := h.2.2.2.2.2.2.1 t ht
  exact h.tank (pv := ui 1) (ps := ui 2) ht ⟨cn, 0, 0, e1, rfl, rfl, a1, by omega, by omega, by omega⟩ h.2.2.1.2.2
/-- what is loaded: the class's share is the reference's -/
theorem load_eq {c vo su pv z : Int32} (hT : TK c vo su) (hz : RG 1 500 z) (h : z ≤ vo) : shrV su z vo = (su.toInt64 * z.toInt64 / vo.toInt64).toInt32 := by
  obtain ⟨cn, v, s, rfl, rfl, rfl, a1, a2, a3, a4⟩ := hT
  obtain ⟨k, k1, k2, rfl⟩ := RG1_NB (n := 500) rfl hz
  have hk := (nI_leI (by omega) (by omega)).mp h
  by_cases e : k = v
  · subst e
    rw [shr_all (by omega) (by omega) (by omega), shrV, if_pos (Or.inr (Int32.le_refl _))]
  · rw [shrV, if_neg (fun q => q.elim (nI_nle (by omega) (by omega)) (fun q => absurd ((nI_leI (by omega) (by omega)).mp q) (by omega)))]
theorem load_ok {c vo su pv ps z : Int32} (hT : TK c vo su) (hP : PN pv ps) (hz : RG 1 500 z) (h : z ≤ vo) (h2 : pv + z ≤ 500) : TK c (vo - z) (su - (su.toInt64 * z.toInt64 / vo.toInt64).toInt32) ∧ PN (pv + z) (ps + (su.toInt64 * z.toInt64 / vo.toInt64).toInt32) := by
  obtain ⟨cn, v, s, rfl, rfl, rfl, a1, a2, a3, a4⟩ := hT
  obtain ⟨k, k1, k2, rfl⟩ := RG1_NB (n := 500) rfl hz
  obtain ⟨p, q, rfl, rfl, b1, b2, b3⟩ := hP
  have hk := (nI_leI (by omega) (by omega)).mp h
  rw [nI_add] at h2
  have hp : p + k ≤ 500 := (nI_leI (b := 500) (by omega) (by omega)).mp h2
  by_cases e : k = v
  · subst e
    rw [shr_all (by omega) (by omega) (by omega), pk_sub (Nat.le_refl _), pk_sub (Nat.le_refl _), nI_add, nI_add]
    exact ⟨⟨cn, _, _, rfl, rfl, rfl, a1, by omega, by omega, by omega⟩, ⟨_, _, rfl, rfl, hp, by omega, by omega⟩⟩
  · obtain ⟨c1, c2, c3, c4, c5⟩ := shr_b (v := v) (z := s) (r := k) (by omega) a3 a4
    rw [shr_n (by omega) (by omega) (by omega) (by omega), pk_sub hk, pk_sub c5, nI_add, nI_add]
    exact ⟨⟨cn, _, _, rfl, rfl, rfl, a1, by omega, c3, c4⟩, ⟨_, _, rfl, rfl, hp, by omega, by omega⟩⟩
theorem pan_le {pv ps z : Int32} (hP : PN pv ps) (hz : RG 1 500 z) : z ≤ 500 - pv ↔ pv + z ≤ 500 := by
  obtain ⟨k, k1, k2, rfl⟩ := RG1_NB (n := 500) rfl hz
  obtain ⟨p, q, rfl, rfl, b1, b2, b3⟩ := hP
  rw [nI_add, show (500 : Int32) = nI 500 from rfl, pk_sub b1, nI_leI (by omega) (by omega), nI_leI (by omega) (by omega)]
  omega
theorem cfLoad_eq {tk : Nat} {v z pv ps : Int32} {vo : Nat → Int32} (hP : PN pv ps) : cfLoadK tk v z pv vo = cfLoad tk v z pv vo := by
  unfold cfLoadK cfLoad
  by_cases h2 : RG 1 500 z
  · have e : (¬ z ≤ 500 - pv) = (¬ pv + z ≤ 500) := propext (not_congr (pan_le hP h2))
    simp only [e]
  · rw [if_pos h2, if_pos h2]
theorem cfLoad_ok {tk : Nat} {v z pv : Int32} {vo : Nat → Int32} (h : cfLoad tk v z pv vo = 0) : VN tk v ∧ RG 1 500 z ∧ z ≤ vo v.toNatClampNeg ∧ pv + z ≤ 500 := by
  unfold cfLoad at h
  by_cases h1 : VN tk v
  · rw [if_neg (fun q => q h1)] at h
    by_cases h2 : RG 1 500 z
    · rw [if_neg (fun q => q h2)] at h
      by_cases h3 : z ≤ vo v.toNatClampNeg
      · rw [if_neg (fun q => q h3)] at h
        by_cases h4 : pv + z ≤ 500
        · exact ⟨h1, h2, h3, h4⟩
        · rw [if_pos h4] at h; exact absurd h (by decide)
      · rw [if_pos h3] at h; exact absurd h (by decide)
    · rw [if_pos h2] at h; exact absurd h (by decide)
  · rw [if_pos h1] at h; exact absurd h (by decide)
/-- pouring keeps the tanks -/
theorem prN_k {cp vo su : Nat → Int32} {v z : Int32} {m : Nat} (hL : LSv v z) (hT : ∀ t, t < m → TK (cp t) (vo t) (su t)) : ∀ n, n ≤ m → LSv (prN cp (v, z, vo, su) n).1 (prN cp (v, z, vo, su) n).2.1 ∧ (∀ t, t < m → TK (cp t) ((prN cp (v, z, vo, su) n).2.2.1 t) ((prN cp (v, z, vo, su) n).2.2.2 t)) ∧ (∀ t, n ≤ t → (prN cp (v, z, vo, su) n).2.2.1 t = vo t ∧ (prN cp (v, z, vo, su) n).2.2.2 t = su t) := by
  intro n
  induction n with
  | zero => intro _; exact ⟨hL, hT, fun _ _ => ⟨rfl, rfl⟩⟩
  | succ n ih =>
    intro hn
    obtain ⟨i1, i2, i3⟩ := ih (by omega)
    rw [show prN cp (v, z, vo, su) (n + 1) = prS cp n (prN cp (v, z, vo, su) n) from rfl]
    generalize prN cp (v, z, vo, su) n = y at i1 i2 i3 ⊢
    obtain ⟨lf, sg, vo', su'⟩ := y
    obtain ⟨e, j1, j2⟩ := pr_step (cp := cp) (vo := vo') (su := su') (t := n) i1 (i2 n (by omega))
    rw [e]
    refine ⟨j1, fun t ht => ?_, fun t ht => ?_⟩
    · by_cases q : t = n
      · subst q
        show TK (cp t) (upd vo' t _ t) (upd su' t _ t)
        rw [pk_us, pk_us]; exact j2
      · show TK (cp t) (upd vo' n _ t) (upd su' n _ t)
        rw [pk_un q, pk_un q]; exact i2 t ht
    · show upd vo' n _ t = vo t ∧ upd su' n _ t = su t
      rw [pk_un (by omega), pk_un (by omega)]; exact i3 t (by omega)
theorem hrA_NB {kd rt sh ch vc : Nat → Int32} {t : Int32} {ho : Nat} {sa : Nat → Int32} (h1 : ∀ i, NB 119 (sa i)) (h2 : ∀ j, NB 119 (hrG kd rt sh ch vc t j)) : ∀ k i, NB 119 (hrA kd rt sh ch vc t ho sa k i) := by
  intro k
  induction k with
  | zero => intro i; exact h1 i
  | succ k ih =>
    intro i
    simp only [hrA]
    by_cases h : kd k = 2
    · rw [if_pos h]; exact NB_upd ih (h2 k) _ i
    · rw [if_neg h]; exact ih i
theorem hrC_NB {kd sh ch : Nat → Int32} {t : Int32} (h1 : ∀ j, NB 9 (ch j)) : ∀ k j, NB 9 (hrC kd sh ch t k j) := by
  intro k
  induction k with
  | zero => intro j; exact h1 j
  | succ k ih =>
    intro j
    simp only [hrC]
    by_cases h : kd k = 2
    · rw [if_pos h]; exact NB_upd ih (chg_NB (ih k)) _ j
    · rw [if_neg h]; exact ih j
theorem cfPass_ok {h : Nat} {t : Int32} (hh : h ≤ 200) (e : cfPass h t = 0) : RG (-30) 30 t ∧ h < 200 := by
  unfold cfPass at e
  by_cases h1 : RG (-30) 30 t
  · refine ⟨h1, (Nat.lt_or_ge h 200).resolve_right fun z => ?_⟩
    rw [if_neg (fun q => q h1), if_pos (by rw [show h = 200 by omega]; rfl)] at e
    exact absurd e (by decide)
  · rw [if_pos h1] at e; exact absurd e (by decide)
theorem INV.hour (h : INV un ui ua) {t : Int32} (hok : cfPass (un 1) t = 0) (x : Int32) : INV (up un 1 (un 1 + 1)) (up (up ui 1 (ui 1 - lessV (ui 1) (ui 2) (ui 3))) 4 x) (up (up (up (up ua 6 (hrC (ua 0) (ua 5) (ua 6) t (un 0))) 8 (hrA (ua 0) (ua 3) (ua 5) (ua 6) (vac (un 0) (ui 0) (ua 1) (ua 2) (ua 7)) t (un 1) (ua 8) (un 0))) 10 ((prN (ua 9) ((hrV (ua 0) (ua 3) (ua 5) (ua 6) (vac (un 0) (ui 0) (ua 1) (ua 2) (ua 7)) t (un 0)), (hrS (ua 0) (ua 3) (ua 4) (ua 5) (ua 6) (vac (un 0) (ui 0) (ua 1) (ua 2) (ua 7)) t (un 0)), ua 10, ua 11) (un 2)).2.2.1)) 11 ((prN (ua 9) ((hrV (ua 0) (ua 3) (ua 5) (ua 6) (vac (un 0) (ui 0) (ua 1) (ua 2) (ua 7)) t (un 0)), (hrS (ua 0) (ua 3) (ua 4) (ua 5) (ua 6) (vac (un 0) (ui 0) (ua 1) (ua 2) (ua 7)) t (un 0)), ua 10, ua 11) (un 2)).2.2.2)) := by
  have hv := h.hv t
  have hls := h.ls t
  obtain ⟨h1, h2, h3, h4, h5, h6, h7, h8, h9⟩ := h
  obtain ⟨a1, a2⟩ := cfPass_ok h1.2.2.1 hok
  have hb := boil_eq h3.2.2 h3.2.1
  obtain ⟨k1, k2, k3⟩ := prN_k hls h7 (un 2) (Nat.le_refl _)
  refine ⟨⟨h1.1, h1.2.1, by show un 1 + 1 ≤ 200; omega, h1.2.2.2⟩, h2, ⟨h3.1, h3.2.1, by show PN (ui 1 - lessV (ui 1) (ui 2) (ui 3)) (ui 2); rw [← hb.1]; exact hb.2.2.2⟩, ⟨h4.1, h4.2.1, h4.2.2.1, hrC_NB h4.2.2.2.1 (un 0), h4.2.2.2.2.1, hrA_NB h4.2.2.2.2.2 hv (un 0)⟩, h5, fun j hj => ?_, k2, fun i hi => ?_, h9⟩
  · have hj : un 0 ≤ j := hj
    obtain ⟨b1, b2, b3⟩ := h6 j hj
    exact ⟨b1, (hrC_ge (un 0) j hj).trans b2, fun i hi => ((hrA_row a2 (un 0) j i hi).trans (if_neg (fun z => by omega))).trans (b3 i hi)⟩
  · have hi : un 2 ≤ i := hi
    obtain ⟨c1, c2⟩ := k3 i hi
    obtain ⟨d1, d2⟩ := h8 i hi
    exact ⟨c1.trans d1, c2.trans d2⟩
theorem PL_hour {cA : Nat → ClassId} {L : List Nat} {f : Nat → va_E} {tf kf : Nat → Option Nat} {ta ga ka : Nat → Nat} (h : INV un ui ua) {t : Int32} (hok : cfPass (un 1) t = 0) (P9 : PLg cA (ua 0) (ua 3) (ua 4) (ua 5) (hrC (ua 0) (ua 5) (ua 6) t (un 0)) (hrA (ua 0) (ua 3) (ua 5) (ua 6) (vac (un 0) (ui 0) (ua 1) (ua 2) (ua 7)) t (un 1) (ua 8) (un 0)) (hrT (ua 0) (ua 3) (ua 5) (ua 6) (vac (un 0) (ui 0) (ua 1) (ua 2) (ua 7)) t (fun j => totS (ua 8) j (un 1)) (un 0)) (un 2) (ua 9) (prN (ua 9) ((hrV (ua 0) (ua 3) (ua 5) (ua 6) (vac (un 0) (ui 0) (ua 1) (ua 2) (ua 7)) t (un 0)), (hrS (ua 0) (ua 3) (ua 4) (ua 5) (ua 6) (vac (un 0) (ui 0) (ua 1) (ua 2) (ua 7)) t (un 0)), ua 10, ua 11) (un 2)).2.2.1 (prN (ua 9) ((hrV (ua 0) (ua 3) (ua 5) (ua 6) (vac (un 0) (ui 0) (ua 1) (ua 2) (ua 7)) t (un 0)), (hrS (ua 0) (ua 3) (ua 4) (ua 5) (ua 6) (vac (un 0) (ui 0) (ua 1) (ua 2) (ua 7)) t (un 0)), ua 10, ua 11) (un 2)).2.2.2 L f tf kf ta ga ka) : PL cA (up un 1 (un 1 + 1)) (up (up (up (up ua 6 (hrC (ua 0) (ua 5) (ua 6) t (un 0))) 8 (hrA (ua 0) (ua 3) (ua 5) (ua 6) (vac (un 0) (ui 0) (ua 1) (ua 2) (ua 7)) t (un 1) (ua 8) (un 0))) 10 ((prN (ua 9) ((hrV (ua 0) (ua 3) (ua 5) (ua 6) (vac (un 0) (ui 0) (ua 1) (ua 2) (ua 7)) t (un 0)), (hrS (ua 0) (ua 3) (ua 4) (ua 5) (ua 6) (vac (un 0) (ui 0) (ua 1) (ua 2) (ua 7)) t (un 0)), ua 10, ua 11) (un 2)).2.2.1)) 11 ((prN (ua 9) ((hrV (ua 0) (ua 3) (ua 5) (ua 6) (vac (un 0) (ui 0) (ua 1) (ua 2) (ua 7)) t (un 0)), (hrS (ua 0) (ua 3) (ua 4) (ua 5) (ua 6) (vac (un 0) (ui 0) (ua 1) (ua 2) (ua 7)) t (un 0)), ua 10, ua 11) (un 2)).2.2.2)) L f tf kf ta ga ka := by
  obtain ⟨a1, a2⟩ := cfPass_ok h.1.2.2.1 hok
  refine PL_g.mpr (P9.re (fun _ _ => Iff.rfl) (fun j hj kj => ⟨rfl, rfl, rfl, rfl, ?_, fun _ _ => rfl⟩) (fun _ _ => ⟨rfl, rfl, rfl⟩))
  have hjn : j < un 0 := (Nat.lt_or_ge j (un 0)).resolve_right (fun z => (h.2.2.2.2.2.1 j z).1 kj)
  show totS (hrA (ua 0) (ua 3) (ua 5) (ua 6) (vac (un 0) (ui 0) (ua 1) (ua 2) (ua 7)) t (un 1) (ua 8) (un 0)) j (un 1 + 1) = hrT (ua 0) (ua 3) (ua 5) (ua 6) (vac (un 0) (ui 0) (ua 1) (ua 2) (ua 7)) t (fun j => totS (ua 8) j (un 1)) (un 0) j
  rw [hrT_lt (un 0) j hjn kj, ← totS_S, totS_hr a2, hrA_row a2 (un 0) j (un 1) a2, if_pos ⟨hjn, kj, rfl⟩]
end INVS
