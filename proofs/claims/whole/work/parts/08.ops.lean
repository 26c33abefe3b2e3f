/-! WHAT THE CALLS ANSWER: pure words -/
def PM (cf r rr : Int32) (w' wo : va_W) (we : Int32 → va_W) : Prop := (cf = 0 ∧ r = rr ∧ w' = wo) ∨ (¬ cf = 0 ∧ w' = we cf)
theorem PM_ok {cf r rr : Int32} {w' wo : va_W} {we : Int32 → va_W} (h : cf = 0) (hr : r = rr) (hw : w' = wo) : PM cf r rr w' wo we := Or.inl ⟨h, hr, hw⟩
theorem PM_no {cf r rr : Int32} {w' wo : va_W} {we : Int32 → va_W} (v : Int32) (h : cf = v) (hv : ¬ v = 0) (hw : w' = we v) : PM cf r rr w' wo we := Or.inr ⟨by rw [h]; exact hv, by rw [h]; exact hw⟩
def cfAdd (n : Nat) (kd : Nat → Int32) (par : Int32) (ok : Prop) [Decidable ok] : Int32 := if ¬ VN n par then 1 else if ¬ ok then 2 else if kd par.toNatClampNeg = 2 then 3 else if nI n = 20 then 4 else 0
abbrev okTap (d rt sw sh : Int32) : Prop := RG 0 20 d ∧ RG 1 20 rt ∧ RG 1 6 sw ∧ RG 0 5 sh
def cfPump (v : Int32) : Int32 := if RG 0 99 v then 0 else 1
def cfLeak (n : Nat) (v z : Int32) : Int32 := if ¬ VN n v then 1 else if RG 1 30 z then 0 else 2
def cfRepair (n : Nat) (v : Int32) (lk : Nat → Int32) : Int32 := if ¬ VN n v then 1 else if lk v.toNatClampNeg = 0 then 2 else 0
def cfNode (n : Nat) (v : Int32) : Int32 := if VN n v then 0 else 1
def cfPass (h : Nat) (t : Int32) : Int32 := if ¬ RG (-30) 30 t then 1 else if nI h = 200 then 2 else 0
def cfTap (n : Nat) (kd : Nat → Int32) (v : Int32) : Int32 := if ¬ VN n v then 1 else if kd v.toNatClampNeg = 2 then 0 else 2
def cfSap (n : Nat) (kd : Nat → Int32) (v : Int32) (ho : Nat) (h : Int32) : Int32 := if ¬ cfTap n kd v = 0 then cfTap n kd v else if VN ho h then 0 else 3
def cfAddTank (tk : Nat) (v : Int32) : Int32 := if ¬ RG 1 5000 v then 1 else if nI tk = 4 then 2 else 0
def cfTank (tk : Nat) (v : Int32) : Int32 := if VN tk v then 0 else 1
def cfLoad (tk : Nat) (v z pv : Int32) (vo : Nat → Int32) : Int32 := if ¬ VN tk v then 1 else if ¬ RG 1 500 z then 2 else if ¬ z ≤ vo v.toNatClampNeg then 3 else if ¬ pv + z ≤ 500 then 4 else 0
def cfFire (v : Int32) : Int32 := if RG 0 9 v then 0 else 1
def lstV (sg : Int32) : Int32 := (sg + 60 - 1) / 60
abbrev dnP (pv sg : Int32) : Prop := ¬ pv ≤ 0 ∧ ¬ lstV sg < pv
def cfLong (pv sg fi : Int32) : Int32 := if pv = 0 then 1 else if dnP pv sg then 0 else if fi = 0 then 1 else 0
def longV (pv sg fi : Int32) : Int32 := if dnP pv sg then 0 else (pv - lstV sg + 5 * fi - 1) / (5 * fi)
def cfDraw (pv sg : Int32) (ba : Nat) : Int32 := if ¬ dnP pv sg then 1 else if nI ba = 30 then 2 else 0
def gradeV (bo : Int32) : Int32 := if bo ≤ 3 then 103 else if bo ≤ 8 then 97 else 100
def mx0 (v : Int32) : Int32 := if v ≤ 0 then 0 else v
def mn (a b : Int32) : Int32 := if b ≤ a then b else a
def subS (lk : Nat → Int32) (v : Int32) : Nat → Int32
  | 0 => v
  | k + 1 => subS lk v k - lk k
def pumpV (n : Nat) (se : Int32) (lk : Nat → Int32) : Int32 := mx0 (subS lk (se - lk 0) n)
def vacF (pump : Int32) (pa dr lk : Nat → Int32) : Nat → Nat → Int32
  | 0, _ => pump
  | f + 1, j => if j = 0 then pump else mx0 (vacF pump pa dr lk f (pa j).toNatClampNeg - dr j - lk j)
def vac (n : Nat) (se : Int32) (pa dr lk : Nat → Int32) (j : Nat) : Int32 := vacF (pumpV n se lk) pa dr lk 20 j
def expF (se : Int32) (pa dr : Nat → Int32) : Nat → Nat → Int32
  | 0, _ => se
  | f + 1, j => if j = 0 then se else mx0 (expF se pa dr f (pa j).toNatClampNeg - dr j)
def expV (se : Int32) (pa dr : Nat → Int32) (j : Nat) : Int32 := expF se pa dr 20 j
/-- parents come before their nodes -/
abbrev PAR (n : Nat) (pa : Nat → Int32) : Prop := ∀ j, 0 < j → j < n → ∃ i, i < j ∧ pa j = nI i
theorem vacF_f {n : Nat} {pump : Int32} {pa dr lk : Nat → Int32} (hp : PAR n pa) (hn : n ≤ 20) : ∀ (f g j : Nat), j ≤ f → j ≤ g → j < n → vacF pump pa dr lk f j = vacF pump pa dr lk g j := by
  intro f
  induction f with
  | zero => intro g j h1 h2 h3; have : j = 0 := by omega
            subst this
            cases g <;> simp [vacF]
  | succ f ih =>
    intro g j h1 h2 h3
    cases g with
    | zero => have : j = 0 := by omega
              subst this
              simp [vacF]
    | succ g =>
      by_cases h0 : j = 0
      · simp [vacF, h0]
      · obtain ⟨i, hi, e⟩ := hp j (by omega) h3
        simp only [vacF, if_neg h0]
        rw [e, nI_clamp (by omega), ih g i (by omega) (by omega) (by omega)]
theorem expF_f {n : Nat} {se : Int32} {pa dr : Nat → Int32} (hp : PAR n pa) (hn : n ≤ 20) : ∀ (f g j : Nat), j ≤ f → j ≤ g → j < n → expF se pa dr f j = expF se pa dr g j := by
  intro f
  induction f with
  | zero => intro g j h1 h2 h3; have : j = 0 := by omega
            subst this
            cases g <;> simp [expF]
  | succ f ih =>
    intro g j h1 h2 h3
    cases g with
    | zero => have : j = 0 := by omega
              subst this
              simp [expF]
    | succ g =>
      by_cases h0 : j = 0
      · simp [expF, h0]
      · obtain ⟨i, hi, e⟩ := hp j (by omega) h3
        simp only [expF, if_neg h0]
        rw [e, nI_clamp (by omega), ih g i (by omega) (by omega) (by omega)]
theorem vac_0 {n : Nat} {se : Int32} {pa dr lk : Nat → Int32} : vac n se pa dr lk 0 = pumpV n se lk := by simp [vac, vacF]
theorem vac_S {n : Nat} {se : Int32} {pa dr lk : Nat → Int32} (hp : PAR n pa) (hn : n ≤ 20) {i j : Nat} (h0 : 0 < j) (hj : j < n) (hi : i < j) (e : pa j = nI i) : vac n se pa dr lk j = mx0 (vac n se pa dr lk i - dr j - lk j) := by
  unfold vac
  rw [show vacF (pumpV n se lk) pa dr lk 20 j = mx0 (vacF (pumpV n se lk) pa dr lk 19 (pa j).toNatClampNeg - dr j - lk j) from by simp [vacF, Nat.ne_of_gt h0]]
  rw [e, nI_clamp (by omega), vacF_f hp hn 19 20 i (by omega) (by omega) (by omega)]
theorem exp_0 {se : Int32} {pa dr : Nat → Int32} : expV se pa dr 0 = se := by simp [expV, expF]
theorem exp_S {n : Nat} {se : Int32} {pa dr : Nat → Int32} (hp : PAR n pa) (hn : n ≤ 20) {i j : Nat} (h0 : 0 < j) (hj : j < n) (hi : i < j) (e : pa j = nI i) : expV se pa dr j = mx0 (expV se pa dr i - dr j) := by
  unfold expV
  rw [show expF se pa dr 20 j = mx0 (expF se pa dr 19 (pa j).toNatClampNeg - dr j) from by simp [expF, Nat.ne_of_gt h0]]
  rw [e, nI_clamp (by omega), expF_f hp hn 19 20 i (by omega) (by omega) (by omega)]
def losV (n : Nat) (se : Int32) (pa dr lk : Nat → Int32) (j : Nat) : Int32 := expV se pa dr j - vac n se pa dr lk j
def ownV (n : Nat) (se : Int32) (pa dr lk : Nat → Int32) (j : Nat) : Int32 := if j = 0 then losV n se pa dr lk j else losV n se pa dr lk j - losV n se pa dr lk (pa j).toNatClampNeg
theorem nI_eq0 {j : Nat} (h : j < 2 ^ 31) : nI j = 0 ↔ j = 0 := by
  rw [show (0 : Int32) = nI 0 from rfl, nI_eq h (by decide)]
/-- how many of the first m have p -/
def cntV (p : Nat → Prop) [DecidablePred p] : Nat → Int32
  | 0 => 0
  | m + 1 => cntV p m + (if p m then 1 else 0)
theorem cntV_congr {p q : Nat → Prop} [DecidablePred p] [DecidablePred q] : ∀ (m : Nat), (∀ j, j < m → (p j ↔ q j)) → cntV p m = cntV q m := by
  intro m
  induction m with
  | zero => intro _; rfl
  | succ m ih =>
    intro h
    simp only [cntV]
    rw [ih (fun j hj => h j (by omega))]
    by_cases hp : p m
    · rw [if_pos hp, if_pos ((h m (by omega)).mp hp)]
    · rw [if_neg hp, if_neg (fun z => hp ((h m (by omega)).mpr z))]
/-- the node at a rank: the first of n with ok, and just rk ahead of it -/
abbrev ahP (g : Nat → Int32) (k o : Nat) : Prop := g k < g o ∨ (g o = g k ∧ o < k)
abbrev susP (g : Nat → Int32) (n : Nat) (rk : Int32) (k : Nat) : Prop := 0 < g k ∧ cntV (ahP g k) n = rk
abbrev yldP (kd g : Nat → Int32) (n : Nat) (rk : Int32) (k : Nat) : Prop := kd k = 2 ∧ cntV (fun o => kd o = 2 ∧ ahP g k o) n = rk
def totS (sa : Nat → Int32) (k : Nat) : Nat → Int32
  | 0 => 0
  | h + 1 => totS sa k h + sa (200 * k + h)
def depF (pa : Nat → Int32) : Nat → Nat → Nat
  | 0, _ => 0
  | f + 1, j => if j = 0 then 0 else depF pa f (pa j).toNatClampNeg + 1
def depV (pa : Nat → Int32) (j : Nat) : Nat := depF pa 20 j
theorem depF_f {n : Nat} {pa : Nat → Int32} (hp : PAR n pa) (hn : n ≤ 20) : ∀ (f g j : Nat), j ≤ f → j ≤ g → j < n → depF pa f j = depF pa g j := by
  intro f
  induction f with
  | zero => intro g j h1 h2 h3; have : j = 0 := by omega
            subst this
            cases g <;> simp [depF]
  | succ f ih =>
    intro g j h1 h2 h3
    cases g with
    | zero => have : j = 0 := by omega
              subst this
              simp [depF]
    | succ g =>
      by_cases h0 : j = 0
      · simp [depF, h0]
      · obtain ⟨i, hi, e⟩ := hp j (by omega) h3
        simp only [depF, if_neg h0]
        rw [e, nI_clamp (by omega), ih g i (by omega) (by omega) (by omega)]
theorem dep_0 {pa : Nat → Int32} : depV pa 0 = 0 := by simp [depV, depF]
theorem dep_S {n : Nat} {pa : Nat → Int32} (hp : PAR n pa) (hn : n ≤ 20) {i j : Nat} (h0 : 0 < j) (hj : j < n) (hi : i < j) (e : pa j = nI i) : depV pa j = depV pa i + 1 := by
  unfold depV
  rw [show depF pa 20 j = depF pa 19 (pa j).toNatClampNeg + 1 from by simp [depF, Nat.ne_of_gt h0]]
  rw [e, nI_clamp (by omega), depF_f hp hn 19 20 i (by omega) (by omega) (by omega)]
theorem dep_le {n : Nat} {pa : Nat → Int32} (hp : PAR n pa) (hn : n ≤ 20) : ∀ (b j : Nat), j ≤ b → j < n → depV pa j ≤ j := by
  intro b
  induction b with
  | zero => intro j h1 h2; have : j = 0 := by omega
            subst this; rw [dep_0]; exact Nat.le_refl 0
  | succ b ih =>
    intro j h1 h2
    by_cases h0 : j = 0
    · subst h0; rw [dep_0]; exact Nat.le_refl 0
    · obtain ⟨i, hi, e⟩ := hp j (by omega) h2
      rw [dep_S hp hn (by omega) h2 hi e]
      have := ih i (by omega) (by omega)
      omega
/-- the tap k in an hour -/
def givV (rt sh ch : Nat → Int32) (vc t : Int32) (k : Nat) : Int32 := if t < sh k then 0 else if ch k = 0 then rt k * vc / 100 else rt k * (20 + vc) / 20
def chgV (sh ch : Nat → Int32) (t : Int32) (k : Nat) : Int32 := if t < sh k then mn (ch k + 1) 9 else if ch k = 0 then ch k else ch k - 1
/-- sums over rows, as the machine adds and subtracts them -/
def subL (f : Nat → Int32) (v : Int64) : Nat → Int64
  | 0 => v
  | k + 1 => subL f v k - (f k).toInt64
def sumL (f : Nat → Int32) : Nat → Int64
  | 0 => 0
  | k + 1 => sumL f k + (f k).toInt64
def missV (un : Nat → Nat) (ui : Nat → Int32) (ul : Nat → Int64) (ua : Nat → Nat → Int32) : Int64 := subL (ua 10) (subL (ua 12) (ul 0 - ul 2 - (ui 1).toInt64) (un 3)) (un 2)
def swtV (un : Nat → Nat) (ui : Nat → Int32) (ul : Nat → Int64) (ua : Nat → Nat → Int32) : Int64 := subL (ua 11) (subL (ua 13) (ul 1 - ul 4 - (ui 2).toInt64) (un 3)) (un 2)
abbrev balP (un : Nat → Nat) (ui : Nat → Int32) (ul : Nat → Int64) (ua : Nat → Nat → Int32) : Prop := missV un ui ul ua = ul 3 ∧ swtV un ui ul ua = 0
/-- pouring: what is left, and the tanks' rows -/
def prS (cp : Nat → Int32) : Nat → Int32 × Int32 × (Nat → Int32) × (Nat → Int32) → Int32 × Int32 × (Nat → Int32) × (Nat → Int32)
  | t, (lf, sg, vo, su) => if lf ≤ 0 then (lf, sg, vo, su) else
      let stay := mn lf (cp t - vo t)
      let wi := if stay = lf then sg else (sg.toInt64 * stay.toInt64 / lf.toInt64).toInt32
      (lf - stay, sg - wi, upd vo t (vo t + stay), upd su t (su t + wi))
def prN (cp : Nat → Int32) (v0 : Int32 × Int32 × (Nat → Int32) × (Nat → Int32)) : Nat → Int32 × Int32 × (Nat → Int32) × (Nat → Int32)
  | 0 => v0
  | t + 1 => prS cp t (prN cp v0 t)
/-- an hour's taps, m nodes done: charges, volume, sugar, the hour's row -/
def hrC (kd sh ch : Nat → Int32) (t : Int32) : Nat → (Nat → Int32)
  | 0 => ch
  | k + 1 => if kd k = 2 then upd (hrC kd sh ch t k) k (chgV sh (hrC kd sh ch t k) t k) else hrC kd sh ch t k
def hrG (kd rt sh ch vc : Nat → Int32) (t : Int32) (k : Nat) : Int32 := givV rt sh (hrC kd sh ch t k) (vc k) t k
def hrV (kd rt sh ch vc : Nat → Int32) (t : Int32) : Nat → Int32
  | 0 => 0
  | k + 1 => if kd k = 2 then hrV kd rt sh ch vc t k + hrG kd rt sh ch vc t k else hrV kd rt sh ch vc t k
def hrS (kd rt sw sh ch vc : Nat → Int32) (t : Int32) : Nat → Int32
  | 0 => 0
  | k + 1 => if kd k = 2 then hrS kd rt sw sh ch vc t k + hrG kd rt sh ch vc t k * sw k else hrS kd rt sw sh ch vc t k
def hrA (kd rt sh ch vc : Nat → Int32) (t : Int32) (ho : Nat) (sa : Nat → Int32) : Nat → (Nat → Int32)
  | 0 => sa
  | k + 1 => if kd k = 2 then upd (hrA kd rt sh ch vc t ho sa k) (200 * k + ho) (hrG kd rt sh ch vc t k) else hrA kd rt sh ch vc t ho sa k
/-- what the pan loses in an hour -/
def lessV (pv sg fi : Int32) : Int32 := mn (5 * fi) (mx0 (pv - lstV sg))
theorem upd_same (f : Nat → Int32) (k : Nat) : upd f k (f k) = f := by
  funext j; unfold upd; by_cases h : j = k
  · rw [if_pos h, h]
  · rw [if_neg h]
theorem add_room {n : Nat} {kd : Nat → Int32} {pr : Int32} {ok : Prop} [Decidable ok] (hn : n ≤ 20) (h : cfAdd n kd pr ok = 0) : n < 20 := by
  rcases Nat.lt_or_ge n 20 with h1 | h1
  · exact h1
  · have e : n = 20 := by omega
    subst e
    exact absurd h (by unfold cfAdd; split <;> first | decide | (split <;> first | decide | (split <;> first | decide | simp [nI])))
/-- the first place with P, or the bound -/
def fndF (P : Nat → Prop) [DecidablePred P] : Nat → Nat → Nat
  | 0, k => k
  | f + 1, k => if P k then k else fndF P f (k + 1)
def fnd (P : Nat → Prop) [DecidablePred P] (n : Nat) : Nat := fndF P n 0
theorem fndF_at {P : Nat → Prop} [DecidablePred P] : ∀ (f k j : Nat), (∀ i, k ≤ i → i < k + j → ¬ P i) → j < f → P (k + j) → fndF P f k = k + j := by
  intro f
  induction f with
  | zero => intro k j _ h; omega
  | succ f ih =>
    intro k j h h1 h2
    cases j with
    | zero => simp only [fndF]; exact if_pos h2
    | succ j =>
      simp only [fndF]
      rw [if_neg (h k (Nat.le_refl k) (by omega)), ih (k + 1) j (fun i h3 h4 => h i (by omega) (by omega)) (by omega) (by rw [show k + 1 + j = k + (j + 1) by omega]; exact h2)]
      omega
theorem fndF_no {P : Nat → Prop} [DecidablePred P] : ∀ (f k : Nat), (∀ i, k ≤ i → i < k + f → ¬ P i) → fndF P f k = k + f := by
  intro f
  induction f with
  | zero => intro k _; rfl
  | succ f ih =>
    intro k h
    simp only [fndF]
    rw [if_neg (h k (Nat.le_refl k) (by omega)), ih (k + 1) (fun i h3 h4 => h i (by omega) (by omega))]
    omega
theorem fnd_at {P : Nat → Prop} [DecidablePred P] {n k : Nat} (h : ∀ j, j < k → ¬ P j) (h1 : k < n) (h2 : P k) : fnd P n = k := by
  unfold fnd
  rw [fndF_at n 0 k (fun i _ h4 => h i (by omega)) h1 (by rw [Nat.zero_add]; exact h2), Nat.zero_add]
theorem fnd_no {P : Nat → Prop} [DecidablePred P] {n : Nat} (h : ∀ j, j < n → ¬ P j) : fnd P n = n := by
  unfold fnd
  rw [fndF_no n 0 (fun i _ h4 => h i (by omega)), Nat.zero_add]
def cfRank (P : Nat → Prop) [DecidablePred P] (n : Nat) : Int32 := if fnd P n < n then 0 else 1
theorem cfRank_ok {P : Nat → Prop} [DecidablePred P] {n k : Nat} (h : ∀ j, j < k → ¬ P j) (h1 : k < n) (h2 : P k) : cfRank P n = 0 := by
  unfold cfRank; rw [fnd_at h h1 h2, if_pos h1]
theorem cfRank_no {P : Nat → Prop} [DecidablePred P] {n : Nat} (h : ∀ j, j < n → ¬ P j) : cfRank P n = 1 := by
  unfold cfRank; rw [fnd_no h, if_neg (Nat.lt_irrefl n)]
theorem prN_stop {cp : Nat → Int32} {v0 : Int32 × Int32 × (Nat → Int32) × (Nat → Int32)} {t : Nat} (h : (prN cp v0 t).1 ≤ 0) : ∀ d, prN cp v0 (t + d) = prN cp v0 t := by
  intro d
  induction d with
  | zero => rfl
  | succ d ih =>
    show prS cp (t + d) (prN cp v0 (t + d)) = _
    rw [ih]
    generalize prN cp v0 t = z at h ⊢
    obtain ⟨lf, sg, vo, su⟩ := z
    simp only [prS]
    rw [if_pos h]
theorem subS_0 (lk : Nat → Int32) (v : Int32) : v = subS lk v 0 := rfl
theorem subS_S (lk : Nat → Int32) (v : Int32) (k : Nat) : subS lk v k - lk k = subS lk v (k + 1) := rfl
theorem cntV_0 (p : Nat → Prop) [DecidablePred p] : (0 : Int32) = cntV p 0 := rfl
theorem cntV_y (p : Nat → Prop) [DecidablePred p] (m : Nat) (h : p m) : cntV p m + 1 = cntV p (m + 1) := by simp only [cntV]; rw [if_pos h]
theorem cntV_n (p : Nat → Prop) [DecidablePred p] (m : Nat) (h : ¬ p m) : cntV p m + 0 = cntV p (m + 1) := by simp only [cntV]; rw [if_neg h]
theorem totS_0 (sa : Nat → Int32) (k : Nat) : (0 : Int32) = totS sa k 0 := rfl
theorem totS_S (sa : Nat → Int32) (k h : Nat) : totS sa k h + sa (200 * k + h) = totS sa k (h + 1) := rfl
theorem subL_0 (f : Nat → Int32) (v : Int64) : v = subL f v 0 := rfl
theorem subL_S (f : Nat → Int32) (v : Int64) (k : Nat) : subL f v k - (f k).toInt64 = subL f v (k + 1) := rfl
theorem hrV_0 (kd rt sh ch vc : Nat → Int32) (t : Int32) : (0 : Int32) = hrV kd rt sh ch vc t 0 := rfl
theorem hrS_0 (kd rt sw sh ch vc : Nat → Int32) (t : Int32) : (0 : Int32) = hrS kd rt sw sh ch vc t 0 := rfl
theorem hr_n {kd rt sw sh ch vc : Nat → Int32} {t : Int32} {ho : Nat} {sa : Nat → Int32} {k : Nat} (h : ¬ kd k = 2) : hrV kd rt sh ch vc t k = hrV kd rt sh ch vc t (k + 1) ∧ hrS kd rt sw sh ch vc t k = hrS kd rt sw sh ch vc t (k + 1) ∧ hrC kd sh ch t k = hrC kd sh ch t (k + 1) ∧ hrA kd rt sh ch vc t ho sa k = hrA kd rt sh ch vc t ho sa (k + 1) :=
  ⟨(if_neg h).symm, (if_neg h).symm, (if_neg h).symm, (if_neg h).symm⟩
theorem hr_y {kd rt sw sh ch vc : Nat → Int32} {t : Int32} {ho : Nat} {sa : Nat → Int32} {k : Nat} (h : kd k = 2) : hrV kd rt sh ch vc t k + hrG kd rt sh ch vc t k = hrV kd rt sh ch vc t (k + 1) ∧ hrS kd rt sw sh ch vc t k + hrG kd rt sh ch vc t k * sw k = hrS kd rt sw sh ch vc t (k + 1) ∧ upd (hrC kd sh ch t k) k (chgV sh (hrC kd sh ch t k) t k) = hrC kd sh ch t (k + 1) ∧ upd (hrA kd rt sh ch vc t ho sa k) (200 * k + ho) (hrG kd rt sh ch vc t k) = hrA kd rt sh ch vc t ho sa (k + 1) :=
  ⟨(if_pos h).symm, (if_pos h).symm, (if_pos h).symm, (if_pos h).symm⟩
theorem cfTap_ok {n : Nat} {kd : Nat → Int32} {v : Int32} (h : cfTap n kd v = 0) : VN n v ∧ kd v.toNatClampNeg = 2 := by
  unfold cfTap at h
  split at h
  · exact absurd h (by decide)
  · rename_i h1
    split at h
    · rename_i h2; exact ⟨Decidable.not_not.mp h1, h2⟩
    · exact absurd h (by decide)
theorem ne0L {v : Int32} (h : ¬ v ≤ 0) : ¬ v.toInt64 = 0 := by
  intro z
  have e : v.toInt64.toInt = (0 : Int64).toInt := by rw [z]
  rw [Int32.toInt_toInt64] at e
  have e0 : (0 : Int64).toInt = 0 := by decide
  have e1 : (0 : Int32).toInt = 0 := by decide
  rw [Int32.le_iff_toInt_le] at h
  omega
theorem ne0V {v z : Int32} (h : RG 1 500 z) (h2 : z ≤ v) : ¬ v.toInt64 = 0 := by
  refine ne0L ?_
  have h1 := h.1
  rw [Int32.le_iff_toInt_le] at h2 ⊢
  rw [Int32.lt_iff_toInt_lt] at h1
  have e1 : (1 : Int32).toInt = 1 := by decide
  have e0 : (0 : Int32).toInt = 0 := by decide
  omega
theorem ne5 {f : Int32} (h : RG 0 9 f) (h0 : ¬ f = 0) : ¬ 5 * f = 0 := by
  obtain ⟨h1, h2⟩ := h
  obtain ⟨j, hj, rfl⟩ : ∃ j : Nat, j ≤ 9 ∧ f = nI j := nI_of2 (M := 9) (n := 9) (by decide) h1 (Int32.not_lt.mp h2)
  rcases (show j = 0 ∨ j = 1 ∨ j = 2 ∨ j = 3 ∨ j = 4 ∨ j = 5 ∨ j = 6 ∨ j = 7 ∨ j = 8 ∨ j = 9 by omega) with rfl | rfl | rfl | rfl | rfl | rfl | rfl | rfl | rfl | rfl
  · exact absurd rfl h0
  all_goals decide
theorem gradeV_c (b : Int32) : vp_nar .char (gradeV b) = gradeV b := by
  unfold gradeV
  split
  · decide
  · split <;> decide
theorem lgz {a b : Int64} : lg_cmp a b = 0 ↔ a = b := by
  unfold lg_cmp
  by_cases h1 : a > b
  · rw [if_pos h1]; refine ⟨fun z => absurd z (by decide), fun z => ?_⟩; subst z; exact absurd h1 Int64.lt_irrefl
  · rw [if_neg h1]
    by_cases h2 : a = b
    · rw [if_pos h2]; exact ⟨fun _ => h2, fun _ => rfl⟩
    · rw [if_neg h2]; exact ⟨fun z => absurd z (by decide), fun z => absurd z h2⟩
theorem up_at {α : Type} (f : Nat → α) (k : Nat) (v : α) (j : Nat) : va_up f k v j = if j = k then v else f j := rfl
theorem mW_up6 {cA : Nat → ClassId} {q un : Nat → Nat} {ui : Nat → Int32} {ul : Nat → Int64} {ua : Nat → Nat → Int32} {co : Int32} : mW cA q un ui ul ua co = mW cA q un ui ul (up ua 6 (ua 6)) co := rfl
theorem mW_upi4 {cA : Nat → ClassId} {q un : Nat → Nat} {ui : Nat → Int32} {ul : Nat → Int64} {ua : Nat → Nat → Int32} {co v : Int32} : mW cA q un (up ui 1 v) ul ua co = mW cA q un (up (up ui 1 v) 4 (ui 4)) ul ua co := rfl
