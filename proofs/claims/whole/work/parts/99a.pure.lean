/-! the reference's determinant (fraction-free elimination), as a pure function -/
def pv_f (mt : Nat → Int64) (k rs : Nat) : Nat → Nat
  | 0 => rs
  | d + 1 => if mt (4 * (rs - (d + 1)) + k) = 0 then pv_f mt k rs d else rs - (d + 1)
theorem pv_s {mt : Nat → Int64} {k rs p : Nat} (hp : p < rs) (h : mt (4 * p + k) = 0) : pv_f mt k rs (rs - p) = pv_f mt k rs (rs - (p + 1)) := by
  rw [show rs - p = (rs - (p + 1)) + 1 by omega]
  show (if mt (4 * (rs - (rs - (p + 1) + 1)) + k) = 0 then _ else _) = _
  rw [show rs - (rs - (p + 1) + 1) = p by omega, if_pos h]
theorem pv_n {mt : Nat → Int64} {k rs p : Nat} (hp : p < rs) (h : ¬ mt (4 * p + k) = 0) : pv_f mt k rs (rs - p) = p := by
  rw [show rs - p = (rs - (p + 1)) + 1 by omega]
  show (if mt (4 * (rs - (rs - (p + 1) + 1)) + k) = 0 then _ else _) = _
  rw [show rs - (rs - (p + 1) + 1) = p by omega, if_neg h]
/-- rows p and k change places, so far up to column t -/
def sq_f (mt : Nat → Int64) (p k t : Nat) : Nat → Int64 := fun i => if p = k then mt i else if 4 * p ≤ i ∧ i < 4 * p + t then mt (4 * k + (i - 4 * p)) else if 4 * k ≤ i ∧ i < 4 * k + t then mt (4 * p + (i - 4 * k)) else mt i
theorem sq_0 {mt : Nat → Int64} {p k : Nat} : mt = sq_f mt p k 0 := by
  funext i; unfold sq_f
  by_cases h : p = k
  · rw [if_pos h]
  · rw [if_neg h, if_neg (by omega), if_neg (by omega)]
theorem sq_id {mt m2 : Nat → Int64} {p k t u : Nat} (h : p = k) (e : m2 = sq_f mt p k t) : m2 = sq_f mt p k u := by
  rw [e]; funext i; unfold sq_f; rw [if_pos h, if_pos h]
theorem sq_s {mt m2 : Nat → Int64} {p k t : Nat} (hpk : ¬ p = k) (ht : t < 4) (e : m2 = sq_f mt p k t) : vp_updL (vp_updL m2 (4 * p + t) (m2 (4 * k + t))) (4 * k + t) (m2 (4 * p + t)) = sq_f mt p k (t + 1) := by
  have e1 : m2 (4 * k + t) = mt (4 * k + t) := by rw [e]; unfold sq_f; rw [if_neg hpk, if_neg (by omega), if_neg (by omega)]
  have e2 : m2 (4 * p + t) = mt (4 * p + t) := by rw [e]; unfold sq_f; rw [if_neg hpk, if_neg (by omega), if_neg (by omega)]
  rw [e1, e2]
  funext i
  by_cases h1 : i = 4 * k + t
  · subst h1; rw [pk_uLs]; unfold sq_f; rw [if_neg hpk, if_neg (by omega), if_pos (by omega), show 4 * k + t - 4 * k = t by omega]
  · rw [pk_uLn h1]
    by_cases h2 : i = 4 * p + t
    · subst h2; rw [pk_uLs]; unfold sq_f; rw [if_neg hpk, if_pos (by omega), show 4 * p + t - 4 * p = t by omega]
    · rw [pk_uLn h2, e]; unfold sq_f; rw [if_neg hpk, if_neg hpk]
      by_cases h3 : 4 * p ≤ i ∧ i < 4 * p + t
      · rw [if_pos h3, if_pos (show 4 * p ≤ i ∧ i < 4 * p + (t + 1) by omega)]
      · rw [if_neg h3, if_neg (show ¬ (4 * p ≤ i ∧ i < 4 * p + (t + 1)) by omega)]
        by_cases h4 : 4 * k ≤ i ∧ i < 4 * k + t
        · rw [if_pos h4, if_pos (show 4 * k ≤ i ∧ i < 4 * k + (t + 1) by omega)]
        · rw [if_neg h4, if_neg (show ¬ (4 * k ≤ i ∧ i < 4 * k + (t + 1)) by omega)]
theorem sq_d {mt : Nat → Int64} {p k rs : Nat} (hk : k < rs) (hrs : rs ≤ 4) : sq_f mt p k rs (4 * k + k) = mt (4 * p + k) := by
  unfold sq_f
  by_cases h : p = k
  · rw [if_pos h, h]
  · rw [if_neg h, if_neg (by omega), if_pos (by omega), show 4 * k + k - 4 * k = k by omega]
/-- elimination below row k, so far up to (r, c) -/
def el_f (mt : Nat → Int64) (k : Nat) (bf : Int64) (rs r0 c0 : Nat) : Nat → Int64 := fun i =>
  if (k < i / 4 ∧ i / 4 < rs ∧ k < i % 4 ∧ i % 4 < rs) ∧ (i / 4 < r0 ∨ i / 4 = r0 ∧ i % 4 < c0) then (mt i * mt (4 * k + k) - mt (4 * (i / 4) + k) * mt (4 * k + i % 4)) / bf else mt i
theorem el_0 {mt : Nat → Int64} {k : Nat} {bf : Int64} {rs : Nat} : mt = el_f mt k bf rs (k + 1) (k + 1) := by
  funext i; unfold el_f; rw [if_neg (by omega)]
theorem el_r {mt m2 : Nat → Int64} {k : Nat} {bf : Int64} {rs r c : Nat} (hc : rs ≤ c) (e : m2 = el_f mt k bf rs r c) : m2 = el_f mt k bf rs (r + 1) (k + 1) := by
  rw [e]; funext i; unfold el_f
  by_cases h : (k < i / 4 ∧ i / 4 < rs ∧ k < i % 4 ∧ i % 4 < rs) ∧ (i / 4 < r ∨ i / 4 = r ∧ i % 4 < c)
  · rw [if_pos h, if_pos (by omega)]
  · rw [if_neg h, if_neg (by omega)]
theorem el_s {mt m2 : Nat → Int64} {k : Nat} {bf : Int64} {rs r c : Nat} (hr : k < r ∧ r < rs) (hc : k < c ∧ c < rs) (hrs : rs ≤ 4) (e : m2 = el_f mt k bf rs r c) :
    vp_updL m2 (4 * r + c) ((m2 (4 * r + c) * m2 (4 * k + k) - m2 (4 * r + k) * m2 (4 * k + c)) / bf) = el_f mt k bf rs r (c + 1) := by
  have d1 : (4 * r + c) / 4 = r := by omega
  have d2 : (4 * r + c) % 4 = c := by omega
  have e1 : m2 (4 * r + c) = mt (4 * r + c) := by rw [e]; unfold el_f; rw [if_neg (by omega)]
  have e2 : m2 (4 * k + k) = mt (4 * k + k) := by rw [e]; unfold el_f; rw [if_neg (by omega)]
  have e3 : m2 (4 * r + k) = mt (4 * r + k) := by rw [e]; unfold el_f; rw [if_neg (by omega)]
  have e4 : m2 (4 * k + c) = mt (4 * k + c) := by rw [e]; unfold el_f; rw [if_neg (by omega)]
  rw [e1, e2, e3, e4]
  funext i
  by_cases h : i = 4 * r + c
  · subst h; rw [pk_uLs]; unfold el_f; rw [if_pos (by omega), d1, d2]
  · rw [pk_uLn h, e]; unfold el_f
    by_cases h2 : (k < i / 4 ∧ i / 4 < rs ∧ k < i % 4 ∧ i % 4 < rs) ∧ (i / 4 < r ∨ i / 4 = r ∧ i % 4 < c)
    · rw [if_pos h2, if_pos (by omega)]
    · rw [if_neg h2, if_neg (by omega)]
theorem el_d {mt m2 : Nat → Int64} {k : Nat} {bf : Int64} {rs r c : Nat} (hk : k < 4) (e : m2 = el_f mt k bf rs r c) : m2 (4 * k + k) = mt (4 * k + k) := by
  rw [e]; unfold el_f; rw [if_neg (by omega)]
def ds_f (p k : Nat) (sg : Int64) : Int64 := if p = k then sg else -sg
def dt_f (rs : Nat) : Nat → (Nat → Int64) → Int64 → Int64 → Nat → Int64
  | 0, mt, sg, _, _ => sg * mt (5 * (rs - 1))
  | d + 1, mt, sg, bf, k => if pv_f mt k rs (rs - k) = rs then 0 else dt_f rs d (el_f (sq_f mt (pv_f mt k rs (rs - k)) k rs) k bf rs rs (k + 1)) (ds_f (pv_f mt k rs (rs - k)) k sg) (sq_f mt (pv_f mt k rs (rs - k)) k rs (4 * k + k)) (k + 1)
section DT
variable {mt m3 m4 : Nat → Int64} {sg bf z : Int64} {rs k p : Nat}
theorem dt_z (hk : k < rs - 1) (hv : dt_f rs (rs - 1 - k) mt sg bf k = z) (hp : pv_f mt k rs (rs - k) = rs) : 0 = z := by
  rw [← hv, show rs - 1 - k = (rs - 1 - (k + 1)) + 1 by omega]
  exact (if_pos hp).symm
theorem dt_s (hk : k < rs - 1) (hrs : rs ≤ 4) (hv : dt_f rs (rs - 1 - k) mt sg bf k = z) (hp : pv_f mt k rs (rs - k) = p) (hpr : p < rs) (h3 : m3 = sq_f mt p k rs) (h4 : m4 = el_f m3 k bf rs rs (k + 1)) : dt_f rs (rs - 1 - (k + 1)) m4 (ds_f p k sg) (m4 (4 * k + k)) (k + 1) = z := by
  rw [el_d (by omega) h4, h4, h3, ← hv, show rs - 1 - k = (rs - 1 - (k + 1)) + 1 by omega]
  show _ = (if pv_f mt k rs (rs - k) = rs then 0 else _)
  rw [hp, if_neg (by omega)]
theorem dt_e (hk : k = rs - 1) (hv : dt_f rs (rs - 1 - k) mt sg bf k = z) : sg * mt (5 * (rs - 1)) = z := by
  rw [← hv, show rs - 1 - k = 0 by omega]; rfl
end DT
