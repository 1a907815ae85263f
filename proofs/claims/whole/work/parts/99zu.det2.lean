/-! the reference's elimination gives the determinant -/
theorem el_int {x y z w b : Int64} {Q : Int} (hx : x.toInt.natAbs ≤ 486000) (hy : y.toInt.natAbs ≤ 486000) (hz : z.toInt.natAbs ≤ 486000) (hw : w.toInt.natAbs ≤ 486000) (hb : ¬ b.toInt = 0) (h : x.toInt * y.toInt - z.toInt * w.toInt = b.toInt * Q) : ((x * y - z * w) / b).toInt = Q := by
  have a1 := nb_m hx hy
  have a2 := nb_m hz hw
  have e1 : (x * y).toInt = x.toInt * y.toInt := by rw [Int64.toInt_mul]; exact Int.bmod_eq_of_le (by omega) (by omega)
  have e2 : (z * w).toInt = z.toInt * w.toInt := by rw [Int64.toInt_mul]; exact Int.bmod_eq_of_le (by omega) (by omega)
  have e3 : (x * y - z * w).toInt = b.toInt * Q := by rw [Int64.toInt_sub, e1, e2, ← h]; exact Int.bmod_eq_of_le (by omega) (by omega)
  have hq : Q.natAbs ≤ (b.toInt * Q).natAbs := by
    rw [Int.natAbs_mul]
    exact Nat.le_mul_of_pos_left _ (by omega)
  rw [Int64.toInt_div, e3, Int.mul_tdiv_cancel_left Q hb]
  rw [← h] at hq
  exact Int.bmod_eq_of_le (by omega) (by omega)
theorem pv_spec {mt : Nat → Int64} {k rs : Nat} : ∀ d, d ≤ rs → (pv_f mt k rs d = rs ∧ ∀ r, rs - d ≤ r → r < rs → mt (4 * r + k) = 0) ∨ (rs - d ≤ pv_f mt k rs d ∧ pv_f mt k rs d < rs ∧ ¬ mt (4 * pv_f mt k rs d + k) = 0)
  | 0, _ => Or.inl ⟨rfl, fun r h1 h2 => by omega⟩
  | d + 1, hd => by
    by_cases h : mt (4 * (rs - (d + 1)) + k) = 0
    · have e : pv_f mt k rs (d + 1) = pv_f mt k rs d := if_pos h
      rw [e]
      rcases pv_spec (mt := mt) (k := k) (rs := rs) d (by omega) with ⟨a, b⟩ | ⟨a, b, c⟩
      · refine Or.inl ⟨a, fun r h1 h2 => ?_⟩
        by_cases z : r = rs - (d + 1)
        · rw [z]; exact h
        · exact b r (by omega) h2
      · exact Or.inr ⟨by omega, b, c⟩
    · have e : pv_f mt k rs (d + 1) = rs - (d + 1) := if_neg h
      rw [e]
      exact Or.inr ⟨Nat.le_refl _, by omega, h⟩
theorem sq_at {mt : Nat → Int64} {p k rs r c : Nat} (hrs : rs ≤ 4) (hr : r < rs) (hc : c < rs) : sq_f mt p k rs (4 * r + c) = mt (4 * (if r = p then k else if r = k then p else r) + c) := by
  unfold sq_f
  by_cases e : p = k
  · subst e
    rw [if_pos rfl]
    by_cases h1 : r = p
    · rw [if_pos h1, h1]
    · rw [if_neg h1, if_neg h1]
  · rw [if_neg e]
    by_cases h1 : r = p
    · subst h1
      rw [if_pos (by omega), if_pos rfl, show 4 * r + c - 4 * r = c by omega]
    · rw [if_neg (by omega), if_neg h1]
      by_cases h2 : r = k
      · subst h2
        rw [if_pos (by omega), if_pos rfl, show 4 * r + c - 4 * r = c by omega]
      · rw [if_neg (by omega), if_neg h2]
theorem el_at {m : Nat → Int64} {k rs r c : Nat} {bf : Int64} (hrs : rs ≤ 4) (hr : k < r ∧ r < rs) (hc : k < c ∧ c < rs) : el_f m k bf rs rs (k + 1) (4 * r + c) = (m (4 * r + c) * m (4 * k + k) - m (4 * r + k) * m (4 * k + c)) / bf := by
  unfold el_f
  rw [show (4 * r + c) / 4 = r by omega, show (4 * r + c) % 4 = c by omega, if_pos ⟨⟨hr.1, hr.2, hc.1, hc.2⟩, Or.inl hr.2⟩]
def rp_ok (rs k : Nat) (mt : Nat → Int64) (A : Nat → Nat → Int) : Prop := ∀ r c, k ≤ r → r < rs → k ≤ c → c < rs → (mt (4 * r + c)).toInt = ek_f k A r c
theorem i6_ne {x : Int64} (h : ¬ x = 0) : ¬ x.toInt = 0 := fun e => h (Int64.toInt_inj.mp (by rw [e]; rfl))
theorem zs_id {A : Nat → Nat → Int} {k : Nat} : zs_f A k k = A := by
  funext r c; unfold zs_f
  by_cases h : r = k
  · rw [if_pos h, h]
  · rw [if_neg h, if_neg h]
theorem xd_zs2 {rs p k : Nat} (hrs : rs ≤ 4) (hk : k ≤ p) (hp : p < rs) {A : Nat → Nat → Int} {sg : Int64} (hs : sg.toInt = 1 ∨ sg.toInt = -1) : ((ds_f p k sg).toInt = 1 ∨ (ds_f p k sg).toInt = -1) ∧ (ds_f p k sg).toInt * xd_f rs (zs_f A p k) = sg.toInt * xd_f rs A := by
  unfold ds_f
  by_cases h : p = k
  · subst h
    rw [if_pos rfl, zs_id]; exact ⟨hs, rfl⟩
  · rw [if_neg h, xd_zs hrs (by omega) hp, l6_neg (by omega)]
    refine ⟨by omega, ?_⟩
    rw [Int.neg_mul_neg]
theorem dt_int {rs cv : Nat} (hrs : rs ≤ 4) : ∀ (d k : Nat), k + d + 1 = rs → ∀ (mt : Nat → Int64) (A : Nat → Nat → Int) (sg bf : Int64), rp_ok rs k mt A → mb_ok rs cv A → (k ≤ 2 → bf.toInt = pb_f k A ∧ ¬ pb_f k A = 0) → (k = 2 → ¬ A 0 0 = 0) → (sg.toInt = 1 ∨ sg.toInt = -1) → (ek_f k A (rs - 1) (rs - 1)).natAbs ≤ 1000000000000 →
    (dt_f rs d mt sg bf k).toInt = sg.toInt * xd_f rs A := by
  intro d
  induction d with
  | zero =>
    intro k hk mt A sg bf hA hb hbf h0 hs hE
    show (sg * mt (5 * (rs - 1))).toInt = _
    have e := hA (rs - 1) (rs - 1) (by omega) (by omega) (by omega) (by omega)
    rw [show 4 * (rs - 1) + (rs - 1) = 5 * (rs - 1) by omega] at e
    rw [Int64.toInt_mul, e]
    unfold xd_f
    rw [show rs - 1 = k by omega] at hE ⊢
    rcases hs with h | h <;> rw [h]
    · rw [Int.one_mul]; exact Int.bmod_eq_of_le (by omega) (by omega)
    · rw [Int.neg_one_mul]; exact Int.bmod_eq_of_le (by omega) (by omega)
  | succ d ih =>
    intro k hk mt A sg bf hA hb hbf h0 hs hE
    have hk2 : k ≤ 2 := by omega
    obtain ⟨hb1, hb2⟩ := hbf hk2
    have hkr : k < rs := by omega
    have sp := pv_spec (mt := mt) (k := k) (rs := rs) (rs - k) (by omega)
    rw [show rs - (rs - k) = k by omega] at sp
    show (if pv_f mt k rs (rs - k) = rs then 0 else dt_f rs d (el_f (sq_f mt (pv_f mt k rs (rs - k)) k rs) k bf rs rs (k + 1)) (ds_f (pv_f mt k rs (rs - k)) k sg) (sq_f mt (pv_f mt k rs (rs - k)) k rs (4 * k + k)) (k + 1)).toInt = _
    generalize pv_f mt k rs (rs - k) = p at sp
    rcases sp with ⟨e, hz⟩ | ⟨hp1, hp2, hp3⟩
    · rw [if_pos e, xd_0 hrs (by omega) hb2 h0 (fun r h1 h2 => by rw [← hA r k h1 h2 (Nat.le_refl _) hkr, hz r h1 h2]; rfl), Int.mul_zero]; rfl
    · rw [if_neg (by omega)]
      obtain ⟨s1, s2⟩ := xd_zs2 (A := A) hrs hp1 hp2 hs
      have hB : rp_ok rs k (sq_f mt p k rs) (zs_f A p k) := by
        intro r c h1 h2 h3 h4
        rw [sq_at hrs h2 h4, ek_zs (by omega) hp1 h1]
        by_cases z1 : r = p
        · rw [if_pos z1]; exact hA k c (Nat.le_refl _) hkr h3 h4
        · rw [if_neg z1]
          by_cases z2 : r = k
          · rw [if_pos z2]; exact hA p c hp1 hp2 h3 h4
          · rw [if_neg z2]; exact hA r c h1 h2 h3 h4
      have hbB := mb_zs hb hp2 hkr
      have hpv : ¬ (sq_f mt p k rs (4 * k + k)) = 0 := by
        rw [sq_at hrs hkr hkr]
        by_cases z : k = p
        · rw [if_pos z]; rw [z] at hp3 ⊢; exact hp3
        · rw [if_neg z, if_pos rfl]; exact hp3
      have hpe := hB k k (Nat.le_refl _) hkr (Nat.le_refl _) hkr
      have hpz : pb_f k (zs_f A p k) = pb_f k A := pb_zs hk2 hp1
      generalize hm2 : sq_f mt p k rs = m2 at hB hpv hpe
      generalize hA2 : zs_f A p k = A2 at hB hbB hpe hpz s2
      rw [← s2]
      have hbd : ∀ r c, r < rs → k ≤ c → c < rs → (ek_f k A2 r c).natAbs ≤ 486000 := fun r c h1 h2 h3 => nb_ek hbB hk2 h1 ⟨h2, h3⟩
      refine ih (k + 1) (by omega) _ A2 _ _ (fun r c h1 h2 h3 h4 => ?_) hbB (fun hk1 => ?_) (fun hk1 => ?_) s1 ?_
      · rw [el_at hrs ⟨by omega, h2⟩ ⟨by omega, h4⟩]
        refine el_int ?_ ?_ ?_ ?_ ?_ ?_
        · rw [hB r c (by omega) h2 (by omega) h4]; exact hbd r c h2 (by omega) h4
        · rw [hpe]; exact hbd k k hkr (Nat.le_refl _) hkr
        · rw [hB r k (by omega) h2 (Nat.le_refl _) hkr]; exact hbd r k h2 (Nat.le_refl _) hkr
        · rw [hB k c (Nat.le_refl _) hkr (by omega) h4]; exact hbd k c hkr (by omega) h4
        · rw [hb1]; exact hb2
        · rw [hB r c (by omega) h2 (by omega) h4, hpe, hB r k (by omega) h2 (Nat.le_refl _) hkr, hB k c (Nat.le_refl _) hkr (by omega) h4, hb1, ← hpz]
          exact ek_step k hk2 A2 r c
      · have e : pb_f (k + 1) A2 = ek_f k A2 k k := by
          rcases (show k = 0 ∨ k = 1 by omega) with rfl | rfl <;> rfl
        rw [e, ← hpe]
        exact ⟨rfl, i6_ne hpv⟩
      · rcases (show k = 1 by omega) with rfl
        have : pb_f 1 A2 = A2 0 0 := rfl
        rw [← this, hpz]; exact hb2
      · by_cases h3 : k + 1 ≤ 2
        · exact nb_le (nb_ek hbB h3 (by omega) ⟨by omega, by omega⟩) (by decide)
        · have st := ek_step k hk2 A2 (rs - 1) (rs - 1)
          have q1 := nb_m (hbd (rs - 1) (rs - 1) (by omega) (by omega) (by omega)) (hbd k k hkr (Nat.le_refl _) hkr)
          have q2 := nb_m (hbd (rs - 1) k (by omega) (Nat.le_refl _) hkr) (hbd k (rs - 1) hkr (by omega) (by omega))
          have hq : (ek_f (k + 1) A2 (rs - 1) (rs - 1)).natAbs ≤ (pb_f k A2 * ek_f (k + 1) A2 (rs - 1) (rs - 1)).natAbs := by
            rw [Int.natAbs_mul]
            exact Nat.le_mul_of_pos_left _ (by rw [hpz]; omega)
          rw [← st] at hq
          omega
/-- the determinant of the picked rows, one column replaced -/
def da_f (RW : Nat → Int64) (pk : Nat → Nat) (cv : Int32) : Nat → Nat → Int := fun r c => (RW (5 * pk r + cx_f c cv)).toInt
theorem dd_int {RW : Nat → Int64} {pk : Nat → Nat} {cv : Int32} {rs cu : Nat} (hrs : 1 ≤ rs ∧ rs ≤ 4) (hb : mb_ok rs cu (da_f RW pk cv)) : (dd_f RW pk cv rs).toInt = xd_f rs (da_f RW pk cv) := by
  have hA : rp_ok rs 0 (do_f RW pk cv rs (fun _ => 0) rs 0) (da_f RW pk cv) := by
    intro r c h1 h2 h3 h4
    show (do_f RW pk cv rs (fun _ => 0) rs 0 (4 * r + c)).toInt = (RW (5 * pk r + cx_f c cv)).toInt
    unfold do_f
    rw [show (4 * r + c) / 4 = r by omega, show (4 * r + c) % 4 = c by omega, if_pos ⟨⟨h2, h4⟩, Or.inl h2⟩]
  have hE : (ek_f 0 (da_f RW pk cv) (rs - 1) (rs - 1)).natAbs ≤ 1000000000000 := nb_le (hb (rs - 1) (rs - 1) (by omega) (by omega)) (Nat.le_trans (mb_1 _ _) (by decide))
  have h := dt_int (cv := cu) hrs.2 (rs - 1) 0 (by omega) _ _ 1 1 hA hb (fun _ => ⟨rfl, by show ¬ (1 : Int) = 0; decide⟩) (fun h => by omega) (Or.inl rfl) hE
  rw [show (1 : Int64).toInt = 1 from rfl, Int.one_mul] at h
  exact h
