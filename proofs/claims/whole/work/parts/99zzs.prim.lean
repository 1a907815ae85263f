/-! from every plan one comes to a corner that costs no more -/
def cn_n (s : Nat → Int) : Nat → Nat
  | 0 => 0
  | m + 1 => cn_n s m + (if s m = 0 then 0 else 1)
theorem cn_le {s t : Nat → Int} : ∀ m, (∀ i, i < m → s i = 0 → t i = 0) → cn_n t m ≤ cn_n s m
  | 0, _ => Nat.le_refl _
  | m + 1, h => by
    have a := cn_le m (fun i hi => h i (by omega))
    show cn_n t m + (if t m = 0 then 0 else 1) ≤ cn_n s m + (if s m = 0 then 0 else 1)
    by_cases z : s m = 0
    · rw [if_pos z, if_pos (h m (by omega) z)]; exact a
    · rw [if_neg z]; split <;> omega
theorem cn_lt {s t : Nat → Int} {j : Nat} : ∀ m, j < m → (∀ i, i < m → s i = 0 → t i = 0) → ¬ s j = 0 → t j = 0 → cn_n t m < cn_n s m
  | 0, hj, _, _, _ => absurd hj (Nat.not_lt_zero _)
  | m + 1, hj, h, h1, h2 => by
    show cn_n t m + (if t m = 0 then 0 else 1) < cn_n s m + (if s m = 0 then 0 else 1)
    by_cases e : j = m
    · subst e
      have a := cn_le j (fun i hi => h i (by omega))
      rw [if_neg h1, if_pos h2]; omega
    · have a := cn_lt m (by omega) (fun i hi => h i (by omega)) h1 h2
      by_cases z : s m = 0
      · rw [if_pos z, if_pos (h m (by omega) z)]; omega
      · rw [if_neg z]; split <;> omega
theorem dl_tr {N : Nat → Nat → Int} {P Q : List Nat} (hl : P.length = Q.length) (h4 : P.length ≤ 4) : dl_f (fun a b => N b a) Q P = dl_f N P Q := by
  unfold dl_f
  rw [← hl]
  by_cases z : P.length = 0
  · rw [if_pos z, if_pos z]
  · rw [if_neg z, if_neg z]
    exact xd_tr ⟨by omega, h4⟩ (lm_f N P Q)
def sl_i (lo hi : Nat → Int32) (M : Nat → Nat → Int32) (bd : Nat → Int32) (n : Nat) (d : Int) (x : Nat → Int) : Nat → Int := fun i =>
  if i < n then x i - (lo i).toInt * d else if i < 2 * n then (hi (i - n)).toInt * d - x (i - n) else (bd (i - 2 * n)).toInt * d - sm_f (fun j => (M (i - 2 * n) j).toInt * x j) n
def ra_i (M : Nat → Nat → Int32) (n : Nat) (u : Nat → Int) : Nat → Int := fun i => if i < n then u i else if i < 2 * n then -(u (i - n)) else -(sm_f (fun j => (M (i - 2 * n) j).toInt * u j) n)
section PM
variable {w : Nat → Prop} {lo hi co bd : Nat → Int32} {M : Nat → Nat → Int32} {n k : Nat}
theorem sl_mv {d r s : Int} {x u : Nat → Int} (i : Nat) : sl_i lo hi M bd n (r * d) (fun j => r * x j - s * u j) i = r * sl_i lo hi M bd n d x i - s * ra_i M n u i := by
  unfold sl_i ra_i
  by_cases h1 : i < n
  · rw [if_pos h1, if_pos h1, if_pos h1]; grind
  · rw [if_neg h1, if_neg h1, if_neg h1]
    by_cases h2 : i < 2 * n
    · rw [if_pos h2, if_pos h2, if_pos h2]; grind
    · rw [if_neg h2, if_neg h2, if_neg h2, hb_l1]; grind
theorem sl_ki {d : Int} {x : Nat → Int} : ki_ok lo hi M bd n k d x ↔ ∀ i, i < 2 * n + k → 0 ≤ sl_i lo hi M bd n d x i := by
  constructor
  · intro h i hi'
    unfold sl_i
    by_cases h1 : i < n
    · rw [if_pos h1]; have := (h.1 i h1).1; omega
    · rw [if_neg h1]
      by_cases h2 : i < 2 * n
      · rw [if_pos h2]; have := (h.1 (i - n) (by omega)).2; omega
      · rw [if_neg h2]; have := h.2 (i - 2 * n) (by omega); omega
  · intro h
    refine ⟨fun j hj => ⟨?_, ?_⟩, fun i hi' => ?_⟩
    · have := h j (by omega)
      unfold sl_i at this
      rw [if_pos hj] at this; omega
    · have := h (n + j) (by omega)
      unfold sl_i at this
      rw [if_neg (by omega), if_pos (by omega), show n + j - n = j by omega] at this; omega
    · have := h (2 * n + i) (by omega)
      unfold sl_i at this
      rw [if_neg (by omega), if_neg (by omega), show 2 * n + i - 2 * n = i by omega] at this; omega
theorem hb_co (hq : pq_ok lo hi co M bd n k) : ∀ (K : Nat) (d : Int) (x : Nat → Int), cn_n (sl_i lo hi M bd n d x) (2 * n + k) ≤ K → 0 < d → ki_ok lo hi M bd n k d x → (∀ j, j < n → w j → ∃ v : Int, x j = v * d) →
    ∃ (e : Int) (y : Nat → Int), 0 < e ∧ ki_ok lo hi M bd n k e y ∧ kn_ok w lo hi M bd n k e y ∧ sm_f (fun j => (co j).toInt * y j) n * d ≤ sm_f (fun j => (co j).toInt * x j) n * e := by
  intro K
  induction K with
  | zero | succ K ih =>
    intro d x hK hd hki hw
    obtain ⟨P, Q, hk, hmax⟩ := hb_rk (fun i j => (M i j).toInt) k n (fun i => sm_f (fun j => (M i j).toInt * x j) n = (bd i).toInt * d) (fun j => ¬ w j ∧ (lo j).toInt * d < x j ∧ x j < (hi j).toInt * d)
    by_cases hA : ∀ q, q < n → (¬ w q ∧ (lo q).toInt * d < x q ∧ x q < (hi q).toInt * d) → q ∈ Q
    · refine ⟨d, x, hd, hki, ?_, Int.le_refl _⟩
      obtain ⟨⟨l1, l2⟩, hP, hQ, hU, hV, hD⟩ := hk
      refine ⟨Q, P, ⟨l1.symm, by omega⟩, hQ, hP, fun t ht => (hV _ (gd_mem.mpr ⟨t, ht, rfl⟩)).1, fun z => hD ?_, fun t ht => hU _ (gd_mem.mpr ⟨t, ht, rfl⟩), fun j hj => ?_⟩
      · rw [← dl_tr l1 l2]; exact z
      · by_cases z : j ∈ Q
        · exact Or.inl (gd_mem.mp z)
        · right
          have b := hki.1 j hj
          have c := (hq.2.2.1 j hj).1
          have hin : ∀ v : Int, x j = v * d → (lo j).toInt ≤ v ∧ v ≤ (hi j).toInt := fun v e => by
            rw [e] at b
            exact ⟨Int.le_of_mul_le_mul_right b.1 hd, Int.le_of_mul_le_mul_right b.2 hd⟩
          by_cases y : w j
          · obtain ⟨v, e⟩ := hw j hj y
            exact ⟨v, hin v e, e, fun q => absurd y q⟩
          · by_cases y1 : (lo j).toInt * d < x j
            · have y2 : ¬ x j < (hi j).toInt * d := fun y2 => z (hA j hj ⟨y, y1, y2⟩)
              exact ⟨(hi j).toInt, hin _ (by omega), by omega, fun _ => Or.inr rfl⟩
            · exact ⟨(lo j).toInt, hin _ (by omega), by omega, fun _ => Or.inl rfl⟩
    · obtain ⟨q, z⟩ := Classical.not_forall.mp hA
      obtain ⟨hqn, z⟩ := Classical.not_imp.mp z
      obtain ⟨hVq, hqQ⟩ := Classical.not_imp.mp z
      obtain ⟨v, hv⟩ := nv_ex (N := fun i j => (M i j).toInt) (P := P) (ic_in hk.2.2.1 hqn hqQ)
      obtain ⟨hvq, hker⟩ := hb_kr hk hmax (Or.inr hq.1.2) hqn hVq hqQ hv
      have hsup : ∀ c, ¬ (¬ w c ∧ (lo c).toInt * d < x c ∧ x c < (hi c).toInt * d) → v c = 0 := fun c hc => hv.2 c (fun y => by
        rcases (in_mem q c Q).mp y with e | e
        · exact hc (by rw [e]; exact hVq)
        · exact hc (hk.2.2.2.2.1 c e))
      -- a direction in which the cost doesn't grow
      obtain ⟨u, hu1, hu2, hu3, hu4⟩ : ∃ u : Nat → Int, ¬ u q = 0 ∧ (∀ c, ¬ (¬ w c ∧ (lo c).toInt * d < x c ∧ x c < (hi c).toInt * d) → u c = 0) ∧ (∀ p, p < k → sm_f (fun j => (M p j).toInt * x j) n = (bd p).toInt * d → sm_f (fun j => (M p j).toInt * u j) n = 0) ∧ 0 ≤ sm_f (fun j => (co j).toInt * u j) n := by
        rcases Int.le_total 0 (sm_f (fun j => (co j).toInt * v j) n) with y | y
        · exact ⟨v, hvq, hsup, fun p hp h => hker p hp h, y⟩
        · refine ⟨fun c => v c * (-1), fun e => hvq (by dsimp only at e; omega), fun c hc => by dsimp only; rw [hsup c hc]; rfl, fun p hp h => ?_, ?_⟩
          · rw [sm_cg n (g := fun j => (M p j).toInt * v j * (-1)) (fun j _ => (Int.mul_assoc _ _ _).symm), sm_mul, show sm_f (fun j => (M p j).toInt * v j) n = 0 from hker p hp h]; rfl
          · rw [sm_cg n (g := fun j => (co j).toInt * v j * (-1)) (fun j _ => (Int.mul_assoc _ _ _).symm), sm_mul]; omega
      have hs := sl_ki.mp hki
      have hr : ∃ i, i < 2 * n + k ∧ 0 < ra_i M n u i := by
        rcases Int.lt_or_le 0 (u q) with y | y
        · exact ⟨q, by omega, by unfold ra_i; rw [if_pos hqn]; exact y⟩
        · exact ⟨n + q, by omega, by unfold ra_i; rw [if_neg (by omega), if_pos (by omega), show n + q - n = q by omega]; omega⟩
      have h0 : ∀ i, i < 2 * n + k → sl_i lo hi M bd n d x i = 0 → ra_i M n u i = 0 := fun i hi' e => by
        unfold sl_i at e
        unfold ra_i
        by_cases h1 : i < n
        · rw [if_pos h1] at e ⊢
          exact hu2 i (fun y => by omega)
        · rw [if_neg h1] at e ⊢
          by_cases h2 : i < 2 * n
          · rw [if_pos h2] at e ⊢
            rw [hu2 (i - n) (fun y => by omega)]; rfl
          · rw [if_neg h2] at e ⊢
            rw [hu3 (i - 2 * n) (by omega) (by omega)]; rfl
      obtain ⟨i, hi', hpos, hmv⟩ := hb_mv (2 * n + k) _ _ hs hr
      have hsi : ¬ sl_i lo hi M bd n d x i = 0 := fun e => by have := h0 i hi' e; omega
      have hsi0 := hs i hi'
      generalize hrr : ra_i M n u i = r at hpos hmv
      generalize hss : sl_i lo hi M bd n d x i = s at hsi hmv hsi0
      have hki2 : ki_ok lo hi M bd n k (r * d) (fun j => r * x j - s * u j) := sl_ki.mpr (fun t ht => by rw [sl_mv]; exact hmv t ht)
      have hlt : cn_n (sl_i lo hi M bd n (r * d) (fun j => r * x j - s * u j)) (2 * n + k) < cn_n (sl_i lo hi M bd n d x) (2 * n + k) := cn_lt (j := i) _ hi' (fun t ht e => by rw [sl_mv, e, h0 t ht e]; omega) (by rw [hss]; exact hsi) (by rw [sl_mv, hss, hrr, Int.mul_comm]; omega)
      first
      | exact absurd hlt (by omega)
      | (have hrd : 0 < r * d := Int.mul_pos hpos hd
         obtain ⟨e, y, e1, e2, e3, e4⟩ := ih (r * d) (fun j => r * x j - s * u j) (by omega) hrd hki2 (fun j hj z => by
           obtain ⟨v1, ev⟩ := hw j hj z
           refine ⟨v1, ?_⟩
           show r * x j - s * u j = v1 * (r * d)
           rw [hu2 j (fun y => y.1 z), ev]; grind)
         refine ⟨e, y, e1, e2, e3, ?_⟩
         rw [hb_l1] at e4
         have e5 : (r * sm_f (fun j => (co j).toInt * x j) n - s * sm_f (fun j => (co j).toInt * u j) n) * d ≤ sm_f (fun j => (co j).toInt * x j) n * (r * d) := by
           have : 0 ≤ s * sm_f (fun j => (co j).toInt * u j) n * d := Int.mul_nonneg (Int.mul_nonneg hsi0 hu4) (by omega)
           grind
         exact xq_le e1 hrd hd e4 e5)
end PM
