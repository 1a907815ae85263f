/-! the reference's corners over the integers -/
def ki_ok (lo hi : Nat → Int32) (M : Nat → Nat → Int32) (bd : Nat → Int32) (n k : Nat) (d : Int) (x : Nat → Int) : Prop := (∀ j, j < n → (lo j).toInt * d ≤ x j ∧ x j ≤ (hi j).toInt * d) ∧ ∀ i, i < k → sm_f (fun j => (M i j).toInt * x j) n ≤ (bd i).toInt * d
def nn_f (M : Nat → Nat → Int32) : Nat → Nat → Int := fun a i => (M i a).toInt
/-- x / d is a corner: the amounts of R are told by the limits of C, the others are whole or stand at an end -/
def kn_ok (w : Nat → Prop) (lo hi : Nat → Int32) (M : Nat → Nat → Int32) (bd : Nat → Int32) (n k : Nat) (d : Int) (x : Nat → Int) : Prop := ∃ R C : List Nat, (R.length = C.length ∧ R.length ≤ 4) ∧ ic_l n R ∧ ic_l k C ∧ (∀ t, t < R.length → ¬ w (R.getD t 0)) ∧ ¬ dl_f (nn_f M) R C = 0 ∧
  (∀ t, t < C.length → sm_f (fun j => (M (C.getD t 0) j).toInt * x j) n = (bd (C.getD t 0)).toInt * d) ∧ ∀ j, j < n → (∃ t, t < R.length ∧ R.getD t 0 = j) ∨ ∃ v : Int, ((lo j).toInt ≤ v ∧ v ≤ (hi j).toInt) ∧ x j = v * d ∧ (¬ w j → v = (lo j).toInt ∨ v = (hi j).toInt)
def pq_ok (lo hi co : Nat → Int32) (M : Nat → Nat → Int32) (bd : Nat → Int32) (n k : Nat) : Prop := (1 ≤ n ∧ n ≤ 4) ∧ k ≤ 6 ∧ (∀ j, j < n → (-20 ≤ (lo j).toInt ∧ (lo j).toInt ≤ (hi j).toInt ∧ (hi j).toInt ≤ 20) ∧ (co j).toInt.natAbs ≤ 9) ∧ ∀ i, i < k → (∀ j, j < n → (M i j).toInt.natAbs ≤ 9) ∧ (bd i).toInt.natAbs ≤ 99
/-- re tells the amounts that are not w, in their order -/
def re_ok (w : Nat → Prop) (re : Nat → Nat) (m n : Nat) : Prop := (∀ c, c < m → re c < n ∧ ¬ w (re c)) ∧ (∀ c, c + 1 < m → re c < re (c + 1)) ∧ ∀ i, i < n → ¬ w i → ∃ c, c < m ∧ re c = i
theorem re_mono {re : Nat → Nat} {m : Nat} (h : ∀ c, c + 1 < m → re c < re (c + 1)) : ∀ b a, a < b → b < m → re a < re b
  | 0, _, h1, _ => absurd h1 (Nat.not_lt_zero _)
  | b + 1, a, h1, h2 => by
    rcases Nat.lt_or_eq_of_le (Nat.le_of_lt_succ h1) with q | q
    · exact Nat.lt_trans (re_mono h b a q (by omega)) (h b h2)
    · rw [q]; exact h b h2
theorem sm_re {w : Nat → Prop} {re : Nat → Nat} {g : Nat → Int} : ∀ n m, re_ok w re m n → (∀ j, j < n → w j → g j = 0) → sm_f g n = sm_f (fun c => g (re c)) m
  | 0, m, h, _ => by
    rcases Nat.eq_zero_or_pos m with z | z
    · rw [z]; rfl
    · exact absurd (h.1 0 z).1 (Nat.not_lt_zero _)
  | n + 1, m, h, hg => by
    show sm_f g n + g n = _
    by_cases hw : w n
    · rw [hg n (by omega) hw, Int.add_zero]
      refine sm_re n m ⟨fun c hc => ⟨?_, (h.1 c hc).2⟩, h.2.1, fun i hi hn => h.2.2 i (by omega) hn⟩ (fun j hj => hg j (by omega))
      have := (h.1 c hc).1
      rcases Nat.lt_or_eq_of_le (Nat.le_of_lt_succ this) with q | q
      · exact q
      · rw [← q] at hw; exact absurd hw (h.1 c hc).2
    · obtain ⟨c, hc, e⟩ := h.2.2 n (by omega) hw
      have hm : m = c + 1 := by
        rcases Nat.lt_or_ge (c + 1) m with q | q
        · have h1 := h.2.1 c q
          have h2 := (h.1 (c + 1) q).1
          omega
        · omega
      subst hm
      show sm_f g n + g n = sm_f (fun c => g (re c)) c + g (re c)
      rw [e, sm_re n c ⟨fun a ha => ⟨?_, (h.1 a (by omega)).2⟩, fun a ha => h.2.1 a (by omega), fun i hi hn => ?_⟩ (fun j hj => hg j (by omega))]
      · have := re_mono h.2.1 c a ha (by omega); omega
      · obtain ⟨a, ha, ea⟩ := h.2.2 i (by omega) hn
        refine ⟨a, ?_, ea⟩
        rcases Nat.lt_or_eq_of_le (Nat.le_of_lt_succ ha) with q | q
        · exact q
        · rw [q] at ea; omega
theorem nb_x1 {K : Nat} {A : Nat → Nat → Int} {rs : Nat} (hrs : 1 ≤ rs ∧ rs ≤ 4) (h : ∀ r c, r < rs → c < rs → (A r c).natAbs ≤ K) : (xd_f rs A).natAbs ≤ K + 2 * (K * K) + 3 * (K * (2 * (K * K))) + 4 * (K * (3 * (K * (2 * (K * K))))) := by
  have d2 : ∀ a b c d : Int, a.natAbs ≤ K → b.natAbs ≤ K → c.natAbs ≤ K → d.natAbs ≤ K → (a * b - c * d).natAbs ≤ 2 * (K * K) := fun a b c d h1 h2 h3 h4 => by
    have := nb_m h1 h2; have := nb_m h3 h4; omega
  have d3 : ∀ a b c m1 m2 m3 : Int, a.natAbs ≤ K → b.natAbs ≤ K → c.natAbs ≤ K → m1.natAbs ≤ 2 * (K * K) → m2.natAbs ≤ 2 * (K * K) → m3.natAbs ≤ 2 * (K * K) → (a * m1 - b * m2 + c * m3).natAbs ≤ 3 * (K * (2 * (K * K))) := fun a b c m1 m2 m3 h1 h2 h3 h4 h5 h6 => by
    have := nb_m h1 h4; have := nb_m h2 h5; have := nb_m h3 h6; omega
  have d4 : ∀ a b c d m1 m2 m3 m4 : Int, a.natAbs ≤ K → b.natAbs ≤ K → c.natAbs ≤ K → d.natAbs ≤ K → m1.natAbs ≤ 3 * (K * (2 * (K * K))) → m2.natAbs ≤ 3 * (K * (2 * (K * K))) → m3.natAbs ≤ 3 * (K * (2 * (K * K))) → m4.natAbs ≤ 3 * (K * (2 * (K * K))) → (a * m1 - b * m2 + c * m3 - d * m4).natAbs ≤ 4 * (K * (3 * (K * (2 * (K * K))))) := fun a b c d m1 m2 m3 m4 h1 h2 h3 h4 h5 h6 h7 h8 => by
    have := nb_m h1 h5; have := nb_m h2 h6; have := nb_m h3 h7; have := nb_m h4 h8; omega
  rcases (show rs = 1 ∨ rs = 2 ∨ rs = 3 ∨ rs = 4 by omega) with rfl | rfl | rfl | rfl
  · have := h 0 0 (by decide) (by decide)
    show (A 0 0).natAbs ≤ _
    omega
  · have := d2 (A 0 0) (A 1 1) (A 1 0) (A 0 1) (h 0 0 (by decide) (by decide)) (h 1 1 (by decide) (by decide)) (h 1 0 (by decide) (by decide)) (h 0 1 (by decide) (by decide))
    show (e1_f A 1 1).natAbs ≤ _
    unfold e1_f; omega
  · show (e2_f A 2 2).natAbs ≤ _
    unfold e2_f
    refine nb_le (d3 _ _ _ _ _ _ ?_ ?_ ?_ (d2 _ _ _ _ ?_ ?_ ?_ ?_) (d2 _ _ _ _ ?_ ?_ ?_ ?_) (d2 _ _ _ _ ?_ ?_ ?_ ?_)) (by omega) <;> exact h _ _ (by decide) (by decide)
  · show (e3_f A 3 3).natAbs ≤ _
    unfold e3_f
    refine nb_le (d4 _ _ _ _ _ _ _ _ ?_ ?_ ?_ ?_ (d3 _ _ _ _ _ _ ?_ ?_ ?_ (d2 _ _ _ _ ?_ ?_ ?_ ?_) (d2 _ _ _ _ ?_ ?_ ?_ ?_) (d2 _ _ _ _ ?_ ?_ ?_ ?_)) (d3 _ _ _ _ _ _ ?_ ?_ ?_ (d2 _ _ _ _ ?_ ?_ ?_ ?_) (d2 _ _ _ _ ?_ ?_ ?_ ?_) (d2 _ _ _ _ ?_ ?_ ?_ ?_)) (d3 _ _ _ _ _ _ ?_ ?_ ?_ (d2 _ _ _ _ ?_ ?_ ?_ ?_) (d2 _ _ _ _ ?_ ?_ ?_ ?_) (d2 _ _ _ _ ?_ ?_ ?_ ?_)) (d3 _ _ _ _ _ _ ?_ ?_ ?_ (d2 _ _ _ _ ?_ ?_ ?_ ?_) (d2 _ _ _ _ ?_ ?_ ?_ ?_) (d2 _ _ _ _ ?_ ?_ ?_ ?_))) (by omega) <;> exact h _ _ (by decide) (by decide)
theorem i6_mul {x y : Int64} {a b : Nat} (hx : x.toInt.natAbs ≤ a) (hy : y.toInt.natAbs ≤ b) (hab : a * b ≤ 4000000000000000000) : (x * y).toInt = x.toInt * y.toInt := by
  have h := nb_m hx hy
  rw [Int64.toInt_mul]; exact Int.bmod_eq_of_le (by omega) (by omega)
theorem i6_sub {x y : Int64} (h : (x.toInt - y.toInt).natAbs ≤ 4000000000000000000) : (x - y).toInt = x.toInt - y.toInt := by
  rw [Int64.toInt_sub]; exact Int.bmod_eq_of_le (by omega) (by omega)
theorem i6_add {x y : Int64} (h : (x.toInt + y.toInt).natAbs ≤ 4000000000000000000) : (x + y).toInt = x.toInt + y.toInt := by
  rw [Int64.toInt_add]; exact Int.bmod_eq_of_le (by omega) (by omega)
/-- what a limit leaves -/
theorem lf_int {wt bd : Nat → Int32} {fx : Nat → Int64} {i : Nat} (hb : (bd i).toInt.natAbs ≤ 99) : ∀ m, m ≤ 4 → (∀ j, j < m → (wt (4 * i + j)).toInt.natAbs ≤ 9 ∧ (fx j).toInt.natAbs ≤ 20) → (lf_f wt bd fx i m).toInt = (bd i).toInt - sm_f (fun j => (wt (4 * i + j)).toInt * (fx j).toInt) m ∧ (lf_f wt bd fx i m).toInt.natAbs ≤ 99 + 180 * m
  | 0, _, _ => by
    show ((bd i).toInt64).toInt = _ ∧ _
    have e : (lf_f wt bd fx i 0).toInt = (bd i).toInt := Int32.toInt_toInt64 _
    rw [e]
    exact ⟨by rw [Int32.toInt_toInt64]; simp [sm_f], by omega⟩
  | m + 1, hm, h => by
    obtain ⟨e1, e2⟩ := lf_int hb m (by omega) (fun j hj => h j (by omega))
    obtain ⟨a, b⟩ := h m (by omega)
    have p : ((wt (4 * i + m)).toInt64 * fx m).toInt = (wt (4 * i + m)).toInt * (fx m).toInt := by
      rw [i6_mul (a := 9) (b := 20) (by rw [Int32.toInt_toInt64]; exact a) b (by decide), Int32.toInt_toInt64]
    have pb := nb_m a b
    have q : (lf_f wt bd fx i (m + 1)).toInt = (lf_f wt bd fx i m).toInt - (wt (4 * i + m)).toInt * (fx m).toInt := by
      show (lf_f wt bd fx i m - (wt (4 * i + m)).toInt64 * fx m).toInt = _
      rw [i6_sub (by rw [p]; omega), p]
    rw [q]
    refine ⟨?_, by omega⟩
    rw [e1]
    show _ = (bd i).toInt - (sm_f (fun j => (wt (4 * i + j)).toInt * (fx j).toInt) m + (wt (4 * i + m)).toInt * (fx m).toInt)
    omega
