section DV
variable {N : Nat → Nat → Int} {B a b : Nat → Int} {n : Nat} {bp bq : Int} {T : Nat → Prop}
theorem hb_du (hn : n ≤ 4) (hbq : 0 < bq) : ∀ (K : Nat) (u : Nat → Int), cn_n (sv_i N u) (7 + n) ≤ K → (∀ c, c < 7 → 0 ≤ u c) → (∀ c, c < 7 → ¬ T c → u c = 0) → gg_ok bp bq (u 6) (ff_i N B a b n u) →
    ∃ (P Q : List Nat) (v : Nat → Int) (σ : Int), ic_l n P ∧ ic_l 7 Q ∧ (Q.length = P.length + 1 ∧ P.length ≤ 4) ∧ (∀ c, c ∈ Q → T c) ∧ nv_ok N P Q v ∧ (σ = 1 ∨ σ = -1) ∧ (∀ c, c < 7 → 0 ≤ σ * v c) ∧ (∃ c, c < 7 ∧ ¬ v c = 0) ∧ gg_ok bp bq (σ * v 6) (ff_i N B a b n (fun c => σ * v c)) := by
  intro K
  induction K with
  | zero | succ K ih =>
    intro u hK hu hT hg
    obtain ⟨P, Q, hk, hmax⟩ := hb_rk N n 7 (fun j => ev_i N u j = 0) (fun c => ¬ u c = 0)
    by_cases hA : ∀ q, q < 7 → ¬ u q = 0 → q ∈ Q
    · -- nothing is left
      exfalso
      obtain ⟨⟨l1, l2⟩, hP, hQ, hU, hV, hD⟩ := hk
      have hsup : ∀ c, c < 7 → ¬ c ∈ Q → u c = 0 := fun c hc h => Classical.byContradiction fun z => h (hA c hc z)
      have z := hb_z l1 l2 hD (z := u) (fun t ht => by
        have e : ev_i N u (P.getD t 0) = 0 := hU _ (gd_mem.mpr ⟨t, ht, rfl⟩)
        unfold ev_i at e
        rw [sm_l hQ (g := fun c => N (P.getD t 0) c * u c) (fun c hc h => by rw [hsup c hc h, Int.mul_zero]), ← l1] at e
        exact e)
      have h0 : ∀ c, c < 7 → u c = 0 := fun c hc => by
        by_cases y : c ∈ Q
        · exact z c y
        · exact hsup c hc y
      have hF : ff_i N B a b n u = 0 := by
        unfold ff_i lf_i
        rw [sm_cg n (g := fun j => (0 : Int) * 0) (fun j _ => by
          have : ev_i N u j = 0 := by
            unfold ev_i
            rw [sm_cg 7 (g := fun c => (0 : Int) * 0) (fun c hc => by rw [h0 c hc, Int.mul_zero]; rfl), sm_mul, Int.mul_zero]
          rw [this, Int.mul_zero]; rfl), sm_mul, sm_cg 7 (g := fun c => (0 : Int) * 0) (fun c hc => by rw [h0 c hc, Int.mul_zero]; rfl), sm_mul]
        omega
      rw [hF, h0 6 (by decide)] at hg
      rcases hg with ⟨-, y⟩ | ⟨y, -⟩ <;> omega
    · obtain ⟨q, y⟩ := Classical.not_forall.mp hA
      obtain ⟨hq7, y⟩ := Classical.not_imp.mp y
      obtain ⟨huq, hqQ⟩ := Classical.not_imp.mp y
      have huq0 : 0 < u q := by have := hu q hq7; omega
      obtain ⟨v, hv⟩ := nv_ex (N := N) (P := P) (ic_in hk.2.2.1 hq7 hqQ)
      obtain ⟨hvq, hker⟩ := hb_kr hk hmax (Or.inl hn) hq7 huq hqQ hv
      have hQ2 := ic_in hk.2.2.1 hq7 hqQ
      by_cases hB : ∀ c, c < 7 → ¬ u c = 0 → c ∈ in_f q Q
      · -- an END
        have hsup : ∀ c, c < 7 → ¬ c ∈ in_f q Q → u c = 0 := fun c hc h => Classical.byContradiction fun z => h (hB c hc z)
        have hz := hb_z hk.1.1 hk.1.2 hk.2.2.2.2.2 (z := fun c => v q * u c - u q * v c) (fun t ht => by
          have e1 : ev_i N u (P.getD t 0) = 0 := hk.2.2.2.1 _ (gd_mem.mpr ⟨t, ht, rfl⟩)
          have e2 : sm_f (fun c => N (P.getD t 0) c * v c) 7 = 0 := hker _ (hk.2.1.2 t ht) e1
          have e3 : sm_f (fun c => N (P.getD t 0) c * (v q * u c - u q * v c)) 7 = 0 := by
            rw [hb_l1, e2]
            unfold ev_i at e1
            rw [e1]; omega
          rw [sm_l hk.2.2.1 (g := fun c => N (P.getD t 0) c * (v q * u c - u q * v c)) (fun c hc h => by
            by_cases w : c = q
            · rw [w, Int.mul_comm (v q)]
              rw [Int.sub_self, Int.mul_zero]
            · have hni : ¬ c ∈ in_f q Q := fun x => by
                rcases (in_mem q c Q).mp x with x | x
                · exact w x
                · exact h x
              rw [hsup c hc hni, hv.2 c hni]; omega), ← hk.1.1] at e3
          exact e3)
        have hprop : ∀ c, c < 7 → v q * u c = u q * v c := fun c hc => by
          by_cases x : c ∈ Q
          · have := hz c x
            omega
          · by_cases w : c = q
            · rw [w, Int.mul_comm]
            · have hni : ¬ c ∈ in_f q Q := fun x2 => by
                rcases (in_mem q c Q).mp x2 with x2 | x2
                · exact w x2
                · exact x x2
              rw [hsup c hc hni, hv.2 c hni, Int.mul_zero, Int.mul_zero]
        obtain ⟨σ, hσ, hσq⟩ : ∃ σ : Int, (σ = 1 ∨ σ = -1) ∧ 0 < σ * v q := by
          rcases Int.lt_or_le 0 (v q) with x | x
          · exact ⟨1, Or.inl rfl, by omega⟩
          · exact ⟨-1, Or.inr rfl, by omega⟩
        have hp2 : ∀ c, c < 7 → (σ * v q) * u c = u q * (σ * v c) := fun c hc => by
          rw [Int.mul_assoc, hprop c hc]; grind
        refine ⟨P, in_f q Q, v, σ, hk.2.1, hQ2, ⟨by rw [in_len, hk.1.1], hk.1.2⟩, fun c hc => ?_, hv, hσ, fun c hc => ?_, ⟨q, hq7, hvq⟩, ?_⟩
        · refine Classical.byContradiction fun x => ?_
          have hc7 : c < 7 := by
            obtain ⟨t, ht, e⟩ := gd_mem.mp hc
            rw [← e]; exact hQ2.2 t ht
          rcases (in_mem q c Q).mp hc with w | w
          · rw [w] at x; exact huq (hT q hq7 x)
          · exact hk.2.2.2.2.1 c w (hT c hc7 x)
        · have e := hp2 c hc
          have : 0 ≤ u q * (σ * v c) := by rw [← e]; exact Int.mul_nonneg (by omega) (hu c hc)
          rcases Int.lt_or_le (σ * v c) 0 with x | x
          · have := Int.mul_neg_of_pos_of_neg huq0 x
            omega
          · exact x
        · rw [← gg_t huq0, ← ff_t huq0, ← ff_cg (u := fun c => (σ * v q) * u c) (fun c hc => hp2 c hc), ff_t hσq, ← hp2 6 (by decide), gg_t hσq]
          exact hg
      · -- between two
        obtain ⟨q2, y2⟩ := Classical.not_forall.mp hB
        obtain ⟨hq27, y2⟩ := Classical.not_imp.mp y2
        obtain ⟨huq2, hq2Q⟩ := Classical.not_imp.mp y2
        have hsumu : 0 < sm_f u 7 := by
          have := (hb_sp 7 (fun c => -(u c)) (fun c hc => by have := hu c hc; show -(u c) ≤ 0; omega)).2 ⟨q, hq7, by show -(u q) < 0; omega⟩
          rw [sm_cg 7 (g := fun c => u c * (-1)) (fun c _ => by omega), sm_mul] at this
          omega
        have hz0 : sm_f (fun c => sm_f u 7 * v c - sm_f v 7 * u c) 7 = 0 := by
          have := hb_l1 (b := fun _ => 1) (x := v) (y := u) (p := sm_f u 7) (q := sm_f v 7) 7
          simp only [Int.one_mul] at this
          rw [this]
          show sm_f u 7 * sm_f v 7 - sm_f v 7 * sm_f u 7 = 0
          rw [Int.mul_comm]; omega
        have hzn : ∃ i, i < 7 ∧ ¬ (sm_f u 7 * v i - sm_f v 7 * u i) = 0 := by
          by_cases x : sm_f v 7 = 0
          · refine ⟨q, hq7, fun e => ?_⟩
            rw [x, Int.zero_mul, Int.sub_zero] at e
            rcases Int.mul_eq_zero.mp e with w | w <;> omega
          · refine ⟨q2, hq27, fun e => ?_⟩
            rw [hv.2 q2 hq2Q, Int.mul_zero] at e
            rcases Int.mul_eq_zero.mp (show sm_f v 7 * u q2 = 0 by omega) with w | w <;> omega
        generalize hzz : (fun c => sm_f u 7 * v c - sm_f v 7 * u c) = z at hz0
        have hze : ∀ c, z c = sm_f u 7 * v c - sm_f v 7 * u c := fun c => by rw [← hzz]
        obtain ⟨s1, s2⟩ := hb_sg hz0 (by obtain ⟨i, x1, x2⟩ := hzn; exact ⟨i, x1, by rw [hze]; exact x2⟩)
        have hsz : ∀ i, i < 7 + n → sv_i N u i = 0 → sv_i N z i = 0 := fun i hi e => by
          unfold sv_i at e ⊢
          by_cases x : i < 7
          · rw [if_pos x] at e ⊢
            have hvi : v i = 0 := hv.2 i (fun w => by
              rcases (in_mem q i Q).mp w with w | w
              · exact huq (by rw [← w]; exact e)
              · exact hk.2.2.2.2.1 i w e)
            rw [hze, e, hvi]; omega
          · rw [if_neg x] at e ⊢
            have e2 : ev_i N v (i - 7) = 0 := hker (i - 7) (by omega) e
            rw [← hzz, ev_mv, e, e2]; omega
        obtain ⟨r1, t1, g1, g2, g3, g4, g5, g6⟩ := hb_st (n := n) hu hsz s1
        have hsz2 : ∀ i, i < 7 + n → sv_i N u i = 0 → sv_i N (fun c => -(z c)) i = 0 := fun i hi e => by
          have := hsz i hi e
          unfold sv_i at this ⊢
          by_cases x : i < 7
          · rw [if_pos x] at this ⊢
            show -(z i) = 0
            omega
          · rw [if_neg x] at this ⊢
            have e3 : ev_i N (fun c => -(z c)) (i - 7) = ev_i N (fun c => 0 * z c - 1 * z c) (i - 7) := ev_cg (fun c _ => by omega) _
            rw [e3, ev_mv, this]; omega
        obtain ⟨r2, t2, k1, k2, k3, k4, k5, k6⟩ := hb_st (n := n) hu hsz2 s2
        have L1 := ff_cell (B := B) (a := a) (b := b) g4
        have L2 := ff_cell (B := B) (a := a) (b := b) k4
        rw [lf_mv] at L1
        have L0 : lf_i N B n (bx_i N a b u) (fun c => -(z c)) = -(lf_i N B n (bx_i N a b u) z) := by
          have : (fun c => -(z c)) = (fun c => 0 * z c - 1 * z c) := by funext c; omega
          rw [this, lf_mv]; omega
        rw [lf_mv, L0] at L2
        have hF : lf_i N B n (bx_i N a b u) u = ff_i N B a b n u := rfl
        rw [hF] at L1 L2
        have ht : 0 < t2 * r1 + t1 * r2 := by
          have := Int.mul_pos k2 g1
          have := Int.mul_pos g2 k1
          omega
        have hgo := gg_2 (bp := bp) hbq g2 k2 (g3 6 (by decide)) (k3 6 (by decide)) ht (a := u 6) (F := ff_i N B a b n u) (F1 := ff_i N B a b n (fun c => r1 * u c - t1 * z c)) (F2 := ff_i N B a b n (fun c => r2 * u c - t2 * -(z c))) (by grind) (by rw [L1, L2]; grind) hg
        first
        | exact absurd g6 (by omega)
        | (rcases hgo with o | o
           · exact ih _ (by omega) g3 (fun c hc x => g5 c hc (hT c hc x)) o
           · exact ih _ (by omega) k3 (fun c hc x => k5 c hc (hT c hc x)) o)
end DV
