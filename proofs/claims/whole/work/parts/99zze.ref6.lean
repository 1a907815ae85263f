/-! the reference's solution: the first of all corners that are plans -/
def rI_ok (w : Nat → Prop) (lo hi wt bd co : Nat → Int32) (n k : Nat) (s : mt_T) : Prop := ¬ s.1 = 0 → (0 < s.2.2.1.toInt ∧ s.2.2.1.toInt ≤ 162009) ∧ s.2.2.2.toInt = sm_f (fun j => (co j).toInt * (s.2.1 j).toInt) n ∧ ki_ok lo hi (fun i j => wt (4 * i + j)) bd n k s.2.2.1.toInt (bI s.2.1) ∧ kn_ok w lo hi (fun i j => wt (4 * i + j)) bd n k s.2.2.1.toInt (bI s.2.1)
def rQ_ok (co : Nat → Int32) (n : Nat) (s : mt_T) (d : Int) (x : Nat → Int) : Prop := ¬ s.1 = 0 ∧ ¬ xl_ok n (vq_f (cI_f co) n x) d (vq_f (cI_f co) n (bI s.2.1)) s.2.2.1.toInt
theorem tb_0 {s : mt_T} {tr : Nat → Int64} {be cs : Int64} {n : Nat} (h : s.1 = 0) : ¬ tb_f tr be cs n s = 0 := by
  have e1 : tk_e s.1 (cs * s.2.2.1) (s.2.2.2 * be) = 0 := if_neg (fun q => q.1 h)
  have e2 : tk_b s.1 (cs * s.2.2.1) (s.2.2.2 * be) = 1 := if_pos (Or.inl h)
  have hb : ∀ j, bs_f tr s.2.1 s.2.2.1 be 1 0 j = (1, 0) := by
    intro j
    induction j with
    | zero => rfl
    | succ j ih =>
      show (if _ = 0 then _ else _) = _
      rw [ih, if_pos rfl]
  unfold tb_f
  rw [e1, e2, hb]
  decide
section MS
variable {w : Nat → Prop} {lo hi wt bd co : Nat → Int32} {n k : Nat}
theorem mt_step (hq : pq_ok lo hi co (fun i j => wt (4 * i + j)) bd n k) {s : mt_T} {tr : Nat → Int64} {be : Int64} (hI : rI_ok w lo hi wt bd co n k s) (hb : 0 < be.toInt ∧ be.toInt ≤ 162009) (ht : ∀ j, j < n → (tr j).toInt.natAbs ≤ 30000000000000) (hkn : kn_ok w lo hi (fun i j => wt (4 * i + j)) bd n k be.toInt (bI tr)) :
    rI_ok w lo hi wt bd co n k (mt_f lo hi wt bd co n k tr be s) ∧ (∀ d x, 0 < d → rQ_ok co n s d x → rQ_ok co n (mt_f lo hi wt bd co n k tr be s) d x) ∧ (ki_ok lo hi (fun i j => wt (4 * i + j)) bd n k be.toInt (bI tr) → rQ_ok co n (mt_f lo hi wt bd co n k tr be s) be.toInt (bI tr)) := by
  have hmp := mp_int hq hb ht
  by_cases hF : mp_ok lo hi wt bd tr be n k
  · have hki := hmp.mp hF
    have ht2 : ∀ j, j < n → (tr j).toInt.natAbs ≤ 3240180 := fun j hj => ki_b hq hb hki hj
    have hcs := mw_int (c := co) (x := tr) (K := 3240180) (by decide) n hq.1.2 (fun j hj => ⟨(hq.2.2.1 j hj).2, ht2 j hj⟩)
    have hcb : (mw_sum co tr n).toInt.natAbs ≤ 200000000 := by
      have : n * (9 * 3240180) ≤ 4 * (9 * 3240180) := Nat.mul_le_mul_right _ hq.1.2
      omega
    have hiff : ¬ tb_f tr be (mw_sum co tr n) n s = 0 ↔ (s.1 = 0 ∨ xl_ok n (vq_f (cI_f co) n (bI tr)) be.toInt (vq_f (cI_f co) n (bI s.2.1)) s.2.2.1.toInt) := by
      by_cases hf : s.1 = 0
      · exact ⟨fun _ => Or.inl hf, fun _ => tb_0 hf⟩
      · obtain ⟨a1, a2, a3, a4⟩ := hI hf
        have hst : ∀ j, j < n → (s.2.1 j).toInt.natAbs ≤ 3240180 := fun j hj => ki_b hq a1 a3 hj
        have hbb : s.2.2.2.toInt.natAbs ≤ 200000000 := by
          have e := mw_int (c := co) (x := s.2.1) (K := 3240180) (by decide) n hq.1.2 (fun j hj => ⟨(hq.2.2.1 j hj).2, hst j hj⟩)
          have : n * (9 * 3240180) ≤ 4 * (9 * 3240180) := Nat.mul_le_mul_right _ hq.1.2
          rw [a2, ← e.1]; omega
        rw [tb_int hf hq.1.2 hcs.1 a2 hcb hbb hb a1 ht2 hst]
        exact ⟨fun q => Or.inr q, fun q => q.resolve_left hf⟩
    by_cases hT : ¬ tb_f tr be (mw_sum co tr n) n s = 0
    · have e : mt_f lo hi wt bd co n k tr be s = (1, ml_f tr s.2.1 n, be, mw_sum co tr n) := (ci_t hF).trans (ci_t hT)
      have hx : ∀ j, j < n → bI tr j = bI (ml_f tr s.2.1 n) j := fun j hj => by unfold bI ml_f; rw [if_pos hj]
      have h1 : ¬ (1 : Int32) = 0 := by decide
      rw [e]
      refine ⟨fun _ => ⟨hb, ?_, ki_cg hx hki, kn_cg hx hkn⟩, fun d x hd hQ => ⟨h1, fun hl => ?_⟩, fun _ => ⟨h1, fun hl => ?_⟩⟩
      · rw [hcs.1]
        refine sm_cg n (fun j hj => ?_)
        have : (tr j).toInt = (ml_f tr s.2.1 n j).toInt := hx j hj
        dsimp only
        rw [this]
      · obtain ⟨q1, q2⟩ := hQ
        refine q2 ?_
        have l1 := (hiff.mp hT).resolve_left q1
        have l2 : xl_ok n (vq_f (cI_f co) n x) d (vq_f (cI_f co) n (bI tr)) be.toInt := xl_cg2 (fun i _ => rfl) (fun i hi => (vq_cg hx i hi).symm) hl
        exact xl_tr hd hb.1 (hI q1).1.1 l2 l1
      · exact xl_ir (xl_cg2 (fun i _ => rfl) (fun i hi => (vq_cg hx i hi).symm) hl)
    · have e : mt_f lo hi wt bd co n k tr be s = s := (ci_t hF).trans (ci_n hT)
      rw [e]
      refine ⟨hI, fun _ _ _ h => h, fun _ => ?_⟩
      have hn := fun q => hT (hiff.mpr q)
      exact ⟨fun z => hn (Or.inl z), fun z => hn (Or.inr z)⟩
  · have e : mt_f lo hi wt bd co n k tr be s = s := ci_n hF
    rw [e]
    exact ⟨hI, fun _ _ _ h => h, fun h => absurd (hmp.mpr h) hF⟩
variable {fx : Nat → Int64} {re : Nat → Nat} {rs : Nat}
/-- the point that a pick tells -/
def cp_d (lo hi wt bd : Nat → Int32) (fx : Nat → Int64) (re : Nat → Nat) (rs n : Nat) (p : Nat → Nat) : Int := (cq_b (mk_R lo hi wt bd fx re rs n) rs p).toInt
def cp_x (lo hi wt bd : Nat → Int32) (fx : Nat → Int64) (re : Nat → Nat) (rs n : Nat) (p : Nat → Nat) : Nat → Int := bI (ct_f (mk_R lo hi wt bd fx re rs n) p re rs (sl_f (dd_f (mk_R lo hi wt bd fx re rs n) p (-1) rs)) (fun j => fx j * cq_b (mk_R lo hi wt bd fx re rs n) rs p) rs)
theorem cl_step (hq : pq_ok lo hi co (fun i j => wt (4 * i + j)) bd n k) (hre : re_ok w re rs n) (hfx : fz_ok w lo hi n fx) (hrs : 1 ≤ rs ∧ rs ≤ 4) : ∀ (L : List (Nat → Nat)) (s : mt_T), (∀ p ∈ L, ic_ok rs (2 * rs + k) p) → rI_ok w lo hi wt bd co n k s →
    rI_ok w lo hi wt bd co n k (cl_f lo hi wt bd co n k (mk_R lo hi wt bd fx re rs n) fx re rs L s) ∧ (∀ d x, 0 < d → rQ_ok co n s d x → rQ_ok co n (cl_f lo hi wt bd co n k (mk_R lo hi wt bd fx re rs n) fx re rs L s) d x) ∧
    ∀ p ∈ L, ¬ dd_f (mk_R lo hi wt bd fx re rs n) p (-1) rs = 0 → ki_ok lo hi (fun i j => wt (4 * i + j)) bd n k (cp_d lo hi wt bd fx re rs n p) (cp_x lo hi wt bd fx re rs n p) → rQ_ok co n (cl_f lo hi wt bd co n k (mk_R lo hi wt bd fx re rs n) fx re rs L s) (cp_d lo hi wt bd fx re rs n p) (cp_x lo hi wt bd fx re rs n p)
  | [], s, _, hI => ⟨hI, fun _ _ _ h => h, fun p hp => absurd hp List.not_mem_nil⟩
  | p :: L, s, hL, hI => by
    have hp := hL p List.mem_cons_self
    have hone : rI_ok w lo hi wt bd co n k (cn_f lo hi wt bd co n k (mk_R lo hi wt bd fx re rs n) fx re rs p s) ∧ (∀ d x, 0 < d → rQ_ok co n s d x → rQ_ok co n (cn_f lo hi wt bd co n k (mk_R lo hi wt bd fx re rs n) fx re rs p s) d x) ∧ (¬ dd_f (mk_R lo hi wt bd fx re rs n) p (-1) rs = 0 → 0 < cp_d lo hi wt bd fx re rs n p ∧ (ki_ok lo hi (fun i j => wt (4 * i + j)) bd n k (cp_d lo hi wt bd fx re rs n p) (cp_x lo hi wt bd fx re rs n p) → rQ_ok co n (cn_f lo hi wt bd co n k (mk_R lo hi wt bd fx re rs n) fx re rs p s) (cp_d lo hi wt bd fx re rs n p) (cp_x lo hi wt bd fx re rs n p))) := by
      by_cases h0 : dd_f (mk_R lo hi wt bd fx re rs n) p (-1) rs = 0
      · have e : cn_f lo hi wt bd co n k (mk_R lo hi wt bd fx re rs n) fx re rs p s = s := ci_t h0
        rw [e]
        exact ⟨hI, fun _ _ _ h => h, fun q => absurd h0 q⟩
      · obtain ⟨sg, -, c1, c2, c3, c4, c5, c6⟩ := cand_r hq hre hfx hp hrs h0 rfl rfl
        have hk := cand_k hq hre hfx hp hrs c1 c3 (X := cp_x lo hi wt bd fx re rs n p) c4 c5
        have st := mt_step hq hI c2 c6 hk
        have e : cn_f lo hi wt bd co n k (mk_R lo hi wt bd fx re rs n) fx re rs p s = mt_f lo hi wt bd co n k (ct_f (mk_R lo hi wt bd fx re rs n) p re rs (sl_f (dd_f (mk_R lo hi wt bd fx re rs n) p (-1) rs)) (fun j => fx j * cq_b (mk_R lo hi wt bd fx re rs n) rs p) rs) (cq_b (mk_R lo hi wt bd fx re rs n) rs p) s := ci_n h0
        rw [e]
        exact ⟨st.1, st.2.1, fun _ => ⟨c2.1, st.2.2⟩⟩
    obtain ⟨i1, i2, i3⟩ := cl_step hq hre hfx hrs L _ (fun q hq => hL q (List.mem_cons_of_mem _ hq)) hone.1
    refine ⟨i1, fun d x hd hQ => i2 d x hd (hone.2.1 d x hd hQ), fun q hq h0 hki => ?_⟩
    rcases List.mem_cons.mp hq with z | z
    · subst z
      have g := hone.2.2 h0
      exact i2 _ _ g.1 (g.2 hki)
    · exact i3 q z h0 hki
/-- plans over different divisors -/
theorem ki_tr {M : Nat → Nat → Int32} {d e : Int} {x y : Nat → Int} (hd : 0 < d) (he : 0 < e) (h : ∀ j, j < n → y j * d = x j * e) (hk : ki_ok lo hi M bd n k d x) : ki_ok lo hi M bd n k e y := by
  refine ⟨fun j hj => ?_, fun i hi => ?_⟩
  · obtain ⟨a, b⟩ := hk.1 j hj
    have a1 := Int.mul_le_mul_of_nonneg_right a (Int.le_of_lt he)
    have b1 := Int.mul_le_mul_of_nonneg_right b (Int.le_of_lt he)
    rw [← h j hj] at a1 b1
    constructor
    · refine Int.le_of_mul_le_mul_right (a := d) ?_ hd
      rw [Int.mul_assoc, Int.mul_comm e, ← Int.mul_assoc]; exact a1
    · refine Int.le_of_mul_le_mul_right (a := d) ?_ hd
      rw [Int.mul_assoc, Int.mul_comm e, ← Int.mul_assoc]; exact b1
  · have a1 := Int.mul_le_mul_of_nonneg_right (hk.2 i hi) (Int.le_of_lt he)
    refine Int.le_of_mul_le_mul_right (a := d) ?_ hd
    rw [Int.mul_assoc, Int.mul_comm e, ← Int.mul_assoc]
    refine Int.le_trans (Int.le_of_eq ?_) a1
    rw [← sm_mul, ← sm_mul]
    exact sm_cg n (fun j hj => by rw [Int.mul_assoc, Int.mul_assoc, h j hj])
theorem rQ_tr {s : mt_T} {d e : Int} {x y : Nat → Int} (hd : 0 < d) (he : 0 < e) (hs : ¬ s.1 = 0 → 0 < s.2.2.1.toInt) (h : ∀ j, j < n → y j * d = x j * e) (hQ : rQ_ok co n s e y) : rQ_ok co n s d x :=
  ⟨hQ.1, fun hl => hQ.2 (xl_cg hd he (hs hQ.1) (fun i hi => (vq_eq h i hi).symm) hl)⟩
end MS
