/-! the rank of rows and columns, and what lies in the kernel -/
def in_f (q : Nat) : List Nat → List Nat
  | [] => [q]
  | a :: l => if q < a then q :: a :: l else a :: in_f q l
theorem in_len (q : Nat) : ∀ l, (in_f q l).length = l.length + 1
  | [] => rfl
  | a :: l => by
    unfold in_f
    by_cases h : q < a
    · rw [if_pos h]; rfl
    · rw [if_neg h, List.length_cons, in_len q l]; rfl
theorem in_mem (q x : Nat) : ∀ l, x ∈ in_f q l ↔ x = q ∨ x ∈ l
  | [] => by simp [in_f]
  | a :: l => by
    unfold in_f
    by_cases h : q < a
    · rw [if_pos h]; simp
    · rw [if_neg h, List.mem_cons, in_mem q x l, List.mem_cons]
      constructor
      · rintro (h | h | h) <;> simp [h]
      · rintro (h | h | h) <;> simp [h]
theorem in_pw (q : Nat) : ∀ l, l.Pairwise (fun a b => a < b) → ¬ q ∈ l → (in_f q l).Pairwise (fun a b => a < b)
  | [], _, _ => by simp [in_f]
  | a :: l, h, hq => by
    rw [List.pairwise_cons] at h
    unfold in_f
    by_cases z : q < a
    · rw [if_pos z, List.pairwise_cons, List.pairwise_cons]
      refine ⟨fun b hb => ?_, h⟩
      rcases List.mem_cons.mp hb with y | y
      · rw [y]; exact z
      · exact Nat.lt_trans z (h.1 b y)
    · rw [if_neg z, List.pairwise_cons]
      refine ⟨fun b hb => ?_, in_pw q l h.2 (fun y => hq (List.mem_cons_of_mem _ y))⟩
      rcases (in_mem q b l).mp hb with y | y
      · rw [y]
        have : ¬ q = a := fun e => hq (by rw [e]; exact List.mem_cons_self)
        omega
      · exact h.1 b y
theorem in_er (q : Nat) : ∀ l : List Nat, ∃ t, t < (in_f q l).length ∧ (in_f q l).getD t 0 = q ∧ (in_f q l).eraseIdx t = l
  | [] => ⟨0, by simp [in_f], by simp [in_f], by simp [in_f]⟩
  | a :: l => by
    unfold in_f
    by_cases h : q < a
    · rw [if_pos h]; exact ⟨0, by simp, by simp, by simp⟩
    · rw [if_neg h]
      obtain ⟨t, h1, h2, h3⟩ := in_er q l
      refine ⟨t + 1, by simp; exact h1, by simpa using h2, by simp [h3]⟩
theorem ic_in {m q : Nat} {l : List Nat} (h : ic_l m l) (hq : q < m) (hn : ¬ q ∈ l) : ic_l m (in_f q l) := by
  refine pw_ic (in_pw q l (ic_pw h) hn) (fun x hx => ?_)
  rcases (in_mem q x l).mp hx with y | y
  · omega
  · obtain ⟨u, hu, e⟩ := gd_mem.mp y
    rw [← e]; exact h.2 u hu
def sg_i (b : Nat) (x : Int) : Int := if b % 2 = 0 then x else -x
set_option maxHeartbeats 8000000 in
theorem hb_k0 {N : Nat → Nat → Int} {P Q : List Nat} {a : Nat} (hl : Q.length = P.length + 1) (h4 : P.length ≤ 4) (ha : a < P.length) : sm_f (fun b => N (P.getD a 0) (Q.getD b 0) * sg_i b (dl_f N P (Q.eraseIdx b))) Q.length = 0 := by
  rcases P with _ | ⟨r0, _ | ⟨r1, _ | ⟨r2, _ | ⟨r3, _ | ⟨r4, P⟩⟩⟩⟩⟩
  · simp at ha
  · rcases Q with _ | ⟨c0, _ | ⟨c1, _ | ⟨c2, Q⟩⟩⟩ <;> simp at hl
    rcases (show a = 0 by simp at ha; omega) with rfl
    simp [sm_f, sg_i, dl_f, xd_f, ek_f, lm_f]; grind
  · rcases Q with _ | ⟨c0, _ | ⟨c1, _ | ⟨c2, _ | ⟨c3, Q⟩⟩⟩⟩ <;> simp at hl
    rcases (show a = 0 ∨ a = 1 by simp at ha; omega) with rfl | rfl <;> (simp [sm_f, sg_i, dl_f, xd_f, ek_f, e1_f, lm_f]; grind)
  · rcases Q with _ | ⟨c0, _ | ⟨c1, _ | ⟨c2, _ | ⟨c3, _ | ⟨c4, Q⟩⟩⟩⟩⟩ <;> simp at hl
    rcases (show a = 0 ∨ a = 1 ∨ a = 2 by simp at ha; omega) with rfl | rfl | rfl <;> (simp [sm_f, sg_i, dl_f, xd_f, ek_f, e2_f, lm_f]; grind)
  · rcases Q with _ | ⟨c0, _ | ⟨c1, _ | ⟨c2, _ | ⟨c3, _ | ⟨c4, _ | ⟨c5, Q⟩⟩⟩⟩⟩⟩ <;> simp at hl
    rcases (show a = 0 ∨ a = 1 ∨ a = 2 ∨ a = 3 by simp at ha; omega) with rfl | rfl | rfl | rfl <;> (simp [sm_f, sg_i, dl_f, xd_f, ek_f, e3_f, lm_f]; grind)
  · simp at h4
set_option maxHeartbeats 8000000 in
theorem hb_k1 {N : Nat → Nat → Int} {P Q : List Nat} {p : Nat} (hl : Q.length = P.length + 1) (h4 : P.length ≤ 3) : sm_f (fun b => N p (Q.getD b 0) * sg_i b (dl_f N P (Q.eraseIdx b))) Q.length = dl_f N (p :: P) Q := by
  rcases P with _ | ⟨r0, _ | ⟨r1, _ | ⟨r2, _ | ⟨r3, P⟩⟩⟩⟩
  · rcases Q with _ | ⟨c0, _ | ⟨c1, Q⟩⟩ <;> simp at hl
    simp [sm_f, sg_i, dl_f, xd_f, ek_f, lm_f]
  · rcases Q with _ | ⟨c0, _ | ⟨c1, _ | ⟨c2, Q⟩⟩⟩ <;> simp at hl
    simp [sm_f, sg_i, dl_f, xd_f, ek_f, e1_f, lm_f]; grind
  · rcases Q with _ | ⟨c0, _ | ⟨c1, _ | ⟨c2, _ | ⟨c3, Q⟩⟩⟩⟩ <;> simp at hl
    simp [sm_f, sg_i, dl_f, xd_f, ek_f, e1_f, e2_f, lm_f]; grind
  · rcases Q with _ | ⟨c0, _ | ⟨c1, _ | ⟨c2, _ | ⟨c3, _ | ⟨c4, Q⟩⟩⟩⟩⟩ <;> simp at hl
    simp [sm_f, sg_i, dl_f, xd_f, ek_f, e2_f, e3_f, lm_f]; grind
  · simp at h4
set_option maxHeartbeats 8000000 in
theorem hb_in {N : Nat → Nat → Int} {P Q : List Nat} {p : Nat} (hl : Q.length = P.length + 1) (h4 : P.length ≤ 3) : dl_f N (in_f p P) Q = dl_f N (p :: P) Q ∨ dl_f N (in_f p P) Q = -(dl_f N (p :: P) Q) := by
  rcases P with _ | ⟨r0, _ | ⟨r1, _ | ⟨r2, _ | ⟨r3, P⟩⟩⟩⟩
  · exact Or.inl rfl
  · by_cases h0 : p < r0
    · left; simp [in_f, h0]
    · right; simp [in_f, h0, dl_f, xd_f, ek_f, e1_f, lm_f]; grind
  · by_cases h0 : p < r0
    · left; simp [in_f, h0]
    · by_cases h1 : p < r1
      · right; simp [in_f, h0, h1, dl_f, xd_f, ek_f, e2_f, lm_f]; grind
      · left; simp [in_f, h0, h1, dl_f, xd_f, ek_f, e2_f, lm_f]; grind
  · by_cases h0 : p < r0
    · left; simp [in_f, h0]
    · by_cases h1 : p < r1
      · right; simp [in_f, h0, h1, dl_f, xd_f, ek_f, e3_f, lm_f]; grind
      · by_cases h2 : p < r2
        · left; simp [in_f, h0, h1, h2, dl_f, xd_f, ek_f, e3_f, lm_f]; grind
        · right; simp [in_f, h0, h1, h2, dl_f, xd_f, ek_f, e3_f, lm_f]; grind
  · simp at h4
/-- v has the minors of P and Q, one column left out, at the columns Q -/
def nv_ok (N : Nat → Nat → Int) (P Q : List Nat) (v : Nat → Int) : Prop := (∀ b, b < Q.length → v (Q.getD b 0) = sg_i b (dl_f N P (Q.eraseIdx b))) ∧ ∀ c, ¬ c ∈ Q → v c = 0
theorem nv_ex {N : Nat → Nat → Int} {P Q : List Nat} {h : Nat} (hQ : ic_l h Q) : ∃ v, nv_ok N P Q v := by
  refine ⟨fun c => sm_f (fun b => (if Q.getD b 0 = c then 1 else 0) * sg_i b (dl_f N P (Q.eraseIdx b))) Q.length, fun b0 hb0 => ?_, fun c hc => ?_⟩
  · show sm_f _ _ = _
    rw [sm_cg Q.length (g := fun b => (if b = b0 then 1 else 0) * sg_i b (dl_f N P (Q.eraseIdx b))) (fun b hb => ?_), sm_one, if_pos hb0]
    have : Q.getD b 0 = Q.getD b0 0 ↔ b = b0 := by
      refine ⟨fun e => ?_, fun e => by rw [e]⟩
      rcases Nat.lt_trichotomy b b0 with z | z | z
      · have := ic_mono hQ b0 b z hb0; omega
      · exact z
      · have := ic_mono hQ b b0 z hb; omega
    by_cases z : b = b0
    · rw [if_pos z, if_pos (this.mpr z)]
    · rw [if_neg z, if_neg (fun e => z (this.mp e))]
  · show sm_f _ _ = _
    rw [sm_cg Q.length (g := fun b => (0 : Int) * 0) (fun b hb => ?_), sm_mul, Int.mul_zero]
    rw [if_neg (fun e => hc (gd_mem.mpr ⟨b, hb, e⟩)), Int.zero_mul]; rfl
theorem sm_l {h : Nat} {Q : List Nat} (hQ : ic_l h Q) {g : Nat → Int} (hg : ∀ c, c < h → ¬ c ∈ Q → g c = 0) : sm_f g h = sm_f (fun b => g (Q.getD b 0)) Q.length :=
  sm_re (w := fun c => ¬ c ∈ Q) (re := fun b => Q.getD b 0) h Q.length ⟨fun c hc => ⟨hQ.2 c hc, fun z => z (gd_mem.mpr ⟨c, hc, rfl⟩)⟩, hQ.1, fun i _ z => by
    obtain ⟨c, hc, e⟩ := gd_mem.mp (Classical.not_not.mp z)
    exact ⟨c, hc, e⟩⟩ hg
/-- P and Q have a minor that isn't 0, and no larger ones have -/
def rk_ok (N : Nat → Nat → Int) (m h : Nat) (U V : Nat → Prop) (P Q : List Nat) : Prop := (P.length = Q.length ∧ P.length ≤ 4) ∧ ic_l m P ∧ ic_l h Q ∧ (∀ p, p ∈ P → U p) ∧ (∀ c, c ∈ Q → V c) ∧ ¬ dl_f N P Q = 0
theorem hb_rk (N : Nat → Nat → Int) (m h : Nat) (U V : Nat → Prop) : ∃ P Q, rk_ok N m h U V P Q ∧ ∀ P2 Q2, P2.length = P.length + 1 → ¬ rk_ok N m h U V P2 Q2 := by
  have big : ∀ P2 Q2, ¬ (P2.length = 5 ∧ rk_ok N m h U V P2 Q2) := fun P2 Q2 z => by have := z.2.1.2; omega
  have go : ∀ r, (∀ P2 Q2, ¬ (P2.length = r + 1 ∧ rk_ok N m h U V P2 Q2)) → (∃ P Q, P.length = r ∧ rk_ok N m h U V P Q) → ∃ P Q, rk_ok N m h U V P Q ∧ ∀ P2 Q2, P2.length = P.length + 1 → ¬ rk_ok N m h U V P2 Q2 := fun r h1 ⟨P, Q, e, h2⟩ => ⟨P, Q, h2, fun P2 Q2 e2 z => h1 P2 Q2 ⟨by omega, z⟩⟩
  have dn : ∀ r, (∀ P2 Q2, ¬ (P2.length = r + 1 ∧ rk_ok N m h U V P2 Q2)) → (∃ P Q, rk_ok N m h U V P Q ∧ ∀ P2 Q2, P2.length = P.length + 1 → ¬ rk_ok N m h U V P2 Q2) ∨ ∀ P2 Q2, ¬ (P2.length = r ∧ rk_ok N m h U V P2 Q2) := fun r h1 => by
    by_cases z : ∃ P Q, P.length = r ∧ rk_ok N m h U V P Q
    · exact Or.inl (go r h1 z)
    · exact Or.inr (fun P2 Q2 y => z ⟨P2, Q2, y⟩)
  rcases dn 4 big with a | a
  · exact a
  rcases dn 3 a with b | b
  · exact b
  rcases dn 2 b with c | c
  · exact c
  rcases dn 1 c with d | d
  · exact d
  refine go 0 d ⟨[], [], rfl, ⟨rfl, by simp⟩, ⟨fun t ht => by simp at ht, fun t ht => by simp at ht⟩, ⟨fun t ht => by simp at ht, fun t ht => by simp at ht⟩, fun p hp => by simp at hp, fun p hp => by simp at hp, by simp [dl_f]⟩
theorem ic_all {m : Nat} {l : List Nat} (h : ic_l m l) (hl : l.length = 4) (hm : m ≤ 4) : ∀ x, x < m → x ∈ l := fun x hx => by
  have a := h.1 0 (by omega)
  have b := h.1 1 (by omega)
  have c := h.1 2 (by omega)
  have d := h.2 3 (by omega)
  simp only [Nat.zero_add, Nat.reduceAdd] at a b c
  rcases (show x = 0 ∨ x = 1 ∨ x = 2 ∨ x = 3 by omega) with e | e | e | e
  · exact gd_mem.mpr ⟨0, by omega, by omega⟩
  · exact gd_mem.mpr ⟨1, by omega, by omega⟩
  · exact gd_mem.mpr ⟨2, by omega, by omega⟩
  · exact gd_mem.mpr ⟨3, by omega, by omega⟩
theorem hb_kr {N : Nat → Nat → Int} {m h : Nat} {U V : Nat → Prop} {P Q : List Nat} (hk : rk_ok N m h U V P Q) (hmax : ∀ P2 Q2, P2.length = P.length + 1 → ¬ rk_ok N m h U V P2 Q2) (h4 : m ≤ 4 ∨ h ≤ 4) {q : Nat} (hq : q < h) (hV : V q) (hn : ¬ q ∈ Q) {v : Nat → Int} (hv : nv_ok N P (in_f q Q) v) :
    ¬ v q = 0 ∧ ∀ p, p < m → U p → sm_f (fun c => N p c * v c) h = 0 := by
  obtain ⟨⟨l1, l2⟩, hP, hQ, hU, hVQ, hD⟩ := hk
  have hQ2 := ic_in hQ hq hn
  have hl : (in_f q Q).length = P.length + 1 := by rw [in_len, l1]
  refine ⟨?_, fun p hp hUp => ?_⟩
  · obtain ⟨t, h1, h2, h3⟩ := in_er q Q
    have e := hv.1 t h1
    rw [h2, h3] at e
    rw [e]
    unfold sg_i
    split <;> omega
  · rw [sm_l hQ2 (g := fun c => N p c * v c) (fun c _ hc => by rw [hv.2 c hc, Int.mul_zero]), sm_cg _ (g := fun b => N p ((in_f q Q).getD b 0) * sg_i b (dl_f N P ((in_f q Q).eraseIdx b))) (fun b hb => by rw [hv.1 b hb])]
    by_cases z : p ∈ P
    · obtain ⟨a, ha, e⟩ := gd_mem.mp z
      rw [← e]
      exact hb_k0 hl l2 ha
    · have l3 : P.length ≤ 3 := by
        refine Classical.byContradiction fun y => ?_
        have e4 : P.length = 4 := by omega
        rcases h4 with w | w
        · exact z (ic_all hP e4 w p hp)
        · exact hn (ic_all hQ (by omega) w q hq)
      rw [hb_k1 hl l3]
      refine Classical.byContradiction fun y => hmax (in_f p P) (in_f q Q) (in_len p P) ⟨⟨by rw [in_len, hl], by rw [in_len]; omega⟩, ic_in hP hp z, hQ2, fun x hx => ?_, fun x hx => ?_, ?_⟩
      · rcases (in_mem p x P).mp hx with e | e
        · rw [e]; exact hUp
        · exact hU x e
      · rcases (in_mem q x Q).mp hx with e | e
        · rw [e]; exact hV
        · exact hVQ x e
      · rcases hb_in (N := N) (p := p) hl l3 with e | e <;> rw [e] <;> omega
/-- only 0 lies in the kernel of rows and columns whose minor isn't 0 -/
theorem hb_z {N : Nat → Nat → Int} {P Q : List Nat} (hl : P.length = Q.length) (h4 : P.length ≤ 4) (hD : ¬ dl_f N P Q = 0) {z : Nat → Int} (hz : ∀ a, a < P.length → sm_f (fun b => N (P.getD a 0) (Q.getD b 0) * z (Q.getD b 0)) P.length = 0) : ∀ c, c ∈ Q → z c = 0 := fun c hc => by
  obtain ⟨b, hb, e⟩ := gd_mem.mp hc
  have hrs : 1 ≤ P.length ∧ P.length ≤ 4 := ⟨by omega, h4⟩
  have hD2 : ¬ xd_f P.length (lm_f N P Q) = 0 := by
    unfold dl_f at hD
    rw [if_neg (by omega)] at hD
    exact hD
  have k := cr_2 hrs (show b < P.length by omega) (lm_f N P Q) (fun b => z (Q.getD b 0))
  have k2 := cr_3 hrs (show b < P.length by omega) (lm_f N P Q) (fun _ => 0) 0
  simp only [Int.zero_mul] at k2
  rw [xd_cg hrs (B := rc_f (lm_f N P Q) (fun _ => 0) b) (fun r c hr hc => by
    unfold rc_f
    by_cases y : c = b
    · rw [if_pos y, if_pos y]; exact hz r hr
    · rw [if_neg y, if_neg y]), k2] at k
  rw [← e]
  rcases Int.mul_eq_zero.mp k.symm with y | y
  · exact absurd y hD2
  · exact y
