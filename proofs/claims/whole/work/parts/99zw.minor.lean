/-! the minors that the planner fills are determinants -/
def bl_f (v : Nat) : List Nat := (List.range 7).filter (fun i => decide (v / 2 ^ i % 2 = 1))
theorem bl_len : ∀ v, v < 128 → (bl_f v).length = pc_n v := by decide +kernel
theorem bl_at : ∀ v, v < 128 → ∀ t, t < (bl_f v).length → pc_n (v % 2 ^ (bl_f v).getD t 0) = t ∧ bl_f (v ^^^ 2 ^ (bl_f v).getD t 0) = (bl_f v).eraseIdx t ∧ (v ^^^ 2 ^ (bl_f v).getD t 0) < 128 ∧ pc_n (v ^^^ 2 ^ (bl_f v).getD t 0) + 1 = pc_n v := by decide +kernel
theorem bl_tz : ∀ r, r < 16 → 1 ≤ r → tz_n r = (bl_f r).getD 0 0 := by decide +kernel
theorem bl_row : ∀ n, n ≤ 4 → ∀ r, r < 2 ^ n → ∀ t, t < (bl_f r).length → (bl_f r).getD t 0 < n ∧ (r ^^^ 2 ^ (bl_f r).getD t 0) < 2 ^ n := by decide +kernel
theorem bl_col : ∀ k, k ≤ 6 → ∀ c, c < 128 → c &&& (127 ^^^ cs_n k) = 0 → ∀ t, t < (bl_f c).length → ((bl_f c).getD t 0 < k ∨ (bl_f c).getD t 0 = 6) ∧ (c ^^^ 2 ^ (bl_f c).getD t 0) &&& (127 ^^^ cs_n k) = 0 := by decide +kernel
theorem bl_z : ∀ v, v < 128 → pc_n v = 0 → v = 0 := by decide +kernel
theorem bl_4 : ∀ v, v < 16 → pc_n v ≤ 4 := by decide +kernel
def lm_f (N : Nat → Nat → Int) (R C : List Nat) : Nat → Nat → Int := fun a b => N (R.getD a 0) (C.getD b 0)
def dl_f (N : Nat → Nat → Int) (R C : List Nat) : Int := if R.length = 0 then 1 else xd_f R.length (lm_f N R C)
def fb_f : Nat → Nat
  | 0 => 1
  | s + 1 => (s + 1) * (9 * fb_f s)
/-- the minors as the sum over the columns that are in -/
theorem ex_l {vals co : Nat → Int32} {M : Nat → Nat → Int32} {r c : Nat} : ∀ m, ex_f vals co M r c m = ((List.range m).filter (fun i => decide (c / 2 ^ i % 2 = 1))).foldl (fun a i => a + mx_e co M (tz_n r) i * cf_f vals r c (tz_n r) i) 0
  | 0 => rfl
  | m + 1 => by
    rw [List.range_succ, List.filter_append, List.foldl_append, ← ex_l m]
    show (if c / 2 ^ m % 2 = 0 then _ else _) = _
    by_cases h : c / 2 ^ m % 2 = 0
    · rw [if_pos h]
      have : decide (c / 2 ^ m % 2 = 1) = false := by rw [h]; rfl
      simp [List.filter, this]
    · rw [if_neg h]
      have : decide (c / 2 ^ m % 2 = 1) = true := by
        have h1 : c / 2 ^ m % 2 = 1 := by omega
        rw [h1]; rfl
      simp [List.filter, this]
theorem fl_int {g : Nat → Int32} {K : Nat} : ∀ (l : List Nat) (a : Int32), (∀ i ∈ l, (g i).toInt.natAbs ≤ K) → a.toInt.natAbs + l.length * K ≤ 1000000000 → (l.foldl (fun a i => a + g i) a).toInt = l.foldl (fun a i => a + (g i).toInt) a.toInt
  | [], _, _, _ => rfl
  | x :: l, a, h, hb => by
    have hx := h x List.mem_cons_self
    have hl : (l.length + 1) * K = l.length * K + K := Nat.succ_mul _ _
    rw [List.length_cons, hl] at hb
    have e : (a + g x).toInt = a.toInt + (g x).toInt := by rw [Int32.toInt_add]; exact Int.bmod_eq_of_le (by omega) (by omega)
    show (l.foldl (fun a i => a + g i) (a + g x)).toInt = l.foldl (fun a i => a + (g i).toInt) (a.toInt + (g x).toInt)
    rw [fl_int l (a + g x) (fun i hi => h i (List.mem_cons_of_mem _ hi)) (by rw [e]; omega), e]
theorem i3_mul {x y : Int32} {a b : Nat} (hx : x.toInt.natAbs ≤ a) (hy : y.toInt.natAbs ≤ b) (hab : a * b ≤ 1000000000) : (x * y).toInt = x.toInt * y.toInt := by
  have h := nb_m hx hy
  rw [Int32.toInt_mul]; exact Int.bmod_eq_of_le (by omega) (by omega)
theorem i3_neg {x : Int32} {a : Nat} (hx : x.toInt.natAbs ≤ a) (ha : a ≤ 1000000000) : (-x).toInt = -x.toInt := by
  rw [Int32.toInt_neg]; exact Int.bmod_eq_of_le (by omega) (by omega)
theorem cf_int {vals : Nat → Int32} {r c row col t u : Nat} (h1 : pc_n (r % 2 ^ row) = u) (h2 : pc_n (c % 2 ^ col) = t) {v : Int} (hv : (vals ((r ^^^ 2 ^ row) * 128 + (c ^^^ 2 ^ col))).toInt = v) {K : Nat} (hK : v.natAbs ≤ K) (hK2 : K ≤ 1000000000) : (cf_f vals r c row col).toInt = (if (u + t) % 2 = 0 then v else -v) := by
  unfold cf_f
  rw [h1, h2]
  by_cases h : (u + t) % 2 = 0
  · rw [if_pos h, if_pos h]; exact hv
  · rw [if_neg h, if_neg h, i3_neg (a := K) (by rw [hv]; exact hK) hK2, hv]
theorem fb_le : ∀ s, s ≤ 3 → 9 * fb_f s ≤ 200000 := by decide
set_option maxHeartbeats 4000000 in
theorem mn_det {vals co : Nat → Int32} {M : Nat → Nat → Int32} {k n : Nat} (hm : mn_part vals co M k (2 ^ n) 1) (hn : n ≤ 4) (hk : k ≤ 6) (hb : ∀ a i, a < n → (i < k ∨ i = 6) → (mx_e co M a i).toInt.natAbs ≤ 9) :
    ∀ s r c, pc_n r = s → pc_n c = s → r < 2 ^ n → c < 128 → c &&& (127 ^^^ cs_n k) = 0 → (vals (r * 128 + c)).toInt = dl_f (fun a i => (mx_e co M a i).toInt) (bl_f r) (bl_f c) ∧ (vals (r * 128 + c)).toInt.natAbs ≤ fb_f s := by
  intro s
  induction s with
  | zero =>
    intro r c hr hc hrn hc8 hcm
    have h16 := bt_2lt n hn
    have e1 := bl_z r (by omega) hr
    have e2 := bl_z c hc8 hc
    subst e1; subst e2
    have h0 : vals (0 * 128 + 0) = 1 := hm.1
    rw [h0]
    exact ⟨rfl, by decide⟩
  | succ s ih =>
    intro r c hr hc hrn hc8 hcm
    have h16 := bt_2lt n hn
    have hr16 : r < 16 := by omega
    have hs3 : s ≤ 3 := by have := bl_4 r hr16; omega
    have hr1 : 1 ≤ r := by
      rcases Nat.eq_zero_or_pos r with z | z
      · rw [z] at hr; exact absurd hr (by simp [pc_n])
      · exact z
    have hc1 : 1 ≤ c := by
      rcases Nat.eq_zero_or_pos c with z | z
      · rw [z] at hc; exact absurd hc (by simp [pc_n])
      · exact z
    have hex := hm.2 r c hr1 hc1 hc8 (by omega) ⟨hcm, by omega⟩
    have htz := bl_tz r hr16 hr1
    have hRl := bl_len r (by omega)
    have hCl := bl_len c hc8
    have hR0 := bl_at r (by omega) 0 (by omega)
    have hRn := bl_row n hn r hrn 0 (by omega)
    -- each column
    have hcol : ∀ t, t < s + 1 → (mx_e co M (tz_n r) ((bl_f c).getD t 0)).toInt.natAbs ≤ 9 ∧ (cf_f vals r c (tz_n r) ((bl_f c).getD t 0)).toInt = (if t % 2 = 0 then dl_f (fun a i => (mx_e co M a i).toInt) ((bl_f r).eraseIdx 0) ((bl_f c).eraseIdx t) else -(dl_f (fun a i => (mx_e co M a i).toInt) ((bl_f r).eraseIdx 0) ((bl_f c).eraseIdx t))) ∧ (cf_f vals r c (tz_n r) ((bl_f c).getD t 0)).toInt.natAbs ≤ fb_f s := by
      intro t ht
      have hCt := bl_at c hc8 t (by omega)
      have hCc := bl_col k hk c hc8 hcm t (by omega)
      have i1 := ih (r ^^^ 2 ^ (bl_f r).getD 0 0) (c ^^^ 2 ^ (bl_f c).getD t 0) (by omega) (by omega) hRn.2 hCt.2.2.1 hCc.2
      rw [hR0.2.1, hCt.2.1] at i1
      have hfb := fb_le s hs3
      have hcf := cf_int (vals := vals) hR0.1 hCt.1 i1.1 (by rw [← i1.1]; exact i1.2) (by omega)
      rw [Nat.zero_add] at hcf
      rw [htz]
      refine ⟨hb _ _ hRn.1 hCc.1, hcf, ?_⟩
      rw [hcf]
      have := i1.2
      rw [i1.1] at this
      by_cases z : t % 2 = 0
      · rw [if_pos z]; exact this
      · rw [if_neg z, Int.natAbs_neg]; exact this
    have hg : ∀ t, t < s + 1 → (mx_e co M (tz_n r) ((bl_f c).getD t 0) * cf_f vals r c (tz_n r) ((bl_f c).getD t 0)).toInt = (mx_e co M (tz_n r) ((bl_f c).getD t 0)).toInt * (cf_f vals r c (tz_n r) ((bl_f c).getD t 0)).toInt ∧ (mx_e co M (tz_n r) ((bl_f c).getD t 0) * cf_f vals r c (tz_n r) ((bl_f c).getD t 0)).toInt.natAbs ≤ 9 * fb_f s := by
      intro t ht
      obtain ⟨a1, a2, a3⟩ := hcol t ht
      have hfb := fb_le s hs3
      have e := i3_mul a1 a3 (by omega)
      exact ⟨e, by rw [e]; exact nb_m a1 a3⟩
    have hmem : ∀ i ∈ bl_f c, (mx_e co M (tz_n r) i * cf_f vals r c (tz_n r) i).toInt.natAbs ≤ 9 * fb_f s := by
      intro i hi
      obtain ⟨t, ht, e⟩ := List.getElem_of_mem hi
      have := (hg t (by omega)).2
      rw [List.getD_eq_getElem?_getD, List.getElem?_eq_getElem ht, Option.getD_some, e] at this
      exact this
    have hsum : (vals (r * 128 + c)).toInt = (bl_f c).foldl (fun a i => a + (mx_e co M (tz_n r) i * cf_f vals r c (tz_n r) i).toInt) 0 := by
      rw [hex, ex_l 7]
      have hfb := fb_le s hs3
      have hlen : (bl_f c).length * (9 * fb_f s) ≤ 4 * 200000 := Nat.mul_le_mul (by omega) hfb
      exact fl_int (K := 9 * fb_f s) (bl_f c) 0 hmem (by rw [show (0 : Int32).toInt = 0 from rfl]; omega)
    rw [hsum]
    have hR1 : (bl_f r).length = s + 1 := by omega
    have hC1 : (bl_f c).length = s + 1 := by omega
    rw [htz] at hg hcol ⊢
    generalize bl_f r = R at hR1 hg hcol ⊢
    generalize bl_f c = C at hC1 hg hcol ⊢
    generalize hN : (fun a i => (mx_e co M a i).toInt) = N at hcol ⊢
    have hNe : ∀ a i, (mx_e co M a i).toInt = N a i := fun a i => by rw [← hN]
    have hterm : ∀ t, t < s + 1 → (mx_e co M (R.getD 0 0) (C.getD t 0) * cf_f vals r c (R.getD 0 0) (C.getD t 0)).toInt = N (R.getD 0 0) (C.getD t 0) * (if t % 2 = 0 then dl_f N (R.eraseIdx 0) (C.eraseIdx t) else -(dl_f N (R.eraseIdx 0) (C.eraseIdx t))) := fun t ht => by
      rw [(hg t ht).1, hNe, (hcol t ht).2.1]
    rcases (show s = 0 ∨ s = 1 ∨ s = 2 ∨ s = 3 by omega) with rfl | rfl | rfl | rfl
    · obtain ⟨r0, rfl⟩ := List.length_eq_one_iff.mp hR1
      obtain ⟨c0, rfl⟩ := List.length_eq_one_iff.mp hC1
      have t0 := hterm 0 (by decide)
      have b0 := (hg 0 (by decide)).2
      simp [dl_f] at t0 b0
      simp [dl_f, xd_f, ek_f, lm_f]
      rw [t0] at b0 ⊢
      exact ⟨rfl, b0⟩
    · rcases R with _ | ⟨r0, _ | ⟨r1, _ | ⟨r2, R⟩⟩⟩ <;> simp at hR1
      rcases C with _ | ⟨c0, _ | ⟨c1, _ | ⟨c2, C⟩⟩⟩ <;> simp at hC1
      have t0 := hterm 0 (by decide)
      have t1 := hterm 1 (by decide)
      have b0 := (hg 0 (by decide)).2
      have b1 := (hg 1 (by decide)).2
      simp [dl_f, xd_f, ek_f, lm_f] at t0 t1 b0 b1
      simp [dl_f, xd_f, ek_f, e1_f, lm_f]
      refine ⟨by rw [t0, t1]; grind, ?_⟩
      have f2 : fb_f 2 = 162 := by decide
      have f1 : fb_f 1 = 9 := by decide
      rw [f2]; rw [f1] at b0 b1; omega
    · rcases R with _ | ⟨r0, _ | ⟨r1, _ | ⟨r2, _ | ⟨r3, R⟩⟩⟩⟩ <;> simp at hR1
      rcases C with _ | ⟨c0, _ | ⟨c1, _ | ⟨c2, _ | ⟨c3, C⟩⟩⟩⟩ <;> simp at hC1
      have t0 := hterm 0 (by decide)
      have t1 := hterm 1 (by decide)
      have t2 := hterm 2 (by decide)
      have b0 := (hg 0 (by decide)).2
      have b1 := (hg 1 (by decide)).2
      have b2 := (hg 2 (by decide)).2
      simp [dl_f, xd_f, ek_f, e1_f, lm_f] at t0 t1 t2 b0 b1 b2
      simp [dl_f, xd_f, ek_f, e2_f, lm_f]
      refine ⟨by rw [t0, t1, t2]; grind, ?_⟩
      have f2 : fb_f 3 = 4374 := by decide
      have f1 : fb_f 2 = 162 := by decide
      rw [f2]; rw [f1] at b0 b1 b2; omega
    · rcases R with _ | ⟨r0, _ | ⟨r1, _ | ⟨r2, _ | ⟨r3, _ | ⟨r4, R⟩⟩⟩⟩⟩ <;> simp at hR1
      rcases C with _ | ⟨c0, _ | ⟨c1, _ | ⟨c2, _ | ⟨c3, _ | ⟨c4, C⟩⟩⟩⟩⟩ <;> simp at hC1
      have t0 := hterm 0 (by decide)
      have t1 := hterm 1 (by decide)
      have t2 := hterm 2 (by decide)
      have t3 := hterm 3 (by decide)
      have b0 := (hg 0 (by decide)).2
      have b1 := (hg 1 (by decide)).2
      have b2 := (hg 2 (by decide)).2
      have b3 := (hg 3 (by decide)).2
      simp [dl_f, xd_f, ek_f, e2_f, lm_f] at t0 t1 t2 t3 b0 b1 b2 b3
      simp [dl_f, xd_f, ek_f, e3_f, lm_f]
      refine ⟨by rw [t0, t1, t2, t3]; grind, ?_⟩
      have f2 : fb_f 4 = 157464 := by decide
      have f1 : fb_f 3 = 4374 := by decide
      rw [f2]; rw [f1] at b0 b1 b2 b3; omega
