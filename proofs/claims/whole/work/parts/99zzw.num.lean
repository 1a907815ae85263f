/-! the numbers of an END over the integers -/
theorem li_b : ∀ b0 b1 b2 b3 b4 b5 b6 : Bool, (b0.toNat + 2 * b1.toNat + 4 * b2.toNat + 8 * b3.toNat + 16 * b4.toNat + 32 * b5.toNat + 64 * b6.toNat) < 128 ∧ bl_f (b0.toNat + 2 * b1.toNat + 4 * b2.toNat + 8 * b3.toNat + 16 * b4.toNat + 32 * b5.toNat + 64 * b6.toNat) = (List.range 7).filter (fun i => [b0, b1, b2, b3, b4, b5, b6].getD i false) := by decide +kernel
theorem li_all {l : List Nat} (h : ic_l 7 l) : ∃ v, v < 128 ∧ bl_f v = l := by
  have a := li_b (decide (0 ∈ l)) (decide (1 ∈ l)) (decide (2 ∈ l)) (decide (3 ∈ l)) (decide (4 ∈ l)) (decide (5 ∈ l)) (decide (6 ∈ l))
  refine ⟨_, a.1, a.2.trans (pw_eq _ l (ic_pw (ic_flt 7 _)) (ic_pw h) (fun x => ?_))⟩
  rw [List.mem_filter, List.mem_range]
  constructor
  · rintro ⟨h1, h2⟩
    rcases (show x = 0 ∨ x = 1 ∨ x = 2 ∨ x = 3 ∨ x = 4 ∨ x = 5 ∨ x = 6 by omega) with rfl | rfl | rfl | rfl | rfl | rfl | rfl <;> simpa using h2
  · intro h2
    have h1 : x < 7 := by
      obtain ⟨t, ht, e⟩ := gd_mem.mp h2
      rw [← e]; exact h.2 t ht
    refine ⟨h1, ?_⟩
    rcases (show x = 0 ∨ x = 1 ∨ x = 2 ∨ x = 3 ∨ x = 4 ∨ x = 5 ∨ x = 6 by omega) with rfl | rfl | rfl | rfl | rfl | rfl | rfl <;> simpa using h2
theorem sn_b : ∀ v, v < 128 → ∀ t, t < (bl_f v).length → sn_s v ((bl_f v).getD t 0) = if t % 2 = 0 then 1 else -1 := by decide +kernel
theorem th_1 : ∀ k, k ≤ 6 → ∀ c, c < 128 → (∀ t, t < (bl_f c).length → (bl_f c).getD t 0 < k) → c &&& (127 ^^^ (2 ^ k - 1)) = 0 := by decide +kernel
theorem th_2 : ∀ k, k ≤ 6 → ∀ c, c < 128 → (∀ t, t < (bl_f c).length → (bl_f c).getD t 0 < k ∨ (bl_f c).getD t 0 = 6) → c &&& (127 ^^^ cs_n k) = 0 := by decide +kernel
theorem sm_pad {g : Nat → Int} {k : Nat} : ∀ d, (∀ c, k ≤ c → c < k + d → g c = 0) → sm_f g (k + d) = sm_f g k
  | 0, _ => rfl
  | d + 1, h => by
    show sm_f g (k + d) + g (k + d) = sm_f g k
    rw [sm_pad d (fun c h1 h2 => h c h1 (by omega)), h (k + d) (by omega) (by omega), Int.add_zero]
theorem nv_u {N : Nat → Nat → Int} {P Q : List Nat} {v v2 : Nat → Int} (h : nv_ok N P Q v) (h2 : nv_ok N P Q v2) (c : Nat) : v c = v2 c := by
  by_cases z : c ∈ Q
  · obtain ⟨t, ht, e⟩ := gd_mem.mp z
    rw [← e, h.1 t ht, h2.1 t ht]
  · rw [h.2 c z, h2.2 c z]
def nme_f (co : Nat → Int32) (M : Nat → Nat → Int32) : Nat → Nat → Int := fun a i => (mx_e co M a i).toInt
section NM
variable {lo hi co bd : Nat → Int32} {M : Nat → Nat → Int32} {n k : Nat} {vals : Nat → Int32} {zs cl : Nat}
theorem sn_0 (hc : cl < 128) {c : Nat} (h : ¬ c ∈ bl_f cl) : sn_n vals zs cl c = 0 := by
  have : cl / 2 ^ c % 2 = 0 := by
    by_cases z : c < 7
    · have : ¬ cl / 2 ^ c % 2 = 1 := fun e => h ((bl_mem cl c).mpr ⟨z, e⟩)
      omega
    · have : cl < 2 ^ c := Nat.lt_of_lt_of_le hc (Nat.pow_le_pow_right (n := 2) (by decide) (show 7 ≤ c by omega))
      rw [Nat.div_eq_of_lt this]
  unfold sn_n
  rw [if_pos this]
theorem sn_nv (hq : pq_ok lo hi co M bd n k) (hm : mn_part vals co M k (2 ^ n) 1) (hz : zs < 2 ^ n) (hc : cl < 128) (ht : cl &&& (127 ^^^ cs_n k) = 0) (hp : pc_n cl = pc_n zs + 1) : nv_ok (nme_f co M) (bl_f zs) (bl_f cl) (fun c => (sn_n vals zs cl c).toInt) ∧ ∀ c, (sn_n vals zs cl c).toInt.natAbs ≤ 157464 := by
  have h16 := bt_2lt n hq.1.2
  have key : ∀ b, b < (bl_f cl).length → (sn_n vals zs cl ((bl_f cl).getD b 0)).toInt = sg_i b (dl_f (nme_f co M) (bl_f zs) ((bl_f cl).eraseIdx b)) ∧ (sn_n vals zs cl ((bl_f cl).getD b 0)).toInt.natAbs ≤ 157464 := fun b hb => by
    obtain ⟨a1, a2, a3, a4⟩ := bl_at cl hc b hb
    have a5 := (bl_col k hq.2.1 cl hc ht b hb).2
    have hv := mn_det hm hq.1.2 hq.2.1 (mx_b hq) (pc_n zs) zs (cl ^^^ 2 ^ (bl_f cl).getD b 0) rfl (by omega) hz a3 a5
    rw [a2] at hv
    have hbound : fb_f (pc_n zs) ≤ 157464 := fb_m _ (bl_4 zs (by omega))
    have hbit := ((bl_mem cl ((bl_f cl).getD b 0)).mp (gd_mem.mpr ⟨b, hb, rfl⟩)).2
    unfold sn_n
    rw [if_neg (by omega), sn_b cl hc b hb]
    generalize vals (zs * 128 + (cl ^^^ 2 ^ (bl_f cl).getD b 0)) = V at hv
    unfold sg_i
    by_cases z : b % 2 = 0
    · rw [if_pos z, if_pos z]
      have e : (1 * V).toInt = V.toInt := by rw [Int32.one_mul]
      rw [e]
      exact ⟨hv.1, by omega⟩
    · rw [if_neg z, if_neg z]
      have e : (-1 * V).toInt = -V.toInt := by
        rw [i3_mul (a := 1) (b := 157464) (by decide) (by omega) (by decide), show (-1 : Int32).toInt = -1 by decide]; omega
      rw [e]
      refine ⟨by rw [hv.1]; rfl, by omega⟩
  refine ⟨⟨fun b hb => (key b hb).1, fun c hc' => ?_⟩, fun c => ?_⟩
  · show (sn_n vals zs cl c).toInt = 0
    rw [sn_0 hc hc']; rfl
  · by_cases z : c ∈ bl_f cl
    · obtain ⟨t, h1, e⟩ := gd_mem.mp z
      rw [← e]; exact (key t h1).2
    · rw [sn_0 hc z]; decide
theorem sn_lo_i : ∀ m, ((sn_lo vals zs cl m).toInt ≤ 0 ∧ ∀ c, c < m → (sn_lo vals zs cl m).toInt ≤ (sn_n vals zs cl c).toInt) ∧ ((∀ c, c < m → 0 ≤ (sn_n vals zs cl c).toInt) → (sn_lo vals zs cl m).toInt = 0)
  | 0 => ⟨⟨Int.le_refl _, fun c hc => absurd hc (Nat.not_lt_zero _)⟩, fun _ => rfl⟩
  | m + 1 => by
    obtain ⟨⟨a1, a2⟩, a3⟩ := sn_lo_i m
    show ((if sn_n vals zs cl m < sn_lo vals zs cl m then sn_n vals zs cl m else sn_lo vals zs cl m).toInt ≤ 0 ∧ _) ∧ (_ → (if sn_n vals zs cl m < sn_lo vals zs cl m then sn_n vals zs cl m else sn_lo vals zs cl m).toInt = 0)
    by_cases z : sn_n vals zs cl m < sn_lo vals zs cl m
    · have y := Int32.lt_iff_toInt_lt.mp z
      have e : sn_lo vals zs cl (m + 1) = sn_n vals zs cl m := if_pos z
      rw [e, if_pos z]
      refine ⟨⟨by omega, fun c hc => ?_⟩, fun h => ?_⟩
      · by_cases x : c = m
        · rw [x]; exact Int.le_refl _
        · have := a2 c (by omega); omega
      · have := h m (by omega); have := a3 (fun c hc => h c (by omega)); omega
    · have y : ¬ (sn_n vals zs cl m).toInt < (sn_lo vals zs cl m).toInt := fun q => z (Int32.lt_iff_toInt_lt.mpr q)
      have e : sn_lo vals zs cl (m + 1) = sn_lo vals zs cl m := if_neg z
      rw [e, if_neg z]
      refine ⟨⟨a1, fun c hc => ?_⟩, fun h => a3 (fun c hc => h c (by omega))⟩
      by_cases x : c = m
      · rw [x]; omega
      · exact a2 c (by omega)
theorem sn_hi_i : ∀ m, (0 ≤ (sn_hi vals zs cl m).toInt ∧ ∀ c, c < m → (sn_n vals zs cl c).toInt ≤ (sn_hi vals zs cl m).toInt) ∧ ((∀ c, c < m → (sn_n vals zs cl c).toInt ≤ 0) → (sn_hi vals zs cl m).toInt = 0)
  | 0 => ⟨⟨Int.le_refl _, fun c hc => absurd hc (Nat.not_lt_zero _)⟩, fun _ => rfl⟩
  | m + 1 => by
    obtain ⟨⟨a1, a2⟩, a3⟩ := sn_hi_i m
    by_cases z : sn_hi vals zs cl m < sn_n vals zs cl m
    · have y := Int32.lt_iff_toInt_lt.mp z
      have e : sn_hi vals zs cl (m + 1) = sn_n vals zs cl m := if_pos z
      rw [e]
      refine ⟨⟨by omega, fun c hc => ?_⟩, fun h => ?_⟩
      · by_cases x : c = m
        · rw [x]; exact Int.le_refl _
        · have := a2 c (by omega); omega
      · have := h m (by omega); have := a3 (fun c hc => h c (by omega)); omega
    · have y : ¬ (sn_hi vals zs cl m).toInt < (sn_n vals zs cl m).toInt := fun q => z (Int32.lt_iff_toInt_lt.mpr q)
      have e : sn_hi vals zs cl (m + 1) = sn_hi vals zs cl m := if_neg z
      rw [e]
      refine ⟨⟨a1, fun c hc => ?_⟩, fun h => a3 (fun c hc => h c (by omega))⟩
      by_cases x : c = m
      · rw [x]; omega
      · exact a2 c (by omega)
def nx_i (c : Nat) : Nat := if c = 6 then 0 else c + 1
theorem nb_at {num : Nat → Int32} : ∀ m c, m ≤ 7 → c < m → nb_f vals zs cl num m (nx_i c) = sn_n vals zs cl c
  | 0, c, _, h => absurd h (Nat.not_lt_zero _)
  | m + 1, c, hm, h => by
    show upd (nb_f vals zs cl num m) (nx_i m) (sn_n vals zs cl m) (nx_i c) = _
    by_cases e : c = m
    · rw [e, pk_us]
    · rw [pk_un (by unfold nx_i; split <;> split <;> omega)]
      exact nb_at m c (by omega) (by omega)
/-- the numbers, turned if they must be -/
theorem nf_i {num : Nat → Int32} {σ : Int} (hσ : σ = 1 ∨ σ = -1) (hb : ∀ c, (sn_n vals zs cl c).toInt.natAbs ≤ 157464) (hs : ∀ c, c < 7 → 0 ≤ σ * (sn_n vals zs cl c).toInt) (hn : ∃ c, c < 7 ∧ ¬ (sn_n vals zs cl c).toInt = 0) : sk_ok (sn_lo vals zs cl 7) (sn_hi vals zs cl 7) ∧ ∀ c, c < 7 → (nf_f vals zs cl num (nx_i c)).toInt = σ * (sn_n vals zs cl c).toInt := by
  obtain ⟨c0, h0, hne⟩ := hn
  obtain ⟨⟨l1, l2⟩, l3⟩ := sn_lo_i (vals := vals) (zs := zs) (cl := cl) 7
  obtain ⟨⟨g1, g2⟩, g3⟩ := sn_hi_i (vals := vals) (zs := zs) (cl := cl) 7
  have z0 : (0 : Int32).toInt = 0 := rfl
  rcases hσ with e | e
  · subst e
    have hall : ∀ c, c < 7 → 0 ≤ (sn_n vals zs cl c).toInt := fun c hc => by have := hs c hc; omega
    have h1 := g2 c0 h0
    have h2 := hall c0 h0
    have hh : ¬ sn_hi vals zs cl 7 = 0 := fun q => by rw [q] at h1; omega
    refine ⟨⟨fun _ q => ?_, fun q => absurd (Int32.le_iff_toInt_le.mpr (by rw [l3 hall]; exact Int.le_refl _)) q⟩, fun c hc => ?_⟩
    · have := Int32.le_iff_toInt_le.mp q; omega
    · unfold nf_f
      rw [if_neg hh, nb_at 7 c (Nat.le_refl _) hc]; omega
  · subst e
    have hall : ∀ c, c < 7 → (sn_n vals zs cl c).toInt ≤ 0 := fun c hc => by have := hs c hc; omega
    have h1 := l2 c0 h0
    have h2 := hall c0 h0
    have hh : sn_hi vals zs cl 7 = 0 := Int32.toInt_inj.mp (by rw [g3 hall]; rfl)
    refine ⟨⟨fun q => ?_, fun _ => hh⟩, fun c hc => ?_⟩
    · have := Int32.le_iff_toInt_le.mp q; omega
    · unfold nf_f
      rw [if_pos hh]
      unfold tn_f mx_f
      rw [if_pos (by unfold nx_i; split <;> omega)]
      dsimp only
      rw [nb_at 7 c (Nat.le_refl _) hc, i3_neg (hb c) (by omega)]; omega
theorem en_ei {num : Nat → Int32} {w : Int64} {cj : Int32} {col : Nat → Int32} (hw : w.toInt.natAbs ≤ 157464) (hc : cj.toInt.natAbs ≤ 9) : ∀ m, m ≤ 6 → (∀ i, i < m → (num (0 + 1 + i)).toInt.natAbs ≤ 157464 ∧ (col i).toInt.natAbs ≤ 9) → (en_e num 0 w cj col m).toInt = w.toInt * cj.toInt + sm_f (fun i => (num (0 + 1 + i)).toInt * (col i).toInt) m ∧ (en_e num 0 w cj col m).toInt.natAbs ≤ (m + 1) * 1417176
  | 0, _, _ => by
    show (w * cj.toInt64).toInt = w.toInt * cj.toInt + 0 ∧ (w * cj.toInt64).toInt.natAbs ≤ _
    rw [i6_mul (a := 157464) (b := 9) hw (by rw [Int32.toInt_toInt64]; exact hc) (by decide), Int32.toInt_toInt64]
    have := nb_m hw hc
    exact ⟨by omega, by omega⟩
  | m + 1, hm, h => by
    obtain ⟨e, b⟩ := en_ei hw hc m (by omega) (fun i hi => h i (by omega))
    obtain ⟨h1, h2⟩ := h m (by omega)
    have p := t6_mul h1 h2 (by decide)
    have pb := nb_m h1 h2
    show (en_e num 0 w cj col m + (num (0 + 1 + m)).toInt64 * (col m).toInt64).toInt = w.toInt * cj.toInt + (sm_f (fun i => (num (0 + 1 + i)).toInt * (col i).toInt) m + (num (0 + 1 + m)).toInt * (col m).toInt) ∧ (en_e num 0 w cj col m + (num (0 + 1 + m)).toInt64 * (col m).toInt64).toInt.natAbs ≤ _
    generalize (num (0 + 1 + m)).toInt * (col m).toInt = X at p pb ⊢
    rw [i6_add (by omega), p, e]
    rw [e] at b
    exact ⟨by omega, by omega⟩
theorem en_bi {num : Nat → Int32} {bd : Nat → Int32} : ∀ m, m ≤ 6 → (∀ i, i < m → (num (0 + 1 + i)).toInt.natAbs ≤ 157464 ∧ (bd i).toInt.natAbs ≤ 99) → (en_b num 0 bd m).toInt = sm_f (fun i => (num (0 + 1 + i)).toInt * (bd i).toInt) m ∧ (en_b num 0 bd m).toInt.natAbs ≤ m * 15588936
  | 0, _, _ => ⟨rfl, by rw [show (en_b num 0 bd 0).toInt = 0 from rfl]; decide⟩
  | m + 1, hm, h => by
    obtain ⟨e, b⟩ := en_bi m (by omega) (fun i hi => h i (by omega))
    obtain ⟨h1, h2⟩ := h m (by omega)
    have p := t6_mul h1 h2 (by decide)
    have pb := nb_m h1 h2
    show (en_b num 0 bd m + (num (0 + 1 + m)).toInt64 * (bd m).toInt64).toInt = (sm_f (fun i => (num (0 + 1 + i)).toInt * (bd i).toInt) m + (num (0 + 1 + m)).toInt * (bd m).toInt) ∧ (en_b num 0 bd m + (num (0 + 1 + m)).toInt64 * (bd m).toInt64).toInt.natAbs ≤ _
    generalize (num (0 + 1 + m)).toInt * (bd m).toInt = X at p pb ⊢
    rw [i6_add (by omega), p, e]
    rw [e] at b
    exact ⟨by omega, by omega⟩
end NM
