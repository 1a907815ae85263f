/-! small sets as bits; minors, as pure functions -/
def pc_n (v : Nat) : Nat := v % 2 + v / 2 % 2 + v / 4 % 2 + v / 8 % 2 + v / 16 % 2 + v / 32 % 2 + v / 64 % 2
theorem pc_le (v : Nat) : pc_n v ≤ 7 := by unfold pc_n; omega
def us_n (x : Int32) (k : Int32) : Int32 := (x.toUInt32 >>> (k.toUInt32 &&& Int32.toUInt32 31)).toInt32
def bc_1 (x : Int32) : Int32 := x - (us_n x 1 &&& 1431655765)
def bc_2 (x : Int32) : Int32 := (x &&& 858993459) + (us_n x 2 &&& 858993459)
def bc_3 (x : Int32) : Int32 := (x + us_n x 4) &&& 252645135
def bc_4 (x : Int32) : Int32 := x + us_n x 8
def bc_5 (x : Int32) : Int32 := x + us_n x 16
theorem bc_ok : ∀ v, v < 128 → (bc_5 (bc_4 (bc_3 (bc_2 (bc_1 (nI v))))) &&& 63) = nI (pc_n v) := by decide +kernel
def tz_n (v : Nat) : Nat := if v % 2 = 1 then 0 else if v / 2 % 2 = 1 then 1 else if v / 4 % 2 = 1 then 2 else 3
def tz_1 (x : Int32) : Int32 := (x ^^^ (-1)) &&& (x - 1)
theorem tz_a : ∀ v, v < 16 → 1 ≤ v → ¬ 65536 < tz_1 (nI v) := by decide +kernel
theorem tz_b : ∀ v, v < 16 → 1 ≤ v → tz_1 (nI v) ≤ 65536 ∧ tz_1 (nI v) ≤ 256 ∧ tz_1 (nI v) ≤ 16 := by decide +kernel
theorem tz_r0 : ∀ v, v < 16 → 1 ≤ v → ¬ 0 < tz_1 (nI v) → (tz_1 (nI v) &&& 32) = nI (tz_n v) := by decide +kernel
theorem tz_r1 : ∀ v, v < 16 → 1 ≤ v → 0 < tz_1 (nI v) → tz_1 (nI v) ≤ 4 → nI 1 + us_n (tz_1 (nI v)) 1 = nI (tz_n v) := by decide +kernel
theorem tz_r2 : ∀ v, v < 16 → 1 ≤ v → 0 < tz_1 (nI v) → ¬ tz_1 (nI v) ≤ 4 → nI (1 + 2) + us_n (us_n (tz_1 (nI v)) 2) 1 = nI (tz_n v) := by decide +kernel
theorem tz_lt (v : Nat) : tz_n v < 4 := by unfold tz_n; split <;> (try split) <;> (try split) <;> omega
theorem tz_ltn : ∀ n, n ≤ 4 → ∀ v, v < 2 ^ n → 1 ≤ v → tz_n v < n := by decide +kernel
theorem bt_shl : ∀ k, k < 8 → (1 : Int32) <<< (nI k &&& 31) = nI (2 ^ k) := by decide +kernel
theorem bt_msk : ∀ k, k < 8 → nI (2 ^ k) - 1 = nI (2 ^ k - 1) := by decide +kernel
theorem bt_and : ∀ k, k < 8 → ∀ r, r < 128 → nI r &&& nI (2 ^ k - 1) = nI (r % 2 ^ k) := by decide +kernel
theorem bt_xor : ∀ k, k < 7 → ∀ r, r < 128 → nI r ^^^ nI (2 ^ k) = nI (r ^^^ 2 ^ k) := by decide +kernel
theorem bt_s7 : ∀ r, r < 16 → nI r <<< ((7 : Int32) &&& 31) = nI (r * 128) := by decide +kernel
theorem bt_or : ∀ r, r < 16 → ∀ c, c < 128 → nI (r * 128) ||| nI c = nI (r * 128 + c) := by decide +kernel
theorem bt_bit : ∀ k, k < 7 → ∀ c, c < 128 → (nI c >>> (nI k &&& 31)) &&& 1 = nI (c / 2 ^ k % 2) := by decide +kernel
theorem bt_par : ∀ n, n < 64 → nI n &&& 1 = nI (n % 2) := by decide +kernel
theorem bt_xlt : ∀ k, k < 4 → ∀ r, r < 16 → r ^^^ 2 ^ k < 16 := by decide +kernel
theorem bt_xlt7 : ∀ k, k < 7 → ∀ r, r < 128 → r ^^^ 2 ^ k < 128 := by decide +kernel
theorem bt_cols : ∀ k, k < 7 → (64 : Int32) ||| nI (2 ^ k - 1) = nI (64 + (2 ^ k - 1)) := by decide +kernel
theorem bt_2lt : ∀ k, k ≤ 4 → 2 ^ k ≤ 16 := by decide
theorem bt_64 : ∀ k, k ≤ 6 → 2 ^ k ≤ 64 := by decide
theorem bt_sub : ∀ t, t < 128 → ∀ c, c < 128 → (nI c &&& (nI t ^^^ (-1))) = nI (c &&& (127 ^^^ t)) := by decide +kernel
/-- the entry at a row (an amount) and a column (a limit, or 6: the costs) -/
def mx_e (co : Nat → Int32) (M : Nat → Nat → Int32) (row col : Nat) : Int32 := if col = 6 then co row else M col row
def cf_f (vals : Nat → Int32) (r c row col : Nat) : Int32 := if (pc_n (r % 2 ^ row) + pc_n (c % 2 ^ col)) % 2 = 0 then vals ((r ^^^ 2 ^ row) * 128 + (c ^^^ 2 ^ col)) else -(vals ((r ^^^ 2 ^ row) * 128 + (c ^^^ 2 ^ col)))
def ex_f (vals co : Nat → Int32) (M : Nat → Nat → Int32) (r c : Nat) : Nat → Int32
  | 0 => 0
  | col + 1 => if c / 2 ^ col % 2 = 0 then ex_f vals co M r c col else ex_f vals co M r c col + mx_e co M (tz_n r) col * cf_f vals r c (tz_n r) col
/-- the columns that are there: the costs and k limits -/
def cs_n (k : Nat) : Nat := 64 + (2 ^ k - 1)
/-- the place of a minor that fill sets -/
def mn_at (k r c : Nat) : Prop := c &&& (127 ^^^ cs_n k) = 0 ∧ pc_n c = pc_n r
def mn_part (vals co : Nat → Int32) (M : Nat → Nat → Int32) (k r0 c0 : Nat) : Prop := vals 0 = 1 ∧ ∀ r c, 1 ≤ r → 1 ≤ c → c < 128 → (r < r0 ∨ r = r0 ∧ c < c0) → mn_at k r c → vals (r * 128 + c) = ex_f vals co M r c 7
theorem mn_0 {vals co : Nat → Int32} {M : Nat → Nat → Int32} {k : Nat} : mn_part (upd vals 0 1) co M k 1 1 := ⟨pk_us, fun r c h1 h2 h3 h4 => by omega⟩
theorem mn_row {vals co : Nat → Int32} {M : Nat → Nat → Int32} {k r0 c0 : Nat} (hc : 128 ≤ c0) (h : mn_part vals co M k r0 c0) : mn_part vals co M k (r0 + 1) 1 :=
  ⟨h.1, fun r c h1 h2 h3 h4 h5 => h.2 r c h1 h2 h3 (by omega) h5⟩
theorem mn_no {vals co : Nat → Int32} {M : Nat → Nat → Int32} {k r0 c0 : Nat} (h : mn_part vals co M k r0 c0) (hn : ¬ mn_at k r0 c0) : mn_part vals co M k r0 (c0 + 1) := by
  refine ⟨h.1, fun r c h1 h2 h3 h4 h5 => ?_⟩
  by_cases he : r = r0 ∧ c = c0
  · rw [he.1, he.2] at h5; exact absurd h5 hn
  · exact h.2 r c h1 h2 h3 (by omega) h5
theorem bt_xtz : ∀ r, r < 16 → 1 ≤ r → r ^^^ 2 ^ tz_n r < r := by decide +kernel
theorem ex_keep {vals co : Nat → Int32} {M : Nat → Nat → Int32} {r c t : Nat} {v : Int32} (hr : r < 16) (h1 : 1 ≤ r) (hc : c < 128) (ht : r * 128 ≤ t) : ∀ j, j ≤ 7 → ex_f (upd vals t v) co M r c j = ex_f vals co M r c j
  | 0, _ => rfl
  | j + 1, hj => by
    show (if c / 2 ^ j % 2 = 0 then ex_f (upd vals t v) co M r c j else ex_f (upd vals t v) co M r c j + mx_e co M (tz_n r) j * cf_f (upd vals t v) r c (tz_n r) j) = (if c / 2 ^ j % 2 = 0 then ex_f vals co M r c j else ex_f vals co M r c j + mx_e co M (tz_n r) j * cf_f vals r c (tz_n r) j)
    rw [ex_keep hr h1 hc ht j (by omega)]
    have hx := bt_xtz r hr h1
    have hy := bt_xlt7 j (by omega) c hc
    have e : upd vals t v ((r ^^^ 2 ^ tz_n r) * 128 + (c ^^^ 2 ^ j)) = vals ((r ^^^ 2 ^ tz_n r) * 128 + (c ^^^ 2 ^ j)) := pk_un (by omega)
    unfold cf_f
    rw [e]
theorem mn_set {vals co : Nat → Int32} {M : Nat → Nat → Int32} {k r0 c0 : Nat} (hr : r0 < 16) (h1 : 1 ≤ r0) (hc : c0 < 128) (hc1 : 1 ≤ c0) (h : mn_part vals co M k r0 c0) : mn_part (upd vals (r0 * 128 + c0) (ex_f vals co M r0 c0 7)) co M k r0 (c0 + 1) := by
  refine ⟨by rw [pk_un (by omega)]; exact h.1, fun r c g1 g2 g3 g4 g5 => ?_⟩
  rw [ex_keep (by omega) g1 g3 (by rcases g4 with g | g <;> omega) 7 (by omega)]
  by_cases he : r = r0 ∧ c = c0
  · rw [he.1, he.2]; exact pk_us
  · rw [pk_un (by omega)]; exact h.2 r c g1 g2 g3 (by omega) g5
