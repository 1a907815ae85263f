/-! the search, as a pure function of its state -/
abbrev sg_T : Type := Int32 × (Nat → Int32) × Int32 × Int32 × (Nat → Int32) × (Nat → Int32)
noncomputable def ci_f {α : Type} (P : Prop) (x y : α) : α := @ite α P (Classical.propDecidable P) x y
theorem ci_t {α : Type} {P : Prop} {x y : α} (h : P) : ci_f P x y = x := @if_pos P (Classical.propDecidable P) h α x y
theorem ci_n {α : Type} {P : Prop} {x y : α} (h : ¬ P) : ci_f P x y = y := @if_neg P (Classical.propDecidable P) h α x y
def mx_f (f g : Nat → Int32) (j : Nat) : Nat → Int32 := fun i => if i < j then f i else g i
theorem mx_0 {f g : Nat → Int32} : mx_f f g 0 = g := by funext i; simp [mx_f]
theorem mx_s {f g : Nat → Int32} {j : Nat} : upd (mx_f f g j) j (f j) = mx_f f g (j + 1) := by
  funext i
  by_cases h : i = j
  · subst h; rw [pk_us]; simp [mx_f]
  · rw [pk_un h]; unfold mx_f
    by_cases h2 : i < j
    · rw [if_pos h2, if_pos (by omega)]
    · rw [if_neg h2, if_neg (by omega)]
theorem mx_u {f g h : Nat → Int32} {j : Nat} (e : h = mx_f f g j) : upd h j (f j) = mx_f f g (j + 1) := by rw [e]; exact mx_s
def ib_l (best x : Nat → Int32) (dv d : Int32) (l0 : Int64) : Nat → Int64
  | 0 => l0
  | j + 1 => if ib_l best x dv d l0 j = 0 then (best j).toInt64 * d.toInt64 - (x j).toInt64 * dv.toInt64 else ib_l best x dv d l0 j
theorem ib_stay {best x : Nat → Int32} {dv d : Int32} {l0 : Int64} {j : Nat} (h : ¬ ib_l best x dv d l0 j = 0) : ∀ n, j ≤ n → ib_l best x dv d l0 n = ib_l best x dv d l0 j := by
  intro n hn
  induction n with
  | zero => rw [show j = 0 by omega]
  | succ n ih =>
    by_cases e : j = n + 1
    · rw [e]
    · have h1 := ih (by omega)
      show (if ib_l best x dv d l0 n = 0 then _ else ib_l best x dv d l0 n) = _
      rw [h1, if_neg h]
/-- x / d, which costs xc / d, comes before what was found -/
def ib_ok (fo : Int32) (best : Nat → Int32) (dv cs : Int32) (x : Nat → Int32) (xc d : Int32) (n : Nat) : Prop := fo = 0 ∨ ¬ ib_l best x dv d (cs.toInt64 * d.toInt64 - xc.toInt64 * dv.toInt64) n ≤ 0
def cb_s (w hi se : Nat → Int32) (j fr : Nat) : Nat → Int32
  | 0 => 0
  | t + 1 => cb_s w hi se j fr t + w t * (if (j ≤ t ∨ ¬ fr / 2 ^ t % 2 = 0) ∧ ¬ 0 ≤ w t then hi t else se t)
def cb_ok (M : Nat → Nat → Int32) (bd hi se : Nat → Int32) (j fr n k : Nat) : Prop := ∀ i, i < k → cb_s (M i) hi se j fr n ≤ bd i
def fa_f (rests vals : Nat → Int32) (fr ti j : Nat) : Nat → Int32
  | 0 => 0
  | i + 1 => if ti / 2 ^ i % 2 = 0 then fa_f rests vals fr ti j i else fa_f rests vals fr ti j i + rests i * cf_f vals fr ti j i
def dv_f (det : Int32) : Int32 := if 0 ≤ det then det else -det
def sn_f (det : Int32) : Int32 := if 0 ≤ det then 1 else -1
def tc_t (se rests vals : Nat → Int32) (fr ti j : Nat) : Int32 := if fr / 2 ^ j % 2 = 0 then se j * dv_f (vals (fr * 128 + ti)) else sn_f (vals (fr * 128 + ti)) * fa_f rests vals fr ti j 6
noncomputable def tk_s (lo hi co : Nat → Int32) (M : Nat → Nat → Int32) (bd : Nat → Int32) (n k : Nat) (dv cs : Int32) (sg : sg_T) : sg_T :=
  ci_f (ib_ok sg.1 sg.2.1 sg.2.2.1 sg.2.2.2.1 sg.2.2.2.2.2 cs dv n ∧ kp_ok lo hi M bd sg.2.2.2.2.2 dv n k) (1, mx_f sg.2.2.2.2.2 sg.2.1 4, dv, cs, sg.2.2.2.2.1, sg.2.2.2.2.2) sg
noncomputable def tc_s (lo hi co : Nat → Int32) (M : Nat → Nat → Int32) (bd vals se : Nat → Int32) (n k fr ti : Nat) (sg : sg_T) : sg_T :=
  ci_f (vals (fr * 128 + ti) = 0) sg (tk_s lo hi co M bd n k (dv_f (vals (fr * 128 + ti))) (wg_sum co (mx_f (tc_t se sg.2.2.2.2.1 vals fr ti) sg.2.2.2.2.2 n) n).toInt32
    (sg.1, sg.2.1, sg.2.2.1, sg.2.2.2.1, sg.2.2.2.2.1, mx_f (tc_t se sg.2.2.2.2.1 vals fr ti) sg.2.2.2.2.2 n))
def rs_t (se : Nat → Int32) (fr : Nat) : Nat → Int32 := fun t => if fr / 2 ^ t % 2 = 0 then se t else 0
def rs_r (M : Nat → Nat → Int32) (bd tr : Nat → Int32) (n : Nat) : Nat → Int32 := fun i => bd i - (wg_sum (M i) tr n).toInt32
def rs_s (M : Nat → Nat → Int32) (bd se : Nat → Int32) (n k fr : Nat) (sg : sg_T) : sg_T :=
  (sg.1, sg.2.1, sg.2.2.1, sg.2.2.2.1, mx_f (rs_r M bd (mx_f (rs_t se fr) sg.2.2.2.2.2 n) n) sg.2.2.2.2.1 k, mx_f (rs_t se fr) sg.2.2.2.2.2 n)
def fo_l (g : Nat → sg_T → sg_T) : Nat → sg_T → sg_T
  | 0, s => s
  | t + 1, s => g t (fo_l g t s)
noncomputable def tg_f (lo hi co : Nat → Int32) (M : Nat → Nat → Int32) (bd vals se : Nat → Int32) (n k fr : Nat) : Nat → sg_T → sg_T := fun ti s => ci_f (1 ≤ ti ∧ pc_n ti = pc_n fr) (tc_s lo hi co M bd vals se n k fr ti s) s
noncomputable def ts_s (lo hi co : Nat → Int32) (M : Nat → Nat → Int32) (bd vals se : Nat → Int32) (n k fr : Nat) (sg : sg_T) : sg_T :=
  ci_f (fr = 0) (tc_s lo hi co M bd vals se n k 0 0 sg) (fo_l (tg_f lo hi co M bd vals se n k fr) (2 ^ k) (rs_s M bd se n k fr sg))
theorem tg_0 {lo hi co : Nat → Int32} {M : Nat → Nat → Int32} {bd vals se : Nat → Int32} {n k fr : Nat} {s : sg_T} : s = fo_l (tg_f lo hi co M bd vals se n k fr) 1 s := (ci_n (P := 1 ≤ 0 ∧ pc_n 0 = pc_n fr) (fun q => absurd q.1 (by decide))).symm
theorem tg_y {lo hi co : Nat → Int32} {M : Nat → Nat → Int32} {bd vals se : Nat → Int32} {n k fr t : Nat} {s s1 z : sg_T} (e : s1 = fo_l (tg_f lo hi co M bd vals se n k fr) t s) (h : 1 ≤ t) (hp : pc_n t = pc_n fr) (hz : z = tc_s lo hi co M bd vals se n k fr t s1) : z = fo_l (tg_f lo hi co M bd vals se n k fr) (t + 1) s := by
  rw [hz, e]; exact (ci_t ⟨h, hp⟩).symm
theorem tg_n {lo hi co : Nat → Int32} {M : Nat → Nat → Int32} {bd vals se : Nat → Int32} {n k fr t : Nat} {s s1 : sg_T} (e : s1 = fo_l (tg_f lo hi co M bd vals se n k fr) t s) (hp : ¬ pc_n t = pc_n fr) : s1 = fo_l (tg_f lo hi co M bd vals se n k fr) (t + 1) s := by
  rw [e]; exact (ci_n (fun q => hp q.2)).symm
/-- the value of the amount j that is settled at turn t -/
def vl_f (lo co : Nat → Int32) (wd : Nat → Nat) (j t : Nat) : Int32 := lo j + (if 0 ≤ co j then nI t else nI (wd j) - nI t)
/-- is the amount j whole here -/
def wl_f (wh : Nat → Int32) (lz : Int32) (j : Nat) : Int32 := if ¬ wh j = 0 ∧ lz = 0 then 1 else 0
noncomputable def st_g (wh co lo : Nat → Int32) (lz : Int32) (wd : Nat → Nat) (j : Nat) (ot : Int32) (se : Nat → Int32) (rec : Int32 → (Nat → Int32) → sg_T → sg_T) : Nat → sg_T → sg_T := fun t s =>
  ci_f (¬ wl_f wh lz j = 0 ∨ t = 0 ∨ t = wd j) (rec (ot + co j * vl_f lo co wd j t) (upd se j (vl_f lo co wd j t)) s) s
def lc_f (lo hi co : Nat → Int32) (j : Nat) : Int32 := if co j < 0 then co j * hi j else co j * lo j
noncomputable def st_f (lo hi wh co : Nat → Int32) (M : Nat → Nat → Int32) (bd vals : Nat → Int32) (lz : Int32) (wd : Nat → Nat) (n k : Nat) : Nat → Nat → Nat → Int32 → (Nat → Int32) → sg_T → sg_T
  | 0, _, _, _, _, sg => sg
  | f + 1, j, fr, lc, se, sg =>
    ci_f (ib_ok sg.1 sg.2.1 sg.2.2.1 sg.2.2.2.1 se lc 1 n ∧ cb_ok M bd hi se j fr n k)
      (ci_f (n ≤ j) (ts_s lo hi co M bd vals se n k fr sg)
        (ci_f (wl_f wh lz j = 0 ∧ ¬ wd j = 0)
          (st_f lo hi wh co M bd vals lz wd n k f (j + 1) (fr + 2 ^ j) lc se (fo_l (st_g wh co lo lz wd j (lc - lc_f lo hi co j) se (fun c z s => st_f lo hi wh co M bd vals lz wd n k f (j + 1) fr c z s)) (wd j + 1) sg))
          (fo_l (st_g wh co lo lz wd j (lc - lc_f lo hi co j) se (fun c z s => st_f lo hi wh co M bd vals lz wd n k f (j + 1) fr c z s)) (wd j + 1) sg)))
      sg
theorem bt_fr : ∀ j, j < 4 → ∀ f, f < 2 ^ j → nI f ||| nI (2 ^ j) = nI (f + 2 ^ j) := by decide +kernel
theorem bt_pw : ∀ j, j < 4 → 2 ^ (j + 1) = 2 ^ j + 2 ^ j := by decide
theorem bt_p4 : ∀ j, j ≤ 4 → 2 ^ j ≤ 16 := by decide
