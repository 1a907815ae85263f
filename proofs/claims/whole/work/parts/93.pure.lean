/-! further calls of the reference, as pure functions -/
abbrev fk_T : Type := Int32 × (Nat → Int32) × (Nat → Int32) × (Nat → Int32) × (Nat → Int32) × (Nat → Int32)
def nd_ok (v : Int32) : Prop := 0 ≤ v ∧ v < 40
theorem nd_nat {v : Int32} (h : nd_ok v) : v = nI v.toNatClampNeg ∧ v.toNatClampNeg < 40 := by
  obtain ⟨j, hj, e⟩ := nI_of (i3_len h.1)
  have h2 : nI j < nI 40 := by rw [← e]; exact h.2
  have h3 := (nI_ltI hj (by decide)).mp h2
  rw [e, nI_clamp (by omega)]
  exact ⟨rfl, h3⟩
def ft_ok (nv f1 f2 : Int32) : Prop := (nd_ok nv ∧ nd_ok f1 ∧ nd_ok f2) ∧ ¬ f1 ≤ nv ∧ ¬ f2 ≤ nv
theorem ft_1 {nv f1 f2 r : Int32} (p : tl_ok (nd_ok nv) r) (h : r = 0) : tl_ok (ft_ok nv f1 f2) 0 := tl_f (fun q => tl_0 p h q.1.1)
theorem ft_2 {nv f1 f2 r : Int32} (p : tl_ok (nd_ok f1) r) (h : r = 0) : tl_ok (ft_ok nv f1 f2) 0 := tl_f (fun q => tl_0 p h q.1.2.1)
theorem ft_3 {nv f1 f2 r : Int32} (p : tl_ok (nd_ok f2) r) (h : r = 0) : tl_ok (ft_ok nv f1 f2) 0 := tl_f (fun q => tl_0 p h q.1.2.2)
theorem ft_4 {nv f1 f2 : Int32} (h : f1 ≤ nv) : tl_ok (ft_ok nv f1 f2) 0 := tl_f (fun q => q.2.1 h)
theorem ft_5 {nv f1 f2 : Int32} (h : f2 ≤ nv) : tl_ok (ft_ok nv f1 f2) 0 := tl_f (fun q => q.2.2 h)
theorem ft_6 {nv f1 f2 r r1 r2 : Int32} (p : tl_ok (nd_ok nv) r) (h : ¬ r = 0) (p1 : tl_ok (nd_ok f1) r1) (h1 : ¬ r1 = 0) (p2 : tl_ok (nd_ok f2) r2) (h2 : ¬ r2 = 0) (h3 : ¬ f1 ≤ nv) (h4 : ¬ f2 ≤ nv) : tl_ok (ft_ok nv f1 f2) 1 := tl_t ⟨⟨tl_1 p h, tl_1 p1 h1, tl_1 p2 h2⟩, h3, h4⟩
noncomputable def fk_f (nv jv xv f1 f2 : Int32) (s : fk_T) : fk_T :=
  ci_f (ft_ok nv f1 f2) (ci_f (in_ok jv 0 3 ∧ in_ok xv (-20) 20) (0, upd s.2.1 nv.toNatClampNeg 1, upd s.2.2.1 nv.toNatClampNeg jv, upd s.2.2.2.1 nv.toNatClampNeg xv, upd s.2.2.2.2.1 nv.toNatClampNeg f1, upd s.2.2.2.2.2 nv.toNatClampNeg f2) (2, s.2)) (1, s.2)
theorem fk_1 {nv jv xv f1 f2 r g : Int32} {s : fk_T} (hg : tl_ok (ft_ok nv f1 f2) g) (h : g = 0) : (1, s.2.1, s.2.2.1, s.2.2.2.1, s.2.2.2.2.1, s.2.2.2.2.2) = fk_f nv jv xv f1 f2 s := (ci_n (tl_0 hg h)).symm
theorem fk_2 {nv jv xv f1 f2 g : Int32} {s : fk_T} (hg : tl_ok (ft_ok nv f1 f2) g) (h : ¬ g = 0) (hq : ¬ (in_ok jv 0 3 ∧ in_ok xv (-20) 20)) : (2, s.2.1, s.2.2.1, s.2.2.2.1, s.2.2.2.2.1, s.2.2.2.2.2) = fk_f nv jv xv f1 f2 s := ((ci_t (tl_1 hg h)).trans (ci_n hq)).symm
theorem fk_3 {nv jv xv f1 f2 g : Int32} {s : fk_T} (hg : tl_ok (ft_ok nv f1 f2) g) (h : ¬ g = 0) (hq : in_ok jv 0 3 ∧ in_ok xv (-20) 20) : (0, upd s.2.1 nv.toNatClampNeg 1, upd s.2.2.1 nv.toNatClampNeg jv, upd s.2.2.2.1 nv.toNatClampNeg xv, upd s.2.2.2.2.1 nv.toNatClampNeg f1, upd s.2.2.2.2.2 nv.toNatClampNeg f2) = fk_f nv jv xv f1 f2 s := ((ci_t (tl_1 hg h)).trans (ci_t hq)).symm
def p7_f (j : Nat) (x0 x1 x2 x3 x4 x5 x6 : Int32) : Int32 := if j = 0 then x0 else if j = 1 then x1 else if j = 2 then x2 else if j = 3 then x3 else if j = 4 then x4 else if j = 5 then x5 else x6
section P7
variable {j : Nat} {x0 x1 x2 x3 x4 x5 x6 : Int32}
theorem p7_0 (h : j = 0) : x0 = p7_f j x0 x1 x2 x3 x4 x5 x6 := by subst h; rfl
theorem p7_1 (h : j = 1) : x1 = p7_f j x0 x1 x2 x3 x4 x5 x6 := by subst h; rfl
theorem p7_2 (h : j = 2) : x2 = p7_f j x0 x1 x2 x3 x4 x5 x6 := by subst h; rfl
theorem p7_3 (h : j = 3) : x3 = p7_f j x0 x1 x2 x3 x4 x5 x6 := by subst h; rfl
theorem p7_4 (h : j = 4) : x4 = p7_f j x0 x1 x2 x3 x4 x5 x6 := by subst h; rfl
theorem p7_5 (h : j = 5) : x5 = p7_f j x0 x1 x2 x3 x4 x5 x6 := by subst h; rfl
theorem p7_6 (h0 : ¬ j = 0) (h1 : ¬ j = 1) (h2 : ¬ j = 2) (h3 : ¬ j = 3) (h4 : ¬ j = 4) (h5 : ¬ j = 5) : x6 = p7_f j x0 x1 x2 x3 x4 x5 x6 := by unfold p7_f; rw [if_neg h0, if_neg h1, if_neg h2, if_neg h3, if_neg h4, if_neg h5]
/-- the numbers up to j may be told -/
def eg_ok (x0 x1 x2 x3 x4 x5 x6 : Int32) (j : Nat) : Prop := ∀ i, i < j → in_ok (p7_f i x0 x1 x2 x3 x4 x5 x6) 0 1000000
theorem eg_0 : tl_ok (eg_ok x0 x1 x2 x3 x4 x5 x6 0) 1 := tl_t (fun _ h => absurd h (Nat.not_lt_zero _))
theorem eg_a {r : Int32} (p : tl_ok (eg_ok x0 x1 x2 x3 x4 x5 x6 j) r) (h : r = 0) : tl_ok (eg_ok x0 x1 x2 x3 x4 x5 x6 (j + 1)) 0 := tl_f (fun q => tl_0 p h (fun i hi => q i (by omega)))
theorem eg_b {r : Int32} (p : tl_ok (in_ok (p7_f j x0 x1 x2 x3 x4 x5 x6) 0 1000000) r) (h : r = 0) : tl_ok (eg_ok x0 x1 x2 x3 x4 x5 x6 (j + 1)) 0 := tl_f (fun q => tl_0 p h (q j (by omega)))
theorem eg_c {r r2 : Int32} (p : tl_ok (eg_ok x0 x1 x2 x3 x4 x5 x6 j) r) (h : ¬ r = 0) (p2 : tl_ok (in_ok (p7_f j x0 x1 x2 x3 x4 x5 x6) 0 1000000) r2) (h2 : ¬ r2 = 0) : tl_ok (eg_ok x0 x1 x2 x3 x4 x5 x6 (j + 1)) 1 :=
  tl_t (fun i hi => by
    by_cases e : i = j
    · subst e; exact tl_1 p2 h2
    · exact tl_1 p h i (by omega))
def ew_f (en : Nat → Int64) (nd : Nat) (x0 x1 x2 x3 x4 x5 x6 : Int32) (j : Nat) : Nat → Int64 := fun i => if 7 * nd ≤ i ∧ i < 7 * nd + j then (p7_f (i - 7 * nd) x0 x1 x2 x3 x4 x5 x6).toInt64 else en i
theorem ew_0 {en : Nat → Int64} {nd : Nat} : en = ew_f en nd x0 x1 x2 x3 x4 x5 x6 0 := by funext i; unfold ew_f; rw [if_neg (by omega)]
theorem ew_s {en e1 : Nat → Int64} {nd : Nat} (e : e1 = ew_f en nd x0 x1 x2 x3 x4 x5 x6 j) : vp_updL e1 (7 * nd + j) (p7_f j x0 x1 x2 x3 x4 x5 x6).toInt64 = ew_f en nd x0 x1 x2 x3 x4 x5 x6 (j + 1) := by
  funext i
  by_cases h : i = 7 * nd + j
  · subst h; rw [pk_uLs]; unfold ew_f; rw [if_pos (by omega), show 7 * nd + j - 7 * nd = j by omega]
  · rw [pk_uLn h, e]; unfold ew_f
    by_cases h2 : 7 * nd ≤ i ∧ i < 7 * nd + j
    · rw [if_pos h2, if_pos (by omega)]
    · rw [if_neg h2, if_neg (by omega)]
end P7
theorem uk_s {kd : Nat → Int32} {nd : Nat} {v : Int32} {k1 : Nat → Int32} (h : k1 = kd ∨ k1 = upd kd nd v) : upd k1 nd v = upd kd nd v := by
  rcases h with rfl | rfl
  · rfl
  · funext i
    by_cases e : i = nd
    · subst e; rw [pk_us, pk_us]
    · rw [pk_un e, pk_un e]
/-! the reference's END -/
def me_b (en : Nat → Int64) (bd : Nat → Int32) (nd : Nat) : Nat → Int64
  | 0 => 0
  | i + 1 => me_b en bd nd i - en (7 * nd + 1 + i) * (bd i).toInt64
def me_e (en : Nat → Int64) (co wt : Nat → Int32) (nd j : Nat) : Nat → Int64
  | 0 => en (7 * nd) * (co j).toInt64
  | i + 1 => me_e en co wt nd j i + en (7 * nd + 1 + i) * (wt (4 * i + j)).toInt64
def me_w (wa : Nat → Int32) (wq j : Nat) (x : Int64) : Int32 := if 0 ≤ x then wa (wq + 1 + 0 + j) else wa (wq + 1 + 4 + j)
def me_s (en : Nat → Int64) (co wt bd wa : Nat → Int32) (nd wq k : Nat) : Nat → Int64
  | 0 => me_b en bd nd k
  | j + 1 => me_s en co wt bd wa nd wq k j + me_e en co wt nd j k * (me_w wa wq j (me_e en co wt nd j k)).toInt64
def mi_ok (en : Nat → Int64) (co wt bd wa : Nat → Int32) (nd wq n k : Nat) (pp qp : Int64) : Prop := (en (7 * nd) = 0 → ¬ me_s en co wt bd wa nd wq k n ≤ 0) ∧ (¬ en (7 * nd) = 0 → ¬ qp * me_s en co wt bd wa nd wq k n < en (7 * nd) * pp)
section MI
variable {en : Nat → Int64} {co wt bd wa : Nat → Int32} {nd wq n k j : Nat} {pp qp : Int64}
theorem mi_a (hj : j = n) (h0 : en (7 * nd) = 0) (h : me_s en co wt bd wa nd wq k j ≤ 0) : tl_ok (mi_ok en co wt bd wa nd wq n k pp qp) 0 := by subst hj; exact tl_f (fun q => q.1 h0 h)
theorem mi_b (hj : j = n) (h0 : en (7 * nd) = 0) (h : ¬ me_s en co wt bd wa nd wq k j ≤ 0) : tl_ok (mi_ok en co wt bd wa nd wq n k pp qp) 1 := by subst hj; exact tl_t ⟨fun _ => h, fun q => absurd h0 q⟩
theorem mi_c (hj : j = n) (h0 : ¬ en (7 * nd) = 0) (h : qp * me_s en co wt bd wa nd wq k j < en (7 * nd) * pp) : tl_ok (mi_ok en co wt bd wa nd wq n k pp qp) 0 := by subst hj; exact tl_f (fun q => q.2 h0 h)
theorem mi_d (hj : j = n) (h0 : ¬ en (7 * nd) = 0) (h : ¬ qp * me_s en co wt bd wa nd wq k j < en (7 * nd) * pp) : tl_ok (mi_ok en co wt bd wa nd wq n k pp qp) 1 := by subst hj; exact tl_t ⟨fun q => absurd q h0, fun _ => h⟩
end MI
/-! the reference's best plan -/
abbrev mt_T : Type := Int32 × (Nat → Int64) × Int64 × Int64
def tk_b (fo : Int32) (one oth : Int64) : Int32 := if fo = 0 ∨ ¬ oth ≤ one then 1 else 0
def tk_e (fo : Int32) (one oth : Int64) : Int32 := if ¬ fo = 0 ∧ one = oth then 1 else 0
def lt_f (x y : Int64) : Int32 := if y ≤ x then 0 else 1
def eq_f (x y : Int64) : Int32 := if x = y then 1 else 0
theorem tk_b1 {fo : Int32} {one oth : Int64} (h : fo = 0) : 1 = tk_b fo one oth := (if_pos (Or.inl h)).symm
theorem tk_b2 {fo : Int32} {one oth : Int64} (h : ¬ oth ≤ one) : 1 = tk_b fo one oth := (if_pos (Or.inr h)).symm
theorem tk_b3 {fo : Int32} {one oth : Int64} (h0 : ¬ fo = 0) (h : oth ≤ one) : 0 = tk_b fo one oth := (if_neg (fun q => q.elim h0 (fun z => z h))).symm
theorem tk_e1 {fo : Int32} {one oth : Int64} (h : fo = 0) : 0 = tk_e fo one oth := (if_neg (fun q => q.1 h)).symm
theorem tk_e2 {fo : Int32} {one oth : Int64} (h : ¬ one = oth) : 0 = tk_e fo one oth := (if_neg (fun q => h q.2)).symm
theorem tk_e3 {fo : Int32} {one oth : Int64} (h0 : ¬ fo = 0) (h : one = oth) : 1 = tk_e fo one oth := (if_pos ⟨h0, h⟩).symm
def bs_f (tr bst : Nat → Int64) (bb be : Int64) (b0 s0 : Int32) : Nat → Int32 × Int32
  | 0 => (b0, s0)
  | j + 1 => if (bs_f tr bst bb be b0 s0 j).2 = 0 then bs_f tr bst bb be b0 s0 j else (lt_f (tr j * bb) (bst j * be), eq_f (tr j * bb) (bst j * be))
theorem bs_go {tr bst : Nat → Int64} {bb be : Int64} {b0 s0 : Int32} {j : Nat} (h : ¬ (bs_f tr bst bb be b0 s0 j).2 = 0) : lt_f (tr j * bb) (bst j * be) = (bs_f tr bst bb be b0 s0 (j + 1)).1 ∧ eq_f (tr j * bb) (bst j * be) = (bs_f tr bst bb be b0 s0 (j + 1)).2 := by
  have e : bs_f tr bst bb be b0 s0 (j + 1) = (lt_f (tr j * bb) (bst j * be), eq_f (tr j * bb) (bst j * be)) := if_neg h
  rw [e]; exact ⟨rfl, rfl⟩
theorem bs_stay {tr bst : Nat → Int64} {bb be : Int64} {b0 s0 : Int32} {j : Nat} (h : (bs_f tr bst bb be b0 s0 j).2 = 0) : ∀ n, j ≤ n → bs_f tr bst bb be b0 s0 n = bs_f tr bst bb be b0 s0 j := by
  intro n hn
  induction n with
  | zero => rw [show j = 0 by omega]
  | succ n ih =>
    by_cases e : j = n + 1
    · rw [e]
    · have h1 := ih (by omega)
      show (if (bs_f tr bst bb be b0 s0 n).2 = 0 then bs_f tr bst bb be b0 s0 n else _) = _
      rw [h1, if_pos h]
def ml_f (f g : Nat → Int64) (j : Nat) : Nat → Int64 := fun i => if i < j then f i else g i
theorem ml_0 {f g : Nat → Int64} : g = ml_f f g 0 := by funext i; simp [ml_f]
theorem ml_s {f g h : Nat → Int64} {j : Nat} (e : h = ml_f f g j) : vp_updL h j (f j) = ml_f f g (j + 1) := by
  funext i
  by_cases hi : i = j
  · subst hi; rw [pk_uLs]; simp [ml_f]
  · rw [pk_uLn hi, e]; unfold ml_f
    by_cases h2 : i < j
    · rw [if_pos h2, if_pos (by omega)]
    · rw [if_neg h2, if_neg (by omega)]
def tb_f (tr : Nat → Int64) (be cs : Int64) (n : Nat) (s : mt_T) : Int32 := (bs_f tr s.2.1 s.2.2.1 be (tk_b s.1 (cs * s.2.2.1) (s.2.2.2 * be)) (tk_e s.1 (cs * s.2.2.1) (s.2.2.2 * be)) n).1
noncomputable def mt_f (lo hi wt bd co : Nat → Int32) (n k : Nat) (tr : Nat → Int64) (be : Int64) (s : mt_T) : mt_T :=
  ci_f (mp_ok lo hi wt bd tr be n k) (ci_f (¬ tb_f tr be (mw_sum co tr n) n s = 0) (1, ml_f tr s.2.1 n, be, mw_sum co tr n) s) s
/-! greatest common divisors -/
def gd_m (y : Int64) : Nat := y.toInt.natAbs
