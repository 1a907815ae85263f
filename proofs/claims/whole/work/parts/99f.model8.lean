abbrev qq_Model_makeRows (D : va_G) (cI cZ cL cQ : ClassId) (o : Nat) (ml : Nat) (mm : Nat) (mw : Nat) (mc : Nat) (mg : Nat) (md : Nat) (mb : Nat) (mt : Nat) (mr : Nat) (mo : Nat) (mx : Nat) (mp : Nat) (nk : Nat) (na : Nat) (nv : Nat) (nf : Nat) (ns : Nat) (ne : Nat) (nw : Nat) (mf : Nat) (thr : Int32) (n : Nat) (k : Nat) (so : Int32) (fo : Int32) (bb : Int64) (bc : Int64) (be : Int64) (rs : Nat) (rc : Nat) (R : Nat → Int64) (rsv : Nat → Int32) (fx : Nat → Int64) (lo : Nat → Int32) (hi : Nat → Int32) (wt : Nat → Int32) (bd : Nat → Int32) (re : Nat → Nat) (A : Nat → Prop) : Array Value → State → Outcome → State → Prop := va_Qv (fun u : Nat × (Nat → Int64) => u.1 = 2 * rs + k ∧ pf_ok u.2 (mk_R lo hi wt bd fx re rs n) (5 * u.1)) (fun (u : Nat × (Nat → Int64)) t => mm_B D kc_all [(cI, .int), (cZ, .boolean), (cL, .long), (cQ, .array .int)] A [(o, .inr (7, [.int thr, .int (nI n), .ref ml, .ref mm, .ref mw, .ref mc, .int (nI k), .ref mg, .ref md, .int so, .int fo, .ref mb, .long bb, .long bc, .ref mt, .long be, .ref mr, .int (nI rs), .ref mo, .int (nI u.1), .ref mx, .ref mp, .ref nk, .ref na, .ref nv, .ref nf, .ref ns, .ref ne, .ref nw, .ref mf])), (mo, .inl (cL, 70, .inr (.inl u.2))), (mr, .inl (cI, 4, .inl rsv)), (mf, .inl (cL, 4, .inr (.inl fx))), (ml, .inl (cI, 4, .inl lo)), (mm, .inl (cI, 4, .inl hi)), (mg, .inl (cI, 24, .inl wt)), (md, .inl (cI, 6, .inl bd))] t) A
set_option maxHeartbeats 4000000 in
set_option maxRecDepth 100000 in
theorem cc_Model_makeRows (l : Launch) (D : va_G) (cI cZ cL cQ : ClassId) (sz : Nat) (o : Nat) (ml : Nat) (mm : Nat) (mw : Nat) (mc : Nat) (mg : Nat) (md : Nat) (mb : Nat) (mt : Nat) (mr : Nat) (mo : Nat) (mx : Nat) (mp : Nat) (nk : Nat) (na : Nat) (nv : Nat) (nf : Nat) (ns : Nat) (ne : Nat) (nw : Nat) (mf : Nat) (thr : Int32) (n : Nat) (k : Nat) (so : Int32) (fo : Int32) (bb : Int64) (bc : Int64) (be : Int64) (rs : Nat) (rc : Nat) (R : Nat → Int64) (rsv : Nat → Int32) (fx : Nat → Int64) (lo : Nat → Int32) (hi : Nat → Int32) (wt : Nat → Int32) (bd : Nat → Int32) (re : Nat → Nat) (hn : n ≤ 4) (hk : k ≤ 6) (hrs : rs ≤ 4) (hre : ∀ c9, c9 < rs → rsv c9 = nI (re c9) ∧ re c9 < 4) : Met l yy_Model_makeRows ww_Model_makeRows ({ frames := 0, cells := 0, slots := 0, locals := 0 } : Room) (mm_Pc D kc_all [(cI, .int), (cZ, .boolean), (cL, .long), (cQ, .array .int)] sz [(o, .inr (7, [.int thr, .int (nI n), .ref ml, .ref mm, .ref mw, .ref mc, .int (nI k), .ref mg, .ref md, .int so, .int fo, .ref mb, .long bb, .long bc, .ref mt, .long be, .ref mr, .int (nI rs), .ref mo, .int (nI rc), .ref mx, .ref mp, .ref nk, .ref na, .ref nv, .ref nf, .ref ns, .ref ne, .ref nw, .ref mf])), (mo, .inl (cL, 70, .inr (.inl R))), (mr, .inl (cI, 4, .inl rsv)), (mf, .inl (cL, 4, .inr (.inl fx))), (ml, .inl (cI, 4, .inl lo)), (mm, .inl (cI, 4, .inl hi)), (mg, .inl (cI, 24, .inl wt)), (md, .inl (cI, 6, .inl bd))] [.ref o, .ref mf]) (qq_Model_makeRows D cI cZ cL cQ o ml mm mw mc mg md mb mt mr mo mx mp nk na nv nf ns ne nw mf thr n k so fo bb bc be rs rc R rsv fx lo hi wt bd re (va_A [(o, .inr (7, [.int thr, .int (nI n), .ref ml, .ref mm, .ref mw, .ref mc, .int (nI k), .ref mg, .ref md, .int so, .int fo, .ref mb, .long bb, .long bc, .ref mt, .long be, .ref mr, .int (nI rs), .ref mo, .int (nI rc), .ref mx, .ref mp, .ref nk, .ref na, .ref nv, .ref nf, .ref ns, .ref ne, .ref nw, .ref mf])), (mo, .inl (cL, 70, .inr (.inl R))), (mr, .inl (cI, 4, .inl rsv)), (mf, .inl (cL, 4, .inr (.inl fx))), (ml, .inl (cI, 4, .inl lo)), (mm, .inl (cI, 4, .inl hi)), (mg, .inl (cI, 24, .inl wt)), (md, .inl (cI, 6, .inl bd))] sz)) 0 0 (va_A [(o, .inr (7, [.int thr, .int (nI n), .ref ml, .ref mm, .ref mw, .ref mc, .int (nI k), .ref mg, .ref md, .int so, .int fo, .ref mb, .long bb, .long bc, .ref mt, .long be, .ref mr, .int (nI rs), .ref mo, .int (nI rc), .ref mx, .ref mp, .ref nk, .ref na, .ref nv, .ref nf, .ref ns, .ref ne, .ref nw, .ref mf])), (mo, .inl (cL, 70, .inr (.inl R))), (mr, .inl (cI, 4, .inl rsv)), (mf, .inl (cL, 4, .inr (.inl fx))), (ml, .inl (cI, 4, .inl lo)), (mm, .inl (cI, 4, .inl hi)), (mg, .inl (cI, 24, .inl wt)), (md, .inl (cI, 6, .inl bd))] sz) := by
  refine Met.ofW (cc := bb_Model_makeRows) (maxL := 6) (ret := none) (by decide) rfl ?_
  intro p e s m args below meth c s₁ B hml hv
  obtain ⟨rfl, hsz, hP, hK, hD0⟩ := hv
  have hx := B.exec
  have hb := B.bytes
  have hr := B.returns
  have hts := atoms_spec (ws := ww_Model_makeRows) B.pre
  have hown : s.vm.findClass RR_Model = some m.cls := findClass_of_methodNamed B.named
  have hlocks := B.notSynchronized
  subst hsz
  have hD := hD0.self (sz := s.heap.size)
  generalize hAe : va_A [(o, .inr (7, [.int thr, .int (nI n), .ref ml, .ref mm, .ref mw, .ref mc, .int (nI k), .ref mg, .ref md, .int so, .int fo, .ref mb, .long bb, .long bc, .ref mt, .long be, .ref mr, .int (nI rs), .ref mo, .int (nI rc), .ref mx, .ref mp, .ref nk, .ref na, .ref nv, .ref nf, .ref ns, .ref ne, .ref nw, .ref mf])), (mo, .inl (cL, 70, .inr (.inl R))), (mr, .inl (cI, 4, .inl rsv)), (mf, .inl (cL, 4, .inr (.inl fx))), (ml, .inl (cI, 4, .inl lo)), (mm, .inl (cI, 4, .inl hi)), (mg, .inl (cI, 24, .inl wt)), (md, .inl (cI, 6, .inl bd))] s.heap.size = A at hD ⊢
  have hA : ∀ q : Nat, s.heap.size ≤ q → A q := fun q h => by rw [← hAe]; exact Or.inr h
  have hS : va_S A s.heap s.heap [] := va_S.rf
  have hP : va_P D kc_all [(o, .inr (7, [.int thr, .int (nI n), .ref ml, .ref mm, .ref mw, .ref mc, .int (nI k), .ref mg, .ref md, .int so, .int fo, .ref mb, .long bb, .long bc, .ref mt, .long be, .ref mr, .int (nI rs), .ref mo, .int (nI rc), .ref mx, .ref mp, .ref nk, .ref na, .ref nv, .ref nf, .ref ns, .ref ne, .ref nw, .ref mf])), (mo, .inl (cL, 70, .inr (.inl R))), (mr, .inl (cI, 4, .inl rsv)), (mf, .inl (cL, 4, .inr (.inl fx))), (ml, .inl (cI, 4, .inl lo)), (mm, .inl (cI, 4, .inl hi)), (mg, .inl (cI, 24, .inl wt)), (md, .inl (cI, 6, .inl bd))] s.heap := hP
  have hl := lv_entry ([.ref o, .ref mf]) (n := 6) (Nat.le_of_ble_eq_true rfl)
  rw [lg_entry_eq]
  generalize (lg_sl ([.ref o, .ref mf]) ++ List.replicate (6 - (lg_sl ([.ref o, .ref mf])).length) Slot.unset).toArray = ls at hl ⊢
  have hl : lv_has ls 6 [(0, .ref o), (1, .ref mf)] := hl
  have htb : ∀ w ∈ tb_all, w.before ([.ref o, .ref mf]).toArray s = true := fun w h => hts w (List.mem_cons_of_mem _ h)
  have hf_7 := htb _ fl_Model_7
  have hf_13 := htb _ fl_Model_13
  have hf_17 := htb _ fl_Model_17
  have hf_27 := htb _ fl_Model_27
  have hf_30 := htb _ fl_Model_30
  have hf_40 := htb _ fl_Model_40
  have hf_43 := htb _ fl_Model_43
  have hf_83 := htb _ fl_Model_83
  have hf_111 := htb _ fl_Model_111
  have hf_127 := htb _ fl_Model_127
  refine lv_aload_n hx hb dd_Model_makeRows_0 rfl (lv_at hl 0 rfl) ?_
  refine lv_iconst (v := 0) hx hb dd_Model_makeRows_1 (by decide) ?_
  refine va_put (D := D) (ci := 7) (v := .int (0 : Int32)) (ty := .int) (C := RR_Model) (T := FF_Model) (N := 30) hx hb htb hi_Model tt_Model tt_Model_ok nn_Model hown hK hP hD hS 0 rfl rfl 19 (by decide) hf_127 (fun _ h9 => h9) rfl (by decide +kernel) (rfl) (rfl) (Nat.le_of_ble_eq_true rfl) dd_Model_makeRows_2 (fun H locs hP hD hS => ?_)
  have hP : va_P D kc_all [(o, .inr (7, [.int thr, .int (nI n), .ref ml, .ref mm, .ref mw, .ref mc, .int (nI k), .ref mg, .ref md, .int so, .int fo, .ref mb, .long bb, .long bc, .ref mt, .long be, .ref mr, .int (nI rs), .ref mo, .int (0 : Int32), .ref mx, .ref mp, .ref nk, .ref na, .ref nv, .ref nf, .ref ns, .ref ne, .ref nw, .ref mf])), (mo, .inl (cL, 70, .inr (.inl R))), (mr, .inl (cI, 4, .inl rsv)), (mf, .inl (cL, 4, .inr (.inl fx))), (ml, .inl (cI, 4, .inl lo)), (mm, .inl (cI, 4, .inl hi)), (mg, .inl (cI, 24, .inl wt)), (md, .inl (cI, 6, .inl bd))] H := hP
  have hD : va_D A [(o, .inr (7, [.int thr, .int (nI n), .ref ml, .ref mm, .ref mw, .ref mc, .int (nI k), .ref mg, .ref md, .int so, .int fo, .ref mb, .long bb, .long bc, .ref mt, .long be, .ref mr, .int (nI rs), .ref mo, .int (0 : Int32), .ref mx, .ref mp, .ref nk, .ref na, .ref nv, .ref nf, .ref ns, .ref ne, .ref nw, .ref mf])), (mo, .inl (cL, 70, .inr (.inl R))), (mr, .inl (cI, 4, .inl rsv)), (mf, .inl (cL, 4, .inr (.inl fx))), (ml, .inl (cI, 4, .inl lo)), (mm, .inl (cI, 4, .inl hi)), (mg, .inl (cI, 24, .inl wt)), (md, .inl (cI, 6, .inl bd))] := hD
  refine lv_iconst (v := 0) hx hb dd_Model_makeRows_5 (by decide) ?_
  refine lv_istore_n (lv' := [(2, .int (0 : Int32)), (0, .ref o), (1, .ref mf)]) hx hb dd_Model_makeRows_6 rfl hl (by decide) rfl (fun ls hl => ?_)
  have J7 : ∀ (N : Nat) (t0 : Nat) (R2 : Nat → Int64), (2 * rs - t0) < N → ∀ (ht0 : t0 ≤ 2 * rs) (hv : pf_ok R2 (mk_R lo hi wt bd fx re rs n) (5 * t0)), ∀ (ls : Array Slot) (H : Heap) (locs : List Loc), lv_has ls 6 [(0, .ref o), (1, .ref mf), (2, .int (nI t0))] → va_P D kc_all [(o, .inr (7, [.int thr, .int (nI n), .ref ml, .ref mm, .ref mw, .ref mc, .int (nI k), .ref mg, .ref md, .int so, .int fo, .ref mb, .long bb, .long bc, .ref mt, .long be, .ref mr, .int (nI rs), .ref mo, .int (nI t0), .ref mx, .ref mp, .ref nk, .ref na, .ref nv, .ref nf, .ref ns, .ref ne, .ref nw, .ref mf])), (mo, .inl (cL, 70, .inr (.inl R2))), (mr, .inl (cI, 4, .inl rsv)), (mf, .inl (cL, 4, .inr (.inl fx))), (ml, .inl (cI, 4, .inl lo)), (mm, .inl (cI, 4, .inl hi)), (mg, .inl (cI, 24, .inl wt)), (md, .inl (cI, 6, .inl bd))] H → va_D A [(o, .inr (7, [.int thr, .int (nI n), .ref ml, .ref mm, .ref mw, .ref mc, .int (nI k), .ref mg, .ref md, .int so, .int fo, .ref mb, .long bb, .long bc, .ref mt, .long be, .ref mr, .int (nI rs), .ref mo, .int (nI t0), .ref mx, .ref mp, .ref nk, .ref na, .ref nv, .ref nf, .ref ns, .ref ne, .ref nw, .ref mf])), (mo, .inl (cL, 70, .inr (.inl R2))), (mr, .inl (cI, 4, .inl rsv)), (mf, .inl (cL, 4, .inr (.inl fx))), (ml, .inl (cI, 4, .inl lo)), (mm, .inl (cI, 4, .inl hi)), (mg, .inl (cI, 24, .inl wt)), (md, .inl (cI, 6, .inl bd))] → va_S A s.heap H locs → W p l e (headSpec ww_Model_makeRows ({ frames := 0, cells := 0, slots := 0, locals := 0 } : Room)).room s m ([.ref o, .ref mf]).toArray below meth c H locs 0 0 (MQ below (qq_Model_makeRows D cI cZ cL cQ o ml mm mw mc mg md mb mt mr mo mx mp nk na nv nf ns ne nw mf thr n k so fo bb bc be rs rc R rsv fx lo hi wt bd re A) ([.ref o, .ref mf]).toArray s 0 0 A) (F0 m 7 ls []) := by
    intro N
    induction N with
    | zero => intro t0 R2 hN9; exact absurd hN9 (Nat.not_lt_zero _)
    | succ N IH7 =>
      intro t0 R2 hN9 ht0 hv ls H locs hl hP hD hS
      refine lv_iload_n hx hb dd_Model_makeRows_7 rfl (lv_at hl 2 rfl) ?_
      refine lv_iconst (v := 2) hx hb dd_Model_makeRows_8 (by decide) ?_
      refine lv_aload_n hx hb dd_Model_makeRows_9 rfl (lv_at hl 0 rfl) ?_
      refine va_get (D := D) (ci := 7) (v := .int (nI rs)) (C := RR_Model) (T := FF_Model) (N := 30) hx hb htb hi_Model hown hK hP 0 rfl rfl 17 (by decide) hf_111 (fun _ h9 => h9) rfl dd_Model_makeRows_10 ?_
      refine lv_imul hx hb dd_Model_makeRows_13 ?_
      refine mm_topi (y := nI (2 * rs)) (pk_mul 2 rs) ?_
      refine lv_icmp_ge (tgt := 121) hx hb dd_Model_makeRows_14 (by decide) (fun h14 => ?_) (fun h14 => ?_)
      · skip
        have h14 : 2 * rs ≤ t0 := (nI_leI (a := 2 * rs) (b := t0) (by omega) (by omega)).mp h14
        refine lv_iconst (v := 0) hx hb dd_Model_makeRows_121 (by decide) ?_
        refine lv_istore_n (lv' := [(2, .int (0 : Int32)), (0, .ref o), (1, .ref mf)]) hx hb dd_Model_makeRows_122 rfl hl (by decide) rfl (fun ls hl => ?_)
        have J123 : ∀ (N : Nat) (i0 : Nat) (rc9 : Nat) (R5 : Nat → Int64), (k - i0) < N → ∀ (hi0 : i0 ≤ k ∧ rc9 = 2 * rs + i0) (hx2 : pf_ok R5 (mk_R lo hi wt bd fx re rs n) (5 * rc9)), ∀ (ls : Array Slot) (H : Heap) (locs : List Loc), lv_has ls 6 [(0, .ref o), (1, .ref mf), (2, .int (nI i0))] → va_P D kc_all [(o, .inr (7, [.int thr, .int (nI n), .ref ml, .ref mm, .ref mw, .ref mc, .int (nI k), .ref mg, .ref md, .int so, .int fo, .ref mb, .long bb, .long bc, .ref mt, .long be, .ref mr, .int (nI rs), .ref mo, .int (nI rc9), .ref mx, .ref mp, .ref nk, .ref na, .ref nv, .ref nf, .ref ns, .ref ne, .ref nw, .ref mf])), (mo, .inl (cL, 70, .inr (.inl R5))), (mr, .inl (cI, 4, .inl rsv)), (mf, .inl (cL, 4, .inr (.inl fx))), (ml, .inl (cI, 4, .inl lo)), (mm, .inl (cI, 4, .inl hi)), (mg, .inl (cI, 24, .inl wt)), (md, .inl (cI, 6, .inl bd))] H → va_D A [(o, .inr (7, [.int thr, .int (nI n), .ref ml, .ref mm, .ref mw, .ref mc, .int (nI k), .ref mg, .ref md, .int so, .int fo, .ref mb, .long bb, .long bc, .ref mt, .long be, .ref mr, .int (nI rs), .ref mo, .int (nI rc9), .ref mx, .ref mp, .ref nk, .ref na, .ref nv, .ref nf, .ref ns, .ref ne, .ref nw, .ref mf])), (mo, .inl (cL, 70, .inr (.inl R5))), (mr, .inl (cI, 4, .inl rsv)), (mf, .inl (cL, 4, .inr (.inl fx))), (ml, .inl (cI, 4, .inl lo)), (mm, .inl (cI, 4, .inl hi)), (mg, .inl (cI, 24, .inl wt)), (md, .inl (cI, 6, .inl bd))] → va_S A s.heap H locs → W p l e (headSpec ww_Model_makeRows ({ frames := 0, cells := 0, slots := 0, locals := 0 } : Room)).room s m ([.ref o, .ref mf]).toArray below meth c H locs 0 0 (MQ below (qq_Model_makeRows D cI cZ cL cQ o ml mm mw mc mg md mb mt mr mo mx mp nk na nv nf ns ne nw mf thr n k so fo bb bc be rs rc R rsv fx lo hi wt bd re A) ([.ref o, .ref mf]).toArray s 0 0 A) (F0 m 123 ls []) := by
          intro N
          induction N with
          | zero => intro i0 rc9 R5 hN9; exact absurd hN9 (Nat.not_lt_zero _)
          | succ N IH123 =>
            intro i0 rc9 R5 hN9 hi0 hx2 ls H locs hl hP hD hS
            refine lv_iload_n hx hb dd_Model_makeRows_123 rfl (lv_at hl 2 rfl) ?_
            refine lv_aload_n hx hb dd_Model_makeRows_124 rfl (lv_at hl 0 rfl) ?_
            refine va_get (D := D) (ci := 7) (v := .int (nI k)) (C := RR_Model) (T := FF_Model) (N := 30) hx hb htb hi_Model hown hK hP 0 rfl rfl 6 (by decide) hf_83 (fun _ h9 => h9) rfl dd_Model_makeRows_125 ?_
            refine lv_icmp_ge (tgt := 266) hx hb dd_Model_makeRows_128 (by decide) (fun h128 => ?_) (fun h128 => ?_)
            · skip
              have h128 : k ≤ i0 := (nI_leI (a := k) (b := i0) (by omega) (by omega)).mp h128
              exact W.vret hx hb hr (fun t ht hW => ⟨⟨(rc9, R5), rfl, ⟨by omega, hx2⟩, by rw [ht]; exact hP, va_K.moved hW.alike hK, hD⟩, hS.F ht⟩) hS.2.2 dd_Model_makeRows_266
            · skip
              have h128 : ¬ (k ≤ i0) := fun q9 => h128 ((nI_leI (a := k) (b := i0) (by omega) (by omega)).mpr q9)
              refine lv_aload_n hx hb dd_Model_makeRows_131 rfl (lv_at hl 0 rfl) ?_
              refine va_get (D := D) (ci := 7) (v := .ref md) (C := RR_Model) (T := FF_Model) (N := 30) hx hb htb hi_Model hown hK hP 0 rfl rfl 8 (by decide) hf_30 (fun _ h9 => h9) rfl dd_Model_makeRows_132 ?_
              refine lv_iload_n hx hb dd_Model_makeRows_135 rfl (lv_at hl 2 rfl) ?_
              refine mm_iald hx hb hK hP 7 0 rfl rfl (i0) (rfl) (by omega) (by first | decide | omega) dd_Model_makeRows_136 ?_
              refine lv_i2l (v := (bd i0).toInt64) hx hb dd_Model_makeRows_137 rfl ?_
              refine lv_lstore_n (lv' := [(3, .long ((bd i0).toInt64)), (0, .ref o), (1, .ref mf), (2, .int (nI i0))]) hx hb dd_Model_makeRows_138 rfl hl (by decide) rfl (fun ls hl => ?_)
              refine lv_iconst (v := 0) hx hb dd_Model_makeRows_139 (by decide) ?_
              refine lv_istore (lv' := [(5, .int (0 : Int32)), (3, .long ((bd i0).toInt64)), (0, .ref o), (1, .ref mf), (2, .int (nI i0))]) hx hb dd_Model_makeRows_140 hl (by decide) rfl (fun ls hl => ?_)
              have J142 : ∀ (N : Nat) (j : Nat), (n - j) < N → ∀ (hj : j ≤ n), ∀ (ls : Array Slot) (H : Heap) (locs : List Loc), lv_has ls 6 [(0, .ref o), (1, .ref mf), (2, .int (nI i0)), (3, .long (lf_f wt bd fx i0 j)), (5, .int (nI j))] → va_P D kc_all [(o, .inr (7, [.int thr, .int (nI n), .ref ml, .ref mm, .ref mw, .ref mc, .int (nI k), .ref mg, .ref md, .int so, .int fo, .ref mb, .long bb, .long bc, .ref mt, .long be, .ref mr, .int (nI rs), .ref mo, .int (nI rc9), .ref mx, .ref mp, .ref nk, .ref na, .ref nv, .ref nf, .ref ns, .ref ne, .ref nw, .ref mf])), (mo, .inl (cL, 70, .inr (.inl R5))), (mr, .inl (cI, 4, .inl rsv)), (mf, .inl (cL, 4, .inr (.inl fx))), (ml, .inl (cI, 4, .inl lo)), (mm, .inl (cI, 4, .inl hi)), (mg, .inl (cI, 24, .inl wt)), (md, .inl (cI, 6, .inl bd))] H → va_D A [(o, .inr (7, [.int thr, .int (nI n), .ref ml, .ref mm, .ref mw, .ref mc, .int (nI k), .ref mg, .ref md, .int so, .int fo, .ref mb, .long bb, .long bc, .ref mt, .long be, .ref mr, .int (nI rs), .ref mo, .int (nI rc9), .ref mx, .ref mp, .ref nk, .ref na, .ref nv, .ref nf, .ref ns, .ref ne, .ref nw, .ref mf])), (mo, .inl (cL, 70, .inr (.inl R5))), (mr, .inl (cI, 4, .inl rsv)), (mf, .inl (cL, 4, .inr (.inl fx))), (ml, .inl (cI, 4, .inl lo)), (mm, .inl (cI, 4, .inl hi)), (mg, .inl (cI, 24, .inl wt)), (md, .inl (cI, 6, .inl bd))] → va_S A s.heap H locs → W p l e (headSpec ww_Model_makeRows ({ frames := 0, cells := 0, slots := 0, locals := 0 } : Room)).room s m ([.ref o, .ref mf]).toArray below meth c H locs 0 0 (MQ below (qq_Model_makeRows D cI cZ cL cQ o ml mm mw mc mg md mb mt mr mo mx mp nk na nv nf ns ne nw mf thr n k so fo bb bc be rs rc R rsv fx lo hi wt bd re A) ([.ref o, .ref mf]).toArray s 0 0 A) (F0 m 142 ls []) := by
                intro N
                induction N with
                | zero => intro j hN9; exact absurd hN9 (Nat.not_lt_zero _)
                | succ N IH142 =>
                  intro j hN9 hj ls H locs hl hP hD hS
                  refine lv_iload hx hb dd_Model_makeRows_142 (lv_at hl 4 rfl) ?_
                  refine lv_aload_n hx hb dd_Model_makeRows_144 rfl (lv_at hl 0 rfl) ?_
                  refine va_get (D := D) (ci := 7) (v := .int (nI n)) (C := RR_Model) (T := FF_Model) (N := 30) hx hb htb hi_Model hown hK hP 0 rfl rfl 1 (by decide) hf_7 (fun _ h9 => h9) rfl dd_Model_makeRows_145 ?_
                  refine lv_icmp_ge (tgt := 177) hx hb dd_Model_makeRows_148 (by decide) (fun h148 => ?_) (fun h148 => ?_)
                  · skip
                    have h148 : n ≤ j := (nI_leI (a := n) (b := j) (by omega) (by omega)).mp h148
                    refine lv_iconst (v := 0) hx hb dd_Model_makeRows_177 (by decide) ?_
                    refine lv_istore (lv' := [(5, .int (0 : Int32)), (0, .ref o), (1, .ref mf), (2, .int (nI i0)), (3, .long (lf_f wt bd fx i0 j))]) hx hb dd_Model_makeRows_178 hl (by decide) rfl (fun ls hl => ?_)
                    have J180 : ∀ (N : Nat) (c0 : Nat) (R6 : Nat → Int64), (4 - c0) < N → ∀ (hc0 : c0 ≤ 4) (hy : pf_ok R6 (mk_R lo hi wt bd fx re rs n) (5 * rc9 + c0)), ∀ (ls : Array Slot) (H : Heap) (locs : List Loc), lv_has ls 6 [(0, .ref o), (1, .ref mf), (2, .int (nI i0)), (3, .long (lf_f wt bd fx i0 n)), (5, .int (nI c0))] → va_P D kc_all [(o, .inr (7, [.int thr, .int (nI n), .ref ml, .ref mm, .ref mw, .ref mc, .int (nI k), .ref mg, .ref md, .int so, .int fo, .ref mb, .long bb, .long bc, .ref mt, .long be, .ref mr, .int (nI rs), .ref mo, .int (nI rc9), .ref mx, .ref mp, .ref nk, .ref na, .ref nv, .ref nf, .ref ns, .ref ne, .ref nw, .ref mf])), (mo, .inl (cL, 70, .inr (.inl R6))), (mr, .inl (cI, 4, .inl rsv)), (mf, .inl (cL, 4, .inr (.inl fx))), (ml, .inl (cI, 4, .inl lo)), (mm, .inl (cI, 4, .inl hi)), (mg, .inl (cI, 24, .inl wt)), (md, .inl (cI, 6, .inl bd))] H → va_D A [(o, .inr (7, [.int thr, .int (nI n), .ref ml, .ref mm, .ref mw, .ref mc, .int (nI k), .ref mg, .ref md, .int so, .int fo, .ref mb, .long bb, .long bc, .ref mt, .long be, .ref mr, .int (nI rs), .ref mo, .int (nI rc9), .ref mx, .ref mp, .ref nk, .ref na, .ref nv, .ref nf, .ref ns, .ref ne, .ref nw, .ref mf])), (mo, .inl (cL, 70, .inr (.inl R6))), (mr, .inl (cI, 4, .inl rsv)), (mf, .inl (cL, 4, .inr (.inl fx))), (ml, .inl (cI, 4, .inl lo)), (mm, .inl (cI, 4, .inl hi)), (mg, .inl (cI, 24, .inl wt)), (md, .inl (cI, 6, .inl bd))] → va_S A s.heap H locs → W p l e (headSpec ww_Model_makeRows ({ frames := 0, cells := 0, slots := 0, locals := 0 } : Room)).room s m ([.ref o, .ref mf]).toArray below meth c H locs 0 0 (MQ below (qq_Model_makeRows D cI cZ cL cQ o ml mm mw mc mg md mb mt mr mo mx mp nk na nv nf ns ne nw mf thr n k so fo bb bc be rs rc R rsv fx lo hi wt bd re A) ([.ref o, .ref mf]).toArray s 0 0 A) (F0 m 180 ls []) := by
                      intro N
                      induction N with
                      | zero => intro c0 R6 hN9; exact absurd hN9 (Nat.not_lt_zero _)
                      | succ N IH180 =>
                        intro c0 R6 hN9 hc0 hy ls H locs hl hP hD hS
                        refine lv_iload hx hb dd_Model_makeRows_180 (lv_at hl 4 rfl) ?_
                        refine lv_iconst (v := 4) hx hb dd_Model_makeRows_182 (by decide) ?_
                        refine lv_icmp_ge (tgt := 236) hx hb dd_Model_makeRows_183 (by decide) (fun h183 => ?_) (fun h183 => ?_)
                        · skip
                          have h183 : 4 ≤ c0 := (nI_leI (a := 4) (b := c0) (by omega) (by omega)).mp h183
                          have hy4 : pf_ok R6 (mk_R lo hi wt bd fx re rs n) (5 * rc9 + 4) := by rw [show 4 = c0 by omega]; exact hy
                          refine lv_aload_n hx hb dd_Model_makeRows_236 rfl (lv_at hl 0 rfl) ?_
                          refine va_get (D := D) (ci := 7) (v := .ref mo) (C := RR_Model) (T := FF_Model) (N := 30) hx hb htb hi_Model hown hK hP 0 rfl rfl 18 (by decide) hf_43 (fun _ h9 => h9) rfl dd_Model_makeRows_237 ?_
                          refine lv_iconst (v := 5) hx hb dd_Model_makeRows_240 (by decide) ?_
                          refine lv_aload_n hx hb dd_Model_makeRows_241 rfl (lv_at hl 0 rfl) ?_
                          refine va_get (D := D) (ci := 7) (v := .int (nI rc9)) (C := RR_Model) (T := FF_Model) (N := 30) hx hb htb hi_Model hown hK hP 0 rfl rfl 19 (by decide) hf_127 (fun _ h9 => h9) rfl dd_Model_makeRows_242 ?_
                          refine lv_imul hx hb dd_Model_makeRows_245 ?_
                          refine mm_topi (y := nI (5 * rc9)) (pk_mul 5 rc9) ?_
                          refine lv_iconst (v := 4) hx hb dd_Model_makeRows_246 (by decide) ?_
                          refine lv_iadd hx hb dd_Model_makeRows_247 ?_
                          refine mm_topi (y := nI ((5 * rc9) + 4)) (nI_add (5 * rc9) 4) ?_
                          refine lv_lload_n hx hb dd_Model_makeRows_248 rfl (lv_at hl 3 rfl) ?_
                          refine mm_topl (y := mk_R lo hi wt bd fx re rs n (5 * rc9 + 4)) (mk_b hi0.2) ?_
                          refine mm_last hx hb hK hP hD hS 1 2 rfl rfl ((5 * rc9) + 4) (rfl) (by omega) (by first | decide | omega) dd_Model_makeRows_249 (fun H locs hP hD hS => ?_)
                          have hP : va_P D kc_all [(o, .inr (7, [.int thr, .int (nI n), .ref ml, .ref mm, .ref mw, .ref mc, .int (nI k), .ref mg, .ref md, .int so, .int fo, .ref mb, .long bb, .long bc, .ref mt, .long be, .ref mr, .int (nI rs), .ref mo, .int (nI rc9), .ref mx, .ref mp, .ref nk, .ref na, .ref nv, .ref nf, .ref ns, .ref ne, .ref nw, .ref mf])), (mo, .inl (cL, 70, .inr (.inl (vp_updL R6 ((5 * rc9) + 4) (mk_R lo hi wt bd fx re rs n (5 * rc9 + 4)))))), (mr, .inl (cI, 4, .inl rsv)), (mf, .inl (cL, 4, .inr (.inl fx))), (ml, .inl (cI, 4, .inl lo)), (mm, .inl (cI, 4, .inl hi)), (mg, .inl (cI, 24, .inl wt)), (md, .inl (cI, 6, .inl bd))] H := hP
                          have hD : va_D A [(o, .inr (7, [.int thr, .int (nI n), .ref ml, .ref mm, .ref mw, .ref mc, .int (nI k), .ref mg, .ref md, .int so, .int fo, .ref mb, .long bb, .long bc, .ref mt, .long be, .ref mr, .int (nI rs), .ref mo, .int (nI rc9), .ref mx, .ref mp, .ref nk, .ref na, .ref nv, .ref nf, .ref ns, .ref ne, .ref nw, .ref mf])), (mo, .inl (cL, 70, .inr (.inl (vp_updL R6 ((5 * rc9) + 4) (mk_R lo hi wt bd fx re rs n (5 * rc9 + 4)))))), (mr, .inl (cI, 4, .inl rsv)), (mf, .inl (cL, 4, .inr (.inl fx))), (ml, .inl (cI, 4, .inl lo)), (mm, .inl (cI, 4, .inl hi)), (mg, .inl (cI, 24, .inl wt)), (md, .inl (cI, 6, .inl bd))] := hD
                          refine lv_aload_n hx hb dd_Model_makeRows_250 rfl (lv_at hl 0 rfl) ?_
                          refine lv_dup hx hb dd_Model_makeRows_251 rfl ?_
                          refine va_get (D := D) (ci := 7) (v := .int (nI rc9)) (C := RR_Model) (T := FF_Model) (N := 30) hx hb htb hi_Model hown hK hP 0 rfl rfl 19 (by decide) hf_127 (fun _ h9 => h9) rfl dd_Model_makeRows_252 ?_
                          refine lv_iconst (v := 1) hx hb dd_Model_makeRows_255 (by decide) ?_
                          refine lv_iadd hx hb dd_Model_makeRows_256 ?_
                          refine mm_topi (y := nI (rc9 + 1)) (nI_add rc9 1) ?_
                          refine va_put (D := D) (ci := 7) (v := .int (nI (rc9 + 1))) (ty := .int) (C := RR_Model) (T := FF_Model) (N := 30) hx hb htb hi_Model tt_Model tt_Model_ok nn_Model hown hK hP hD hS 0 rfl rfl 19 (by decide) hf_127 (fun _ h9 => h9) rfl (by decide +kernel) (rfl) (rfl) (Nat.le_of_ble_eq_true rfl) dd_Model_makeRows_257 (fun H locs hP hD hS => ?_)
                          have hP : va_P D kc_all [(o, .inr (7, [.int thr, .int (nI n), .ref ml, .ref mm, .ref mw, .ref mc, .int (nI k), .ref mg, .ref md, .int so, .int fo, .ref mb, .long bb, .long bc, .ref mt, .long be, .ref mr, .int (nI rs), .ref mo, .int (nI (rc9 + 1)), .ref mx, .ref mp, .ref nk, .ref na, .ref nv, .ref nf, .ref ns, .ref ne, .ref nw, .ref mf])), (mo, .inl (cL, 70, .inr (.inl (vp_updL R6 ((5 * rc9) + 4) (mk_R lo hi wt bd fx re rs n (5 * rc9 + 4)))))), (mr, .inl (cI, 4, .inl rsv)), (mf, .inl (cL, 4, .inr (.inl fx))), (ml, .inl (cI, 4, .inl lo)), (mm, .inl (cI, 4, .inl hi)), (mg, .inl (cI, 24, .inl wt)), (md, .inl (cI, 6, .inl bd))] H := hP
                          have hD : va_D A [(o, .inr (7, [.int thr, .int (nI n), .ref ml, .ref mm, .ref mw, .ref mc, .int (nI k), .ref mg, .ref md, .int so, .int fo, .ref mb, .long bb, .long bc, .ref mt, .long be, .ref mr, .int (nI rs), .ref mo, .int (nI (rc9 + 1)), .ref mx, .ref mp, .ref nk, .ref na, .ref nv, .ref nf, .ref ns, .ref ne, .ref nw, .ref mf])), (mo, .inl (cL, 70, .inr (.inl (vp_updL R6 ((5 * rc9) + 4) (mk_R lo hi wt bd fx re rs n (5 * rc9 + 4)))))), (mr, .inl (cI, 4, .inl rsv)), (mf, .inl (cL, 4, .inr (.inl fx))), (ml, .inl (cI, 4, .inl lo)), (mm, .inl (cI, 4, .inl hi)), (mg, .inl (cI, 24, .inl wt)), (md, .inl (cI, 6, .inl bd))] := hD
                          refine lv_iinc (k := 2) (v := nI (i0 + 1)) (lv' := [(2, .int (nI (i0 + 1))), (0, .ref o), (1, .ref mf), (3, .long (lf_f wt bd fx i0 n)), (5, .int (nI c0))]) hx hb dd_Model_makeRows_260 hl rfl (nI_1 _) (by decide) rfl (fun ls hl => ?_)
                          refine lv_goto (tgt := 123) hx hb dd_Model_makeRows_263 (by decide) ?_
                          exact IH123 (i0 + 1) (rc9 + 1) (vp_updL R6 ((5 * rc9) + 4) (mk_R lo hi wt bd fx re rs n (5 * rc9 + 4))) (by omega) (by omega) (pf_s hy4) ls H locs (lv_sub hl [1, 2, 0] rfl) hP hD hS
                        · skip
                          have h183 : ¬ (4 ≤ c0) := fun q9 => h183 ((nI_leI (a := 4) (b := c0) (by omega) (by omega)).mpr q9)
                          refine lv_aload_n hx hb dd_Model_makeRows_186 rfl (lv_at hl 0 rfl) ?_
                          refine va_get (D := D) (ci := 7) (v := .ref mo) (C := RR_Model) (T := FF_Model) (N := 30) hx hb htb hi_Model hown hK hP 0 rfl rfl 18 (by decide) hf_43 (fun _ h9 => h9) rfl dd_Model_makeRows_187 ?_
                          refine lv_iconst (v := 5) hx hb dd_Model_makeRows_190 (by decide) ?_
                          refine lv_aload_n hx hb dd_Model_makeRows_191 rfl (lv_at hl 0 rfl) ?_
                          refine va_get (D := D) (ci := 7) (v := .int (nI rc9)) (C := RR_Model) (T := FF_Model) (N := 30) hx hb htb hi_Model hown hK hP 0 rfl rfl 19 (by decide) hf_127 (fun _ h9 => h9) rfl dd_Model_makeRows_192 ?_
                          refine lv_imul hx hb dd_Model_makeRows_195 ?_
                          refine mm_topi (y := nI (5 * rc9)) (pk_mul 5 rc9) ?_
                          refine lv_iload hx hb dd_Model_makeRows_196 (lv_at hl 4 rfl) ?_
                          refine lv_iadd hx hb dd_Model_makeRows_198 ?_
                          refine mm_topi (y := nI ((5 * rc9) + c0)) (nI_add (5 * rc9) c0) ?_
                          refine lv_iload hx hb dd_Model_makeRows_199 (lv_at hl 4 rfl) ?_
                          refine lv_aload_n hx hb dd_Model_makeRows_201 rfl (lv_at hl 0 rfl) ?_
                          refine va_get (D := D) (ci := 7) (v := .int (nI rs)) (C := RR_Model) (T := FF_Model) (N := 30) hx hb htb hi_Model hown hK hP 0 rfl rfl 17 (by decide) hf_111 (fun _ h9 => h9) rfl dd_Model_makeRows_202 ?_
                          refine lv_icmp_ge (tgt := 228) hx hb dd_Model_makeRows_205 (by decide) (fun h205 => ?_) (fun h205 => ?_)
                          · skip
                            have h205 : rs ≤ c0 := (nI_leI (a := rs) (b := c0) (by omega) (by omega)).mp h205
                            refine lv_lconst (v := 0) hx hb dd_Model_makeRows_228 (by decide) ?_
                            refine mm_topl (y := mk_R lo hi wt bd fx re rs n (5 * rc9 + c0)) (by first | exact mk_w hi0.2 (by omega) h205 | exact mk_n (by omega) (by omega) h205) ?_
                            refine mm_last hx hb hK hP hD hS 1 2 rfl rfl ((5 * rc9) + c0) (rfl) (by omega) (by first | decide | omega) dd_Model_makeRows_229 (fun H locs hP hD hS => ?_)
                            have hP : va_P D kc_all [(o, .inr (7, [.int thr, .int (nI n), .ref ml, .ref mm, .ref mw, .ref mc, .int (nI k), .ref mg, .ref md, .int so, .int fo, .ref mb, .long bb, .long bc, .ref mt, .long be, .ref mr, .int (nI rs), .ref mo, .int (nI rc9), .ref mx, .ref mp, .ref nk, .ref na, .ref nv, .ref nf, .ref ns, .ref ne, .ref nw, .ref mf])), (mo, .inl (cL, 70, .inr (.inl (vp_updL R6 ((5 * rc9) + c0) (mk_R lo hi wt bd fx re rs n (5 * rc9 + c0)))))), (mr, .inl (cI, 4, .inl rsv)), (mf, .inl (cL, 4, .inr (.inl fx))), (ml, .inl (cI, 4, .inl lo)), (mm, .inl (cI, 4, .inl hi)), (mg, .inl (cI, 24, .inl wt)), (md, .inl (cI, 6, .inl bd))] H := hP
                            have hD : va_D A [(o, .inr (7, [.int thr, .int (nI n), .ref ml, .ref mm, .ref mw, .ref mc, .int (nI k), .ref mg, .ref md, .int so, .int fo, .ref mb, .long bb, .long bc, .ref mt, .long be, .ref mr, .int (nI rs), .ref mo, .int (nI rc9), .ref mx, .ref mp, .ref nk, .ref na, .ref nv, .ref nf, .ref ns, .ref ne, .ref nw, .ref mf])), (mo, .inl (cL, 70, .inr (.inl (vp_updL R6 ((5 * rc9) + c0) (mk_R lo hi wt bd fx re rs n (5 * rc9 + c0)))))), (mr, .inl (cI, 4, .inl rsv)), (mf, .inl (cL, 4, .inr (.inl fx))), (ml, .inl (cI, 4, .inl lo)), (mm, .inl (cI, 4, .inl hi)), (mg, .inl (cI, 24, .inl wt)), (md, .inl (cI, 6, .inl bd))] := hD
                            refine lv_iinc (k := 4) (v := nI (c0 + 1)) (lv' := [(5, .int (nI (c0 + 1))), (0, .ref o), (1, .ref mf), (2, .int (nI i0)), (3, .long (lf_f wt bd fx i0 n))]) hx hb dd_Model_makeRows_230 hl rfl (nI_1 _) (by decide) rfl (fun ls hl => ?_)
                            refine lv_goto (tgt := 180) hx hb dd_Model_makeRows_233 (by decide) ?_
                            exact IH180 (c0 + 1) (vp_updL R6 ((5 * rc9) + c0) (mk_R lo hi wt bd fx re rs n (5 * rc9 + c0))) (by omega) (by omega) (pf_s hy) ls H locs (lv_sub hl [1, 2, 3, 4, 0] rfl) hP hD hS
                          · skip
                            have h205 : ¬ (rs ≤ c0) := fun q9 => h205 ((nI_leI (a := rs) (b := c0) (by omega) (by omega)).mpr q9)
                            refine lv_aload_n hx hb dd_Model_makeRows_208 rfl (lv_at hl 0 rfl) ?_
                            refine va_get (D := D) (ci := 7) (v := .ref mg) (C := RR_Model) (T := FF_Model) (N := 30) hx hb htb hi_Model hown hK hP 0 rfl rfl 7 (by decide) hf_27 (fun _ h9 => h9) rfl dd_Model_makeRows_209 ?_
                            refine lv_iconst (v := 4) hx hb dd_Model_makeRows_212 (by decide) ?_
                            refine lv_iload_n hx hb dd_Model_makeRows_213 rfl (lv_at hl 2 rfl) ?_
                            refine lv_imul hx hb dd_Model_makeRows_214 ?_
                            refine mm_topi (y := nI (4 * i0)) (pk_mul 4 i0) ?_
                            refine lv_aload_n hx hb dd_Model_makeRows_215 rfl (lv_at hl 0 rfl) ?_
                            refine va_get (D := D) (ci := 7) (v := .ref mr) (C := RR_Model) (T := FF_Model) (N := 30) hx hb htb hi_Model hown hK hP 0 rfl rfl 16 (by decide) hf_40 (fun _ h9 => h9) rfl dd_Model_makeRows_216 ?_
                            refine lv_iload hx hb dd_Model_makeRows_219 (lv_at hl 4 rfl) ?_
                            have hrr := hre c0 (by omega)
                            refine mm_iald hx hb hK hP 2 0 rfl rfl (c0) (rfl) (by omega) (by first | decide | omega) dd_Model_makeRows_221 ?_
                            refine mm_topi (y := nI (re c0)) (hrr.1) ?_
                            refine lv_iadd hx hb dd_Model_makeRows_222 ?_
                            refine mm_topi (y := nI ((4 * i0) + (re c0))) (nI_add (4 * i0) (re c0)) ?_
                            refine mm_iald hx hb hK hP 6 0 rfl rfl ((4 * i0) + (re c0)) (rfl) (by omega) (by first | decide | omega) dd_Model_makeRows_223 ?_
                            refine lv_i2l (v := (wt ((4 * i0) + (re c0))).toInt64) hx hb dd_Model_makeRows_224 rfl ?_
                            refine lv_goto (tgt := 229) hx hb dd_Model_makeRows_225 (by decide) ?_
                            refine mm_topl (y := mk_R lo hi wt bd fx re rs n (5 * rc9 + c0)) (by first | exact mk_w hi0.2 (by omega) h205 | exact mk_n (by omega) (by omega) h205) ?_
                            refine mm_last hx hb hK hP hD hS 1 2 rfl rfl ((5 * rc9) + c0) (rfl) (by omega) (by first | decide | omega) dd_Model_makeRows_229 (fun H locs hP hD hS => ?_)
                            have hP : va_P D kc_all [(o, .inr (7, [.int thr, .int (nI n), .ref ml, .ref mm, .ref mw, .ref mc, .int (nI k), .ref mg, .ref md, .int so, .int fo, .ref mb, .long bb, .long bc, .ref mt, .long be, .ref mr, .int (nI rs), .ref mo, .int (nI rc9), .ref mx, .ref mp, .ref nk, .ref na, .ref nv, .ref nf, .ref ns, .ref ne, .ref nw, .ref mf])), (mo, .inl (cL, 70, .inr (.inl (vp_updL R6 ((5 * rc9) + c0) (mk_R lo hi wt bd fx re rs n (5 * rc9 + c0)))))), (mr, .inl (cI, 4, .inl rsv)), (mf, .inl (cL, 4, .inr (.inl fx))), (ml, .inl (cI, 4, .inl lo)), (mm, .inl (cI, 4, .inl hi)), (mg, .inl (cI, 24, .inl wt)), (md, .inl (cI, 6, .inl bd))] H := hP
                            have hD : va_D A [(o, .inr (7, [.int thr, .int (nI n), .ref ml, .ref mm, .ref mw, .ref mc, .int (nI k), .ref mg, .ref md, .int so, .int fo, .ref mb, .long bb, .long bc, .ref mt, .long be, .ref mr, .int (nI rs), .ref mo, .int (nI rc9), .ref mx, .ref mp, .ref nk, .ref na, .ref nv, .ref nf, .ref ns, .ref ne, .ref nw, .ref mf])), (mo, .inl (cL, 70, .inr (.inl (vp_updL R6 ((5 * rc9) + c0) (mk_R lo hi wt bd fx re rs n (5 * rc9 + c0)))))), (mr, .inl (cI, 4, .inl rsv)), (mf, .inl (cL, 4, .inr (.inl fx))), (ml, .inl (cI, 4, .inl lo)), (mm, .inl (cI, 4, .inl hi)), (mg, .inl (cI, 24, .inl wt)), (md, .inl (cI, 6, .inl bd))] := hD
                            refine lv_iinc (k := 4) (v := nI (c0 + 1)) (lv' := [(5, .int (nI (c0 + 1))), (0, .ref o), (1, .ref mf), (2, .int (nI i0)), (3, .long (lf_f wt bd fx i0 n))]) hx hb dd_Model_makeRows_230 hl rfl (nI_1 _) (by decide) rfl (fun ls hl => ?_)
                            refine lv_goto (tgt := 180) hx hb dd_Model_makeRows_233 (by decide) ?_
                            exact IH180 (c0 + 1) (vp_updL R6 ((5 * rc9) + c0) (mk_R lo hi wt bd fx re rs n (5 * rc9 + c0))) (by omega) (by omega) (pf_s hy) ls H locs (lv_sub hl [1, 2, 3, 4, 0] rfl) hP hD hS
                    rw [show j = n by omega] at hl
                    exact J180 _ 0 R5 (Nat.lt_succ_self _) (by omega) (hx2) ls H locs (lv_sub hl [1, 2, 3, 4, 0] rfl) hP hD hS
                  · skip
                    have h148 : ¬ (n ≤ j) := fun q9 => h148 ((nI_leI (a := n) (b := j) (by omega) (by omega)).mpr q9)
                    refine lv_lload_n hx hb dd_Model_makeRows_151 rfl (lv_at hl 3 rfl) ?_
                    refine lv_aload_n hx hb dd_Model_makeRows_152 rfl (lv_at hl 0 rfl) ?_
                    refine va_get (D := D) (ci := 7) (v := .ref mg) (C := RR_Model) (T := FF_Model) (N := 30) hx hb htb hi_Model hown hK hP 0 rfl rfl 7 (by decide) hf_27 (fun _ h9 => h9) rfl dd_Model_makeRows_153 ?_
                    refine lv_iconst (v := 4) hx hb dd_Model_makeRows_156 (by decide) ?_
                    refine lv_iload_n hx hb dd_Model_makeRows_157 rfl (lv_at hl 2 rfl) ?_
                    refine lv_imul hx hb dd_Model_makeRows_158 ?_
                    refine mm_topi (y := nI (4 * i0)) (pk_mul 4 i0) ?_
                    refine lv_iload hx hb dd_Model_makeRows_159 (lv_at hl 4 rfl) ?_
                    refine lv_iadd hx hb dd_Model_makeRows_161 ?_
                    refine mm_topi (y := nI ((4 * i0) + j)) (nI_add (4 * i0) j) ?_
                    refine mm_iald hx hb hK hP 6 0 rfl rfl ((4 * i0) + j) (rfl) (by omega) (by first | decide | omega) dd_Model_makeRows_162 ?_
                    refine lv_i2l (v := (wt ((4 * i0) + j)).toInt64) hx hb dd_Model_makeRows_163 rfl ?_
                    refine lv_aload_n hx hb dd_Model_makeRows_164 rfl (lv_at hl 1 rfl) ?_
                    refine lv_iload hx hb dd_Model_makeRows_165 (lv_at hl 4 rfl) ?_
                    refine mm_lald hx hb hK hP 3 2 rfl rfl (j) (rfl) (by omega) (by first | decide | omega) dd_Model_makeRows_167 ?_
                    refine lv_lmul hx hb dd_Model_makeRows_168 ?_
                    refine lv_lsub hx hb dd_Model_makeRows_169 ?_
                    refine lv_lstore_n (lv' := [(3, .long ((lf_f wt bd fx i0 j) - (((wt ((4 * i0) + j)).toInt64) * (fx j)))), (0, .ref o), (1, .ref mf), (2, .int (nI i0)), (5, .int (nI j))]) hx hb dd_Model_makeRows_170 rfl hl (by decide) rfl (fun ls hl => ?_)
                    refine lv_iinc (k := 4) (v := nI (j + 1)) (lv' := [(5, .int (nI (j + 1))), (3, .long ((lf_f wt bd fx i0 j) - (((wt ((4 * i0) + j)).toInt64) * (fx j)))), (0, .ref o), (1, .ref mf), (2, .int (nI i0))]) hx hb dd_Model_makeRows_171 hl rfl (nI_1 _) (by decide) rfl (fun ls hl => ?_)
                    refine lv_goto (tgt := 142) hx hb dd_Model_makeRows_174 (by decide) ?_
                    exact IH142 (j + 1) (by omega) (by omega) ls H locs (lv_sub hl [2, 3, 4, 1, 0] rfl) hP hD hS
              exact J142 _ 0 (Nat.lt_succ_self _) (by omega) ls H locs (lv_sub hl [2, 3, 4, 1, 0] rfl) hP hD hS
        exact J123 _ 0 t0 R2 (Nat.lt_succ_self _) (by omega) (hv) ls H locs (lv_sub hl [1, 2, 0] rfl) hP hD hS
      · skip
        have h14 : ¬ (2 * rs ≤ t0) := fun q9 => h14 ((nI_leI (a := 2 * rs) (b := t0) (by omega) (by omega)).mpr q9)
        refine lv_iconst (v := 0) hx hb dd_Model_makeRows_17 (by decide) ?_
        refine lv_istore_n (lv' := [(3, .int (0 : Int32)), (0, .ref o), (1, .ref mf), (2, .int (nI t0))]) hx hb dd_Model_makeRows_18 rfl hl (by decide) rfl (fun ls hl => ?_)
        have J19 : ∀ (N : Nat) (c0 : Nat) (R3 : Nat → Int64), (4 - c0) < N → ∀ (hc0 : c0 ≤ 4) (hw : pf_ok R3 (mk_R lo hi wt bd fx re rs n) (5 * t0 + c0)), ∀ (ls : Array Slot) (H : Heap) (locs : List Loc), lv_has ls 6 [(0, .ref o), (1, .ref mf), (2, .int (nI t0)), (3, .int (nI c0))] → va_P D kc_all [(o, .inr (7, [.int thr, .int (nI n), .ref ml, .ref mm, .ref mw, .ref mc, .int (nI k), .ref mg, .ref md, .int so, .int fo, .ref mb, .long bb, .long bc, .ref mt, .long be, .ref mr, .int (nI rs), .ref mo, .int (nI t0), .ref mx, .ref mp, .ref nk, .ref na, .ref nv, .ref nf, .ref ns, .ref ne, .ref nw, .ref mf])), (mo, .inl (cL, 70, .inr (.inl R3))), (mr, .inl (cI, 4, .inl rsv)), (mf, .inl (cL, 4, .inr (.inl fx))), (ml, .inl (cI, 4, .inl lo)), (mm, .inl (cI, 4, .inl hi)), (mg, .inl (cI, 24, .inl wt)), (md, .inl (cI, 6, .inl bd))] H → va_D A [(o, .inr (7, [.int thr, .int (nI n), .ref ml, .ref mm, .ref mw, .ref mc, .int (nI k), .ref mg, .ref md, .int so, .int fo, .ref mb, .long bb, .long bc, .ref mt, .long be, .ref mr, .int (nI rs), .ref mo, .int (nI t0), .ref mx, .ref mp, .ref nk, .ref na, .ref nv, .ref nf, .ref ns, .ref ne, .ref nw, .ref mf])), (mo, .inl (cL, 70, .inr (.inl R3))), (mr, .inl (cI, 4, .inl rsv)), (mf, .inl (cL, 4, .inr (.inl fx))), (ml, .inl (cI, 4, .inl lo)), (mm, .inl (cI, 4, .inl hi)), (mg, .inl (cI, 24, .inl wt)), (md, .inl (cI, 6, .inl bd))] → va_S A s.heap H locs → W p l e (headSpec ww_Model_makeRows ({ frames := 0, cells := 0, slots := 0, locals := 0 } : Room)).room s m ([.ref o, .ref mf]).toArray below meth c H locs 0 0 (MQ below (qq_Model_makeRows D cI cZ cL cQ o ml mm mw mc mg md mb mt mr mo mx mp nk na nv nf ns ne nw mf thr n k so fo bb bc be rs rc R rsv fx lo hi wt bd re A) ([.ref o, .ref mf]).toArray s 0 0 A) (F0 m 19 ls []) := by
          intro N
          induction N with
          | zero => intro c0 R3 hN9; exact absurd hN9 (Nat.not_lt_zero _)
          | succ N IH19 =>
            intro c0 R3 hN9 hc0 hw ls H locs hl hP hD hS
            refine lv_iload_n hx hb dd_Model_makeRows_19 rfl (lv_at hl 3 rfl) ?_
            refine lv_iconst (v := 4) hx hb dd_Model_makeRows_20 (by decide) ?_
            refine lv_icmp_ge (tgt := 55) hx hb dd_Model_makeRows_21 (by decide) (fun h21 => ?_) (fun h21 => ?_)
            · skip
              have h21 : 4 ≤ c0 := (nI_leI (a := 4) (b := c0) (by omega) (by omega)).mp h21
              have hw4 : pf_ok R3 (mk_R lo hi wt bd fx re rs n) (5 * t0 + 4) := by rw [show 4 = c0 by omega]; exact hw
              refine lv_aload_n hx hb dd_Model_makeRows_55 rfl (lv_at hl 0 rfl) ?_
              refine va_get (D := D) (ci := 7) (v := .ref mo) (C := RR_Model) (T := FF_Model) (N := 30) hx hb htb hi_Model hown hK hP 0 rfl rfl 18 (by decide) hf_43 (fun _ h9 => h9) rfl dd_Model_makeRows_56 ?_
              refine lv_iconst (v := 5) hx hb dd_Model_makeRows_59 (by decide) ?_
              refine lv_aload_n hx hb dd_Model_makeRows_60 rfl (lv_at hl 0 rfl) ?_
              refine va_get (D := D) (ci := 7) (v := .int (nI t0)) (C := RR_Model) (T := FF_Model) (N := 30) hx hb htb hi_Model hown hK hP 0 rfl rfl 19 (by decide) hf_127 (fun _ h9 => h9) rfl dd_Model_makeRows_61 ?_
              refine lv_imul hx hb dd_Model_makeRows_64 ?_
              refine mm_topi (y := nI (5 * t0)) (pk_mul 5 t0) ?_
              refine lv_iconst (v := 4) hx hb dd_Model_makeRows_65 (by decide) ?_
              refine lv_iadd hx hb dd_Model_makeRows_66 ?_
              refine mm_topi (y := nI ((5 * t0) + 4)) (nI_add (5 * t0) 4) ?_
              refine lv_iload_n hx hb dd_Model_makeRows_67 rfl (lv_at hl 2 rfl) ?_
              refine lv_iconst (v := 2) hx hb dd_Model_makeRows_68 (by decide) ?_
              refine lv_irem hx hb dd_Model_makeRows_69 (by decide) ?_
              refine mm_topi (y := nI (t0 % 2)) (pk_rem (a := t0) (d := 2) (by omega) (by decide) (by decide)) ?_
              refine lv_if_ne (tgt := 90) hx hb dd_Model_makeRows_70 (by decide) (fun h70 => ?_) (fun h70 => ?_)
              · skip
                have h70 : ¬ (t0 % 2 = 0) := fun q9 => h70 ((nI_eq (a := t0 % 2) (b := 0) (by omega) (by omega)).mpr q9)
                refine lv_aload_n hx hb dd_Model_makeRows_90 rfl (lv_at hl 0 rfl) ?_
                refine va_get (D := D) (ci := 7) (v := .ref mm) (C := RR_Model) (T := FF_Model) (N := 30) hx hb htb hi_Model hown hK hP 0 rfl rfl 3 (by decide) hf_17 (fun _ h9 => h9) rfl dd_Model_makeRows_91 ?_
                refine lv_aload_n hx hb dd_Model_makeRows_94 rfl (lv_at hl 0 rfl) ?_
                refine va_get (D := D) (ci := 7) (v := .ref mr) (C := RR_Model) (T := FF_Model) (N := 30) hx hb htb hi_Model hown hK hP 0 rfl rfl 16 (by decide) hf_40 (fun _ h9 => h9) rfl dd_Model_makeRows_95 ?_
                refine lv_iload_n hx hb dd_Model_makeRows_98 rfl (lv_at hl 2 rfl) ?_
                refine lv_iconst (v := 2) hx hb dd_Model_makeRows_99 (by decide) ?_
                refine lv_idiv hx hb dd_Model_makeRows_100 (by decide) ?_
                refine mm_topi (y := nI (t0 / 2)) (pk_div (a := t0) (d := 2) (by omega) (by decide) (by decide)) ?_
                have hrr := hre (t0 / 2) (by omega)
                refine mm_iald hx hb hK hP 2 0 rfl rfl (t0 / 2) (rfl) (by omega) (by first | decide | omega) dd_Model_makeRows_101 ?_
                refine mm_topi (y := nI (re (t0 / 2))) (hrr.1) ?_
                refine mm_iald hx hb hK hP 5 0 rfl rfl (re (t0 / 2)) (rfl) (by omega) (by first | decide | omega) dd_Model_makeRows_102 ?_
                refine lv_i2l (v := (hi (re (t0 / 2))).toInt64) hx hb dd_Model_makeRows_103 rfl ?_
                refine mm_topl (y := mk_R lo hi wt bd fx re rs n (5 * t0 + 4)) (by first | exact mk_l (by omega) h70 | exact mk_h (by omega) h70) ?_
                refine mm_last hx hb hK hP hD hS 1 2 rfl rfl ((5 * t0) + 4) (rfl) (by omega) (by first | decide | omega) dd_Model_makeRows_104 (fun H locs hP hD hS => ?_)
                have hP : va_P D kc_all [(o, .inr (7, [.int thr, .int (nI n), .ref ml, .ref mm, .ref mw, .ref mc, .int (nI k), .ref mg, .ref md, .int so, .int fo, .ref mb, .long bb, .long bc, .ref mt, .long be, .ref mr, .int (nI rs), .ref mo, .int (nI t0), .ref mx, .ref mp, .ref nk, .ref na, .ref nv, .ref nf, .ref ns, .ref ne, .ref nw, .ref mf])), (mo, .inl (cL, 70, .inr (.inl (vp_updL R3 ((5 * t0) + 4) (mk_R lo hi wt bd fx re rs n (5 * t0 + 4)))))), (mr, .inl (cI, 4, .inl rsv)), (mf, .inl (cL, 4, .inr (.inl fx))), (ml, .inl (cI, 4, .inl lo)), (mm, .inl (cI, 4, .inl hi)), (mg, .inl (cI, 24, .inl wt)), (md, .inl (cI, 6, .inl bd))] H := hP
                have hD : va_D A [(o, .inr (7, [.int thr, .int (nI n), .ref ml, .ref mm, .ref mw, .ref mc, .int (nI k), .ref mg, .ref md, .int so, .int fo, .ref mb, .long bb, .long bc, .ref mt, .long be, .ref mr, .int (nI rs), .ref mo, .int (nI t0), .ref mx, .ref mp, .ref nk, .ref na, .ref nv, .ref nf, .ref ns, .ref ne, .ref nw, .ref mf])), (mo, .inl (cL, 70, .inr (.inl (vp_updL R3 ((5 * t0) + 4) (mk_R lo hi wt bd fx re rs n (5 * t0 + 4)))))), (mr, .inl (cI, 4, .inl rsv)), (mf, .inl (cL, 4, .inr (.inl fx))), (ml, .inl (cI, 4, .inl lo)), (mm, .inl (cI, 4, .inl hi)), (mg, .inl (cI, 24, .inl wt)), (md, .inl (cI, 6, .inl bd))] := hD
                refine lv_aload_n hx hb dd_Model_makeRows_105 rfl (lv_at hl 0 rfl) ?_
                refine lv_dup hx hb dd_Model_makeRows_106 rfl ?_
                refine va_get (D := D) (ci := 7) (v := .int (nI t0)) (C := RR_Model) (T := FF_Model) (N := 30) hx hb htb hi_Model hown hK hP 0 rfl rfl 19 (by decide) hf_127 (fun _ h9 => h9) rfl dd_Model_makeRows_107 ?_
                refine lv_iconst (v := 1) hx hb dd_Model_makeRows_110 (by decide) ?_
                refine lv_iadd hx hb dd_Model_makeRows_111 ?_
                refine mm_topi (y := nI (t0 + 1)) (nI_add t0 1) ?_
                refine va_put (D := D) (ci := 7) (v := .int (nI (t0 + 1))) (ty := .int) (C := RR_Model) (T := FF_Model) (N := 30) hx hb htb hi_Model tt_Model tt_Model_ok nn_Model hown hK hP hD hS 0 rfl rfl 19 (by decide) hf_127 (fun _ h9 => h9) rfl (by decide +kernel) (rfl) (rfl) (Nat.le_of_ble_eq_true rfl) dd_Model_makeRows_112 (fun H locs hP hD hS => ?_)
                have hP : va_P D kc_all [(o, .inr (7, [.int thr, .int (nI n), .ref ml, .ref mm, .ref mw, .ref mc, .int (nI k), .ref mg, .ref md, .int so, .int fo, .ref mb, .long bb, .long bc, .ref mt, .long be, .ref mr, .int (nI rs), .ref mo, .int (nI (t0 + 1)), .ref mx, .ref mp, .ref nk, .ref na, .ref nv, .ref nf, .ref ns, .ref ne, .ref nw, .ref mf])), (mo, .inl (cL, 70, .inr (.inl (vp_updL R3 ((5 * t0) + 4) (mk_R lo hi wt bd fx re rs n (5 * t0 + 4)))))), (mr, .inl (cI, 4, .inl rsv)), (mf, .inl (cL, 4, .inr (.inl fx))), (ml, .inl (cI, 4, .inl lo)), (mm, .inl (cI, 4, .inl hi)), (mg, .inl (cI, 24, .inl wt)), (md, .inl (cI, 6, .inl bd))] H := hP
                have hD : va_D A [(o, .inr (7, [.int thr, .int (nI n), .ref ml, .ref mm, .ref mw, .ref mc, .int (nI k), .ref mg, .ref md, .int so, .int fo, .ref mb, .long bb, .long bc, .ref mt, .long be, .ref mr, .int (nI rs), .ref mo, .int (nI (t0 + 1)), .ref mx, .ref mp, .ref nk, .ref na, .ref nv, .ref nf, .ref ns, .ref ne, .ref nw, .ref mf])), (mo, .inl (cL, 70, .inr (.inl (vp_updL R3 ((5 * t0) + 4) (mk_R lo hi wt bd fx re rs n (5 * t0 + 4)))))), (mr, .inl (cI, 4, .inl rsv)), (mf, .inl (cL, 4, .inr (.inl fx))), (ml, .inl (cI, 4, .inl lo)), (mm, .inl (cI, 4, .inl hi)), (mg, .inl (cI, 24, .inl wt)), (md, .inl (cI, 6, .inl bd))] := hD
                refine lv_iinc (k := 2) (v := nI (t0 + 1)) (lv' := [(2, .int (nI (t0 + 1))), (0, .ref o), (1, .ref mf), (3, .int (nI c0))]) hx hb dd_Model_makeRows_115 hl rfl (nI_1 _) (by decide) rfl (fun ls hl => ?_)
                refine lv_goto (tgt := 7) hx hb dd_Model_makeRows_118 (by decide) ?_
                exact IH7 (t0 + 1) (vp_updL R3 ((5 * t0) + 4) (mk_R lo hi wt bd fx re rs n (5 * t0 + 4))) (by omega) (by omega) (pf_s hw4) ls H locs (lv_sub hl [1, 2, 0] rfl) hP hD hS
              · skip
                have h70 : t0 % 2 = 0 := (nI_eq (a := t0 % 2) (b := 0) (by omega) (by omega)).mp h70
                refine lv_aload_n hx hb dd_Model_makeRows_73 rfl (lv_at hl 0 rfl) ?_
                refine va_get (D := D) (ci := 7) (v := .ref ml) (C := RR_Model) (T := FF_Model) (N := 30) hx hb htb hi_Model hown hK hP 0 rfl rfl 2 (by decide) hf_13 (fun _ h9 => h9) rfl dd_Model_makeRows_74 ?_
                refine lv_aload_n hx hb dd_Model_makeRows_77 rfl (lv_at hl 0 rfl) ?_
                refine va_get (D := D) (ci := 7) (v := .ref mr) (C := RR_Model) (T := FF_Model) (N := 30) hx hb htb hi_Model hown hK hP 0 rfl rfl 16 (by decide) hf_40 (fun _ h9 => h9) rfl dd_Model_makeRows_78 ?_
                refine lv_iload_n hx hb dd_Model_makeRows_81 rfl (lv_at hl 2 rfl) ?_
                refine lv_iconst (v := 2) hx hb dd_Model_makeRows_82 (by decide) ?_
                refine lv_idiv hx hb dd_Model_makeRows_83 (by decide) ?_
                refine mm_topi (y := nI (t0 / 2)) (pk_div (a := t0) (d := 2) (by omega) (by decide) (by decide)) ?_
                have hrr := hre (t0 / 2) (by omega)
                refine mm_iald hx hb hK hP 2 0 rfl rfl (t0 / 2) (rfl) (by omega) (by first | decide | omega) dd_Model_makeRows_84 ?_
                refine mm_topi (y := nI (re (t0 / 2))) (hrr.1) ?_
                refine mm_iald hx hb hK hP 4 0 rfl rfl (re (t0 / 2)) (rfl) (by omega) (by first | decide | omega) dd_Model_makeRows_85 ?_
                refine lv_i2l (v := (lo (re (t0 / 2))).toInt64) hx hb dd_Model_makeRows_86 rfl ?_
                refine lv_goto (tgt := 104) hx hb dd_Model_makeRows_87 (by decide) ?_
                refine mm_topl (y := mk_R lo hi wt bd fx re rs n (5 * t0 + 4)) (by first | exact mk_l (by omega) h70 | exact mk_h (by omega) h70) ?_
                refine mm_last hx hb hK hP hD hS 1 2 rfl rfl ((5 * t0) + 4) (rfl) (by omega) (by first | decide | omega) dd_Model_makeRows_104 (fun H locs hP hD hS => ?_)
                have hP : va_P D kc_all [(o, .inr (7, [.int thr, .int (nI n), .ref ml, .ref mm, .ref mw, .ref mc, .int (nI k), .ref mg, .ref md, .int so, .int fo, .ref mb, .long bb, .long bc, .ref mt, .long be, .ref mr, .int (nI rs), .ref mo, .int (nI t0), .ref mx, .ref mp, .ref nk, .ref na, .ref nv, .ref nf, .ref ns, .ref ne, .ref nw, .ref mf])), (mo, .inl (cL, 70, .inr (.inl (vp_updL R3 ((5 * t0) + 4) (mk_R lo hi wt bd fx re rs n (5 * t0 + 4)))))), (mr, .inl (cI, 4, .inl rsv)), (mf, .inl (cL, 4, .inr (.inl fx))), (ml, .inl (cI, 4, .inl lo)), (mm, .inl (cI, 4, .inl hi)), (mg, .inl (cI, 24, .inl wt)), (md, .inl (cI, 6, .inl bd))] H := hP
                have hD : va_D A [(o, .inr (7, [.int thr, .int (nI n), .ref ml, .ref mm, .ref mw, .ref mc, .int (nI k), .ref mg, .ref md, .int so, .int fo, .ref mb, .long bb, .long bc, .ref mt, .long be, .ref mr, .int (nI rs), .ref mo, .int (nI t0), .ref mx, .ref mp, .ref nk, .ref na, .ref nv, .ref nf, .ref ns, .ref ne, .ref nw, .ref mf])), (mo, .inl (cL, 70, .inr (.inl (vp_updL R3 ((5 * t0) + 4) (mk_R lo hi wt bd fx re rs n (5 * t0 + 4)))))), (mr, .inl (cI, 4, .inl rsv)), (mf, .inl (cL, 4, .inr (.inl fx))), (ml, .inl (cI, 4, .inl lo)), (mm, .inl (cI, 4, .inl hi)), (mg, .inl (cI, 24, .inl wt)), (md, .inl (cI, 6, .inl bd))] := hD
                refine lv_aload_n hx hb dd_Model_makeRows_105 rfl (lv_at hl 0 rfl) ?_
                refine lv_dup hx hb dd_Model_makeRows_106 rfl ?_
                refine va_get (D := D) (ci := 7) (v := .int (nI t0)) (C := RR_Model) (T := FF_Model) (N := 30) hx hb htb hi_Model hown hK hP 0 rfl rfl 19 (by decide) hf_127 (fun _ h9 => h9) rfl dd_Model_makeRows_107 ?_
                refine lv_iconst (v := 1) hx hb dd_Model_makeRows_110 (by decide) ?_
                refine lv_iadd hx hb dd_Model_makeRows_111 ?_
                refine mm_topi (y := nI (t0 + 1)) (nI_add t0 1) ?_
                refine va_put (D := D) (ci := 7) (v := .int (nI (t0 + 1))) (ty := .int) (C := RR_Model) (T := FF_Model) (N := 30) hx hb htb hi_Model tt_Model tt_Model_ok nn_Model hown hK hP hD hS 0 rfl rfl 19 (by decide) hf_127 (fun _ h9 => h9) rfl (by decide +kernel) (rfl) (rfl) (Nat.le_of_ble_eq_true rfl) dd_Model_makeRows_112 (fun H locs hP hD hS => ?_)
                have hP : va_P D kc_all [(o, .inr (7, [.int thr, .int (nI n), .ref ml, .ref mm, .ref mw, .ref mc, .int (nI k), .ref mg, .ref md, .int so, .int fo, .ref mb, .long bb, .long bc, .ref mt, .long be, .ref mr, .int (nI rs), .ref mo, .int (nI (t0 + 1)), .ref mx, .ref mp, .ref nk, .ref na, .ref nv, .ref nf, .ref ns, .ref ne, .ref nw, .ref mf])), (mo, .inl (cL, 70, .inr (.inl (vp_updL R3 ((5 * t0) + 4) (mk_R lo hi wt bd fx re rs n (5 * t0 + 4)))))), (mr, .inl (cI, 4, .inl rsv)), (mf, .inl (cL, 4, .inr (.inl fx))), (ml, .inl (cI, 4, .inl lo)), (mm, .inl (cI, 4, .inl hi)), (mg, .inl (cI, 24, .inl wt)), (md, .inl (cI, 6, .inl bd))] H := hP
                have hD : va_D A [(o, .inr (7, [.int thr, .int (nI n), .ref ml, .ref mm, .ref mw, .ref mc, .int (nI k), .ref mg, .ref md, .int so, .int fo, .ref mb, .long bb, .long bc, .ref mt, .long be, .ref mr, .int (nI rs), .ref mo, .int (nI (t0 + 1)), .ref mx, .ref mp, .ref nk, .ref na, .ref nv, .ref nf, .ref ns, .ref ne, .ref nw, .ref mf])), (mo, .inl (cL, 70, .inr (.inl (vp_updL R3 ((5 * t0) + 4) (mk_R lo hi wt bd fx re rs n (5 * t0 + 4)))))), (mr, .inl (cI, 4, .inl rsv)), (mf, .inl (cL, 4, .inr (.inl fx))), (ml, .inl (cI, 4, .inl lo)), (mm, .inl (cI, 4, .inl hi)), (mg, .inl (cI, 24, .inl wt)), (md, .inl (cI, 6, .inl bd))] := hD
                refine lv_iinc (k := 2) (v := nI (t0 + 1)) (lv' := [(2, .int (nI (t0 + 1))), (0, .ref o), (1, .ref mf), (3, .int (nI c0))]) hx hb dd_Model_makeRows_115 hl rfl (nI_1 _) (by decide) rfl (fun ls hl => ?_)
                refine lv_goto (tgt := 7) hx hb dd_Model_makeRows_118 (by decide) ?_
                exact IH7 (t0 + 1) (vp_updL R3 ((5 * t0) + 4) (mk_R lo hi wt bd fx re rs n (5 * t0 + 4))) (by omega) (by omega) (pf_s hw4) ls H locs (lv_sub hl [1, 2, 0] rfl) hP hD hS
            · skip
              have h21 : ¬ (4 ≤ c0) := fun q9 => h21 ((nI_leI (a := 4) (b := c0) (by omega) (by omega)).mpr q9)
              refine lv_aload_n hx hb dd_Model_makeRows_24 rfl (lv_at hl 0 rfl) ?_
              refine va_get (D := D) (ci := 7) (v := .ref mo) (C := RR_Model) (T := FF_Model) (N := 30) hx hb htb hi_Model hown hK hP 0 rfl rfl 18 (by decide) hf_43 (fun _ h9 => h9) rfl dd_Model_makeRows_25 ?_
              refine lv_iconst (v := 5) hx hb dd_Model_makeRows_28 (by decide) ?_
              refine lv_aload_n hx hb dd_Model_makeRows_29 rfl (lv_at hl 0 rfl) ?_
              refine va_get (D := D) (ci := 7) (v := .int (nI t0)) (C := RR_Model) (T := FF_Model) (N := 30) hx hb htb hi_Model hown hK hP 0 rfl rfl 19 (by decide) hf_127 (fun _ h9 => h9) rfl dd_Model_makeRows_30 ?_
              refine lv_imul hx hb dd_Model_makeRows_33 ?_
              refine mm_topi (y := nI (5 * t0)) (pk_mul 5 t0) ?_
              refine lv_iload_n hx hb dd_Model_makeRows_34 rfl (lv_at hl 3 rfl) ?_
              refine lv_iadd hx hb dd_Model_makeRows_35 ?_
              refine mm_topi (y := nI ((5 * t0) + c0)) (nI_add (5 * t0) c0) ?_
              refine lv_iload_n hx hb dd_Model_makeRows_36 rfl (lv_at hl 3 rfl) ?_
              refine lv_iload_n hx hb dd_Model_makeRows_37 rfl (lv_at hl 2 rfl) ?_
              refine lv_iconst (v := 2) hx hb dd_Model_makeRows_38 (by decide) ?_
              refine lv_idiv hx hb dd_Model_makeRows_39 (by decide) ?_
              refine mm_topi (y := nI (t0 / 2)) (pk_div (a := t0) (d := 2) (by omega) (by decide) (by decide)) ?_
              refine lv_icmp_ne (tgt := 47) hx hb dd_Model_makeRows_40 (by decide) (fun h40 => ?_) (fun h40 => ?_)
              · skip
                have h40 : ¬ (c0 = t0 / 2) := fun q9 => h40 ((nI_eq (a := c0) (b := t0 / 2) (by omega) (by omega)).mpr q9)
                refine lv_lconst (v := 0) hx hb dd_Model_makeRows_47 (by decide) ?_
                refine mm_topl (y := mk_R lo hi wt bd fx re rs n (5 * t0 + c0)) (by first | exact mk_1 (by omega) (by omega) h40 | exact mk_0 (by omega) (by omega) h40) ?_
                refine mm_last hx hb hK hP hD hS 1 2 rfl rfl ((5 * t0) + c0) (rfl) (by omega) (by first | decide | omega) dd_Model_makeRows_48 (fun H locs hP hD hS => ?_)
                have hP : va_P D kc_all [(o, .inr (7, [.int thr, .int (nI n), .ref ml, .ref mm, .ref mw, .ref mc, .int (nI k), .ref mg, .ref md, .int so, .int fo, .ref mb, .long bb, .long bc, .ref mt, .long be, .ref mr, .int (nI rs), .ref mo, .int (nI t0), .ref mx, .ref mp, .ref nk, .ref na, .ref nv, .ref nf, .ref ns, .ref ne, .ref nw, .ref mf])), (mo, .inl (cL, 70, .inr (.inl (vp_updL R3 ((5 * t0) + c0) (mk_R lo hi wt bd fx re rs n (5 * t0 + c0)))))), (mr, .inl (cI, 4, .inl rsv)), (mf, .inl (cL, 4, .inr (.inl fx))), (ml, .inl (cI, 4, .inl lo)), (mm, .inl (cI, 4, .inl hi)), (mg, .inl (cI, 24, .inl wt)), (md, .inl (cI, 6, .inl bd))] H := hP
                have hD : va_D A [(o, .inr (7, [.int thr, .int (nI n), .ref ml, .ref mm, .ref mw, .ref mc, .int (nI k), .ref mg, .ref md, .int so, .int fo, .ref mb, .long bb, .long bc, .ref mt, .long be, .ref mr, .int (nI rs), .ref mo, .int (nI t0), .ref mx, .ref mp, .ref nk, .ref na, .ref nv, .ref nf, .ref ns, .ref ne, .ref nw, .ref mf])), (mo, .inl (cL, 70, .inr (.inl (vp_updL R3 ((5 * t0) + c0) (mk_R lo hi wt bd fx re rs n (5 * t0 + c0)))))), (mr, .inl (cI, 4, .inl rsv)), (mf, .inl (cL, 4, .inr (.inl fx))), (ml, .inl (cI, 4, .inl lo)), (mm, .inl (cI, 4, .inl hi)), (mg, .inl (cI, 24, .inl wt)), (md, .inl (cI, 6, .inl bd))] := hD
                refine lv_iinc (k := 3) (v := nI (c0 + 1)) (lv' := [(3, .int (nI (c0 + 1))), (0, .ref o), (1, .ref mf), (2, .int (nI t0))]) hx hb dd_Model_makeRows_49 hl rfl (nI_1 _) (by decide) rfl (fun ls hl => ?_)
                refine lv_goto (tgt := 19) hx hb dd_Model_makeRows_52 (by decide) ?_
                exact IH19 (c0 + 1) (vp_updL R3 ((5 * t0) + c0) (mk_R lo hi wt bd fx re rs n (5 * t0 + c0))) (by omega) (by omega) (pf_s hw) ls H locs (lv_sub hl [1, 2, 3, 0] rfl) hP hD hS
              · skip
                have h40 : c0 = t0 / 2 := (nI_eq (a := c0) (b := t0 / 2) (by omega) (by omega)).mp h40
                refine lv_lconst (v := 1) hx hb dd_Model_makeRows_43 (by decide) ?_
                refine lv_goto (tgt := 48) hx hb dd_Model_makeRows_44 (by decide) ?_
                refine mm_topl (y := mk_R lo hi wt bd fx re rs n (5 * t0 + c0)) (by first | exact mk_1 (by omega) (by omega) h40 | exact mk_0 (by omega) (by omega) h40) ?_
                refine mm_last hx hb hK hP hD hS 1 2 rfl rfl ((5 * t0) + c0) (rfl) (by omega) (by first | decide | omega) dd_Model_makeRows_48 (fun H locs hP hD hS => ?_)
                have hP : va_P D kc_all [(o, .inr (7, [.int thr, .int (nI n), .ref ml, .ref mm, .ref mw, .ref mc, .int (nI k), .ref mg, .ref md, .int so, .int fo, .ref mb, .long bb, .long bc, .ref mt, .long be, .ref mr, .int (nI rs), .ref mo, .int (nI t0), .ref mx, .ref mp, .ref nk, .ref na, .ref nv, .ref nf, .ref ns, .ref ne, .ref nw, .ref mf])), (mo, .inl (cL, 70, .inr (.inl (vp_updL R3 ((5 * t0) + c0) (mk_R lo hi wt bd fx re rs n (5 * t0 + c0)))))), (mr, .inl (cI, 4, .inl rsv)), (mf, .inl (cL, 4, .inr (.inl fx))), (ml, .inl (cI, 4, .inl lo)), (mm, .inl (cI, 4, .inl hi)), (mg, .inl (cI, 24, .inl wt)), (md, .inl (cI, 6, .inl bd))] H := hP
                have hD : va_D A [(o, .inr (7, [.int thr, .int (nI n), .ref ml, .ref mm, .ref mw, .ref mc, .int (nI k), .ref mg, .ref md, .int so, .int fo, .ref mb, .long bb, .long bc, .ref mt, .long be, .ref mr, .int (nI rs), .ref mo, .int (nI t0), .ref mx, .ref mp, .ref nk, .ref na, .ref nv, .ref nf, .ref ns, .ref ne, .ref nw, .ref mf])), (mo, .inl (cL, 70, .inr (.inl (vp_updL R3 ((5 * t0) + c0) (mk_R lo hi wt bd fx re rs n (5 * t0 + c0)))))), (mr, .inl (cI, 4, .inl rsv)), (mf, .inl (cL, 4, .inr (.inl fx))), (ml, .inl (cI, 4, .inl lo)), (mm, .inl (cI, 4, .inl hi)), (mg, .inl (cI, 24, .inl wt)), (md, .inl (cI, 6, .inl bd))] := hD
                refine lv_iinc (k := 3) (v := nI (c0 + 1)) (lv' := [(3, .int (nI (c0 + 1))), (0, .ref o), (1, .ref mf), (2, .int (nI t0))]) hx hb dd_Model_makeRows_49 hl rfl (nI_1 _) (by decide) rfl (fun ls hl => ?_)
                refine lv_goto (tgt := 19) hx hb dd_Model_makeRows_52 (by decide) ?_
                exact IH19 (c0 + 1) (vp_updL R3 ((5 * t0) + c0) (mk_R lo hi wt bd fx re rs n (5 * t0 + c0))) (by omega) (by omega) (pf_s hw) ls H locs (lv_sub hl [1, 2, 3, 0] rfl) hP hD hS
        exact J19 _ 0 R2 (Nat.lt_succ_self _) (by omega) (hv) ls H locs (lv_sub hl [1, 2, 3, 0] rfl) hP hD hS
  exact J7 _ 0 R (Nat.lt_succ_self _) (by omega) (pf_z) ls H locs (lv_sub hl [1, 2, 0] rfl) hP hD hS
